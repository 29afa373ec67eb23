/-! the two readings agree: the proof -/
section ZSM
variable {b : Nat} {t : Nat → Nat}
theorem zsim_3 {f : Nat} (ih : zSim b t f) {a ns dg : Nat} {cs W : List Nat} {cm : Nat → Bool} {ok : Bool} {a2 : Nat} {cs2 : List Nat} (hab : a ≤ b) (h : zde b t (f + 1) 3 a ns cs = some (ok, a2, cs2)) : (ok = true → zGo2 b t (cs, W, cm, ns, dg, true) 3 a ns W cm a2 cs2) ∧ (ok = false → zSt2 b t (cs, W, cm, ns, dg, true) a a2) := by
  unfold zde at h
  rw [if_pos rfl] at h
  by_cases e1 : a < b ∧ t a = 45
  · rw [if_pos e1] at h
    have s1 : zrn t (cs, W, cm, ns, dg, true) a (a + 1 - a) = some (cs, 3000 :: W, cm, ns, 0, true) := by
      rw [show a + 1 - a = 1 by omega]
      refine zrn_1 ?_
      rw [e1.2]
      exact zstep_m
    cases hx : zde b t f 3 (a + 1) ns cs with
    | none => rw [hx] at h; cases h
    | some x =>
      rw [hx] at h
      obtain ⟨ok1, a1, c1⟩ := x
      have h : some (ok1, a1, 3000 :: c1) = some (ok, a2, cs2) := h
      cases h
      obtain ⟨g1, g2⟩ := ih.1 3 (a + 1) ns 0 cs (3000 :: W) cm ok a2 c1 (by decide) (by omega) (fun q => absurd q (by decide)) (fun q => absurd q (by decide)) hx
      refine ⟨fun hok => ?_, fun hok => zSt2_t (by omega) s1 (g2 hok)⟩
      obtain ⟨k1, k2, C2, W2, cm2, dg2, k3, k4, k5, k6, k7, k8⟩ := g1 hok
      refine ⟨by omega, k2, C2, W2 ++ [3000], cm2, dg2, ?_, ?_, ?_, k6, k7, k8⟩
      · rw [List.append_assoc]
        exact zrn_t (by omega) k1 s1 k3
      · rw [k4, List.reverse_append]
        rfl
      · intro o ho
        rcases List.mem_append.mp ho with q | q
        · exact k5 o q
        · rw [List.mem_singleton.mp q]; decide
  · rw [if_neg e1] at h
    by_cases e2 : a < b ∧ zdi (t a) = true
    · rw [if_pos e2] at h
      cases h
      exact ⟨fun _ => znum_run e2.1 e2.2, fun q => absurd q (by decide)⟩
    · rw [if_neg e2] at h
      by_cases e3 : a < b ∧ zlt (t a) < 8
      · rw [if_pos e3] at h
        cases h
        refine ⟨fun _ => ⟨by omega, by omega, _, [], cm, 0, by rw [show a + 1 - a = 1 by omega]; exact zrn_1 (zstep_l e3.2), rfl, fun o q => absurd q List.not_mem_nil, fun _ _ => rfl, fun _ => rfl, fun _ => ⟨fun _ => Or.inl rfl, fun q => Or.inl (zbd_op q).2⟩⟩, fun q => absurd q (by decide)⟩
      · rw [if_neg e3] at h
        by_cases e4 : ns < 4 ∧ a < b ∧ t a = 40
        · rw [if_pos e4] at h
          have s1 : zrn t (cs, W, cm, ns, dg, true) a (a + 1 - a) = some (cs, 0 :: W, zub cm (ns + 1) false, ns + 1, 0, true) := by
            rw [show a + 1 - a = 1 by omega]
            refine zrn_1 ?_
            rw [e4.2.2]
            exact zstep_b e4.1
          cases hx : zde b t f 0 (a + 1) (ns + 1) cs with
          | none => rw [hx] at h; cases h
          | some x =>
            rw [hx] at h
            obtain ⟨ok1, a1, c1⟩ := x
            obtain ⟨g1, g2⟩ := ih.1 0 (a + 1) (ns + 1) 0 cs (0 :: W) (zub cm (ns + 1) false) ok1 a1 c1 (by decide) (by omega) (fun _ o ho => by rw [← Option.some.inj ho]; decide) (fun _ => zub_e) hx
            have h : (if ok1 = true ∧ a1 < b ∧ t a1 = 41 then (true, a1 + 1, c1) else (false, a1, c1)) = (ok, a2, cs2) := Option.some.inj h
            by_cases e5 : ok1 = true ∧ a1 < b ∧ t a1 = 41
            · rw [if_pos e5] at h
              obtain ⟨rfl, rfl, rfl⟩ : ok = true ∧ a2 = a1 + 1 ∧ cs2 = c1 := by
                cases h
                exact ⟨rfl, rfl, rfl⟩
              refine ⟨fun _ => ?_, fun q => absurd q (by decide)⟩
              obtain ⟨k1, k2, C2, W2, cm2, dg2, k3, k4, k5, k6, k7, k8⟩ := g1 e5.1
              have er := zrl_all (b := 1) (W2 := W2) (W := 0 :: W) (C := C2) k5 (fun o ho => by rw [← Option.some.inj ho]; decide)
              have s2 : zstep (t a1) (C2, W2 ++ 0 :: W, cm2, ns + 1, dg2, false) = some (cs2, W, cm2, ns, 0, false) := by
                rw [e5.2.2, zstep_c (by omega), er, k4]
                rfl
              refine ⟨by omega, by omega, cs2, [], cm2, 0, ?_, rfl, fun o q => absurd q List.not_mem_nil, fun i hi => (k6 i (by omega)).trans (zub_n (by omega)), fun _ => (k6 ns (by omega)).trans (zub_n (by omega)), fun _ => ⟨fun _ => Or.inl rfl, fun q => Or.inl (zbd_op q).2⟩⟩
              refine zrn_t (b := a1) (by omega) (by omega) (zrn_t (by omega) k1 s1 k3) ?_
              rw [show a1 + 1 - a1 = 1 by omega]
              exact zrn_1 s2
            · rw [if_neg e5] at h
              obtain ⟨rfl, rfl, rfl⟩ : ok = false ∧ a2 = a1 ∧ cs2 = c1 := by
                cases h
                exact ⟨rfl, rfl, rfl⟩
              refine ⟨fun q => absurd q (by decide), fun _ => ?_⟩
              cases ok1 with
              | false => exact zSt2_t (by omega) s1 (g2 rfl)
              | true =>
                obtain ⟨k1, k2, C2, W2, cm2, dg2, k3, k4, k5, k6, k7, k8⟩ := g1 rfl
                refine ⟨by omega, k2, _, zrn_t (by omega) k1 s1 k3, fun hlt => ?_, fun _ => Or.inr (Nat.succ_pos ns)⟩
                obtain ⟨n1, n2⟩ := k8 hlt
                refine zstep_x n1 (fun q => absurd ⟨rfl, hlt, q⟩ e5) (fun q => ?_)
                have := zbd_op q
                rcases n2 q with r | r
                · omega
                · exact r
        · rw [if_neg e4] at h
          cases h
          refine ⟨fun q => absurd q (by decide), fun _ => ⟨Nat.le_refl _, hab, _, by rw [Nat.sub_self]; rfl, fun hlt => ?_, fun _ => Or.inl rfl⟩⟩
          exact zstep_n (fun q => e1 ⟨hlt, q⟩) (Bool.eq_false_iff.mpr fun q => e2 ⟨hlt, q⟩) (fun q => e3 ⟨hlt, q⟩) (fun q => e4 ⟨q.1, hlt, q.2⟩)
theorem zsim_r {f : Nat} (ih : zSim b t f) {r a ns dg : Nat} {cs W : List Nat} {cm : Nat → Bool} {ok : Bool} {a2 : Nat} {cs2 : List Nat} (hr : r < 3) (hab : a ≤ b) (hW : ∀ o, W.head? = some o → zbd o ≤ r) (hc : r = 0 → cm ns = false) (h : zde b t (f + 1) r a ns cs = some (ok, a2, cs2)) : (ok = true → zGo2 b t (cs, W, cm, ns, dg, true) r a ns W cm a2 cs2) ∧ (ok = false → zSt2 b t (cs, W, cm, ns, dg, true) a a2) := by
  unfold zde at h
  rw [if_neg (by omega), if_pos hr] at h
  cases hx : zde b t f (r + 1) a ns cs with
  | none => rw [hx] at h; cases h
  | some x =>
    rw [hx] at h
    obtain ⟨ok1, a1, c1⟩ := x
    obtain ⟨g1, g2⟩ := ih.1 (r + 1) a ns dg cs W cm ok1 a1 c1 (by omega) hab (fun _ o ho => Nat.le_succ_of_le (hW o ho)) (fun q => absurd q (by omega)) hx
    have h : (if ok1 = true then zde b t f (r + 4) a1 ns c1 else some (ok1, a1, c1)) = some (ok, a2, cs2) := h
    cases ok1 with
    | false =>
      cases h
      exact ⟨fun q => absurd q (by decide), fun _ => g2 rfl⟩
    | true =>
      obtain ⟨k1, k2, C2, W2, cm2, dg2, k3, k4, k5, k6, k7, k8⟩ := g1 rfl
      rw [if_pos rfl, k4] at h
      obtain ⟨l1, l2⟩ := ih.2 r a1 ns dg2 C2 W2 W cm2 ok a2 cs2 hr k2 hW (fun q => (k7 (by omega)).trans (hc q)) (fun o ho => Nat.le_of_succ_le (k5 o ho)) k8 h
      refine ⟨fun hok => ?_, fun hok => zSt2_t k1 k3 (l2 hok)⟩
      obtain ⟨m1, m2, C3, W3, cm3, dg3, m3, m4, m5, m6, m7, m8⟩ := l1 hok
      exact ⟨by omega, m2, C3, W3, cm3, dg3, zrn_t k1 m1 k3 m3, m4, m5, fun i hi => (m6 i hi).trans (k6 i hi), fun q => (m7 q).trans (k7 (by omega)), m8⟩
theorem zsim_l {f : Nat} (ih : zSim b t f) {r a ns dg : Nat} {C1 W1 W : List Nat} {cm : Nat → Bool} {ok : Bool} {a2 : Nat} {cs2 : List Nat} (hr : r < 3) (hab : a ≤ b) (hW : ∀ o, W.head? = some o → zbd o ≤ r) (hc : r = 0 → cm ns = false) (hW1 : ∀ o ∈ W1, r + 1 ≤ zbd o) (hn : zNx b t (r + 1) a dg (cm ns)) (h : zde b t (f + 1) (r + 4) a ns (W1.reverse ++ C1) = some (ok, a2, cs2)) : (ok = true → zGo2 b t (C1, W1 ++ W, cm, ns, dg, false) r a ns W cm a2 cs2) ∧ (ok = false → zSt2 b t (C1, W1 ++ W, cm, ns, dg, false) a a2) := by
  unfold zde at h
  rw [if_neg (by omega), if_neg (by omega), show r + 4 - 4 = r by omega, show r + 4 - 3 = r + 1 by omega] at h
  by_cases e1 : a < b ∧ zrk2 r (t a) = true
  · rw [if_pos e1] at h
    obtain ⟨o1, o2⟩ := of_decide_eq_true e1.2
    have er := zrl_all (b := r + 1) (W2 := W1) (W := W) (C := C1) hW1 (fun o ho => Nat.lt_succ_of_le (hW o ho))
    have s1 : zrn t (C1, W1 ++ W, cm, ns, dg, false) a (a + 1 - a) = some (W1.reverse ++ C1, zop (t a) :: W, (if zbd (zop (t a)) = 1 then zub cm ns true else cm), ns, 0, true) := by
      rw [show a + 1 - a = 1 by omega]
      refine zrn_1 ?_
      rw [zstep_o o1 (fun q => by
        have h0 : r = 0 := by omega
        rw [hc h0] at q
        exact absurd q.2 (by first | exact Nat.ne_of_beq_eq_false rfl | decide)), o2, er]
    generalize hcm : (if zbd (zop (t a)) = 1 then zub cm ns true else cm) = cm' at s1
    have hlo : ∀ i, i < ns → cm' i = cm i := fun i hi => by
      rw [← hcm]
      split
      · exact zub_n (by omega)
      · rfl
    have hr1 : 0 < r → cm' ns = cm ns := fun q => by
      rw [← hcm, if_neg (by omega)]
    have hr0 : r = 0 → cm' ns = true := fun q => by
      rw [← hcm, if_pos (by omega)]
      exact zub_e
    cases hx : zde b t f (r + 1) (a + 1) ns (W1.reverse ++ C1) with
    | none => rw [hx] at h; cases h
    | some x =>
      rw [hx] at h
      obtain ⟨ok1, a1, c1⟩ := x
      obtain ⟨g1, g2⟩ := ih.1 (r + 1) (a + 1) ns 0 (W1.reverse ++ C1) (zop (t a) :: W) cm' ok1 a1 c1 (by omega) (by omega) (fun _ o ho => by rw [← Option.some.inj ho, o2]; exact Nat.le_refl _) (fun q => absurd q (by omega)) hx
      have h : (if ok1 = true then (if r + 4 = 4 then some (true, a1, zop (t a) :: c1) else zde b t f (r + 4) a1 ns (zop (t a) :: c1)) else some (ok1, a1, c1)) = some (ok, a2, cs2) := h
      cases ok1 with
      | false =>
        cases h
        exact ⟨fun q => absurd q (by decide), fun _ => zSt2_t (by omega) s1 (g2 rfl)⟩
      | true =>
        rw [if_pos rfl] at h
        obtain ⟨k1, k2, C2, W2, cm2, dg2, k3, k4, k5, k6, k7, k8⟩ := g1 rfl
        have k3 := zrn_t (by omega) k1 s1 k3
        have ew : W2 ++ zop (t a) :: W = (W2 ++ [zop (t a)]) ++ W := by rw [List.append_assoc]; rfl
        have ec : zop (t a) :: c1 = (W2 ++ [zop (t a)]).reverse ++ C2 := by rw [k4, List.reverse_append]; rfl
        have hb : ∀ o ∈ W2 ++ [zop (t a)], r + 1 ≤ zbd o := fun o ho => by
          rcases List.mem_append.mp ho with q | q
          · exact Nat.le_of_succ_le (k5 o q)
          · rw [List.mem_singleton.mp q, o2]; exact Nat.le_refl _
        rw [ew] at k3
        by_cases e2 : r = 0
        · rw [if_pos (by omega)] at h
          cases h
          refine ⟨fun _ => ⟨by omega, k2, C2, _, cm2, dg2, k3, ec, hb, fun i hi => (k6 i hi).trans (hlo i hi), fun q => absurd q (by omega), fun hlt => ⟨(k8 hlt).1, fun q => Or.inr ?_⟩⟩, fun q => absurd q (by decide)⟩
          have h1 := zbd_op q
          have h2 : cm2 ns = true := (k7 (by omega)).trans (hr0 e2)
          rcases (k8 hlt).2 q with g | g
          · exact ⟨by omega, h2⟩
          · exact ⟨g.1, h2⟩
        · rw [if_neg (by omega), ec] at h
          obtain ⟨l1, l2⟩ := ih.2 r a1 ns dg2 C2 (W2 ++ [zop (t a)]) W cm2 ok a2 cs2 hr k2 hW (fun q => absurd q e2) hb k8 h
          refine ⟨fun hok => ?_, fun hok => zSt2_t (by omega) k3 (l2 hok)⟩
          obtain ⟨m1, m2, C3, W3, cm3, dg3, m3, m4, m5, m6, m7, m8⟩ := l1 hok
          exact ⟨by omega, m2, C3, W3, cm3, dg3, zrn_t (by omega) m1 k3 m3, m4, m5, fun i hi => (m6 i hi).trans ((k6 i hi).trans (hlo i hi)), fun q => (m7 q).trans ((k7 (by omega)).trans (hr1 q)), m8⟩
  · rw [if_neg e1] at h
    cases h
    refine ⟨fun _ => ⟨Nat.le_refl _, hab, C1, W1, cm, dg, by rw [Nat.sub_self]; rfl, rfl, hW1, fun _ _ => rfl, fun _ => rfl, fun hlt => ⟨(hn hlt).1, fun q => ?_⟩⟩, fun q => absurd q (by decide)⟩
    rcases (hn hlt).2 q with g | g
    · refine Or.inl ?_
      have : zbd (zop (t a)) ≠ r + 1 := fun g2 => e1 ⟨hlt, decide_eq_true ⟨q, g2⟩⟩
      omega
    · exact Or.inr g
theorem zsim : ∀ f, zSim b t f := by
  intro f
  induction f with
  | zero =>
    constructor
    · intros; rename_i h; cases h
    · intros; rename_i h; cases h
  | succ f ih =>
    refine ⟨fun r a ns dg cs W cm ok a2 cs2 h1 h2 h3 h4 h => ?_, fun r a ns dg C1 W1 W cm ok a2 cs2 h1 h2 h3 h4 h5 h6 h => zsim_l ih h1 h2 h3 h4 h5 h6 h⟩
    by_cases e : r = 3
    · subst e; exact zsim_3 ih h2 h
    · exact zsim_r ih (by omega) h2 (h3 (by omega)) h4 h
/-- more fuel, the same -/
theorem zde_s : ∀ {f m a ns : Nat} {cs : List Nat} {x : Bool × Nat × List Nat}, zde b t f m a ns cs = some x → zde b t (f + 1) m a ns cs = some x := by
  intro f
  induction f with
  | zero => intro m a ns cs x h; cases h
  | succ f ih =>
    intro m a ns cs x h
    have hm : ∀ {m a ns cs} {g : Bool × Nat × List Nat → Bool × Nat × List Nat}, (zde b t f m a ns cs).map g = some x → (zde b t (f + 1) m a ns cs).map g = some x := fun {m a ns cs g} h => by
      cases hx : zde b t f m a ns cs with
      | none => rw [hx] at h; cases h
      | some y => rw [ih hx]; rw [hx] at h; exact h
    have hb : ∀ {m a ns cs} {g g' : Bool × Nat × List Nat → Option (Bool × Nat × List Nat)}, (∀ y, g y = some x → g' y = some x) → (zde b t f m a ns cs).bind g = some x → (zde b t (f + 1) m a ns cs).bind g' = some x := fun {m a ns cs g g'} hg h => by
      cases hx : zde b t f m a ns cs with
      | none => rw [hx] at h; cases h
      | some y => rw [ih hx]; rw [hx] at h; exact hg y h
    unfold zde at h ⊢
    by_cases e1 : m = 3
    · rw [if_pos e1] at h ⊢
      by_cases e2 : a < b ∧ t a = 45
      · rw [if_pos e2] at h ⊢; exact hm h
      · rw [if_neg e2] at h ⊢
        by_cases e3 : a < b ∧ zdi (t a) = true
        · rw [if_pos e3] at h ⊢; exact h
        · rw [if_neg e3] at h ⊢
          by_cases e4 : a < b ∧ zlt (t a) < 8
          · rw [if_pos e4] at h ⊢; exact h
          · rw [if_neg e4] at h ⊢
            by_cases e5 : ns < 4 ∧ a < b ∧ t a = 40
            · rw [if_pos e5] at h ⊢; exact hm h
            · rw [if_neg e5] at h ⊢; exact h
    · rw [if_neg e1] at h ⊢
      by_cases e2 : m < 3
      · rw [if_pos e2] at h ⊢
        refine hb (fun y hy => ?_) h
        by_cases e3 : y.1 = true
        · rw [if_pos e3] at hy ⊢; exact ih hy
        · rw [if_neg e3] at hy ⊢; exact hy
      · rw [if_neg e2] at h ⊢
        by_cases e3 : a < b ∧ zrk2 (m - 4) (t a) = true
        · rw [if_pos e3] at h ⊢
          refine hb (fun y hy => ?_) h
          by_cases e4 : y.1 = true
          · rw [if_pos e4] at hy ⊢
            by_cases e5 : m = 4
            · rw [if_pos e5] at hy ⊢; exact hy
            · rw [if_neg e5] at hy ⊢; exact ih hy
          · rw [if_neg e4] at hy ⊢; exact hy
        · rw [if_neg e3] at h ⊢; exact h
theorem zde_k {f m a ns : Nat} {cs : List Nat} {x : Bool × Nat × List Nat} (h : zde b t f m a ns cs = some x) : ∀ k, zde b t (f + k) m a ns cs = some x
  | 0 => h
  | k + 1 => zde_s (zde_k h k)
theorem zde_m {f g m a ns : Nat} {cs : List Nat} {x : Bool × Nat × List Nat} (h : zde b t f m a ns cs = some x) (hg : f ≤ g) : zde b t g m a ns cs = some x := by
  have := zde_k h (g - f)
  rwa [show f + (g - f) = g by omega] at this
end ZSM
