/-! X: blocks: calls, ends, switches; a method's run within another one's -/
/-- n of them, the lowest first, and the rest -/
def xtake : Nat → List xv → List xv → Option (List xv × List xv)
  | 0, r, acc => some (acc, r)
  | n + 1, r, acc => match r with
    | v :: t => xtake n t (v :: acc)
    | [] => none
theorem xtake_ok {X : xD} {m : Int} {σ : Nat → Int} {t : Nat} : ∀ (n : Nat) {st : List Value} {sa acc as r : List xv} {vacc : List Value}, xtake n sa acc = some (as, r) → xsG X m σ t st sa → xsG X m σ t vacc acc → n ≤ st.length ∧ xsG X m σ t ((st.take n).reverse ++ vacc) as ∧ xsG X m σ t (st.drop n) r := by
  intro n
  induction n with
  | zero => intro st sa acc as r vacc h g ga; cases h; exact ⟨Nat.zero_le _, by simpa using ga, by simpa using g⟩
  | succ n ih =>
    intro st sa acc as r vacc h g ga
    match st, sa, g, h with
    | v :: st, q :: sa, g, h =>
      obtain ⟨h1, h2, h3⟩ := ih (vacc := v :: vacc) h g.2 ⟨g.1, ga⟩
      refine ⟨by simpa using h1, ?_, by simpa using h3⟩
      rw [List.take_succ_cons, List.reverse_cons, List.append_assoc]
      exact h2
    | [], [], g, h => cases h
def xcats (l : List xv) : Nat := match l with
  | [] => 0
  | a :: r => Nat.add (xcat a) (xcats r)
theorem xcats_ok {X : xD} {m : Int} {σ : Nat → Int} {n : Nat} : ∀ {st : List Value} {sa : List xv}, xsG X m σ n st sa → (st.map fun v => v.category).sum = xcats sa := by
  intro st
  induction st with
  | nil => intro sa g; cases sa with | nil => rfl | cons _ _ => exact g.elim
  | cons v st ih =>
    intro sa g
    cases sa with
    | nil => exact g.elim
    | cons a sa =>
      rw [List.map_cons, List.sum_cons, ih g.2, xcat_ok g.1]
      rfl
/-- what stands behind a call -/
def xback (g : xb) (k : xk) (ρ : xr) : xr := fun v S => match S with
  | (n, A, sa, fs, w, F) => match v with
    | some q => g k ρ (n, A, q :: sa, fs, w, F)
    | none => g k ρ (n, A, sa, fs, w, F)
def xcallS (na : Nat) (c : xc) (g : xb) : xb := fun k ρ S => match S with
  | (n, A, sa, fs, w, F) => match xtake na sa [] with
    | some (as, r) => bif Nat.ble (xcats r) 8 then c as (xback g k ρ) (n, A, r, fs, w, F) else false
    | none => false
def xhasC (X : xD) (ci : Nat) (v : xv) : Bool := match v with
  | .inr (.inr (.inl u)) => (X.2.2 u).all (fun i => match X.2.1 i with
    | some (_, .inr (cj, _)) => Nat.beq ci cj
    | _ => false)
  | _ => false
def xcallV (X : xD) (ci na : Nat) (c : xc) (g : xb) : xb := fun k ρ S => match S with
  | (n, A, sa, fs, w, F) => match xtake (na + 1) sa [] with
    | some (o :: as, r) => bif (bif Nat.ble (xcats r) 8 then xhasC X ci o else false) then c (o :: as) (xback g k ρ) (n, A, r, fs, w, F) else false
    | _ => false
def xstrC (X : xD) (v : xv) : Bool := match v with
  | .inr (.inr (.inl u)) => (X.2.2 u).all (fun i => match X.2.1 i with
    | some (some a, .inl (kd, _)) => bif Nat.beq kd 6 then Nat.ble 1048576 a else false
    | _ => false)
  | _ => false
def xcallN (X : xD) (na : Nat) (c : xc) (g : xb) : xb := fun k ρ S => match S with
  | (n, A, sa, fs, w, F) => match xtake (na + 1) sa [] with
    | some (o :: as, r) => bif (bif Nat.ble (xcats r) 8 then xstrC X o else false) then c (o :: as) (xback g k ρ) (n, A, r, fs, w, F) else false
    | _ => false
theorem xlim {a : Nat} (h8 : a + 1 ≤ 1048576) (h9 : 1048576 ≤ a) : False := by omega
section XCA
variable {X : xD} {K KC : pm_K} {E : pm_H → Prop} {d d' mj pc aux j : Nat} {ins : Instr} {g : xb} {c : xc}
theorem xs6 {L : List (Option Value)} {st r as : List Value} {ph : pm_H} {cs ss : Nat} (hc : pm_code K mj pc = some (6, ins, aux)) (h : pm_inv K (pm_own K mj) ins st ph = some (j, as, r)) : pm_step K false mj (pc, L, st, ph, cs, ss) = some (.inr (.inl (j, as, (pc + 3, L, r, ph, cs, ss)))) := by
  unfold pm_step
  simp only [hc, h]
theorem xcall_core (hd : d' ≤ d) (hcj : xcok X KC E d' j c) (hg : xok X K KC E d mj (pc + 3) g) {D : Nat} (hD : d ≤ D) {m : Int} (hm : m ≤ 2147483646) {n0 : Nat} {σ0 σ : Nat → Int} {Fc : xFc} {cs ss : Nat} {k : xk} {ρ : xr} {G : pm_S → Prop} {Q : Option Value → pm_H → Prop} (hB : xBk K (pm_Rd KC false D) mj cs ss G Q)
  (hk : ∀ pc' S, k pc' S = true → ∀ σ L st ph, xg X KC E m n0 σ0 S σ L st ph Fc → G (pc', L, st, ph, cs, ss)) (hρ : ∀ v S, ρ v S = true → ∀ σ L st ph vv, xg X KC E m n0 σ0 S σ L st ph Fc → xoG X m σ S.1 vv v → Q vv ph)
  {S : xS} {as : List xv} (h : c as (xback g k ρ) S = true) {L : List (Option Value)} {st r vs : List Value} {ph : pm_H} (hS : xg X KC E m n0 σ0 S σ L r ph Fc) (hv : xsG X m σ S.1 vs as) (step : pm_step K false mj (pc, L, st, ph, cs, ss) = some (.inr (.inl (j, vs, (pc + 3, L, r, ph, cs, ss))))) : G (pc, L, st, ph, cs, ss) := by
  obtain ⟨v, ph', h1, h2⟩ := hcj D (Nat.le_trans hd hD) m hm n0 σ0 Fc L r (xback g k ρ) (fun v ph' => G (pc + 3, L, v.toList ++ r, ph', cs, ss)) (fun v S' hb σ' ph2 vv hS' ho => by
    obtain ⟨n, A, sa, fs, w, F⟩ := S'
    obtain ⟨g1, g2, g3, g4, g5, g6, g7, g8, g9⟩ := hS'
    unfold xback at hb
    cases v with
    | none =>
      have : vv = none := ho
      subst this
      exact hg D hD m hm n0 σ0 Fc cs ss k ρ G Q hB hk hρ _ hb σ' L _ ph2 ⟨g1, g2, g3, g4, g5, g6, g7, g8, g9⟩
    | some q =>
      obtain ⟨u, e, gu⟩ := ho
      subst e
      exact hg D hD m hm n0 σ0 Fc cs ss k ρ G Q hB hk hρ _ hb σ' L _ ph2 ⟨g1, g2, g3, g4, ⟨gu, g5⟩, g6, g7, g8, g9⟩) as S h σ ph vs hS hv
  exact hB.2.1 _ _ _ _ _ _ _ _ _ _ _ _ step h1 h2
theorem xcallS_ok {i na : Nat} {v0 : Value} (hc : pm_code K mj pc = some (6, .invokestatic i, aux)) (hl : pm_lnk K (pm_own K mj) i = some (1, j, na, v0)) (hd : d' ≤ d) (hcj : xcok X KC E d' j c) (hg : xok X K KC E d mj (pc + 3) g) : xok X K KC E d mj pc (xcallS na c g) := by
  intro D hD m hm n0 σ0 Fc cs ss k ρ G Q hB hk hρ S h σ L st ph hS
  obtain ⟨n, A, sa, fs, w, F⟩ := S
  obtain ⟨g1, g2, g3, g4, g5, g6, g7, g8, g9⟩ := hS
  unfold xcallS at h
  simp only at h
  split at h
  · next as r htk =>
    have hcat := (x_and h).1
    replace h := (x_and h).2
    obtain ⟨t1, t2, t3⟩ := xtake_ok (vacc := []) na htk g5 trivial
    rw [List.append_nil] at t2
    have hinv : pm_inv K (pm_own K mj) (.invokestatic i) st ph = some (j, (st.take na).reverse, st.drop na) := by
      unfold pm_inv
      simp only [hl, xcats_ok t3, hcat, Nat.ble_eq_true_of_le t1, Bool.and_self, cond_true]
    exact xcall_core hd hcj hg hD hm hB hk hρ h (σ := σ) ⟨g1, g2, g3, g4, t3, g6, g7, g8, g9⟩ t2 (xs6 hc hinv)
  · cases h
theorem xdrop_cons {st : List Value} {na : Nat} (h : na + 1 ≤ st.length) : ∃ o, st.drop na = o :: st.drop (na + 1) ∧ (st.take (na + 1)).reverse = o :: (st.take na).reverse := by
  have h1 : na < st.length := h
  refine ⟨st[na], List.drop_eq_getElem_cons h1, ?_⟩
  rw [List.take_succ_eq_append_getElem h1, List.reverse_append]
  rfl
theorem xcallV_ok {i na ci : Nat} (hc : pm_code K mj pc = some (6, .invokevirtual i, aux)) (hl : pm_lnk K (pm_own K mj) i = some (2, j, na, .ref ci)) (hd : d' ≤ d) (hcj : xcok X KC E d' j c) (hg : xok X K KC E d mj (pc + 3) g) : xok X K KC E d mj pc (xcallV X ci na c g) := by
  intro D hD m hm n0 σ0 Fc cs ss k ρ G Q hB hk hρ S h σ L st ph hS
  obtain ⟨n, A, sa, fs, w, F⟩ := S
  obtain ⟨g1, g2, g3, g4, g5, g6, g7, g8, g9⟩ := hS
  unfold xcallV at h
  simp only at h
  split at h
  · next o as r htk =>
    have hcond := (x_and h).1
    replace h := (x_and h).2
    obtain ⟨hcat, hcl⟩ := x_and hcond
    obtain ⟨t1, t2, t3⟩ := xtake_ok (vacc := []) (na + 1) htk g5 trivial
    rw [List.append_nil] at t2
    obtain ⟨ov, e1, e2⟩ := xdrop_cons t1
    have hv := t2
    rw [e2] at t2
    have g0 := t2.1
    unfold xhasC at hcl
    split at hcl
    · next u =>
      obtain ⟨a, i2, e, ho, hi⟩ := g0
      subst e
      have hcl := List.all_eq_true.mp hcl i2 hi
      split at hcl
      · next s2 cj fts hct =>
        obtain ⟨s3, t4, h1, h2, h3⟩ := g7 a i2 ho
        rw [hct] at h1
        cases h1
        obtain ⟨fl, hat, -⟩ := h3
        have hinv : pm_inv K (pm_own K mj) (.invokevirtual i) st ph = some (j, .ref a :: (st.take na).reverse, st.drop (na + 1)) := by
          unfold pm_inv
          simp only [hl, e1, hat, hcl, xcats_ok t3, hcat, Bool.and_self, cond_true]
        exact xcall_core hd hcj hg hD hm hB hk hρ h (σ := σ) ⟨g1, g2, g3, g4, t3, g6, g7, g8, g9⟩ t2 (xs6 hc hinv)
      · cases hcl
    · cases hcl
  · cases h
theorem xcallN_ok {i na : Nat} (hro : ∀ i2 a0 t, X.2.1 i2 = some (some a0, .inl (6, t)) → ∃ v, pm_ro K (a0 - 1048576) 0 = some v) (hc : pm_code K mj pc = some (6, .invokevirtual i, aux)) (hl : pm_lnk K (pm_own K mj) i = some (2, j, na, .null)) (hd : d' ≤ d) (hcj : xcok X KC E d' j c) (hg : xok X K KC E d mj (pc + 3) g) : xok X K KC E d mj pc (xcallN X na c g) := by
  intro D hD m hm n0 σ0 Fc cs ss k ρ G Q hB hk hρ S h σ L st ph hS
  obtain ⟨n, A, sa, fs, w, F⟩ := S
  obtain ⟨g1, g2, g3, g4, g5, g6, g7, g8, g9⟩ := hS
  unfold xcallN at h
  simp only at h
  split at h
  · next o as r htk =>
    have hcond := (x_and h).1
    replace h := (x_and h).2
    obtain ⟨hcat, hcl⟩ := x_and hcond
    obtain ⟨t1, t2, t3⟩ := xtake_ok (vacc := []) (na + 1) htk g5 trivial
    rw [List.append_nil] at t2
    obtain ⟨ov, e1, e2⟩ := xdrop_cons t1
    have hv := t2
    rw [e2] at t2
    have g0 := t2.1
    unfold xstrC at hcl
    split at hcl
    · next u =>
      obtain ⟨a, i2, e, ho, hi⟩ := g0
      subst e
      have hcl := List.all_eq_true.mp hcl i2 hi
      split at hcl
      · next a0 kd t5 hct =>
        obtain ⟨hcl1, hcl2⟩ := x_and hcl
        have := Nat.eq_of_beq_eq_true hcl1
        subst this
        obtain ⟨s3, t4, h1, h2, h3⟩ := g7 a i2 ho
        rw [hct] at h1
        cases h1
        have := h2 a0 rfl
        subst this
        obtain ⟨v9, hv9⟩ := hro _ _ _ hct
        have hblt : Nat.blt a 1048576 = false := by
          cases hb : Nat.blt a 1048576 with
          | false => rfl
          | true =>
            exact (xlim (Nat.le_of_ble_eq_true hb) (Nat.le_of_ble_eq_true hcl2)).elim
        have hinv : pm_inv K (pm_own K mj) (.invokevirtual i) st ph = some (j, .ref a :: (st.take na).reverse, st.drop (na + 1)) := by
          unfold pm_inv
          simp only [hl, e1, hblt, hv9, xcats_ok t3, hcat, cond_true, cond_false]
        exact xcall_core hd hcj hg hD hm hB hk hρ h (σ := σ) ⟨g1, g2, g3, g4, t3, g6, g7, g8, g9⟩ t2 (xs6 hc hinv)
      · cases hcl
    · cases hcl
  · cases h
/-! ends -/
theorem xs7 {L : List (Option Value)} {st : List Value} {ph : pm_H} {cs ss : Nat} {v : Option Value} (hc : pm_code K mj pc = some (7, ins, aux)) (h : pm_ret (pm_sig K mj).2.2 ins st = some v) : pm_step K false mj (pc, L, st, ph, cs, ss) = some (.inr (.inr v)) := by
  unfold pm_step
  simp only [hc, h]
def xri : xb := fun _ ρ S => match S with
  | (n, A, [.inl q], fs, w, F) => ρ (some (.inl q)) (n, A, [], fs, w, F)
  | (n, A, [.inr (.inr (.inr (.inl q)))], fs, w, F) => ρ (some (.inr (.inr (.inr (.inl q))))) (n, A, [], fs, w, F)
  | _ => false
theorem xri_ok (hc : pm_code K mj pc = some (7, .ireturn, aux)) (hs : (pm_sig K mj).2.2 = 1) : xok X K KC E d mj pc xri := by
  intro D hD m hm n0 σ0 Fc cs ss k ρ G Q hB hk hρ S h σ L st ph hS
  have rt : ∀ x : Int32, pm_ret (pm_sig K mj).2.2 .ireturn [.int x] = some (some (.int x)) := fun x => by rw [hs]; rfl
  unfold xri at h
  split at h
  · next n A q fs w F =>
    obtain ⟨g1, g2, g3, g4, g5, g6, g7, g8, g9⟩ := hS
    match st, g5 with
    | [v], ⟨⟨x, e, gx⟩, g5⟩ =>
      subst e
      exact hB.2.2 _ _ _ _ _ (xs7 hc (rt x)) (hρ _ _ h σ L [] ph _ ⟨g1, g2, g3, g4, trivial, g6, g7, g8, g9⟩ ⟨_, rfl, xvI gx⟩)
    | _ :: _ :: _, ⟨_, g5⟩ => exact g5.elim
  · next n A q fs w F =>
    obtain ⟨g1, g2, g3, g4, g5, g6, g7, g8, g9⟩ := hS
    match st, g5 with
    | [v], ⟨⟨x, e, gx⟩, g5⟩ =>
      subst e
      exact hB.2.2 _ _ _ _ _ (xs7 hc (rt x)) (hρ _ _ h σ L [] ph _ ⟨g1, g2, g3, g4, trivial, g6, g7, g8, g9⟩ ⟨_, rfl, xvO gx⟩)
    | _ :: _ :: _, ⟨_, g5⟩ => exact g5.elim
  · cases h
def xrz : xb := fun _ ρ S => match S with
  | (n, A, [.inl q], fs, w, F) => bif xin q 0 1 then ρ (some (.inl q)) (n, A, [], fs, w, F) else false
  | _ => false
theorem xrz_ok (hc : pm_code K mj pc = some (7, .ireturn, aux)) (hs : (pm_sig K mj).2.2 = 2) : xok X K KC E d mj pc xrz := by
  intro D hD m hm n0 σ0 Fc cs ss k ρ G Q hB hk hρ S h σ L st ph hS
  unfold xrz at h
  split at h
  · next n A q fs w F =>
    have hin := (x_and h).1
    replace h := (x_and h).2
    obtain ⟨g1, g2, g3, g4, g5, g6, g7, g8, g9⟩ := hS
    match st, g5 with
    | [v], ⟨⟨x, e, gx⟩, g5⟩ =>
      subst e
      have b := xin_ok hin gx
      have rt : pm_ret (pm_sig K mj).2.2 .ireturn [.int x] = some (some (.int x)) := by
        rw [hs]
        rcases (show x.toInt = 0 ∨ x.toInt = 1 by omega) with e | e
        · have : x = 0 := Int32.toInt_inj.mp e
          subst this
          rfl
        · have : x = 1 := Int32.toInt_inj.mp e
          subst this
          rfl
      exact hB.2.2 _ _ _ _ _ (xs7 hc rt) (hρ _ _ h σ L [] ph _ ⟨g1, g2, g3, g4, trivial, g6, g7, g8, g9⟩ ⟨_, rfl, xvI gx⟩)
    | _ :: _ :: _, ⟨_, g5⟩ => exact g5.elim
  · cases h
def xrl : xb := fun _ ρ S => match S with
  | (n, A, [.inr (.inl q)], fs, w, F) => ρ (some (.inr (.inl q))) (n, A, [], fs, w, F)
  | _ => false
theorem xrl_ok (hc : pm_code K mj pc = some (7, .lreturn, aux)) (hs : (pm_sig K mj).2.2 = 3) : xok X K KC E d mj pc xrl := by
  intro D hD m hm n0 σ0 Fc cs ss k ρ G Q hB hk hρ S h σ L st ph hS
  unfold xrl at h
  split at h
  · next n A q fs w F =>
    obtain ⟨g1, g2, g3, g4, g5, g6, g7, g8, g9⟩ := hS
    match st, g5 with
    | [v], ⟨⟨x, e, gx⟩, g5⟩ =>
      subst e
      have rt : pm_ret (pm_sig K mj).2.2 .lreturn [.long x] = some (some (.long x)) := by rw [hs]; rfl
      exact hB.2.2 _ _ _ _ _ (xs7 hc rt) (hρ _ _ h σ L [] ph _ ⟨g1, g2, g3, g4, trivial, g6, g7, g8, g9⟩ ⟨_, rfl, xvJ gx⟩)
    | _ :: _ :: _, ⟨_, g5⟩ => exact g5.elim
  · cases h
def xra : xb := fun _ ρ S => match S with
  | (n, A, [.inr (.inr (.inl q))], fs, w, F) => ρ (some (.inr (.inr (.inl q)))) (n, A, [], fs, w, F)
  | _ => false
theorem xra_ok (hc : pm_code K mj pc = some (7, .areturn, aux)) (hs : (pm_sig K mj).2.2 = 4) : xok X K KC E d mj pc xra := by
  intro D hD m hm n0 σ0 Fc cs ss k ρ G Q hB hk hρ S h σ L st ph hS
  unfold xra at h
  split at h
  · next n A q fs w F =>
    obtain ⟨g1, g2, g3, g4, g5, g6, g7, g8, g9⟩ := hS
    match st, g5 with
    | [v], ⟨⟨x, i, e, gx⟩, g5⟩ =>
      subst e
      have rt : pm_ret (pm_sig K mj).2.2 .areturn [.ref x] = some (some (.ref x)) := by rw [hs]; rfl
      exact hB.2.2 _ _ _ _ _ (xs7 hc rt) (hρ _ _ h σ L [] ph _ ⟨g1, g2, g3, g4, trivial, g6, g7, g8, g9⟩ ⟨_, rfl, xvR gx.1 gx.2⟩)
    | _ :: _ :: _, ⟨_, g5⟩ => exact g5.elim
  · cases h
def xrv0 : xb := fun _ ρ S => match S with
  | (n, A, [], fs, w, F) => ρ none (n, A, [], fs, w, F)
  | _ => false
theorem xrv0_ok (hc : pm_code K mj pc = some (7, .return_, aux)) (hs : (pm_sig K mj).2.2 = 0) : xok X K KC E d mj pc xrv0 := by
  intro D hD m hm n0 σ0 Fc cs ss k ρ G Q hB hk hρ S h σ L st ph hS
  unfold xrv0 at h
  split at h
  · next n A fs w F =>
    obtain ⟨g1, g2, g3, g4, g5, g6, g7, g8, g9⟩ := hS
    match st, g5 with
    | [], g5 =>
      have rt : pm_ret (pm_sig K mj).2.2 .return_ [] = some none := by rw [hs]; rfl
      exact hB.2.2 _ _ _ _ _ (xs7 hc rt) (hρ _ _ h σ L [] ph _ ⟨g1, g2, g3, g4, trivial, g6, g7, g8, g9⟩ rfl)
    | _ :: _, g5 => exact g5.elim
  · cases h
/-! switches -/
noncomputable def xsw (cs : List (Int × Nat)) (dt : Nat) : xb := fun k _ S => match S with
  | (n, A, x :: sa, fs, w, F) => (match xn n x with
    | some p => bif cs.all (fun c => (xr_eq p (0, c.1, c.1, c.1)).all (xct p (0, c.1, c.1, c.1) (n + 1, A, sa, fs, w, F) (k c.2))) then k dt (n + 1, A, sa, fs, w, F) else false
    | none => false)
  | _ => false
theorem xsw_ok {cs : List (Int × Nat)} {dt : Nat} (hc : pm_code K mj pc = some (4, ins, aux)) (hi : ∀ (x : Int32) (r : List Value), ∃ t, pm_br ins aux pc (.int x :: r) = some (t, r) ∧ ((x.toInt, t) ∈ cs ∨ t = dt)) : xok X K KC E d mj pc (xsw cs dt) := by
  intro D hD m hm n0 σ0 Fc cs1 ss k ρ G Q hB hk hρ S h σ L st ph hS
  unfold xsw at h
  split at h
  · next n A x sa fs w F =>
    split at h
    · next p hp =>
      obtain ⟨ha, hb2⟩ := x_and h
      obtain ⟨g1, g2, g3, g4, g5, g6, g7, g8, g9⟩ := hS
      have hn : 0 < n := Nat.lt_of_lt_of_le g3.1 g1
      have h0 : σ 0 = 0 := by rw [g2 0 g3.1]; exact g3.2.1
      match st, g5 with
      | v1 :: r, ⟨gv1, g5⟩ =>
        obtain ⟨a, e1, rfl, ga⟩ := xn_ok hm hp gv1 (Nat.le_refl _)
        have u1 : ∀ t, t < n → xup σ n e1 t = σ t := fun t ht => xup_lt ht
        have hS2 : xg X KC E m n0 σ0 (n + 1, A, sa, fs, w, F) (xup σ n e1) L r ph Fc := ⟨by omega, fun t ht => by rw [u1 t (by omega)]; exact g2 t ht, g3, xlG_up u1 (by omega) g4, xsG_up u1 (by omega) g5, xfG_up u1 (by omega) g6, g7, xFG_up u1 (by omega) g8, g9⟩
        obtain ⟨t, ht1, ht2⟩ := hi a r
        refine hB.1 _ _ _ _ _ _ _ _ (xs4 hc ht1) ?_
        rcases ht2 with ht2 | ht2
        · have h2 := List.all_eq_true.mp ha _ ht2
          simp only at h2
          have gb : xiG (xup σ n e1) (n + 1) a.toInt (0, a.toInt, a.toInt, a.toInt) := ⟨by show 0 < n + 1; omega, by show a.toInt = xup σ n e1 0 + a.toInt; rw [u1 0 hn, h0]; omega, Int.le_refl _, Int.le_refl _⟩
          exact xct_use xr_eq_ok h2 ga gb (rfl : a.toInt = a.toInt) hS2 (fun S' h3 h4 => hk _ _ h3 _ _ _ _ h4)
        · subst ht2
          exact hk _ _ hb2 _ _ _ _ hS2
    · cases h
  · cases h
/-- the arms of a switch by a table -/
def xtsB (pc : Nat) (lo : Int) (cs : List (Int × Nat)) (dt : Nat) : List Int → Nat → Bool
  | [], _ => true
  | o :: r, i => bif (match pm_tgt pc o with
    | some t => bif Nat.beq t dt then true else cs.any (fun c => bif zeq c.1 (lo + i) then Nat.beq c.2 t else false)
    | none => false) then xtsB pc lo cs dt r (i + 1) else false
theorem xtsB_ok {lo : Int} {cs : List (Int × Nat)} {dt : Nat} : ∀ (l : List Int) (i q : Nat) (o : Int), xtsB pc lo cs dt l i = true → l[q]? = some o → ∃ t, pm_tgt pc o = some t ∧ ((lo + ((i + q : Nat) : Int), t) ∈ cs ∨ t = dt) := by
  intro l
  induction l with
  | nil => intro i q o h hq; cases hq
  | cons a r ih =>
    intro i q o h hq
    unfold xtsB at h
    obtain ⟨h1, h2⟩ := x_and h
    cases q with
    | zero =>
      have : a = o := Option.some.inj hq
      subst this
      split at h1
      · next t ht =>
        refine ⟨t, ht, ?_⟩
        cases hb : Nat.beq t dt with
        | true => exact Or.inr (Nat.eq_of_beq_eq_true hb)
        | false =>
          rw [hb] at h1
          obtain ⟨c9, hc9, h3⟩ := List.any_eq_true.mp (show cs.any _ = true from h1)
          obtain ⟨h4, h5⟩ := x_and h3
          have e1 := zeq_ok h4
          have e2 := Nat.eq_of_beq_eq_true h5
          left
          rw [Nat.add_zero, ← e1, ← e2]
          exact hc9
      · cases h1
    | succ q =>
      obtain ⟨t, h3, h4⟩ := ih (i + 1) q o h2 hq
      refine ⟨t, h3, ?_⟩
      rw [show i + (q + 1) = i + 1 + q by omega]
      exact h4
theorem xts_ok {d9 lo hi : Int} {offs : Array Int} {cs : List (Int × Nat)} {dt : Nat} (h1 : xtsB pc lo cs dt offs.toList 0 = true) (h2 : hi - lo < (offs.size : Int)) (h3 : pm_tgt pc d9 = some dt) (x : Int32) (r : List Value) : ∃ t, pm_br (.tableswitch d9 lo hi offs) aux pc (.int x :: r) = some (t, r) ∧ ((x.toInt, t) ∈ cs ∨ t = dt) := by
  unfold pm_br
  cases hb : (decide (x.toInt < lo) || decide (hi < x.toInt)) with
  | true => exact ⟨dt, by simp only [hb, cond_true, h3], Or.inr rfl⟩
  | false =>
    have hb1 : ¬ (x.toInt < lo ∨ hi < x.toInt) := fun q => by
      rcases q with q | q
      · rw [decide_eq_true q] at hb; cases hb
      · rw [decide_eq_true q, Bool.or_true] at hb; cases hb
    have hlt : (x.toInt - lo).toNat < offs.size := by omega
    have hoff : offs[(x.toInt - lo).toNat]? = some offs[(x.toInt - lo).toNat] := Array.getElem?_eq_getElem hlt
    obtain ⟨t, h4, h5⟩ := xtsB_ok offs.toList 0 (x.toInt - lo).toNat offs[(x.toInt - lo).toNat] h1 (by rw [Array.getElem?_toList]; exact hoff)
    refine ⟨t, by simp only [hb, cond_false, hoff, h4], ?_⟩
    rcases h5 with h5 | h5
    · left
      have e : lo + ((0 + (x.toInt - lo).toNat : Nat) : Int) = x.toInt := by omega
      rw [e] at h5
      exact h5
    · exact Or.inr h5
/-- the arms of a switch by pairs -/
def xlsB (pc : Nat) (cs : List (Int × Nat)) (ps : List (Int × Int)) : Bool := ps.all (fun q => match pm_tgt pc q.2 with
    | some t => cs.any (fun c => bif zeq c.1 q.1 then Nat.beq c.2 t else false)
    | none => false)
theorem xls_find {d9 : Int} : ∀ (l : List (Int × Int)) (x : Int), (∃ o, (x, o) ∈ l ∧ Op.lookupswitch.offset l d9 x = o) ∨ Op.lookupswitch.offset l d9 x = d9 := by
  intro l
  induction l with
  | nil => intro x; exact Or.inr rfl
  | cons a r ih =>
    intro x
    obtain ⟨a1, a2⟩ := a
    rw [Op.lookupswitch.offset_cons]
    by_cases e : a1 = x
    · rw [if_pos e]
      subst e
      exact Or.inl ⟨a2, List.mem_cons_self, rfl⟩
    · rw [if_neg e]
      rcases ih x with ⟨o, h1, h2⟩ | h
      · exact Or.inl ⟨o, List.mem_cons_of_mem _ h1, h2⟩
      · exact Or.inr h
theorem xlsw_ok {d9 : Int} {ps : Array (Int × Int)} {cs : List (Int × Nat)} {dt : Nat} (h0 : (ps.toList.zip (ps.toList.drop 1)).all (fun (a, next) => a.1 < next.1) = true) (h1 : xlsB pc cs ps.toList = true) (h3 : pm_tgt pc d9 = some dt) (x : Int32) (r : List Value) : ∃ t, pm_br (.lookupswitch d9 ps) aux pc (.int x :: r) = some (t, r) ∧ ((x.toInt, t) ∈ cs ∨ t = dt) := by
  unfold pm_br
  simp only [h0, cond_true]
  rcases xls_find (d9 := d9) ps.toList x.toInt with ⟨o, h4, h5⟩ | h
  · have h6 := List.all_eq_true.mp h1 _ h4
    simp only at h6
    rw [h5]
    split at h6
    · next t ht =>
      refine ⟨t, by rw [ht], Or.inl ?_⟩
      obtain ⟨c9, hc9, h7⟩ := List.any_eq_true.mp h6
      obtain ⟨h8, h9⟩ := x_and h7
      have e1 := zeq_ok h8
      have e2 := Nat.eq_of_beq_eq_true h9
      rw [← e1, ← e2]
      exact hc9
    · cases h6
  · rw [h]
    exact ⟨dt, by rw [h3], Or.inr rfl⟩
end XCA
