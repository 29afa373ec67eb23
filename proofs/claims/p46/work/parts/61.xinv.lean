/-! What holds of the reference between calls: positions, what is undone, what is kept -/
theorem xHEV : xHE xX [9] [(0, 23)] xV := by
  intro ph ph' hs ⟨l, n, h1, h2, h3, h4⟩
  refine ⟨l, n, ?_, ?_, h3, h4⟩
  · rw [← hs.1 179 9 rfl (by decide)]
    exact h1
  · rw [← hs.2 170 0 23 rfl (by decide)]
    exact h2
/-- a row is good -/
def xgr (ph : pm_H) (W P T : Int32) (a off : Nat) : Prop := W.toInt = 7 ∨ xgd ph a off P.toInt.toNat T.toInt.toNat
def xINV (n : Nat) (ph : pm_H) : Prop := ∃ W P T U C : Int32, (xget ph 170 4 = some (.int W) ∧ xget ph 170 5 = some (.int P) ∧ xget ph 170 6 = some (.int T) ∧ xget ph 170 27 = some (.int U) ∧ xget ph 170 7 = some (.int C)) ∧ (P.toInt ≤ 8 ∧ T.toInt ≤ 8 ∧ 0 ≤ C.toInt ∧ C.toInt ≤ n) ∧ xgr ph W P T 174 0 ∧ (∀ u : Nat, (u : Int) < U.toInt → xgr ph W P T 183 (41 * u)) ∧ ∀ i, i < 3 → ∀ y : Int32, xgb ph 198 i y → y.toInt ≠ 0 → ∃ K : Int32, xget ph 199 i = some (.int K) ∧ K.toInt ≤ C.toInt ∧ (K.toInt = C.toInt → xgr ph W P T 200 (41 * i))
theorem xgr_eq {ph ph' : pm_H} {W P T : Int32} {a off : Nat} (hP : P.toInt ≤ 8) (hT : T.toInt ≤ 8) (h : ∀ k, (k < 8 ∨ 32 ≤ k ∧ k < 40) → xget ph' a (off + k) = xget ph a (off + k)) (g : xgr ph W P T a off) : xgr ph' W P T a off := by
  rcases g with g | g
  · exact Or.inl g
  · refine Or.inr fun k x hk hx => g k x hk ?_
    rw [← h k (by omega)]
    exact hx
theorem xgr_cp {ph ph' : pm_H} {W P T : Int32} {a off b off2 : Nat} (hP : P.toInt ≤ 8) (hT : T.toInt ≤ 8) (h : ∀ k, k < 41 → xget ph' b (off2 + k) = xget ph a (off + k)) (g : xgr ph W P T a off) : xgr ph' W P T b off2 := by
  rcases g with g | g
  · exact Or.inl g
  · refine Or.inr fun k x hk hx => g k x hk ?_
    rw [← h k (by omega)]
    exact hx
theorem xgb_eq {ph ph' : pm_H} {a : Nat} (h : pm_at ph' a = pm_at ph a) {i : Nat} {y : Int32} (g : xgb ph' a i y) : xgb ph a i y := by
  obtain ⟨l, h1, h2⟩ := g
  exact ⟨l, by rw [← h]; exact h1, h2⟩
theorem xget_at {ph p : pm_H} {a : Nat} (h : pm_at p a = pm_at ph a) (i : Nat) : xget p a i = xget ph a i := by unfold xget; rw [h]
def xgAI : List Nat := [13, 28, 29, 30]
def xgFI : List (Nat × Nat) := [(0, 4), (0, 5), (0, 6), (0, 7), (0, 27), (4, 0), (4, 1), (4, 2), (4, 3), (4, 4), (4, 5), (4, 6), (4, 7), (4, 32), (4, 33), (4, 34), (4, 35), (4, 36), (4, 37), (4, 38), (4, 39)]
theorem xgFI_now : ∀ k, (k < 8 ∨ 32 ≤ k ∧ k < 40) → (4, k) ∈ xgFI := by
  intro k hk
  have h : (List.range 40).all (fun k => bif (bif Nat.blt k 8 then true else Nat.ble 32 k) then xmemP xgFI 4 k else true) = true := by decide +kernel
  have h2 := List.all_eq_true.mp h k (List.mem_range.mpr (by omega))
  apply xmemP_in
  rcases hk with q | q
  · have e : Nat.blt k 8 = true := Nat.ble_eq_true_of_le q
    rw [e] at h2
    exact h2
  · have e : Nat.ble 32 k = true := Nat.ble_eq_true_of_le q.1
    rw [e] at h2
    cases hb : Nat.blt k 8 with
    | true => rw [hb] at h2; exact h2
    | false => rw [hb] at h2; exact h2
theorem xHEI (n : Nat) : xHE xX xgAI xgFI (xINV n) := by
  intro ph ph' hs ⟨W, P, T, U, C, ⟨f1, f2, f3, f4, f5⟩, ⟨b1, b2, b3, b4⟩, g1, g2, g3⟩
  have hf : ∀ k, (0, k) ∈ xgFI → xget ph' 170 k = xget ph 170 k := fun k hk => (hs.2 170 0 k rfl hk).symm
  have ha : ∀ a i, xown a = some i → i ∈ xgAI → pm_at ph' a = pm_at ph a := fun a i h1 h2 => (hs.1 a i h1 h2).symm
  have a1 := ha 183 13 rfl (by decide)
  have a2 := ha 198 28 rfl (by decide)
  have a3 := ha 199 29 rfl (by decide)
  have a4 := ha 200 30 rfl (by decide)
  refine ⟨W, P, T, U, C, ⟨(hf 4 (by decide)).trans f1, (hf 5 (by decide)).trans f2, (hf 6 (by decide)).trans f3, (hf 27 (by decide)).trans f4, (hf 7 (by decide)).trans f5⟩, ⟨b1, b2, b3, b4⟩, ?_, fun u hu => ?_, fun i hi y hy hy0 => ?_⟩
  · exact xgr_eq b1 b2 (fun k hk => by rw [Nat.zero_add]; exact (hs.2 174 4 k rfl (xgFI_now k hk)).symm) g1
  · exact xgr_eq b1 b2 (fun k _ => xget_at a1 _) (g2 u hu)
  · obtain ⟨K, k1, k2, k3⟩ := g3 i hi y (xgb_eq a2 hy) hy0
    exact ⟨K, (xget_at a3 i).trans k1, k2, fun e => xgr_eq b1 b2 (fun k _ => xget_at a4 _) (k3 e)⟩
theorem xINV_PG {n : Nat} {ph : pm_H} (h : xINV n ph) : xPG ph := by
  obtain ⟨W, P, T, U, C, ⟨f1, f2, f3, f4, f5⟩, -, g1, -, -⟩ := h
  intro W2 P2 T2 h1 h2 h3 h7
  have e1 := xget_int f1 h1
  have e2 := xget_int f2 h2
  have e3 := xget_int f3 h3
  subst e1 e2 e3
  rcases g1 with g | g
  · exact absurd g h7
  · exact g
theorem xINV_le {n n' : Nat} {ph : pm_H} (hn : n ≤ n') (h : xINV n ph) : xINV n' ph := by
  obtain ⟨W, P, T, U, C, f, ⟨b1, b2, b3, b4⟩, g⟩ := h
  exact ⟨W, P, T, U, C, f, ⟨b1, b2, b3, by omega⟩, g⟩
theorem xINV_St (n : Nat) : xSt (xINV n) := by
  intro ph l k y hat hy ⟨W, P, T, U, C, ⟨f1, f2, f3, f4, f5⟩, b, g1, g2, g3⟩
  have hf : ∀ c, xget (ph.set 174 (.inl (0, .inl (l.set k y)))) 170 c = xget ph 170 c := fun c => xget_ne (by decide)
  have hg : ∀ a, a ≠ 174 → pm_at (ph.set 174 (.inl (0, .inl (l.set k y)))) a = pm_at ph a := fun a h => xat_ne h
  refine ⟨W, P, T, U, C, ⟨(hf 4).trans f1, (hf 5).trans f2, (hf 6).trans f3, (hf 27).trans f4, (hf 7).trans f5⟩, b, ?_, fun u hu => ?_, fun i hi z hz hz0 => ?_⟩
  · rcases hy with hy | ⟨C2, c1, c2⟩
    · rcases g1 with g | g
      · exact Or.inl g
      · refine Or.inr fun c x hc hx => ?_
        rw [Nat.zero_add] at hx
        unfold xget at hx
        rw [xat_self hat] at hx
        have hx : ((l.set k y)[c]?).map Value.int = some (.int x) := hx
        by_cases e : c = k
        · subst e
          by_cases hl : c < l.length
          · rw [List.getElem?_set_self hl] at hx
            cases hx
            exact hy
          · rw [List.getElem?_eq_none (by rw [List.length_set]; omega)] at hx
            cases hx
        · rw [List.getElem?_set_ne (Ne.symm e)] at hx
          refine g c x hc ?_
          rw [Nat.zero_add]
          unfold xget
          rw [hat]
          exact hx
    · have e := xget_int f1 c1
      subst e
      exact Or.inl c2
  · exact xgr_eq b.1 b.2.1 (fun c _ => xget_at (hg 183 (by decide)) _) (g2 u hu)
  · obtain ⟨K, k1, k2, k3⟩ := g3 i hi z (xgb_eq (hg 198 (by decide)) hz) hz0
    exact ⟨K, (xget_at (hg 199 (by decide)) i).trans k1, k2, fun e => xgr_eq b.1 b.2.1 (fun c _ => xget_at (hg 200 (by decide)) _) (k3 e)⟩
/-! copies -/
def xcp (ph0 ph : pm_H) (dA dO sA sO n : Nat) : Prop := (∀ i, i < n → xget ph dA (dO + i) = xget ph0 sA (sO + i)) ∧ (∀ b c, ¬ (b = dA ∧ dO ≤ c ∧ c < dO + n) → xget ph b c = xget ph0 b c) ∧ ∀ b, b ≠ dA → pm_at ph b = pm_at ph0 b
theorem xcp_0 {ph : pm_H} {dA dO sA sO : Nat} : xcp ph ph dA dO sA sO 0 := ⟨fun i h => absurd h (Nat.not_lt_zero _), fun _ _ _ => rfl, fun _ _ => rfl⟩
theorem xcp_s {ph0 ph ph' : pm_H} {dA dO sA sO n : Nat} {y : Int32} (h : xcp ph0 ph dA dO sA sO n) (hne : sA ≠ dA) (hy : xget ph sA (sO + n) = some (.int y)) (u : xu1 ph ph' dA (dO + n) (.int y)) : xcp ph0 ph' dA dO sA sO (n + 1) := by
  obtain ⟨h1, h2, h3⟩ := h
  obtain ⟨u1, u2, u3⟩ := u
  refine ⟨fun i hi => ?_, fun b c hbc => ?_, fun b hb => (u3 b hb).trans (h3 b hb)⟩
  · by_cases e : i = n
    · subst e
      rw [u1, ← hy]
      exact h2 sA _ (fun q => hne q.1)
    · rw [u2 dA (dO + i) (fun q => e (by omega))]
      exact h1 i (by omega)
  · rw [u2 b c (fun q => hbc ⟨q.1, by omega, by omega⟩)]
    exact h2 b c (fun q => hbc ⟨q.1, q.2.1, by omega⟩)
