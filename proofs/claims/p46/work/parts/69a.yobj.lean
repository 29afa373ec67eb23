/-! getfield, putfield, calls of objects at their own addresses; runs have one end alone -/
section YO
variable {D j pc pc' aux n : Nat} {Q : Option Value → pm_H → Prop} {L : List (Option Value)} {st r as : List Value} {ph : pm_H} {m : Int} {w : Nat} {v0 : Value} {A i ci fi k : Nat} {fts : List ((Int × Int) ⊕ Option Nat)}
theorem yO_v (hP : xH xX kK m w ph) (ho : xown A = some i) (ht : xkt i = some (some A, .inr (ci, fts))) {ft : (Int × Int) ⊕ Option Nat} (hf : fts[k]? = some ft) : ∃ v, xget ph A k = some v ∧ xftG xX v ft := by
  obtain ⟨fl, hat, hfl⟩ := xO_at hP ho ht
  obtain ⟨v, hv, g⟩ := hfl k _ hf
  exact ⟨v, by unfold xget; rw [hat]; exact hv, g⟩
theorem gt_ogk {v : Value} (hc : pm_code kK j pc = some (5, .getfield fi, aux)) (hl : pm_lnk kK (pm_own kK j) fi = some (6, ci, k, v0)) (hP : xH xX kK m w ph) (ho : xown A = some i) (ht : xkt i = some (some A, .inr (ci, fts))) (hg : xget ph A k = some v) (hp : pc + 3 = pc') (kk : xGT kK D j Q (pc', L, v :: st, ph, 0, 0)) : xGT kK D j Q (pc, L, .ref A :: st, ph, 0, 0) := by
  obtain ⟨fl, hat, -⟩ := xO_at hP ho ht
  have hv : fl[k]? = some v := by
    unfold xget at hg
    rw [hat] at hg
    exact hg
  exact gt_gfo hc hl hat hv hp kk
theorem gt_ogr {u B : Nat} (hc : pm_code kK j pc = some (5, .getfield fi, aux)) (hl : pm_lnk kK (pm_own kK j) fi = some (6, ci, k, v0)) (hP : xH xX kK m w ph) (ho : xown A = some i) (ht : xkt i = some (some A, .inr (ci, fts))) (hf : fts[k]? = some (.inr (some u))) (hu : xone u = some B) (hp : pc + 3 = pc') (kk : xGT kK D j Q (pc', L, .ref B :: st, ph, 0, 0)) : xGT kK D j Q (pc, L, .ref A :: st, ph, 0, 0) := by
  obtain ⟨v, hv, g⟩ := yO_v hP ho ht hf
  have e : v = .ref B := xaO (m' := 0) (A := B) hP hu g
  subst e
  exact gt_ogk hc hl hP ho ht hv hp kk
theorem gt_opv {y : Value} {ty : FieldType} {ft : (Int × Int) ⊕ Option Nat} (hc : pm_code kK j pc = some (5, .putfield fi, aux)) (hl : pm_lnk kK (pm_own kK j) fi = some (6, ci, k, v0)) (hP : xH xX kK m w ph) (ho : xown A = some i) (ht : xkt i = some (some A, .inr (ci, fts))) (hf : fts[k]? = some ft) (hty : pm_fty kK ci k = ty) (hfit : pm_fit ty y = true) (hy : xftG xX y ft) (hp : pc + 3 = pc') (kk : ∀ ph', xH xX kK m w ph' → xu1 ph ph' A k y → xGT kK D j Q (pc', L, st, ph', 0, 0)) : xGT kK D j Q (pc, L, y :: .ref A :: st, ph, 0, 0) := by
  obtain ⟨fl, hat, hfl⟩ := xO_at hP ho ht
  obtain ⟨v, hv, -⟩ := hfl k _ hf
  have hlen : k < fl.length := (List.getElem?_eq_some_iff.mp hv).1
  have hbl : Nat.blt k fl.length = true := Nat.ble_eq_true_of_le hlen
  have hat2 : pm_at (ph.set A (.inr (ci, fl.set k y))) A = some (.inr (ci, fl.set k y)) := xat_self hat
  refine gt_mem (ph' := ph.set A (.inr (ci, fl.set k y))) hc ?_ hp (kk _ ?_ ⟨?_, ?_, ?_⟩)
  · unfold pm_mem
    have e : Nat.beq ci ci = true := Nat.beq_refl ci
    simp only [hl, hat, e, hty, hfit, hbl, Bool.and_self, cond_true]
  · refine xH_set (t := .inr (ci, fts)) hP ho ht ⟨_, hat2, fun k2 ft2 hft2 => ?_⟩
    by_cases ek : k2 = k
    · subst ek
      rw [hf] at hft2
      cases hft2
      exact ⟨y, List.getElem?_set_self hlen, hy⟩
    · rw [List.getElem?_set_ne (Ne.symm ek)]
      exact hfl k2 ft2 hft2
  · unfold xget
    rw [hat2]
    exact List.getElem?_set_self hlen
  · intro b c hne
    by_cases eb : b = A
    · subst eb
      unfold xget
      rw [hat2, hat]
      show (fl.set k y)[c]? = fl[c]?
      exact List.getElem?_set_ne (fun q => hne ⟨rfl, q.symm⟩)
    · exact xget_ne eb
  · intro b eb
    exact xat_ne eb
theorem gt_ocv {j' : Nat} {P : Option Value → pm_H → Prop} (hc : pm_code kK j pc = some (6, .invokevirtual fi, aux)) (hl : pm_lnk kK (pm_own kK j) fi = some (2, j', n, .ref ci)) (hP : xH xX kK m w ph) (ho : xown A = some i) (ht : xkt i = some (some A, .inr (ci, fts))) (hd : st.drop n = .ref A :: r) (hcat : Nat.ble (r.map fun v => v.category).sum 8 = true) (ha : .ref A :: (st.take n).reverse = as) (hr : ∃ v ph', pm_Rd kK false D j' as ph (v, ph', 0, 0) ∧ P v ph') (hp : pc + 3 = pc') (kk : ∀ v ph', P v ph' → xGT kK D j Q (pc', L, v.toList ++ r, ph', 0, 0)) : xGT kK D j Q (pc, L, st, ph, 0, 0) := by
  obtain ⟨fl, hat, -⟩ := xO_at hP ho ht
  exact gt_call (as := as) (r := r) hc (xinvV hl hd hat hcat ha) hr hp kk
end YO
