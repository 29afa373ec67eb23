/-! The law: its frame -/
theorem kRO2 {ad : Nat → Nat} {A : Nat → Prop} {U : State} {H : Heap} {xs : Nat → Int32} {L : Nat} (h : pm_RO kzs krs kaos knws kK krof ad A U H) (hs : va_T .int (ad 1048581) L (fun j => .int (xs j)) A U H) : pm_RO kzs krs kaos knws (kK2 xs L) krof ad A U H := by
  obtain ⟨h1, h2, h3, h4, h5, h6⟩ := h
  have e1 : pm_ro (kK2 xs L) = pm_ro kK := Eq.trans (show pm_ro (kK2 xs L) = kro from rfl) (show kro = pm_ro kK from rfl)
  refine ⟨h1, h2, ?_, by rw [e1]; exact h4, h5, h6⟩
  intro a t n f hf
  by_cases e : a = 1048581
  · subst e
    have hf2 : some (0, L, fun j => Value.int (xs j)) = some (t, n, f) := hf
    cases hf2
    exact ⟨.int, Or.inl ⟨rfl, rfl⟩, hs⟩
  · refine h3 a t n f ?_
    cases hb : Nat.blt a 1048576 with
    | true =>
      unfold pm_rat at hf
      rw [hb] at hf
      cases hf
    | false =>
      have ha : 1048576 ≤ a := by
        rcases Nat.lt_or_ge a 1048576 with q | q
        · exact absurd (show Nat.blt a 1048576 = true from Nat.ble_eq_true_of_le q) (by rw [hb]; exact fun z => by cases z)
        · exact q
      obtain ⟨k, rfl⟩ : ∃ k, a = 1048576 + k := ⟨a - 1048576, by omega⟩
      have e9 : 1048576 + k - 1048576 = k := by omega
      have hne : k ≠ 5 := fun q => e (by rw [q])
      have hf2 : kra2 xs L k = some (t, n, f) := by
        unfold pm_rat at hf
        rw [hb] at hf
        simp only [cond_false, e9] at hf
        exact hf
      have h5 : Nat.beq k 5 = false := by
        cases hq : Nat.beq k 5 with
        | false => rfl
        | true => exact absurd (Nat.eq_of_beq_eq_true hq) hne
      unfold kra2 at hf2
      rw [h5] at hf2
      unfold pm_rat
      rw [hb]
      simp only [cond_false, e9]
      exact hf2
section KLAW
variable {p : Program} {l : Launch} {e : Env} {s : State} {m : MethodId} {below : List Frame} {meth : Method} {c : Code} {b L : Nat} {xs : Nat → Int32} {D : va_G} {dA : Nat → ClassId} {ra : Nat → Nat} {Q : State → Prop}
/-- what stands fast in the law's frame -/
def kFx (p : Program) (s : State) (m : MethodId) (meth : Method) (c : Code) (b L : Nat) (xs : Nat → Int32) (D : va_G) (dA : Nat → ClassId) (ra : Nat → Nat) : Prop :=
  lw_At p s m meth c b L xs ∧ ra 5 = b ∧ va_K D kcl (pm_tys dA "BonnetValley$State") s ∧ pm_RO kzs krs kaos knws kK krof (pm_ad s.heap.size ra) (fun q => s.heap.size ≤ q) s s.heap ∧ pm_RO kzs krs kaos knws (kK2 xs L) krof (pm_ad s.heap.size ra) (fun q => s.heap.size ≤ q) s s.heap
/-- from the state y of the law's frame on -/
def kW (p : Program) (l : Launch) (e : Env) (s : State) (m : MethodId) (below : List Frame) (meth : Method) (c : Code) (b : Nat) (D : va_G) (dA : Nat → ClassId) (ra : Nat → Nat) (al : Bool) (Q : State → Prop) (y : pm_S) : Prop :=
  ∀ (H : Heap) (locs : List Loc) (ls : Array Slot), va_P D kcl (pm_ws (pm_ad s.heap.size ra) dA s.heap.size y.2.2.2.1) H → va_S (fun q => s.heap.size ≤ q) s.heap H locs → (al = true → H.size = s.heap.size + y.2.2.2.1.length) → pm_lr (pm_ad s.heap.size ra) ls c.maxLocals y.2.1 → W p l e room_1 s m #[Value.ref b] below meth c H locs y.2.2.2.2.1 y.2.2.2.2.2 Q (F0 m y.1 ls (y.2.2.1.map (pm_u (pm_ad s.heap.size ra))))
theorem kW_run {al : Bool} {d n : Nat} {x y : pm_S} (F : kFx p s m meth c b L xs D dA ra) (hd : d ≤ 600) (h : pm_Sn (kK2 xs L) al (pm_Rd kK al d) 0 n x y) (hc : y.2.2.2.2.1 ≤ 601024) (hs : y.2.2.2.2.2 ≤ 7293034) (kk : kW p l e s m below meth c b D dA ra al Q y) : kW p l e s m below meth c b D dA ra al Q x := by
  intro H locs ls hP hS hz hl
  obtain ⟨⟨hx, hb, hr, hml, hown, hts, hX, hbl, hlocks, hgv⟩, h5, hK, hRO, hRO2⟩ := F
  have hw : ∀ w ∈ kALL, w.before #[Value.ref b] s = true := fun w h => hts w (List.mem_filter.mp h).1
  exact pm_S_ok (d := d) kok (pm_sound kok l d) hx hb hown hw kocd2 kolk2 kck2 kE hK hRO hRO2 (Nat.le_refl _) (show d + 1 ≤ 2048 by omega) (show d * 128 + 128 ≤ 84000 by omega) n x y h hc hs H locs ls hP hS hz hl kk
theorem kW_all {y : pm_S} (kk : kW p l e s m below meth c b D dA ra false Q y) : kW p l e s m below meth c b D dA ra true Q y := fun H locs ls hP hS _ hl => kk H locs ls hP hS (fun h => by cases h) hl
theorem kW_end {al : Bool} {Lc : List (Option Value)} {ph : pm_H} {cs ss : Nat} (F : kFx p s m meth c b L xs D dA ra) (hc : cs ≤ 601024) (hs : ss ≤ 7293034) : kW p l e s m below meth c b D dA ra al (lw_Z below #[Value.ref b] s) (1455, Lc, [.int 1], ph, cs, ss) := by
  intro H locs ls hP hS hz hl
  obtain ⟨⟨hx, hb, hr, hml, hown, hts, hX, hbl, hlocks, hgv⟩, h5, hK, hRO, hRO2⟩ := F
  refine va_forget (fun q hq => hS.2.2 q hq) ?_
  refine W.widen (k := 601024) (n := 7293034) hc hs ?_
  exact lw_ret hx hb hr hlocks (kocd2 (xs := xs) (L := L) 1455 7 .ireturn 0 rfl).1
/-- the entry -/
theorem kW_start (C0 : lw_At p s m meth c b L xs) (kk : ∀ (D : va_G) (dA : Nat → ClassId) (ra : Nat → Nat), kFx p s m meth c b L xs D dA ra → kW p l e s m below meth c b D dA ra true Q (pm_ent (kK2 xs L) 0 [.ref 1048581] [])) : W p l e room_1 s m #[Value.ref b] below meth c s.heap [] 0 0 Q (entryFrame m ([Value.ref b] : List Value).toArray 8) := by
  have C1 := C0
  obtain ⟨hx, hb, hr, hml, hown, hts, hX, hbl, hlocks, hgv⟩ := C0
  obtain ⟨D, dA, ra, h5, hK, hRO, hT⟩ := kstart hts hgv hX hbl
  have h5b : pm_ad s.heap.size ra 1048581 = b := h5
  have F : kFx p s m meth c b L xs D dA ra := ⟨C1, h5, hK, hRO, kRO2 hRO (by rw [h5b]; exact hT)⟩
  have hent : pm_entB (kK2 xs L) 0 [.ref 1048581] = true := rfl
  have hl := pm_ent_lr (ad := pm_ad s.heap.size ra) hent
  have e1 : ([Value.ref 1048581]).map (pm_u (pm_ad s.heap.size ra)) = [Value.ref b] := by
    show [Value.ref (pm_ad s.heap.size ra 1048581)] = _
    rw [h5b]
  rw [e1] at hl
  rw [lg_entry_eq]
  have hl2 : pm_lr (pm_ad s.heap.size ra) ((lg_sl [Value.ref b] ++ List.replicate (8 - (lg_sl [Value.ref b]).length) Slot.unset).toArray) c.maxLocals (pm_ent (kK2 xs L) 0 [.ref 1048581] []).2.1 := by
    rw [hml]
    exact hl
  exact kk D dA ra F s.heap [] _ (fun k q h => absurd h (by simp [pm_ws, pm_ent])) va_S.rf (fun _ => rfl) hl2
end KLAW
