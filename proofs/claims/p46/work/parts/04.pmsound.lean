/-! PM: soundness: a run of the pure machine is a contract -/
def pm_rm (d mc ms : Nat) : Room := { frames := d, cells := mc, slots := ms, locals := d * 128 }
def pm_wds (M : pm_M) (ALL : List Cond) (mj : Nat) : List Cond := Cond.code (M mj).1 (M mj).2.1 (M mj).2.2.1 (M mj).2.2.2 :: ALL
def pm_rk (kd : Nat) (ret : Option FieldType) : Prop := (kd = 0 → ret = none) ∧ (kd = 1 → ret = some .int) ∧ (kd = 2 → ret = some .boolean) ∧ (kd = 3 → ret = some .long) ∧ (kd = 4 → ∃ rt, ret = some rt ∧ ((∃ n, rt = .object n) ∨ ∃ t, rt = .array t)) ∧ (kd = 5 → ret = some .char) ∧ (kd = 6 → ret = some .byte)
/-- what a piece of group 8 is: the static, the call, and that the call runs alike with null and with a reference -/
def pm_m8 (K : pm_K) (bytes : ByteArray) (ALL : List Cond) (zs : List (String × String × String × Value)) (own : String) (ow pc : Nat) (ins : Instr) (aux : Nat) : Prop := ∃ (i : Nat) (C n d : String), ins = .getstatic i ∧ (C, n, d, Value.ref 1048579) ∈ zs ∧ Cond.fieldLink own i C n d ∈ ALL ∧ decode bytes (pc + 3) = .ok (.invokestatic aux, 3) ∧
  ∀ (al : Bool) (D : Nat) (x y : Int32) (st : List Value) (ph : pm_H) (j : Nat) (as r0 : List Value), ¬ y < 0 → y < x → pm_inv K ow (.invokestatic aux) (.null :: .int x :: .int y :: st) ph = some (j, as, r0) → ∃ as2, pm_inv K ow (.invokestatic aux) (.ref 1048579 :: .int x :: .int y :: st) ph = some (j, as2, r0) ∧ ∀ r, pm_Rd K al D j as ph r → pm_Rd K al D j as2 ph r
/-- what the claim's tables give, once for all -/
def pm_ok (K : pm_K) (M : pm_M) (cl : List vw_C) (ALL nws : List Cond) (zs : List (String × String × String × Value)) (rs : List (String × Nat × String × Nat)) (aos : List String) (rof : Nat → String × String × String) (cn : Nat → String) (E : String) : Prop :=
  (∀ ow i kd a b v, pm_lnk K ow i = some (kd, a, b, v) → pm_lk K M cl ALL nws zs rs aos rof (cn ow) i kd a b v) ∧ pm_ck K cl ALL ∧ pm_base ALL ∧ pm_nwf nws ∧ GoodIn ALL ALL ∧ (∀ r, cl[pm_eci K]? = some r → r.1 = E ∧ E ∈ aos) ∧
  (∀ mj pc g ins aux, pm_code K mj pc = some (g, ins, aux) → decode (M mj).2.1 pc = .ok (ins, pm_len ins aux) ∧ pm_tok ins pc aux ∧ (∀ (i ci k : Nat) (v : Value), ins = .putfield i → pm_lnk K (pm_own K mj) i = some (6, ci, k, v) → ∀ (C : String) (T : u_T) (N : Nat), cl[ci]? = some (C, T, N) → (T k).2.2.2 = true → (M mj).1.name = "<init>" ∧ C = cn (pm_own K mj))) ∧
  (∀ mj q, pm_code K mj 0 = some q → plainName (M mj).1.cls = true ∧ Cond.code (M mj).1 (M mj).2.1 (M mj).2.2.1 (M mj).2.2.2 ∈ ALL ∧ Cond.initialized (M mj).1.cls ∈ ALL ∧ (M mj).1.cls ≠ "java/lang/invoke/MethodHandle" ∧ (M mj).1.cls ≠ "java/lang/invoke/VarHandle" ∧ (M mj).2.2.1 = (pm_sig K mj).2.1 ∧ (M mj).2.2.1 ≤ 100 ∧ pm_rk (pm_sig K mj).2.2 (M mj).2.2.2 ∧ cn (pm_own K mj) = (M mj).1.cls) ∧
  (∀ mj pc ins aux, pm_code K mj pc = some (8, ins, aux) → pm_m8 K (M mj).2.1 ALL zs (cn (pm_own K mj)) (pm_own K mj) pc ins aux)
section PMK
variable (K : pm_K) (M : pm_M) (cl : List vw_C) (ALL nws : List Cond) (zs : List (String × String × String × Value)) (rs : List (String × Nat × String × Nat)) (aos : List String) (rof : Nat → String × String × String) (E : String) (D : va_G) (dA : Nat → ClassId) (B : Nat) (ra : Nat → Nat) (al : Bool)
/-- the world of ph stands at U -/
def pm_In (ph : pm_H) (U : State) : Prop := va_P D cl (pm_ws (pm_ad B ra) dA B ph) U.heap ∧ va_K D cl (pm_tys dA E) U ∧ B ≤ U.heap.size ∧ (al = true → U.heap.size = B + ph.length) ∧ pm_RO zs rs aos nws K rof (pm_ad B ra) (fun q => B ≤ q) U U.heap
def pm_Qc (r : pm_R) : Array Value → State → Outcome → State → Prop := fun _ st oc t => oc = .returned (r.1.map (pm_u (pm_ad B ra))) ∧ pm_In K cl nws zs rs aos rof E D dA B ra al r.2.1 t ∧ va_F (fun q => B ≤ q) st t
/-- the contract of one run -/
def pm_Ct (l : Launch) (d mj : Nat) (as : List Value) (ph : pm_H) (r : pm_R) : Prop :=
  Met l (M mj).1 (pm_wds M ALL mj) (pm_rm d r.2.2.1 r.2.2.2) (va_Pc (as.map (pm_u (pm_ad B ra))) (pm_In K cl nws zs rs aos rof E D dA B ra al ph)) (pm_Qc K cl nws zs rs aos rof E D dA B ra al r) r.2.2.1 r.2.2.2 (fun q => B ≤ q)
end PMK
section PMT
variable {K : pm_K} {M : pm_M} {cl : List vw_C} {ALL nws : List Cond} {zs : List (String × String × String × Value)} {rs : List (String × Nat × String × Nat)} {aos : List String} {rof : Nat → String × String × String} {cn : Nat → String} {E : String} {D : va_G} {dA : Nat → ClassId} {B : Nat} {ra : Nat → Nat} {al : Bool}
variable {p : Program} {l : Launch} {e : Env} {R : Room} {s : State} {m : MethodId} {args : Array Value} {below : List Frame} {meth : Method} {c : Code} {H : Heap} {locs : List Loc} {cells slots : Nat} {Q : State → Prop}
theorem pm_In_same (hn : pm_nwf nws) {ph : pm_H} {u U : State} (hv : U.vm = u.vm) (hh : U.heap = u.heap) (h : pm_In K cl nws zs rs aos rof E D dA B ra al ph u) : pm_In K cl nws zs rs aos rof E D dA B ra al ph U := by
  obtain ⟨h1, h2, h3, h4, h5⟩ := h
  exact ⟨by rw [hh]; exact h1, va_K.moved (by rw [hv]; exact Vm.Alike.refl _) h2, by rw [hh]; exact h3, by rw [hh]; exact h4, pm_RO.same hn hv hh h5⟩
theorem pm_blind (hn : pm_nwf nws) (as : List Value) (ph : pm_H) : FrameBlind (va_Pc (as.map (pm_u (pm_ad B ra))) (pm_In K cl nws zs rs aos rof E D dA B ra al ph)) :=
  fun a U g mk q => ⟨q.1, pm_In_same (u := U) (U := U.calling g mk a) hn rfl rfl q.2⟩
theorem pm_In_of (hn : pm_nwf nws) {ph : pm_H} (hP : va_P D cl (pm_ws (pm_ad B ra) dA B ph) H) (hK : va_K D cl (pm_tys dA E) s) (hB : B ≤ s.heap.size) (hS : va_S (fun q => B ≤ q) s.heap H locs) (hz : al = true → H.size = B + ph.length) (hRO : pm_RO zs rs aos nws K rof (pm_ad B ra) (fun q => B ≤ q) s s.heap) {U : State} (hU : U.heap = H) (hW : s.WarmedH U.vm) : pm_In K cl nws zs rs aos rof E D dA B ra al ph U :=
  ⟨by rw [hU]; exact hP, va_K.moved hW.alike hK, by rw [hU]; exact Nat.le_trans hB hS.1, fun q => by rw [hU]; exact hz q, hRO.warm hn hW (fun a h1 h2 => by rw [hU]; exact hS.2.1 a h1 h2)⟩
/-- behind a call -/
theorem pm_go {mc ms pc : Nat} {ls : Array Slot} {st0 rest : List Value} {a : Array Value} {r : pm_R} (hr : va_Run p l e R s m args below meth c H locs cells slots mc ms (F0 m pc ls st0) rest (pm_Qc K cl nws zs rs aos rof E D dA B ra al r a) (fun q => B ≤ q)) (hS : va_S (fun q => B ≤ q) s.heap H locs)
    (kk : ∀ (H1 : Heap) (locs1 : List Loc), va_P D cl (pm_ws (pm_ad B ra) dA B r.2.1) H1 → va_S (fun q => B ≤ q) s.heap H1 locs1 → (al = true → H1.size = B + r.2.1.length) → W p l e R s m args below meth c H1 locs1 (cells + mc) (slots + ms) Q (F0 m (pc + 3) ls ((r.1.map (pm_u (pm_ad B ra))).toList ++ rest))) : W p l e R s m args below meth c H locs cells slots Q (F0 m pc ls st0) := by
  intro T hT X
  obtain ⟨v, st₀, t, T', L, h0, X', hL, e1, e2, ⟨hv, ⟨hP, hK, hB, hz, hRO⟩, hF⟩, st⟩ := hr T hT X
  cases hv
  have hz1 : H.size ≤ T'.heap.size := by rw [e1, ← h0]; exact hF.1
  obtain ⟨t2, a1, b1⟩ := kk T'.heap (locs ++ L) (by rw [e1]; exact hP) ⟨Nat.le_trans hS.1 hz1, fun q h1 h2 => by rw [e1, hF.2 q (by rw [h0]; exact Nat.lt_of_lt_of_le h1 hS.1) h2, h0]; exact hS.2.1 q h1 h2, fun q hq => by
      rcases List.mem_append.mp hq with h | h
      · exact hS.2.2 q h
      · exact hL q h⟩ (fun q => by rw [e1]; exact hz q) T' rfl X'
  exact ⟨t2, st t2 a1, b1⟩
theorem pm_tk {n : Nat} {st : List Value} (f : Value → Value) : ((st.take n).reverse.map f).reverse ++ (st.drop n).map f = st.map f := by
  rw [← List.map_reverse, List.reverse_reverse, ← List.map_append, List.take_append_drop]
theorem pm_tkl {n : Nat} {st : List Value} (f : Value → Value) (h : n ≤ st.length) : ((st.take n).reverse.map f).length = n := by
  simp
  omega
theorem pm_dropl {n : Nat} {st r : List Value} {v : Value} (h : st.drop n = v :: r) : n ≤ st.length := by
  have h1 := congrArg List.length h
  simp at h1
  omega
/-- a call -/
theorem pm_inv_ok {cc : ByteArray} {pc aux d mj j : Nat} {ls : Array Slot} {ins : Instr} {st rest as : List Value} {ph : pm_H} {r : pm_R} (ok : pm_ok K M cl ALL nws zs rs aos rof cn E)
    (hx : p.tables.exec = Jvm.exec) (hb : c.code = cc) (hd : decode cc pc = .ok (ins, pm_len ins aux)) (hml : ls.size = c.maxLocals) (hown : s.vm.findClass (cn (pm_own K mj)) = some m.cls) (hts : ∀ w ∈ ALL, w.before args s = true)
    (hK : va_K D cl (pm_tys dA E) s) (hRO : pm_RO zs rs aos nws K rof (pm_ad B ra) (fun q => B ≤ q) s s.heap) (hB : B ≤ s.heap.size)
    (hP : va_P D cl (pm_ws (pm_ad B ra) dA B ph) H) (hS : va_S (fun q => B ≤ q) s.heap H locs) (hz : al = true → H.size = B + ph.length) (hfr : d + 1 ≤ R.frames) (hlo : d * 128 + 128 ≤ R.locals) (hR : cells + r.2.2.1 ≤ R.cells ∧ slots + r.2.2.2 ≤ R.slots)
    (h : pm_inv K (pm_own K mj) ins st ph = some (j, as, rest)) (hcode : ∃ q, pm_code K j 0 = some q) (hC : pm_Ct K M cl ALL nws zs rs aos rof E D dA B ra al l d j as ph r)
    (kk : ∀ (H1 : Heap) (locs1 : List Loc), va_P D cl (pm_ws (pm_ad B ra) dA B r.2.1) H1 → va_S (fun q => B ≤ q) s.heap H1 locs1 → (al = true → H1.size = B + r.2.1.length) → W p l e R s m args below meth c H1 locs1 (cells + r.2.2.1) (slots + r.2.2.2) Q (F0 m (pc + 3) ls ((r.1.toList ++ rest).map (pm_u (pm_ad B ra))))) :
    W p l e R s m args below meth c H locs cells slots Q (F0 m pc ls (st.map (pm_u (pm_ad B ra)))) := by
  obtain ⟨olk, ock, obs, onw, oG, oE, ocd, omk, om8⟩ := ok
  obtain ⟨q0, hq0⟩ := hcode
  obtain ⟨m1, m2, m3, m4, m5, m6, m7, m8, m9⟩ := omk j q0 hq0
  have hnw : ∀ w ∈ nws, va_Nw w s := hRO.2.2.2.2.2
  have kk2 : ∀ (H1 : Heap) (locs1 : List Loc), va_P D cl (pm_ws (pm_ad B ra) dA B r.2.1) H1 → va_S (fun q => B ≤ q) s.heap H1 locs1 → (al = true → H1.size = B + r.2.1.length) → W p l e R s m args below meth c H1 locs1 (cells + r.2.2.1) (slots + r.2.2.2) Q (F0 m (pc + 3) ls ((r.1.map (pm_u (pm_ad B ra))).toList ++ rest.map (pm_u (pm_ad B ra)))) := by
    intro H1 locs1 a1 a2 a3
    have e9 : (r.1.map (pm_u (pm_ad B ra))).toList ++ rest.map (pm_u (pm_ad B ra)) = (r.1.toList ++ rest).map (pm_u (pm_ad B ra)) := by cases r.1 <;> rfl
    rw [e9]
    exact kk H1 locs1 a1 a2 a3
  have hGj : GoodIn ALL (pm_wds M ALL j) := by
    intro w hw
    rcases List.mem_cons.mp hw with rfl | hw
    · exact oG _ m2
    · exact oG _ hw
  have S : CallFix p m c cc c.maxLocals s args ALL (cn (pm_own K mj)) := ⟨hx, hb, rfl, hown, hts⟩
  have hRm : (pm_rm d r.2.2.1 r.2.2.2).frames + 1 ≤ R.frames ∧ 8 + ((M j).2.2.1 + 11) + (pm_rm d r.2.2.1 r.2.2.2).locals ≤ R.locals := ⟨hfr, by show 8 + ((M j).2.2.1 + 11) + d * 128 ≤ R.locals; omega⟩
  have hpre : ∀ U : State, U.heap = H → s.WarmedH U.vm → pm_In K cl nws zs rs aos rof E D dA B ra al ph U := fun U hU hW => pm_In_of onw hP hK hB hS hz hRO hU hW
  have room : ∀ {rr : List Value}, Nat.ble (rr.map fun v => v.category).sum 8 = true → ((rr.map (pm_u (pm_ad B ra))).map fun v => v.category).sum ≤ 8 := fun {rr} q => by rw [pm_u_sum]; exact Nat.le_of_ble_eq_true q
  have cB : ∀ {i n : Nat}, Cond.methodLink (cn (pm_own K mj)) i (M j).1 ∈ ALL → (parseMethodDescriptor (M j).1.desc).map (fun d => d.parameters.length) = some n → CallB R s args (cn (pm_own K mj)) i (M j).1 (M j).2.1 (M j).2.2.1 (M j).2.2.2 (pm_wds M ALL j) (pm_rm d r.2.2.1 r.2.2.2) r.2.2.1 r.2.2.2 n := fun {i n} hl hn => callB_of n hts hGj rfl rfl rfl (hts _ m3) (hts _ hl) ⟨m4, m5, hn⟩ hRm
  have cN : ∀ {i n : Nat} {host : String}, Cond.methodLinkNest (cn (pm_own K mj)) i (M j).1 host ∈ nws → (parseMethodDescriptor (M j).1.desc).map (fun d => d.parameters.length) = some n → va_CN R s args (cn (pm_own K mj)) i (M j).1 host (M j).2.1 (M j).2.2.1 (M j).2.2.2 (pm_wds M ALL j) (pm_rm d r.2.2.1 r.2.2.2) r.2.2.1 r.2.2.2 n := fun {i n host} hl hn => va_cnB n hts hGj rfl rfl rfl (hnw _ hl) (hts _ m3) ⟨m4, m5, hn⟩ hRm
  unfold pm_inv at h
  split at h
  · next i =>
    split at h
    · next j9 n w hw =>
      obtain ⟨hq, h2⟩ := pm_bif h
      cases h2
      obtain ⟨h3, h4⟩ := pm_and hq
      have hle : n ≤ st.length := Nat.le_of_ble_eq_true h3
      obtain ⟨hl, hn⟩ := (olk _ _ _ _ _ _ hw).2.2.2.2.2.2.2.2.2.2.1 (Or.inl rfl)
      have hst := (olk _ _ _ _ _ _ hw).2.2.2.2.2.2.2.2.2.2.2.1 rfl
      have hp : PreS s H (va_Pc ((st.take n).reverse.map (pm_u (pm_ad B ra))) (pm_In K cl nws zs rs aos rof E D dA B ra al ph)) ((st.take n).reverse.map (pm_u (pm_ad B ra))) := ⟨pm_blind onw _ _, fun U hU hW => ⟨rfl, hpre U hU hW⟩⟩
      rcases hl with hl | ⟨host, hl⟩
      · exact pm_go (va_runS S hC ⟨cB hl hn, hts _ hst⟩ hp rfl (pm_tkl _ hle) hml (pm_tk _).symm (lv_room (room h4)) hd hR) hS kk2
      · exact pm_go (va_runSN S hC ⟨cN hl hn, hts _ hst, trivial⟩ hp rfl (pm_tkl _ hle) hml (pm_tk _).symm (lv_room (room h4)) hd hR) hS kk2
    · cases h
  · next i =>
    split at h
    · next j9 n ci hw =>
      split at h
      · next a r9 hdr =>
        split at h
        · next cj fs hph =>
          obtain ⟨hq, h2⟩ := pm_bif h
          cases h2
          obtain ⟨h3, h4⟩ := pm_and hq
          have hcj : ci = cj := Nat.eq_of_beq_eq_true h3
          subst hcj
          have hle : n ≤ st.length := pm_dropl hdr
          obtain ⟨hl, hn⟩ := (olk _ _ _ _ _ _ hw).2.2.2.2.2.2.2.2.2.2.1 (Or.inr (Or.inl rfl))
          obtain ⟨hin, hse, hcls, -⟩ := (olk _ _ _ _ _ _ hw).2.2.2.2.2.2.2.2.2.2.2.2.1 rfl
          obtain ⟨T, N, hc⟩ := hcls ci rfl
          have e9 : pm_ad B ra a = B + a := pm_adE hph
          have hp : PreV s H (M j).1.cls (B + a) (va_Pc ((Value.ref a :: (st.take n).reverse).map (pm_u (pm_ad B ra))) (pm_In K cl nws zs rs aos rof E D dA B ra al ph)) ((st.take n).reverse.map (pm_u (pm_ad B ra))) := by
            refine ⟨pm_blind onw _ _, ?_, fun U hU hW => ⟨?_, hpre U hU hW⟩⟩
            · exact va_recv hK hP (ci := ci) (q0 := a) hc (pm_getE hph)
            · show _ = (Value.ref (pm_ad B ra a) :: _).toArray
              rw [e9]
          have hstk : st.map (pm_u (pm_ad B ra)) = ((st.take n).reverse.map (pm_u (pm_ad B ra))).reverse ++ .ref (B + a) :: rest.map (pm_u (pm_ad B ra)) := by
            rw [← pm_tk (n := n) (st := st) (pm_u (pm_ad B ra)), hdr, ← e9]
            rfl
          have hC2 : Met l (M j).1 (pm_wds M ALL j) (pm_rm d r.2.2.1 r.2.2.2) (va_Pc ((Value.ref a :: (st.take n).reverse).map (pm_u (pm_ad B ra))) (pm_In K cl nws zs rs aos rof E D dA B ra al ph)) (pm_Qc K cl nws zs rs aos rof E D dA B ra al r) r.2.2.1 r.2.2.2 (fun q => B ≤ q) := hC
          rcases hl with hl | ⟨host, hl⟩
          · exact pm_go (va_runV S hC2 ⟨cB hl hn, hts _ hin, hts _ hse⟩ hp rfl (pm_tkl _ hle) hml hstk (lv_room (room h4)) hd hR) hS kk2
          · exact pm_go (va_runVN S hC2 ⟨cN hl hn, hts _ hin, hts _ hse⟩ hp rfl (pm_tkl _ hle) hml hstk (lv_room (room h4)) hd hR) hS kk2
        · cases h
      · cases h
    · next j9 n hw =>
      split at h
      · next a r9 hdr =>
        cases hq : Nat.blt a 1048576 with
        | true => rw [hq] at h; cases h
        | false =>
          rw [hq] at h
          simp only [cond_false] at h
          split at h
          · next v9 hv9 =>
            obtain ⟨h4, h2⟩ := pm_bif h
            cases h2
            have hle : n ≤ st.length := pm_dropl hdr
            obtain ⟨hl, hn⟩ := (olk _ _ _ _ _ _ hw).2.2.2.2.2.2.2.2.2.2.1 (Or.inr (Or.inl rfl))
            obtain ⟨hin, hse, -, hcls⟩ := (olk _ _ _ _ _ _ hw).2.2.2.2.2.2.2.2.2.2.2.2.1 rfl
            have hcs := hcls rfl
            have hp : PreV s H (M j).1.cls (pm_ad B ra a) (va_Pc ((Value.ref a :: (st.take n).reverse).map (pm_u (pm_ad B ra))) (pm_In K cl nws zs rs aos rof E D dA B ra al ph)) ((st.take n).reverse.map (pm_u (pm_ad B ra))) := by
              refine ⟨pm_blind onw _ _, ?_, fun U hU hW => ⟨rfl, hpre U hU hW⟩⟩
              obtain ⟨cell, g1, g2, g3, -⟩ := ((hRO.2.2.2.1 a _ _ hq hv9).1).kept hS.2.1
              exact ⟨cell, g1, g2, by rw [hcs]; exact g3⟩
            have hstk : st.map (pm_u (pm_ad B ra)) = ((st.take n).reverse.map (pm_u (pm_ad B ra))).reverse ++ .ref (pm_ad B ra a) :: rest.map (pm_u (pm_ad B ra)) := by
              rw [← pm_tk (n := n) (st := st) (pm_u (pm_ad B ra)), hdr]
              rfl
            have hC2 : Met l (M j).1 (pm_wds M ALL j) (pm_rm d r.2.2.1 r.2.2.2) (va_Pc ((Value.ref a :: (st.take n).reverse).map (pm_u (pm_ad B ra))) (pm_In K cl nws zs rs aos rof E D dA B ra al ph)) (pm_Qc K cl nws zs rs aos rof E D dA B ra al r) r.2.2.1 r.2.2.2 (fun q => B ≤ q) := hC
            rcases hl with hl | ⟨host, hl⟩
            · exact pm_go (va_runV S hC2 ⟨cB hl hn, hts _ hin, hts _ hse⟩ hp rfl (pm_tkl _ hle) hml hstk (lv_room (room h4)) hd hR) hS kk2
            · exact pm_go (va_runVN S hC2 ⟨cN hl hn, hts _ hin, hts _ hse⟩ hp rfl (pm_tkl _ hle) hml hstk (lv_room (room h4)) hd hR) hS kk2
          · cases h
      · cases h
    · cases h
  · next i =>
    split at h
    · next j9 n w hw =>
      split at h
      · next a r9 hdr =>
        obtain ⟨h4, h2⟩ := pm_bif h
        cases h2
        have hle : n ≤ st.length := pm_dropl hdr
        obtain ⟨hl, hn⟩ := (olk _ _ _ _ _ _ hw).2.2.2.2.2.2.2.2.2.2.1 (Or.inr (Or.inr rfl))
        obtain ⟨hnm, hin, hrt⟩ := (olk _ _ _ _ _ _ hw).2.2.2.2.2.2.2.2.2.2.2.2.2.1 rfl
        have hp : PreS s H (va_Pc ((Value.ref a :: (st.take n).reverse).map (pm_u (pm_ad B ra))) (pm_In K cl nws zs rs aos rof E D dA B ra al ph)) (.ref (pm_ad B ra a) :: (st.take n).reverse.map (pm_u (pm_ad B ra))) := ⟨pm_blind onw _ _, fun U hU hW => ⟨rfl, hpre U hU hW⟩⟩
        have hstk : st.map (pm_u (pm_ad B ra)) = ((st.take n).reverse.map (pm_u (pm_ad B ra))).reverse ++ .ref (pm_ad B ra a) :: rest.map (pm_u (pm_ad B ra)) := by
          rw [← pm_tk (n := n) (st := st) (pm_u (pm_ad B ra)), hdr]
          rfl
        have hC2 : Met l (M j).1 (pm_wds M ALL j) (pm_rm d r.2.2.1 r.2.2.2) (va_Pc ((Value.ref a :: (st.take n).reverse).map (pm_u (pm_ad B ra))) (pm_In K cl nws zs rs aos rof E D dA B ra al ph)) (pm_Qc K cl nws zs rs aos rof E D dA B ra al r) r.2.2.1 r.2.2.2 (fun q => B ≤ q) := hC
        rcases hl with hl | ⟨host, hl⟩
        · exact pm_go (va_runI (bytes := (M j).2.1) (maxL := (M j).2.2.1) S hC2 ⟨by rw [← hrt]; exact cB hl hn, hnm, hts _ hin⟩ hp rfl (pm_tkl _ hle) hml hstk (lv_room (room h4)) hd hR) hS kk2
        · exact pm_go (va_runIN (bytes := (M j).2.1) (maxL := (M j).2.2.1) S hC2 ⟨by rw [← hrt]; exact cN hl hn, hnm, hts _ hin⟩ hp rfl (pm_tkl _ hle) hml hstk (lv_room (room h4)) hd hR) hS kk2
      · cases h
    · cases h
  · cases h
theorem pm_Tn_mono {C : Nat → List Value → pm_H → pm_R → Prop} {mj : Nat} : ∀ (n : Nat) (x : pm_S) (r : pm_R), pm_Tn K al C mj n x r → x.2.2.2.2.1 ≤ r.2.2.1 ∧ x.2.2.2.2.2 ≤ r.2.2.2 := by
  intro n
  induction n with
  | zero => intro x r h; exact h.elim
  | succ n ih =>
    intro x r h
    rw [pm_Tn] at h
    split at h
    · exact h.elim
    · next x' hx =>
      obtain ⟨pc, L, st, ph, cs, ss⟩ := x
      have h2 := ih _ _ h
      have h3 : cs ≤ x'.2.2.2.2.1 ∧ ss ≤ x'.2.2.2.2.2 := by
        unfold pm_step at hx
        simp only at hx
        split at hx
        · cases hx
        · next g ins aux hc =>
          split at hx
          all_goals first
            | (cases hx; done)
            | (split at hx <;> first | (cases hx; exact ⟨Nat.le_refl _, Nat.le_refl _⟩) | (cases hx; exact ⟨Nat.le_add_right _ _, Nat.le_add_right _ _⟩) | (cases hx; done))
      exact ⟨Nat.le_trans h3.1 h2.1, Nat.le_trans h3.2 h2.2⟩
    · next j as pc L st ph cs ss hx =>
      obtain ⟨v, ph', c1, s1, -, h⟩ := h
      have h2 := ih _ _ h
      obtain ⟨pc0, L0, st0, ph0, cs0, ss0⟩ := x
      have h3 : cs0 = cs ∧ ss0 = ss := by
        unfold pm_step at hx
        simp only at hx
        split at hx
        · cases hx
        · next g ins aux hc =>
          split at hx
          all_goals first
            | (cases hx; done)
            | (split at hx <;> first | (cases hx; exact ⟨rfl, rfl⟩) | (cases hx; done))
      obtain ⟨rfl, rfl⟩ := h3
      exact ⟨Nat.le_trans (Nat.le_add_right _ _) h2.1, Nat.le_trans (Nat.le_add_right _ _) h2.2⟩
    · next v hx =>
      subst h
      exact ⟨Nat.le_refl _, Nat.le_refl _⟩
theorem pm_Rd_code {d j : Nat} {as : List Value} {ph : pm_H} {r : pm_R} (h : pm_Rd K al d j as ph r) : ∃ q, pm_code K j 0 = some q := by
  cases d with
  | zero => exact h.elim
  | succ d =>
    obtain ⟨-, n, hn⟩ := h
    cases n with
    | zero => exact hn.elim
    | succ n =>
      cases hq : pm_code K j 0 with
      | some q => exact ⟨q, rfl⟩
      | none =>
        rw [pm_Tn] at hn
        simp [pm_step, pm_ent, hq] at hn
set_option maxHeartbeats 4000000 in
/-- from any state within a method -/
theorem pm_T_ok (ok : pm_ok K M cl ALL nws zs rs aos rof cn E) {d mj : Nat} (IH : ∀ j as ph r, pm_Rd K al d j as ph r → pm_Ct K M cl ALL nws zs rs aos rof E D dA B ra al l d j as ph r)
    (hx : p.tables.exec = Jvm.exec) (hb : c.code = (M mj).2.1) (hret : meth.sig.returnType = (M mj).2.2.2) (hrk : pm_rk (pm_sig K mj).2.2 (M mj).2.2.2) (hown : s.vm.findClass (cn (pm_own K mj)) = some m.cls) (hname : meth.name = (M mj).1.name) (hlocks : meth.locks = false) (hts : ∀ w ∈ ALL, w.before args s = true)
    (hK : va_K D cl (pm_tys dA E) s) (hRO : pm_RO zs rs aos nws K rof (pm_ad B ra) (fun q => B ≤ q) s s.heap) (hB : B ≤ s.heap.size) :
    ∀ (n : Nat) (x : pm_S) (r : pm_R), pm_Tn K al (pm_Rd K al d) mj n x r → ∀ (H : Heap) (locs : List Loc) (ls : Array Slot), va_P D cl (pm_ws (pm_ad B ra) dA B x.2.2.2.1) H → va_S (fun q => B ≤ q) s.heap H locs → (al = true → H.size = B + x.2.2.2.1.length) → pm_lr (pm_ad B ra) ls c.maxLocals x.2.1 →
      W p l e (pm_rm (d + 1) r.2.2.1 r.2.2.2) s m args below meth c H locs x.2.2.2.2.1 x.2.2.2.2.2 (MQ below (pm_Qc K cl nws zs rs aos rof E D dA B ra al r) args s r.2.2.1 r.2.2.2 (fun q => B ≤ q)) (F0 m x.1 ls (x.2.2.1.map (pm_u (pm_ad B ra)))) := by
  have ok0 := ok
  obtain ⟨olk, ock, obs, onw, oG, oE, ocd, omk, om8⟩ := ok
  intro n
  induction n with
  | zero => intro x r h; exact h.elim
  | succ n ih =>
    intro x r h H locs ls hP hS hz hl
    have hmono := pm_Tn_mono _ _ _ h
    rw [pm_Tn] at h
    split at h
    · exact h.elim
    · next x' hx0 =>
      have hmono2 := pm_Tn_mono _ _ _ h
      obtain ⟨pc, L, st, ph, cs, ss⟩ := x
      have ih2 := ih _ _ h
      unfold pm_step at hx0
      simp only at hx0
      split at hx0
      · cases hx0
      · next g ins aux hc =>
        obtain ⟨hd, htk, hfin⟩ := ocd _ _ _ _ _ hc
        split at hx0
        · split at hx0
          · next st' hs =>
            cases hx0
            exact pm_alu_ok hx hb hd hs (ih2 H locs ls hP hS hz hl)
          · cases hx0
        · split at hx0
          · next v k hs =>
            cases hx0
            exact pm_push_ok hx hb hd hown hts (fun i kd a b v hw => olk _ i kd a b v hw) hRO hS hs (ih2 H locs ls hP hS hz hl)
          · cases hx0
        · split at hx0
          · next v k hs =>
            cases hx0
            exact pm_load_ok hx hb hd hl hs (ih2 H locs ls hP hS hz hl)
          · cases hx0
        · split at hx0
          · next L' st' k hs =>
            cases hx0
            exact pm_store_ok hx hb hd hl hs (fun ls' hl' => ih2 H locs ls' hP hS hz hl')
          · cases hx0
        · split at hx0
          · next pc' st' hs =>
            cases hx0
            exact pm_br_ok hx hb hd htk hs (ih2 H locs ls hP hS hz hl)
          · cases hx0
        · split at hx0
          · next k st' ph' c1 s1 hs =>
            cases hx0
            refine pm_mem_ok hx hb hd hl.1 hown hts (fun i kd a b v hw => olk _ i kd a b v hw) ock obs ?_ oE hK hRO hB hP hS hz (Nat.le_add_left 1 d) ?_ hmono2 hs (fun H1 locs1 hP1 hS1 hz1 => ih2 H1 locs1 ls hP1 hS1 hz1 hl)
            · intro i ci k v e1 e2 C T N e3 e4
              obtain ⟨g1, g2⟩ := hfin i ci k v e1 e2 C T N e3 e4
              exact ⟨hname.trans g1, g2⟩
            · show 8 + (nativeFrameWords "java/lang/System" "arraycopy" 5 + 13) ≤ (d + 1) * 128
              have e0 : nativeFrameWords "java/lang/System" "arraycopy" 5 ≤ 100 := by decide +kernel
              omega
          · cases hx0
        · split at hx0
          · cases hx0
          · cases hx0
        · split at hx0
          · cases hx0
          · cases hx0
        · split at hx0
          · cases hx0
          · cases hx0
        · cases hx0
    · next j as pc L st ph cs ss hx0 =>
      obtain ⟨v, ph', c1, s1, hC, h⟩ := h
      have hmono2 := pm_Tn_mono _ _ _ h
      obtain ⟨pc0, L0, st0, ph0, cs0, ss0⟩ := x
      have ih2 := ih _ _ h
      unfold pm_step at hx0
      simp only at hx0
      split at hx0
      · cases hx0
      · next g ins aux hc =>
        obtain ⟨hd, htk, hfin⟩ := ocd _ _ _ _ _ hc
        split at hx0
        · split at hx0
          · cases hx0
          · cases hx0
        · split at hx0
          · cases hx0
          · cases hx0
        · split at hx0
          · cases hx0
          · cases hx0
        · split at hx0
          · cases hx0
          · cases hx0
        · split at hx0
          · cases hx0
          · cases hx0
        · split at hx0
          · cases hx0
          · cases hx0
        · split at hx0
          · next j' as' r' hs =>
            cases hx0
            exact pm_inv_ok (d := d) (r := (v, ph', c1, s1)) ok0 hx hb hd hl.1 hown hts hK hRO hB hP hS hz (Nat.le_refl _) (by show d * 128 + 128 ≤ (d + 1) * 128; omega) hmono2 hs (pm_Rd_code hC) (IH _ _ _ _ hC) (fun H1 locs1 hP1 hS1 hz1 => ih2 H1 locs1 ls hP1 hS1 hz1 hl)
          · cases hx0
        · split at hx0
          · cases hx0
          · cases hx0
        · split at hx0
          · next j' as' r' hs =>
            cases hx0
            obtain ⟨i8, C8, n8, d8, e8, hz8, hc8, hd8, hsim⟩ := om8 _ _ _ _ hc
            subst e8
            unfold pm_mac at hs
            split at hs
            · next xx yy rr =>
              cases hcond : (!decide (yy < 0) && decide (yy < xx)) with
              | false => rw [hcond] at hs; cases hs
              | true =>
                rw [hcond] at hs
                simp only [cond_true] at hs
                obtain ⟨q1, q2⟩ := pm_and hcond
                have q1' : ¬ yy < 0 := fun q => by rw [decide_eq_true q] at q1; cases q1
                obtain ⟨as2, hi2, hr2⟩ := hsim al d xx yy rr ph _ _ _ q1' (of_decide_eq_true q2) hs
                rcases hRO.1 _ hz8 with hz9 | ⟨-, hz9⟩
                · refine va_gets hx hb hz9 hS hown (hts _ hc8) (fun _ h9 => h9) hd ?_
                  exact pm_inv_ok (d := d) (aux := 0) (st := .ref 1048579 :: .int xx :: .int yy :: rr) (r := (v, ph', c1, s1)) ok0 hx hb hd8 hl.1 hown hts hK hRO hB hP hS hz (Nat.le_refl _) (by show d * 128 + 128 ≤ (d + 1) * 128; omega) hmono2 hi2 (pm_Rd_code (hr2 _ hC)) (IH _ _ _ _ (hr2 _ hC)) (fun H1 locs1 hP1 hS1 hz1 => ih2 H1 locs1 ls hP1 hS1 hz1 hl)
                · refine va_gets hx hb hz9 hS hown (hts _ hc8) (fun _ h9 => h9) hd ?_
                  exact pm_inv_ok (d := d) (aux := 0) (st := .null :: .int xx :: .int yy :: rr) (r := (v, ph', c1, s1)) ok0 hx hb hd8 hl.1 hown hts hK hRO hB hP hS hz (Nat.le_refl _) (by show d * 128 + 128 ≤ (d + 1) * 128; omega) hmono2 hs (pm_Rd_code hC) (IH _ _ _ _ hC) (fun H1 locs1 hP1 hS1 hz1 => ih2 H1 locs1 ls hP1 hS1 hz1 hl)
            · cases hs
          · cases hx0
        · cases hx0
    · next v hx0 =>
      subst h
      obtain ⟨pc, L, st, ph, cs, ss⟩ := x
      have hq : ∀ t : State, t.heap = H → s.WarmedH t.vm → pm_Qc K cl nws zs rs aos rof E D dA B ra al (v, ph, cs, ss) args s (.returned (v.map (pm_u (pm_ad B ra)))) t := fun t ht hW => ⟨rfl, pm_In_of onw hP hK hB hS hz hRO ht hW, hS.F ht⟩
      unfold pm_step at hx0
      simp only at hx0
      split at hx0
      · cases hx0
      · next g ins aux hc =>
        obtain ⟨hd, htk, hfin⟩ := ocd _ _ _ _ _ hc
        obtain ⟨k0, k1, k2, k3, k4, k5, k6⟩ := hrk
        split at hx0
        · split at hx0
          · cases hx0
          · cases hx0
        · split at hx0
          · cases hx0
          · cases hx0
        · split at hx0
          · cases hx0
          · cases hx0
        · split at hx0
          · cases hx0
          · cases hx0
        · split at hx0
          · cases hx0
          · cases hx0
        · split at hx0
          · cases hx0
          · cases hx0
        · split at hx0
          · cases hx0
          · cases hx0
        · split at hx0
          · next w hs =>
            cases hx0
            unfold pm_ret at hs
            split at hs
            · obtain ⟨h1, rfl⟩ := pm_bif hs
              exact W.vret hx hb (hret.trans (k0 (Nat.eq_of_beq_eq_true h1))) hq hS.2.2 hd hlocks
            · next y =>
              cases e1 : Nat.beq (pm_sig K mj).2.2 1 with
              | true =>
                rw [e1] at hs
                cases hs
                exact W.iret hx hb (hret.trans (k1 (Nat.eq_of_beq_eq_true e1))) hq hS.2.2 hd hlocks
              | false =>
                rw [e1] at hs
                simp only [cond_false] at hs
                cases e2 : (Nat.beq (pm_sig K mj).2.2 2 && (bif decide (y = 0) then true else decide (y = 1))) with
                | true =>
                  rw [e2] at hs
                  cases hs
                  obtain ⟨e3, e4⟩ := pm_and e2
                  refine W.zret (ty := .boolean) hx hb (hret.trans (k2 (Nat.eq_of_beq_eq_true e3))) ?_ hq hS.2.2 hd hlocks
                  have e5 : pm_fit .boolean (.int y) = true := e4
                  exact (pm_fit_ok (ad := fun q => q) e5).1
                | false =>
                  rw [e2] at hs
                  simp only [cond_false] at hs
                  cases e6 : (Nat.beq (pm_sig K mj).2.2 5 && decide (y.toUInt32.toUInt16.toUInt32.toInt32 = y)) with
                  | true =>
                    rw [e6] at hs
                    cases hs
                    obtain ⟨e3, e4⟩ := pm_and e6
                    refine W.zret (ty := .char) hx hb (hret.trans (k5 (Nat.eq_of_beq_eq_true e3))) ?_ hq hS.2.2 hd hlocks
                    show Value.int y.toUInt32.toUInt16.toUInt32.toInt32 = _
                    rw [of_decide_eq_true e4]
                  | false =>
                    rw [e6] at hs
                    simp only [cond_false] at hs
                    obtain ⟨h1, rfl⟩ := pm_bif hs
                    obtain ⟨e3, e4⟩ := pm_and h1
                    refine W.zret (ty := .byte) hx hb (hret.trans (k6 (Nat.eq_of_beq_eq_true e3))) ?_ hq hS.2.2 hd hlocks
                    show Value.int y.toInt8.toInt32 = _
                    rw [of_decide_eq_true e4]
            · obtain ⟨h1, rfl⟩ := pm_bif hs
              exact W.lret hx hb (hret.trans (k3 (Nat.eq_of_beq_eq_true h1))) hq hS.2.2 hd hlocks
            · next a =>
              obtain ⟨h1, rfl⟩ := pm_bif hs
              obtain ⟨rt, e1, e2⟩ := k4 (Nat.eq_of_beq_eq_true h1)
              exact W.aret (v := .ref (pm_ad B ra a)) hx hb (hret.trans e1) e2 (Or.inr ⟨_, rfl⟩) hq hS.2.2 hd hlocks
            · obtain ⟨h1, rfl⟩ := pm_bif hs
              obtain ⟨rt, e1, e2⟩ := k4 (Nat.eq_of_beq_eq_true h1)
              exact W.aret (v := .null) hx hb (hret.trans e1) e2 (Or.inl rfl) hq hS.2.2 hd hlocks
            · cases hs
          · cases hx0
        · split at hx0
          · cases hx0
          · cases hx0
        · cases hx0
theorem pm_sl_eq (ad : Nat → Nat) : ∀ (as : List Value), lg_sl (as.map (pm_u ad)) = (pm_sl as).map (fun o => match o with | some v => Slot.val (pm_u ad v) | none => Slot.second) := by
  intro as
  induction as with
  | nil => rfl
  | cons v t ih =>
    have e0 : lg_sl ((v :: t).map (pm_u ad)) = (if (pm_u ad v).category = 2 then [Slot.val (pm_u ad v), Slot.second] else [Slot.val (pm_u ad v)]) ++ lg_sl (t.map (pm_u ad)) := rfl
    rw [e0, ih]
    cases v <;> rfl
theorem pm_ent_lr {ad : Nat → Nat} {mj : Nat} {as : List Value} (h : pm_entB K mj as = true) : pm_lr ad ((lg_sl (as.map (pm_u ad)) ++ List.replicate ((pm_sig K mj).2.1 - (lg_sl (as.map (pm_u ad))).length) Slot.unset).toArray) (pm_sig K mj).2.1 (pm_sl as ++ List.replicate ((pm_sig K mj).2.1 - (pm_sl as).length) none) := by
  have hlen : (lg_sl (as.map (pm_u ad))).length = (pm_sl as).length := by rw [pm_sl_eq, List.length_map]
  have hle : (pm_sl as).length ≤ (pm_sig K mj).2.1 := Nat.le_of_ble_eq_true h
  obtain ⟨g1, g2, -⟩ := lv_entry (as.map (pm_u ad)) (n := (pm_sig K mj).2.1) (by rw [hlen]; exact hle)
  refine ⟨g1, by simp; omega, g2, fun i v hi => ?_⟩
  by_cases hi2 : i < (pm_sl as).length
  · rw [List.getElem?_append_left hi2] at hi
    rw [List.getElem?_toArray, List.getElem?_append_left (by rw [hlen]; exact hi2), pm_sl_eq, List.getElem?_map, hi]
    rfl
  · rw [List.getElem?_append_right (by omega), List.getElem?_replicate] at hi
    split at hi
    · cases hi
    · cases hi
set_option maxHeartbeats 1000000 in
/-- a run is a contract -/
theorem pm_sound (ok : pm_ok K M cl ALL nws zs rs aos rof cn E) (l : Launch) : ∀ (d mj : Nat) (as : List Value) (ph : pm_H) (r : pm_R), pm_Rd K al d mj as ph r → pm_Ct K M cl ALL nws zs rs aos rof E D dA B ra al l d mj as ph r := by
  intro d
  induction d with
  | zero => intro mj as ph r h; exact h.elim
  | succ d IH =>
    intro mj as ph r h
    obtain ⟨q0, hq0⟩ := pm_Rd_code h
    obtain ⟨hent, n, hn⟩ := h
    have ok0 := ok
    obtain ⟨olk, ock, obs, onw, oG, oE, ocd, omk, om8⟩ := ok
    obtain ⟨m1, m2, m3, m4, m5, m6, m7, m8, m9⟩ := omk mj q0 hq0
    refine Met.ofW (cc := (M mj).2.1) (maxL := (M mj).2.2.1) (ret := (M mj).2.2.2) m1 rfl ?_
    intro p e s m args below meth c s₁ B0 hml hv
    obtain ⟨rfl, hP, hK, hB, hz, hRO⟩ := hv
    have hts0 := atoms_spec (ws := pm_wds M ALL mj) B0.pre
    have hts : ∀ w ∈ ALL, w.before _ s = true := fun w hw => hts0 w (List.mem_cons_of_mem _ hw)
    have hown : s.vm.findClass (cn (pm_own K mj)) = some m.cls := by rw [m9]; exact findClass_of_methodNamed B0.named
    rw [lg_entry_eq, m6]
    have hl := pm_ent_lr (ad := pm_ad B ra) hent
    rw [← m6, ← hml] at hl
    rw [← m6, ← hml]
    exact pm_T_ok ok0 IH B0.exec B0.bytes B0.returns m8 hown (name_of_methodNamed B0.named B0.method).1 B0.notSynchronized hts hK hRO hB n (pm_ent K mj as ph) r hn s.heap [] _ hP va_S.rf hz (by
      have e9 : pm_lr (pm_ad B ra) _ c.maxLocals (pm_sl as ++ List.replicate (c.maxLocals - (pm_sl as).length) none) := hl
      show pm_lr (pm_ad B ra) _ c.maxLocals (pm_sl as ++ List.replicate ((pm_sig K mj).2.1 - (pm_sl as).length) none)
      rw [← m6, ← hml]
      exact e9)
end PMT
