/-! PM: a stretch of a frame that has its own tables (K2), its callees by the tables K -/
def pm_Sn (K : pm_K) (al : Bool) (C : Nat → List Value → pm_H → pm_R → Prop) (mj : Nat) : Nat → pm_S → pm_S → Prop
  | 0, x, y => x = y
  | n + 1, x, y => match pm_step K al mj x with
      | some (.inl x') => pm_Sn K al C mj n x' y
      | some (.inr (.inl (j, as, (pc, L, st, ph, cs, ss)))) => ∃ (v : Option Value) (ph' : pm_H) (c1 s1 : Nat), C j as ph (v, ph', c1, s1) ∧ pm_Sn K al C mj n (pc, L, v.toList ++ st, ph', cs + c1, ss + s1) y
      | _ => False
theorem pm_Sn_mono {K : pm_K} {al : Bool} {C : Nat → List Value → pm_H → pm_R → Prop} {mj : Nat} : ∀ (n : Nat) (x y : pm_S), pm_Sn K al C mj n x y → x.2.2.2.2.1 ≤ y.2.2.2.2.1 ∧ x.2.2.2.2.2 ≤ y.2.2.2.2.2 := by
  intro n
  induction n with
  | zero => intro x y h; cases h; exact ⟨Nat.le_refl _, Nat.le_refl _⟩
  | succ n ih =>
    intro x y h
    rw [pm_Sn] at h
    split at h
    · next x' hx =>
      obtain ⟨pc, L, st, ph, cs, ss⟩ := x
      have h2 := ih _ _ h
      have h3 : cs ≤ x'.2.2.2.2.1 ∧ ss ≤ x'.2.2.2.2.2 := by
        unfold pm_step at hx
        simp only at hx
        split at hx
        · cases hx
        · next g ins aux hc =>
          split at hx
          all_goals first
            | (cases hx; done)
            | (split at hx <;> first | (cases hx; exact ⟨Nat.le_refl _, Nat.le_refl _⟩) | (cases hx; exact ⟨Nat.le_add_right _ _, Nat.le_add_right _ _⟩) | (cases hx; done))
      exact ⟨Nat.le_trans h3.1 h2.1, Nat.le_trans h3.2 h2.2⟩
    · next j as pc L st ph cs ss hx =>
      obtain ⟨v, ph', c1, s1, -, h⟩ := h
      have h2 := ih _ _ h
      obtain ⟨pc0, L0, st0, ph0, cs0, ss0⟩ := x
      have h3 : cs0 = cs ∧ ss0 = ss := by
        unfold pm_step at hx
        simp only at hx
        split at hx
        · cases hx
        · next g ins aux hc =>
          split at hx
          all_goals first
            | (cases hx; done)
            | (split at hx <;> first | (cases hx; exact ⟨rfl, rfl⟩) | (cases hx; done))
      obtain ⟨rfl, rfl⟩ := h3
      exact ⟨Nat.le_trans (Nat.le_add_right _ _) h2.1, Nat.le_trans (Nat.le_add_right _ _) h2.2⟩
    · exact h.elim
section PMS2
variable {K : pm_K} {M : pm_M} {cl : List vw_C} {ALL nws : List Cond} {zs : List (String × String × String × Value)} {rs : List (String × Nat × String × Nat)} {aos : List String} {rof : Nat → String × String × String} {cn : Nat → String} {E : String} {D : va_G} {dA : Nat → ClassId} {B : Nat} {ra : Nat → Nat} {al : Bool}
variable {p : Program} {l : Launch} {e : Env} {R : Room} {s : State} {m : MethodId} {args : Array Value} {below : List Frame} {meth : Method} {c : Code} {H : Heap} {locs : List Loc} {cells slots : Nat} {Q : State → Prop}
/-- a call out of a frame that has its own tables -/
theorem pm_inv2_ok {cc : ByteArray} {pc aux d ow j : Nat} {K2 : pm_K} {own : String} {ls : Array Slot} {ins : Instr} {st rest as : List Value} {ph : pm_H} {r : pm_R} (ok : pm_ok K M cl ALL nws zs rs aos rof cn E)
    (hx : p.tables.exec = Jvm.exec) (hb : c.code = cc) (hd : decode cc pc = .ok (ins, pm_len ins aux)) (hml : ls.size = c.maxLocals) (hown : s.vm.findClass own = some m.cls) (olk2 : ∀ i kd a b v, pm_lnk K2 ow i = some (kd, a, b, v) → pm_lk K2 M cl ALL nws zs rs aos rof own i kd a b v) (hts : ∀ w ∈ ALL, w.before args s = true)
    (hK : va_K D cl (pm_tys dA E) s) (hRO : pm_RO zs rs aos nws K rof (pm_ad B ra) (fun q => B ≤ q) s s.heap) (hRO2 : pm_RO zs rs aos nws K2 rof (pm_ad B ra) (fun q => B ≤ q) s s.heap) (hB : B ≤ s.heap.size)
    (hP : va_P D cl (pm_ws (pm_ad B ra) dA B ph) H) (hS : va_S (fun q => B ≤ q) s.heap H locs) (hz : al = true → H.size = B + ph.length) (hfr : d + 1 ≤ R.frames) (hlo : d * 128 + 128 ≤ R.locals) (hR : cells + r.2.2.1 ≤ R.cells ∧ slots + r.2.2.2 ≤ R.slots)
    (h : pm_inv K2 ow ins st ph = some (j, as, rest)) (hcode : ∃ q, pm_code K j 0 = some q) (hC : pm_Ct K M cl ALL nws zs rs aos rof E D dA B ra al l d j as ph r)
    (kk : ∀ (H1 : Heap) (locs1 : List Loc), va_P D cl (pm_ws (pm_ad B ra) dA B r.2.1) H1 → va_S (fun q => B ≤ q) s.heap H1 locs1 → (al = true → H1.size = B + r.2.1.length) → W p l e R s m args below meth c H1 locs1 (cells + r.2.2.1) (slots + r.2.2.2) Q (F0 m (pc + 3) ls ((r.1.toList ++ rest).map (pm_u (pm_ad B ra))))) :
    W p l e R s m args below meth c H locs cells slots Q (F0 m pc ls (st.map (pm_u (pm_ad B ra)))) := by
  obtain ⟨olk, ock, obs, onw, oG, oE, ocd, omk, -⟩ := ok
  obtain ⟨q0, hq0⟩ := hcode
  obtain ⟨m1, m2, m3, m4, m5, m6, m7, m8, m9⟩ := omk j q0 hq0
  have hnw : ∀ w ∈ nws, va_Nw w s := hRO.2.2.2.2.2
  have kk2 : ∀ (H1 : Heap) (locs1 : List Loc), va_P D cl (pm_ws (pm_ad B ra) dA B r.2.1) H1 → va_S (fun q => B ≤ q) s.heap H1 locs1 → (al = true → H1.size = B + r.2.1.length) → W p l e R s m args below meth c H1 locs1 (cells + r.2.2.1) (slots + r.2.2.2) Q (F0 m (pc + 3) ls ((r.1.map (pm_u (pm_ad B ra))).toList ++ rest.map (pm_u (pm_ad B ra)))) := by
    intro H1 locs1 a1 a2 a3
    have e9 : (r.1.map (pm_u (pm_ad B ra))).toList ++ rest.map (pm_u (pm_ad B ra)) = (r.1.toList ++ rest).map (pm_u (pm_ad B ra)) := by cases r.1 <;> rfl
    rw [e9]
    exact kk H1 locs1 a1 a2 a3
  have hGj : GoodIn ALL (pm_wds M ALL j) := by
    intro w hw
    rcases List.mem_cons.mp hw with rfl | hw
    · exact oG _ m2
    · exact oG _ hw
  have S : CallFix p m c cc c.maxLocals s args ALL own := ⟨hx, hb, rfl, hown, hts⟩
  have hRm : (pm_rm d r.2.2.1 r.2.2.2).frames + 1 ≤ R.frames ∧ 8 + ((M j).2.2.1 + 11) + (pm_rm d r.2.2.1 r.2.2.2).locals ≤ R.locals := ⟨hfr, by show 8 + ((M j).2.2.1 + 11) + d * 128 ≤ R.locals; omega⟩
  have hpre : ∀ U : State, U.heap = H → s.WarmedH U.vm → pm_In K cl nws zs rs aos rof E D dA B ra al ph U := fun U hU hW => pm_In_of onw hP hK hB hS hz hRO hU hW
  have room : ∀ {rr : List Value}, Nat.ble (rr.map fun v => v.category).sum 8 = true → ((rr.map (pm_u (pm_ad B ra))).map fun v => v.category).sum ≤ 8 := fun {rr} q => by rw [pm_u_sum]; exact Nat.le_of_ble_eq_true q
  have cB : ∀ {i n : Nat}, Cond.methodLink own i (M j).1 ∈ ALL → (parseMethodDescriptor (M j).1.desc).map (fun d => d.parameters.length) = some n → CallB R s args own i (M j).1 (M j).2.1 (M j).2.2.1 (M j).2.2.2 (pm_wds M ALL j) (pm_rm d r.2.2.1 r.2.2.2) r.2.2.1 r.2.2.2 n := fun {i n} hl hn => callB_of n hts hGj rfl rfl rfl (hts _ m3) (hts _ hl) ⟨m4, m5, hn⟩ hRm
  have cN : ∀ {i n : Nat} {host : String}, Cond.methodLinkNest own i (M j).1 host ∈ nws → (parseMethodDescriptor (M j).1.desc).map (fun d => d.parameters.length) = some n → va_CN R s args own i (M j).1 host (M j).2.1 (M j).2.2.1 (M j).2.2.2 (pm_wds M ALL j) (pm_rm d r.2.2.1 r.2.2.2) r.2.2.1 r.2.2.2 n := fun {i n host} hl hn => va_cnB n hts hGj rfl rfl rfl (hnw _ hl) (hts _ m3) ⟨m4, m5, hn⟩ hRm
  unfold pm_inv at h
  split at h
  · next i =>
    split at h
    · next j9 n w hw =>
      obtain ⟨hq, h2⟩ := pm_bif h
      cases h2
      obtain ⟨h3, h4⟩ := pm_and hq
      have hle : n ≤ st.length := Nat.le_of_ble_eq_true h3
      obtain ⟨hl, hn⟩ := (olk2 _ _ _ _ _ hw).2.2.2.2.2.2.2.2.2.2.1 (Or.inl rfl)
      have hst := (olk2 _ _ _ _ _ hw).2.2.2.2.2.2.2.2.2.2.2.1 rfl
      have hp : PreS s H (va_Pc ((st.take n).reverse.map (pm_u (pm_ad B ra))) (pm_In K cl nws zs rs aos rof E D dA B ra al ph)) ((st.take n).reverse.map (pm_u (pm_ad B ra))) := ⟨pm_blind onw _ _, fun U hU hW => ⟨rfl, hpre U hU hW⟩⟩
      rcases hl with hl | ⟨host, hl⟩
      · exact pm_go (va_runS S hC ⟨cB hl hn, hts _ hst⟩ hp rfl (pm_tkl _ hle) hml (pm_tk _).symm (lv_room (room h4)) hd hR) hS kk2
      · exact pm_go (va_runSN S hC ⟨cN hl hn, hts _ hst, trivial⟩ hp rfl (pm_tkl _ hle) hml (pm_tk _).symm (lv_room (room h4)) hd hR) hS kk2
    · cases h
  · next i =>
    split at h
    · next j9 n ci hw =>
      split at h
      · next a r9 hdr =>
        split at h
        · next cj fs hph =>
          obtain ⟨hq, h2⟩ := pm_bif h
          cases h2
          obtain ⟨h3, h4⟩ := pm_and hq
          have hcj : ci = cj := Nat.eq_of_beq_eq_true h3
          subst hcj
          have hle : n ≤ st.length := pm_dropl hdr
          obtain ⟨hl, hn⟩ := (olk2 _ _ _ _ _ hw).2.2.2.2.2.2.2.2.2.2.1 (Or.inr (Or.inl rfl))
          obtain ⟨hin, hse, hcls, -⟩ := (olk2 _ _ _ _ _ hw).2.2.2.2.2.2.2.2.2.2.2.2.1 rfl
          obtain ⟨T, N, hc⟩ := hcls ci rfl
          have e9 : pm_ad B ra a = B + a := pm_adE hph
          have hp : PreV s H (M j).1.cls (B + a) (va_Pc ((Value.ref a :: (st.take n).reverse).map (pm_u (pm_ad B ra))) (pm_In K cl nws zs rs aos rof E D dA B ra al ph)) ((st.take n).reverse.map (pm_u (pm_ad B ra))) := by
            refine ⟨pm_blind onw _ _, ?_, fun U hU hW => ⟨?_, hpre U hU hW⟩⟩
            · exact va_recv hK hP (ci := ci) (q0 := a) hc (pm_getE hph)
            · show _ = (Value.ref (pm_ad B ra a) :: _).toArray
              rw [e9]
          have hstk : st.map (pm_u (pm_ad B ra)) = ((st.take n).reverse.map (pm_u (pm_ad B ra))).reverse ++ .ref (B + a) :: rest.map (pm_u (pm_ad B ra)) := by
            rw [← pm_tk (n := n) (st := st) (pm_u (pm_ad B ra)), hdr, ← e9]
            rfl
          have hC2 : Met l (M j).1 (pm_wds M ALL j) (pm_rm d r.2.2.1 r.2.2.2) (va_Pc ((Value.ref a :: (st.take n).reverse).map (pm_u (pm_ad B ra))) (pm_In K cl nws zs rs aos rof E D dA B ra al ph)) (pm_Qc K cl nws zs rs aos rof E D dA B ra al r) r.2.2.1 r.2.2.2 (fun q => B ≤ q) := hC
          rcases hl with hl | ⟨host, hl⟩
          · exact pm_go (va_runV S hC2 ⟨cB hl hn, hts _ hin, hts _ hse⟩ hp rfl (pm_tkl _ hle) hml hstk (lv_room (room h4)) hd hR) hS kk2
          · exact pm_go (va_runVN S hC2 ⟨cN hl hn, hts _ hin, hts _ hse⟩ hp rfl (pm_tkl _ hle) hml hstk (lv_room (room h4)) hd hR) hS kk2
        · cases h
      · cases h
    · next j9 n hw =>
      split at h
      · next a r9 hdr =>
        cases hq : Nat.blt a 1048576 with
        | true => rw [hq] at h; cases h
        | false =>
          rw [hq] at h
          simp only [cond_false] at h
          split at h
          · next v9 hv9 =>
            obtain ⟨h4, h2⟩ := pm_bif h
            cases h2
            have hle : n ≤ st.length := pm_dropl hdr
            obtain ⟨hl, hn⟩ := (olk2 _ _ _ _ _ hw).2.2.2.2.2.2.2.2.2.2.1 (Or.inr (Or.inl rfl))
            obtain ⟨hin, hse, -, hcls⟩ := (olk2 _ _ _ _ _ hw).2.2.2.2.2.2.2.2.2.2.2.2.1 rfl
            have hcs := hcls rfl
            have hp : PreV s H (M j).1.cls (pm_ad B ra a) (va_Pc ((Value.ref a :: (st.take n).reverse).map (pm_u (pm_ad B ra))) (pm_In K cl nws zs rs aos rof E D dA B ra al ph)) ((st.take n).reverse.map (pm_u (pm_ad B ra))) := by
              refine ⟨pm_blind onw _ _, ?_, fun U hU hW => ⟨rfl, hpre U hU hW⟩⟩
              obtain ⟨cell, g1, g2, g3, -⟩ := ((hRO2.2.2.2.1 a _ _ hq hv9).1).kept hS.2.1
              exact ⟨cell, g1, g2, by rw [hcs]; exact g3⟩
            have hstk : st.map (pm_u (pm_ad B ra)) = ((st.take n).reverse.map (pm_u (pm_ad B ra))).reverse ++ .ref (pm_ad B ra a) :: rest.map (pm_u (pm_ad B ra)) := by
              rw [← pm_tk (n := n) (st := st) (pm_u (pm_ad B ra)), hdr]
              rfl
            have hC2 : Met l (M j).1 (pm_wds M ALL j) (pm_rm d r.2.2.1 r.2.2.2) (va_Pc ((Value.ref a :: (st.take n).reverse).map (pm_u (pm_ad B ra))) (pm_In K cl nws zs rs aos rof E D dA B ra al ph)) (pm_Qc K cl nws zs rs aos rof E D dA B ra al r) r.2.2.1 r.2.2.2 (fun q => B ≤ q) := hC
            rcases hl with hl | ⟨host, hl⟩
            · exact pm_go (va_runV S hC2 ⟨cB hl hn, hts _ hin, hts _ hse⟩ hp rfl (pm_tkl _ hle) hml hstk (lv_room (room h4)) hd hR) hS kk2
            · exact pm_go (va_runVN S hC2 ⟨cN hl hn, hts _ hin, hts _ hse⟩ hp rfl (pm_tkl _ hle) hml hstk (lv_room (room h4)) hd hR) hS kk2
          · cases h
      · cases h
    · cases h
  · next i =>
    split at h
    · next j9 n w hw =>
      split at h
      · next a r9 hdr =>
        obtain ⟨h4, h2⟩ := pm_bif h
        cases h2
        have hle : n ≤ st.length := pm_dropl hdr
        obtain ⟨hl, hn⟩ := (olk2 _ _ _ _ _ hw).2.2.2.2.2.2.2.2.2.2.1 (Or.inr (Or.inr rfl))
        obtain ⟨hnm, hin, hrt⟩ := (olk2 _ _ _ _ _ hw).2.2.2.2.2.2.2.2.2.2.2.2.2.1 rfl
        have hp : PreS s H (va_Pc ((Value.ref a :: (st.take n).reverse).map (pm_u (pm_ad B ra))) (pm_In K cl nws zs rs aos rof E D dA B ra al ph)) (.ref (pm_ad B ra a) :: (st.take n).reverse.map (pm_u (pm_ad B ra))) := ⟨pm_blind onw _ _, fun U hU hW => ⟨rfl, hpre U hU hW⟩⟩
        have hstk : st.map (pm_u (pm_ad B ra)) = ((st.take n).reverse.map (pm_u (pm_ad B ra))).reverse ++ .ref (pm_ad B ra a) :: rest.map (pm_u (pm_ad B ra)) := by
          rw [← pm_tk (n := n) (st := st) (pm_u (pm_ad B ra)), hdr]
          rfl
        have hC2 : Met l (M j).1 (pm_wds M ALL j) (pm_rm d r.2.2.1 r.2.2.2) (va_Pc ((Value.ref a :: (st.take n).reverse).map (pm_u (pm_ad B ra))) (pm_In K cl nws zs rs aos rof E D dA B ra al ph)) (pm_Qc K cl nws zs rs aos rof E D dA B ra al r) r.2.2.1 r.2.2.2 (fun q => B ≤ q) := hC
        rcases hl with hl | ⟨host, hl⟩
        · exact pm_go (va_runI (bytes := (M j).2.1) (maxL := (M j).2.2.1) S hC2 ⟨by rw [← hrt]; exact cB hl hn, hnm, hts _ hin⟩ hp rfl (pm_tkl _ hle) hml hstk (lv_room (room h4)) hd hR) hS kk2
        · exact pm_go (va_runIN (bytes := (M j).2.1) (maxL := (M j).2.2.1) S hC2 ⟨by rw [← hrt]; exact cN hl hn, hnm, hts _ hin⟩ hp rfl (pm_tkl _ hle) hml hstk (lv_room (room h4)) hd hR) hS kk2
      · cases h
    · cases h
  · cases h

set_option maxHeartbeats 4000000 in
theorem pm_S_ok {K2 : pm_K} {own : String} {mj d : Nat} (ok : pm_ok K M cl ALL nws zs rs aos rof cn E) (IH : ∀ j as ph r, pm_Rd K al d j as ph r → pm_Ct K M cl ALL nws zs rs aos rof E D dA B ra al l d j as ph r)
    (hx : p.tables.exec = Jvm.exec) {cc : ByteArray} (hb : c.code = cc) (hown : s.vm.findClass own = some m.cls) (hts : ∀ w ∈ ALL, w.before args s = true)
    (ocd : ∀ pc g ins aux, pm_code K2 mj pc = some (g, ins, aux) → decode cc pc = .ok (ins, pm_len ins aux) ∧ pm_tok ins pc aux ∧ (∀ i, ins ≠ .putfield i) ∧ g ≠ 8)
    (olk2 : ∀ i kd a b v, pm_lnk K2 (pm_own K2 mj) i = some (kd, a, b, v) → pm_lk K2 M cl ALL nws zs rs aos rof own i kd a b v) (ock2 : pm_ck K2 cl ALL) (oE2 : ∀ r, cl[pm_eci K2]? = some r → r.1 = E ∧ E ∈ aos)
    (hK : va_K D cl (pm_tys dA E) s) (hRO : pm_RO zs rs aos nws K rof (pm_ad B ra) (fun q => B ≤ q) s s.heap) (hRO2 : pm_RO zs rs aos nws K2 rof (pm_ad B ra) (fun q => B ≤ q) s s.heap) (hB : B ≤ s.heap.size) (hfr : d + 1 ≤ R.frames) (hlo : d * 128 + 128 ≤ R.locals) :
    ∀ (n : Nat) (x y : pm_S), pm_Sn K2 al (pm_Rd K al d) mj n x y → y.2.2.2.2.1 ≤ R.cells → y.2.2.2.2.2 ≤ R.slots → ∀ (H : Heap) (locs : List Loc) (ls : Array Slot), va_P D cl (pm_ws (pm_ad B ra) dA B x.2.2.2.1) H → va_S (fun q => B ≤ q) s.heap H locs → (al = true → H.size = B + x.2.2.2.1.length) → pm_lr (pm_ad B ra) ls c.maxLocals x.2.1 →
      (∀ (H1 : Heap) (locs1 : List Loc) (ls1 : Array Slot), va_P D cl (pm_ws (pm_ad B ra) dA B y.2.2.2.1) H1 → va_S (fun q => B ≤ q) s.heap H1 locs1 → (al = true → H1.size = B + y.2.2.2.1.length) → pm_lr (pm_ad B ra) ls1 c.maxLocals y.2.1 → W p l e R s m args below meth c H1 locs1 y.2.2.2.2.1 y.2.2.2.2.2 Q (F0 m y.1 ls1 (y.2.2.1.map (pm_u (pm_ad B ra))))) →
      W p l e R s m args below meth c H locs x.2.2.2.2.1 x.2.2.2.2.2 Q (F0 m x.1 ls (x.2.2.1.map (pm_u (pm_ad B ra)))) := by
  have ok0 := ok
  obtain ⟨olk, ock, obs, onw, oG, oE, -, omk, -⟩ := ok
  intro n
  induction n with
  | zero =>
    intro x y h hc1 hs1 H locs ls hP hS hz hl kk
    cases h
    exact kk H locs ls hP hS hz hl
  | succ n ih =>
    intro x y h hc1 hs1 H locs ls hP hS hz hl kk
    rw [pm_Sn] at h
    split at h
    · next x' hx0 =>
      have hmono2 := pm_Sn_mono _ _ _ h
      obtain ⟨pc, L, st, ph, cs, ss⟩ := x
      have ih2 : ∀ (H : Heap) (locs : List Loc) (ls : Array Slot), va_P D cl (pm_ws (pm_ad B ra) dA B x'.2.2.2.1) H → va_S (fun q => B ≤ q) s.heap H locs → (al = true → H.size = B + x'.2.2.2.1.length) → pm_lr (pm_ad B ra) ls c.maxLocals x'.2.1 → W p l e R s m args below meth c H locs x'.2.2.2.2.1 x'.2.2.2.2.2 Q (F0 m x'.1 ls (x'.2.2.1.map (pm_u (pm_ad B ra)))) := fun H locs ls h1 h2 h3 h4 => ih _ _ h hc1 hs1 H locs ls h1 h2 h3 h4 kk
      unfold pm_step at hx0
      simp only at hx0
      split at hx0
      · cases hx0
      · next g ins aux hc =>
        obtain ⟨hd, htk, hfin, hg8⟩ := ocd _ _ _ _ hc
        split at hx0
        · split at hx0
          · next st' hs =>
            cases hx0
            exact pm_alu_ok hx hb hd hs (ih2 H locs ls hP hS hz hl)
          · cases hx0
        · split at hx0
          · next v k hs =>
            cases hx0
            exact pm_push_ok hx hb hd hown hts olk2 hRO2 hS hs (ih2 H locs ls hP hS hz hl)
          · cases hx0
        · split at hx0
          · next v k hs =>
            cases hx0
            exact pm_load_ok hx hb hd hl hs (ih2 H locs ls hP hS hz hl)
          · cases hx0
        · split at hx0
          · next L' st' k hs =>
            cases hx0
            exact pm_store_ok hx hb hd hl hs (fun ls' hl' => ih2 H locs ls' hP hS hz hl')
          · cases hx0
        · split at hx0
          · next pc' st' hs =>
            cases hx0
            exact pm_br_ok hx hb hd htk hs (ih2 H locs ls hP hS hz hl)
          · cases hx0
        · split at hx0
          · next k st' ph' c1 s1 hs =>
            cases hx0
            refine pm_mem_ok hx hb hd hl.1 hown hts olk2 ock2 obs ?_ oE2 hK hRO2 hB hP hS hz (Nat.le_trans (Nat.le_add_left 1 d) hfr) ?_ ⟨Nat.le_trans hmono2.1 hc1, Nat.le_trans hmono2.2 hs1⟩ hs (fun H1 locs1 hP1 hS1 hz1 => ih2 H1 locs1 ls hP1 hS1 hz1 hl)
            · intro i ci k v e1 e2 C T N e3 e4
              exact absurd e1 (hfin i)
            · have e0 : nativeFrameWords "java/lang/System" "arraycopy" 5 ≤ 100 := by decide +kernel
              omega
          · cases hx0
        · split at hx0
          · cases hx0
          · cases hx0
        · split at hx0
          · cases hx0
          · cases hx0
        · exact absurd rfl hg8
        · cases hx0
    · next j as pc L st ph cs ss hx0 =>
      obtain ⟨v, ph', c1, s1, hC, h⟩ := h
      have hmono2 := pm_Sn_mono _ _ _ h
      obtain ⟨pc0, L0, st0, ph0, cs0, ss0⟩ := x
      unfold pm_step at hx0
      simp only at hx0
      split at hx0
      · cases hx0
      · next g ins aux hc =>
        obtain ⟨hd, htk, hfin, hg8⟩ := ocd _ _ _ _ hc
        split at hx0
        · split at hx0
          · cases hx0
          · cases hx0
        · split at hx0
          · cases hx0
          · cases hx0
        · split at hx0
          · cases hx0
          · cases hx0
        · split at hx0
          · cases hx0
          · cases hx0
        · split at hx0
          · cases hx0
          · cases hx0
        · split at hx0
          · cases hx0
          · cases hx0
        · split at hx0
          · next j' as' r' hs =>
            cases hx0
            exact pm_inv2_ok (d := d) (r := (v, ph', c1, s1)) ok0 hx hb hd hl.1 hown olk2 hts hK hRO hRO2 hB hP hS hz hfr hlo ⟨Nat.le_trans hmono2.1 hc1, Nat.le_trans hmono2.2 hs1⟩ hs (pm_Rd_code hC) (IH _ _ _ _ hC) (fun H1 locs1 hP1 hS1 hz1 => ih _ _ h hc1 hs1 H1 locs1 ls hP1 hS1 hz1 hl kk)
          · cases hx0
        · split at hx0
          · cases hx0
          · cases hx0
        · exact absurd rfl hg8
        · cases hx0
    · exact h.elim
end PMS2
