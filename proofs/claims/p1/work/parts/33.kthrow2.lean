/-! person, thing, row on a fresh object, printed by wip/pm/gen18.py; the helpers by hand -/
theorem kmc_59 {pc : Nat} {e : Nat × Instr × Nat} (h : pm_tl kc_59 pc = some e) : pm_code kK 59 pc = some e := h
theorem kmc_129 {pc : Nat} {e : Nat × Instr × Nat} (h : pm_tl kc_129 pc = some e) : pm_code kK 129 pc = some e := h
theorem kmc_130 {pc : Nat} {e : Nat × Instr × Nat} (h : pm_tl kc_130 pc = some e) : pm_code kK 130 pc = some e := h
theorem kmc_180 {pc : Nat} {e : Nat × Instr × Nat} (h : pm_tl kc_180 pc = some e) : pm_code kK 180 pc = some e := h
theorem kmc_181 {pc : Nat} {e : Nat × Instr × Nat} (h : pm_tl kc_181 pc = some e) : pm_code kK 181 pc = some e := h
theorem kmc_182 {pc : Nat} {e : Nat × Instr × Nat} (h : pm_tl kc_182 pc = some e) : pm_code kK 182 pc = some e := h
theorem kmc_236 {pc : Nat} {e : Nat × Instr × Nat} (h : pm_tl kc_236 pc = some e) : pm_code kK 236 pc = some e := h
theorem kmc_237 {pc : Nat} {e : Nat × Instr × Nat} (h : pm_tl kc_237 pc = some e) : pm_code kK 237 pc = some e := h
theorem kmc_300 {pc : Nat} {e : Nat × Instr × Nat} (h : pm_tl kc_300 pc = some e) : pm_code kK 300 pc = some e := h
section KHL
variable {D : va_G} {dA : Nat → ClassId} {B : Nat} {ra : Nat → Nat} {ph : pm_H}
theorem khelp2 (l : Launch) {y : MethodName} {bytes : ByteArray} {ix jx d : Nat} {fs : List Value} {p0 p1 : Int32} (hph : pm_at ph 0 = some (.inr (12, fs))) (hy : plainName y.cls = true) (hycls : y.cls = "BonnetValleyLaw") (hd : 1 ≤ d)
    (dc0 : decode bytes 0 = .ok (.aload_n 3, 1)) (dc1 : decode bytes 1 = .ok (.iconst 0, 1)) (dc2 : decode bytes 2 = .ok (.aload_n 0, 1)) (dc3 : decode bytes 3 = .ok (.iload_n 1, 1)) (dc4 : decode bytes 4 = .ok (.iload_n 2, 1)) (dc5 : decode bytes 5 = .ok (.invokevirtual ix, 3)) (dc13 : decode bytes 13 = .ok (.astore 4, 2)) (dc15 : decode bytes 15 = .ok (.iconst 1, 1)) (dc16 : decode bytes 16 = .ok (.ireturn, 1))
    (hcode : ∃ q, pm_code kK jx 0 = some q) (hcls : (kM jx).1.cls = "BonnetValley") (hl : Cond.methodLink "BonnetValleyLaw" ix (kM jx).1 ∈ kALL) (hin : Cond.instanceMethod (kM jx).1 ∈ kALL) (hse : Cond.selects "BonnetValley" (kM jx).1 (kM jx).1 ∈ kALL) (hn : (parseMethodDescriptor (kM jx).1.desc).map (fun d => d.parameters.length) = some 2)
    (hM : vx_Met l (kM jx).1 (pm_wds kM kALL jx) (pm_rm d 1 6) (va_Pc (([.ref 0, .int p0, .int p1] : List Value).map (pm_u (pm_ad B ra))) (kTI D dA B ra ph)) (va_Qi (S := Unit) (fun _ _ => False) (fun _ _ => True) (fun q => B ≤ q)) (kTX D dA B ra ph) 1 6 (fun q => B ≤ q)) :
    Met l y (Cond.codeWith y bytes 5 (some .int) [(0, 10, 13, 13)] :: kALL) (pm_rm (d + 1) 1 6) (va_Pc (([.ref 0, .int p0, .int p1, .ref 201] : List Value).map (pm_u (pm_ad B ra))) (kTI D dA B ra ph)) (pm_Qc kK kcl knws kzs krs kaos krof "BonnetValley$State" D dA B ra false (some (.int 1), ph, 1, 6)) 1 6 (fun q => B ≤ q) := by
  refine kMet_ofWH hy rfl ?_
  intro p e s m args below meth c s₁ B0 hml hv
  obtain ⟨rfl, ⟨hP, hK, hB, hz, hRO⟩, hT⟩ := hv
  have hts0 := atoms_spec (ws := Cond.codeWith y bytes 5 (some .int) [(0, 10, 13, 13)] :: kALL) B0.pre
  have hts : ∀ w ∈ kALL, w.before _ s = true := fun w hw => hts0 w (List.mem_cons_of_mem _ hw)
  have hown : s.vm.findClass "BonnetValleyLaw" = some m.cls := by rw [← hycls]; exact findClass_of_methodNamed B0.named
  have htab := vx_table (x := y) B0 (hts0 _ List.mem_cons_self)
  have e9 : pm_ad B ra 0 = B + 0 := pm_adE hph
  rw [lg_entry_eq]
  have h0 := lv_entry (([.ref 0, .int p0, .int p1, .ref 201] : List Value).map (pm_u (pm_ad B ra))) (n := 5) (Nat.le_of_ble_eq_true rfl)
  refine lv_aload_n (k := 3) B0.exec B0.bytes dc0 rfl (lv_at h0 3 rfl) ?_
  refine lv_iconst (v := 0) B0.exec B0.bytes dc1 (by decide +kernel) ?_
  refine lv_aload_n (k := 0) B0.exec B0.bytes dc2 rfl (lv_at h0 0 rfl) ?_
  refine lv_iload_n (k := 1) B0.exec B0.bytes dc3 rfl (lv_at h0 1 rfl) ?_
  refine lv_iload_n (k := 2) B0.exec B0.bytes dc4 rfl (lv_at h0 2 rfl) ?_
  obtain ⟨T9, N9, hc9⟩ : ∃ (T : u_T) (N : Nat), kcl[12]? = some ("BonnetValley", T, N) := ⟨_, _, rfl⟩
  have S : CallFix p m c bytes c.maxLocals s _ kALL "BonnetValleyLaw" := ⟨B0.exec, B0.bytes, rfl, hown, hts⟩
  have hp : PreV s s.heap "BonnetValley" (B + 0) (va_Pc (([.ref 0, .int p0, .int p1] : List Value).map (pm_u (pm_ad B ra))) (kTI D dA B ra ph)) [.int p0, .int p1] := by
    refine ⟨kTI_blind _, va_recv hK hP (ci := 12) (q0 := 0) hc9 (pm_getE hph), fun U hU hW => ⟨?_, pm_In_of knwf hP hK hB va_S.rf (fun h => by cases h) hRO hU hW, kTs_of hT va_S.rf hU hW⟩⟩
    show _ = ([Value.ref (pm_ad B ra 0), .int p0, .int p1] : List Value).toArray
    rw [e9]
  have hr := vx_runV (R := pm_rm (d + 1) 1 6) (below := below) (l := l) (e := e) (meth := meth) (locs := []) (cells := 0) (slots := 0) (rest := [.int 0, .ref (pm_ad B ra 201)]) (g := F0 m 5 ((lg_sl (([.ref 0, .int p0, .int p1, .ref 201] : List Value).map (pm_u (pm_ad B ra))) ++ List.replicate (5 - (lg_sl (([.ref 0, .int p0, .int p1, .ref 201] : List Value).map (pm_u (pm_ad B ra)))).length) Slot.unset).toArray) [.int p1, .int p0, .ref (pm_ad B ra 0), .int 0, .ref (pm_ad B ra 201)]) S hM (kcallW hts hcode hcls hl hin hse hn (Nat.le_refl _) (by show d * 128 + 128 ≤ (d + 1) * 128; omega)) hp rfl rfl (h0.1.trans hml.symm) (by rw [e9]; rfl) (lv_room (by show (2 : Nat) ≤ 8; decide)) dc5 ⟨Nat.le_refl _, Nat.le_refl _⟩
  refine vx_calli (S := Unit) (SX := Unit) (A0 := fun q => B ≤ q) (H0 := s.heap) hr va_S.rf (fun _ _ h => h) (fun _ h => h) (fun _ _ h => h) ?_ (fun r u t H1 locs1 _ _ hp9 _ _ _ _ => hp9.elim)
  intro E ce q9 u t H1 locs1 ht hal _ hBX hsz hun hS1 hce hcv hcl
  obtain ⟨hE, hP1⟩ := hBX
  rw [ht] at hP1
  exact kcaught (a := 0) (b := 10) (ha := 13) (sl := 2) B0.exec B0.bytes B0.returns B0.notSynchronized hown hts hT.2.2 hK hRO hB htab (by decide +kernel) hP1 hS1 hE hce hcv hcl (fun Q cells slots kk => lv_astore B0.exec B0.bytes dc13 h0 (by decide) rfl (fun ls' _ => kk ls')) dc15 dc16
theorem khelp1 (l : Launch) {y : MethodName} {bytes : ByteArray} {ix jx d : Nat} {fs : List Value} {p0 : Int32} (hph : pm_at ph 0 = some (.inr (12, fs))) (hy : plainName y.cls = true) (hycls : y.cls = "BonnetValleyLaw") (hd : 1 ≤ d)
    (dc0 : decode bytes 0 = .ok (.aload_n 2, 1)) (dc1 : decode bytes 1 = .ok (.iconst 0, 1)) (dc2 : decode bytes 2 = .ok (.aload_n 0, 1)) (dc3 : decode bytes 3 = .ok (.iload_n 1, 1)) (dc5 : decode bytes 4 = .ok (.invokevirtual ix, 3)) (dc13 : decode bytes 11 = .ok (.astore_n 3, 1)) (dc15 : decode bytes 12 = .ok (.iconst 1, 1)) (dc16 : decode bytes 13 = .ok (.ireturn, 1))
    (hcode : ∃ q, pm_code kK jx 0 = some q) (hcls : (kM jx).1.cls = "BonnetValley") (hl : Cond.methodLink "BonnetValleyLaw" ix (kM jx).1 ∈ kALL) (hin : Cond.instanceMethod (kM jx).1 ∈ kALL) (hse : Cond.selects "BonnetValley" (kM jx).1 (kM jx).1 ∈ kALL) (hn : (parseMethodDescriptor (kM jx).1.desc).map (fun d => d.parameters.length) = some 1)
    (hM : vx_Met l (kM jx).1 (pm_wds kM kALL jx) (pm_rm d 1 6) (va_Pc (([.ref 0, .int p0] : List Value).map (pm_u (pm_ad B ra))) (kTI D dA B ra ph)) (va_Ql (S := Unit) (fun _ _ => False) (fun _ _ => True) (fun q => B ≤ q)) (kTX D dA B ra ph) 1 6 (fun q => B ≤ q)) :
    Met l y (Cond.codeWith y bytes 4 (some .int) [(0, 8, 11, 13)] :: kALL) (pm_rm (d + 1) 1 6) (va_Pc (([.ref 0, .int p0, .ref 201] : List Value).map (pm_u (pm_ad B ra))) (kTI D dA B ra ph)) (pm_Qc kK kcl knws kzs krs kaos krof "BonnetValley$State" D dA B ra false (some (.int 1), ph, 1, 6)) 1 6 (fun q => B ≤ q) := by
  refine kMet_ofWH hy rfl ?_
  intro p e s m args below meth c s₁ B0 hml hv
  obtain ⟨rfl, ⟨hP, hK, hB, hz, hRO⟩, hT⟩ := hv
  have hts0 := atoms_spec (ws := Cond.codeWith y bytes 4 (some .int) [(0, 8, 11, 13)] :: kALL) B0.pre
  have hts : ∀ w ∈ kALL, w.before _ s = true := fun w hw => hts0 w (List.mem_cons_of_mem _ hw)
  have hown : s.vm.findClass "BonnetValleyLaw" = some m.cls := by rw [← hycls]; exact findClass_of_methodNamed B0.named
  have htab := vx_table (x := y) B0 (hts0 _ List.mem_cons_self)
  have e9 : pm_ad B ra 0 = B + 0 := pm_adE hph
  rw [lg_entry_eq]
  have h0 := lv_entry (([.ref 0, .int p0, .ref 201] : List Value).map (pm_u (pm_ad B ra))) (n := 4) (Nat.le_of_ble_eq_true rfl)
  refine lv_aload_n (k := 2) B0.exec B0.bytes dc0 rfl (lv_at h0 2 rfl) ?_
  refine lv_iconst (v := 0) B0.exec B0.bytes dc1 (by decide +kernel) ?_
  refine lv_aload_n (k := 0) B0.exec B0.bytes dc2 rfl (lv_at h0 0 rfl) ?_
  refine lv_iload_n (k := 1) B0.exec B0.bytes dc3 rfl (lv_at h0 1 rfl) ?_
  obtain ⟨T9, N9, hc9⟩ : ∃ (T : u_T) (N : Nat), kcl[12]? = some ("BonnetValley", T, N) := ⟨_, _, rfl⟩
  have S : CallFix p m c bytes c.maxLocals s _ kALL "BonnetValleyLaw" := ⟨B0.exec, B0.bytes, rfl, hown, hts⟩
  have hp : PreV s s.heap "BonnetValley" (B + 0) (va_Pc (([.ref 0, .int p0] : List Value).map (pm_u (pm_ad B ra))) (kTI D dA B ra ph)) [.int p0] := by
    refine ⟨kTI_blind _, va_recv hK hP (ci := 12) (q0 := 0) hc9 (pm_getE hph), fun U hU hW => ⟨?_, pm_In_of knwf hP hK hB va_S.rf (fun h => by cases h) hRO hU hW, kTs_of hT va_S.rf hU hW⟩⟩
    show _ = ([Value.ref (pm_ad B ra 0), .int p0] : List Value).toArray
    rw [e9]
  have hr := vx_runV (R := pm_rm (d + 1) 1 6) (below := below) (l := l) (e := e) (meth := meth) (locs := []) (cells := 0) (slots := 0) (rest := [.int 0, .ref (pm_ad B ra 201)]) (g := F0 m 4 ((lg_sl (([.ref 0, .int p0, .ref 201] : List Value).map (pm_u (pm_ad B ra))) ++ List.replicate (4 - (lg_sl (([.ref 0, .int p0, .ref 201] : List Value).map (pm_u (pm_ad B ra)))).length) Slot.unset).toArray) [.int p0, .ref (pm_ad B ra 0), .int 0, .ref (pm_ad B ra 201)]) S hM (kcallW hts hcode hcls hl hin hse hn (Nat.le_refl _) (by show d * 128 + 128 ≤ (d + 1) * 128; omega)) hp rfl rfl (h0.1.trans hml.symm) (by rw [e9]; rfl) (lv_room (by show (2 : Nat) ≤ 8; decide)) dc5 ⟨Nat.le_refl _, Nat.le_refl _⟩
  refine vx_calll (S := Unit) (SX := Unit) (A0 := fun q => B ≤ q) (H0 := s.heap) hr va_S.rf (fun _ _ h => h) (fun _ h => h) (fun _ _ h => h) ?_ (fun r u t H1 locs1 _ _ hp9 _ _ _ _ => hp9.elim)
  intro E ce q9 u t H1 locs1 ht hal _ hBX hsz hun hS1 hce hcv hcl
  obtain ⟨hE, hP1⟩ := hBX
  rw [ht] at hP1
  exact kcaught (a := 0) (b := 8) (ha := 11) (sl := 1) B0.exec B0.bytes B0.returns B0.notSynchronized hown hts hT.2.2 hK hRO hB htab (by decide +kernel) hP1 hS1 hE hce hcv hcl (fun Q cells slots kk => lv_astore_n (k := 3) B0.exec B0.bytes dc13 rfl h0 (by decide) rfl (fun ls' _ => kk ls')) dc15 dc16
end KHL
section KWH
variable {p : Program} {l : Launch} {e : Env} {s : State} {m : MethodId} {below : List Frame} {meth : Method} {c : Code} {b L : Nat} {xs : Nat → Int32} {D : va_G} {dA : Nat → ClassId} {ra : Nat → Nat} {Q : State → Prop}
/-- the law's frame calls a helper -/
theorem kW_help (F : kFx p s m meth c b L xs D dA ra) (Z : kTs s.heap.size s s.heap) {y : MethodName} {bytes : ByteArray} {maxL ix n d pc cs ss : Nat} {hh : List (Nat × Nat × Nat × Nat)} {Lc : List (Option Value)} {as r : List Value} {ph : pm_H}
    (hM : Met l y (Cond.codeWith y bytes maxL (some .int) hh :: kALL) (pm_rm d 1 6) (va_Pc (as.map (pm_u (pm_ad s.heap.size ra))) (kTI D dA s.heap.size ra ph)) (pm_Qc kK kcl knws kzs krs kaos krof "BonnetValley$State" D dA s.heap.size ra false (some (.int 1), ph, 1, 6)) 1 6 (fun q => s.heap.size ≤ q))
    (hlen : as.length = n) (hr8 : (r.map fun v => v.category).sum ≤ 8) (hdg : decode code pc = .ok (.invokestatic ix, 3)) (hcw : Cond.codeWith y bytes maxL (some .int) hh ∈ kALL) (hw1 : Cond.methodLink "BonnetValleyLaw" ix y ∈ kALL) (hw2 : Cond.static y ∈ kALL) (hw3 : Cond.initialized y.cls ∈ kALL) (hyd : y.cls ≠ "java/lang/invoke/MethodHandle" ∧ y.cls ≠ "java/lang/invoke/VarHandle" ∧ (parseMethodDescriptor y.desc).map (fun d => d.parameters.length) = some n) (hmax : maxL ≤ 100) (hd : d ≤ 600) (hc : cs + 1 ≤ 600002) (hs : ss + 6 ≤ 7302232)
    (kk : kW p l e s m below meth c b D dA ra false Q (pc + 3, Lc, .int 1 :: r, ph, cs + 1, ss + 6)) : kW p l e s m below meth c b D dA ra false Q (pc, Lc, as.reverse ++ r, ph, cs, ss) := by
  intro H locs ls hP hS hz hl
  obtain ⟨⟨hx, hb, hr, hml, hown, hts, hX, hbl, hlocks, hgv⟩, h5, hK, hRO, hRO2⟩ := F
  have hw : ∀ w ∈ kALL, w.before #[Value.ref b] s = true := fun w h => hts w (List.mem_filter.mp h).1
  have S : CallFix p m c code c.maxLocals s #[Value.ref b] kALL "BonnetValleyLaw" := ⟨hx, hb, rfl, hown, hw⟩
  have hG : GoodIn kALL (va_wsS "BonnetValleyLaw" ix y (Cond.codeWith y bytes maxL (some .int) hh :: kALL)) := by
    intro w h
    refine kgood w ?_
    have h2 : w ∈ ([.methodLink "BonnetValleyLaw" ix y, .static y, .initialized y.cls] : List Cond) ++ (Cond.codeWith y bytes maxL (some .int) hh :: kALL) := h
    rcases List.mem_append.mp h2 with h3 | h3
    · rcases List.mem_cons.mp h3 with rfl | h4
      · exact hw1
      · rcases List.mem_cons.mp h4 with rfl | h5
        · exact hw2
        · rcases List.mem_cons.mp h5 with rfl | h6
          · exact hw3
          · cases h6
    · rcases List.mem_cons.mp h3 with rfl | h4
      · exact hcw
      · exact h4
  have cw := vx_cwSW (R := room_1) (s := s) (args := #[Value.ref b]) (own := "BonnetValleyLaw") (index := ix) (maxL := maxL) (bytes := bytes) (ret := some .int) (hh := hh) (rm := pm_rm d 1 6) (mc := 1) (ms := 6) n hw hG rfl rfl rfl hyd ⟨show d + 1 ≤ 2048 by omega, show 8 + (maxL + 11) + d * 128 ≤ 84000 by omega⟩
  have hp : PreS s H (va_Pc (as.map (pm_u (pm_ad s.heap.size ra))) (kTI D dA s.heap.size ra ph)) (as.map (pm_u (pm_ad s.heap.size ra))) := ⟨kTI_blind _, fun U hU hW => ⟨rfl, pm_In_of knwf hP hK (Nat.le_refl _) hS (fun h => by cases h) hRO hU hW, kTs_of Z hS hU hW⟩⟩
  have hstk : (as.reverse ++ r).map (pm_u (pm_ad s.heap.size ra)) = (as.map (pm_u (pm_ad s.heap.size ra))).reverse ++ r.map (pm_u (pm_ad s.heap.size ra)) := by
    rw [List.map_append, List.map_reverse]
  have hr9 := vx_runSW (R := room_1) (below := below) (l := l) (e := e) (meth := meth) (locs := locs) (cells := cs) (slots := ss) (g := F0 m pc ls ((as.reverse ++ r).map (pm_u (pm_ad s.heap.size ra)))) S hM cw hp rfl (by rw [List.length_map]; exact hlen) hl.1 hstk (lv_room (by rw [pm_u_sum]; exact hr8)) hdg ⟨hc, hs⟩
  refine pm_go (r := (some (.int 1), ph, 1, 6)) hr9 hS ?_
  intro H1 locs1 hP1 hS1 hz1
  exact kk H1 locs1 ls hP1 hS1 hz1 hl
/-- a stretch of the law's frame -/
theorem kW_se {al : Bool} {d : Nat} {x y : pm_S} (F : kFx p s m meth c b L xs D dA ra) (hd : d ≤ 600) (h : pm_Se (kK2 xs L) al (pm_Rd kK al d) 0 x y) (hc : y.2.2.2.2.1 ≤ 600002) (hs : y.2.2.2.2.2 ≤ 7302232) (kk : kW p l e s m below meth c b D dA ra al Q y) : kW p l e s m below meth c b D dA ra al Q x := by
  obtain ⟨n, hn⟩ := h
  exact kW_run F hd hn hc hs kk
theorem kW_goal {pc cs ss : Nat} {Lc : List (Option Value)} {st : List Value} {ph : pm_H} (F : kFx p s m meth c b L xs D dA ra) (h : kGoal xs L pc Lc st ph cs ss) : kW p l e s m below meth c b D dA ra false (lw_Z below #[Value.ref b] s) (pc, Lc, st, ph, cs, ss) := by
  obtain ⟨L9, q, c2, s2, h1, h2, h3⟩ := h
  exact kW_se F (by decide) h3 h1 h2 (kW_end F h1 h2)
end KWH
theorem kTh_person_0 {x : Int32} (hx : x.toInt ≤ -1) {y : Int32} : pm_Se kK false (pm_Rd kK false 10) 129 (0, [some (.ref 0), some (.int x), some (.int y)], [], kH0, 0, 0) (11, [some (.ref 0), some (.int x), some (.int y)], [], kH0, 0, 0) := by
  refine .step (x' := (1, [some (.ref 0), some (.int x), some (.int y)], [.ref 0], kH0, 0, 0)) (ks2 (v := .ref 0) (n := 1) (kmc_129 (e := (2, .aload_n kF0, 0)) rfl) rfl) ?_
  refine .step (x' := (4, [some (.ref 0), some (.int x), some (.int y)], [.ref 25], kH0, 0, 0)) (skg (v := .ref 25) (kmc_129 (e := (5, .getfield 42, 0)) rfl) rfl kat_0 rfl) ?_
  refine .step (x' := (5, [some (.ref 0), some (.int x), some (.int y)], [.int x, .ref 25], kH0, 0, 0)) (ks2 (v := .int x) (n := 1) (kmc_129 (e := (2, .iload_n kF1, 0)) rfl) rfl) ?_
  refine .call (v := some (.int (Int32.ofInt 0))) (ph' := kH0) (c1 := 0) (s1 := 0) (j := 106) (as := [.ref 25, .int x]) (pc := 8) (L := [some (.ref 0), some (.int x), some (.int y)]) (st := []) (ks6 (kmc_129 (e := (6, .invokevirtual 167, 0)) rfl) (sk_v (n := 1) (a := 25) rfl rfl kat_25 rfl rfl)) (show pm_Rd kK false 10 106 [.ref 25, .int x] kH0 (some (.int (Int32.ofInt 0)), kH0, 0, 0) from ?_) ?_
  · refine pm_Rd.mk (K := kK) (al := false) (d := 9) (mj := 106) rfl ?_
    show pm_Te kK false (pm_Rd kK false 9) 106 (0, [some (.ref 25), some (.int x)], [], kH0, 0, 0) _
    refine .step (x' := (1, [some (.ref 25), some (.int x)], [.int x], kH0, 0, 0)) (ks2 (v := .int x) (n := 1) (kmc_106 (e := (2, .iload_n kF1, 0)) rfl) rfl) ?_
    refine .step (x' := (22, [some (.ref 25), some (.int x)], [], kH0, 0, 0)) (ks4 (pc' := 22) (st' := []) (kmc_106 (e := (4, .ifCond .lt 21, 22)) rfl) (kbz_lt (b := true) (sd_ltt (a := x.toInt) (b := 0) rfl (sz_c (k := 0) (by decide +kernel)) (by omega)))) ?_
    refine .step (x' := (23, [some (.ref 25), some (.int x)], [.int (Int32.ofInt 0)], kH0, 0, 0)) (ks0 (st' := [.int (Int32.ofInt 0)]) (kmc_106 (e := (0, .iconst 0, 0)) rfl) rfl) ?_
    exact .ret (ks7 (kmc_106 (e := (7, .ireturn, 0)) rfl) (sr_z (by decide +kernel)))
  show pm_Se kK false (pm_Rd kK false 10) 129 (8, [some (.ref 0), some (.int x), some (.int y)], [.int (Int32.ofInt 0)], kH0, 0, 0) _
  refine .step (x' := (11, [some (.ref 0), some (.int x), some (.int y)], [], kH0, 0, 0)) (ks4 (pc' := 11) (st' := []) (kmc_129 (e := (4, .ifCond .ne 11, 19)) rfl) (kbz_ne (b := true) (by decide +kernel))) ?_
  exact .rf
def kHth_person_0 : pm_H := kH0.set 170 (.inr (13, [.int (Int32.ofInt 1), .int 0, .ref 171, .int 3, .int 3, .int 0, .int 0, .int 0, .int 1, .ref 172, .ref 173, .ref 174, .ref 175, .ref 176, .int 0, .int 0, .int 0, .int 0, .ref 177, .ref 178, .int 0, .ref 179, .ref 180, .int 0, .int 0, .ref 181, .ref 182, .int 0, .ref 183, .ref 184, .ref 185, .ref 186, .ref 187, .ref 188, .int 0, .ref 189, .ref 190, .ref 191, .ref 192, .int 0, .ref 193, .ref 194, .ref 195, .ref 196, .ref 197, .int 0, .ref 198, .ref 199, .ref 200]))
theorem kTm_person_0 {x : Int32} (hx : x.toInt ≤ -1) {y : Int32} : pm_Rd kK false 40 236 [.ref 170, .int x, .int y] kH0 (some (.int (Int32.ofInt 0)), kHth_person_0, 0, 0) := by
  refine pm_Rd.mk (K := kK) (al := false) (d := 39) (mj := 236) rfl ?_
  show pm_Te kK false (pm_Rd kK false 39) 236 (0, [some (.ref 170), some (.int x), some (.int y)], [], kH0, 0, 0) _
  refine .step (x' := (1, [some (.ref 170), some (.int x), some (.int y)], [.ref 170], kH0, 0, 0)) (ks2 (v := .ref 170) (n := 1) (kmc_236 (e := (2, .aload_n kF0, 0)) rfl) rfl) ?_
  refine .step (x' := (2, [some (.ref 170), some (.int x), some (.int y)], [.int (Int32.ofInt 0), .ref 170], kH0, 0, 0)) (ks0 (st' := [.int (Int32.ofInt 0), .ref 170]) (kmc_236 (e := (0, .iconst 0, 0)) rfl) rfl) ?_
  refine .step (x' := (5, [some (.ref 170), some (.int x), some (.int y)], [], kH0, 0, 0)) (skp (kmc_236 (e := (5, .putfield 3, 0)) rfl) rfl kat_170 (by decide +kernel) rfl) ?_
  refine .step (x' := (6, [some (.ref 170), some (.int x), some (.int y)], [.ref 170], kH0, 0, 0)) (ks2 (v := .ref 170) (n := 1) (kmc_236 (e := (2, .aload_n kF0, 0)) rfl) rfl) ?_
  refine .step (x' := (7, [some (.ref 170), some (.int x), some (.int y)], [.int x, .ref 170], kH0, 0, 0)) (ks2 (v := .int x) (n := 1) (kmc_236 (e := (2, .iload_n kF1, 0)) rfl) rfl) ?_
  refine .call (v := some (.int (Int32.ofInt 0))) (ph' := kH0) (c1 := 0) (s1 := 0) (j := 191) (as := [.ref 170, .int x]) (pc := 10) (L := [some (.ref 170), some (.int x), some (.int y)]) (st := []) (ks6 (kmc_236 (e := (6, .invokevirtual 315, 0)) rfl) (sk_v (n := 1) (a := 170) rfl rfl kat_170 rfl rfl)) (show pm_Rd kK false 39 191 [.ref 170, .int x] kH0 (some (.int (Int32.ofInt 0)), kH0, 0, 0) from ?_) ?_
  · refine pm_Rd.mk (K := kK) (al := false) (d := 38) (mj := 191) rfl ?_
    show pm_Te kK false (pm_Rd kK false 38) 191 (0, [some (.ref 170), some (.int x)], [], kH0, 0, 0) _
    refine .step (x' := (1, [some (.ref 170), some (.int x)], [.int x], kH0, 0, 0)) (ks2 (v := .int x) (n := 1) (kmc_191 (e := (2, .iload_n kF1, 0)) rfl) rfl) ?_
    refine .step (x' := (2, [some (.ref 170), some (.int x)], [.long (x.toInt64)], kH0, 0, 0)) (ks0 (st' := [.long (x.toInt64)]) (kmc_191 (e := (0, .i2l, 0)) rfl) rfl) ?_
    refine .step (x' := (3, [some (.ref 170), some (.int x)], [.long (Int64.ofNat 0), .long (x.toInt64)], kH0, 0, 0)) (ks0 (st' := [.long (Int64.ofNat 0), .long (x.toInt64)]) (kmc_191 (e := (0, .lconst kG0, 0)) rfl) rfl) ?_
    refine .step (x' := (4, [some (.ref 170), some (.int x)], [.ref 170, .long (Int64.ofNat 0), .long (x.toInt64)], kH0, 0, 0)) (ks2 (v := .ref 170) (n := 1) (kmc_191 (e := (2, .aload_n kF0, 0)) rfl) rfl) ?_
    refine .step (x' := (7, [some (.ref 170), some (.int x)], [.int 0, .long (Int64.ofNat 0), .long (x.toInt64)], kH0, 0, 0)) (skg (v := .int 0) (kmc_191 (e := (5, .getfield 130, 0)) rfl) rfl kat_170 rfl) ?_
    refine .step (x' := (8, [some (.ref 170), some (.int x)], [.int (Int32.ofInt 1), .int 0, .long (Int64.ofNat 0), .long (x.toInt64)], kH0, 0, 0)) (ks0 (st' := [.int (Int32.ofInt 1), .int 0, .long (Int64.ofNat 0), .long (x.toInt64)]) (kmc_191 (e := (0, .iconst 1, 0)) rfl) rfl) ?_
    refine .step (x' := (9, [some (.ref 170), some (.int x)], [.int (-1), .long (Int64.ofNat 0), .long (x.toInt64)], kH0, 0, 0)) (ks0 (st' := [.int (-1), .long (Int64.ofNat 0), .long (x.toInt64)]) (kmc_191 (e := (0, .isub, 0)) rfl) (sa_isub (by decide +kernel))) ?_
    refine .step (x' := (10, [some (.ref 170), some (.int x)], [.long (-1), .long (Int64.ofNat 0), .long (x.toInt64)], kH0, 0, 0)) (ks0 (st' := [.long (-1), .long (Int64.ofNat 0), .long (x.toInt64)]) (kmc_191 (e := (0, .i2l, 0)) rfl) (sa_i2l (by decide +kernel))) ?_
    refine .call (v := some (.int (Int32.ofInt 0))) (ph' := kH0) (c1 := 0) (s1 := 0) (j := 183) (as := [.long (x.toInt64), .long (Int64.ofNat 0), .long (-1)]) (pc := 13) (L := [some (.ref 170), some (.int x)]) (st := []) (ks6 (kmc_191 (e := (6, .invokestatic 126, 0)) rfl) (sk_s (n := 3) rfl rfl rfl)) (show pm_Rd kK false 38 183 [.long (x.toInt64), .long (Int64.ofNat 0), .long (-1)] kH0 (some (.int (Int32.ofInt 0)), kH0, 0, 0) from ?_) ?_
    · refine pm_Rd.mk (K := kK) (al := false) (d := 37) (mj := 183) rfl ?_
      show pm_Te kK false (pm_Rd kK false 37) 183 (0, [some (.long (x.toInt64)), none, some (.long (Int64.ofNat 0)), none, some (.long (-1)), none], [], kH0, 0, 0) _
      refine .step (x' := (1, [some (.long (x.toInt64)), none, some (.long (Int64.ofNat 0)), none, some (.long (-1)), none], [.long (x.toInt64)], kH0, 0, 0)) (ks2 (v := .long (x.toInt64)) (n := 1) (kmc_183 (e := (2, .lload_n kF0, 0)) rfl) rfl) ?_
      refine .step (x' := (2, [some (.long (x.toInt64)), none, some (.long (Int64.ofNat 0)), none, some (.long (-1)), none], [.long (Int64.ofNat 0), .long (x.toInt64)], kH0, 0, 0)) (ks2 (v := .long (Int64.ofNat 0)) (n := 1) (kmc_183 (e := (2, .lload_n kF2, 0)) rfl) rfl) ?_
      refine .step (x' := (3, [some (.long (x.toInt64)), none, some (.long (Int64.ofNat 0)), none, some (.long (-1)), none], [.int (-1)], kH0, 0, 0)) (ks0 (st' := [.int (-1)]) (kmc_183 (e := (0, .lcmp, 0)) rfl) (sa_lcmp (sc_lt (a := x.toInt) (b := 0) (sz_l _) (sz_cl (k := 0) (by decide +kernel)) (by omega)))) ?_
      refine .step (x' := (17, [some (.long (x.toInt64)), none, some (.long (Int64.ofNat 0)), none, some (.long (-1)), none], [], kH0, 0, 0)) (ks4 (pc' := 17) (st' := []) (kmc_183 (e := (4, .ifCond .lt 14, 17)) rfl) (kbz_lt (b := true) (by decide +kernel))) ?_
      refine .step (x' := (18, [some (.long (x.toInt64)), none, some (.long (Int64.ofNat 0)), none, some (.long (-1)), none], [.int (Int32.ofInt 0)], kH0, 0, 0)) (ks0 (st' := [.int (Int32.ofInt 0)]) (kmc_183 (e := (0, .iconst 0, 0)) rfl) rfl) ?_
      exact .ret (ks7 (kmc_183 (e := (7, .ireturn, 0)) rfl) (sr_z (by decide +kernel)))
    show pm_Te kK false (pm_Rd kK false 38) 191 (13, [some (.ref 170), some (.int x)], [.int (Int32.ofInt 0)], kH0, 0, 0) _
    exact .ret (ks7 (kmc_191 (e := (7, .ireturn, 0)) rfl) (sr_z (by decide +kernel)))
  show pm_Te kK false (pm_Rd kK false 39) 236 (10, [some (.ref 170), some (.int x), some (.int y)], [.int (Int32.ofInt 0)], kH0, 0, 0) _
  refine .step (x' := (25, [some (.ref 170), some (.int x), some (.int y)], [], kH0, 0, 0)) (ks4 (pc' := 25) (st' := []) (kmc_236 (e := (4, .ifCond .eq 15, 25)) rfl) (kbz_eq (b := true) (by decide +kernel))) ?_
  refine .step (x' := (26, [some (.ref 170), some (.int x), some (.int y)], [.ref 170], kH0, 0, 0)) (ks2 (v := .ref 170) (n := 1) (kmc_236 (e := (2, .aload_n kF0, 0)) rfl) rfl) ?_
  refine .call (v := some (.int (Int32.ofInt 0))) (ph' := kHth_person_0) (c1 := 0) (s1 := 0) (j := 182) (as := [.ref 170]) (pc := 29) (L := [some (.ref 170), some (.int x), some (.int y)]) (st := []) (ks6 (kmc_236 (e := (6, .invokevirtual 320, 0)) rfl) (sk_v (n := 0) (a := 170) rfl rfl kat_170 rfl rfl)) (show pm_Rd kK false 39 182 [.ref 170] kH0 (some (.int (Int32.ofInt 0)), kHth_person_0, 0, 0) from ?_) ?_
  · refine pm_Rd.mk (K := kK) (al := false) (d := 38) (mj := 182) rfl ?_
    show pm_Te kK false (pm_Rd kK false 38) 182 (0, [some (.ref 170)], [], kH0, 0, 0) _
    refine .step (x' := (1, [some (.ref 170)], [.ref 170], kH0, 0, 0)) (ks2 (v := .ref 170) (n := 1) (kmc_182 (e := (2, .aload_n kF0, 0)) rfl) rfl) ?_
    refine .step (x' := (2, [some (.ref 170)], [.int (Int32.ofInt 1), .ref 170], kH0, 0, 0)) (ks0 (st' := [.int (Int32.ofInt 1), .ref 170]) (kmc_182 (e := (0, .iconst 1, 0)) rfl) rfl) ?_
    refine .step (x' := (5, [some (.ref 170)], [], kHth_person_0, 0, 0)) (skw (kmc_182 (e := (5, .putfield 3, 0)) rfl) rfl kat_170 rfl rfl) ?_
    refine .step (x' := (6, [some (.ref 170)], [.int (Int32.ofInt 0)], kHth_person_0, 0, 0)) (ks0 (st' := [.int (Int32.ofInt 0)]) (kmc_182 (e := (0, .iconst 0, 0)) rfl) rfl) ?_
    exact .ret (ks7 (kmc_182 (e := (7, .ireturn, 0)) rfl) rfl)
  show pm_Te kK false (pm_Rd kK false 39) 236 (29, [some (.ref 170), some (.int x), some (.int y)], [.int (Int32.ofInt 0)], kHth_person_0, 0, 0) _
  exact .ret (ks7 (kmc_236 (e := (7, .ireturn, 0)) rfl) rfl)
theorem kTh_person_1 {y : Int32} : pm_Se kK false (pm_Rd kK false 10) 129 (0, [some (.ref 0), some (.int (fo_i 0)), some (.int y)], [], kH0, 0, 0) (11, [some (.ref 0), some (.int (fo_i 0)), some (.int y)], [], kH0, 0, 0) := by
  refine .step (x' := (1, [some (.ref 0), some (.int (fo_i 0)), some (.int y)], [.ref 0], kH0, 0, 0)) (ks2 (v := .ref 0) (n := 1) (kmc_129 (e := (2, .aload_n kF0, 0)) rfl) rfl) ?_
  refine .step (x' := (4, [some (.ref 0), some (.int (fo_i 0)), some (.int y)], [.ref 25], kH0, 0, 0)) (skg (v := .ref 25) (kmc_129 (e := (5, .getfield 42, 0)) rfl) rfl kat_0 rfl) ?_
  refine .step (x' := (5, [some (.ref 0), some (.int (fo_i 0)), some (.int y)], [.int (fo_i 0), .ref 25], kH0, 0, 0)) (ks2 (v := .int (fo_i 0)) (n := 1) (kmc_129 (e := (2, .iload_n kF1, 0)) rfl) rfl) ?_
  refine .call (v := some (.int (Int32.ofInt 0))) (ph' := kH0) (c1 := 0) (s1 := 0) (j := 106) (as := [.ref 25, .int (fo_i 0)]) (pc := 8) (L := [some (.ref 0), some (.int (fo_i 0)), some (.int y)]) (st := []) (ks6 (kmc_129 (e := (6, .invokevirtual 167, 0)) rfl) (sk_v (n := 1) (a := 25) rfl rfl kat_25 rfl rfl)) (show pm_Rd kK false 10 106 [.ref 25, .int (fo_i 0)] kH0 (some (.int (Int32.ofInt 0)), kH0, 0, 0) from ?_) ?_
  · refine pm_Rd.mk (K := kK) (al := false) (d := 9) (mj := 106) rfl ?_
    show pm_Te kK false (pm_Rd kK false 9) 106 (0, [some (.ref 25), some (.int (fo_i 0))], [], kH0, 0, 0) _
    refine .step (x' := (1, [some (.ref 25), some (.int (fo_i 0))], [.int (fo_i 0)], kH0, 0, 0)) (ks2 (v := .int (fo_i 0)) (n := 1) (kmc_106 (e := (2, .iload_n kF1, 0)) rfl) rfl) ?_
    refine .step (x' := (4, [some (.ref 25), some (.int (fo_i 0))], [], kH0, 0, 0)) (ks4 (pc' := 4) (st' := []) (kmc_106 (e := (4, .ifCond .lt 21, 22)) rfl) (kbz_lt (b := false) (by decide +kernel))) ?_
    refine .step (x' := (5, [some (.ref 25), some (.int (fo_i 0))], [.int (fo_i 0)], kH0, 0, 0)) (ks2 (v := .int (fo_i 0)) (n := 1) (kmc_106 (e := (2, .iload_n kF1, 0)) rfl) rfl) ?_
    refine .step (x' := (6, [some (.ref 25), some (.int (fo_i 0))], [.ref 25, .int (fo_i 0)], kH0, 0, 0)) (ks2 (v := .ref 25) (n := 1) (kmc_106 (e := (2, .aload_n kF0, 0)) rfl) rfl) ?_
    refine .step (x' := (9, [some (.ref 25), some (.int (fo_i 0))], [.int 0, .int (fo_i 0)], kH0, 0, 0)) (skg (v := .int 0) (kmc_106 (e := (5, .getfield 30, 0)) rfl) rfl kat_25 rfl) ?_
    refine .step (x' := (22, [some (.ref 25), some (.int (fo_i 0))], [], kH0, 0, 0)) (ks4 (pc' := 22) (st' := []) (kmc_106 (e := (4, .if_icmp .ge 13, 22)) rfl) (kbi_ge (b := true) (by decide +kernel))) ?_
    refine .step (x' := (23, [some (.ref 25), some (.int (fo_i 0))], [.int (Int32.ofInt 0)], kH0, 0, 0)) (ks0 (st' := [.int (Int32.ofInt 0)]) (kmc_106 (e := (0, .iconst 0, 0)) rfl) rfl) ?_
    exact .ret (ks7 (kmc_106 (e := (7, .ireturn, 0)) rfl) (sr_z (by decide +kernel)))
  show pm_Se kK false (pm_Rd kK false 10) 129 (8, [some (.ref 0), some (.int (fo_i 0)), some (.int y)], [.int (Int32.ofInt 0)], kH0, 0, 0) _
  refine .step (x' := (11, [some (.ref 0), some (.int (fo_i 0)), some (.int y)], [], kH0, 0, 0)) (ks4 (pc' := 11) (st' := []) (kmc_129 (e := (4, .ifCond .ne 11, 19)) rfl) (kbz_ne (b := true) (by decide +kernel))) ?_
  exact .rf
def kHth_person_1 : pm_H := kH0.set 170 (.inr (13, [.int (Int32.ofInt 1), .int 0, .ref 171, .int 3, .int 3, .int 0, .int 0, .int 0, .int 1, .ref 172, .ref 173, .ref 174, .ref 175, .ref 176, .int 0, .int 0, .int 0, .int 0, .ref 177, .ref 178, .int 0, .ref 179, .ref 180, .int 0, .int 0, .ref 181, .ref 182, .int 0, .ref 183, .ref 184, .ref 185, .ref 186, .ref 187, .ref 188, .int 0, .ref 189, .ref 190, .ref 191, .ref 192, .int 0, .ref 193, .ref 194, .ref 195, .ref 196, .ref 197, .int 0, .ref 198, .ref 199, .ref 200]))
theorem kTm_person_1 {y : Int32} : pm_Rd kK false 40 236 [.ref 170, .int (fo_i 0), .int y] kH0 (some (.int (Int32.ofInt 0)), kHth_person_1, 0, 0) := by
  refine pm_Rd.mk (K := kK) (al := false) (d := 39) (mj := 236) rfl ?_
  show pm_Te kK false (pm_Rd kK false 39) 236 (0, [some (.ref 170), some (.int (fo_i 0)), some (.int y)], [], kH0, 0, 0) _
  refine .step (x' := (1, [some (.ref 170), some (.int (fo_i 0)), some (.int y)], [.ref 170], kH0, 0, 0)) (ks2 (v := .ref 170) (n := 1) (kmc_236 (e := (2, .aload_n kF0, 0)) rfl) rfl) ?_
  refine .step (x' := (2, [some (.ref 170), some (.int (fo_i 0)), some (.int y)], [.int (Int32.ofInt 0), .ref 170], kH0, 0, 0)) (ks0 (st' := [.int (Int32.ofInt 0), .ref 170]) (kmc_236 (e := (0, .iconst 0, 0)) rfl) rfl) ?_
  refine .step (x' := (5, [some (.ref 170), some (.int (fo_i 0)), some (.int y)], [], kH0, 0, 0)) (skp (kmc_236 (e := (5, .putfield 3, 0)) rfl) rfl kat_170 (by decide +kernel) rfl) ?_
  refine .step (x' := (6, [some (.ref 170), some (.int (fo_i 0)), some (.int y)], [.ref 170], kH0, 0, 0)) (ks2 (v := .ref 170) (n := 1) (kmc_236 (e := (2, .aload_n kF0, 0)) rfl) rfl) ?_
  refine .step (x' := (7, [some (.ref 170), some (.int (fo_i 0)), some (.int y)], [.int (fo_i 0), .ref 170], kH0, 0, 0)) (ks2 (v := .int (fo_i 0)) (n := 1) (kmc_236 (e := (2, .iload_n kF1, 0)) rfl) rfl) ?_
  refine .call (v := some (.int (Int32.ofInt 0))) (ph' := kH0) (c1 := 0) (s1 := 0) (j := 191) (as := [.ref 170, .int (fo_i 0)]) (pc := 10) (L := [some (.ref 170), some (.int (fo_i 0)), some (.int y)]) (st := []) (ks6 (kmc_236 (e := (6, .invokevirtual 315, 0)) rfl) (sk_v (n := 1) (a := 170) rfl rfl kat_170 rfl rfl)) (show pm_Rd kK false 39 191 [.ref 170, .int (fo_i 0)] kH0 (some (.int (Int32.ofInt 0)), kH0, 0, 0) from ?_) ?_
  · refine pm_Rd.mk (K := kK) (al := false) (d := 38) (mj := 191) rfl ?_
    show pm_Te kK false (pm_Rd kK false 38) 191 (0, [some (.ref 170), some (.int (fo_i 0))], [], kH0, 0, 0) _
    refine .step (x' := (1, [some (.ref 170), some (.int (fo_i 0))], [.int (fo_i 0)], kH0, 0, 0)) (ks2 (v := .int (fo_i 0)) (n := 1) (kmc_191 (e := (2, .iload_n kF1, 0)) rfl) rfl) ?_
    refine .step (x' := (2, [some (.ref 170), some (.int (fo_i 0))], [.long 0], kH0, 0, 0)) (ks0 (st' := [.long 0]) (kmc_191 (e := (0, .i2l, 0)) rfl) (sa_i2l (by decide +kernel))) ?_
    refine .step (x' := (3, [some (.ref 170), some (.int (fo_i 0))], [.long (Int64.ofNat 0), .long 0], kH0, 0, 0)) (ks0 (st' := [.long (Int64.ofNat 0), .long 0]) (kmc_191 (e := (0, .lconst kG0, 0)) rfl) rfl) ?_
    refine .step (x' := (4, [some (.ref 170), some (.int (fo_i 0))], [.ref 170, .long (Int64.ofNat 0), .long 0], kH0, 0, 0)) (ks2 (v := .ref 170) (n := 1) (kmc_191 (e := (2, .aload_n kF0, 0)) rfl) rfl) ?_
    refine .step (x' := (7, [some (.ref 170), some (.int (fo_i 0))], [.int 0, .long (Int64.ofNat 0), .long 0], kH0, 0, 0)) (skg (v := .int 0) (kmc_191 (e := (5, .getfield 130, 0)) rfl) rfl kat_170 rfl) ?_
    refine .step (x' := (8, [some (.ref 170), some (.int (fo_i 0))], [.int (Int32.ofInt 1), .int 0, .long (Int64.ofNat 0), .long 0], kH0, 0, 0)) (ks0 (st' := [.int (Int32.ofInt 1), .int 0, .long (Int64.ofNat 0), .long 0]) (kmc_191 (e := (0, .iconst 1, 0)) rfl) rfl) ?_
    refine .step (x' := (9, [some (.ref 170), some (.int (fo_i 0))], [.int (-1), .long (Int64.ofNat 0), .long 0], kH0, 0, 0)) (ks0 (st' := [.int (-1), .long (Int64.ofNat 0), .long 0]) (kmc_191 (e := (0, .isub, 0)) rfl) (sa_isub (by decide +kernel))) ?_
    refine .step (x' := (10, [some (.ref 170), some (.int (fo_i 0))], [.long (-1), .long (Int64.ofNat 0), .long 0], kH0, 0, 0)) (ks0 (st' := [.long (-1), .long (Int64.ofNat 0), .long 0]) (kmc_191 (e := (0, .i2l, 0)) rfl) (sa_i2l (by decide +kernel))) ?_
    refine .call (v := some (.int (Int32.ofInt 0))) (ph' := kH0) (c1 := 0) (s1 := 0) (j := 183) (as := [.long 0, .long (Int64.ofNat 0), .long (-1)]) (pc := 13) (L := [some (.ref 170), some (.int (fo_i 0))]) (st := []) (ks6 (kmc_191 (e := (6, .invokestatic 126, 0)) rfl) (sk_s (n := 3) rfl rfl rfl)) (show pm_Rd kK false 38 183 [.long 0, .long (Int64.ofNat 0), .long (-1)] kH0 (some (.int (Int32.ofInt 0)), kH0, 0, 0) from ?_) ?_
    · refine pm_Rd.mk (K := kK) (al := false) (d := 37) (mj := 183) rfl ?_
      show pm_Te kK false (pm_Rd kK false 37) 183 (0, [some (.long 0), none, some (.long (Int64.ofNat 0)), none, some (.long (-1)), none], [], kH0, 0, 0) _
      refine .step (x' := (1, [some (.long 0), none, some (.long (Int64.ofNat 0)), none, some (.long (-1)), none], [.long 0], kH0, 0, 0)) (ks2 (v := .long 0) (n := 1) (kmc_183 (e := (2, .lload_n kF0, 0)) rfl) rfl) ?_
      refine .step (x' := (2, [some (.long 0), none, some (.long (Int64.ofNat 0)), none, some (.long (-1)), none], [.long (Int64.ofNat 0), .long 0], kH0, 0, 0)) (ks2 (v := .long (Int64.ofNat 0)) (n := 1) (kmc_183 (e := (2, .lload_n kF2, 0)) rfl) rfl) ?_
      refine .step (x' := (3, [some (.long 0), none, some (.long (Int64.ofNat 0)), none, some (.long (-1)), none], [.int 0], kH0, 0, 0)) (ks0 (st' := [.int 0]) (kmc_183 (e := (0, .lcmp, 0)) rfl) (sa_lcmp (by decide +kernel))) ?_
      refine .step (x' := (6, [some (.long 0), none, some (.long (Int64.ofNat 0)), none, some (.long (-1)), none], [], kH0, 0, 0)) (ks4 (pc' := 6) (st' := []) (kmc_183 (e := (4, .ifCond .lt 14, 17)) rfl) (kbz_lt (b := false) (by decide +kernel))) ?_
      refine .step (x' := (7, [some (.long 0), none, some (.long (Int64.ofNat 0)), none, some (.long (-1)), none], [.long 0], kH0, 0, 0)) (ks2 (v := .long 0) (n := 1) (kmc_183 (e := (2, .lload_n kF0, 0)) rfl) rfl) ?_
      refine .step (x' := (9, [some (.long 0), none, some (.long (Int64.ofNat 0)), none, some (.long (-1)), none], [.long (-1), .long 0], kH0, 0, 0)) (ks2 (v := .long (-1)) (n := 2) (kmc_183 (e := (2, .lload 4, 0)) rfl) rfl) ?_
      refine .step (x' := (10, [some (.long 0), none, some (.long (Int64.ofNat 0)), none, some (.long (-1)), none], [.int 1], kH0, 0, 0)) (ks0 (st' := [.int 1]) (kmc_183 (e := (0, .lcmp, 0)) rfl) (sa_lcmp (by decide +kernel))) ?_
      refine .step (x' := (17, [some (.long 0), none, some (.long (Int64.ofNat 0)), none, some (.long (-1)), none], [], kH0, 0, 0)) (ks4 (pc' := 17) (st' := []) (kmc_183 (e := (4, .ifCond .gt 7, 17)) rfl) (kbz_gt (b := true) (by decide +kernel))) ?_
      refine .step (x' := (18, [some (.long 0), none, some (.long (Int64.ofNat 0)), none, some (.long (-1)), none], [.int (Int32.ofInt 0)], kH0, 0, 0)) (ks0 (st' := [.int (Int32.ofInt 0)]) (kmc_183 (e := (0, .iconst 0, 0)) rfl) rfl) ?_
      exact .ret (ks7 (kmc_183 (e := (7, .ireturn, 0)) rfl) (sr_z (by decide +kernel)))
    show pm_Te kK false (pm_Rd kK false 38) 191 (13, [some (.ref 170), some (.int (fo_i 0))], [.int (Int32.ofInt 0)], kH0, 0, 0) _
    exact .ret (ks7 (kmc_191 (e := (7, .ireturn, 0)) rfl) (sr_z (by decide +kernel)))
  show pm_Te kK false (pm_Rd kK false 39) 236 (10, [some (.ref 170), some (.int (fo_i 0)), some (.int y)], [.int (Int32.ofInt 0)], kH0, 0, 0) _
  refine .step (x' := (25, [some (.ref 170), some (.int (fo_i 0)), some (.int y)], [], kH0, 0, 0)) (ks4 (pc' := 25) (st' := []) (kmc_236 (e := (4, .ifCond .eq 15, 25)) rfl) (kbz_eq (b := true) (by decide +kernel))) ?_
  refine .step (x' := (26, [some (.ref 170), some (.int (fo_i 0)), some (.int y)], [.ref 170], kH0, 0, 0)) (ks2 (v := .ref 170) (n := 1) (kmc_236 (e := (2, .aload_n kF0, 0)) rfl) rfl) ?_
  refine .call (v := some (.int (Int32.ofInt 0))) (ph' := kHth_person_1) (c1 := 0) (s1 := 0) (j := 182) (as := [.ref 170]) (pc := 29) (L := [some (.ref 170), some (.int (fo_i 0)), some (.int y)]) (st := []) (ks6 (kmc_236 (e := (6, .invokevirtual 320, 0)) rfl) (sk_v (n := 0) (a := 170) rfl rfl kat_170 rfl rfl)) (show pm_Rd kK false 39 182 [.ref 170] kH0 (some (.int (Int32.ofInt 0)), kHth_person_1, 0, 0) from ?_) ?_
  · refine pm_Rd.mk (K := kK) (al := false) (d := 38) (mj := 182) rfl ?_
    show pm_Te kK false (pm_Rd kK false 38) 182 (0, [some (.ref 170)], [], kH0, 0, 0) _
    refine .step (x' := (1, [some (.ref 170)], [.ref 170], kH0, 0, 0)) (ks2 (v := .ref 170) (n := 1) (kmc_182 (e := (2, .aload_n kF0, 0)) rfl) rfl) ?_
    refine .step (x' := (2, [some (.ref 170)], [.int (Int32.ofInt 1), .ref 170], kH0, 0, 0)) (ks0 (st' := [.int (Int32.ofInt 1), .ref 170]) (kmc_182 (e := (0, .iconst 1, 0)) rfl) rfl) ?_
    refine .step (x' := (5, [some (.ref 170)], [], kHth_person_1, 0, 0)) (skw (kmc_182 (e := (5, .putfield 3, 0)) rfl) rfl kat_170 rfl rfl) ?_
    refine .step (x' := (6, [some (.ref 170)], [.int (Int32.ofInt 0)], kHth_person_1, 0, 0)) (ks0 (st' := [.int (Int32.ofInt 0)]) (kmc_182 (e := (0, .iconst 0, 0)) rfl) rfl) ?_
    exact .ret (ks7 (kmc_182 (e := (7, .ireturn, 0)) rfl) rfl)
  show pm_Te kK false (pm_Rd kK false 39) 236 (29, [some (.ref 170), some (.int (fo_i 0)), some (.int y)], [.int (Int32.ofInt 0)], kHth_person_1, 0, 0) _
  exact .ret (ks7 (kmc_236 (e := (7, .ireturn, 0)) rfl) rfl)
theorem kTh_person_2 {x : Int32} (hx : 1 ≤ x.toInt) {y : Int32} : pm_Se kK false (pm_Rd kK false 10) 129 (0, [some (.ref 0), some (.int x), some (.int y)], [], kH0, 0, 0) (11, [some (.ref 0), some (.int x), some (.int y)], [], kH0, 0, 0) := by
  refine .step (x' := (1, [some (.ref 0), some (.int x), some (.int y)], [.ref 0], kH0, 0, 0)) (ks2 (v := .ref 0) (n := 1) (kmc_129 (e := (2, .aload_n kF0, 0)) rfl) rfl) ?_
  refine .step (x' := (4, [some (.ref 0), some (.int x), some (.int y)], [.ref 25], kH0, 0, 0)) (skg (v := .ref 25) (kmc_129 (e := (5, .getfield 42, 0)) rfl) rfl kat_0 rfl) ?_
  refine .step (x' := (5, [some (.ref 0), some (.int x), some (.int y)], [.int x, .ref 25], kH0, 0, 0)) (ks2 (v := .int x) (n := 1) (kmc_129 (e := (2, .iload_n kF1, 0)) rfl) rfl) ?_
  refine .call (v := some (.int (Int32.ofInt 0))) (ph' := kH0) (c1 := 0) (s1 := 0) (j := 106) (as := [.ref 25, .int x]) (pc := 8) (L := [some (.ref 0), some (.int x), some (.int y)]) (st := []) (ks6 (kmc_129 (e := (6, .invokevirtual 167, 0)) rfl) (sk_v (n := 1) (a := 25) rfl rfl kat_25 rfl rfl)) (show pm_Rd kK false 10 106 [.ref 25, .int x] kH0 (some (.int (Int32.ofInt 0)), kH0, 0, 0) from ?_) ?_
  · refine pm_Rd.mk (K := kK) (al := false) (d := 9) (mj := 106) rfl ?_
    show pm_Te kK false (pm_Rd kK false 9) 106 (0, [some (.ref 25), some (.int x)], [], kH0, 0, 0) _
    refine .step (x' := (1, [some (.ref 25), some (.int x)], [.int x], kH0, 0, 0)) (ks2 (v := .int x) (n := 1) (kmc_106 (e := (2, .iload_n kF1, 0)) rfl) rfl) ?_
    refine .step (x' := (4, [some (.ref 25), some (.int x)], [], kH0, 0, 0)) (ks4 (pc' := 4) (st' := []) (kmc_106 (e := (4, .ifCond .lt 21, 22)) rfl) (kbz_lt (b := false) (sd_ltf (a := x.toInt) (b := 0) rfl (sz_c (k := 0) (by decide +kernel)) (by omega)))) ?_
    refine .step (x' := (5, [some (.ref 25), some (.int x)], [.int x], kH0, 0, 0)) (ks2 (v := .int x) (n := 1) (kmc_106 (e := (2, .iload_n kF1, 0)) rfl) rfl) ?_
    refine .step (x' := (6, [some (.ref 25), some (.int x)], [.ref 25, .int x], kH0, 0, 0)) (ks2 (v := .ref 25) (n := 1) (kmc_106 (e := (2, .aload_n kF0, 0)) rfl) rfl) ?_
    refine .step (x' := (9, [some (.ref 25), some (.int x)], [.int 0, .int x], kH0, 0, 0)) (skg (v := .int 0) (kmc_106 (e := (5, .getfield 30, 0)) rfl) rfl kat_25 rfl) ?_
    refine .step (x' := (22, [some (.ref 25), some (.int x)], [], kH0, 0, 0)) (ks4 (pc' := 22) (st' := []) (kmc_106 (e := (4, .if_icmp .ge 13, 22)) rfl) (kbi_ge (b := true) (sd_let (a := 0) (b := x.toInt) (sz_c (k := 0) (by decide +kernel)) rfl (by omega)))) ?_
    refine .step (x' := (23, [some (.ref 25), some (.int x)], [.int (Int32.ofInt 0)], kH0, 0, 0)) (ks0 (st' := [.int (Int32.ofInt 0)]) (kmc_106 (e := (0, .iconst 0, 0)) rfl) rfl) ?_
    exact .ret (ks7 (kmc_106 (e := (7, .ireturn, 0)) rfl) (sr_z (by decide +kernel)))
  show pm_Se kK false (pm_Rd kK false 10) 129 (8, [some (.ref 0), some (.int x), some (.int y)], [.int (Int32.ofInt 0)], kH0, 0, 0) _
  refine .step (x' := (11, [some (.ref 0), some (.int x), some (.int y)], [], kH0, 0, 0)) (ks4 (pc' := 11) (st' := []) (kmc_129 (e := (4, .ifCond .ne 11, 19)) rfl) (kbz_ne (b := true) (by decide +kernel))) ?_
  exact .rf
def kHth_person_2 : pm_H := kH0.set 170 (.inr (13, [.int (Int32.ofInt 1), .int 0, .ref 171, .int 3, .int 3, .int 0, .int 0, .int 0, .int 1, .ref 172, .ref 173, .ref 174, .ref 175, .ref 176, .int 0, .int 0, .int 0, .int 0, .ref 177, .ref 178, .int 0, .ref 179, .ref 180, .int 0, .int 0, .ref 181, .ref 182, .int 0, .ref 183, .ref 184, .ref 185, .ref 186, .ref 187, .ref 188, .int 0, .ref 189, .ref 190, .ref 191, .ref 192, .int 0, .ref 193, .ref 194, .ref 195, .ref 196, .ref 197, .int 0, .ref 198, .ref 199, .ref 200]))
theorem kTm_person_2 {x : Int32} (hx : 1 ≤ x.toInt) {y : Int32} : pm_Rd kK false 40 236 [.ref 170, .int x, .int y] kH0 (some (.int (Int32.ofInt 0)), kHth_person_2, 0, 0) := by
  refine pm_Rd.mk (K := kK) (al := false) (d := 39) (mj := 236) rfl ?_
  show pm_Te kK false (pm_Rd kK false 39) 236 (0, [some (.ref 170), some (.int x), some (.int y)], [], kH0, 0, 0) _
  refine .step (x' := (1, [some (.ref 170), some (.int x), some (.int y)], [.ref 170], kH0, 0, 0)) (ks2 (v := .ref 170) (n := 1) (kmc_236 (e := (2, .aload_n kF0, 0)) rfl) rfl) ?_
  refine .step (x' := (2, [some (.ref 170), some (.int x), some (.int y)], [.int (Int32.ofInt 0), .ref 170], kH0, 0, 0)) (ks0 (st' := [.int (Int32.ofInt 0), .ref 170]) (kmc_236 (e := (0, .iconst 0, 0)) rfl) rfl) ?_
  refine .step (x' := (5, [some (.ref 170), some (.int x), some (.int y)], [], kH0, 0, 0)) (skp (kmc_236 (e := (5, .putfield 3, 0)) rfl) rfl kat_170 (by decide +kernel) rfl) ?_
  refine .step (x' := (6, [some (.ref 170), some (.int x), some (.int y)], [.ref 170], kH0, 0, 0)) (ks2 (v := .ref 170) (n := 1) (kmc_236 (e := (2, .aload_n kF0, 0)) rfl) rfl) ?_
  refine .step (x' := (7, [some (.ref 170), some (.int x), some (.int y)], [.int x, .ref 170], kH0, 0, 0)) (ks2 (v := .int x) (n := 1) (kmc_236 (e := (2, .iload_n kF1, 0)) rfl) rfl) ?_
  refine .call (v := some (.int (Int32.ofInt 0))) (ph' := kH0) (c1 := 0) (s1 := 0) (j := 191) (as := [.ref 170, .int x]) (pc := 10) (L := [some (.ref 170), some (.int x), some (.int y)]) (st := []) (ks6 (kmc_236 (e := (6, .invokevirtual 315, 0)) rfl) (sk_v (n := 1) (a := 170) rfl rfl kat_170 rfl rfl)) (show pm_Rd kK false 39 191 [.ref 170, .int x] kH0 (some (.int (Int32.ofInt 0)), kH0, 0, 0) from ?_) ?_
  · refine pm_Rd.mk (K := kK) (al := false) (d := 38) (mj := 191) rfl ?_
    show pm_Te kK false (pm_Rd kK false 38) 191 (0, [some (.ref 170), some (.int x)], [], kH0, 0, 0) _
    refine .step (x' := (1, [some (.ref 170), some (.int x)], [.int x], kH0, 0, 0)) (ks2 (v := .int x) (n := 1) (kmc_191 (e := (2, .iload_n kF1, 0)) rfl) rfl) ?_
    refine .step (x' := (2, [some (.ref 170), some (.int x)], [.long (x.toInt64)], kH0, 0, 0)) (ks0 (st' := [.long (x.toInt64)]) (kmc_191 (e := (0, .i2l, 0)) rfl) rfl) ?_
    refine .step (x' := (3, [some (.ref 170), some (.int x)], [.long (Int64.ofNat 0), .long (x.toInt64)], kH0, 0, 0)) (ks0 (st' := [.long (Int64.ofNat 0), .long (x.toInt64)]) (kmc_191 (e := (0, .lconst kG0, 0)) rfl) rfl) ?_
    refine .step (x' := (4, [some (.ref 170), some (.int x)], [.ref 170, .long (Int64.ofNat 0), .long (x.toInt64)], kH0, 0, 0)) (ks2 (v := .ref 170) (n := 1) (kmc_191 (e := (2, .aload_n kF0, 0)) rfl) rfl) ?_
    refine .step (x' := (7, [some (.ref 170), some (.int x)], [.int 0, .long (Int64.ofNat 0), .long (x.toInt64)], kH0, 0, 0)) (skg (v := .int 0) (kmc_191 (e := (5, .getfield 130, 0)) rfl) rfl kat_170 rfl) ?_
    refine .step (x' := (8, [some (.ref 170), some (.int x)], [.int (Int32.ofInt 1), .int 0, .long (Int64.ofNat 0), .long (x.toInt64)], kH0, 0, 0)) (ks0 (st' := [.int (Int32.ofInt 1), .int 0, .long (Int64.ofNat 0), .long (x.toInt64)]) (kmc_191 (e := (0, .iconst 1, 0)) rfl) rfl) ?_
    refine .step (x' := (9, [some (.ref 170), some (.int x)], [.int (-1), .long (Int64.ofNat 0), .long (x.toInt64)], kH0, 0, 0)) (ks0 (st' := [.int (-1), .long (Int64.ofNat 0), .long (x.toInt64)]) (kmc_191 (e := (0, .isub, 0)) rfl) (sa_isub (by decide +kernel))) ?_
    refine .step (x' := (10, [some (.ref 170), some (.int x)], [.long (-1), .long (Int64.ofNat 0), .long (x.toInt64)], kH0, 0, 0)) (ks0 (st' := [.long (-1), .long (Int64.ofNat 0), .long (x.toInt64)]) (kmc_191 (e := (0, .i2l, 0)) rfl) (sa_i2l (by decide +kernel))) ?_
    refine .call (v := some (.int (Int32.ofInt 0))) (ph' := kH0) (c1 := 0) (s1 := 0) (j := 183) (as := [.long (x.toInt64), .long (Int64.ofNat 0), .long (-1)]) (pc := 13) (L := [some (.ref 170), some (.int x)]) (st := []) (ks6 (kmc_191 (e := (6, .invokestatic 126, 0)) rfl) (sk_s (n := 3) rfl rfl rfl)) (show pm_Rd kK false 38 183 [.long (x.toInt64), .long (Int64.ofNat 0), .long (-1)] kH0 (some (.int (Int32.ofInt 0)), kH0, 0, 0) from ?_) ?_
    · refine pm_Rd.mk (K := kK) (al := false) (d := 37) (mj := 183) rfl ?_
      show pm_Te kK false (pm_Rd kK false 37) 183 (0, [some (.long (x.toInt64)), none, some (.long (Int64.ofNat 0)), none, some (.long (-1)), none], [], kH0, 0, 0) _
      refine .step (x' := (1, [some (.long (x.toInt64)), none, some (.long (Int64.ofNat 0)), none, some (.long (-1)), none], [.long (x.toInt64)], kH0, 0, 0)) (ks2 (v := .long (x.toInt64)) (n := 1) (kmc_183 (e := (2, .lload_n kF0, 0)) rfl) rfl) ?_
      refine .step (x' := (2, [some (.long (x.toInt64)), none, some (.long (Int64.ofNat 0)), none, some (.long (-1)), none], [.long (Int64.ofNat 0), .long (x.toInt64)], kH0, 0, 0)) (ks2 (v := .long (Int64.ofNat 0)) (n := 1) (kmc_183 (e := (2, .lload_n kF2, 0)) rfl) rfl) ?_
      refine .step (x' := (3, [some (.long (x.toInt64)), none, some (.long (Int64.ofNat 0)), none, some (.long (-1)), none], [.int 1], kH0, 0, 0)) (ks0 (st' := [.int 1]) (kmc_183 (e := (0, .lcmp, 0)) rfl) (sa_lcmp (sc_gt (a := x.toInt) (b := 0) (sz_l _) (sz_cl (k := 0) (by decide +kernel)) (by omega)))) ?_
      refine .step (x' := (6, [some (.long (x.toInt64)), none, some (.long (Int64.ofNat 0)), none, some (.long (-1)), none], [], kH0, 0, 0)) (ks4 (pc' := 6) (st' := []) (kmc_183 (e := (4, .ifCond .lt 14, 17)) rfl) (kbz_lt (b := false) (by decide +kernel))) ?_
      refine .step (x' := (7, [some (.long (x.toInt64)), none, some (.long (Int64.ofNat 0)), none, some (.long (-1)), none], [.long (x.toInt64)], kH0, 0, 0)) (ks2 (v := .long (x.toInt64)) (n := 1) (kmc_183 (e := (2, .lload_n kF0, 0)) rfl) rfl) ?_
      refine .step (x' := (9, [some (.long (x.toInt64)), none, some (.long (Int64.ofNat 0)), none, some (.long (-1)), none], [.long (-1), .long (x.toInt64)], kH0, 0, 0)) (ks2 (v := .long (-1)) (n := 2) (kmc_183 (e := (2, .lload 4, 0)) rfl) rfl) ?_
      refine .step (x' := (10, [some (.long (x.toInt64)), none, some (.long (Int64.ofNat 0)), none, some (.long (-1)), none], [.int 1], kH0, 0, 0)) (ks0 (st' := [.int 1]) (kmc_183 (e := (0, .lcmp, 0)) rfl) (sa_lcmp (sc_gt (a := x.toInt) (b := (-1)) (sz_l _) (sz_cl (k := -1) (by decide +kernel)) (by omega)))) ?_
      refine .step (x' := (17, [some (.long (x.toInt64)), none, some (.long (Int64.ofNat 0)), none, some (.long (-1)), none], [], kH0, 0, 0)) (ks4 (pc' := 17) (st' := []) (kmc_183 (e := (4, .ifCond .gt 7, 17)) rfl) (kbz_gt (b := true) (by decide +kernel))) ?_
      refine .step (x' := (18, [some (.long (x.toInt64)), none, some (.long (Int64.ofNat 0)), none, some (.long (-1)), none], [.int (Int32.ofInt 0)], kH0, 0, 0)) (ks0 (st' := [.int (Int32.ofInt 0)]) (kmc_183 (e := (0, .iconst 0, 0)) rfl) rfl) ?_
      exact .ret (ks7 (kmc_183 (e := (7, .ireturn, 0)) rfl) (sr_z (by decide +kernel)))
    show pm_Te kK false (pm_Rd kK false 38) 191 (13, [some (.ref 170), some (.int x)], [.int (Int32.ofInt 0)], kH0, 0, 0) _
    exact .ret (ks7 (kmc_191 (e := (7, .ireturn, 0)) rfl) (sr_z (by decide +kernel)))
  show pm_Te kK false (pm_Rd kK false 39) 236 (10, [some (.ref 170), some (.int x), some (.int y)], [.int (Int32.ofInt 0)], kH0, 0, 0) _
  refine .step (x' := (25, [some (.ref 170), some (.int x), some (.int y)], [], kH0, 0, 0)) (ks4 (pc' := 25) (st' := []) (kmc_236 (e := (4, .ifCond .eq 15, 25)) rfl) (kbz_eq (b := true) (by decide +kernel))) ?_
  refine .step (x' := (26, [some (.ref 170), some (.int x), some (.int y)], [.ref 170], kH0, 0, 0)) (ks2 (v := .ref 170) (n := 1) (kmc_236 (e := (2, .aload_n kF0, 0)) rfl) rfl) ?_
  refine .call (v := some (.int (Int32.ofInt 0))) (ph' := kHth_person_2) (c1 := 0) (s1 := 0) (j := 182) (as := [.ref 170]) (pc := 29) (L := [some (.ref 170), some (.int x), some (.int y)]) (st := []) (ks6 (kmc_236 (e := (6, .invokevirtual 320, 0)) rfl) (sk_v (n := 0) (a := 170) rfl rfl kat_170 rfl rfl)) (show pm_Rd kK false 39 182 [.ref 170] kH0 (some (.int (Int32.ofInt 0)), kHth_person_2, 0, 0) from ?_) ?_
  · refine pm_Rd.mk (K := kK) (al := false) (d := 38) (mj := 182) rfl ?_
    show pm_Te kK false (pm_Rd kK false 38) 182 (0, [some (.ref 170)], [], kH0, 0, 0) _
    refine .step (x' := (1, [some (.ref 170)], [.ref 170], kH0, 0, 0)) (ks2 (v := .ref 170) (n := 1) (kmc_182 (e := (2, .aload_n kF0, 0)) rfl) rfl) ?_
    refine .step (x' := (2, [some (.ref 170)], [.int (Int32.ofInt 1), .ref 170], kH0, 0, 0)) (ks0 (st' := [.int (Int32.ofInt 1), .ref 170]) (kmc_182 (e := (0, .iconst 1, 0)) rfl) rfl) ?_
    refine .step (x' := (5, [some (.ref 170)], [], kHth_person_2, 0, 0)) (skw (kmc_182 (e := (5, .putfield 3, 0)) rfl) rfl kat_170 rfl rfl) ?_
    refine .step (x' := (6, [some (.ref 170)], [.int (Int32.ofInt 0)], kHth_person_2, 0, 0)) (ks0 (st' := [.int (Int32.ofInt 0)]) (kmc_182 (e := (0, .iconst 0, 0)) rfl) rfl) ?_
    exact .ret (ks7 (kmc_182 (e := (7, .ireturn, 0)) rfl) rfl)
  show pm_Te kK false (pm_Rd kK false 39) 236 (29, [some (.ref 170), some (.int x), some (.int y)], [.int (Int32.ofInt 0)], kHth_person_2, 0, 0) _
  exact .ret (ks7 (kmc_236 (e := (7, .ireturn, 0)) rfl) rfl)
theorem kTh_person (x y : Int32) : pm_Se kK false (pm_Rd kK false 10) 129 (pm_ent kK 129 [.ref 0, .int x, .int y] kH0) (11, [some (.ref 0), some (.int x), some (.int y)], [], kH0, 0, 0) := by
  show pm_Se kK false (pm_Rd kK false 10) 129 (0, [some (.ref 0), some (.int x), some (.int y)], [], kH0, 0, 0) _
  rcases (by omega : x.toInt ≤ -1 ∨ x.toInt = 0 ∨ 1 ≤ x.toInt) with hx | hx | hx
  · exact kTh_person_0 hx
  · obtain rfl : x = fo_i 0 := sx_c (k := 0) (by decide) hx
    exact kTh_person_1
  · exact kTh_person_2 hx
theorem kTm_person (x y : Int32) : pm_Rd kK false 40 236 [.ref 170, .int x, .int y] kH0 (some (.int (Int32.ofInt 0)), kHth_person_0, 0, 0) := by
  rcases (by omega : x.toInt ≤ -1 ∨ x.toInt = 0 ∨ 1 ≤ x.toInt) with hx | hx | hx
  · exact kTm_person_0 hx
  · obtain rfl : x = fo_i 0 := sx_c (k := 0) (by decide) hx
    exact kTm_person_1
  · exact kTm_person_2 hx
theorem kTt_person : pm_Rd kK false 40 181 [.ref 170] kHth_person_0 (some (.int (Int32.ofInt 1)), kHth_person_0, 0, 0) := by
  refine pm_Rd.mk (K := kK) (al := false) (d := 39) (mj := 181) rfl ?_
  show pm_Te kK false (pm_Rd kK false 39) 181 (0, [some (.ref 170)], [], kHth_person_0, 0, 0) _
  refine .step (x' := (1, [some (.ref 170)], [.ref 170], kHth_person_0, 0, 0)) (ks2 (v := .ref 170) (n := 1) (kmc_181 (e := (2, .aload_n kF0, 0)) rfl) rfl) ?_
  refine .step (x' := (4, [some (.ref 170)], [.int (Int32.ofInt 1)], kHth_person_0, 0, 0)) (skg (v := .int (Int32.ofInt 1)) (kmc_181 (e := (5, .getfield 3, 0)) rfl) rfl (sat_s kat_170) rfl) ?_
  exact .ret (ks7 (kmc_181 (e := (7, .ireturn, 0)) rfl) rfl)
theorem kTa_person : ∃ fs, pm_at kHth_person_0 170 = some (.inr (13, fs)) := ⟨_, sat_s kat_170⟩
theorem kTh_thing_0 {x : Int32} (hx : x.toInt ≤ -1) {y : Int32} : pm_Se kK false (pm_Rd kK false 10) 130 (0, [some (.ref 0), some (.int x), some (.int y)], [], kH0, 0, 0) (11, [some (.ref 0), some (.int x), some (.int y)], [], kH0, 0, 0) := by
  refine .step (x' := (1, [some (.ref 0), some (.int x), some (.int y)], [.ref 0], kH0, 0, 0)) (ks2 (v := .ref 0) (n := 1) (kmc_130 (e := (2, .aload_n kF0, 0)) rfl) rfl) ?_
  refine .step (x' := (4, [some (.ref 0), some (.int x), some (.int y)], [.ref 25], kH0, 0, 0)) (skg (v := .ref 25) (kmc_130 (e := (5, .getfield 42, 0)) rfl) rfl kat_0 rfl) ?_
  refine .step (x' := (5, [some (.ref 0), some (.int x), some (.int y)], [.int x, .ref 25], kH0, 0, 0)) (ks2 (v := .int x) (n := 1) (kmc_130 (e := (2, .iload_n kF1, 0)) rfl) rfl) ?_
  refine .call (v := some (.int (Int32.ofInt 0))) (ph' := kH0) (c1 := 0) (s1 := 0) (j := 107) (as := [.ref 25, .int x]) (pc := 8) (L := [some (.ref 0), some (.int x), some (.int y)]) (st := []) (ks6 (kmc_130 (e := (6, .invokevirtual 198, 0)) rfl) (sk_v (n := 1) (a := 25) rfl rfl kat_25 rfl rfl)) (show pm_Rd kK false 10 107 [.ref 25, .int x] kH0 (some (.int (Int32.ofInt 0)), kH0, 0, 0) from ?_) ?_
  · refine pm_Rd.mk (K := kK) (al := false) (d := 9) (mj := 107) rfl ?_
    show pm_Te kK false (pm_Rd kK false 9) 107 (0, [some (.ref 25), some (.int x)], [], kH0, 0, 0) _
    refine .step (x' := (1, [some (.ref 25), some (.int x)], [.int x], kH0, 0, 0)) (ks2 (v := .int x) (n := 1) (kmc_107 (e := (2, .iload_n kF1, 0)) rfl) rfl) ?_
    refine .step (x' := (22, [some (.ref 25), some (.int x)], [], kH0, 0, 0)) (ks4 (pc' := 22) (st' := []) (kmc_107 (e := (4, .ifCond .lt 21, 22)) rfl) (kbz_lt (b := true) (sd_ltt (a := x.toInt) (b := 0) rfl (sz_c (k := 0) (by decide +kernel)) (by omega)))) ?_
    refine .step (x' := (23, [some (.ref 25), some (.int x)], [.int (Int32.ofInt 0)], kH0, 0, 0)) (ks0 (st' := [.int (Int32.ofInt 0)]) (kmc_107 (e := (0, .iconst 0, 0)) rfl) rfl) ?_
    exact .ret (ks7 (kmc_107 (e := (7, .ireturn, 0)) rfl) (sr_z (by decide +kernel)))
  show pm_Se kK false (pm_Rd kK false 10) 130 (8, [some (.ref 0), some (.int x), some (.int y)], [.int (Int32.ofInt 0)], kH0, 0, 0) _
  refine .step (x' := (11, [some (.ref 0), some (.int x), some (.int y)], [], kH0, 0, 0)) (ks4 (pc' := 11) (st' := []) (kmc_130 (e := (4, .ifCond .ne 11, 19)) rfl) (kbz_ne (b := true) (by decide +kernel))) ?_
  exact .rf
def kHth_thing_0 : pm_H := kH0.set 170 (.inr (13, [.int (Int32.ofInt 1), .int 0, .ref 171, .int 3, .int 3, .int 0, .int 0, .int 0, .int 1, .ref 172, .ref 173, .ref 174, .ref 175, .ref 176, .int 0, .int 0, .int 0, .int 0, .ref 177, .ref 178, .int 0, .ref 179, .ref 180, .int 0, .int 0, .ref 181, .ref 182, .int 0, .ref 183, .ref 184, .ref 185, .ref 186, .ref 187, .ref 188, .int 0, .ref 189, .ref 190, .ref 191, .ref 192, .int 0, .ref 193, .ref 194, .ref 195, .ref 196, .ref 197, .int 0, .ref 198, .ref 199, .ref 200]))
theorem kTm_thing_0 {x : Int32} (hx : x.toInt ≤ -1) {y : Int32} : pm_Rd kK false 40 237 [.ref 170, .int x, .int y] kH0 (some (.int (Int32.ofInt 0)), kHth_thing_0, 0, 0) := by
  refine pm_Rd.mk (K := kK) (al := false) (d := 39) (mj := 237) rfl ?_
  show pm_Te kK false (pm_Rd kK false 39) 237 (0, [some (.ref 170), some (.int x), some (.int y)], [], kH0, 0, 0) _
  refine .step (x' := (1, [some (.ref 170), some (.int x), some (.int y)], [.ref 170], kH0, 0, 0)) (ks2 (v := .ref 170) (n := 1) (kmc_237 (e := (2, .aload_n kF0, 0)) rfl) rfl) ?_
  refine .step (x' := (2, [some (.ref 170), some (.int x), some (.int y)], [.int (Int32.ofInt 0), .ref 170], kH0, 0, 0)) (ks0 (st' := [.int (Int32.ofInt 0), .ref 170]) (kmc_237 (e := (0, .iconst 0, 0)) rfl) rfl) ?_
  refine .step (x' := (5, [some (.ref 170), some (.int x), some (.int y)], [], kH0, 0, 0)) (skp (kmc_237 (e := (5, .putfield 3, 0)) rfl) rfl kat_170 (by decide +kernel) rfl) ?_
  refine .step (x' := (6, [some (.ref 170), some (.int x), some (.int y)], [.ref 170], kH0, 0, 0)) (ks2 (v := .ref 170) (n := 1) (kmc_237 (e := (2, .aload_n kF0, 0)) rfl) rfl) ?_
  refine .step (x' := (7, [some (.ref 170), some (.int x), some (.int y)], [.int x, .ref 170], kH0, 0, 0)) (ks2 (v := .int x) (n := 1) (kmc_237 (e := (2, .iload_n kF1, 0)) rfl) rfl) ?_
  refine .call (v := some (.int (Int32.ofInt 0))) (ph' := kH0) (c1 := 0) (s1 := 0) (j := 192) (as := [.ref 170, .int x]) (pc := 10) (L := [some (.ref 170), some (.int x), some (.int y)]) (st := []) (ks6 (kmc_237 (e := (6, .invokevirtual 327, 0)) rfl) (sk_v (n := 1) (a := 170) rfl rfl kat_170 rfl rfl)) (show pm_Rd kK false 39 192 [.ref 170, .int x] kH0 (some (.int (Int32.ofInt 0)), kH0, 0, 0) from ?_) ?_
  · refine pm_Rd.mk (K := kK) (al := false) (d := 38) (mj := 192) rfl ?_
    show pm_Te kK false (pm_Rd kK false 38) 192 (0, [some (.ref 170), some (.int x)], [], kH0, 0, 0) _
    refine .step (x' := (1, [some (.ref 170), some (.int x)], [.int x], kH0, 0, 0)) (ks2 (v := .int x) (n := 1) (kmc_192 (e := (2, .iload_n kF1, 0)) rfl) rfl) ?_
    refine .step (x' := (2, [some (.ref 170), some (.int x)], [.long (x.toInt64)], kH0, 0, 0)) (ks0 (st' := [.long (x.toInt64)]) (kmc_192 (e := (0, .i2l, 0)) rfl) rfl) ?_
    refine .step (x' := (3, [some (.ref 170), some (.int x)], [.long (Int64.ofNat 0), .long (x.toInt64)], kH0, 0, 0)) (ks0 (st' := [.long (Int64.ofNat 0), .long (x.toInt64)]) (kmc_192 (e := (0, .lconst kG0, 0)) rfl) rfl) ?_
    refine .step (x' := (4, [some (.ref 170), some (.int x)], [.ref 170, .long (Int64.ofNat 0), .long (x.toInt64)], kH0, 0, 0)) (ks2 (v := .ref 170) (n := 1) (kmc_192 (e := (2, .aload_n kF0, 0)) rfl) rfl) ?_
    refine .step (x' := (7, [some (.ref 170), some (.int x)], [.int 0, .long (Int64.ofNat 0), .long (x.toInt64)], kH0, 0, 0)) (skg (v := .int 0) (kmc_192 (e := (5, .getfield 133, 0)) rfl) rfl kat_170 rfl) ?_
    refine .step (x' := (8, [some (.ref 170), some (.int x)], [.int (Int32.ofInt 1), .int 0, .long (Int64.ofNat 0), .long (x.toInt64)], kH0, 0, 0)) (ks0 (st' := [.int (Int32.ofInt 1), .int 0, .long (Int64.ofNat 0), .long (x.toInt64)]) (kmc_192 (e := (0, .iconst 1, 0)) rfl) rfl) ?_
    refine .step (x' := (9, [some (.ref 170), some (.int x)], [.int (-1), .long (Int64.ofNat 0), .long (x.toInt64)], kH0, 0, 0)) (ks0 (st' := [.int (-1), .long (Int64.ofNat 0), .long (x.toInt64)]) (kmc_192 (e := (0, .isub, 0)) rfl) (sa_isub (by decide +kernel))) ?_
    refine .step (x' := (10, [some (.ref 170), some (.int x)], [.long (-1), .long (Int64.ofNat 0), .long (x.toInt64)], kH0, 0, 0)) (ks0 (st' := [.long (-1), .long (Int64.ofNat 0), .long (x.toInt64)]) (kmc_192 (e := (0, .i2l, 0)) rfl) (sa_i2l (by decide +kernel))) ?_
    refine .call (v := some (.int (Int32.ofInt 0))) (ph' := kH0) (c1 := 0) (s1 := 0) (j := 183) (as := [.long (x.toInt64), .long (Int64.ofNat 0), .long (-1)]) (pc := 13) (L := [some (.ref 170), some (.int x)]) (st := []) (ks6 (kmc_192 (e := (6, .invokestatic 126, 0)) rfl) (sk_s (n := 3) rfl rfl rfl)) (show pm_Rd kK false 38 183 [.long (x.toInt64), .long (Int64.ofNat 0), .long (-1)] kH0 (some (.int (Int32.ofInt 0)), kH0, 0, 0) from ?_) ?_
    · refine pm_Rd.mk (K := kK) (al := false) (d := 37) (mj := 183) rfl ?_
      show pm_Te kK false (pm_Rd kK false 37) 183 (0, [some (.long (x.toInt64)), none, some (.long (Int64.ofNat 0)), none, some (.long (-1)), none], [], kH0, 0, 0) _
      refine .step (x' := (1, [some (.long (x.toInt64)), none, some (.long (Int64.ofNat 0)), none, some (.long (-1)), none], [.long (x.toInt64)], kH0, 0, 0)) (ks2 (v := .long (x.toInt64)) (n := 1) (kmc_183 (e := (2, .lload_n kF0, 0)) rfl) rfl) ?_
      refine .step (x' := (2, [some (.long (x.toInt64)), none, some (.long (Int64.ofNat 0)), none, some (.long (-1)), none], [.long (Int64.ofNat 0), .long (x.toInt64)], kH0, 0, 0)) (ks2 (v := .long (Int64.ofNat 0)) (n := 1) (kmc_183 (e := (2, .lload_n kF2, 0)) rfl) rfl) ?_
      refine .step (x' := (3, [some (.long (x.toInt64)), none, some (.long (Int64.ofNat 0)), none, some (.long (-1)), none], [.int (-1)], kH0, 0, 0)) (ks0 (st' := [.int (-1)]) (kmc_183 (e := (0, .lcmp, 0)) rfl) (sa_lcmp (sc_lt (a := x.toInt) (b := 0) (sz_l _) (sz_cl (k := 0) (by decide +kernel)) (by omega)))) ?_
      refine .step (x' := (17, [some (.long (x.toInt64)), none, some (.long (Int64.ofNat 0)), none, some (.long (-1)), none], [], kH0, 0, 0)) (ks4 (pc' := 17) (st' := []) (kmc_183 (e := (4, .ifCond .lt 14, 17)) rfl) (kbz_lt (b := true) (by decide +kernel))) ?_
      refine .step (x' := (18, [some (.long (x.toInt64)), none, some (.long (Int64.ofNat 0)), none, some (.long (-1)), none], [.int (Int32.ofInt 0)], kH0, 0, 0)) (ks0 (st' := [.int (Int32.ofInt 0)]) (kmc_183 (e := (0, .iconst 0, 0)) rfl) rfl) ?_
      exact .ret (ks7 (kmc_183 (e := (7, .ireturn, 0)) rfl) (sr_z (by decide +kernel)))
    show pm_Te kK false (pm_Rd kK false 38) 192 (13, [some (.ref 170), some (.int x)], [.int (Int32.ofInt 0)], kH0, 0, 0) _
    exact .ret (ks7 (kmc_192 (e := (7, .ireturn, 0)) rfl) (sr_z (by decide +kernel)))
  show pm_Te kK false (pm_Rd kK false 39) 237 (10, [some (.ref 170), some (.int x), some (.int y)], [.int (Int32.ofInt 0)], kH0, 0, 0) _
  refine .step (x' := (25, [some (.ref 170), some (.int x), some (.int y)], [], kH0, 0, 0)) (ks4 (pc' := 25) (st' := []) (kmc_237 (e := (4, .ifCond .eq 15, 25)) rfl) (kbz_eq (b := true) (by decide +kernel))) ?_
  refine .step (x' := (26, [some (.ref 170), some (.int x), some (.int y)], [.ref 170], kH0, 0, 0)) (ks2 (v := .ref 170) (n := 1) (kmc_237 (e := (2, .aload_n kF0, 0)) rfl) rfl) ?_
  refine .call (v := some (.int (Int32.ofInt 0))) (ph' := kHth_thing_0) (c1 := 0) (s1 := 0) (j := 182) (as := [.ref 170]) (pc := 29) (L := [some (.ref 170), some (.int x), some (.int y)]) (st := []) (ks6 (kmc_237 (e := (6, .invokevirtual 320, 0)) rfl) (sk_v (n := 0) (a := 170) rfl rfl kat_170 rfl rfl)) (show pm_Rd kK false 39 182 [.ref 170] kH0 (some (.int (Int32.ofInt 0)), kHth_thing_0, 0, 0) from ?_) ?_
  · refine pm_Rd.mk (K := kK) (al := false) (d := 38) (mj := 182) rfl ?_
    show pm_Te kK false (pm_Rd kK false 38) 182 (0, [some (.ref 170)], [], kH0, 0, 0) _
    refine .step (x' := (1, [some (.ref 170)], [.ref 170], kH0, 0, 0)) (ks2 (v := .ref 170) (n := 1) (kmc_182 (e := (2, .aload_n kF0, 0)) rfl) rfl) ?_
    refine .step (x' := (2, [some (.ref 170)], [.int (Int32.ofInt 1), .ref 170], kH0, 0, 0)) (ks0 (st' := [.int (Int32.ofInt 1), .ref 170]) (kmc_182 (e := (0, .iconst 1, 0)) rfl) rfl) ?_
    refine .step (x' := (5, [some (.ref 170)], [], kHth_thing_0, 0, 0)) (skw (kmc_182 (e := (5, .putfield 3, 0)) rfl) rfl kat_170 rfl rfl) ?_
    refine .step (x' := (6, [some (.ref 170)], [.int (Int32.ofInt 0)], kHth_thing_0, 0, 0)) (ks0 (st' := [.int (Int32.ofInt 0)]) (kmc_182 (e := (0, .iconst 0, 0)) rfl) rfl) ?_
    exact .ret (ks7 (kmc_182 (e := (7, .ireturn, 0)) rfl) rfl)
  show pm_Te kK false (pm_Rd kK false 39) 237 (29, [some (.ref 170), some (.int x), some (.int y)], [.int (Int32.ofInt 0)], kHth_thing_0, 0, 0) _
  exact .ret (ks7 (kmc_237 (e := (7, .ireturn, 0)) rfl) rfl)
theorem kTh_thing_1 {y : Int32} : pm_Se kK false (pm_Rd kK false 10) 130 (0, [some (.ref 0), some (.int (fo_i 0)), some (.int y)], [], kH0, 0, 0) (11, [some (.ref 0), some (.int (fo_i 0)), some (.int y)], [], kH0, 0, 0) := by
  refine .step (x' := (1, [some (.ref 0), some (.int (fo_i 0)), some (.int y)], [.ref 0], kH0, 0, 0)) (ks2 (v := .ref 0) (n := 1) (kmc_130 (e := (2, .aload_n kF0, 0)) rfl) rfl) ?_
  refine .step (x' := (4, [some (.ref 0), some (.int (fo_i 0)), some (.int y)], [.ref 25], kH0, 0, 0)) (skg (v := .ref 25) (kmc_130 (e := (5, .getfield 42, 0)) rfl) rfl kat_0 rfl) ?_
  refine .step (x' := (5, [some (.ref 0), some (.int (fo_i 0)), some (.int y)], [.int (fo_i 0), .ref 25], kH0, 0, 0)) (ks2 (v := .int (fo_i 0)) (n := 1) (kmc_130 (e := (2, .iload_n kF1, 0)) rfl) rfl) ?_
  refine .call (v := some (.int (Int32.ofInt 0))) (ph' := kH0) (c1 := 0) (s1 := 0) (j := 107) (as := [.ref 25, .int (fo_i 0)]) (pc := 8) (L := [some (.ref 0), some (.int (fo_i 0)), some (.int y)]) (st := []) (ks6 (kmc_130 (e := (6, .invokevirtual 198, 0)) rfl) (sk_v (n := 1) (a := 25) rfl rfl kat_25 rfl rfl)) (show pm_Rd kK false 10 107 [.ref 25, .int (fo_i 0)] kH0 (some (.int (Int32.ofInt 0)), kH0, 0, 0) from ?_) ?_
  · refine pm_Rd.mk (K := kK) (al := false) (d := 9) (mj := 107) rfl ?_
    show pm_Te kK false (pm_Rd kK false 9) 107 (0, [some (.ref 25), some (.int (fo_i 0))], [], kH0, 0, 0) _
    refine .step (x' := (1, [some (.ref 25), some (.int (fo_i 0))], [.int (fo_i 0)], kH0, 0, 0)) (ks2 (v := .int (fo_i 0)) (n := 1) (kmc_107 (e := (2, .iload_n kF1, 0)) rfl) rfl) ?_
    refine .step (x' := (4, [some (.ref 25), some (.int (fo_i 0))], [], kH0, 0, 0)) (ks4 (pc' := 4) (st' := []) (kmc_107 (e := (4, .ifCond .lt 21, 22)) rfl) (kbz_lt (b := false) (by decide +kernel))) ?_
    refine .step (x' := (5, [some (.ref 25), some (.int (fo_i 0))], [.int (fo_i 0)], kH0, 0, 0)) (ks2 (v := .int (fo_i 0)) (n := 1) (kmc_107 (e := (2, .iload_n kF1, 0)) rfl) rfl) ?_
    refine .step (x' := (6, [some (.ref 25), some (.int (fo_i 0))], [.ref 25, .int (fo_i 0)], kH0, 0, 0)) (ks2 (v := .ref 25) (n := 1) (kmc_107 (e := (2, .aload_n kF0, 0)) rfl) rfl) ?_
    refine .step (x' := (9, [some (.ref 25), some (.int (fo_i 0))], [.int 0, .int (fo_i 0)], kH0, 0, 0)) (skg (v := .int 0) (kmc_107 (e := (5, .getfield 34, 0)) rfl) rfl kat_25 rfl) ?_
    refine .step (x' := (22, [some (.ref 25), some (.int (fo_i 0))], [], kH0, 0, 0)) (ks4 (pc' := 22) (st' := []) (kmc_107 (e := (4, .if_icmp .ge 13, 22)) rfl) (kbi_ge (b := true) (by decide +kernel))) ?_
    refine .step (x' := (23, [some (.ref 25), some (.int (fo_i 0))], [.int (Int32.ofInt 0)], kH0, 0, 0)) (ks0 (st' := [.int (Int32.ofInt 0)]) (kmc_107 (e := (0, .iconst 0, 0)) rfl) rfl) ?_
    exact .ret (ks7 (kmc_107 (e := (7, .ireturn, 0)) rfl) (sr_z (by decide +kernel)))
  show pm_Se kK false (pm_Rd kK false 10) 130 (8, [some (.ref 0), some (.int (fo_i 0)), some (.int y)], [.int (Int32.ofInt 0)], kH0, 0, 0) _
  refine .step (x' := (11, [some (.ref 0), some (.int (fo_i 0)), some (.int y)], [], kH0, 0, 0)) (ks4 (pc' := 11) (st' := []) (kmc_130 (e := (4, .ifCond .ne 11, 19)) rfl) (kbz_ne (b := true) (by decide +kernel))) ?_
  exact .rf
def kHth_thing_1 : pm_H := kH0.set 170 (.inr (13, [.int (Int32.ofInt 1), .int 0, .ref 171, .int 3, .int 3, .int 0, .int 0, .int 0, .int 1, .ref 172, .ref 173, .ref 174, .ref 175, .ref 176, .int 0, .int 0, .int 0, .int 0, .ref 177, .ref 178, .int 0, .ref 179, .ref 180, .int 0, .int 0, .ref 181, .ref 182, .int 0, .ref 183, .ref 184, .ref 185, .ref 186, .ref 187, .ref 188, .int 0, .ref 189, .ref 190, .ref 191, .ref 192, .int 0, .ref 193, .ref 194, .ref 195, .ref 196, .ref 197, .int 0, .ref 198, .ref 199, .ref 200]))
theorem kTm_thing_1 {y : Int32} : pm_Rd kK false 40 237 [.ref 170, .int (fo_i 0), .int y] kH0 (some (.int (Int32.ofInt 0)), kHth_thing_1, 0, 0) := by
  refine pm_Rd.mk (K := kK) (al := false) (d := 39) (mj := 237) rfl ?_
  show pm_Te kK false (pm_Rd kK false 39) 237 (0, [some (.ref 170), some (.int (fo_i 0)), some (.int y)], [], kH0, 0, 0) _
  refine .step (x' := (1, [some (.ref 170), some (.int (fo_i 0)), some (.int y)], [.ref 170], kH0, 0, 0)) (ks2 (v := .ref 170) (n := 1) (kmc_237 (e := (2, .aload_n kF0, 0)) rfl) rfl) ?_
  refine .step (x' := (2, [some (.ref 170), some (.int (fo_i 0)), some (.int y)], [.int (Int32.ofInt 0), .ref 170], kH0, 0, 0)) (ks0 (st' := [.int (Int32.ofInt 0), .ref 170]) (kmc_237 (e := (0, .iconst 0, 0)) rfl) rfl) ?_
  refine .step (x' := (5, [some (.ref 170), some (.int (fo_i 0)), some (.int y)], [], kH0, 0, 0)) (skp (kmc_237 (e := (5, .putfield 3, 0)) rfl) rfl kat_170 (by decide +kernel) rfl) ?_
  refine .step (x' := (6, [some (.ref 170), some (.int (fo_i 0)), some (.int y)], [.ref 170], kH0, 0, 0)) (ks2 (v := .ref 170) (n := 1) (kmc_237 (e := (2, .aload_n kF0, 0)) rfl) rfl) ?_
  refine .step (x' := (7, [some (.ref 170), some (.int (fo_i 0)), some (.int y)], [.int (fo_i 0), .ref 170], kH0, 0, 0)) (ks2 (v := .int (fo_i 0)) (n := 1) (kmc_237 (e := (2, .iload_n kF1, 0)) rfl) rfl) ?_
  refine .call (v := some (.int (Int32.ofInt 0))) (ph' := kH0) (c1 := 0) (s1 := 0) (j := 192) (as := [.ref 170, .int (fo_i 0)]) (pc := 10) (L := [some (.ref 170), some (.int (fo_i 0)), some (.int y)]) (st := []) (ks6 (kmc_237 (e := (6, .invokevirtual 327, 0)) rfl) (sk_v (n := 1) (a := 170) rfl rfl kat_170 rfl rfl)) (show pm_Rd kK false 39 192 [.ref 170, .int (fo_i 0)] kH0 (some (.int (Int32.ofInt 0)), kH0, 0, 0) from ?_) ?_
  · refine pm_Rd.mk (K := kK) (al := false) (d := 38) (mj := 192) rfl ?_
    show pm_Te kK false (pm_Rd kK false 38) 192 (0, [some (.ref 170), some (.int (fo_i 0))], [], kH0, 0, 0) _
    refine .step (x' := (1, [some (.ref 170), some (.int (fo_i 0))], [.int (fo_i 0)], kH0, 0, 0)) (ks2 (v := .int (fo_i 0)) (n := 1) (kmc_192 (e := (2, .iload_n kF1, 0)) rfl) rfl) ?_
    refine .step (x' := (2, [some (.ref 170), some (.int (fo_i 0))], [.long 0], kH0, 0, 0)) (ks0 (st' := [.long 0]) (kmc_192 (e := (0, .i2l, 0)) rfl) (sa_i2l (by decide +kernel))) ?_
    refine .step (x' := (3, [some (.ref 170), some (.int (fo_i 0))], [.long (Int64.ofNat 0), .long 0], kH0, 0, 0)) (ks0 (st' := [.long (Int64.ofNat 0), .long 0]) (kmc_192 (e := (0, .lconst kG0, 0)) rfl) rfl) ?_
    refine .step (x' := (4, [some (.ref 170), some (.int (fo_i 0))], [.ref 170, .long (Int64.ofNat 0), .long 0], kH0, 0, 0)) (ks2 (v := .ref 170) (n := 1) (kmc_192 (e := (2, .aload_n kF0, 0)) rfl) rfl) ?_
    refine .step (x' := (7, [some (.ref 170), some (.int (fo_i 0))], [.int 0, .long (Int64.ofNat 0), .long 0], kH0, 0, 0)) (skg (v := .int 0) (kmc_192 (e := (5, .getfield 133, 0)) rfl) rfl kat_170 rfl) ?_
    refine .step (x' := (8, [some (.ref 170), some (.int (fo_i 0))], [.int (Int32.ofInt 1), .int 0, .long (Int64.ofNat 0), .long 0], kH0, 0, 0)) (ks0 (st' := [.int (Int32.ofInt 1), .int 0, .long (Int64.ofNat 0), .long 0]) (kmc_192 (e := (0, .iconst 1, 0)) rfl) rfl) ?_
    refine .step (x' := (9, [some (.ref 170), some (.int (fo_i 0))], [.int (-1), .long (Int64.ofNat 0), .long 0], kH0, 0, 0)) (ks0 (st' := [.int (-1), .long (Int64.ofNat 0), .long 0]) (kmc_192 (e := (0, .isub, 0)) rfl) (sa_isub (by decide +kernel))) ?_
    refine .step (x' := (10, [some (.ref 170), some (.int (fo_i 0))], [.long (-1), .long (Int64.ofNat 0), .long 0], kH0, 0, 0)) (ks0 (st' := [.long (-1), .long (Int64.ofNat 0), .long 0]) (kmc_192 (e := (0, .i2l, 0)) rfl) (sa_i2l (by decide +kernel))) ?_
    refine .call (v := some (.int (Int32.ofInt 0))) (ph' := kH0) (c1 := 0) (s1 := 0) (j := 183) (as := [.long 0, .long (Int64.ofNat 0), .long (-1)]) (pc := 13) (L := [some (.ref 170), some (.int (fo_i 0))]) (st := []) (ks6 (kmc_192 (e := (6, .invokestatic 126, 0)) rfl) (sk_s (n := 3) rfl rfl rfl)) (show pm_Rd kK false 38 183 [.long 0, .long (Int64.ofNat 0), .long (-1)] kH0 (some (.int (Int32.ofInt 0)), kH0, 0, 0) from ?_) ?_
    · refine pm_Rd.mk (K := kK) (al := false) (d := 37) (mj := 183) rfl ?_
      show pm_Te kK false (pm_Rd kK false 37) 183 (0, [some (.long 0), none, some (.long (Int64.ofNat 0)), none, some (.long (-1)), none], [], kH0, 0, 0) _
      refine .step (x' := (1, [some (.long 0), none, some (.long (Int64.ofNat 0)), none, some (.long (-1)), none], [.long 0], kH0, 0, 0)) (ks2 (v := .long 0) (n := 1) (kmc_183 (e := (2, .lload_n kF0, 0)) rfl) rfl) ?_
      refine .step (x' := (2, [some (.long 0), none, some (.long (Int64.ofNat 0)), none, some (.long (-1)), none], [.long (Int64.ofNat 0), .long 0], kH0, 0, 0)) (ks2 (v := .long (Int64.ofNat 0)) (n := 1) (kmc_183 (e := (2, .lload_n kF2, 0)) rfl) rfl) ?_
      refine .step (x' := (3, [some (.long 0), none, some (.long (Int64.ofNat 0)), none, some (.long (-1)), none], [.int 0], kH0, 0, 0)) (ks0 (st' := [.int 0]) (kmc_183 (e := (0, .lcmp, 0)) rfl) (sa_lcmp (by decide +kernel))) ?_
      refine .step (x' := (6, [some (.long 0), none, some (.long (Int64.ofNat 0)), none, some (.long (-1)), none], [], kH0, 0, 0)) (ks4 (pc' := 6) (st' := []) (kmc_183 (e := (4, .ifCond .lt 14, 17)) rfl) (kbz_lt (b := false) (by decide +kernel))) ?_
      refine .step (x' := (7, [some (.long 0), none, some (.long (Int64.ofNat 0)), none, some (.long (-1)), none], [.long 0], kH0, 0, 0)) (ks2 (v := .long 0) (n := 1) (kmc_183 (e := (2, .lload_n kF0, 0)) rfl) rfl) ?_
      refine .step (x' := (9, [some (.long 0), none, some (.long (Int64.ofNat 0)), none, some (.long (-1)), none], [.long (-1), .long 0], kH0, 0, 0)) (ks2 (v := .long (-1)) (n := 2) (kmc_183 (e := (2, .lload 4, 0)) rfl) rfl) ?_
      refine .step (x' := (10, [some (.long 0), none, some (.long (Int64.ofNat 0)), none, some (.long (-1)), none], [.int 1], kH0, 0, 0)) (ks0 (st' := [.int 1]) (kmc_183 (e := (0, .lcmp, 0)) rfl) (sa_lcmp (by decide +kernel))) ?_
      refine .step (x' := (17, [some (.long 0), none, some (.long (Int64.ofNat 0)), none, some (.long (-1)), none], [], kH0, 0, 0)) (ks4 (pc' := 17) (st' := []) (kmc_183 (e := (4, .ifCond .gt 7, 17)) rfl) (kbz_gt (b := true) (by decide +kernel))) ?_
      refine .step (x' := (18, [some (.long 0), none, some (.long (Int64.ofNat 0)), none, some (.long (-1)), none], [.int (Int32.ofInt 0)], kH0, 0, 0)) (ks0 (st' := [.int (Int32.ofInt 0)]) (kmc_183 (e := (0, .iconst 0, 0)) rfl) rfl) ?_
      exact .ret (ks7 (kmc_183 (e := (7, .ireturn, 0)) rfl) (sr_z (by decide +kernel)))
    show pm_Te kK false (pm_Rd kK false 38) 192 (13, [some (.ref 170), some (.int (fo_i 0))], [.int (Int32.ofInt 0)], kH0, 0, 0) _
    exact .ret (ks7 (kmc_192 (e := (7, .ireturn, 0)) rfl) (sr_z (by decide +kernel)))
  show pm_Te kK false (pm_Rd kK false 39) 237 (10, [some (.ref 170), some (.int (fo_i 0)), some (.int y)], [.int (Int32.ofInt 0)], kH0, 0, 0) _
  refine .step (x' := (25, [some (.ref 170), some (.int (fo_i 0)), some (.int y)], [], kH0, 0, 0)) (ks4 (pc' := 25) (st' := []) (kmc_237 (e := (4, .ifCond .eq 15, 25)) rfl) (kbz_eq (b := true) (by decide +kernel))) ?_
  refine .step (x' := (26, [some (.ref 170), some (.int (fo_i 0)), some (.int y)], [.ref 170], kH0, 0, 0)) (ks2 (v := .ref 170) (n := 1) (kmc_237 (e := (2, .aload_n kF0, 0)) rfl) rfl) ?_
  refine .call (v := some (.int (Int32.ofInt 0))) (ph' := kHth_thing_1) (c1 := 0) (s1 := 0) (j := 182) (as := [.ref 170]) (pc := 29) (L := [some (.ref 170), some (.int (fo_i 0)), some (.int y)]) (st := []) (ks6 (kmc_237 (e := (6, .invokevirtual 320, 0)) rfl) (sk_v (n := 0) (a := 170) rfl rfl kat_170 rfl rfl)) (show pm_Rd kK false 39 182 [.ref 170] kH0 (some (.int (Int32.ofInt 0)), kHth_thing_1, 0, 0) from ?_) ?_
  · refine pm_Rd.mk (K := kK) (al := false) (d := 38) (mj := 182) rfl ?_
    show pm_Te kK false (pm_Rd kK false 38) 182 (0, [some (.ref 170)], [], kH0, 0, 0) _
    refine .step (x' := (1, [some (.ref 170)], [.ref 170], kH0, 0, 0)) (ks2 (v := .ref 170) (n := 1) (kmc_182 (e := (2, .aload_n kF0, 0)) rfl) rfl) ?_
    refine .step (x' := (2, [some (.ref 170)], [.int (Int32.ofInt 1), .ref 170], kH0, 0, 0)) (ks0 (st' := [.int (Int32.ofInt 1), .ref 170]) (kmc_182 (e := (0, .iconst 1, 0)) rfl) rfl) ?_
    refine .step (x' := (5, [some (.ref 170)], [], kHth_thing_1, 0, 0)) (skw (kmc_182 (e := (5, .putfield 3, 0)) rfl) rfl kat_170 rfl rfl) ?_
    refine .step (x' := (6, [some (.ref 170)], [.int (Int32.ofInt 0)], kHth_thing_1, 0, 0)) (ks0 (st' := [.int (Int32.ofInt 0)]) (kmc_182 (e := (0, .iconst 0, 0)) rfl) rfl) ?_
    exact .ret (ks7 (kmc_182 (e := (7, .ireturn, 0)) rfl) rfl)
  show pm_Te kK false (pm_Rd kK false 39) 237 (29, [some (.ref 170), some (.int (fo_i 0)), some (.int y)], [.int (Int32.ofInt 0)], kHth_thing_1, 0, 0) _
  exact .ret (ks7 (kmc_237 (e := (7, .ireturn, 0)) rfl) rfl)
theorem kTh_thing_2 {x : Int32} (hx : 1 ≤ x.toInt) {y : Int32} : pm_Se kK false (pm_Rd kK false 10) 130 (0, [some (.ref 0), some (.int x), some (.int y)], [], kH0, 0, 0) (11, [some (.ref 0), some (.int x), some (.int y)], [], kH0, 0, 0) := by
  refine .step (x' := (1, [some (.ref 0), some (.int x), some (.int y)], [.ref 0], kH0, 0, 0)) (ks2 (v := .ref 0) (n := 1) (kmc_130 (e := (2, .aload_n kF0, 0)) rfl) rfl) ?_
  refine .step (x' := (4, [some (.ref 0), some (.int x), some (.int y)], [.ref 25], kH0, 0, 0)) (skg (v := .ref 25) (kmc_130 (e := (5, .getfield 42, 0)) rfl) rfl kat_0 rfl) ?_
  refine .step (x' := (5, [some (.ref 0), some (.int x), some (.int y)], [.int x, .ref 25], kH0, 0, 0)) (ks2 (v := .int x) (n := 1) (kmc_130 (e := (2, .iload_n kF1, 0)) rfl) rfl) ?_
  refine .call (v := some (.int (Int32.ofInt 0))) (ph' := kH0) (c1 := 0) (s1 := 0) (j := 107) (as := [.ref 25, .int x]) (pc := 8) (L := [some (.ref 0), some (.int x), some (.int y)]) (st := []) (ks6 (kmc_130 (e := (6, .invokevirtual 198, 0)) rfl) (sk_v (n := 1) (a := 25) rfl rfl kat_25 rfl rfl)) (show pm_Rd kK false 10 107 [.ref 25, .int x] kH0 (some (.int (Int32.ofInt 0)), kH0, 0, 0) from ?_) ?_
  · refine pm_Rd.mk (K := kK) (al := false) (d := 9) (mj := 107) rfl ?_
    show pm_Te kK false (pm_Rd kK false 9) 107 (0, [some (.ref 25), some (.int x)], [], kH0, 0, 0) _
    refine .step (x' := (1, [some (.ref 25), some (.int x)], [.int x], kH0, 0, 0)) (ks2 (v := .int x) (n := 1) (kmc_107 (e := (2, .iload_n kF1, 0)) rfl) rfl) ?_
    refine .step (x' := (4, [some (.ref 25), some (.int x)], [], kH0, 0, 0)) (ks4 (pc' := 4) (st' := []) (kmc_107 (e := (4, .ifCond .lt 21, 22)) rfl) (kbz_lt (b := false) (sd_ltf (a := x.toInt) (b := 0) rfl (sz_c (k := 0) (by decide +kernel)) (by omega)))) ?_
    refine .step (x' := (5, [some (.ref 25), some (.int x)], [.int x], kH0, 0, 0)) (ks2 (v := .int x) (n := 1) (kmc_107 (e := (2, .iload_n kF1, 0)) rfl) rfl) ?_
    refine .step (x' := (6, [some (.ref 25), some (.int x)], [.ref 25, .int x], kH0, 0, 0)) (ks2 (v := .ref 25) (n := 1) (kmc_107 (e := (2, .aload_n kF0, 0)) rfl) rfl) ?_
    refine .step (x' := (9, [some (.ref 25), some (.int x)], [.int 0, .int x], kH0, 0, 0)) (skg (v := .int 0) (kmc_107 (e := (5, .getfield 34, 0)) rfl) rfl kat_25 rfl) ?_
    refine .step (x' := (22, [some (.ref 25), some (.int x)], [], kH0, 0, 0)) (ks4 (pc' := 22) (st' := []) (kmc_107 (e := (4, .if_icmp .ge 13, 22)) rfl) (kbi_ge (b := true) (sd_let (a := 0) (b := x.toInt) (sz_c (k := 0) (by decide +kernel)) rfl (by omega)))) ?_
    refine .step (x' := (23, [some (.ref 25), some (.int x)], [.int (Int32.ofInt 0)], kH0, 0, 0)) (ks0 (st' := [.int (Int32.ofInt 0)]) (kmc_107 (e := (0, .iconst 0, 0)) rfl) rfl) ?_
    exact .ret (ks7 (kmc_107 (e := (7, .ireturn, 0)) rfl) (sr_z (by decide +kernel)))
  show pm_Se kK false (pm_Rd kK false 10) 130 (8, [some (.ref 0), some (.int x), some (.int y)], [.int (Int32.ofInt 0)], kH0, 0, 0) _
  refine .step (x' := (11, [some (.ref 0), some (.int x), some (.int y)], [], kH0, 0, 0)) (ks4 (pc' := 11) (st' := []) (kmc_130 (e := (4, .ifCond .ne 11, 19)) rfl) (kbz_ne (b := true) (by decide +kernel))) ?_
  exact .rf
def kHth_thing_2 : pm_H := kH0.set 170 (.inr (13, [.int (Int32.ofInt 1), .int 0, .ref 171, .int 3, .int 3, .int 0, .int 0, .int 0, .int 1, .ref 172, .ref 173, .ref 174, .ref 175, .ref 176, .int 0, .int 0, .int 0, .int 0, .ref 177, .ref 178, .int 0, .ref 179, .ref 180, .int 0, .int 0, .ref 181, .ref 182, .int 0, .ref 183, .ref 184, .ref 185, .ref 186, .ref 187, .ref 188, .int 0, .ref 189, .ref 190, .ref 191, .ref 192, .int 0, .ref 193, .ref 194, .ref 195, .ref 196, .ref 197, .int 0, .ref 198, .ref 199, .ref 200]))
theorem kTm_thing_2 {x : Int32} (hx : 1 ≤ x.toInt) {y : Int32} : pm_Rd kK false 40 237 [.ref 170, .int x, .int y] kH0 (some (.int (Int32.ofInt 0)), kHth_thing_2, 0, 0) := by
  refine pm_Rd.mk (K := kK) (al := false) (d := 39) (mj := 237) rfl ?_
  show pm_Te kK false (pm_Rd kK false 39) 237 (0, [some (.ref 170), some (.int x), some (.int y)], [], kH0, 0, 0) _
  refine .step (x' := (1, [some (.ref 170), some (.int x), some (.int y)], [.ref 170], kH0, 0, 0)) (ks2 (v := .ref 170) (n := 1) (kmc_237 (e := (2, .aload_n kF0, 0)) rfl) rfl) ?_
  refine .step (x' := (2, [some (.ref 170), some (.int x), some (.int y)], [.int (Int32.ofInt 0), .ref 170], kH0, 0, 0)) (ks0 (st' := [.int (Int32.ofInt 0), .ref 170]) (kmc_237 (e := (0, .iconst 0, 0)) rfl) rfl) ?_
  refine .step (x' := (5, [some (.ref 170), some (.int x), some (.int y)], [], kH0, 0, 0)) (skp (kmc_237 (e := (5, .putfield 3, 0)) rfl) rfl kat_170 (by decide +kernel) rfl) ?_
  refine .step (x' := (6, [some (.ref 170), some (.int x), some (.int y)], [.ref 170], kH0, 0, 0)) (ks2 (v := .ref 170) (n := 1) (kmc_237 (e := (2, .aload_n kF0, 0)) rfl) rfl) ?_
  refine .step (x' := (7, [some (.ref 170), some (.int x), some (.int y)], [.int x, .ref 170], kH0, 0, 0)) (ks2 (v := .int x) (n := 1) (kmc_237 (e := (2, .iload_n kF1, 0)) rfl) rfl) ?_
  refine .call (v := some (.int (Int32.ofInt 0))) (ph' := kH0) (c1 := 0) (s1 := 0) (j := 192) (as := [.ref 170, .int x]) (pc := 10) (L := [some (.ref 170), some (.int x), some (.int y)]) (st := []) (ks6 (kmc_237 (e := (6, .invokevirtual 327, 0)) rfl) (sk_v (n := 1) (a := 170) rfl rfl kat_170 rfl rfl)) (show pm_Rd kK false 39 192 [.ref 170, .int x] kH0 (some (.int (Int32.ofInt 0)), kH0, 0, 0) from ?_) ?_
  · refine pm_Rd.mk (K := kK) (al := false) (d := 38) (mj := 192) rfl ?_
    show pm_Te kK false (pm_Rd kK false 38) 192 (0, [some (.ref 170), some (.int x)], [], kH0, 0, 0) _
    refine .step (x' := (1, [some (.ref 170), some (.int x)], [.int x], kH0, 0, 0)) (ks2 (v := .int x) (n := 1) (kmc_192 (e := (2, .iload_n kF1, 0)) rfl) rfl) ?_
    refine .step (x' := (2, [some (.ref 170), some (.int x)], [.long (x.toInt64)], kH0, 0, 0)) (ks0 (st' := [.long (x.toInt64)]) (kmc_192 (e := (0, .i2l, 0)) rfl) rfl) ?_
    refine .step (x' := (3, [some (.ref 170), some (.int x)], [.long (Int64.ofNat 0), .long (x.toInt64)], kH0, 0, 0)) (ks0 (st' := [.long (Int64.ofNat 0), .long (x.toInt64)]) (kmc_192 (e := (0, .lconst kG0, 0)) rfl) rfl) ?_
    refine .step (x' := (4, [some (.ref 170), some (.int x)], [.ref 170, .long (Int64.ofNat 0), .long (x.toInt64)], kH0, 0, 0)) (ks2 (v := .ref 170) (n := 1) (kmc_192 (e := (2, .aload_n kF0, 0)) rfl) rfl) ?_
    refine .step (x' := (7, [some (.ref 170), some (.int x)], [.int 0, .long (Int64.ofNat 0), .long (x.toInt64)], kH0, 0, 0)) (skg (v := .int 0) (kmc_192 (e := (5, .getfield 133, 0)) rfl) rfl kat_170 rfl) ?_
    refine .step (x' := (8, [some (.ref 170), some (.int x)], [.int (Int32.ofInt 1), .int 0, .long (Int64.ofNat 0), .long (x.toInt64)], kH0, 0, 0)) (ks0 (st' := [.int (Int32.ofInt 1), .int 0, .long (Int64.ofNat 0), .long (x.toInt64)]) (kmc_192 (e := (0, .iconst 1, 0)) rfl) rfl) ?_
    refine .step (x' := (9, [some (.ref 170), some (.int x)], [.int (-1), .long (Int64.ofNat 0), .long (x.toInt64)], kH0, 0, 0)) (ks0 (st' := [.int (-1), .long (Int64.ofNat 0), .long (x.toInt64)]) (kmc_192 (e := (0, .isub, 0)) rfl) (sa_isub (by decide +kernel))) ?_
    refine .step (x' := (10, [some (.ref 170), some (.int x)], [.long (-1), .long (Int64.ofNat 0), .long (x.toInt64)], kH0, 0, 0)) (ks0 (st' := [.long (-1), .long (Int64.ofNat 0), .long (x.toInt64)]) (kmc_192 (e := (0, .i2l, 0)) rfl) (sa_i2l (by decide +kernel))) ?_
    refine .call (v := some (.int (Int32.ofInt 0))) (ph' := kH0) (c1 := 0) (s1 := 0) (j := 183) (as := [.long (x.toInt64), .long (Int64.ofNat 0), .long (-1)]) (pc := 13) (L := [some (.ref 170), some (.int x)]) (st := []) (ks6 (kmc_192 (e := (6, .invokestatic 126, 0)) rfl) (sk_s (n := 3) rfl rfl rfl)) (show pm_Rd kK false 38 183 [.long (x.toInt64), .long (Int64.ofNat 0), .long (-1)] kH0 (some (.int (Int32.ofInt 0)), kH0, 0, 0) from ?_) ?_
    · refine pm_Rd.mk (K := kK) (al := false) (d := 37) (mj := 183) rfl ?_
      show pm_Te kK false (pm_Rd kK false 37) 183 (0, [some (.long (x.toInt64)), none, some (.long (Int64.ofNat 0)), none, some (.long (-1)), none], [], kH0, 0, 0) _
      refine .step (x' := (1, [some (.long (x.toInt64)), none, some (.long (Int64.ofNat 0)), none, some (.long (-1)), none], [.long (x.toInt64)], kH0, 0, 0)) (ks2 (v := .long (x.toInt64)) (n := 1) (kmc_183 (e := (2, .lload_n kF0, 0)) rfl) rfl) ?_
      refine .step (x' := (2, [some (.long (x.toInt64)), none, some (.long (Int64.ofNat 0)), none, some (.long (-1)), none], [.long (Int64.ofNat 0), .long (x.toInt64)], kH0, 0, 0)) (ks2 (v := .long (Int64.ofNat 0)) (n := 1) (kmc_183 (e := (2, .lload_n kF2, 0)) rfl) rfl) ?_
      refine .step (x' := (3, [some (.long (x.toInt64)), none, some (.long (Int64.ofNat 0)), none, some (.long (-1)), none], [.int 1], kH0, 0, 0)) (ks0 (st' := [.int 1]) (kmc_183 (e := (0, .lcmp, 0)) rfl) (sa_lcmp (sc_gt (a := x.toInt) (b := 0) (sz_l _) (sz_cl (k := 0) (by decide +kernel)) (by omega)))) ?_
      refine .step (x' := (6, [some (.long (x.toInt64)), none, some (.long (Int64.ofNat 0)), none, some (.long (-1)), none], [], kH0, 0, 0)) (ks4 (pc' := 6) (st' := []) (kmc_183 (e := (4, .ifCond .lt 14, 17)) rfl) (kbz_lt (b := false) (by decide +kernel))) ?_
      refine .step (x' := (7, [some (.long (x.toInt64)), none, some (.long (Int64.ofNat 0)), none, some (.long (-1)), none], [.long (x.toInt64)], kH0, 0, 0)) (ks2 (v := .long (x.toInt64)) (n := 1) (kmc_183 (e := (2, .lload_n kF0, 0)) rfl) rfl) ?_
      refine .step (x' := (9, [some (.long (x.toInt64)), none, some (.long (Int64.ofNat 0)), none, some (.long (-1)), none], [.long (-1), .long (x.toInt64)], kH0, 0, 0)) (ks2 (v := .long (-1)) (n := 2) (kmc_183 (e := (2, .lload 4, 0)) rfl) rfl) ?_
      refine .step (x' := (10, [some (.long (x.toInt64)), none, some (.long (Int64.ofNat 0)), none, some (.long (-1)), none], [.int 1], kH0, 0, 0)) (ks0 (st' := [.int 1]) (kmc_183 (e := (0, .lcmp, 0)) rfl) (sa_lcmp (sc_gt (a := x.toInt) (b := (-1)) (sz_l _) (sz_cl (k := -1) (by decide +kernel)) (by omega)))) ?_
      refine .step (x' := (17, [some (.long (x.toInt64)), none, some (.long (Int64.ofNat 0)), none, some (.long (-1)), none], [], kH0, 0, 0)) (ks4 (pc' := 17) (st' := []) (kmc_183 (e := (4, .ifCond .gt 7, 17)) rfl) (kbz_gt (b := true) (by decide +kernel))) ?_
      refine .step (x' := (18, [some (.long (x.toInt64)), none, some (.long (Int64.ofNat 0)), none, some (.long (-1)), none], [.int (Int32.ofInt 0)], kH0, 0, 0)) (ks0 (st' := [.int (Int32.ofInt 0)]) (kmc_183 (e := (0, .iconst 0, 0)) rfl) rfl) ?_
      exact .ret (ks7 (kmc_183 (e := (7, .ireturn, 0)) rfl) (sr_z (by decide +kernel)))
    show pm_Te kK false (pm_Rd kK false 38) 192 (13, [some (.ref 170), some (.int x)], [.int (Int32.ofInt 0)], kH0, 0, 0) _
    exact .ret (ks7 (kmc_192 (e := (7, .ireturn, 0)) rfl) (sr_z (by decide +kernel)))
  show pm_Te kK false (pm_Rd kK false 39) 237 (10, [some (.ref 170), some (.int x), some (.int y)], [.int (Int32.ofInt 0)], kH0, 0, 0) _
  refine .step (x' := (25, [some (.ref 170), some (.int x), some (.int y)], [], kH0, 0, 0)) (ks4 (pc' := 25) (st' := []) (kmc_237 (e := (4, .ifCond .eq 15, 25)) rfl) (kbz_eq (b := true) (by decide +kernel))) ?_
  refine .step (x' := (26, [some (.ref 170), some (.int x), some (.int y)], [.ref 170], kH0, 0, 0)) (ks2 (v := .ref 170) (n := 1) (kmc_237 (e := (2, .aload_n kF0, 0)) rfl) rfl) ?_
  refine .call (v := some (.int (Int32.ofInt 0))) (ph' := kHth_thing_2) (c1 := 0) (s1 := 0) (j := 182) (as := [.ref 170]) (pc := 29) (L := [some (.ref 170), some (.int x), some (.int y)]) (st := []) (ks6 (kmc_237 (e := (6, .invokevirtual 320, 0)) rfl) (sk_v (n := 0) (a := 170) rfl rfl kat_170 rfl rfl)) (show pm_Rd kK false 39 182 [.ref 170] kH0 (some (.int (Int32.ofInt 0)), kHth_thing_2, 0, 0) from ?_) ?_
  · refine pm_Rd.mk (K := kK) (al := false) (d := 38) (mj := 182) rfl ?_
    show pm_Te kK false (pm_Rd kK false 38) 182 (0, [some (.ref 170)], [], kH0, 0, 0) _
    refine .step (x' := (1, [some (.ref 170)], [.ref 170], kH0, 0, 0)) (ks2 (v := .ref 170) (n := 1) (kmc_182 (e := (2, .aload_n kF0, 0)) rfl) rfl) ?_
    refine .step (x' := (2, [some (.ref 170)], [.int (Int32.ofInt 1), .ref 170], kH0, 0, 0)) (ks0 (st' := [.int (Int32.ofInt 1), .ref 170]) (kmc_182 (e := (0, .iconst 1, 0)) rfl) rfl) ?_
    refine .step (x' := (5, [some (.ref 170)], [], kHth_thing_2, 0, 0)) (skw (kmc_182 (e := (5, .putfield 3, 0)) rfl) rfl kat_170 rfl rfl) ?_
    refine .step (x' := (6, [some (.ref 170)], [.int (Int32.ofInt 0)], kHth_thing_2, 0, 0)) (ks0 (st' := [.int (Int32.ofInt 0)]) (kmc_182 (e := (0, .iconst 0, 0)) rfl) rfl) ?_
    exact .ret (ks7 (kmc_182 (e := (7, .ireturn, 0)) rfl) rfl)
  show pm_Te kK false (pm_Rd kK false 39) 237 (29, [some (.ref 170), some (.int x), some (.int y)], [.int (Int32.ofInt 0)], kHth_thing_2, 0, 0) _
  exact .ret (ks7 (kmc_237 (e := (7, .ireturn, 0)) rfl) rfl)
theorem kTh_thing (x y : Int32) : pm_Se kK false (pm_Rd kK false 10) 130 (pm_ent kK 130 [.ref 0, .int x, .int y] kH0) (11, [some (.ref 0), some (.int x), some (.int y)], [], kH0, 0, 0) := by
  show pm_Se kK false (pm_Rd kK false 10) 130 (0, [some (.ref 0), some (.int x), some (.int y)], [], kH0, 0, 0) _
  rcases (by omega : x.toInt ≤ -1 ∨ x.toInt = 0 ∨ 1 ≤ x.toInt) with hx | hx | hx
  · exact kTh_thing_0 hx
  · obtain rfl : x = fo_i 0 := sx_c (k := 0) (by decide) hx
    exact kTh_thing_1
  · exact kTh_thing_2 hx
theorem kTm_thing (x y : Int32) : pm_Rd kK false 40 237 [.ref 170, .int x, .int y] kH0 (some (.int (Int32.ofInt 0)), kHth_thing_0, 0, 0) := by
  rcases (by omega : x.toInt ≤ -1 ∨ x.toInt = 0 ∨ 1 ≤ x.toInt) with hx | hx | hx
  · exact kTm_thing_0 hx
  · obtain rfl : x = fo_i 0 := sx_c (k := 0) (by decide) hx
    exact kTm_thing_1
  · exact kTm_thing_2 hx
theorem kTt_thing : pm_Rd kK false 40 181 [.ref 170] kHth_thing_0 (some (.int (Int32.ofInt 1)), kHth_thing_0, 0, 0) := by
  refine pm_Rd.mk (K := kK) (al := false) (d := 39) (mj := 181) rfl ?_
  show pm_Te kK false (pm_Rd kK false 39) 181 (0, [some (.ref 170)], [], kHth_thing_0, 0, 0) _
  refine .step (x' := (1, [some (.ref 170)], [.ref 170], kHth_thing_0, 0, 0)) (ks2 (v := .ref 170) (n := 1) (kmc_181 (e := (2, .aload_n kF0, 0)) rfl) rfl) ?_
  refine .step (x' := (4, [some (.ref 170)], [.int (Int32.ofInt 1)], kHth_thing_0, 0, 0)) (skg (v := .int (Int32.ofInt 1)) (kmc_181 (e := (5, .getfield 3, 0)) rfl) rfl (sat_s kat_170) rfl) ?_
  exact .ret (ks7 (kmc_181 (e := (7, .ireturn, 0)) rfl) rfl)
theorem kTa_thing : ∃ fs, pm_at kHth_thing_0 170 = some (.inr (13, fs)) := ⟨_, sat_s kat_170⟩
theorem kTh_row_0 {x : Int32} (hx : x.toInt ≤ -1) : pm_Se kK false (pm_Rd kK false 10) 180 (0, [some (.ref 0), some (.int x)], [], kH0, 0, 0) (15, [some (.ref 0), some (.int x)], [], kH0, 0, 0) := by
  refine .step (x' := (1, [some (.ref 0), some (.int x)], [.int x], kH0, 0, 0)) (ks2 (v := .int x) (n := 1) (kmc_180 (e := (2, .iload_n kF1, 0)) rfl) rfl) ?_
  refine .step (x' := (15, [some (.ref 0), some (.int x)], [], kH0, 0, 0)) (ks4 (pc' := 15) (st' := []) (kmc_180 (e := (4, .ifCond .lt 14, 15)) rfl) (kbz_lt (b := true) (sd_ltt (a := x.toInt) (b := 0) rfl (sz_c (k := 0) (by decide +kernel)) (by omega)))) ?_
  exact .rf
def kHth_row_0 : pm_H := kH0.set 170 (.inr (13, [.int (Int32.ofInt 1), .int 0, .ref 171, .int 3, .int 3, .int 0, .int 0, .int 0, .int 1, .ref 172, .ref 173, .ref 174, .ref 175, .ref 176, .int 0, .int 0, .int 0, .int 0, .ref 177, .ref 178, .int 0, .ref 179, .ref 180, .int 0, .int 0, .ref 181, .ref 182, .int 0, .ref 183, .ref 184, .ref 185, .ref 186, .ref 187, .ref 188, .int 0, .ref 189, .ref 190, .ref 191, .ref 192, .int 0, .ref 193, .ref 194, .ref 195, .ref 196, .ref 197, .int 0, .ref 198, .ref 199, .ref 200]))
theorem kTm_row_0 {x : Int32} (hx : x.toInt ≤ -1) : pm_Rd kK false 40 300 [.ref 170, .int x] kH0 (some (.long (Int64.ofNat 0)), kHth_row_0, 0, 0) := by
  refine pm_Rd.mk (K := kK) (al := false) (d := 39) (mj := 300) rfl ?_
  show pm_Te kK false (pm_Rd kK false 39) 300 (0, [some (.ref 170), some (.int x)], [], kH0, 0, 0) _
  refine .step (x' := (1, [some (.ref 170), some (.int x)], [.ref 170], kH0, 0, 0)) (ks2 (v := .ref 170) (n := 1) (kmc_300 (e := (2, .aload_n kF0, 0)) rfl) rfl) ?_
  refine .step (x' := (2, [some (.ref 170), some (.int x)], [.int (Int32.ofInt 0), .ref 170], kH0, 0, 0)) (ks0 (st' := [.int (Int32.ofInt 0), .ref 170]) (kmc_300 (e := (0, .iconst 0, 0)) rfl) rfl) ?_
  refine .step (x' := (5, [some (.ref 170), some (.int x)], [], kH0, 0, 0)) (skp (kmc_300 (e := (5, .putfield 3, 0)) rfl) rfl kat_170 (by decide +kernel) rfl) ?_
  refine .step (x' := (6, [some (.ref 170), some (.int x)], [.int x], kH0, 0, 0)) (ks2 (v := .int x) (n := 1) (kmc_300 (e := (2, .iload_n kF1, 0)) rfl) rfl) ?_
  refine .step (x' := (7, [some (.ref 170), some (.int x)], [.long (x.toInt64)], kH0, 0, 0)) (ks0 (st' := [.long (x.toInt64)]) (kmc_300 (e := (0, .i2l, 0)) rfl) rfl) ?_
  refine .step (x' := (8, [some (.ref 170), some (.int x)], [.long (Int64.ofNat 0), .long (x.toInt64)], kH0, 0, 0)) (ks0 (st' := [.long (Int64.ofNat 0), .long (x.toInt64)]) (kmc_300 (e := (0, .lconst kG0, 0)) rfl) rfl) ?_
  refine .step (x' := (9, [some (.ref 170), some (.int x)], [.ref 170, .long (Int64.ofNat 0), .long (x.toInt64)], kH0, 0, 0)) (ks2 (v := .ref 170) (n := 1) (kmc_300 (e := (2, .aload_n kF0, 0)) rfl) rfl) ?_
  refine .step (x' := (12, [some (.ref 170), some (.int x)], [.int 0, .long (Int64.ofNat 0), .long (x.toInt64)], kH0, 0, 0)) (skg (v := .int 0) (kmc_300 (e := (5, .getfield 15, 0)) rfl) rfl kat_170 rfl) ?_
  refine .step (x' := (13, [some (.ref 170), some (.int x)], [.int (Int32.ofInt 1), .int 0, .long (Int64.ofNat 0), .long (x.toInt64)], kH0, 0, 0)) (ks0 (st' := [.int (Int32.ofInt 1), .int 0, .long (Int64.ofNat 0), .long (x.toInt64)]) (kmc_300 (e := (0, .iconst 1, 0)) rfl) rfl) ?_
  refine .step (x' := (14, [some (.ref 170), some (.int x)], [.int (-1), .long (Int64.ofNat 0), .long (x.toInt64)], kH0, 0, 0)) (ks0 (st' := [.int (-1), .long (Int64.ofNat 0), .long (x.toInt64)]) (kmc_300 (e := (0, .isub, 0)) rfl) (sa_isub (by decide +kernel))) ?_
  refine .step (x' := (15, [some (.ref 170), some (.int x)], [.long (-1), .long (Int64.ofNat 0), .long (x.toInt64)], kH0, 0, 0)) (ks0 (st' := [.long (-1), .long (Int64.ofNat 0), .long (x.toInt64)]) (kmc_300 (e := (0, .i2l, 0)) rfl) (sa_i2l (by decide +kernel))) ?_
  refine .call (v := some (.int (Int32.ofInt 0))) (ph' := kH0) (c1 := 0) (s1 := 0) (j := 183) (as := [.long (x.toInt64), .long (Int64.ofNat 0), .long (-1)]) (pc := 18) (L := [some (.ref 170), some (.int x)]) (st := []) (ks6 (kmc_300 (e := (6, .invokestatic 126, 0)) rfl) (sk_s (n := 3) rfl rfl rfl)) (show pm_Rd kK false 39 183 [.long (x.toInt64), .long (Int64.ofNat 0), .long (-1)] kH0 (some (.int (Int32.ofInt 0)), kH0, 0, 0) from ?_) ?_
  · refine pm_Rd.mk (K := kK) (al := false) (d := 38) (mj := 183) rfl ?_
    show pm_Te kK false (pm_Rd kK false 38) 183 (0, [some (.long (x.toInt64)), none, some (.long (Int64.ofNat 0)), none, some (.long (-1)), none], [], kH0, 0, 0) _
    refine .step (x' := (1, [some (.long (x.toInt64)), none, some (.long (Int64.ofNat 0)), none, some (.long (-1)), none], [.long (x.toInt64)], kH0, 0, 0)) (ks2 (v := .long (x.toInt64)) (n := 1) (kmc_183 (e := (2, .lload_n kF0, 0)) rfl) rfl) ?_
    refine .step (x' := (2, [some (.long (x.toInt64)), none, some (.long (Int64.ofNat 0)), none, some (.long (-1)), none], [.long (Int64.ofNat 0), .long (x.toInt64)], kH0, 0, 0)) (ks2 (v := .long (Int64.ofNat 0)) (n := 1) (kmc_183 (e := (2, .lload_n kF2, 0)) rfl) rfl) ?_
    refine .step (x' := (3, [some (.long (x.toInt64)), none, some (.long (Int64.ofNat 0)), none, some (.long (-1)), none], [.int (-1)], kH0, 0, 0)) (ks0 (st' := [.int (-1)]) (kmc_183 (e := (0, .lcmp, 0)) rfl) (sa_lcmp (sc_lt (a := x.toInt) (b := 0) (sz_l _) (sz_cl (k := 0) (by decide +kernel)) (by omega)))) ?_
    refine .step (x' := (17, [some (.long (x.toInt64)), none, some (.long (Int64.ofNat 0)), none, some (.long (-1)), none], [], kH0, 0, 0)) (ks4 (pc' := 17) (st' := []) (kmc_183 (e := (4, .ifCond .lt 14, 17)) rfl) (kbz_lt (b := true) (by decide +kernel))) ?_
    refine .step (x' := (18, [some (.long (x.toInt64)), none, some (.long (Int64.ofNat 0)), none, some (.long (-1)), none], [.int (Int32.ofInt 0)], kH0, 0, 0)) (ks0 (st' := [.int (Int32.ofInt 0)]) (kmc_183 (e := (0, .iconst 0, 0)) rfl) rfl) ?_
    exact .ret (ks7 (kmc_183 (e := (7, .ireturn, 0)) rfl) (sr_z (by decide +kernel)))
  show pm_Te kK false (pm_Rd kK false 39) 300 (18, [some (.ref 170), some (.int x)], [.int (Int32.ofInt 0)], kH0, 0, 0) _
  refine .step (x' := (21, [some (.ref 170), some (.int x)], [], kH0, 0, 0)) (ks4 (pc' := 21) (st' := []) (kmc_300 (e := (4, .ifCond .ne 10, 28)) rfl) (kbz_ne (b := true) (by decide +kernel))) ?_
  refine .step (x' := (22, [some (.ref 170), some (.int x)], [.ref 170], kH0, 0, 0)) (ks2 (v := .ref 170) (n := 1) (kmc_300 (e := (2, .aload_n kF0, 0)) rfl) rfl) ?_
  refine .step (x' := (23, [some (.ref 170), some (.int x)], [.int (Int32.ofInt 1), .ref 170], kH0, 0, 0)) (ks0 (st' := [.int (Int32.ofInt 1), .ref 170]) (kmc_300 (e := (0, .iconst 1, 0)) rfl) rfl) ?_
  refine .step (x' := (26, [some (.ref 170), some (.int x)], [], kHth_row_0, 0, 0)) (skw (kmc_300 (e := (5, .putfield 3, 0)) rfl) rfl kat_170 rfl rfl) ?_
  refine .step (x' := (27, [some (.ref 170), some (.int x)], [.long (Int64.ofNat 0)], kHth_row_0, 0, 0)) (ks0 (st' := [.long (Int64.ofNat 0)]) (kmc_300 (e := (0, .lconst kG0, 0)) rfl) rfl) ?_
  exact .ret (ks7 (kmc_300 (e := (7, .lreturn, 0)) rfl) rfl)
theorem kTh_row_1 : pm_Se kK false (pm_Rd kK false 10) 180 (0, [some (.ref 0), some (.int (fo_i 0))], [], kH0, 0, 0) (15, [some (.ref 0), some (.int (fo_i 0))], [], kH0, 0, 0) := by
  refine .step (x' := (1, [some (.ref 0), some (.int (fo_i 0))], [.int (fo_i 0)], kH0, 0, 0)) (ks2 (v := .int (fo_i 0)) (n := 1) (kmc_180 (e := (2, .iload_n kF1, 0)) rfl) rfl) ?_
  refine .step (x' := (4, [some (.ref 0), some (.int (fo_i 0))], [], kH0, 0, 0)) (ks4 (pc' := 4) (st' := []) (kmc_180 (e := (4, .ifCond .lt 14, 15)) rfl) (kbz_lt (b := false) (by decide +kernel))) ?_
  refine .step (x' := (5, [some (.ref 0), some (.int (fo_i 0))], [.int (fo_i 0)], kH0, 0, 0)) (ks2 (v := .int (fo_i 0)) (n := 1) (kmc_180 (e := (2, .iload_n kF1, 0)) rfl) rfl) ?_
  refine .step (x' := (6, [some (.ref 0), some (.int (fo_i 0))], [.ref 0, .int (fo_i 0)], kH0, 0, 0)) (ks2 (v := .ref 0) (n := 1) (kmc_180 (e := (2, .aload_n kF0, 0)) rfl) rfl) ?_
  refine .step (x' := (9, [some (.ref 0), some (.int (fo_i 0))], [.ref 3, .int (fo_i 0)], kH0, 0, 0)) (skg (v := .ref 3) (kmc_180 (e := (5, .getfield 19, 0)) rfl) rfl kat_0 rfl) ?_
  refine .call (v := some (.int 0)) (ph' := kH0) (c1 := 0) (s1 := 0) (j := 59) (as := [.ref 3]) (pc := 12) (L := [some (.ref 0), some (.int (fo_i 0))]) (st := [.int (fo_i 0)]) (ks6 (kmc_180 (e := (6, .invokevirtual 423, 0)) rfl) (sk_v (n := 0) (a := 3) rfl rfl kat_3 rfl rfl)) (show pm_Rd kK false 10 59 [.ref 3] kH0 (some (.int 0), kH0, 0, 0) from ?_) ?_
  · refine pm_Rd.mk (K := kK) (al := false) (d := 9) (mj := 59) rfl ?_
    show pm_Te kK false (pm_Rd kK false 9) 59 (0, [some (.ref 3)], [], kH0, 0, 0) _
    refine .step (x' := (1, [some (.ref 3)], [.ref 3], kH0, 0, 0)) (ks2 (v := .ref 3) (n := 1) (kmc_59 (e := (2, .aload_n kF0, 0)) rfl) rfl) ?_
    refine .step (x' := (4, [some (.ref 3)], [.int 0], kH0, 0, 0)) (skg (v := .int 0) (kmc_59 (e := (5, .getfield 15, 0)) rfl) rfl kat_3 rfl) ?_
    exact .ret (ks7 (kmc_59 (e := (7, .ireturn, 0)) rfl) rfl)
  show pm_Se kK false (pm_Rd kK false 10) 180 (12, [some (.ref 0), some (.int (fo_i 0))], [.int 0, .int (fo_i 0)], kH0, 0, 0) _
  refine .step (x' := (15, [some (.ref 0), some (.int (fo_i 0))], [], kH0, 0, 0)) (ks4 (pc' := 15) (st' := []) (kmc_180 (e := (4, .if_icmp .lt 11, 23)) rfl) (kbi_lt (b := false) (by decide +kernel))) ?_
  exact .rf
def kHth_row_1 : pm_H := kH0.set 170 (.inr (13, [.int (Int32.ofInt 1), .int 0, .ref 171, .int 3, .int 3, .int 0, .int 0, .int 0, .int 1, .ref 172, .ref 173, .ref 174, .ref 175, .ref 176, .int 0, .int 0, .int 0, .int 0, .ref 177, .ref 178, .int 0, .ref 179, .ref 180, .int 0, .int 0, .ref 181, .ref 182, .int 0, .ref 183, .ref 184, .ref 185, .ref 186, .ref 187, .ref 188, .int 0, .ref 189, .ref 190, .ref 191, .ref 192, .int 0, .ref 193, .ref 194, .ref 195, .ref 196, .ref 197, .int 0, .ref 198, .ref 199, .ref 200]))
theorem kTm_row_1 : pm_Rd kK false 40 300 [.ref 170, .int (fo_i 0)] kH0 (some (.long (Int64.ofNat 0)), kHth_row_1, 0, 0) := by
  refine pm_Rd.mk (K := kK) (al := false) (d := 39) (mj := 300) rfl ?_
  show pm_Te kK false (pm_Rd kK false 39) 300 (0, [some (.ref 170), some (.int (fo_i 0))], [], kH0, 0, 0) _
  refine .step (x' := (1, [some (.ref 170), some (.int (fo_i 0))], [.ref 170], kH0, 0, 0)) (ks2 (v := .ref 170) (n := 1) (kmc_300 (e := (2, .aload_n kF0, 0)) rfl) rfl) ?_
  refine .step (x' := (2, [some (.ref 170), some (.int (fo_i 0))], [.int (Int32.ofInt 0), .ref 170], kH0, 0, 0)) (ks0 (st' := [.int (Int32.ofInt 0), .ref 170]) (kmc_300 (e := (0, .iconst 0, 0)) rfl) rfl) ?_
  refine .step (x' := (5, [some (.ref 170), some (.int (fo_i 0))], [], kH0, 0, 0)) (skp (kmc_300 (e := (5, .putfield 3, 0)) rfl) rfl kat_170 (by decide +kernel) rfl) ?_
  refine .step (x' := (6, [some (.ref 170), some (.int (fo_i 0))], [.int (fo_i 0)], kH0, 0, 0)) (ks2 (v := .int (fo_i 0)) (n := 1) (kmc_300 (e := (2, .iload_n kF1, 0)) rfl) rfl) ?_
  refine .step (x' := (7, [some (.ref 170), some (.int (fo_i 0))], [.long 0], kH0, 0, 0)) (ks0 (st' := [.long 0]) (kmc_300 (e := (0, .i2l, 0)) rfl) (sa_i2l (by decide +kernel))) ?_
  refine .step (x' := (8, [some (.ref 170), some (.int (fo_i 0))], [.long (Int64.ofNat 0), .long 0], kH0, 0, 0)) (ks0 (st' := [.long (Int64.ofNat 0), .long 0]) (kmc_300 (e := (0, .lconst kG0, 0)) rfl) rfl) ?_
  refine .step (x' := (9, [some (.ref 170), some (.int (fo_i 0))], [.ref 170, .long (Int64.ofNat 0), .long 0], kH0, 0, 0)) (ks2 (v := .ref 170) (n := 1) (kmc_300 (e := (2, .aload_n kF0, 0)) rfl) rfl) ?_
  refine .step (x' := (12, [some (.ref 170), some (.int (fo_i 0))], [.int 0, .long (Int64.ofNat 0), .long 0], kH0, 0, 0)) (skg (v := .int 0) (kmc_300 (e := (5, .getfield 15, 0)) rfl) rfl kat_170 rfl) ?_
  refine .step (x' := (13, [some (.ref 170), some (.int (fo_i 0))], [.int (Int32.ofInt 1), .int 0, .long (Int64.ofNat 0), .long 0], kH0, 0, 0)) (ks0 (st' := [.int (Int32.ofInt 1), .int 0, .long (Int64.ofNat 0), .long 0]) (kmc_300 (e := (0, .iconst 1, 0)) rfl) rfl) ?_
  refine .step (x' := (14, [some (.ref 170), some (.int (fo_i 0))], [.int (-1), .long (Int64.ofNat 0), .long 0], kH0, 0, 0)) (ks0 (st' := [.int (-1), .long (Int64.ofNat 0), .long 0]) (kmc_300 (e := (0, .isub, 0)) rfl) (sa_isub (by decide +kernel))) ?_
  refine .step (x' := (15, [some (.ref 170), some (.int (fo_i 0))], [.long (-1), .long (Int64.ofNat 0), .long 0], kH0, 0, 0)) (ks0 (st' := [.long (-1), .long (Int64.ofNat 0), .long 0]) (kmc_300 (e := (0, .i2l, 0)) rfl) (sa_i2l (by decide +kernel))) ?_
  refine .call (v := some (.int (Int32.ofInt 0))) (ph' := kH0) (c1 := 0) (s1 := 0) (j := 183) (as := [.long 0, .long (Int64.ofNat 0), .long (-1)]) (pc := 18) (L := [some (.ref 170), some (.int (fo_i 0))]) (st := []) (ks6 (kmc_300 (e := (6, .invokestatic 126, 0)) rfl) (sk_s (n := 3) rfl rfl rfl)) (show pm_Rd kK false 39 183 [.long 0, .long (Int64.ofNat 0), .long (-1)] kH0 (some (.int (Int32.ofInt 0)), kH0, 0, 0) from ?_) ?_
  · refine pm_Rd.mk (K := kK) (al := false) (d := 38) (mj := 183) rfl ?_
    show pm_Te kK false (pm_Rd kK false 38) 183 (0, [some (.long 0), none, some (.long (Int64.ofNat 0)), none, some (.long (-1)), none], [], kH0, 0, 0) _
    refine .step (x' := (1, [some (.long 0), none, some (.long (Int64.ofNat 0)), none, some (.long (-1)), none], [.long 0], kH0, 0, 0)) (ks2 (v := .long 0) (n := 1) (kmc_183 (e := (2, .lload_n kF0, 0)) rfl) rfl) ?_
    refine .step (x' := (2, [some (.long 0), none, some (.long (Int64.ofNat 0)), none, some (.long (-1)), none], [.long (Int64.ofNat 0), .long 0], kH0, 0, 0)) (ks2 (v := .long (Int64.ofNat 0)) (n := 1) (kmc_183 (e := (2, .lload_n kF2, 0)) rfl) rfl) ?_
    refine .step (x' := (3, [some (.long 0), none, some (.long (Int64.ofNat 0)), none, some (.long (-1)), none], [.int 0], kH0, 0, 0)) (ks0 (st' := [.int 0]) (kmc_183 (e := (0, .lcmp, 0)) rfl) (sa_lcmp (by decide +kernel))) ?_
    refine .step (x' := (6, [some (.long 0), none, some (.long (Int64.ofNat 0)), none, some (.long (-1)), none], [], kH0, 0, 0)) (ks4 (pc' := 6) (st' := []) (kmc_183 (e := (4, .ifCond .lt 14, 17)) rfl) (kbz_lt (b := false) (by decide +kernel))) ?_
    refine .step (x' := (7, [some (.long 0), none, some (.long (Int64.ofNat 0)), none, some (.long (-1)), none], [.long 0], kH0, 0, 0)) (ks2 (v := .long 0) (n := 1) (kmc_183 (e := (2, .lload_n kF0, 0)) rfl) rfl) ?_
    refine .step (x' := (9, [some (.long 0), none, some (.long (Int64.ofNat 0)), none, some (.long (-1)), none], [.long (-1), .long 0], kH0, 0, 0)) (ks2 (v := .long (-1)) (n := 2) (kmc_183 (e := (2, .lload 4, 0)) rfl) rfl) ?_
    refine .step (x' := (10, [some (.long 0), none, some (.long (Int64.ofNat 0)), none, some (.long (-1)), none], [.int 1], kH0, 0, 0)) (ks0 (st' := [.int 1]) (kmc_183 (e := (0, .lcmp, 0)) rfl) (sa_lcmp (by decide +kernel))) ?_
    refine .step (x' := (17, [some (.long 0), none, some (.long (Int64.ofNat 0)), none, some (.long (-1)), none], [], kH0, 0, 0)) (ks4 (pc' := 17) (st' := []) (kmc_183 (e := (4, .ifCond .gt 7, 17)) rfl) (kbz_gt (b := true) (by decide +kernel))) ?_
    refine .step (x' := (18, [some (.long 0), none, some (.long (Int64.ofNat 0)), none, some (.long (-1)), none], [.int (Int32.ofInt 0)], kH0, 0, 0)) (ks0 (st' := [.int (Int32.ofInt 0)]) (kmc_183 (e := (0, .iconst 0, 0)) rfl) rfl) ?_
    exact .ret (ks7 (kmc_183 (e := (7, .ireturn, 0)) rfl) (sr_z (by decide +kernel)))
  show pm_Te kK false (pm_Rd kK false 39) 300 (18, [some (.ref 170), some (.int (fo_i 0))], [.int (Int32.ofInt 0)], kH0, 0, 0) _
  refine .step (x' := (21, [some (.ref 170), some (.int (fo_i 0))], [], kH0, 0, 0)) (ks4 (pc' := 21) (st' := []) (kmc_300 (e := (4, .ifCond .ne 10, 28)) rfl) (kbz_ne (b := true) (by decide +kernel))) ?_
  refine .step (x' := (22, [some (.ref 170), some (.int (fo_i 0))], [.ref 170], kH0, 0, 0)) (ks2 (v := .ref 170) (n := 1) (kmc_300 (e := (2, .aload_n kF0, 0)) rfl) rfl) ?_
  refine .step (x' := (23, [some (.ref 170), some (.int (fo_i 0))], [.int (Int32.ofInt 1), .ref 170], kH0, 0, 0)) (ks0 (st' := [.int (Int32.ofInt 1), .ref 170]) (kmc_300 (e := (0, .iconst 1, 0)) rfl) rfl) ?_
  refine .step (x' := (26, [some (.ref 170), some (.int (fo_i 0))], [], kHth_row_1, 0, 0)) (skw (kmc_300 (e := (5, .putfield 3, 0)) rfl) rfl kat_170 rfl rfl) ?_
  refine .step (x' := (27, [some (.ref 170), some (.int (fo_i 0))], [.long (Int64.ofNat 0)], kHth_row_1, 0, 0)) (ks0 (st' := [.long (Int64.ofNat 0)]) (kmc_300 (e := (0, .lconst kG0, 0)) rfl) rfl) ?_
  exact .ret (ks7 (kmc_300 (e := (7, .lreturn, 0)) rfl) rfl)
theorem kTh_row_2 {x : Int32} (hx : 1 ≤ x.toInt) : pm_Se kK false (pm_Rd kK false 10) 180 (0, [some (.ref 0), some (.int x)], [], kH0, 0, 0) (15, [some (.ref 0), some (.int x)], [], kH0, 0, 0) := by
  refine .step (x' := (1, [some (.ref 0), some (.int x)], [.int x], kH0, 0, 0)) (ks2 (v := .int x) (n := 1) (kmc_180 (e := (2, .iload_n kF1, 0)) rfl) rfl) ?_
  refine .step (x' := (4, [some (.ref 0), some (.int x)], [], kH0, 0, 0)) (ks4 (pc' := 4) (st' := []) (kmc_180 (e := (4, .ifCond .lt 14, 15)) rfl) (kbz_lt (b := false) (sd_ltf (a := x.toInt) (b := 0) rfl (sz_c (k := 0) (by decide +kernel)) (by omega)))) ?_
  refine .step (x' := (5, [some (.ref 0), some (.int x)], [.int x], kH0, 0, 0)) (ks2 (v := .int x) (n := 1) (kmc_180 (e := (2, .iload_n kF1, 0)) rfl) rfl) ?_
  refine .step (x' := (6, [some (.ref 0), some (.int x)], [.ref 0, .int x], kH0, 0, 0)) (ks2 (v := .ref 0) (n := 1) (kmc_180 (e := (2, .aload_n kF0, 0)) rfl) rfl) ?_
  refine .step (x' := (9, [some (.ref 0), some (.int x)], [.ref 3, .int x], kH0, 0, 0)) (skg (v := .ref 3) (kmc_180 (e := (5, .getfield 19, 0)) rfl) rfl kat_0 rfl) ?_
  refine .call (v := some (.int 0)) (ph' := kH0) (c1 := 0) (s1 := 0) (j := 59) (as := [.ref 3]) (pc := 12) (L := [some (.ref 0), some (.int x)]) (st := [.int x]) (ks6 (kmc_180 (e := (6, .invokevirtual 423, 0)) rfl) (sk_v (n := 0) (a := 3) rfl rfl kat_3 rfl rfl)) (show pm_Rd kK false 10 59 [.ref 3] kH0 (some (.int 0), kH0, 0, 0) from ?_) ?_
  · refine pm_Rd.mk (K := kK) (al := false) (d := 9) (mj := 59) rfl ?_
    show pm_Te kK false (pm_Rd kK false 9) 59 (0, [some (.ref 3)], [], kH0, 0, 0) _
    refine .step (x' := (1, [some (.ref 3)], [.ref 3], kH0, 0, 0)) (ks2 (v := .ref 3) (n := 1) (kmc_59 (e := (2, .aload_n kF0, 0)) rfl) rfl) ?_
    refine .step (x' := (4, [some (.ref 3)], [.int 0], kH0, 0, 0)) (skg (v := .int 0) (kmc_59 (e := (5, .getfield 15, 0)) rfl) rfl kat_3 rfl) ?_
    exact .ret (ks7 (kmc_59 (e := (7, .ireturn, 0)) rfl) rfl)
  show pm_Se kK false (pm_Rd kK false 10) 180 (12, [some (.ref 0), some (.int x)], [.int 0, .int x], kH0, 0, 0) _
  refine .step (x' := (15, [some (.ref 0), some (.int x)], [], kH0, 0, 0)) (ks4 (pc' := 15) (st' := []) (kmc_180 (e := (4, .if_icmp .lt 11, 23)) rfl) (kbi_lt (b := false) (sd_ltf (a := x.toInt) (b := 0) rfl (sz_c (k := 0) (by decide +kernel)) (by omega)))) ?_
  exact .rf
def kHth_row_2 : pm_H := kH0.set 170 (.inr (13, [.int (Int32.ofInt 1), .int 0, .ref 171, .int 3, .int 3, .int 0, .int 0, .int 0, .int 1, .ref 172, .ref 173, .ref 174, .ref 175, .ref 176, .int 0, .int 0, .int 0, .int 0, .ref 177, .ref 178, .int 0, .ref 179, .ref 180, .int 0, .int 0, .ref 181, .ref 182, .int 0, .ref 183, .ref 184, .ref 185, .ref 186, .ref 187, .ref 188, .int 0, .ref 189, .ref 190, .ref 191, .ref 192, .int 0, .ref 193, .ref 194, .ref 195, .ref 196, .ref 197, .int 0, .ref 198, .ref 199, .ref 200]))
theorem kTm_row_2 {x : Int32} (hx : 1 ≤ x.toInt) : pm_Rd kK false 40 300 [.ref 170, .int x] kH0 (some (.long (Int64.ofNat 0)), kHth_row_2, 0, 0) := by
  refine pm_Rd.mk (K := kK) (al := false) (d := 39) (mj := 300) rfl ?_
  show pm_Te kK false (pm_Rd kK false 39) 300 (0, [some (.ref 170), some (.int x)], [], kH0, 0, 0) _
  refine .step (x' := (1, [some (.ref 170), some (.int x)], [.ref 170], kH0, 0, 0)) (ks2 (v := .ref 170) (n := 1) (kmc_300 (e := (2, .aload_n kF0, 0)) rfl) rfl) ?_
  refine .step (x' := (2, [some (.ref 170), some (.int x)], [.int (Int32.ofInt 0), .ref 170], kH0, 0, 0)) (ks0 (st' := [.int (Int32.ofInt 0), .ref 170]) (kmc_300 (e := (0, .iconst 0, 0)) rfl) rfl) ?_
  refine .step (x' := (5, [some (.ref 170), some (.int x)], [], kH0, 0, 0)) (skp (kmc_300 (e := (5, .putfield 3, 0)) rfl) rfl kat_170 (by decide +kernel) rfl) ?_
  refine .step (x' := (6, [some (.ref 170), some (.int x)], [.int x], kH0, 0, 0)) (ks2 (v := .int x) (n := 1) (kmc_300 (e := (2, .iload_n kF1, 0)) rfl) rfl) ?_
  refine .step (x' := (7, [some (.ref 170), some (.int x)], [.long (x.toInt64)], kH0, 0, 0)) (ks0 (st' := [.long (x.toInt64)]) (kmc_300 (e := (0, .i2l, 0)) rfl) rfl) ?_
  refine .step (x' := (8, [some (.ref 170), some (.int x)], [.long (Int64.ofNat 0), .long (x.toInt64)], kH0, 0, 0)) (ks0 (st' := [.long (Int64.ofNat 0), .long (x.toInt64)]) (kmc_300 (e := (0, .lconst kG0, 0)) rfl) rfl) ?_
  refine .step (x' := (9, [some (.ref 170), some (.int x)], [.ref 170, .long (Int64.ofNat 0), .long (x.toInt64)], kH0, 0, 0)) (ks2 (v := .ref 170) (n := 1) (kmc_300 (e := (2, .aload_n kF0, 0)) rfl) rfl) ?_
  refine .step (x' := (12, [some (.ref 170), some (.int x)], [.int 0, .long (Int64.ofNat 0), .long (x.toInt64)], kH0, 0, 0)) (skg (v := .int 0) (kmc_300 (e := (5, .getfield 15, 0)) rfl) rfl kat_170 rfl) ?_
  refine .step (x' := (13, [some (.ref 170), some (.int x)], [.int (Int32.ofInt 1), .int 0, .long (Int64.ofNat 0), .long (x.toInt64)], kH0, 0, 0)) (ks0 (st' := [.int (Int32.ofInt 1), .int 0, .long (Int64.ofNat 0), .long (x.toInt64)]) (kmc_300 (e := (0, .iconst 1, 0)) rfl) rfl) ?_
  refine .step (x' := (14, [some (.ref 170), some (.int x)], [.int (-1), .long (Int64.ofNat 0), .long (x.toInt64)], kH0, 0, 0)) (ks0 (st' := [.int (-1), .long (Int64.ofNat 0), .long (x.toInt64)]) (kmc_300 (e := (0, .isub, 0)) rfl) (sa_isub (by decide +kernel))) ?_
  refine .step (x' := (15, [some (.ref 170), some (.int x)], [.long (-1), .long (Int64.ofNat 0), .long (x.toInt64)], kH0, 0, 0)) (ks0 (st' := [.long (-1), .long (Int64.ofNat 0), .long (x.toInt64)]) (kmc_300 (e := (0, .i2l, 0)) rfl) (sa_i2l (by decide +kernel))) ?_
  refine .call (v := some (.int (Int32.ofInt 0))) (ph' := kH0) (c1 := 0) (s1 := 0) (j := 183) (as := [.long (x.toInt64), .long (Int64.ofNat 0), .long (-1)]) (pc := 18) (L := [some (.ref 170), some (.int x)]) (st := []) (ks6 (kmc_300 (e := (6, .invokestatic 126, 0)) rfl) (sk_s (n := 3) rfl rfl rfl)) (show pm_Rd kK false 39 183 [.long (x.toInt64), .long (Int64.ofNat 0), .long (-1)] kH0 (some (.int (Int32.ofInt 0)), kH0, 0, 0) from ?_) ?_
  · refine pm_Rd.mk (K := kK) (al := false) (d := 38) (mj := 183) rfl ?_
    show pm_Te kK false (pm_Rd kK false 38) 183 (0, [some (.long (x.toInt64)), none, some (.long (Int64.ofNat 0)), none, some (.long (-1)), none], [], kH0, 0, 0) _
    refine .step (x' := (1, [some (.long (x.toInt64)), none, some (.long (Int64.ofNat 0)), none, some (.long (-1)), none], [.long (x.toInt64)], kH0, 0, 0)) (ks2 (v := .long (x.toInt64)) (n := 1) (kmc_183 (e := (2, .lload_n kF0, 0)) rfl) rfl) ?_
    refine .step (x' := (2, [some (.long (x.toInt64)), none, some (.long (Int64.ofNat 0)), none, some (.long (-1)), none], [.long (Int64.ofNat 0), .long (x.toInt64)], kH0, 0, 0)) (ks2 (v := .long (Int64.ofNat 0)) (n := 1) (kmc_183 (e := (2, .lload_n kF2, 0)) rfl) rfl) ?_
    refine .step (x' := (3, [some (.long (x.toInt64)), none, some (.long (Int64.ofNat 0)), none, some (.long (-1)), none], [.int 1], kH0, 0, 0)) (ks0 (st' := [.int 1]) (kmc_183 (e := (0, .lcmp, 0)) rfl) (sa_lcmp (sc_gt (a := x.toInt) (b := 0) (sz_l _) (sz_cl (k := 0) (by decide +kernel)) (by omega)))) ?_
    refine .step (x' := (6, [some (.long (x.toInt64)), none, some (.long (Int64.ofNat 0)), none, some (.long (-1)), none], [], kH0, 0, 0)) (ks4 (pc' := 6) (st' := []) (kmc_183 (e := (4, .ifCond .lt 14, 17)) rfl) (kbz_lt (b := false) (by decide +kernel))) ?_
    refine .step (x' := (7, [some (.long (x.toInt64)), none, some (.long (Int64.ofNat 0)), none, some (.long (-1)), none], [.long (x.toInt64)], kH0, 0, 0)) (ks2 (v := .long (x.toInt64)) (n := 1) (kmc_183 (e := (2, .lload_n kF0, 0)) rfl) rfl) ?_
    refine .step (x' := (9, [some (.long (x.toInt64)), none, some (.long (Int64.ofNat 0)), none, some (.long (-1)), none], [.long (-1), .long (x.toInt64)], kH0, 0, 0)) (ks2 (v := .long (-1)) (n := 2) (kmc_183 (e := (2, .lload 4, 0)) rfl) rfl) ?_
    refine .step (x' := (10, [some (.long (x.toInt64)), none, some (.long (Int64.ofNat 0)), none, some (.long (-1)), none], [.int 1], kH0, 0, 0)) (ks0 (st' := [.int 1]) (kmc_183 (e := (0, .lcmp, 0)) rfl) (sa_lcmp (sc_gt (a := x.toInt) (b := (-1)) (sz_l _) (sz_cl (k := -1) (by decide +kernel)) (by omega)))) ?_
    refine .step (x' := (17, [some (.long (x.toInt64)), none, some (.long (Int64.ofNat 0)), none, some (.long (-1)), none], [], kH0, 0, 0)) (ks4 (pc' := 17) (st' := []) (kmc_183 (e := (4, .ifCond .gt 7, 17)) rfl) (kbz_gt (b := true) (by decide +kernel))) ?_
    refine .step (x' := (18, [some (.long (x.toInt64)), none, some (.long (Int64.ofNat 0)), none, some (.long (-1)), none], [.int (Int32.ofInt 0)], kH0, 0, 0)) (ks0 (st' := [.int (Int32.ofInt 0)]) (kmc_183 (e := (0, .iconst 0, 0)) rfl) rfl) ?_
    exact .ret (ks7 (kmc_183 (e := (7, .ireturn, 0)) rfl) (sr_z (by decide +kernel)))
  show pm_Te kK false (pm_Rd kK false 39) 300 (18, [some (.ref 170), some (.int x)], [.int (Int32.ofInt 0)], kH0, 0, 0) _
  refine .step (x' := (21, [some (.ref 170), some (.int x)], [], kH0, 0, 0)) (ks4 (pc' := 21) (st' := []) (kmc_300 (e := (4, .ifCond .ne 10, 28)) rfl) (kbz_ne (b := true) (by decide +kernel))) ?_
  refine .step (x' := (22, [some (.ref 170), some (.int x)], [.ref 170], kH0, 0, 0)) (ks2 (v := .ref 170) (n := 1) (kmc_300 (e := (2, .aload_n kF0, 0)) rfl) rfl) ?_
  refine .step (x' := (23, [some (.ref 170), some (.int x)], [.int (Int32.ofInt 1), .ref 170], kH0, 0, 0)) (ks0 (st' := [.int (Int32.ofInt 1), .ref 170]) (kmc_300 (e := (0, .iconst 1, 0)) rfl) rfl) ?_
  refine .step (x' := (26, [some (.ref 170), some (.int x)], [], kHth_row_2, 0, 0)) (skw (kmc_300 (e := (5, .putfield 3, 0)) rfl) rfl kat_170 rfl rfl) ?_
  refine .step (x' := (27, [some (.ref 170), some (.int x)], [.long (Int64.ofNat 0)], kHth_row_2, 0, 0)) (ks0 (st' := [.long (Int64.ofNat 0)]) (kmc_300 (e := (0, .lconst kG0, 0)) rfl) rfl) ?_
  exact .ret (ks7 (kmc_300 (e := (7, .lreturn, 0)) rfl) rfl)
theorem kTh_row (x : Int32) : pm_Se kK false (pm_Rd kK false 10) 180 (pm_ent kK 180 [.ref 0, .int x] kH0) (15, [some (.ref 0), some (.int x)], [], kH0, 0, 0) := by
  show pm_Se kK false (pm_Rd kK false 10) 180 (0, [some (.ref 0), some (.int x)], [], kH0, 0, 0) _
  rcases (by omega : x.toInt ≤ -1 ∨ x.toInt = 0 ∨ 1 ≤ x.toInt) with hx | hx | hx
  · exact kTh_row_0 hx
  · obtain rfl : x = fo_i 0 := sx_c (k := 0) (by decide) hx
    exact kTh_row_1
  · exact kTh_row_2 hx
theorem kTm_row (x : Int32) : pm_Rd kK false 40 300 [.ref 170, .int x] kH0 (some (.long (Int64.ofNat 0)), kHth_row_0, 0, 0) := by
  rcases (by omega : x.toInt ≤ -1 ∨ x.toInt = 0 ∨ 1 ≤ x.toInt) with hx | hx | hx
  · exact kTm_row_0 hx
  · obtain rfl : x = fo_i 0 := sx_c (k := 0) (by decide) hx
    exact kTm_row_1
  · exact kTm_row_2 hx
theorem kTt_row : pm_Rd kK false 40 181 [.ref 170] kHth_row_0 (some (.int (Int32.ofInt 1)), kHth_row_0, 0, 0) := by
  refine pm_Rd.mk (K := kK) (al := false) (d := 39) (mj := 181) rfl ?_
  show pm_Te kK false (pm_Rd kK false 39) 181 (0, [some (.ref 170)], [], kHth_row_0, 0, 0) _
  refine .step (x' := (1, [some (.ref 170)], [.ref 170], kHth_row_0, 0, 0)) (ks2 (v := .ref 170) (n := 1) (kmc_181 (e := (2, .aload_n kF0, 0)) rfl) rfl) ?_
  refine .step (x' := (4, [some (.ref 170)], [.int (Int32.ofInt 1)], kHth_row_0, 0, 0)) (skg (v := .int (Int32.ofInt 1)) (kmc_181 (e := (5, .getfield 3, 0)) rfl) rfl (sat_s kat_170) rfl) ?_
  exact .ret (ks7 (kmc_181 (e := (7, .ireturn, 0)) rfl) rfl)
theorem kTa_row : ∃ fs, pm_at kHth_row_0 170 = some (.inr (13, fs)) := ⟨_, sat_s kat_170⟩
