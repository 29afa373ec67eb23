/-! person, thing, row: the law's helpers, printed by wip/x/claw.py -/
section KHL
variable {D : va_G} {dA : Nat → ClassId} {B : Nat} {ra : Nat → Nat} {ph : pm_H}
theorem khelp2 (l : Launch) {y : MethodName} {bytes : ByteArray} {ix jx d : Nat} {fs : List Value} {p0 p1 : Int32} (hph : pm_at ph 0 = some (.inr (12, fs))) (hy : plainName y.cls = true) (hycls : y.cls = "BonnetValleyLaw") (hd : 1 ≤ d)
    (dc0 : decode bytes 0 = .ok (.aload_n 3, 1)) (dc1 : decode bytes 1 = .ok (.iconst 0, 1)) (dc2 : decode bytes 2 = .ok (.aload_n 0, 1)) (dc3 : decode bytes 3 = .ok (.iload_n 1, 1)) (dc4 : decode bytes 4 = .ok (.iload_n 2, 1)) (dc5 : decode bytes 5 = .ok (.invokevirtual ix, 3)) (dc13 : decode bytes 13 = .ok (.astore 4, 2)) (dc15 : decode bytes 15 = .ok (.iconst 1, 1)) (dc16 : decode bytes 16 = .ok (.ireturn, 1))
    (hcode : ∃ q, pm_code kK jx 0 = some q) (hcls : (kM jx).1.cls = "BonnetValley") (hl : Cond.methodLink "BonnetValleyLaw" ix (kM jx).1 ∈ kALL) (hin : Cond.instanceMethod (kM jx).1 ∈ kALL) (hse : Cond.selects "BonnetValley" (kM jx).1 (kM jx).1 ∈ kALL) (hn : (parseMethodDescriptor (kM jx).1.desc).map (fun d => d.parameters.length) = some 2)
    (hM : vx_Met l (kM jx).1 (pm_wds kM kALL jx) (pm_rm d 1 6) (va_Pc (([.ref 0, .int p0, .int p1] : List Value).map (pm_u (pm_ad B ra))) (kTI D dA B ra ph)) (va_Qi (S := Unit) (fun _ _ => False) (fun _ _ => True) (fun q => B ≤ q)) (kTX D dA B ra ph) 1 6 (fun q => B ≤ q)) :
    Met l y (Cond.codeWith y bytes 5 (some .int) [(0, 10, 13, 13)] :: kALL) (pm_rm (d + 1) 1 6) (va_Pc (([.ref 0, .int p0, .int p1, .ref 201] : List Value).map (pm_u (pm_ad B ra))) (kTI D dA B ra ph)) (pm_Qc kK kcl knws kzs krs kaos krof "BonnetValley$State" D dA B ra false (some (.int 1), ph, 1, 6)) 1 6 (fun q => B ≤ q) := by
  refine kMet_ofWH hy rfl ?_
  intro p e s m args below meth c s₁ B0 hml hv
  obtain ⟨rfl, ⟨hP, hK, hB, hz, hRO⟩, hT⟩ := hv
  have hts0 := atoms_spec (ws := Cond.codeWith y bytes 5 (some .int) [(0, 10, 13, 13)] :: kALL) B0.pre
  have hts : ∀ w ∈ kALL, w.before _ s = true := fun w hw => hts0 w (List.mem_cons_of_mem _ hw)
  have hown : s.vm.findClass "BonnetValleyLaw" = some m.cls := by rw [← hycls]; exact findClass_of_methodNamed B0.named
  have htab := vx_table (x := y) B0 (hts0 _ List.mem_cons_self)
  have e9 : pm_ad B ra 0 = B + 0 := pm_adE hph
  rw [lg_entry_eq]
  have h0 := lv_entry (([.ref 0, .int p0, .int p1, .ref 201] : List Value).map (pm_u (pm_ad B ra))) (n := 5) (Nat.le_of_ble_eq_true rfl)
  refine lv_aload_n (k := 3) B0.exec B0.bytes dc0 rfl (lv_at h0 3 rfl) ?_
  refine lv_iconst (v := 0) B0.exec B0.bytes dc1 (by decide +kernel) ?_
  refine lv_aload_n (k := 0) B0.exec B0.bytes dc2 rfl (lv_at h0 0 rfl) ?_
  refine lv_iload_n (k := 1) B0.exec B0.bytes dc3 rfl (lv_at h0 1 rfl) ?_
  refine lv_iload_n (k := 2) B0.exec B0.bytes dc4 rfl (lv_at h0 2 rfl) ?_
  obtain ⟨T9, N9, hc9⟩ : ∃ (T : u_T) (N : Nat), kcl[12]? = some ("BonnetValley", T, N) := ⟨_, _, rfl⟩
  have S : CallFix p m c bytes c.maxLocals s _ kALL "BonnetValleyLaw" := ⟨B0.exec, B0.bytes, rfl, hown, hts⟩
  have hp : PreV s s.heap "BonnetValley" (B + 0) (va_Pc (([.ref 0, .int p0, .int p1] : List Value).map (pm_u (pm_ad B ra))) (kTI D dA B ra ph)) [.int p0, .int p1] := by
    refine ⟨kTI_blind _, va_recv hK hP (ci := 12) (q0 := 0) hc9 (pm_getE hph), fun U hU hW => ⟨?_, pm_In_of knwf hP hK hB va_S.rf (fun h => by cases h) hRO hU hW, kTs_of hT va_S.rf hU hW⟩⟩
    show _ = ([Value.ref (pm_ad B ra 0), .int p0, .int p1] : List Value).toArray
    rw [e9]
  have hr := vx_runV (R := pm_rm (d + 1) 1 6) (below := below) (l := l) (e := e) (meth := meth) (locs := []) (cells := 0) (slots := 0) (rest := [.int 0, .ref (pm_ad B ra 201)]) (g := F0 m 5 ((lg_sl (([.ref 0, .int p0, .int p1, .ref 201] : List Value).map (pm_u (pm_ad B ra))) ++ List.replicate (5 - (lg_sl (([.ref 0, .int p0, .int p1, .ref 201] : List Value).map (pm_u (pm_ad B ra)))).length) Slot.unset).toArray) [.int p1, .int p0, .ref (pm_ad B ra 0), .int 0, .ref (pm_ad B ra 201)]) S hM (kcallW hts hcode hcls hl hin hse hn (Nat.le_refl _) (by show d * 128 + 128 ≤ (d + 1) * 128; omega)) hp rfl rfl (h0.1.trans hml.symm) (by rw [e9]; rfl) (lv_room (by show (2 : Nat) ≤ 8; decide)) dc5 ⟨Nat.le_refl _, Nat.le_refl _⟩
  refine vx_calli (S := Unit) (SX := Unit) (A0 := fun q => B ≤ q) (H0 := s.heap) hr va_S.rf (fun _ _ h => h) (fun _ h => h) (fun _ _ h => h) ?_ (fun r u t H1 locs1 _ _ hp9 _ _ _ _ => hp9.elim)
  intro E ce q9 u t H1 locs1 ht hal _ hBX hsz hun hS1 hce hcv hcl
  obtain ⟨hE, hP1⟩ := hBX
  rw [ht] at hP1
  exact kcaught (a := 0) (b := 10) (ha := 13) (sl := 2) B0.exec B0.bytes B0.returns B0.notSynchronized hown hts hT.2.2 hK hRO hB htab (by decide +kernel) hP1 hS1 hE hce hcv hcl (fun Q cells slots kk => lv_astore B0.exec B0.bytes dc13 h0 (by decide) rfl (fun ls' _ => kk ls')) dc15 dc16
theorem khelp1 (l : Launch) {y : MethodName} {bytes : ByteArray} {ix jx d : Nat} {fs : List Value} {p0 : Int32} (hph : pm_at ph 0 = some (.inr (12, fs))) (hy : plainName y.cls = true) (hycls : y.cls = "BonnetValleyLaw") (hd : 1 ≤ d)
    (dc0 : decode bytes 0 = .ok (.aload_n 2, 1)) (dc1 : decode bytes 1 = .ok (.iconst 0, 1)) (dc2 : decode bytes 2 = .ok (.aload_n 0, 1)) (dc3 : decode bytes 3 = .ok (.iload_n 1, 1)) (dc5 : decode bytes 4 = .ok (.invokevirtual ix, 3)) (dc13 : decode bytes 11 = .ok (.astore_n 3, 1)) (dc15 : decode bytes 12 = .ok (.iconst 1, 1)) (dc16 : decode bytes 13 = .ok (.ireturn, 1))
    (hcode : ∃ q, pm_code kK jx 0 = some q) (hcls : (kM jx).1.cls = "BonnetValley") (hl : Cond.methodLink "BonnetValleyLaw" ix (kM jx).1 ∈ kALL) (hin : Cond.instanceMethod (kM jx).1 ∈ kALL) (hse : Cond.selects "BonnetValley" (kM jx).1 (kM jx).1 ∈ kALL) (hn : (parseMethodDescriptor (kM jx).1.desc).map (fun d => d.parameters.length) = some 1)
    (hM : vx_Met l (kM jx).1 (pm_wds kM kALL jx) (pm_rm d 1 6) (va_Pc (([.ref 0, .int p0] : List Value).map (pm_u (pm_ad B ra))) (kTI D dA B ra ph)) (va_Ql (S := Unit) (fun _ _ => False) (fun _ _ => True) (fun q => B ≤ q)) (kTX D dA B ra ph) 1 6 (fun q => B ≤ q)) :
    Met l y (Cond.codeWith y bytes 4 (some .int) [(0, 8, 11, 13)] :: kALL) (pm_rm (d + 1) 1 6) (va_Pc (([.ref 0, .int p0, .ref 201] : List Value).map (pm_u (pm_ad B ra))) (kTI D dA B ra ph)) (pm_Qc kK kcl knws kzs krs kaos krof "BonnetValley$State" D dA B ra false (some (.int 1), ph, 1, 6)) 1 6 (fun q => B ≤ q) := by
  refine kMet_ofWH hy rfl ?_
  intro p e s m args below meth c s₁ B0 hml hv
  obtain ⟨rfl, ⟨hP, hK, hB, hz, hRO⟩, hT⟩ := hv
  have hts0 := atoms_spec (ws := Cond.codeWith y bytes 4 (some .int) [(0, 8, 11, 13)] :: kALL) B0.pre
  have hts : ∀ w ∈ kALL, w.before _ s = true := fun w hw => hts0 w (List.mem_cons_of_mem _ hw)
  have hown : s.vm.findClass "BonnetValleyLaw" = some m.cls := by rw [← hycls]; exact findClass_of_methodNamed B0.named
  have htab := vx_table (x := y) B0 (hts0 _ List.mem_cons_self)
  have e9 : pm_ad B ra 0 = B + 0 := pm_adE hph
  rw [lg_entry_eq]
  have h0 := lv_entry (([.ref 0, .int p0, .ref 201] : List Value).map (pm_u (pm_ad B ra))) (n := 4) (Nat.le_of_ble_eq_true rfl)
  refine lv_aload_n (k := 2) B0.exec B0.bytes dc0 rfl (lv_at h0 2 rfl) ?_
  refine lv_iconst (v := 0) B0.exec B0.bytes dc1 (by decide +kernel) ?_
  refine lv_aload_n (k := 0) B0.exec B0.bytes dc2 rfl (lv_at h0 0 rfl) ?_
  refine lv_iload_n (k := 1) B0.exec B0.bytes dc3 rfl (lv_at h0 1 rfl) ?_
  obtain ⟨T9, N9, hc9⟩ : ∃ (T : u_T) (N : Nat), kcl[12]? = some ("BonnetValley", T, N) := ⟨_, _, rfl⟩
  have S : CallFix p m c bytes c.maxLocals s _ kALL "BonnetValleyLaw" := ⟨B0.exec, B0.bytes, rfl, hown, hts⟩
  have hp : PreV s s.heap "BonnetValley" (B + 0) (va_Pc (([.ref 0, .int p0] : List Value).map (pm_u (pm_ad B ra))) (kTI D dA B ra ph)) [.int p0] := by
    refine ⟨kTI_blind _, va_recv hK hP (ci := 12) (q0 := 0) hc9 (pm_getE hph), fun U hU hW => ⟨?_, pm_In_of knwf hP hK hB va_S.rf (fun h => by cases h) hRO hU hW, kTs_of hT va_S.rf hU hW⟩⟩
    show _ = ([Value.ref (pm_ad B ra 0), .int p0] : List Value).toArray
    rw [e9]
  have hr := vx_runV (R := pm_rm (d + 1) 1 6) (below := below) (l := l) (e := e) (meth := meth) (locs := []) (cells := 0) (slots := 0) (rest := [.int 0, .ref (pm_ad B ra 201)]) (g := F0 m 4 ((lg_sl (([.ref 0, .int p0, .ref 201] : List Value).map (pm_u (pm_ad B ra))) ++ List.replicate (4 - (lg_sl (([.ref 0, .int p0, .ref 201] : List Value).map (pm_u (pm_ad B ra)))).length) Slot.unset).toArray) [.int p0, .ref (pm_ad B ra 0), .int 0, .ref (pm_ad B ra 201)]) S hM (kcallW hts hcode hcls hl hin hse hn (Nat.le_refl _) (by show d * 128 + 128 ≤ (d + 1) * 128; omega)) hp rfl rfl (h0.1.trans hml.symm) (by rw [e9]; rfl) (lv_room (by show (2 : Nat) ≤ 8; decide)) dc5 ⟨Nat.le_refl _, Nat.le_refl _⟩
  refine vx_calll (S := Unit) (SX := Unit) (A0 := fun q => B ≤ q) (H0 := s.heap) hr va_S.rf (fun _ _ h => h) (fun _ h => h) (fun _ _ h => h) ?_ (fun r u t H1 locs1 _ _ hp9 _ _ _ _ => hp9.elim)
  intro E ce q9 u t H1 locs1 ht hal _ hBX hsz hun hS1 hce hcv hcl
  obtain ⟨hE, hP1⟩ := hBX
  rw [ht] at hP1
  exact kcaught (a := 0) (b := 8) (ha := 11) (sl := 1) B0.exec B0.bytes B0.returns B0.notSynchronized hown hts hT.2.2 hK hRO hB htab (by decide +kernel) hP1 hS1 hE hce hcv hcl (fun Q cells slots kk => lv_astore_n (k := 3) B0.exec B0.bytes dc13 rfl h0 (by decide) rfl (fun ls' _ => kk ls')) dc15 dc16
end KHL

section KWH
variable {p : Program} {l : Launch} {e : Env} {s : State} {m : MethodId} {below : List Frame} {meth : Method} {c : Code} {b L : Nat} {xs : Nat → Int32} {D : va_G} {dA : Nat → ClassId} {ra : Nat → Nat} {Q : State → Prop}
/-- the law's frame calls a helper -/
theorem kW_help (F : kFx p s m meth c b L xs D dA ra) (Z : kTs s.heap.size s s.heap) {y : MethodName} {bytes : ByteArray} {maxL ix n d pc cs ss : Nat} {hh : List (Nat × Nat × Nat × Nat)} {Lc : List (Option Value)} {as r : List Value} {ph ph2 : pm_H} {k : Int32}
    (hM : Met l y (Cond.codeWith y bytes maxL (some .int) hh :: kALL) (pm_rm d 1 6) (va_Pc (as.map (pm_u (pm_ad s.heap.size ra))) (kTI D dA s.heap.size ra ph)) (pm_Qc kK kcl knws kzs krs kaos krof "BonnetValley$State" D dA s.heap.size ra false (some (.int k), ph2, 1, 6)) 1 6 (fun q => s.heap.size ≤ q))
    (hlen : as.length = n) (hr8 : (r.map fun v => v.category).sum ≤ 8) (hdg : decode code pc = .ok (.invokestatic ix, 3)) (hcw : Cond.codeWith y bytes maxL (some .int) hh ∈ kALL) (hw1 : Cond.methodLink "BonnetValleyLaw" ix y ∈ kALL) (hw2 : Cond.static y ∈ kALL) (hw3 : Cond.initialized y.cls ∈ kALL) (hyd : y.cls ≠ "java/lang/invoke/MethodHandle" ∧ y.cls ≠ "java/lang/invoke/VarHandle" ∧ (parseMethodDescriptor y.desc).map (fun d => d.parameters.length) = some n) (hmax : maxL ≤ 100) (hd : d ≤ 600) (hc : cs + 1 ≤ 601024) (hs : ss + 6 ≤ 7293034)
    (kk : kW p l e s m below meth c b D dA ra false Q (pc + 3, Lc, .int k :: r, ph2, cs + 1, ss + 6)) : kW p l e s m below meth c b D dA ra false Q (pc, Lc, as.reverse ++ r, ph, cs, ss) := by
  intro H locs ls hP hS hz hl
  obtain ⟨⟨hx, hb, hr, hml, hown, hts, hX, hbl, hlocks, hgv⟩, h5, hK, hRO, hRO2⟩ := F
  have hw : ∀ w ∈ kALL, w.before #[Value.ref b] s = true := fun w h => hts w (List.mem_filter.mp h).1
  have S : CallFix p m c code c.maxLocals s #[Value.ref b] kALL "BonnetValleyLaw" := ⟨hx, hb, rfl, hown, hw⟩
  have hG : GoodIn kALL (va_wsS "BonnetValleyLaw" ix y (Cond.codeWith y bytes maxL (some .int) hh :: kALL)) := by
    intro w h
    refine kgood w ?_
    have h2 : w ∈ ([.methodLink "BonnetValleyLaw" ix y, .static y, .initialized y.cls] : List Cond) ++ (Cond.codeWith y bytes maxL (some .int) hh :: kALL) := h
    rcases List.mem_append.mp h2 with h3 | h3
    · rcases List.mem_cons.mp h3 with rfl | h4
      · exact hw1
      · rcases List.mem_cons.mp h4 with rfl | h5
        · exact hw2
        · rcases List.mem_cons.mp h5 with rfl | h6
          · exact hw3
          · cases h6
    · rcases List.mem_cons.mp h3 with rfl | h4
      · exact hcw
      · exact h4
  have cw := vx_cwSW (R := room_1) (s := s) (args := #[Value.ref b]) (own := "BonnetValleyLaw") (index := ix) (maxL := maxL) (bytes := bytes) (ret := some .int) (hh := hh) (rm := pm_rm d 1 6) (mc := 1) (ms := 6) n hw hG rfl rfl rfl hyd ⟨show d + 1 ≤ 2048 by omega, show 8 + (maxL + 11) + d * 128 ≤ 84000 by omega⟩
  have hp : PreS s H (va_Pc (as.map (pm_u (pm_ad s.heap.size ra))) (kTI D dA s.heap.size ra ph)) (as.map (pm_u (pm_ad s.heap.size ra))) := ⟨kTI_blind _, fun U hU hW => ⟨rfl, pm_In_of knwf hP hK (Nat.le_refl _) hS (fun h => by cases h) hRO hU hW, kTs_of Z hS hU hW⟩⟩
  have hstk : (as.reverse ++ r).map (pm_u (pm_ad s.heap.size ra)) = (as.map (pm_u (pm_ad s.heap.size ra))).reverse ++ r.map (pm_u (pm_ad s.heap.size ra)) := by
    rw [List.map_append, List.map_reverse]
  have hr9 := vx_runSW (R := room_1) (below := below) (l := l) (e := e) (meth := meth) (locs := locs) (cells := cs) (slots := ss) (g := F0 m pc ls ((as.reverse ++ r).map (pm_u (pm_ad s.heap.size ra)))) S hM cw hp rfl (by rw [List.length_map]; exact hlen) hl.1 hstk (lv_room (by rw [pm_u_sum]; exact hr8)) hdg ⟨hc, hs⟩
  refine pm_go (r := (some (.int k), ph2, 1, 6)) hr9 hS ?_
  intro H1 locs1 hP1 hS1 hz1
  exact kk H1 locs1 ls hP1 hS1 hz1 hl
/-- a stretch of the law's frame -/
theorem kW_se {al : Bool} {d : Nat} {x y : pm_S} (F : kFx p s m meth c b L xs D dA ra) (hd : d ≤ 600) (h : pm_Se (kK2 xs L) al (pm_Rd kK al d) 0 x y) (hc : y.2.2.2.2.1 ≤ 601024) (hs : y.2.2.2.2.2 ≤ 7293034) (kk : kW p l e s m below meth c b D dA ra al Q y) : kW p l e s m below meth c b D dA ra al Q x := by
  obtain ⟨n, hn⟩ := h
  exact kW_run F hd hn hc hs kk
end KWH
/-- the links of the law's helpers -/
def klo3 : List (List (Nat × pm_L)) := [[(7, 2, 129, 2, .ref 12), (15, 2, 130, 2, .ref 12)], [(18, 2, 180, 1, .ref 12)]]
noncomputable def klks3 : pm_Lks := klks ++ [("BonnetValleyLaw", klo3)]
theorem kl3_person : kLp "BonnetValleyLaw" (7, 2, 129, 2, .ref 12) := pm_lk2 (ci := 12) (T := kT_12) (N := 15) (Or.inl (kvin_ok (w := .methodLink "BonnetValleyLaw" 7 (kM 129).1) (by decide +kernel))) kPn_129 (kvin_ok (w := .instanceMethod (kM 129).1) (by decide +kernel)) (kvin_ok (w := .selects "BonnetValley" (kM 129).1 (kM 129).1) (by decide +kernel)) rfl
theorem kl3_thing : kLp "BonnetValleyLaw" (15, 2, 130, 2, .ref 12) := pm_lk2 (ci := 12) (T := kT_12) (N := 15) (Or.inl (kvin_ok (w := .methodLink "BonnetValleyLaw" 15 (kM 130).1) (by decide +kernel))) kPn_130 (kvin_ok (w := .instanceMethod (kM 130).1) (by decide +kernel)) (kvin_ok (w := .selects "BonnetValley" (kM 130).1 (kM 130).1) (by decide +kernel)) rfl
theorem kl3_row : kLp "BonnetValleyLaw" (18, 2, 180, 1, .ref 12) := pm_lk2 (ci := 12) (T := kT_12) (N := 15) (Or.inl (kvin_ok (w := .methodLink "BonnetValleyLaw" 18 (kM 180).1) (by decide +kernel))) kPn_180 (kvin_ok (w := .instanceMethod (kM 180).1) (by decide +kernel)) (kvin_ok (w := .selects "BonnetValley" (kM 180).1 (kM 180).1) (by decide +kernel)) rfl
theorem klA3 : ∀ c ∈ klo3, ∀ q ∈ c, kLp "BonnetValleyLaw" q := List.forall_mem_cons.mpr ⟨List.forall_mem_cons.mpr ⟨kl3_person, List.forall_mem_cons.mpr ⟨kl3_thing, fun _ h => absurd h List.not_mem_nil⟩⟩, List.forall_mem_cons.mpr ⟨List.forall_mem_cons.mpr ⟨kl3_row, fun _ h => absurd h List.not_mem_nil⟩, fun _ h => absurd h List.not_mem_nil⟩⟩
noncomputable def kK3 (y : MethodName) (bytes : ByteArray) (ml na : Nat) (rows : List (List (Nat × Nat × Instr × Nat))) : pm_K := pm_mkK [[((y, bytes, ml, (Option.some Jvm.ClassFile.FieldType.int)), 23, (na, ml, 1), rows)]] klks3 kra kro knw kft 10
section KN3
variable {y : MethodName} {bytes : ByteArray} {ml na : Nat} {rows : List (List (Nat × Nat × Instr × Nat))}
theorem kRO3 {ad : Nat → Nat} {A : Nat → Prop} {U : State} {H : Heap} (h : pm_RO kzs krs kaos knws kK krof ad A U H) : pm_RO kzs krs kaos knws (kK3 y bytes ml na rows) krof ad A U H := by
  obtain ⟨h1, h2, h3, h4, h5, h6⟩ := h
  have e1 : pm_ro (kK3 y bytes ml na rows) = pm_ro kK := Eq.trans (show pm_ro (kK3 y bytes ml na rows) = kro from rfl) (show kro = pm_ro kK from rfl)
  have e2 : pm_ra (kK3 y bytes ml na rows) = pm_ra kK := Eq.trans (show pm_ra (kK3 y bytes ml na rows) = kra from rfl) (show kra = pm_ra kK from rfl)
  have e3 : ∀ a, pm_rat (kK3 y bytes ml na rows) a = pm_rat kK a := fun a => by
    unfold pm_rat
    rw [e2]
  exact ⟨h1, h2, fun a t n f hf => h3 a t n f (by rw [← e3]; exact hf), by rw [e1]; exact h4, h5, h6⟩
theorem kocd3 (hok : ∀ c ∈ rows, ∀ q ∈ c, decode bytes q.1 = .ok (q.2.2.1, pm_len q.2.2.1 q.2.2.2) ∧ pm_tokB q.2.2.1 q.1 q.2.2.2 = true ∧ pm_npf q.2.2.1 = true ∧ Nat.beq q.2.1 8 = false) : ∀ pc g ins aux, pm_code (kK3 y bytes ml na rows) 0 pc = some (g, ins, aux) → decode bytes pc = .ok (ins, pm_len ins aux) ∧ pm_tok ins pc aux ∧ (∀ i, ins ≠ .putfield i) ∧ g ≠ 8 := by
  intro pc g ins aux h
  have h1 : pm_tl rows pc = some (g, ins, aux) := h
  obtain ⟨c, hc, hq⟩ := pm_tl_mem h1
  obtain ⟨g1, g2, g3, g4⟩ := hok c hc _ hq
  exact ⟨g1, pm_tokB_ok g2, (fun i e => by subst e; cases g3), (fun e => by subst e; cases g4)⟩
theorem kolk3 : ∀ i kd a b v, pm_lnk (kK3 y bytes ml na rows) (pm_own (kK3 y bytes ml na rows) 0) i = some (kd, a, b, v) → pm_lk (kK3 y bytes ml na rows) kM kcl kALL knws kzs krs kaos krof "BonnetValleyLaw" i kd a b v := by
  intro i kd a b v h
  have h1 : pm_tl klo3 i = some (kd, a, b, v) := h
  obtain ⟨c, hc, hq⟩ := pm_tl_mem h1
  have h2 := klA3 c hc _ hq
  unfold kLp pm_lk at h2
  unfold pm_lk
  exact h2
theorem kck3 : pm_ck (kK3 y bytes ml na rows) kcl kALL := by
  have h := kck
  unfold pm_ck at h ⊢
  exact h
variable {D : va_G} {dA : Nat → ClassId} {B : Nat} {ra : Nat → Nat} {ph ph2 : pm_H}
/-- a helper whose call answers -/
theorem knorm (l : Launch) {as : List Value} {hh : List (Nat × Nat × Nat × Nat)} {d pc : Nat} {L : List (Option Value)} (hy : plainName y.cls = true) (hycls : y.cls = "BonnetValleyLaw") (hok : ∀ c ∈ rows, ∀ q ∈ c, decode bytes q.1 = .ok (q.2.2.1, pm_len q.2.2.1 q.2.2.2) ∧ pm_tokB q.2.2.1 q.1 q.2.2.2 = true ∧ pm_npf q.2.2.1 = true ∧ Nat.beq q.2.1 8 = false) (hent : pm_entB (kK3 y bytes ml na rows) 0 as = true) (hn : pm_Se (kK3 y bytes ml na rows) false (pm_Rd kK false d) 0 (pm_ent (kK3 y bytes ml na rows) 0 as ph) (pc, L, [.int (Int32.ofInt 0)], ph2, 0, 0)) (dcE : decode bytes pc = .ok (.ireturn, 1)) :
    Met l y (Cond.codeWith y bytes ml (some .int) hh :: kALL) (pm_rm (d + 1) 1 6) (va_Pc (as.map (pm_u (pm_ad B ra))) (kTI D dA B ra ph)) (pm_Qc kK kcl knws kzs krs kaos krof "BonnetValley$State" D dA B ra false (some (.int (Int32.ofInt 0)), ph2, 1, 6)) 1 6 (fun q => B ≤ q) := by
  obtain ⟨n, hn⟩ := hn
  refine kMet_ofWH hy rfl ?_
  intro p e s m args below meth c s₁ B0 hml hv
  obtain ⟨rfl, ⟨hP, hK, hB, hz, hRO⟩, hT⟩ := hv
  have hts0 := atoms_spec (ws := Cond.codeWith y bytes ml (some .int) hh :: kALL) B0.pre
  have hts : ∀ w ∈ kALL, w.before _ s = true := fun w hw => hts0 w (List.mem_cons_of_mem _ hw)
  have hown : s.vm.findClass "BonnetValleyLaw" = some m.cls := by rw [← hycls]; exact findClass_of_methodNamed B0.named
  rw [lg_entry_eq]
  have hl2 := pm_ent_lr (ad := pm_ad B ra) hent
  have hl3 : pm_lr (pm_ad B ra) ((lg_sl (as.map (pm_u (pm_ad B ra))) ++ List.replicate (ml - (lg_sl (as.map (pm_u (pm_ad B ra)))).length) Slot.unset).toArray) c.maxLocals (pm_ent (kK3 y bytes ml na rows) 0 as ph).2.1 := by
    rw [hml]
    exact hl2
  refine pm_S_ok (K2 := kK3 y bytes ml na rows) (own := "BonnetValleyLaw") (R := pm_rm (d + 1) 1 6) (d := d) kok (pm_sound kok l d) B0.exec B0.bytes hown hts (kocd3 hok) kolk3 kck3 kE hK hRO (kRO3 hRO) hB (Nat.le_refl _) (by show d * 128 + 128 ≤ (d + 1) * 128; omega) n _ _ hn (Nat.zero_le _) (Nat.zero_le _) s.heap [] _ hP va_S.rf hz hl3 ?_
  intro H1 locs1 ls1 hP1 hS1 hz1 hl1
  refine W.widen (k := 1) (n := 6) (Nat.zero_le _) (Nat.zero_le _) ?_
  refine W.iret B0.exec B0.bytes B0.returns (fun t ht hW => ⟨rfl, pm_In_of knwf hP1 hK hB hS1 (fun h => by cases h) hRO ht hW, ?_⟩) hS1.2.2 dcE B0.notSynchronized
  exact ⟨by rw [ht]; exact hS1.1, fun q h1 h2 => by rw [ht]; exact hS1.2.1 q h1 h2⟩
end KN3
/-- the law's array of one long -/
theorem kout {m : Int} {w : Nat} {ph : pm_H} (hP : xH xX kK m w ph) (y : Int64) : ∃ l : List Int64, pm_at ph 201 = some (.inl (2, .inr (.inl l))) ∧ 0 < l.length ∧ xH xX kK m w (ph.set 201 (.inl (2, .inr (.inl (l.set 0 y))))) ∧ xu0 ph (ph.set 201 (.inl (2, .inr (.inl (l.set 0 y))))) 201 := by
  obtain ⟨s, t, h4, -, h3⟩ := hP 201 87 rfl
  obtain ⟨t0, ht⟩ : ∃ t0, xkt 87 = some (some 201, .inl (2, 1, t0)) := ⟨_, rfl⟩
  rw [show xX.2.1 87 = xkt 87 from rfl, ht] at h4
  cases h4
  obtain ⟨l, hat, hlen⟩ := h3
  have hat2 : pm_at (ph.set 201 (.inl (2, .inr (.inl (l.set 0 y))))) 201 = some (.inl (2, .inr (.inl (l.set 0 y)))) := xat_self hat
  refine ⟨l, hat, by omega, xH_set (t := .inl (2, 1, t0)) hP rfl ht ⟨_, hat2, by rw [List.length_set]; exact hlen⟩, ?_, fun b eb => xat_ne eb⟩
  intro b c
  by_cases eb : b = 201
  · subst eb
    unfold xget
    rw [hat2, hat]
    rfl
  · exact xget_ne eb
theorem ki0 : (Int32.ofInt 0).toInt = 0 := by decide
theorem klas {K : pm_K} {al : Bool} {mj pc c s : Nat} {aux : Nat} {y : Int64} {L : List (Option Value)} {st : List Value} {ph : pm_H} {l : List Int64} (hc : pm_code K mj pc = some (5, .lastore, aux)) (hat : pm_at ph 201 = some (.inl (2, .inr (.inl l)))) (hl : 0 < l.length) : pm_step K al mj (pc, L, .long y :: .int (Int32.ofInt 0) :: .ref 201 :: st, ph, c, s) = some (.inl (pc + 1, L, st, ph.set 201 (.inl (2, .inr (.inl (l.set 0 y)))), c, s)) := ks5 (c1 := 0) (s1 := 0) hc (by
  have e := xup_eq (l := l) (i := Int32.ofInt 0) (x := y) (by rw [ki0]; exact Int.le_refl _) (by rw [ki0]; exact hl)
  rw [ki0] at e
  unfold pm_mem
  simp only [hat, e]
  rfl)
noncomputable def kR_person : List (List (Nat × Nat × Instr × Nat)) := [[(0, 2, .aload_n kF3, 0), (1, 0, .iconst 0, 0), (2, 2, .aload_n kF0, 0), (3, 2, .iload_n kF1, 0), (4, 2, .iload_n kF2, 0), (5, 6, .invokevirtual 7, 0), (8, 0, .i2l, 0), (9, 5, .lastore, 0), (10, 4, .goto 7, 17)], [(17, 0, .iconst 0, 0), (18, 7, .ireturn, 0)]]
theorem kRo_person : ∀ c ∈ kR_person, ∀ q ∈ c, decode method_3_code q.1 = .ok (q.2.2.1, pm_len q.2.2.1 q.2.2.2) ∧ pm_tokB q.2.2.1 q.1 q.2.2.2 = true ∧ pm_npf q.2.2.1 = true ∧ Nat.beq q.2.1 8 = false := by decide +kernel
theorem kRc_person {pc : Nat} {e : Nat × Instr × Nat} (h : pm_tl kR_person pc = some e) : pm_code (kK3 (⟨"BonnetValleyLaw", "person", "(LBonnetValley;II[J)I"⟩ : MethodName) method_3_code 5 4 kR_person) 0 pc = some e := h
theorem kRr_person {m : Int} {w d : Nat} {p q : Int32} {r : Int32} {ph ph1 : pm_H} {fl : List Value} {l : List Int64} (hat : pm_at ph 0 = some (.inr (12, fl))) (h : pm_Rd kK false d 129 [.ref 0, .int p, .int q] ph (some (.int r), ph1, 0, 0)) (h2 : pm_at ph1 201 = some (.inl (2, .inr (.inl l)))) (h3 : 0 < l.length) : pm_Se (kK3 (⟨"BonnetValleyLaw", "person", "(LBonnetValley;II[J)I"⟩ : MethodName) method_3_code 5 4 kR_person) false (pm_Rd kK false d) 0 (pm_ent (kK3 (⟨"BonnetValleyLaw", "person", "(LBonnetValley;II[J)I"⟩ : MethodName) method_3_code 5 4 kR_person) 0 [.ref 0, .int p, .int q, .ref 201] ph) (18, [some (.ref 0), some (.int p), some (.int q), some (.ref 201), none], [.int (Int32.ofInt 0)], ph1.set 201 (.inl (2, .inr (.inl (l.set 0 (r.toInt64))))), 0, 0) := by
  show pm_Se (kK3 (⟨"BonnetValleyLaw", "person", "(LBonnetValley;II[J)I"⟩ : MethodName) method_3_code 5 4 kR_person) false (pm_Rd kK false d) 0 (0, [some (.ref 0), some (.int p), some (.int q), some (.ref 201), none], [], ph, 0, 0) _
  refine .step (ks2 (n := 1) (v := .ref 201) (kRc_person (e := (2, .aload_n kF3, 0)) rfl) rfl) ?_
  refine .step (ks0 (st' := [.int (Int32.ofInt 0), .ref 201]) (kRc_person (e := (0, .iconst 0, 0)) rfl) rfl) ?_
  refine .step (ks2 (n := 1) (v := .ref 0) (kRc_person (e := (2, .aload_n kF0, 0)) rfl) rfl) ?_
  refine .step (ks2 (n := 1) (v := .int p) (kRc_person (e := (2, .iload_n kF1, 0)) rfl) rfl) ?_
  refine .step (ks2 (n := 1) (v := .int q) (kRc_person (e := (2, .iload_n kF2, 0)) rfl) rfl) ?_
  refine .call (j := 129) (as := [.ref 0, .int p, .int q]) (v := some (.int r)) (ph' := ph1) (c1 := 0) (s1 := 0) (ks6 (r0 := [.int (Int32.ofInt 0), .ref 201]) (kRc_person (e := (6, .invokevirtual 7, 0)) rfl) (xinvV (j := 129) (n := 2) (ci := 12) rfl rfl hat rfl rfl)) h ?_
  refine .step (ks0 (st' := [.long r.toInt64, .int (Int32.ofInt 0), .ref 201]) (kRc_person (e := (0, .i2l, 0)) rfl) rfl) ?_
  refine .step (klas (kRc_person (e := (5, .lastore, 0)) rfl) h2 h3) ?_
  refine .step (ks4 (pc' := 17) (st' := []) (kRc_person (e := (4, .goto 7, 17)) rfl) rfl) ?_
  exact .step (ks0 (st' := [.int (Int32.ofInt 0)]) (kRc_person (e := (0, .iconst 0, 0)) rfl) rfl) .rf
noncomputable def kR_thing : List (List (Nat × Nat × Instr × Nat)) := [[(0, 2, .aload_n kF3, 0), (1, 0, .iconst 0, 0), (2, 2, .aload_n kF0, 0), (3, 2, .iload_n kF1, 0), (4, 2, .iload_n kF2, 0), (5, 6, .invokevirtual 15, 0), (8, 0, .i2l, 0), (9, 5, .lastore, 0), (10, 4, .goto 7, 17)], [(17, 0, .iconst 0, 0), (18, 7, .ireturn, 0)]]
theorem kRo_thing : ∀ c ∈ kR_thing, ∀ q ∈ c, decode method_4_code q.1 = .ok (q.2.2.1, pm_len q.2.2.1 q.2.2.2) ∧ pm_tokB q.2.2.1 q.1 q.2.2.2 = true ∧ pm_npf q.2.2.1 = true ∧ Nat.beq q.2.1 8 = false := by decide +kernel
theorem kRc_thing {pc : Nat} {e : Nat × Instr × Nat} (h : pm_tl kR_thing pc = some e) : pm_code (kK3 (⟨"BonnetValleyLaw", "thing", "(LBonnetValley;II[J)I"⟩ : MethodName) method_4_code 5 4 kR_thing) 0 pc = some e := h
theorem kRr_thing {m : Int} {w d : Nat} {p q : Int32} {r : Int32} {ph ph1 : pm_H} {fl : List Value} {l : List Int64} (hat : pm_at ph 0 = some (.inr (12, fl))) (h : pm_Rd kK false d 130 [.ref 0, .int p, .int q] ph (some (.int r), ph1, 0, 0)) (h2 : pm_at ph1 201 = some (.inl (2, .inr (.inl l)))) (h3 : 0 < l.length) : pm_Se (kK3 (⟨"BonnetValleyLaw", "thing", "(LBonnetValley;II[J)I"⟩ : MethodName) method_4_code 5 4 kR_thing) false (pm_Rd kK false d) 0 (pm_ent (kK3 (⟨"BonnetValleyLaw", "thing", "(LBonnetValley;II[J)I"⟩ : MethodName) method_4_code 5 4 kR_thing) 0 [.ref 0, .int p, .int q, .ref 201] ph) (18, [some (.ref 0), some (.int p), some (.int q), some (.ref 201), none], [.int (Int32.ofInt 0)], ph1.set 201 (.inl (2, .inr (.inl (l.set 0 (r.toInt64))))), 0, 0) := by
  show pm_Se (kK3 (⟨"BonnetValleyLaw", "thing", "(LBonnetValley;II[J)I"⟩ : MethodName) method_4_code 5 4 kR_thing) false (pm_Rd kK false d) 0 (0, [some (.ref 0), some (.int p), some (.int q), some (.ref 201), none], [], ph, 0, 0) _
  refine .step (ks2 (n := 1) (v := .ref 201) (kRc_thing (e := (2, .aload_n kF3, 0)) rfl) rfl) ?_
  refine .step (ks0 (st' := [.int (Int32.ofInt 0), .ref 201]) (kRc_thing (e := (0, .iconst 0, 0)) rfl) rfl) ?_
  refine .step (ks2 (n := 1) (v := .ref 0) (kRc_thing (e := (2, .aload_n kF0, 0)) rfl) rfl) ?_
  refine .step (ks2 (n := 1) (v := .int p) (kRc_thing (e := (2, .iload_n kF1, 0)) rfl) rfl) ?_
  refine .step (ks2 (n := 1) (v := .int q) (kRc_thing (e := (2, .iload_n kF2, 0)) rfl) rfl) ?_
  refine .call (j := 130) (as := [.ref 0, .int p, .int q]) (v := some (.int r)) (ph' := ph1) (c1 := 0) (s1 := 0) (ks6 (r0 := [.int (Int32.ofInt 0), .ref 201]) (kRc_thing (e := (6, .invokevirtual 15, 0)) rfl) (xinvV (j := 130) (n := 2) (ci := 12) rfl rfl hat rfl rfl)) h ?_
  refine .step (ks0 (st' := [.long r.toInt64, .int (Int32.ofInt 0), .ref 201]) (kRc_thing (e := (0, .i2l, 0)) rfl) rfl) ?_
  refine .step (klas (kRc_thing (e := (5, .lastore, 0)) rfl) h2 h3) ?_
  refine .step (ks4 (pc' := 17) (st' := []) (kRc_thing (e := (4, .goto 7, 17)) rfl) rfl) ?_
  exact .step (ks0 (st' := [.int (Int32.ofInt 0)]) (kRc_thing (e := (0, .iconst 0, 0)) rfl) rfl) .rf
noncomputable def kR_row : List (List (Nat × Nat × Instr × Nat)) := [[(0, 2, .aload_n kF2, 0), (1, 0, .iconst 0, 0), (2, 2, .aload_n kF0, 0), (3, 2, .iload_n kF1, 0), (4, 6, .invokevirtual 18, 0), (7, 5, .lastore, 0), (8, 4, .goto 6, 14), (14, 0, .iconst 0, 0), (15, 7, .ireturn, 0)]]
theorem kRo_row : ∀ c ∈ kR_row, ∀ q ∈ c, decode method_5_code q.1 = .ok (q.2.2.1, pm_len q.2.2.1 q.2.2.2) ∧ pm_tokB q.2.2.1 q.1 q.2.2.2 = true ∧ pm_npf q.2.2.1 = true ∧ Nat.beq q.2.1 8 = false := by decide +kernel
theorem kRc_row {pc : Nat} {e : Nat × Instr × Nat} (h : pm_tl kR_row pc = some e) : pm_code (kK3 (⟨"BonnetValleyLaw", "row", "(LBonnetValley;I[J)I"⟩ : MethodName) method_5_code 4 3 kR_row) 0 pc = some e := h
theorem kRr_row {m : Int} {w d : Nat} {p : Int32} {r : Int64} {ph ph1 : pm_H} {fl : List Value} {l : List Int64} (hat : pm_at ph 0 = some (.inr (12, fl))) (h : pm_Rd kK false d 180 [.ref 0, .int p] ph (some (.long r), ph1, 0, 0)) (h2 : pm_at ph1 201 = some (.inl (2, .inr (.inl l)))) (h3 : 0 < l.length) : pm_Se (kK3 (⟨"BonnetValleyLaw", "row", "(LBonnetValley;I[J)I"⟩ : MethodName) method_5_code 4 3 kR_row) false (pm_Rd kK false d) 0 (pm_ent (kK3 (⟨"BonnetValleyLaw", "row", "(LBonnetValley;I[J)I"⟩ : MethodName) method_5_code 4 3 kR_row) 0 [.ref 0, .int p, .ref 201] ph) (15, [some (.ref 0), some (.int p), some (.ref 201), none], [.int (Int32.ofInt 0)], ph1.set 201 (.inl (2, .inr (.inl (l.set 0 (r))))), 0, 0) := by
  show pm_Se (kK3 (⟨"BonnetValleyLaw", "row", "(LBonnetValley;I[J)I"⟩ : MethodName) method_5_code 4 3 kR_row) false (pm_Rd kK false d) 0 (0, [some (.ref 0), some (.int p), some (.ref 201), none], [], ph, 0, 0) _
  refine .step (ks2 (n := 1) (v := .ref 201) (kRc_row (e := (2, .aload_n kF2, 0)) rfl) rfl) ?_
  refine .step (ks0 (st' := [.int (Int32.ofInt 0), .ref 201]) (kRc_row (e := (0, .iconst 0, 0)) rfl) rfl) ?_
  refine .step (ks2 (n := 1) (v := .ref 0) (kRc_row (e := (2, .aload_n kF0, 0)) rfl) rfl) ?_
  refine .step (ks2 (n := 1) (v := .int p) (kRc_row (e := (2, .iload_n kF1, 0)) rfl) rfl) ?_
  refine .call (j := 180) (as := [.ref 0, .int p]) (v := some (.long r)) (ph' := ph1) (c1 := 0) (s1 := 0) (ks6 (r0 := [.int (Int32.ofInt 0), .ref 201]) (kRc_row (e := (6, .invokevirtual 18, 0)) rfl) (xinvV (j := 180) (n := 1) (ci := 12) rfl rfl hat rfl rfl)) h ?_
  refine .step (klas (kRc_row (e := (5, .lastore, 0)) rfl) h2 h3) ?_
  refine .step (ks4 (pc' := 14) (st' := []) (kRc_row (e := (4, .goto 6, 14)) rfl) rfl) ?_
  exact .step (ks0 (st' := [.int (Int32.ofInt 0)]) (kRc_row (e := (0, .iconst 0, 0)) rfl) rfl) .rf
