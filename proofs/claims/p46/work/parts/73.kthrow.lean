/-! The three calls that throw: the callee's contract, the law's helper's, the law's frame -/
def kNSE : String := "java/util/NoSuchElementException"
def kNN : List String := ["java/lang/RuntimeException", "java/lang/Exception"]
def kvin (w : Cond) : Bool := goodWord w && (tables_1_6.any (fun v => decide (v = w)) || (tables_1_5.any (fun v => decide (v = w)) || (tables_1_1.any (fun v => decide (v = w)) || tables_1_9.any (fun v => decide (v = w)))))
theorem kvin_any {l : List Cond} {w : Cond} (h : l.any (fun v => decide (v = w)) = true) : w ∈ l := by
  obtain ⟨v, hv, e⟩ := List.any_eq_true.mp h
  have e2 : v = w := of_decide_eq_true e
  rw [← e2]
  exact hv
theorem kvin_ok {w : Cond} (h : kvin w = true) : w ∈ kALL := by
  obtain ⟨g, h2⟩ := pm_and h
  rcases Bool.or_eq_true_iff.mp h2 with h3 | h3
  · obtain ⟨n, hn⟩ := List.getElem?_of_mem (kvin_any h3)
    exact kin_6 (n := n) ⟨hn, g⟩
  · rcases Bool.or_eq_true_iff.mp h3 with h4 | h4
    · obtain ⟨n, hn⟩ := List.getElem?_of_mem (kvin_any h4)
      exact kin_5 (n := n) ⟨hn, g⟩
    · rcases Bool.or_eq_true_iff.mp h4 with h5 | h5
      · obtain ⟨n, hn⟩ := List.getElem?_of_mem (kvin_any h5)
        exact kin_1 (n := n) ⟨hn, g⟩
      · obtain ⟨n, hn⟩ := List.getElem?_of_mem (kvin_any h5)
        exact kin_9 (n := n) ⟨hn, g⟩
def kvxL : List Cond := Cond.classLink "BonnetValley" 170 kNSE :: Cond.initialized kNSE :: vx_at0 "BonnetValley" 172 kNSE kNN
theorem kvx_b : (kvxL.filter goodWord).all kvin = true := by decide +kernel
theorem kvx_o : kvxL.all vx_ot = true := by decide +kernel
def kvxB : List Cond := [.castable kNSE kNSE, .declares ⟨"java/lang/RuntimeException", "<init>", "()V"⟩, .declares ⟨"java/lang/Exception", "<init>", "()V"⟩, .declares ⟨"java/lang/Throwable", "<init>", "()V"⟩]
theorem kvx_n : ∀ w ∈ kvxL.filter (fun w => !goodWord w), w ∈ kvxB := fun w hw => kvin_any (List.all_eq_true.mp (by decide +kernel : (kvxL.filter (fun w => !goodWord w)).all (fun w => kvxB.any (fun v => decide (v = w))) = true) w hw)
theorem kvxB_t : ∀ w ∈ kvxB, w.onTables = true := fun w hw => List.all_eq_true.mp (by decide +kernel : kvxB.all (fun w => w.onTables) = true) w hw
/-- words that a warmer machine keeps -/
def kvxN (U : State) : Prop := ∀ w ∈ kvxB, va_Nw w U
theorem kvxN_d {x : MethodName} {s U : State} (hW : s.WarmedH U.vm) (hZ : va_Nw (.declares x) s) : va_Nw (.declares x) U := va_tabs rfl (rfl : (s.setVm U.vm).vm = U.vm) (by rw [Cond.declares_setVm hW.alike]; exact hZ)
theorem kvxN_w {s U : State} (hW : s.WarmedH U.vm) (h : kvxN s) : kvxN U := by
  intro w hw
  rcases List.mem_cons.mp hw with rfl | h1
  · exact va_Nw.warmC hW (h _ hw)
  · rcases List.mem_cons.mp h1 with rfl | h2
    · exact kvxN_d hW (h _ hw)
    · rcases List.mem_cons.mp h2 with rfl | h3
      · exact kvxN_d hW (h _ hw)
      · rcases List.mem_cons.mp h3 with rfl | h4
        · exact kvxN_d hW (h _ hw)
        · cases h4
theorem kvx_all {args : Array Value} {s : State} (hts : ∀ w ∈ kALL, w.before args s = true) (hC : kvxN s) : ∀ w ∈ kvxL, w.before args s = true := vx_hat (B := kvxB) (fun w hw => hts _ (kvin_ok (List.all_eq_true.mp kvx_b w hw))) kvx_n (fun w hw => va_Nw.use (kvxB_t w hw) (hC w hw))
/-- the two statics of Throwable -/
def kTs (B : Nat) (U : State) (H : Heap) : Prop := vx_Zq Bundle.tN "UNASSIGNED_STACK" Bundle.steD (fun q => B ≤ q) U H ∧ vx_Zq Bundle.tN "SUPPRESSED_SENTINEL" Bundle.listD (fun q => B ≤ q) U H ∧ kvxN U
def kTI (D : va_G) (dA : Nat → ClassId) (B : Nat) (ra : Nat → Nat) (ph : pm_H) (U : State) : Prop := pm_In kK kcl knws kzs krs kaos krof "BonnetValley$State" D dA B ra false ph U ∧ kTs B U U.heap
noncomputable def kTX (D : va_G) (dA : Nat → ClassId) (B : Nat) (ra : Nat → Nat) (ph : pm_H) : String → State → State → Prop := vx_X (S := Unit) (fun _ => True) (fun E _ t => E = kNSE ∧ va_P D kcl (pm_ws (pm_ad B ra) dA B ph) t.heap) (fun q => B ≤ q)
section KTH
variable {D : va_G} {dA : Nat → ClassId} {B : Nat} {ra : Nat → Nat} {ph : pm_H}
theorem kTI_blind (as : List Value) : FrameBlind (va_Pc as (kTI D dA B ra ph)) := fun a U g mk q => ⟨q.1, pm_In_same (u := U) (U := U.calling g mk a) knwf rfl rfl q.2.1, vx_Zq.moved (Vm.Alike.refl _) q.2.2.1, vx_Zq.moved (Vm.Alike.refl _) q.2.2.2.1, kvxN_w (s := U) (show U.WarmedH U.vm from State.WarmedH.refl U) q.2.2.2.2⟩
theorem kTs_of {s U : State} {H : Heap} {locs : List Loc} (h : kTs B s s.heap) (hS : va_S (fun q => B ≤ q) s.heap H locs) (hU : U.heap = H) (hW : s.WarmedH U.vm) : kTs B U U.heap := by
  rw [hU]
  exact ⟨vx_Zq.moved hW.alike (h.1.kept hS.2.1), vx_Zq.moved hW.alike (h.2.1.kept hS.2.1), kvxN_w hW h.2.2⟩
/-- a method that throws at once -/
theorem kthrow (l : Launch) (hl : l.stackTraces = false) {d n mj pc : Nat} {as : List Value} {L : List (Option Value)} {Qc : Array Value → State → Outcome → State → Prop} (hent : pm_entB kK mj as = true) (hn : pm_Sn kK false (pm_Rd kK false d) mj n (pm_ent kK mj as ph) (pc, L, [], ph, 0, 0)) (hd : 6 ≤ d) (hcode : ∃ q, pm_code kK mj 0 = some q) (hcls : (kM mj).1.cls = "BonnetValley")
    (hnp : ∀ pc g ins aux, pm_code kK mj pc = some (g, ins, aux) → (∀ i, ins ≠ .putfield i) ∧ g ≠ 8) (d0 : decode (kM mj).2.1 pc = .ok (.new 170, 3)) (d3 : decode (kM mj).2.1 (pc + 3) = .ok (.dup, 1)) (d4 : decode (kM mj).2.1 (pc + 4) = .ok (.invokespecial 172, 3)) (d7 : decode (kM mj).2.1 (pc + 7) = .ok (.athrow, 1)) :
    vx_Met l (kM mj).1 (pm_wds kM kALL mj) (pm_rm (d + 1) 1 6) (va_Pc (as.map (pm_u (pm_ad B ra))) (kTI D dA B ra ph)) Qc (kTX D dA B ra ph) 1 6 (fun q => B ≤ q) := by
  obtain ⟨olk, ock, obs, onw, oG, oE, ocd, omk⟩ := kok
  obtain ⟨q0, hq0⟩ := hcode
  obtain ⟨m1, m2, m3, m4, m5, m6, m7, m8, m9⟩ := omk.1 mj q0 hq0
  refine vx_ofW (cc := (kM mj).2.1) (maxL := (kM mj).2.2.1) (ret := (kM mj).2.2.2) m1 rfl ?_
  intro p e s m args below meth c s₁ B0 hml hex hv
  obtain ⟨rfl, ⟨hP, hK, hB, hz, hRO⟩, hU, hN, hC⟩ := hv
  have hts0 := atoms_spec (ws := pm_wds kM kALL mj) B0.pre
  have hts : ∀ w ∈ kALL, w.before _ s = true := fun w hw => hts0 w (List.mem_cons_of_mem _ hw)
  have hown : s.vm.findClass (pm_cn klks (pm_own kK mj)) = some m.cls := by rw [m9]; exact findClass_of_methodNamed B0.named
  have hown9 : s.vm.findClass "BonnetValley" = some m.cls := by rw [← hcls]; exact findClass_of_methodNamed B0.named
  rw [lg_entry_eq, m6]
  have hl2 := pm_ent_lr (ad := pm_ad B ra) hent
  rw [← m6, ← hml] at hl2
  rw [← m6, ← hml]
  refine pm_S_ok (R := pm_rm (d + 1) 1 6) (d := d) kok (pm_sound kok l d) B0.exec B0.bytes hown hts (fun pc g ins aux h => ⟨(ocd _ _ _ _ _ h).1, (ocd _ _ _ _ _ h).2.1, hnp pc g ins aux h⟩) (fun i kd a b v h => olk _ i kd a b v h) ock oE hK hRO hRO hB (Nat.le_refl _) (by show d * 128 + 128 ≤ (d + 1) * 128; omega) n _ _ hn (Nat.zero_le _) (Nat.zero_le _) s.heap [] _ hP va_S.rf hz (by
      have e9 : pm_lr (pm_ad B ra) _ c.maxLocals (pm_sl as ++ List.replicate (c.maxLocals - (pm_sl as).length) none) := hl2
      show pm_lr (pm_ad B ra) _ c.maxLocals (pm_sl as ++ List.replicate ((pm_sig kK mj).2.1 - (pm_sl as).length) none)
      rw [← m6, ← hml]
      exact e9) ?_
  intro H1 locs1 ls1 hP1 hS1 hz1 hl1
  have hall := kvx_all hts hC
  have hgood : ∀ w ∈ kvxL, vx_ot w = true := fun w hw => List.all_eq_true.mp kvx_o w hw
  refine vx_throw0 (R := pm_rm (d + 1) 1 6) (names := kNN) (cls := kNSE) (own := "BonnetValley") (ik := 170) (ic := 172) (A := fun q => B ≤ q) (rest := []) B0.exec B0.bytes hl hown9 (by decide +kernel) (by decide +kernel) (hall _ List.mem_cons_self) (hall _ (List.mem_cons_of_mem _ List.mem_cons_self)) (fun w hw => hall _ (List.mem_cons_of_mem _ (List.mem_cons_of_mem _ hw))) hgood hU hN hS1 hl1.1 d0 d3 d4 d7 (fun x hx => (hex x hx).elim) (by show 2 + 3 < d + 1; omega) (by show 0 + (13 * (2 + 1) + 42) ≤ (d + 1) * 128; omega) (Nat.le_refl 1) (Nat.le_refl 6) B0.notSynchronized ?_ hS1.2.2 (Nat.le_refl 1) (Nat.le_refl 6)
  intro t hal hsz hq
  refine ⟨(), trivial, ⟨rfl, va_P.kept hP1 (fun k q hk => hq _ (vx_lt hP1 hk))⟩, Nat.le_trans hS1.1 hsz, fun q h1 h2 => ?_⟩
  rw [hq q (Nat.lt_of_lt_of_le h1 hS1.1)]
  exact hS1.2.1 q h1 h2
/-- a body with a table that returns -/
theorem kMet_ofWH {l : Launch} {y : MethodName} {ws ws' : List Cond} {rm : Room} {Pc : Array Value → State → Prop} {Qc : Array Value → State → Outcome → State → Prop} {mc ms : Nat} {free : Addr → Prop} {cc : ByteArray} {maxL : Nat} {ret : Option FieldType} {hh : List (Nat × Nat × Nat × Nat)} (hy : plainName y.cls = true) (hw : ws = Cond.codeWith y cc maxL ret hh :: ws')
    (body : ∀ p e s m args below meth c s₁, BodyLoose p l y (headSpec ws rm) cc maxL ret e s m args below meth c s₁ → c.maxLocals = maxL → Pc args s → W p l e (headSpec ws rm).room s m args below meth c s.heap [] 0 0 (MQ below Qc args s mc ms free) (entryFrame m args maxL)) : Met l y ws rm Pc Qc mc ms free := by
  refine MetFree.of_bodyS (code := cc) (maxLocals := maxL) (ret := ret) hy ?_ ?_
  · intro args s m h hn
    obtain ⟨m9, meth, c, hn9, h1, h2, h3, h4, -, h5, h6, -⟩ := Cond.codeWith_spec (atoms_spec (ws := ws) h _ (by rw [hw]; exact List.mem_cons_self))
    cases hn.symm.trans hn9
    exact ⟨meth, c, h1, h2, h3, h4, h5, h6⟩
  · intro p e s m args below meth c s₁ B hml hP _
    have hh0 : s₁.heap = s.heap := by rw [B.state]; rfl
    obtain ⟨t, a1, o, b1, b2, b3⟩ := body p e s m args below meth c s₁ B hml hP s₁ hh0 (Stand.of_body B)
    exact ⟨t, o, a1, b1, b2, ⟨b3.1, b3.2⟩⟩
/-- what the law's helpers have in common behind the throw: the handler answers 1 -/
theorem kcaught {l : Launch} {p : Program} {e : Env} {s : State} {m : MethodId} {args : Array Value} {below : List Frame} {meth : Method} {c : Code} {R : Room} {H1 : Heap} {locs1 : List Loc} {cc : ByteArray} {ls : Array Slot} {rest : List Value} {a b ha sl : Nat} {E : String} {ce : Cell} {q9 : Addr} {pc : Nat}
    (hx : p.tables.exec = Jvm.exec) (hb : c.code = cc) (hr : meth.sig.returnType = some .int) (hlocks : meth.locks = false) (hown : s.vm.findClass "BonnetValleyLaw" = some m.cls) (hts : ∀ w ∈ kALL, w.before args s = true) (hC : kvxN s) (hK : va_K D kcl (pm_tys dA "BonnetValley$State") s) (hRO : pm_RO kzs krs kaos knws kK krof (pm_ad B ra) (fun q => B ≤ q) s s.heap) (hB : B ≤ s.heap.size)
    (htab : c.exceptionTable.toList = tableOf [(a, b, ha, 13)]) (hcov : covers ⟨a, b, ha, 13⟩ pc = true) (hP1 : va_P D kcl (pm_ws (pm_ad B ra) dA B ph) H1) (hS1 : va_S (fun q => B ≤ q) s.heap H1 locs1) (hE : E = kNSE) (hce : H1[q9]? = some ce) (hcv : ce.vm = .none) (hcl : s.vm.findClass E = some ce.cls)
    (hst : ∀ (Q : State → Prop) (cells slots : Nat) (kk : ∀ ls' : Array Slot, W p l e R s m args below meth c H1 locs1 cells slots Q (F0 m (ha + sl) ls' [])), W p l e R s m args below meth c H1 locs1 cells slots Q (F0 m ha ls [.ref q9])) (dc1 : decode cc (ha + sl) = .ok (.iconst 1, 1)) (dc2 : decode cc (ha + sl + 1) = .ok (.ireturn, 1)) :
    vx_W p l e R s m args below meth c H1 locs1 1 6 (MQ below (pm_Qc kK kcl knws kzs krs kaos krof "BonnetValley$State" D dA B ra false (some (.int 1), ph, 1, 6)) args s 1 6 (fun q => B ≤ q)) (F0 m pc ls rest) q9 := by
  subst hE
  refine vx_catch (own := "BonnetValleyLaw") (name := kNSE) (E := kNSE) hown [] ⟨a, b, ha, 13⟩ [] (by rw [htab]; rfl) (fun z hz => nomatch hz) hcov (by show (13 : Nat) ≠ 0; decide) (hts _ (kvin_ok (w := .classLink "BonnetValleyLaw" 13 kNSE) (by decide +kernel))) (va_Nw.use rfl (hC _ List.mem_cons_self)) hce hcv hcl ?_
  refine hst _ _ _ fun ls' => ?_
  refine lv_iconst (v := 1) hx hb dc1 (by decide +kernel) ?_
  refine W.iret hx hb hr (fun t ht hW => ⟨rfl, pm_In_of knwf hP1 hK hB hS1 (fun h => by cases h) hRO ht hW, ?_⟩) hS1.2.2 dc2 hlocks
  exact ⟨by rw [ht]; exact hS1.1, fun q h1 h2 => by rw [ht]; exact hS1.2.1 q h1 h2⟩
/-- the callee, called by a helper: its words -/
theorem kcallW {R : Room} {s : State} {args : Array Value} {d jx ix n : Nat} (hts : ∀ w ∈ kALL, w.before args s = true) (hcode : ∃ q, pm_code kK jx 0 = some q) (hcls : (kM jx).1.cls = "BonnetValley") (hl : Cond.methodLink "BonnetValleyLaw" ix (kM jx).1 ∈ kALL) (hin : Cond.instanceMethod (kM jx).1 ∈ kALL) (hse : Cond.selects "BonnetValley" (kM jx).1 (kM jx).1 ∈ kALL) (hn : (parseMethodDescriptor (kM jx).1.desc).map (fun d => d.parameters.length) = some n) (hfr : d + 1 ≤ R.frames) (hlo : d * 128 + 128 ≤ R.locals) :
    CallW R s args "BonnetValleyLaw" "BonnetValley" ix (kM jx).1 (kM jx).2.1 (kM jx).2.2.1 (kM jx).2.2.2 (pm_wds kM kALL jx) (pm_rm d 1 6) 1 6 n := by
  obtain ⟨olk, ock, obs, onw, oG, oE, ocd, omk⟩ := kok
  obtain ⟨q0, hq0⟩ := hcode
  obtain ⟨m1, m2, m3, m4, m5, m6, m7, m8, m9⟩ := omk.1 jx q0 hq0
  have hGj : GoodIn kALL (pm_wds kM kALL jx) := by
    intro w hw
    rcases List.mem_cons.mp hw with rfl | hw
    · exact oG _ m2
    · exact oG _ hw
  exact ⟨callB_of n hts hGj rfl rfl rfl (hts _ m3) (hts _ hl) ⟨m4, m5, hn⟩ ⟨hfr, by show 8 + ((kM jx).2.2.1 + 11) + d * 128 ≤ R.locals; omega⟩, hts _ hin, hts _ hse⟩
end KTH
