/-! PM: what the claim's tables must give (pm_lk: a link; pm_ck: an object's kind; pm_mk: a method), and groups 1 and 5 -/
/-- a static; the one that is only carried may hold null, too -/
def pm_zz (ad : Nat → Nat) (A : Nat → Prop) (U : State) (H : Heap) (z : String × String × String × Value) : Prop := va_Z z.1 z.2.1 z.2.2.1 (pm_u ad z.2.2.2) A U H ∨ (z.2.2.2 = .ref 1048579 ∧ va_Z z.1 z.2.1 z.2.2.1 .null A U H)
/-- what stands outside the world, read alone: statics, literals, tables, nest mates -/
def pm_RO (zs : List (String × String × String × Value)) (rs : List (String × Nat × String × Nat)) (aos : List String) (nws : List Cond) (K : pm_K) (rof : Nat → String × String × String) (ad : Nat → Nat) (A : Nat → Prop) (U : State) (H : Heap) : Prop :=
  (∀ z ∈ zs, pm_zz ad A U H z) ∧ (∀ r ∈ rs, vk_R r.1 r.2.1 r.2.2.1 (ad r.2.2.2) U) ∧
  (∀ (a t n : Nat) (f : Nat → Value), pm_rat K a = some (t, n, f) → ∃ ty : FieldType, ((t = 0 ∧ ty = .int) ∨ (t = 3 ∧ ty = .byte)) ∧ va_T ty (ad a) n (fun j => pm_u ad (f j)) A U H) ∧
  (∀ (a j : Nat) (v : Value), Nat.blt a 1048576 = false → pm_ro K (a - 1048576) j = some v → va_O "java/lang/String" (ad a) A U H ∧ va_OF (rof j).1 (rof j).2.1 (rof j).2.2 (pm_u ad v) (ad a) A U H) ∧
  (∀ C ∈ aos, va_AO C U) ∧ (∀ w ∈ nws, va_Nw w U)
def pm_nwf (nws : List Cond) : Prop := ∀ w ∈ nws, (∃ (a : String) (i : Nat) (b n d h : String), w = .fieldLinkNest a i b n d h) ∨ (∃ (a : String) (i : Nat) (x : MethodName) (h : String), w = .methodLinkNest a i x h)
theorem pm_RO.warm {zs : List (String × String × String × Value)} {rs : List (String × Nat × String × Nat)} {aos : List String} {nws : List Cond} {K : pm_K} {rof : Nat → String × String × String} {ad : Nat → Nat} {A : Nat → Prop} {s U : State} {H H1 : Heap} (hn : pm_nwf nws) (hW : s.WarmedH U.vm) (hq : ∀ a : Nat, a < H.size → ¬ A a → H1[a]? = H[a]?) (h : pm_RO zs rs aos nws K rof ad A s H) : pm_RO zs rs aos nws K rof ad A U H1 := by
  obtain ⟨h1, h2, h3, h4, h5, h6⟩ := h
  refine ⟨fun z hz => (h1 z hz).imp (fun h => (va_Z.moved hW.alike h).kept hq) (fun h => ⟨h.1, (va_Z.moved hW.alike h.2).kept hq⟩), fun r hr => (h2 r hr).warm hW, fun a t n f hf => ?_, fun a j v ha hv => ?_, fun C hC => va_AO.moved hW.alike (h5 C hC), fun w hw => ?_⟩
  · obtain ⟨ty, e, hT⟩ := h3 a t n f hf
    exact ⟨ty, e, (va_T.moved hW.alike hT).kept hq⟩
  · exact ⟨(va_O.moved hW.alike (h4 a j v ha hv).1).kept hq, (va_OF.moved hW.alike (h4 a j v ha hv).2).kept hq⟩
  · rcases hn w hw with ⟨a, i, b, n, d, h, rfl⟩ | ⟨a, i, x, h, rfl⟩
    · exact va_Nw.warmF hW (h6 _ hw)
    · exact va_Nw.warmM hW (h6 _ hw)
theorem pm_RO.same {zs : List (String × String × String × Value)} {rs : List (String × Nat × String × Nat)} {aos : List String} {nws : List Cond} {K : pm_K} {rof : Nat → String × String × String} {ad : Nat → Nat} {A : Nat → Prop} {u U : State} (hn : pm_nwf nws) (hv : U.vm = u.vm) (hh : U.heap = u.heap) (h : pm_RO zs rs aos nws K rof ad A u u.heap) : pm_RO zs rs aos nws K rof ad A U U.heap := by
  have hal : u.vm.Alike U.vm := by rw [hv]; exact Vm.Alike.refl _
  have hq : ∀ a : Nat, a < u.heap.size → ¬ A a → U.heap[a]? = u.heap[a]? := fun a _ _ => by rw [hh]
  obtain ⟨h1, h2, h3, h4, h5, h6⟩ := h
  refine ⟨fun z hz => (h1 z hz).imp (fun h => (va_Z.moved hal h).kept hq) (fun h => ⟨h.1, (va_Z.moved hal h.2).kept hq⟩), fun r hr => (h2 r hr).same hv, fun a t n f hf => ?_, fun a j v ha hv2 => ?_, fun C hC => va_AO.moved hal (h5 C hC), fun w hw => ?_⟩
  · obtain ⟨ty, e, hT⟩ := h3 a t n f hf
    exact ⟨ty, e, (va_T.moved hal hT).kept hq⟩
  · exact ⟨(va_O.moved hal (h4 a j v ha hv2).1).kept hq, (va_OF.moved hal (h4 a j v ha hv2).2).kept hq⟩
  · rcases hn w hw with ⟨a, i, b, n, d, h, rfl⟩ | ⟨a, i, x, h, rfl⟩
    · exact va_Nw.same rfl hv.symm (h6 _ hw)
    · exact va_Nw.same rfl hv.symm (h6 _ hw)
abbrev pm_M : Type := Nat → MethodName × ByteArray × Nat × Option FieldType
/-- a link -/
def pm_lk (K : pm_K) (M : pm_M) (cl : List vw_C) (ALL nws : List Cond) (zs : List (String × String × String × Value)) (rs : List (String × Nat × String × Nat)) (aos : List String) (rof : Nat → String × String × String) (own : String) (i kd a b : Nat) (v : Value) : Prop :=
  (kd = 6 → ∃ (C : String) (T : u_T) (N : Nat), cl[a]? = some (C, T, N) ∧ b < N ∧ Cond.fieldLink own i C (T b).2.1 (T b).2.2.1 ∈ ALL) ∧
  (kd = 7 → Cond.fieldLink own i (rof a).1 (rof a).2.1 (rof a).2.2 ∈ ALL) ∧
  (kd = 8 → ∃ C n d : String, (C, n, d, v) ∈ zs ∧ v ≠ .ref 1048579 ∧ Cond.fieldLink own i C n d ∈ ALL) ∧
  (kd = 9 → ∃ (C : String) (T : u_T), cl[a]? = some (C, T, b) ∧ Cond.classLink own i C ∈ ALL) ∧
  (kd = 10 → ∃ x : Int32, v = .int x ∧ Cond.constant own i x ∈ ALL) ∧
  (kd = 11 → ∃ x : Int64, v = .long x ∧ Cond.constantLong own i x ∈ ALL) ∧
  (kd = 12 → ∃ (tx : String) (k : Nat), v = .ref k ∧ (own, i, tx, k) ∈ rs) ∧
  (kd = 13 → ∃ (C : String) (T : u_T) (N : Nat), cl[pm_eci K]? = some (C, T, N) ∧ C ∈ aos ∧ Cond.classLink own i C ∈ ALL) ∧
  (kd = 4 → Cond.methodLink own i Lib.objectInit ∈ ALL) ∧
  (kd = 5 → Cond.methodLink own i arraycopyName ∈ ALL) ∧
  ((kd = 1 ∨ kd = 2 ∨ kd = 3) → (Cond.methodLink own i (M a).1 ∈ ALL ∨ ∃ h, Cond.methodLinkNest own i (M a).1 h ∈ nws) ∧ (parseMethodDescriptor (M a).1.desc).map (fun d => d.parameters.length) = some b) ∧
  (kd = 1 → Cond.static (M a).1 ∈ ALL) ∧
  (kd = 2 → Cond.instanceMethod (M a).1 ∈ ALL ∧ Cond.selects (M a).1.cls (M a).1 (M a).1 ∈ ALL ∧ (∀ ci, v = .ref ci → ∃ (T : u_T) (N : Nat), cl[ci]? = some ((M a).1.cls, T, N)) ∧ (v = .null → (M a).1.cls = "java/lang/String")) ∧
  (kd = 3 → (M a).1.name = "<init>" ∧ Cond.instanceMethod (M a).1 ∈ ALL ∧ (M a).2.2.2 = none) ∧
  (kd = 15 → Cond.methodLink own i Lib.Math.max.name ∈ ALL) ∧ (kd = 16 → Cond.methodLink own i Lib.Math.min.name ∈ ALL) ∧ (kd = 17 → Cond.methodLink own i Lib.Math.abs.name ∈ ALL)
/-- an object's kind -/
def pm_ck (K : pm_K) (cl : List vw_C) (ALL : List Cond) : Prop := ∀ (ci : Nat) (C : String) (T : u_T) (N : Nat), cl[ci]? = some (C, T, N) →
  (∀ w ∈ u_ws C T N, w ∈ ALL) ∧ (∀ k, k < N → parseFieldDescriptor (T k).2.2.1 = some (pm_fty K ci k)) ∧ (∀ a, a < N → ∀ b, b < N → a ≠ b → (T a).2.1 ≠ (T b).2.1) ∧ (∀ (ad : Nat → Nat) (j : Nat), j < N → defaultValue (pm_fty K ci j) = vp_V ((pm_new0 K ci).map (pm_u ad)) j) ∧ Cond.instantiable C N ∈ ALL ∧ Cond.initialized C ∈ ALL ∧ (∀ k, k < N → (T k).1 = C)
/-- words that every run needs -/
def pm_base (ALL : List Cond) : Prop := Cond.instanceMethod Lib.objectInit ∈ ALL ∧ Cond.code Lib.objectInit ⟨#[0xb1]⟩ 1 none ∈ ALL ∧ Cond.native arraycopyName ∈ ALL ∧ Cond.static arraycopyName ∈ ALL ∧ Cond.initialized "java/lang/System" ∈ ALL ∧ Cond.arrayClass .int ∈ ALL ∧ Cond.arrayClass .boolean ∈ ALL ∧ Cond.arrayClass .long ∈ ALL ∧
  Cond.initialized "java/lang/Math" ∈ ALL ∧ Cond.static Lib.Math.max.name ∈ ALL ∧ Cond.static Lib.Math.min.name ∈ ALL ∧ Cond.static Lib.Math.abs.name ∈ ALL ∧ Cond.code Lib.Math.max.name Lib.Math.max.code 2 (some .int) ∈ ALL ∧ Cond.code Lib.Math.min.name Lib.Math.min.code 2 (some .int) ∈ ALL ∧ Cond.code Lib.Math.abs.name Lib.Math.abs.code 1 (some .int) ∈ ALL
/-- the arrays' kinds -/
def pm_tys (dA : Nat → ClassId) (E : String) : List (ClassId × FieldType) := [(dA 0, .int), (dA 1, .boolean), (dA 2, .long), (dA 3, .int), (dA 4, .object E)]
section PMM
variable {p : Program} {l : Launch} {e : Env} {R : Room} {s : State} {m : MethodId} {args : Array Value} {below : List Frame} {meth : Method} {c : Code} {H : Heap} {locs : List Loc} {cells slots : Nat} {Q : State → Prop}
variable {cc : ByteArray} {pc aux : Nat} {ls : Array Slot} {B : Nat} {ra : Nat → Nat} {ins : Instr} {st st' : List Value} {ph ph' : pm_H}
variable {K : pm_K} {M : pm_M} {cl : List vw_C} {ALL nws Ts : List Cond} {zs : List (String × String × String × Value)} {rs : List (String × Nat × String × Nat)} {aos : List String} {rof : Nat → String × String × String} {own : String} {ow : Nat} {D : va_G} {dA : Nat → ClassId} {E : String} {al : Bool}
theorem pm_ldcwS {rest : List Value} (hexec : p.tables.exec = Jvm.exec) (hb : c.code = cc) {own tx : String} {index q : Nat} (hown : s.vm.findClass own = some m.cls) (hZ : vk_R own index tx q s) (hdg : decode cc pc = .ok (.ldc_w index, 3))
    (k : W p l e R s m args below meth c H locs cells slots Q (F0 m (pc + 3) ls (.ref q :: rest))) : W p l e R s m args below meth c H locs cells slots Q (F0 m pc ls rest) := by
  intro T hT X
  obtain ⟨t, a1, b1⟩ := k T hT X
  have hev : (Term.string own index).eval args s none [] s = some (.ref q) := hZ.2
  obtain ⟨kk, cf, i, a', hk, hcf, hcp, -, hr, hev'⟩ := Cond.stringRef_spec hown hZ.1
  cases hev.symm.trans hev'
  obtain ⟨k', hk', he⟩ := X.warmed.alike.2.2 _ _ hk
  have hr' : k'.resolved[index]? = some (some (.string q)) := by
    rcases X.warmed.entry hk hk' index with h | ⟨h, -⟩
    · rw [h]; exact hr
    · rw [hr] at h; cases h
  refine ⟨t, ?_, b1⟩
  have hdg2 : decode c.code pc = .ok (.ldc_w index, 3) := by rw [hb]; exact hdg
  jvm_step X.here [hexec, hdg2, ldc_w.wp_string (e := e) (s := T) (f := F0 m pc ls rest) X.here.top hk' (by rw [he]; exact hcf) hcp hr']
  exact a1
theorem pm_push_ok {v : Value} {n : Nat} (hx : p.tables.exec = Jvm.exec) (hb : c.code = cc) (hd : decode cc pc = .ok (ins, pm_len ins aux)) (hown : s.vm.findClass own = some m.cls) (hts : ∀ w ∈ ALL, w.before args s = true)
    (hlk : ∀ i kd a b v, pm_lnk K ow i = some (kd, a, b, v) → pm_lk K M cl ALL nws zs rs aos rof own i kd a b v) (hRO : pm_RO zs rs aos nws K rof (pm_ad B ra) (fun q => B ≤ q) s s.heap) (hS : va_S (fun q => B ≤ q) s.heap H locs) (h : pm_push K ow ins = some (v, n))
    (k : W p l e R s m args below meth c H locs cells slots Q (F0 m (pc + n) ls ((v :: st).map (pm_u (pm_ad B ra))))) : W p l e R s m args below meth c H locs cells slots Q (F0 m pc ls (st.map (pm_u (pm_ad B ra)))) := by
  unfold pm_push at h
  split at h
  · cases h; exact lv_bipush hx hb hd rfl k
  · cases h; exact lv_sipush hx hb hd rfl k
  · next i =>
    split at h
    · next a b w hw =>
      obtain ⟨rfl, rfl⟩ := pm_pair h
      obtain ⟨x, rfl, hc⟩ := (hlk _ _ _ _ _ hw).2.2.2.2.1 rfl
      exact lv_ldc hx hb hown (hts _ hc) hd k
    · next a b w hw =>
      obtain ⟨rfl, rfl⟩ := pm_pair h
      obtain ⟨tx, k9, rfl, hc⟩ := (hlk _ _ _ _ _ hw).2.2.2.2.2.2.1 rfl
      have hR2 : vk_R own i tx (pm_ad B ra k9) s := hRO.2.1 (own, i, tx, k9) hc
      refine va_ldcS (q := pm_ad B ra k9) hx hb hown hR2 hd ?_
      exact k
    · cases h
  · next i =>
    split at h
    · next a b w hw =>
      obtain ⟨rfl, rfl⟩ := pm_pair h
      obtain ⟨x, rfl, hc⟩ := (hlk _ _ _ _ _ hw).2.2.2.2.1 rfl
      exact lv_ldcw hx hb hown (hts _ hc) hd k
    · next a b w hw =>
      obtain ⟨rfl, rfl⟩ := pm_pair h
      obtain ⟨tx, k9, rfl, hc⟩ := (hlk _ _ _ _ _ hw).2.2.2.2.2.2.1 rfl
      have hR2 : vk_R own i tx (pm_ad B ra k9) s := hRO.2.1 (own, i, tx, k9) hc
      refine pm_ldcwS (q := pm_ad B ra k9) hx hb hown hR2 hd ?_
      exact k
    · cases h
  · next i =>
    split at h
    · next a b w hw =>
      obtain ⟨rfl, rfl⟩ := pm_pair h
      obtain ⟨x, rfl, hc⟩ := (hlk _ _ _ _ _ hw).2.2.2.2.2.1 rfl
      exact lv_ldc2 hx hb hown (hts _ hc) hd k
    · cases h
  · next i =>
    split at h
    · next a b w hw =>
      obtain ⟨rfl, rfl⟩ := pm_pair h
      obtain ⟨C, n9, d9, hz, hne, hc⟩ := (hlk _ _ _ _ _ hw).2.2.1 rfl
      rcases hRO.1 _ hz with hz9 | ⟨hz9, -⟩
      · exact va_gets hx hb hz9 hS hown (hts _ hc) (fun _ h9 => h9) hd k
      · exact absurd hz9 hne
    · cases h
  · cases h
/-- an object's field is written: the heap keeps its size -/
theorem pm_put (hx : p.tables.exec = Jvm.exec) (hb : c.code = cc) (hown : s.vm.findClass own = some m.cls) (hts : ∀ w ∈ ALL, w.before args s = true) (hnw : ∀ w ∈ nws, va_Nw w s) {tys : List (ClassId × FieldType)} (hK : va_K D cl tys s) {ws : va_W} (hP : va_P D cl ws H) (hD : va_D (fun q => B ≤ q) ws) (hS0 : va_S (fun q => B ≤ q) s.heap H locs) {a q0 ci k i N : Nat} {C : String} {T : u_T} {fs : List Value} (he : ws[q0]? = some (a, .inr (ci, fs))) (hc : cl[ci]? = some (C, T, N)) (hk : k < N) (ty0 : Nat → FieldType)
    (hin : ∀ w ∈ u_ws C T N, w ∈ ALL) (hty : ∀ k, k < N → parseFieldDescriptor (T k).2.2.1 = some (ty0 k)) (hnm : ∀ a, a < N → ∀ b, b < N → a ≠ b → (T a).2.1 ≠ (T b).2.1) (hT1 : (T k).1 = C)
    (hlink : Cond.fieldLink own i C (T k).2.1 (T k).2.2.1 ∈ ALL ∨ ∃ h, Cond.fieldLinkNest own i C (T k).2.1 (T k).2.2.1 h ∈ nws) (hfin : (T k).2.2.2 = true → meth.name = "<init>" ∧ C = own ∧ Cond.fieldLink own i C (T k).2.1 (T k).2.2.1 ∈ ALL) {v : Value} (hn : narrow (ty0 k) v = v) (hfit : fits (ty0 k) v = true) (hl : k < fs.length) {rest : List Value}
    (hdg : decode cc pc = .ok (.putfield i, 3)) (kk : ∀ (H1 : Heap) (locs1 : List Loc), H1.size = H.size → va_P D cl (ws.set q0 (a, .inr (ci, fs.set k v))) H1 → va_S (fun q => B ≤ q) s.heap H1 locs1 → W p l e R s m args below meth c H1 locs1 cells slots Q (F0 m (pc + 3) ls rest)) : W p l e R s m args below meth c H locs cells slots Q (F0 m pc ls (v :: .ref a :: rest)) := by
  have hap := va_apart (own := own) hts hin ty0 hty hnm hK hc
  obtain ⟨r, h1, cell, q1, q2, q3, q4⟩ := hP q0 _ he
  have hr : r = (C, T, N) := Option.some.inj (h1.symm.trans hc)
  subst hr
  obtain ⟨hS, hfc, kC, hkC, hkind⟩ := hK.1 ci _ hc
  obtain ⟨cf, kf, fi, f, hi, hsl⟩ := hS k hk
  have hlay := hts _ (hin _ (u_in_lay hk))
  have hst := (u_facts hfc hkC (u_lays hts hin hk) hi).1
  have hi2 : s.fieldFound? C (T k).2.1 (T k).2.2.1 = some (cf, kf, fi, f) := by rw [← hT1]; exact hi
  have fin : ∀ H' : Heap, H'[a]? = some (cell.setSlot f.slot v) → H'.size = H.size → (∀ q, q ≠ a → H'[q]? = H[q]?) → W p l e R s m args below meth c H' (locs ++ [⟨a, f.slot⟩]) cells slots Q (F0 m (pc + 3) ls rest) := by
    intro H' e1 e2 e3
    rw [hsl] at e1 ⊢
    exact kk H' _ e2 (hP.set hD he ⟨_, hc, t_OB.to (V := updV (vp_V fs) k v) ⟨_, e1, q2, q3, t_set q4 hap hk v⟩ (fun j _ => vp_updV_set hl v j)⟩ e3) (hS0.put e2 e3 (hD.2 q0 _ he))
  by_cases hf : (T k).2.2.2 = true
  · obtain ⟨hin2, hCo, hlk⟩ := hfin hf
    unfold u_lay at hlay
    rw [if_pos hf] at hlay
    have hcf : m.cls = cf := by
      obtain ⟨_, _, c', _, _, _, -, -, hf', -, -, -, hown2, -⟩ := Cond.laysFinal_spec hlay
      have e1 : c' = cf := by have := hi.symm.trans hf'; simp at this; exact this.1.symm
      rw [hT1, hCo] at hown2
      rw [← e1]; exact Option.some.inj (hown.symm.trans hown2)
    have h6 := u_fits hfc hkC hkind (Or.inr hlay) hi (hty k hk) hn hfit
    exact W.putFinK hx hb hown (hts _ hlk) hi2 hst hcf hin2 (by rw [q2]; exact h6) q1 q3 (by rw [hsl]; exact k2_hasslot (q4 k hk)) rfl rfl hdg fin
  · unfold u_lay at hlay
    rw [if_neg hf] at hlay
    have h6 := u_store hfc hkC hkind hlay hi (hty k hk) hn hfit
    rcases hlink with hlk | ⟨h, hlk⟩
    · exact W.putK hx hb (f := f) ⟨hown, hts _ hlk, ⟨_, _, _, hi2⟩, hst⟩ (by rw [q2]; exact h6) q1 q3 (by rw [hsl]; exact k2_hasslot (q4 k hk)) rfl rfl hdg fin
    · exact va_WputK hx hb (f := f) hown (va_Nw.use rfl (hnw _ hlk)) hi2 hst (by rw [q2]; exact h6) q1 q3 (by rw [hsl]; exact k2_hasslot (q4 k hk)) rfl rfl hdg fin
theorem pm_get (hx : p.tables.exec = Jvm.exec) (hb : c.code = cc) (hown : s.vm.findClass own = some m.cls) (hts : ∀ w ∈ ALL, w.before args s = true) (hnw : ∀ w ∈ nws, va_Nw w s) {tys : List (ClassId × FieldType)} (hK : va_K D cl tys s) {ws : va_W} (hP : va_P D cl ws H) {a q0 ci k i N : Nat} {C : String} {T : u_T} {fs : List Value} (he : ws[q0]? = some (a, .inr (ci, fs))) (hc : cl[ci]? = some (C, T, N)) (hk : k < N)
    (hin : ∀ w ∈ u_ws C T N, w ∈ ALL) (hT1 : (T k).1 = C) (hlink : Cond.fieldLink own i C (T k).2.1 (T k).2.2.1 ∈ ALL ∨ ∃ h, Cond.fieldLinkNest own i C (T k).2.1 (T k).2.2.1 h ∈ nws) {v : Value} (hv : fs[k]? = some v) {rest : List Value}
    (hdg : decode cc pc = .ok (.getfield i, 3)) (kk : W p l e R s m args below meth c H locs cells slots Q (F0 m (pc + 3) ls (v :: rest))) : W p l e R s m args below meth c H locs cells slots Q (F0 m pc ls (.ref a :: rest)) := by
  rcases hlink with hlk | ⟨h, hlk⟩
  · exact va_get (C := C) (T := T) hx hb hts hin hown hK hP q0 he hc k hk (hts _ hlk) (fun x h9 => by rw [← hT1]; exact h9) hv hdg kk
  · exact va_getN (C := C) (T := T) hx hb hts hin hown hK hP q0 he hc k hk (va_Nw.use rfl (hnw _ hlk)) (fun x h9 => by rw [← hT1]; exact h9) hv hdg kk
theorem pm_getE {ad : Nat → Nat} {a : Nat} {x : pm_C} (h : pm_at ph a = some x) : (pm_ws ad dA B ph)[a]? = some (B + a, pm_e ad dA x) := by
  rw [pm_ws_get, (pm_at_some h).2]
  rfl
theorem pm_adE {a : Nat} {x : pm_C} (h : pm_at ph a = some x) : pm_ad B ra a = B + a := pm_ad_lo (pm_at_some h).1
theorem pm_tysE (t : Nat) (h : Nat.ble t 4 = true) : ∃ ty, (pm_tys dA E)[t]? = some (dA t, ty) := by
  have h4 : t ≤ 4 := Nat.le_of_ble_eq_true h
  match t, h4 with
  | 0, _ => exact ⟨_, rfl⟩
  | 1, _ => exact ⟨_, rfl⟩
  | 2, _ => exact ⟨_, rfl⟩
  | 3, _ => exact ⟨_, rfl⟩
  | 4, _ => exact ⟨_, rfl⟩
theorem pm_iast (hx : p.tables.exec = Jvm.exec) (hb : c.code = cc) {tys : List (ClassId × FieldType)} (hK : va_K D cl tys s) {ws : va_W} (hP : va_P D cl ws H) (hD : va_D (fun q => B ≤ q) ws) (hS : va_S (fun q => B ≤ q) s.heap H locs) {a q0 t0 : Nat} {cA : ClassId} {n : Nat} {f : Nat → Int32} (ha : ws[q0]? = some (a, .inl (cA, n, .inl f))) (ht : tys[t0]? = some (cA, .int)) {i x : Int32} (hin : vp_in i n) {rest : List Value} (hdg : decode cc pc = .ok (.iastore, 1))
    (kk : ∀ (H1 : Heap) (locs1 : List Loc), H1.size = H.size → va_P D cl (ws.set q0 (a, .inl (cA, n, .inl (upd f i.toNatClampNeg x)))) H1 → va_S (fun q => B ≤ q) s.heap H1 locs1 → W p l e R s m args below meth c H1 locs1 cells slots Q (F0 m (pc + 1) ls rest)) : W p l e R s m args below meth c H locs cells slots Q (F0 m pc ls (.int x :: .int i :: .ref a :: rest)) := by
  refine W.iast hx hb (hP q0 _ ha) ((hK.2 t0 _ ht).1 n (fun j => .int (f j))) (fun q => by cases q) (by show ¬ (i < 0 ∨ (arrV _ _ _).slots.size ≤ _); rw [arrV_size]; exact hin) rfl rfl hdg fun H1 e z oq => ?_
  refine kk H1 _ z (hP.set hD ha ?_ oq) (hS.put z oq (hD.2 q0 _ ha))
  show H1[a]? = some (vp_cell _ _)
  rw [e, vp_cell_i, vp_cell_i, arrV_store]
  congr 2
  funext q
  by_cases hq : q = i.toNatClampNeg
  · subst hq; simp [updV, upd]
  · simp [updV, upd, hq]
theorem pm_zast (hx : p.tables.exec = Jvm.exec) (hb : c.code = cc) {tys : List (ClassId × FieldType)} (hK : va_K D cl tys s) {ws : va_W} (hP : va_P D cl ws H) (hD : va_D (fun q => B ≤ q) ws) (hS : va_S (fun q => B ≤ q) s.heap H locs) {a q0 t0 : Nat} {cA : ClassId} {n : Nat} {f : Nat → Int32} (ha : ws[q0]? = some (a, .inl (cA, n, .inl f))) (ht : tys[t0]? = some (cA, .boolean)) {i x : Int32} (hin : vp_in i n) {rest : List Value} (hdg : decode cc pc = .ok (.bastore, 1))
    (kk : ∀ (H1 : Heap) (locs1 : List Loc), H1.size = H.size → va_P D cl (ws.set q0 (a, .inl (cA, n, .inl (upd f i.toNatClampNeg (x &&& 1))))) H1 → va_S (fun q => B ≤ q) s.heap H1 locs1 → W p l e R s m args below meth c H1 locs1 cells slots Q (F0 m (pc + 1) ls rest)) : W p l e R s m args below meth c H locs cells slots Q (F0 m pc ls (.int x :: .int i :: .ref a :: rest)) := by
  refine W.zast hx hb (hP q0 _ ha) ((hK.2 t0 _ ht).1 n (fun j => .int (f j))) (fun q => by cases q) (by show ¬ (i < 0 ∨ (arrV _ _ _).slots.size ≤ _); rw [arrV_size]; exact hin) rfl rfl hdg fun H1 e z oq => ?_
  refine kk H1 _ z (hP.set hD ha ?_ oq) (hS.put z oq (hD.2 q0 _ ha))
  show H1[a]? = some (vp_cell _ _)
  rw [e, show narrow .boolean (.int x) = .int (x &&& 1) from rfl, vp_cell_i, vp_cell_i, arrV_store]
  congr 2
  funext q
  by_cases hq : q = i.toNatClampNeg
  · subst hq; simp [updV, upd]
  · simp [updV, upd, hq]
theorem pm_last (hx : p.tables.exec = Jvm.exec) (hb : c.code = cc) {tys : List (ClassId × FieldType)} (hK : va_K D cl tys s) {ws : va_W} (hP : va_P D cl ws H) (hD : va_D (fun q => B ≤ q) ws) (hS : va_S (fun q => B ≤ q) s.heap H locs) {a q0 t0 : Nat} {cA : ClassId} {n : Nat} {f : Nat → Int64} (ha : ws[q0]? = some (a, .inl (cA, n, .inr (.inl f)))) (ht : tys[t0]? = some (cA, .long)) {i : Int32} {x : Int64} (hin : vp_in i n) {rest : List Value} (hdg : decode cc pc = .ok (.lastore, 1))
    (kk : ∀ (H1 : Heap) (locs1 : List Loc), H1.size = H.size → va_P D cl (ws.set q0 (a, .inl (cA, n, .inr (.inl (vp_updL f i.toNatClampNeg x))))) H1 → va_S (fun q => B ≤ q) s.heap H1 locs1 → W p l e R s m args below meth c H1 locs1 cells slots Q (F0 m (pc + 1) ls rest)) : W p l e R s m args below meth c H locs cells slots Q (F0 m pc ls (.long x :: .int i :: .ref a :: rest)) := by
  refine W.last hx hb (hP q0 _ ha) ((hK.2 t0 _ ht).1 n (fun j => .long (f j))) (fun q => by cases q) (by show ¬ (i < 0 ∨ (arrV _ _ _).slots.size ≤ _); rw [arrV_size]; exact hin) rfl rfl hdg fun H1 e z oq => ?_
  refine kk H1 _ z (hP.set hD ha ?_ oq) (hS.put z oq (hD.2 q0 _ ha))
  show H1[a]? = some (vp_cell _ _)
  rw [e, vp_cell_l, vp_cell_l, arrV_store]
  congr 2
  funext q
  by_cases hq : q = i.toNatClampNeg
  · subst hq; simp [updV, vp_updL]
  · simp [updV, vp_updL, hq]
theorem pm_aast (hx : p.tables.exec = Jvm.exec) (hb : c.code = cc) {tys : List (ClassId × FieldType)} (hK : va_K D cl tys s) {ws : va_W} (hP : va_P D cl ws H) (hD : va_D (fun q => B ≤ q) ws) (hS : va_S (fun q => B ≤ q) s.heap H locs) {a q0 t0 qk ci : Nat} {cA : ClassId} {r : vw_C} {n v : Nat} {vs : List Value} {f : Nat → Option Nat} (ha : ws[q0]? = some (a, .inl (cA, n, .inr (.inr (.inr (.inr f)))))) (ht : tys[t0]? = some (cA, .object r.1)) (hv : ws[qk]? = some (v, .inr (ci, vs))) (hc : cl[ci]? = some r) {i : Int32} (hin : vp_in i n) {rest : List Value} (hdg : decode cc pc = .ok (.aastore, 1))
    (kk : ∀ (H1 : Heap) (locs1 : List Loc), H1.size = H.size → va_P D cl (ws.set q0 (a, .inl (cA, n, .inr (.inr (.inr (.inr (va_up f i.toNatClampNeg (some v)))))))) H1 → va_S (fun q => B ≤ q) s.heap H1 locs1 → W p l e R s m args below meth c H1 locs1 cells slots Q (F0 m (pc + 1) ls rest)) : W p l e R s m args below meth c H locs cells slots Q (F0 m pc ls (.ref v :: .int i :: .ref a :: rest)) := by
  have hlt : i.toNatClampNeg < n := Nat.not_le.mp fun q => hin (Or.inr q)
  have h0 : ¬ i < 0 := fun q => hin (Or.inl q)
  obtain ⟨r', hr', cellV, g1, g2, g3, -⟩ := hP qk _ hv
  have hcls := (hK.1 ci r hc).2
  obtain ⟨kA, comp, k1, k2, k3, -⟩ := (hK.2 t0 _ ht).2
  have hcomp : comp = D.1 ci := Option.some.inj (k3.symm.trans hcls.1)
  subst hcomp
  obtain ⟨kC, hkC, -⟩ := id hcls.2
  refine W.aast hx hb (hP q0 _ ha) (fun q h => by cases h) (fun h => by cases h) k1 k2 rfl hkC ⟨h0, by show _ < (arrV _ _ _).slots.size; rw [arrV_size]; exact hlt⟩ g1 (fun q h => by rw [g3] at h; cases h) (by rw [g2]; exact hkC) (by rw [g2]; exact va_assign hcls) rfl rfl hdg fun H1 e z oq => ?_
  refine kk H1 _ z (hP.set hD ha ?_ oq) (hS.put z oq (hD.2 q0 _ ha))
  show H1[a]? = some (vp_cell _ _)
  rw [e, vp_cell_q, vp_cell_q, arrV_store]
  congr 2
  funext q
  by_cases hq : q = i.toNatClampNeg
  · subst hq; simp [updV, va_up, va_rf]
  · simp [updV, va_up, hq]
/-- a cell more, the next one -/
theorem pm_grow {ws : va_W} {H1 : Heap} {w : va_E} (hP : va_P D cl ws H) (z1 : H1.size = H.size + 1) (o1 : ∀ q, q < H.size → H1[q]? = H[q]?) (hw : va_at D cl (H.size, w) H1) : va_P D cl (ws ++ [(H.size, w)]) H1 :=
  (hP.kept (fun k x hx => o1 x.1 ((hP k x hx).lt))).app (fun k x hx => by
    have hz : k < 1 := (List.getElem?_eq_some_iff.mp hx).1
    rw [show k = 0 by omega] at hx
    cases hx
    exact hw)
theorem pm_growS {H1 : Heap} (hS : va_S (fun q => B ≤ q) s.heap H locs) (z1 : H1.size = H.size + 1) (o1 : ∀ q, q < H.size → H1[q]? = H[q]?) : va_S (fun q => B ≤ q) s.heap H1 locs :=
  ⟨Nat.le_trans hS.1 (by omega), fun x h1 h2 => (o1 x (Nat.lt_of_lt_of_le h1 hS.1)).trans (hS.2.1 x h1 h2), hS.2.2⟩
theorem pm_five {n n' : Nat} {a a' : List Value} {h h' : pm_H} {c c' d d' : Nat} (q : some (n, a, h, c, d) = some (n', a', h', c', d')) : n = n' ∧ a = a' ∧ h = h' ∧ c = c' ∧ d = d' := by
  cases q
  exact ⟨rfl, rfl, rfl, rfl, rfl⟩
set_option maxHeartbeats 8000000 in
theorem pm_mem_ok {n c1 s1 : Nat} (hx : p.tables.exec = Jvm.exec) (hb : c.code = cc) (hd : decode cc pc = .ok (ins, pm_len ins aux)) (hml : ls.size = c.maxLocals) (hown : s.vm.findClass own = some m.cls) (hts : ∀ w ∈ ALL, w.before args s = true)
    (hlk : ∀ i kd a b v, pm_lnk K ow i = some (kd, a, b, v) → pm_lk K M cl ALL nws zs rs aos rof own i kd a b v) (hck : pm_ck K cl ALL) (hbs : pm_base ALL) (hfin : ∀ (i ci k : Nat) (v : Value), ins = .putfield i → pm_lnk K ow i = some (6, ci, k, v) → ∀ (C : String) (T : u_T) (N : Nat), cl[ci]? = some (C, T, N) → (T k).2.2.2 = true → meth.name = "<init>" ∧ C = own)
    (hE : ∀ r, cl[pm_eci K]? = some r → r.1 = E ∧ E ∈ aos) (hK : va_K D cl (pm_tys dA E) s) (hRO : pm_RO zs rs aos nws K rof (pm_ad B ra) (fun q => B ≤ q) s s.heap) (hB : B ≤ s.heap.size)
    (hP : va_P D cl (pm_ws (pm_ad B ra) dA B ph) H) (hS : va_S (fun q => B ≤ q) s.heap H locs) (hz : al = true → H.size = B + ph.length) (hfr : 1 ≤ R.frames) (hlo : 8 + (nativeFrameWords "java/lang/System" "arraycopy" 5 + 13) ≤ R.locals) (hR : cells + c1 ≤ R.cells ∧ slots + s1 ≤ R.slots)
    (h : pm_mem K al ow ins st ph = some (n, st', ph', c1, s1))
    (kk : ∀ (H1 : Heap) (locs1 : List Loc), va_P D cl (pm_ws (pm_ad B ra) dA B ph') H1 → va_S (fun q => B ≤ q) s.heap H1 locs1 → (al = true → H1.size = B + ph'.length) → W p l e R s m args below meth c H1 locs1 (cells + c1) (slots + s1) Q (F0 m (pc + n) ls (st'.map (pm_u (pm_ad B ra))))) :
    W p l e R s m args below meth c H locs cells slots Q (F0 m pc ls (st.map (pm_u (pm_ad B ra)))) := by
  have hnw : ∀ w ∈ nws, va_Nw w s := hRO.2.2.2.2.2
  have hD : va_D (fun q => B ≤ q) (pm_ws (pm_ad B ra) dA B ph) := pm_ws_D _ _ _ _
  have hA : B ≤ H.size := Nat.le_trans hB hS.1
  unfold pm_mem at h
  split at h
  · next i a r =>
    split at h
    · next ci k w hw =>
      split at h
      · next cj fs hph =>
        obtain ⟨C, T, N, hc, hk, hlink⟩ := (hlk _ _ _ _ _ hw).1 rfl
        cases hq : Nat.beq ci cj with
        | false => rw [hq] at h; cases h
        | true =>
          rw [hq] at h
          simp only [cond_true] at h
          have hcj : ci = cj := Nat.eq_of_beq_eq_true hq
          subst hcj
          split at h
          · next v hv =>
            obtain ⟨rfl, rfl, rfl, rfl, rfl⟩ := pm_five h
            show W p l e R s m args below meth c H locs cells slots Q (F0 m pc ls (.ref (pm_ad B ra a) :: r.map _))
            rw [pm_adE hph]
            obtain ⟨g1, g2, g3, g4, g5, g6, g7⟩ := hck _ _ _ _ hc
            exact pm_get hx hb hown hts hnw hK hP (pm_getE hph) hc hk g1 (g7 _ hk) (Or.inl hlink) (v := pm_u (pm_ad B ra) v) (by rw [List.getElem?_map, hv]; rfl) hd (kk H locs hP hS hz)
          · cases h
      · cases h
    · next j w1 w2 hw =>
      cases hq : Nat.blt a 1048576 with
      | true => rw [hq] at h; cases h
      | false =>
        rw [hq] at h
        simp only [cond_false] at h
        split at h
        · next v hv =>
          obtain ⟨rfl, rfl, rfl, rfl, rfl⟩ := pm_five h
          exact vk_getf hx hb (hRO.2.2.2.1 a _ v hq hv).2 hS hown (hts _ ((hlk _ _ _ _ _ hw).2.1 rfl)) (fun _ h9 => h9) hd (kk H locs hP hS hz)
        · cases h
    · cases h
  · next i v a r =>
    split at h
    · next ci k w hw =>
      split at h
      · next cj fs hph =>
        obtain ⟨C, T, N, hc, hk, hlink⟩ := (hlk _ _ _ _ _ hw).1 rfl
        obtain ⟨hq, h2⟩ := pm_bif h
        obtain ⟨rfl, rfl, rfl, rfl, rfl⟩ := pm_five (congrArg some h2)
        obtain ⟨h3, h4⟩ := pm_and hq
        obtain ⟨h5, h6⟩ := pm_and h4
        have hcj : ci = cj := Nat.eq_of_beq_eq_true h3
        subst hcj
        obtain ⟨n1, n2⟩ := pm_fit_ok (ad := pm_ad B ra) h5
        show W p l e R s m args below meth c H locs cells slots Q (F0 m pc ls (pm_u (pm_ad B ra) v :: .ref (pm_ad B ra a) :: r.map _))
        rw [pm_adE hph]
        obtain ⟨g1, g2, g3, g4, g5, g6, g7⟩ := hck _ _ _ _ hc
        refine pm_put hx hb hown hts hnw hK hP hD hS (pm_getE hph) hc hk (pm_fty K ci) g1 g2 g3 (g7 _ hk) (Or.inl hlink) (fun hf => ⟨(hfin i ci k w rfl hw C T N hc hf).1, (hfin i ci k w rfl hw C T N hc hf).2, hlink⟩) (v := pm_u (pm_ad B ra) v) n1 n2 (by rw [List.length_map]; exact Nat.le_of_ble_eq_true h6) hd (fun H1 locs1 z hP1 hS1 => kk H1 locs1 ?_ hS1 (fun q => by rw [z, List.length_set]; exact hz q))
        rw [pm_ws_set]
        show va_P D cl ((pm_ws (pm_ad B ra) dA B ph).set a (B + a, .inr (ci, (fs.set k v).map (pm_u (pm_ad B ra))))) H1
        rw [List.map_set]
        exact hP1
      · cases h
    · cases h
  · next a r =>
    split at h
    · next t l9 hph =>
      obtain ⟨hq, h2⟩ := pm_bif h
      obtain ⟨rfl, rfl, rfl, rfl, rfl⟩ := pm_five (congrArg some h2)
      show W p l e R s m args below meth c H locs cells slots Q (F0 m pc ls (.ref (pm_ad B ra a) :: r.map _))
      rw [pm_adE hph]
      obtain ⟨ty, hty⟩ := pm_tysE (dA := dA) (E := E) t hq
      exact va_alen hx hb hK hP a t (pm_getE hph) hty rfl hd (kk H locs hP hS hz)
    · next t l9 hph =>
      obtain ⟨hq, h2⟩ := pm_bif h
      obtain ⟨rfl, rfl, rfl, rfl, rfl⟩ := pm_five (congrArg some h2)
      show W p l e R s m args below meth c H locs cells slots Q (F0 m pc ls (.ref (pm_ad B ra a) :: r.map _))
      rw [pm_adE hph]
      obtain ⟨ty, hty⟩ := pm_tysE (dA := dA) (E := E) t hq
      exact va_alen hx hb hK hP a t (pm_getE hph) hty rfl hd (kk H locs hP hS hz)
    · next t l9 hph =>
      obtain ⟨hq, h2⟩ := pm_bif h
      obtain ⟨rfl, rfl, rfl, rfl, rfl⟩ := pm_five (congrArg some h2)
      show W p l e R s m args below meth c H locs cells slots Q (F0 m pc ls (.ref (pm_ad B ra a) :: r.map _))
      rw [pm_adE hph]
      obtain ⟨ty, hty⟩ := pm_tysE (dA := dA) (E := E) t hq
      exact va_alen hx hb hK hP a t (pm_getE hph) hty rfl hd (kk H locs hP hS hz)
    · cases h
    · next hph =>
      split at h
      · next t n9 f hf =>
        obtain ⟨rfl, rfl, rfl, rfl, rfl⟩ := pm_five h
        obtain ⟨ty, -, hT⟩ := hRO.2.2.1 a t n9 f hf
        exact va_tlen hx hb hT hS rfl hd (kk H locs hP hS hz)
      · cases h
  · next i a r =>
    split at h
    · next l9 hph =>
      split at h
      · next x hx9 =>
        obtain ⟨rfl, rfl, rfl, rfl, rfl⟩ := pm_five h
        show W p l e R s m args below meth c H locs cells slots Q (F0 m pc ls (.int i :: .ref (pm_ad B ra a) :: r.map _))
        rw [pm_adE hph]
        refine va_iald hx hb hK hP a 0 (pm_getE hph) rfl (pm_ix_ok hx9).1 hd ?_
        rw [pm_ixD _ hx9]
        exact kk H locs hP hS hz
      · cases h
    · cases h
    · next hph =>
      split at h
      · next n9 f hf =>
        obtain ⟨hq, h2⟩ := pm_bif h
        obtain ⟨rfl, rfl, rfl, rfl, rfl⟩ := pm_five (congrArg some h2)
        obtain ⟨ty, ht, hT⟩ := hRO.2.2.1 a 0 n9 f hf
        rcases ht with ⟨-, rfl⟩ | ⟨ht, -⟩
        · exact va_ti hx hb hT hS (pm_inb_in hq) rfl hd (kk H locs hP hS hz)
        · cases ht
      · cases h
  · next i a r =>
    split at h
    · next l9 hph =>
      split at h
      · next x hx9 =>
        obtain ⟨rfl, rfl, rfl, rfl, rfl⟩ := pm_five h
        show W p l e R s m args below meth c H locs cells slots Q (F0 m pc ls (.int i :: .ref (pm_ad B ra a) :: r.map _))
        rw [pm_adE hph]
        refine va_zald hx hb hK hP a 1 (pm_getE hph) rfl (pm_ix_ok hx9).1 hd ?_
        rw [pm_ixD _ hx9]
        exact kk H locs hP hS hz
      · cases h
    · cases h
    · next hph =>
      split at h
      · next n9 f hf =>
        obtain ⟨hq, h2⟩ := pm_bif h
        obtain ⟨rfl, rfl, rfl, rfl, rfl⟩ := pm_five (congrArg some h2)
        obtain ⟨ty, ht, hT⟩ := hRO.2.2.1 a 3 n9 f hf
        rcases ht with ⟨ht, -⟩ | ⟨-, rfl⟩
        · cases ht
        · exact va_tb hx hb hT hS (pm_inb_in hq) rfl hd (kk H locs hP hS hz)
      · cases h
  · next i a r =>
    split at h
    · next l9 hph =>
      split at h
      · next x hx9 =>
        obtain ⟨rfl, rfl, rfl, rfl, rfl⟩ := pm_five h
        show W p l e R s m args below meth c H locs cells slots Q (F0 m pc ls (.int i :: .ref (pm_ad B ra a) :: r.map _))
        rw [pm_adE hph]
        refine va_lald hx hb hK hP a 2 (pm_getE hph) rfl (pm_ix_ok hx9).1 hd ?_
        rw [pm_ixD _ hx9]
        exact kk H locs hP hS hz
      · cases h
    · cases h
  · next i a r =>
    split at h
    · next l9 hph =>
      split at h
      · next x hx9 =>
        obtain ⟨rfl, rfl, rfl, rfl, rfl⟩ := pm_five h
        show W p l e R s m args below meth c H locs cells slots Q (F0 m pc ls (.int i :: .ref (pm_ad B ra a) :: r.map _))
        rw [pm_adE hph]
        refine va_aldq hx hb hK hP a 4 (C := E) (pm_getE hph) rfl (pm_ix_ok hx9).1 hd ?_
        have er : va_rf ((l9.getD i.toNatClampNeg none).map (pm_ad B ra)) = pm_u (pm_ad B ra) (pm_rv x) := by rw [pm_ixD _ hx9]; cases x <;> rfl
        show W p l e R s m args below meth c H locs cells slots Q (F0 m (pc + 1) ls (va_rf ((l9.getD i.toNatClampNeg none).map (pm_ad B ra)) :: r.map _))
        rw [er]
        exact kk H locs hP hS hz
      · cases h
    · cases h
  · next x i a r =>
    split at h
    · next l9 hph =>
      split at h
      · next l8 hl8 =>
        obtain ⟨rfl, rfl, rfl, rfl, rfl⟩ := pm_five h
        obtain ⟨u1, rfl, u3⟩ := pm_up_ok hl8
        show W p l e R s m args below meth c H locs cells slots Q (F0 m pc ls (.int x :: .int i :: .ref (pm_ad B ra a) :: r.map _))
        rw [pm_adE hph]
        refine pm_iast hx hb hK hP hD hS (t0 := 0) (pm_getE hph) rfl u1 hd (fun H1 locs1 z hP1 hS1 => kk H1 locs1 ?_ hS1 (fun q => by rw [z, List.length_set]; exact hz q))
        rw [pm_ws_set]
        have e9 : pm_e (pm_ad B ra) dA (.inl (0, .inl (l9.set i.toNatClampNeg (x)))) = .inl (dA 0, l9.length, .inl (upd (fun j => l9.getD j 0) i.toNatClampNeg (x))) := by
          unfold pm_e
          simp only [List.length_set]
          rw [pm_setD _ _ _ _ u3]
          rfl
        rw [e9]
        exact hP1
      · cases h
    · cases h
  · next x i a r =>
    split at h
    · next l9 hph =>
      split at h
      · next l8 hl8 =>
        obtain ⟨rfl, rfl, rfl, rfl, rfl⟩ := pm_five h
        obtain ⟨u1, rfl, u3⟩ := pm_up_ok hl8
        show W p l e R s m args below meth c H locs cells slots Q (F0 m pc ls (.int x :: .int i :: .ref (pm_ad B ra a) :: r.map _))
        rw [pm_adE hph]
        refine pm_zast hx hb hK hP hD hS (t0 := 1) (pm_getE hph) rfl u1 hd (fun H1 locs1 z hP1 hS1 => kk H1 locs1 ?_ hS1 (fun q => by rw [z, List.length_set]; exact hz q))
        rw [pm_ws_set]
        have e9 : pm_e (pm_ad B ra) dA (.inl (1, .inl (l9.set i.toNatClampNeg (x &&& 1)))) = .inl (dA 1, l9.length, .inl (upd (fun j => l9.getD j 0) i.toNatClampNeg (x &&& 1))) := by
          unfold pm_e
          simp only [List.length_set]
          rw [pm_setD _ _ _ _ u3]
          rfl
        rw [e9]
        exact hP1
      · cases h
    · cases h
  · next x i a r =>
    split at h
    · next l9 hph =>
      split at h
      · next l8 hl8 =>
        obtain ⟨rfl, rfl, rfl, rfl, rfl⟩ := pm_five h
        obtain ⟨u1, rfl, u3⟩ := pm_up_ok hl8
        show W p l e R s m args below meth c H locs cells slots Q (F0 m pc ls (.long x :: .int i :: .ref (pm_ad B ra a) :: r.map _))
        rw [pm_adE hph]
        refine pm_last hx hb hK hP hD hS (t0 := 2) (pm_getE hph) rfl u1 hd (fun H1 locs1 z hP1 hS1 => kk H1 locs1 ?_ hS1 (fun q => by rw [z, List.length_set]; exact hz q))
        rw [pm_ws_set]
        have e9 : pm_e (pm_ad B ra) dA (.inl (2, .inr (.inl (l9.set i.toNatClampNeg (x))))) = .inl (dA 2, l9.length, .inr (.inl (vp_updL (fun j => l9.getD j 0) i.toNatClampNeg x))) := by
          unfold pm_e
          simp only [List.length_set]
          rw [pm_setD _ _ _ _ u3]
          rfl
        rw [e9]
        exact hP1
      · cases h
    · cases h
  · next v i a r =>
    split at h
    · next l9 hph =>
      split at h
      · next ci fs hpv =>
        split at h
        · next l8 hl8 =>
          obtain ⟨hq, h2⟩ := pm_bif h
          obtain ⟨rfl, rfl, rfl, rfl, rfl⟩ := pm_five (congrArg some h2)
          obtain ⟨u1, rfl, u3⟩ := pm_up_ok hl8
          have hci : ci = pm_eci K := Nat.eq_of_beq_eq_true hq
          obtain ⟨rr, hrr, -⟩ := hP v _ (pm_getE hpv)
          have hrE : rr.1 = E := (hE rr (by rw [← hci]; exact hrr)).1
          show W p l e R s m args below meth c H locs cells slots Q (F0 m pc ls (.ref (pm_ad B ra v) :: .int i :: .ref (pm_ad B ra a) :: r.map _))
          rw [pm_adE hph, pm_adE hpv]
          refine pm_aast hx hb hK hP hD hS (t0 := 4) (r := rr) (pm_getE hph) (by rw [hrE]; rfl) (pm_getE hpv) hrr u1 hd (fun H1 locs1 z hP1 hS1 => kk H1 locs1 ?_ hS1 (fun q => by rw [z, List.length_set]; exact hz q))
          rw [pm_ws_set]
          have ef : (fun j => ((l9.set i.toNatClampNeg (some v)).getD j none).map (pm_ad B ra)) = va_up (fun j => (l9.getD j none).map (pm_ad B ra)) i.toNatClampNeg (some (B + v)) := by
            have e8 := pm_setD l9 i.toNatClampNeg (some v) none u3
            funext j
            have e7 : (l9.set i.toNatClampNeg (some v)).getD j none = if j = i.toNatClampNeg then some v else l9.getD j none := congrFun e8 j
            rw [e7]
            by_cases hj : j = i.toNatClampNeg
            · simp [va_up, hj, pm_adE (B := B) (ra := ra) hpv]
            · simp [va_up, hj]
          have e9 : pm_e (pm_ad B ra) dA (.inl (4, .inr (.inr (l9.set i.toNatClampNeg (some v))))) = .inl (dA 4, l9.length, .inr (.inr (.inr (.inr (va_up (fun j => (l9.getD j none).map (pm_ad B ra)) i.toNatClampNeg (some (B + v))))))) := by
            unfold pm_e
            simp only [List.length_set]
            rw [ef]
          rw [e9]
          exact hP1
        · cases h
      · cases h
    · cases h
  · next i =>
    split at h
    · next ci n9 w hw =>
      obtain ⟨hq, h2⟩ := pm_bif h
      obtain ⟨rfl, rfl, rfl, rfl, rfl⟩ := pm_five (congrArg some h2)
      obtain ⟨h3, h4⟩ := pm_and hq
      obtain ⟨C, T, hc, hcl⟩ := (hlk _ _ _ _ _ hw).2.2.2.1 rfl
      obtain ⟨g1, g2, g3, g4, g5, g6, g7⟩ := hck _ _ _ _ hc
      have hKn := hK.1 ci _ hc
      have hlen : ph.length < 1048576 := Nat.lt_of_lt_of_le (Nat.le_of_ble_eq_true h4 : ph.length < 1048575) (by omega)
      refine W.newcK hx hb hown (hts _ hcl) (hts _ g5) (hts _ g6) rfl hd hR.1 hR.2 hKn.2.1 (hz h3) fun H1 kC hkC e1 z1 o1 => ?_
      rw [← hz h3] at e1 z1 o1
      have key := kk H1 locs ?_ (pm_growS hS z1 o1) (fun _ => by rw [z1, hz h3, List.length_append]; rfl)
      · show W p l e R s m args below meth c H1 locs (cells + 1) (slots + n9) Q (F0 m (pc + 3) ls (.ref (B + ph.length) :: st.map _))
        have key2 : W p l e R s m args below meth c H1 locs (cells + 1) (slots + n9) Q (F0 m (pc + 3) ls (.ref (pm_ad B ra ph.length) :: st.map (pm_u (pm_ad B ra)))) := key
        rw [pm_ad_lo hlen] at key2
        exact key2
      · rw [pm_ws_app, ← hz h3]
        exact pm_grow hP z1 o1 ⟨_, hc, (u_born _ hts g1 hKn hkC e1 g2).to (g4 (pm_ad B ra))⟩
    · cases h
  · next t x r =>
    cases hneg : decide (x < 0) with
    | true => rw [hneg] at h; cases h
    | false =>
      rw [hneg] at h
      simp only [cond_false] at h
      have hnn : ¬ x < 0 := of_decide_eq_false hneg
      split at h
      · next cel hcel =>
        obtain ⟨hq, h2⟩ := pm_bif h
        obtain ⟨rfl, rfl, rfl, rfl, rfl⟩ := pm_five (congrArg some h2)
        obtain ⟨h3, h4⟩ := pm_and hq
        obtain ⟨h5, h6⟩ := pm_and h4
        have hlen : ph.length < 1048576 := Nat.lt_of_lt_of_le (Nat.le_of_ble_eq_true h5 : ph.length < 1048575) (by omega)
        have hbig : x.toNatClampNeg ≤ 1000000 := Nat.le_of_ble_eq_true h6
        have fin : ∀ (H1 : Heap) (w : va_E), pm_e (pm_ad B ra) dA cel = w → va_at D cl (H.size, w) H1 → H1.size = H.size + 1 → (∀ q, q < H.size → H1[q]? = H[q]?) → W p l e R s m args below meth c H1 locs (cells + 1) (slots + x.toNatClampNeg) Q (F0 m (pc + 2) ls (.ref H.size :: r.map (pm_u (pm_ad B ra)))) := by
          intro H1 w ew hw z1 o1
          have key : W p l e R s m args below meth c H1 locs (cells + 1) (slots + x.toNatClampNeg) Q (F0 m (pc + 2) ls (.ref (pm_ad B ra ph.length) :: r.map (pm_u (pm_ad B ra)))) := kk H1 locs (by rw [pm_ws_app, ← hz h3, ew]; exact pm_grow hP z1 o1 hw) (pm_growS hS z1 o1) (fun _ => by rw [z1, hz h3, List.length_append]; rfl)
          rw [pm_ad_lo hlen, ← hz h3] at key
          exact key
        unfold pm_blank at hcel
        split at hcel
        · cases hcel
          refine va_newaK (atype := .int) hx hb (hts _ hbs.2.2.2.2.2.1) rfl hd rfl hnn rfl (by show x.toNatClampNeg * 4 ≤ _; omega) hR.1 hR.2 rfl fun H1 cA e1 z1 o1 hAr hNm => fin H1 _ rfl ?_ z1 o1
          have hcA : dA 0 = cA := Option.some.inj ((hK.2 0 _ rfl).2.symm.trans hNm)
          subst hcA
          unfold pm_e
          simp only [List.length_replicate]
          rw [pm_repD]
          exact e1
        · cases hcel
          refine va_newaK (atype := .boolean) hx hb (hts _ hbs.2.2.2.2.2.2.1) rfl hd rfl hnn rfl (by show x.toNatClampNeg * 1 ≤ _; omega) hR.1 hR.2 rfl fun H1 cA e1 z1 o1 hAr hNm => fin H1 _ rfl ?_ z1 o1
          have hcA : dA 1 = cA := Option.some.inj ((hK.2 1 _ rfl).2.symm.trans hNm)
          subst hcA
          unfold pm_e
          simp only [List.length_replicate]
          rw [pm_repD]
          exact e1
        · cases hcel
          refine va_newaK (atype := .long) hx hb (hts _ hbs.2.2.2.2.2.2.2.1) rfl hd rfl hnn rfl (by show x.toNatClampNeg * 8 ≤ _; omega) hR.1 hR.2 rfl fun H1 cA e1 z1 o1 hAr hNm => fin H1 _ rfl ?_ z1 o1
          have hcA : dA 2 = cA := Option.some.inj ((hK.2 2 _ rfl).2.symm.trans hNm)
          subst hcA
          unfold pm_e
          simp only [List.length_replicate]
          rw [pm_repD]
          exact e1
        · cases hcel
      · cases h
  · next i x r =>
    cases hneg : decide (x < 0) with
    | true => rw [hneg] at h; cases h
    | false =>
      rw [hneg] at h
      simp only [cond_false] at h
      have hnn : ¬ x < 0 := of_decide_eq_false hneg
      split at h
      · next ci w2 w3 hw =>
        obtain ⟨hq, h2⟩ := pm_bif h
        obtain ⟨rfl, rfl, rfl, rfl, rfl⟩ := pm_five (congrArg some h2)
        obtain ⟨h37, h4⟩ := pm_and hq
        obtain ⟨h3, h38⟩ := pm_and h37
        have hci : ci = pm_eci K := Nat.eq_of_beq_eq_true h38
        obtain ⟨h5, h6⟩ := pm_and h4
        have hlen : ph.length < 1048576 := Nat.lt_of_lt_of_le (Nat.le_of_ble_eq_true h5 : ph.length < 1048575) (by omega)
        have hbig : x.toNatClampNeg ≤ 1000000 := Nat.le_of_ble_eq_true h6
        obtain ⟨C, T, hc, hcl⟩ := (hlk _ _ _ _ _ hw).2.2.2.1 rfl
        rw [hci] at hc
        obtain ⟨hCE, hao⟩ := hE _ hc
        have hCE2 : C = E := hCE
        subst hCE2
        refine W.anew hx hb hown (hts _ hcl) (va_AO.use (hRO.2.2.2.2.1 _ hao)) rfl hd rfl hnn (by omega) hR.1 hR.2 fun cA kA comp f1 f2 f3 f4 => ?_
        have hcA : dA 4 = cA := by
          obtain ⟨_, _, _, _, _, hfc⟩ := (hK.2 4 _ rfl).2
          exact Option.some.inj (hfc.symm.trans f1)
        subst hcA
        generalize hH1 : H.push ({ cls := dA 4, slots := Array.replicate x.toNatClampNeg .null, vm := .none } : Cell) = H1
        have z1 : H1.size = H.size + 1 := by rw [← hH1, Array.size_push]
        have e1 : H1[H.size]? = some (arrV (dA 4) x.toNatClampNeg (fun _ => .null)) := by rw [← hH1, Array.getElem?_push_size, ← arrV_new]
        have o1 : ∀ q : Nat, q < H.size → H1[q]? = H[q]? := fun q hq => by rw [← hH1, Array.getElem?_push, if_neg (Nat.ne_of_lt hq)]
        have key : W p l e R s m args below meth c H1 locs (cells + 1) (slots + x.toNatClampNeg) Q (F0 m (pc + 3) ls (.ref (pm_ad B ra ph.length) :: r.map (pm_u (pm_ad B ra)))) := kk H1 locs (by rw [pm_ws_app, ← hz h3]; exact pm_grow hP z1 o1 (by unfold pm_e; simp only [List.length_replicate]; rw [show (fun j => ((List.replicate x.toNatClampNeg (none : Option Nat)).getD j none).map (pm_ad B ra)) = fun _ => none from funext fun j => by rw [congrFun (pm_repD x.toNatClampNeg (none : Option Nat)) j]; rfl]; exact e1)) (pm_growS hS z1 o1) (fun _ => by rw [z1, hz h3, List.length_append]; rfl)
        rw [pm_ad_lo hlen, ← hz h3] at key
        exact key
      · cases h
  · next i a r =>
    split at h
    · next w1 w2 w3 hw =>
      obtain ⟨hq, h2⟩ := pm_bif h
      obtain ⟨rfl, rfl, rfl, rfl, rfl⟩ := pm_five (congrArg some h2)
      have h8 : (r.map fun v => v.category).sum ≤ 8 := Nat.le_of_ble_eq_true hq
      refine W.objInit hx hb hown (hts _ ((hlk _ _ _ _ _ hw).2.2.2.2.2.2.2.2.1 rfl)) (hts _ hbs.1) (hts _ hbs.2.1) rfl hml rfl hd hfr ?_ (kk H locs hP hS hz)
      show 2 * 0 + ((r.map (pm_u (pm_ad B ra))).map fun v => v.category).sum + 12 ≤ R.locals
      rw [pm_u_sum]
      omega
    · cases h
  · next s0 i =>
    split at h
    · next w1 w2 w3 hw =>
      split at h
      · next x dp b sp a r =>
        split at h
        · next f g hpa hpb =>
          obtain ⟨hq, h2⟩ := pm_bif h
          obtain ⟨rfl, rfl, rfl, rfl, rfl⟩ := pm_five (congrArg some h2)
          obtain ⟨h3, h4⟩ := pm_and hq
          obtain ⟨h5, h6⟩ := pm_and h4
          obtain ⟨h7, h8⟩ := pm_and h5
          obtain ⟨h9, h10⟩ := pm_and h8
          obtain ⟨h11, h12⟩ := pm_and h6
          obtain ⟨h13, h14⟩ := pm_and h11
          have hal : al = false := by cases al with
            | false => rfl
            | true => cases h3
          have nd : ∀ {P : Prop} {_ : Decidable P}, (!decide P) = true → ¬ P := fun {P} {_} q z => by rw [show decide P = true from decide_eq_true z] at q; cases q
          show W p l e R s m args below meth c H locs cells slots Q (F0 m pc ls (.int x :: .int dp :: .ref (pm_ad B ra b) :: .int sp :: .ref (pm_ad B ra a) :: r.map _))
          rw [pm_adE hpa, pm_adE hpb]
          refine va_copyi hx hb hml.symm hown (hts _ ((hlk _ _ _ _ _ hw).2.2.2.2.2.2.2.2.2.1 rfl)) (hts _ hbs.2.2.1) (hts _ hbs.2.2.2.1) (hts _ hbs.2.2.2.2.1) hK hP hD hS a b 0 0 (pm_getE hpa) (pm_getE hpb) rfl rfl rfl (nd h7) (nd h9) (nd h10) (Nat.le_of_ble_eq_true h13) (Nat.le_of_ble_eq_true h14) (fun _ _ => rfl) hfr ?_ hd (fun H1 locs1 hP1 _ hS1 => kk H1 locs1 ?_ hS1 (fun q => by rw [hal] at q; cases q))
          rotate_left
          · rw [pm_ws_set]
            have e9 : pm_e (pm_ad B ra) dA (.inl (0, .inl (pm_cpy f g sp.toNatClampNeg dp.toNatClampNeg x.toNatClampNeg))) = .inl (dA 0, g.length, .inl (va_cpy (fun j => f.getD j 0) (fun j => g.getD j 0) sp.toNatClampNeg dp.toNatClampNeg x.toNatClampNeg)) := by
              unfold pm_e
              simp only [pm_cpy_len (Nat.le_of_ble_eq_true h13) (Nat.le_of_ble_eq_true h14)]
              rw [pm_cpyD 0 (Nat.le_of_ble_eq_true h13) (Nat.le_of_ble_eq_true h14)]
            rw [e9]
            exact hP1
          rw [pm_u_sum]
          have h8 : (r.map fun v => v.category).sum ≤ 8 := Nat.le_of_ble_eq_true h12
          omega
        · cases h
      · cases h
    · next w1 w2 w3 hw =>
      split at h
      · next y x r =>
        obtain ⟨hq, h2⟩ := pm_bif h
        obtain ⟨rfl, rfl, rfl, rfl, rfl⟩ := pm_five (congrArg some h2)
        have h8 : (r.map fun v => v.category).sum ≤ 8 := Nat.le_of_ble_eq_true hq
        refine va_mmax hx hb hml.symm hown (hts _ ((hlk _ _ _ _ _ hw).2.2.2.2.2.2.2.2.2.2.2.2.2.2.1 rfl)) (hts _ hbs.2.2.2.2.2.2.2.2.2.1) (hts _ hbs.2.2.2.2.2.2.2.2.1) (hts _ hbs.2.2.2.2.2.2.2.2.2.2.2.2.1) hfr ?_ hR.1 hR.2 hd (kk H locs hP hS hz)
        rw [pm_u_sum]
        omega
      · cases h
    · next w1 w2 w3 hw =>
      split at h
      · next y x r =>
        obtain ⟨hq, h2⟩ := pm_bif h
        obtain ⟨rfl, rfl, rfl, rfl, rfl⟩ := pm_five (congrArg some h2)
        have h8 : (r.map fun v => v.category).sum ≤ 8 := Nat.le_of_ble_eq_true hq
        refine va_mmin hx hb hml.symm hown (hts _ ((hlk _ _ _ _ _ hw).2.2.2.2.2.2.2.2.2.2.2.2.2.2.2.1 rfl)) (hts _ hbs.2.2.2.2.2.2.2.2.2.2.1) (hts _ hbs.2.2.2.2.2.2.2.2.1) (hts _ hbs.2.2.2.2.2.2.2.2.2.2.2.2.2.1) hfr ?_ hR.1 hR.2 hd (kk H locs hP hS hz)
        rw [pm_u_sum]
        omega
      · cases h
    · next w1 w2 w3 hw =>
      split at h
      · next x r =>
        obtain ⟨hq, h2⟩ := pm_bif h
        obtain ⟨rfl, rfl, rfl, rfl, rfl⟩ := pm_five (congrArg some h2)
        have h8 : (r.map fun v => v.category).sum ≤ 8 := Nat.le_of_ble_eq_true hq
        refine va_mabs hx hb hml.symm hown (hts _ ((hlk _ _ _ _ _ hw).2.2.2.2.2.2.2.2.2.2.2.2.2.2.2.2 rfl)) (hts _ hbs.2.2.2.2.2.2.2.2.2.2.2.1) (hts _ hbs.2.2.2.2.2.2.2.2.1) (hts _ hbs.2.2.2.2.2.2.2.2.2.2.2.2.2.2) hfr ?_ hR.1 hR.2 hd (kk H locs hP hS hz)
        rw [pm_u_sum]
        omega
      · cases h
    · cases h
  · cases h
end PMM
