/-! what looks answer: watch; printed by wip/z/z3d_looks.py -/
noncomputable def zUm (V : Nat → Int64) (m : Nat) : Nat → Int64
  | 0 => Int64.ofNat kG0
  | k + 1 => bif m.testBit k then zUm V m k ||| V k else zUm V m k
noncomputable def zOw (E : zEn) (P : Nat) (v : Nat → Nat) (m : Nat) : Bool := decide (zUm (zVw E P v) m P = zAll E P v)
def zWm (ok : Nat → Bool) (c : Nat → Nat) : Nat → Nat
  | 0 => 99
  | k + 1 => bif ok k && decide (c k < zWm ok c k) then c k else zWm ok c k
theorem zWm_t {ok : Nat → Bool} {c : Nat → Nat} {k : Nat} (h : ok k = true) (h2 : c k < zWm ok c k) : zWm ok c (k + 1) = c k := by
  show (bif ok k && decide (c k < zWm ok c k) then c k else zWm ok c k) = _
  rw [h, decide_eq_true h2]
  rfl
theorem zWm_f {ok : Nat → Bool} {c : Nat → Nat} {k : Nat} (h : ok k = false ∨ ¬ c k < zWm ok c k) : zWm ok c (k + 1) = zWm ok c k := by
  show (bif ok k && decide (c k < zWm ok c k) then c k else zWm ok c k) = _
  rcases h with h | h
  · rw [h]; rfl
  · rw [decide_eq_false h, Bool.and_false]; rfl
theorem zWm_s {ok : Nat → Bool} {c : Nat → Nat} : ∀ n, (∀ m, m < n → ok m = true → zWm ok c n ≤ c m) ∧ (zWm ok c n = 99 ∨ ∃ m, m < n ∧ ok m = true ∧ zWm ok c n = c m) := by
  intro n
  induction n with
  | zero => exact ⟨fun m hm => absurd hm (Nat.not_lt_zero m), Or.inl rfl⟩
  | succ n ih =>
    by_cases h : ok n = true ∧ c n < zWm ok c n
    · rw [zWm_t h.1 h.2]
      refine ⟨fun m hm ho => ?_, Or.inr ⟨n, by omega, h.1, rfl⟩⟩
      by_cases e : m = n
      · subst e; exact Nat.le_refl _
      · have h3 := ih.1 m (by omega) ho
        have h4 := h.2
        omega
    · have hf : ok n = false ∨ ¬ c n < zWm ok c n := by
        cases ho : ok n with
        | false => exact Or.inl rfl
        | true => exact Or.inr (fun q => h ⟨ho, q⟩)
      rw [zWm_f hf]
      refine ⟨fun m hm ho => ?_, ?_⟩
      · by_cases e : m = n
        · subst e
          rcases hf with hf | hf
          · rw [ho] at hf; cases hf
          · omega
        · exact ih.1 m (by omega) ho
      · rcases ih.2 with h1 | ⟨m, h1, h2, h3⟩
        · exact Or.inl h1
        · exact Or.inr ⟨m, by omega, h2, h3⟩
theorem zWm_e {ok : Nat → Bool} {c : Nat → Nat} {n b : Nat} (hb : b < n) (ho : ok b = true) (h8 : c b ≤ 8) (hm : ∀ m, m < n → ok m = true → c b ≤ c m) : zWm ok c n = c b := by
  obtain ⟨h1, h2⟩ := zWm_s (ok := ok) (c := c) n
  have h3 := h1 b hb ho
  rcases h2 with h2 | ⟨m, h4, h5, h6⟩
  · omega
  · have h7 := hm m h4 h5
    omega
theorem zp2 : ∀ p, p ≤ 8 → 1 ≤ 2 ^ p ∧ 2 ^ p ≤ 256 := by decide
theorem zm2 : ∀ p, p ≤ 8 → ((Int32.ofInt 1) <<< ((zn p) &&& 31)) - (Int32.ofInt 1) = zn (2 ^ p - 1) := by decide +kernel
theorem zm3 : ∀ p, p ≤ 8 → (Int32.ofInt 1) <<< ((zn p) &&& 31) = zn (2 ^ p) := by decide +kernel
theorem zbt : ∀ m, m < 256 → ∀ t, t < 8 → zb (zn m).toInt64 t = m.testBit t := by decide +kernel
theorem zdt : ∀ m, m < 256 → ∀ t, t < 8 → ((((zn m) >>> ((zn t) &&& 31)) &&& (Int32.ofInt 1)).toInt = (Int32.ofInt 1).toInt ↔ m.testBit t = true) := by decide +kernel
theorem zfull : ∀ p, p ≤ 8 → ∀ k, k < p → (2 ^ p - 1).testBit k = true := by decide +kernel
theorem zorW {x : Int64} : x ||| (Int64.ofNat kG0) = x := by
  apply zb_ext
  intro k hk
  rw [zb_or, (show ∀ k, k < 64 → zb (Int64.ofNat kG0) k = false by decide +kernel) k hk, Bool.or_false]
theorem zUm_full {V : Nat → Int64} {m : Nat} : ∀ n, (∀ k, k < n → m.testBit k = true) → zUm V m n = zU V n := by
  intro n
  induction n with
  | zero => intro _; rfl
  | succ n ih =>
    intro h
    show (bif m.testBit n then zUm V m n ||| V n else zUm V m n) = zU V n ||| V n
    rw [h n (by omega), ih (fun k hk => h k (by omega))]
    rfl
theorem zOw_full {E : zEn} {P : Nat} {v : Nat → Nat} (hP : P ≤ 8) : zOw E P v (2 ^ P - 1) = true := decide_eq_true (zUm_full P (zfull P hP))
theorem zOw_t {E : zEn} {P m : Nat} {v : Nat → Nat} (h : (lg_cmp (zUm (zVw E P v) m P) (zAll E P v)).toInt = 0) : zOw E P v m = true := by
  apply decide_eq_true
  rcases zcmp (x := zUm (zVw E P v) m P) (y := zAll E P v) with ⟨-, h2⟩ | ⟨h2, -⟩ | ⟨-, h2⟩
  · omega
  · exact h2
  · omega
theorem zOw_f {E : zEn} {P m : Nat} {v : Nat → Nat} (h : (lg_cmp (zUm (zVw E P v) m P) (zAll E P v)).toInt ≠ 0) : zOw E P v m = false := by
  apply decide_eq_false
  intro e
  rcases zcmp (x := zUm (zVw E P v) m P) (y := zAll E P v) with ⟨h2, -⟩ | ⟨-, h2⟩ | ⟨h2, -⟩
  · rw [e] at h2; omega
  · exact h h2
  · rw [e] at h2; omega
theorem zdecJ {m : Nat} (h : m < 1000) : (zn m + Int32.ofInt (-1)).toInt = ((m : Nat) : Int) + (-1 : Int) := by
  have e : (Int32.ofInt (-1)).toInt = -1 := by decide
  have t := znt (k := m) (by omega)
  rw [ti_add (by rw [t, e]; omega) (by rw [t, e]; omega), t, e]
noncomputable def zXwat (E : zEn) (P : Nat) (v : Nat → Nat) : Int32 := if zWm (zOw E P v) zpn (2 ^ P) = 99 then zpc (Int32.ofInt (-1)) else zn (zWm (zOw E P v) zpn (2 ^ P))
theorem zc_viewT {ph : pm_H} {E : zEn} {F S P G : Nat} {v : Nat → Nat} (hS : zSh ph) (hE : zCe ph E F) (ht : zCt ph S P G v) (hO : zOk E.1 E.2.1 P G v) (hvw : ∀ i, i < P → zc ph 23 i = some (.long (zVw E P v i))) {m : Nat} (hm : m < 256) : zM 87 [.ref 10, .ref S, .int (zn m)] ph (fun v0 q => ph = q ∧ v0 = some (.long (zUm (zVw E P v) m P))) := by
  obtain ⟨Q, hQ⟩ : ∃ Q : Option Value → pm_H → Prop, Q = (fun v0 q => ph = q ∧ v0 = some (.long (zUm (zVw E P v) m P))) := ⟨_, rfl⟩
  rw [← hQ]
  refine zM_mk fun n D => ?_
  show zW n D 87 Q 0 [some (.ref 10), some (.ref S), some (.int (zn m)), none, none, none] [] ph
  have c_0 : ((Int8.ofInt 8).toInt32).toInt = 8 := by decide
  have c_1 : (Int32.ofInt 0).toInt = 0 := by decide
  have c_2 : (Int32.ofInt 1).toInt = 1 := by decide
  obtain ⟨R, C, rk, sn, sk, cn, cd⟩ := E
  have hL0 : zCl ph R C rk := hE.1
  have hi0 : zCi ph sn sk := hE.2.1
  have hF : F = 11 ∨ F = 16 := hE.2.2.2
  have hE0 : zCe ph (R, C, rk, sn, sk, cn, cd) F := hE
  have hO0 : zOk R C P G v := hO
  have hL := hL0
  have hs := ht.1.2
  have hd := ht.2
  have h25 := ht.1.1
  obtain ⟨gR, gC, gN, gK, gA, hR3, hR7, hC3, hC7⟩ := hL
  have hRC := zRC49 hR7 hC7
  have tR := znt (k := R) (by omega)
  have tC := znt (k := C) (by omega)
  have tRC := znt (k := R * C) (by omega)
  have hd0 := hd
  have hs0 := hs
  obtain ⟨r3, r4, r5, r6, r7, l1, l2, l3, l4, l5⟩ := hs
  obtain ⟨gP, hP8, gG, hG8, gH, gv, gw⟩ := hd
  have tP := znt (k := P) (by omega)
  have tG := znt (k := G) (by omega)
  have h40 := hO0.2.2
  have t40 := znt (k := v 40) (by omega)
  have tm := znt (k := m) (by omega)
  refine w_alu (pc' := 1) (st' := [.long (Int64.ofNat kG0)]) (ykc_87 (e := (0, .lconst kG0, 0)) rfl) rfl rfl ?_
  refine w_store (pc' := 2) (L' := [some (.ref 10), some (.ref S), some (.int (zn m)), some (.long (Int64.ofNat kG0)), none, none]) (st' := []) (m := 1) (ykc_87 (e := (3, .lstore_n kF3, 0)) rfl) rfl rfl ?_
  refine w_alu (pc' := 3) (st' := [.int (Int32.ofInt 0)]) (ykc_87 (e := (0, .iconst 0, 0)) rfl) rfl rfl ?_
  refine w_store (pc' := 5) (L' := [some (.ref 10), some (.ref S), some (.int (zn m)), some (.long (Int64.ofNat kG0)), none, some (.int (Int32.ofInt 0))]) (st' := []) (m := 2) (ykc_87 (e := (3, .istore 5, 0)) rfl) rfl rfl ?_
  have hl : ∀ (n : Nat), ∀ (k : Nat), (k ≤ P) → zW n D 87 Q 5 [some (.ref 10), some (.ref S), some (.int (zn m)), some (.long (zUm (zVw (R, C, rk, sn, sk, cn, cd) P v) m k)), none, some (.int (zn k))] [] ph := by
    intro n
    induction n using Nat.strongRecOn with
    | ind n ih =>
      intro k hk
      have tk := znt (k := k) (by omega)
      refine w_load (pc' := 7) (v := .int (zn k)) (m := 2) (ykc_87 (e := (2, .iload 5, 0)) rfl) rfl rfl ?_
      refine w_load (pc' := 8) (v := .ref S) (m := 1) (ykc_87 (e := (2, .aload_n kF1, 0)) rfl) rfl rfl ?_
      refine w_gf (pc' := 11) (v := .int (zn P)) (ykc_87 (e := (5, .getfield 122, 0)) rfl) rfl gP rfl ?_
      refine w_ige (ykc_87 (e := (4, .if_icmp .ge 36, 47)) rfl) rfl (fun b1302 => ?_) (fun b1302 => ?_)
      · refine w_load (pc' := 48) (v := .long (zUm (zVw (R, C, rk, sn, sk, cn, cd) P v) m k)) (m := 1) (ykc_87 (e := (2, .lload_n kF3, 0)) rfl) rfl rfl ?_
        refine w_ret (v := (some (.long (zUm (zVw (R, C, rk, sn, sk, cn, cd) P v) m k)))) (ykc_87 (e := (7, .lreturn, 0)) rfl) (zr_v rfl) ?_
        have ek : P = k := by omega
        subst ek
        rw [hQ]
        exact ⟨rfl, rfl⟩
      · refine w_load (pc' := 16) (v := .int (zn k)) (m := 2) (ykc_87 (e := (2, .iload 5, 0)) rfl) rfl rfl ?_
        refine w_push (pc' := 18) (v := .int ((Int8.ofInt 8).toInt32)) (m := 2) (ykc_87 (e := (1, .bipush 8, 0)) rfl) rfl rfl ?_
        refine w_ige (ykc_87 (e := (4, .if_icmp .ge 29, 47)) rfl) rfl (fun q => by exfalso; omega) (fun b1303 => ?_)
        refine w_load (pc' := 22) (v := .int (zn m)) (m := 1) (ykc_87 (e := (2, .iload_n kF2, 0)) rfl) rfl rfl ?_
        refine w_load (pc' := 24) (v := .int (zn k)) (m := 2) (ykc_87 (e := (2, .iload 5, 0)) rfl) rfl rfl ?_
        refine w_alu (pc' := 25) (st' := [.int ((zn m) >>> ((zn k) &&& 31))]) (ykc_87 (e := (0, .ishr, 0)) rfl) rfl rfl ?_
        refine w_alu (pc' := 26) (st' := [.int (Int32.ofInt 1), .int ((zn m) >>> ((zn k) &&& 31))]) (ykc_87 (e := (0, .iconst 1, 0)) rfl) rfl rfl ?_
        refine w_alu (pc' := 27) (st' := [.int (((zn m) >>> ((zn k) &&& 31)) &&& (Int32.ofInt 1))]) (ykc_87 (e := (0, .iand, 0)) rfl) rfl rfl ?_
        refine w_alu (pc' := 28) (st' := [.int (Int32.ofInt 1), .int (((zn m) >>> ((zn k) &&& 31)) &&& (Int32.ofInt 1))]) (ykc_87 (e := (0, .iconst 1, 0)) rfl) rfl rfl ?_
        refine w_ine (ykc_87 (e := (4, .if_icmp .ne 13, 41)) rfl) rfl (fun b1304 => ?_) (fun b1304 => ?_)
        · have e1305 : (zn k) + Int32.ofInt 1 = zn (k + 1) := (zaddN (a := k) (b := 1) (znt (by omega)) c_2 (by omega))
          have te1305 := znt (k := k + 1) (by omega)
          refine w_store (pc' := 44) (L' := [some (.ref 10), some (.ref S), some (.int (zn m)), some (.long (zUm (zVw (R, C, rk, sn, sk, cn, cd) P v) m k)), none, some (.int (zn (k + 1)))]) (st' := []) (m := 3) (ykc_87 (e := (3, .iinc 5 1, 0)) rfl) (by rw [← e1305]; rfl) rfl ?_
          refine w_gb (ykc_87 (e := (4, .goto (-39), 5)) rfl) (fun k1306 hk1306 => ?_)
          have hbt : m.testBit k = false := by
            cases hz : m.testBit k with
            | false => rfl
            | true => exact absurd ((zdt m hm k (by omega)).mpr hz) b1304
          have et : zUm (zVw (R, C, rk, sn, sk, cn, cd) P v) m (k + 1) = zUm (zVw (R, C, rk, sn, sk, cn, cd) P v) m k := by
            show (bif m.testBit k then zUm (zVw (R, C, rk, sn, sk, cn, cd) P v) m k ||| zVw (R, C, rk, sn, sk, cn, cd) P v k else zUm (zVw (R, C, rk, sn, sk, cn, cd) P v) m k) = _
            rw [hbt]
            rfl
          have h9 := ih k1306 hk1306 (k + 1) (by omega)
          rw [et] at h9
          exact h9
        · refine w_load (pc' := 32) (v := .long (zUm (zVw (R, C, rk, sn, sk, cn, cd) P v) m k)) (m := 1) (ykc_87 (e := (2, .lload_n kF3, 0)) rfl) rfl rfl ?_
          refine w_load (pc' := 33) (v := .ref 10) (m := 1) (ykc_87 (e := (2, .aload_n kF0, 0)) rfl) rfl rfl ?_
          refine w_gf (pc' := 36) (v := .ref 23) (ykc_87 (e := (5, .getfield 36, 0)) rfl) rfl (zsg hS zs_10_6) rfl ?_
          refine w_load (pc' := 38) (v := .int (zn k)) (m := 2) (ykc_87 (e := (2, .iload 5, 0)) rfl) rfl rfl ?_
          refine w_lalk (pc' := 39) (k := k) (ykc_87 (e := (5, .laload, 0)) rfl) (hvw k (by omega)) (by omega) rfl ?_
          refine w_alu (pc' := 40) (st' := [.long ((zUm (zVw (R, C, rk, sn, sk, cn, cd) P v) m k) ||| (zVw (R, C, rk, sn, sk, cn, cd) P v k))]) (ykc_87 (e := (0, .lor, 0)) rfl) rfl rfl ?_
          refine w_store (pc' := 41) (L' := [some (.ref 10), some (.ref S), some (.int (zn m)), some (.long ((zUm (zVw (R, C, rk, sn, sk, cn, cd) P v) m k) ||| (zVw (R, C, rk, sn, sk, cn, cd) P v k))), none, some (.int (zn k))]) (st' := []) (m := 1) (ykc_87 (e := (3, .lstore_n kF3, 0)) rfl) rfl rfl ?_
          have e1307 : (zn k) + Int32.ofInt 1 = zn (k + 1) := (zaddN (a := k) (b := 1) (znt (by omega)) c_2 (by omega))
          have te1307 := znt (k := k + 1) (by omega)
          refine w_store (pc' := 44) (L' := [some (.ref 10), some (.ref S), some (.int (zn m)), some (.long ((zUm (zVw (R, C, rk, sn, sk, cn, cd) P v) m k) ||| (zVw (R, C, rk, sn, sk, cn, cd) P v k))), none, some (.int (zn (k + 1)))]) (st' := []) (m := 3) (ykc_87 (e := (3, .iinc 5 1, 0)) rfl) (by rw [← e1307]; rfl) rfl ?_
          refine w_gb (ykc_87 (e := (4, .goto (-39), 5)) rfl) (fun k1308 hk1308 => ?_)
          have hbt : m.testBit k = true := by
            exact (zdt m hm k (by omega)).mp b1304
          have et : zUm (zVw (R, C, rk, sn, sk, cn, cd) P v) m (k + 1) = (zUm (zVw (R, C, rk, sn, sk, cn, cd) P v) m k) ||| (zVw (R, C, rk, sn, sk, cn, cd) P v k) := by
            show (bif m.testBit k then zUm (zVw (R, C, rk, sn, sk, cn, cd) P v) m k ||| zVw (R, C, rk, sn, sk, cn, cd) P v k else zUm (zVw (R, C, rk, sn, sk, cn, cd) P v) m k) = _
            rw [hbt]
            rfl
          have h9 := ih k1308 hk1308 (k + 1) (by omega)
          rw [et] at h9
          exact h9
  exact hl n 0 (Nat.zero_le _)
theorem zc_watX {ph : pm_H} {E : zEn} {F P G : Nat} {v : Nat → Nat} (hS : zSh ph) (hE : zCe ph E F) (ht : zCt ph 25 P G v) (hO : zOk E.1 E.2.1 P G v) (hr : zc ph 10 1 = some (.ref F)) (hc : zCc ph E.1 E.2.1 E.2.2.1) : zM 153 [.ref 0] ph (fun v0 _ => v0 = some (.int (zXwat E P v))) := by
  obtain ⟨Q, hQ⟩ : ∃ Q : Option Value → pm_H → Prop, Q = (fun v0 _ => v0 = some (.int (zXwat E P v))) := ⟨_, rfl⟩
  rw [← hQ]
  refine zM_mk fun n D => ?_
  show zW n D 153 Q 0 [some (.ref 0), none, none, none, none, none] [] ph
  have c_0 : (Int32.ofInt (-1)).toInt = -1 := by decide
  have c_1 : (Int32.ofInt 0).toInt = 0 := by decide
  have c_2 : (Int32.ofInt 1).toInt = 1 := by decide
  obtain ⟨R, C, rk, sn, sk, cn, cd⟩ := E
  have hL0 : zCl ph R C rk := hE.1
  have hi0 : zCi ph sn sk := hE.2.1
  have hF : F = 11 ∨ F = 16 := hE.2.2.2
  have hE0 : zCe ph (R, C, rk, sn, sk, cn, cd) F := hE
  have hO0 : zOk R C P G v := hO
  have hL := hL0
  have hs := ht.1.2
  have hd := ht.2
  have h25 := ht.1.1
  obtain ⟨gR, gC, gN, gK, gA, hR3, hR7, hC3, hC7⟩ := hL
  have hRC := zRC49 hR7 hC7
  have tR := znt (k := R) (by omega)
  have tC := znt (k := C) (by omega)
  have tRC := znt (k := R * C) (by omega)
  have hd0 := hd
  have hs0 := hs
  obtain ⟨r3, r4, r5, r6, r7, l1, l2, l3, l4, l5⟩ := hs
  obtain ⟨gP, hP8, gG, hG8, gH, gv, gw⟩ := hd
  have tP := znt (k := P) (by omega)
  have tG := znt (k := G) (by omega)
  have h40 := hO0.2.2
  have t40 := znt (k := v 40) (by omega)
  have hc0 := hc
  obtain ⟨N, hN2⟩ : ∃ N, N = 2 ^ P := ⟨_, rfl⟩
  have hN256 : 1 ≤ N ∧ N ≤ 256 := by rw [hN2]; exact zp2 P (by omega)
  refine w_load (pc' := 1) (v := .ref 0) (m := 1) (ykc_153 (e := (2, .aload_n kF0, 0)) rfl) rfl rfl ?_
  refine w_gf (pc' := 4) (v := .ref 10) (ykc_153 (e := (5, .getfield 35, 0)) rfl) rfl (zsg hS zs_0_3) rfl ?_
  refine w_load (pc' := 5) (v := .ref 0) (m := 1) (ykc_153 (e := (2, .aload_n kF0, 0)) rfl) rfl rfl ?_
  refine w_gf (pc' := 8) (v := .ref 25) (ykc_153 (e := (5, .getfield 42, 0)) rfl) rfl (zsg hS zs_0_4) rfl ?_
  refine w_cv (as := [.ref 10, .ref 25]) (r := []) (ykc_153 (e := (6, .invokevirtual 208, 0)) rfl) rfl rfl rfl rfl (zc_lookR hS hE0 ht hO0 hr hc0) (fun v1311 ph1312 hv => ?_)
  obtain ⟨f1309, hc1310, hvw, rfl⟩ := hv
  show zW n D 153 Q 11 [some (.ref 0), none, none, none, none, none] [.long (zAll (R, C, rk, sn, sk, cn, cd) P v)] ph1312
  refine w_store (pc' := 12) (L' := [some (.ref 0), some (.long (zAll (R, C, rk, sn, sk, cn, cd) P v)), none, none, none, none]) (st' := []) (m := 1) (ykc_153 (e := (3, .lstore_n kF1, 0)) rfl) rfl rfl ?_
  refine w_alu (pc' := 13) (st' := [.int (Int32.ofInt 1)]) (ykc_153 (e := (0, .iconst 1, 0)) rfl) rfl rfl ?_
  refine w_load (pc' := 14) (v := .ref 0) (m := 1) (ykc_153 (e := (2, .aload_n kF0, 0)) rfl) rfl rfl ?_
  refine w_gf (pc' := 17) (v := .ref 25) (ykc_153 (e := (5, .getfield 42, 0)) rfl) rfl ((f1309.1 0 4 (by decide) (by decide)).trans (zsg hS zs_0_4)) rfl ?_
  refine w_gf (pc' := 20) (v := .int (zn P)) (ykc_153 (e := (5, .getfield 130, 0)) rfl) rfl ((f1309.1 25 0 (by decide) (by decide)).trans gP) rfl ?_
  refine w_alu (pc' := 21) (st' := [.int ((Int32.ofInt 1) <<< ((zn P) &&& 31))]) (ykc_153 (e := (0, .ishl, 0)) rfl) rfl rfl ?_
  refine w_alu (pc' := 22) (st' := [.int (Int32.ofInt 1), .int ((Int32.ofInt 1) <<< ((zn P) &&& 31))]) (ykc_153 (e := (0, .iconst 1, 0)) rfl) rfl rfl ?_
  have e1313 : ((Int32.ofInt 1) <<< ((zn P) &&& 31)) - (Int32.ofInt 1) = zn (N - 1) := (by rw [hN2]; exact zm2 P (by omega))
  have te1313 := znt (k := N - 1) (by omega)
  refine w_alu (pc' := 23) (st' := [.int (zn (N - 1))]) (ykc_153 (e := (0, .isub, 0)) rfl) (by show some ([.int (((Int32.ofInt 1) <<< ((zn P) &&& 31)) - (Int32.ofInt 1))] : List Value) = _; rw [e1313]) rfl ?_
  refine w_store (pc' := 24) (L' := [some (.ref 0), some (.long (zAll (R, C, rk, sn, sk, cn, cd) P v)), none, some (.int (zn (N - 1))), none, none]) (st' := []) (m := 1) (ykc_153 (e := (3, .istore_n kF3, 0)) rfl) rfl rfl ?_
  refine w_load (pc' := 25) (v := .int (zn (N - 1))) (m := 1) (ykc_153 (e := (2, .iload_n kF3, 0)) rfl) rfl rfl ?_
  refine w_alu (pc' := 26) (st' := [.int (Int32.ofInt 1), .int (zn (N - 1))]) (ykc_153 (e := (0, .iconst 1, 0)) rfl) rfl rfl ?_
  obtain ⟨z1314, e_z1314, h_z1314⟩ : ∃ zq : Int32, (zn (N - 1)) - (Int32.ofInt 1) = zq ∧ zq.toInt = ((N - 1 : Nat) : Int) - (1 : Int) := ⟨_, rfl, (by have := ti_sub (x := (zn (N - 1))) (y := (Int32.ofInt 1)) (by omega) (by omega); omega)⟩
  refine w_alu (pc' := 27) (st' := [.int z1314]) (ykc_153 (e := (0, .isub, 0)) rfl) (by rw [← e_z1314]; rfl) rfl ?_
  refine w_store (pc' := 29) (L' := [some (.ref 0), some (.long (zAll (R, C, rk, sn, sk, cn, cd) P v)), none, some (.int (zn (N - 1))), some (.int z1314), none]) (st' := []) (m := 2) (ykc_153 (e := (3, .istore 4, 0)) rfl) rfl rfl ?_
  have hS9 := (zCx_S f1309 hS)
  have hfull : zOw (R, C, rk, sn, sk, cn, cd) P v (N - 1) = true := by rw [hN2]; exact zOw_full (by omega)
  have hl : ∀ (n : Nat), ∀ (b k : Nat) (y : Int32) (o5 : Option Value), (b < N) → ((zOw (R, C, rk, sn, sk, cn, cd) P v) b = true) → (k ≤ N - 1) → (y.toInt = (k : Int) - 1) → (∀ m, k ≤ m → m < N → (zOw (R, C, rk, sn, sk, cn, cd) P v) m = true → zpn b ≤ zpn m) → zW n D 153 Q 29 [some (.ref 0), some (.long (zAll (R, C, rk, sn, sk, cn, cd) P v)), none, some (.int (zn b)), some (.int y), o5] [] ph1312 := by
    intro n
    induction n using Nat.strongRecOn with
    | ind n ih =>
      intro b k y o5 hb ob hk hy hmin
      have tb := znt (k := b) (by omega)
      refine w_load (pc' := 31) (v := .int y) (m := 2) (ykc_153 (e := (2, .iload 4, 0)) rfl) rfl rfl ?_
      refine w_zlt (ykc_153 (e := (4, .ifCond .lt 54, 85)) rfl) rfl (fun b1315 => ?_) (fun b1315 => ?_)
      · have ek : k = 0 := by omega
        subst ek
        have hw := zWm_e (c := zpn) hb ob (zpn_n b (by omega)).2 (fun m hm ho => hmin m (Nat.zero_le m) hm ho)
        refine w_load (pc' := 86) (v := .ref 0) (m := 1) (ykc_153 (e := (2, .aload_n kF0, 0)) rfl) rfl rfl ?_
        refine w_gf (pc' := 89) (v := .ref 3) (ykc_153 (e := (5, .getfield 19, 0)) rfl) rfl ((f1309.1 0 1 (by decide) (by decide)).trans (zsg hS zs_0_1)) rfl ?_
        refine w_cv (as := [.ref 3]) (r := []) (ykc_153 (e := (6, .invokevirtual 245, 0)) rfl) rfl rfl rfl rfl (zc_anew) (fun v1316 ph1317 hv => ?_)
        obtain ⟨rfl, fn1, gn1⟩ := hv
        show zW n D 153 Q 92 [some (.ref 0), some (.long (zAll (R, C, rk, sn, sk, cn, cd) P v)), none, some (.int (zn b)), some (.int y), o5] [.ref 3] ph1317
        refine w_load (pc' := 93) (v := .int (zn b)) (m := 1) (ykc_153 (e := (2, .iload_n kF3, 0)) rfl) rfl rfl ?_
        refine w_alu (pc' := 94) (st' := [.long ((zn b).toInt64), .ref 3]) (ykc_153 (e := (0, .i2l, 0)) rfl) rfl rfl ?_
        refine w_cv (as := [.ref 3, .long ((zn b).toInt64)]) (r := []) (ykc_153 (e := (6, .invokevirtual 252, 0)) rfl) rfl rfl rfl rfl (zc_add (zSh_F fn1 (by decide +kernel) hS9) (k := 0) gn1 (by decide)) (fun v1318 ph1319 hv => ?_)
        obtain ⟨rfl, fn2, gn2⟩ := hv
        show zW n D 153 Q 97 [some (.ref 0), some (.long (zAll (R, C, rk, sn, sk, cn, cd) P v)), none, some (.int (zn b)), some (.int y), o5] [.ref 3] ph1319
        refine w_alu (pc' := 98) (st' := []) (ykc_153 (e := (0, .pop, 0)) rfl) rfl rfl ?_
        refine w_load (pc' := 99) (v := .int (zn b)) (m := 1) (ykc_153 (e := (2, .iload_n kF3, 0)) rfl) rfl rfl ?_
        refine w_cs (as := [.int (zn b)]) (r := []) (ykc_153 (e := (6, .invokestatic 313, 0)) rfl) rfl rfl rfl rfl (zj_pc) (fun v1321 ph1322 hv => ?_)
        obtain ⟨rfl, rfl⟩ := hv
        have p1320 := zpn_n b (by omega)
        rw [p1320.1]
        have p13202 := p1320.2
        have tp1320 := znt (k := zpn b) (by omega)
        show zW n D 153 Q 102 [some (.ref 0), some (.long (zAll (R, C, rk, sn, sk, cn, cd) P v)), none, some (.int (zn b)), some (.int y), o5] [.int (zn (zpn b))] ph1319
        refine w_ret (v := (some (.int (zn (zpn b))))) (ykc_153 (e := (7, .ireturn, 0)) rfl) (zr_v rfl) ?_
        rw [hQ]
        unfold zXwat
        rw [← hN2, hw, if_neg (by have := (zpn_n b (by omega)).2; omega)]
      · obtain ⟨m, rfl⟩ : ∃ m : Nat, k = m + 1 := ⟨k - 1, by omega⟩
        obtain rfl : y = zn m := zn_of (by omega)
        have tm := znt (k := m) (by omega)
        show zW n D 153 Q 34 [some (.ref 0), some (.long (zAll (R, C, rk, sn, sk, cn, cd) P v)), none, some (.int (zn b)), some (.int (zn m)), o5] [] ph1312
        refine w_load (pc' := 36) (v := .int (zn m)) (m := 2) (ykc_153 (e := (2, .iload 4, 0)) rfl) rfl rfl ?_
        refine w_cs (as := [.int (zn m)]) (r := []) (ykc_153 (e := (6, .invokestatic 313, 0)) rfl) rfl rfl rfl rfl (zj_pc) (fun v1324 ph1325 hv => ?_)
        obtain ⟨rfl, rfl⟩ := hv
        have p1323 := zpn_n m (by omega)
        rw [p1323.1]
        have p13232 := p1323.2
        have tp1323 := znt (k := zpn m) (by omega)
        show zW n D 153 Q 39 [some (.ref 0), some (.long (zAll (R, C, rk, sn, sk, cn, cd) P v)), none, some (.int (zn b)), some (.int (zn m)), o5] [.int (zn (zpn m))] ph1312
        refine w_load (pc' := 40) (v := .int (zn b)) (m := 1) (ykc_153 (e := (2, .iload_n kF3, 0)) rfl) rfl rfl ?_
        refine w_cs (as := [.int (zn b)]) (r := [.int (zn (zpn m))]) (ykc_153 (e := (6, .invokestatic 313, 0)) rfl) rfl rfl rfl rfl (zj_pc) (fun v1327 ph1328 hv => ?_)
        obtain ⟨rfl, rfl⟩ := hv
        have p1326 := zpn_n b (by omega)
        rw [p1326.1]
        have p13262 := p1326.2
        have tp1326 := znt (k := zpn b) (by omega)
        show zW n D 153 Q 43 [some (.ref 0), some (.long (zAll (R, C, rk, sn, sk, cn, cd) P v)), none, some (.int (zn b)), some (.int (zn m)), o5] [.int (zn (zpn b)), .int (zn (zpn m))] ph1312
        refine w_igt (ykc_153 (e := (4, .if_icmp .gt 7, 50)) rfl) rfl (fun b1329 => ?_) (fun b1329 => ?_)
        · refine w_alu (pc' := 51) (st' := [.int (Int32.ofInt 0)]) (ykc_153 (e := (0, .iconst 0, 0)) rfl) rfl rfl ?_
          refine w_store (pc' := 53) (L' := [some (.ref 0), some (.long (zAll (R, C, rk, sn, sk, cn, cd) P v)), none, some (.int (zn b)), some (.int (zn m)), some (.int (Int32.ofInt 0))]) (st' := []) (m := 2) (ykc_153 (e := (3, .istore 5, 0)) rfl) rfl rfl ?_
          refine w_load (pc' := 55) (v := .int (Int32.ofInt 0)) (m := 2) (ykc_153 (e := (2, .iload 5, 0)) rfl) rfl rfl ?_
          refine w_zeq (ykc_153 (e := (4, .ifCond .eq 24, 79)) rfl) rfl (fun b1330 => ?_) (fun q => by exfalso; omega)
          obtain ⟨z1331, e_z1331, h_z1331⟩ : ∃ zq : Int32, (zn m) + Int32.ofInt (-1) = zq ∧ zq.toInt = ((m : Nat) : Int) + (-1 : Int) := ⟨_, rfl, zdecJ (by omega)⟩
          refine w_store (pc' := 82) (L' := [some (.ref 0), some (.long (zAll (R, C, rk, sn, sk, cn, cd) P v)), none, some (.int (zn b)), some (.int z1331), some (.int (Int32.ofInt 0))]) (st' := []) (m := 3) (ykc_153 (e := (3, .iinc 4 (-1), 0)) rfl) (by rw [← e_z1331]; rfl) rfl ?_
          refine w_gb (ykc_153 (e := (4, .goto (-53), 29)) rfl) (fun k1332 hk1332 => ?_)
          exact ih k1332 hk1332 b m z1331 (some (.int (Int32.ofInt 0))) (by omega) ob (by omega) (by omega) (fun m2 h1 h2 h3 => by
            by_cases e : m2 = m
            · subst e; omega
            · exact hmin m2 (by omega) h2 h3)
        · refine w_alu (pc' := 47) (st' := [.int (Int32.ofInt 1)]) (ykc_153 (e := (0, .iconst 1, 0)) rfl) rfl rfl ?_
          refine w_br (pc' := 51) (st' := [.int (Int32.ofInt 1)]) (ykc_153 (e := (4, .goto 4, 51)) rfl) rfl ?_
          refine w_store (pc' := 53) (L' := [some (.ref 0), some (.long (zAll (R, C, rk, sn, sk, cn, cd) P v)), none, some (.int (zn b)), some (.int (zn m)), some (.int (Int32.ofInt 1))]) (st' := []) (m := 2) (ykc_153 (e := (3, .istore 5, 0)) rfl) rfl rfl ?_
          refine w_load (pc' := 55) (v := .int (Int32.ofInt 1)) (m := 2) (ykc_153 (e := (2, .iload 5, 0)) rfl) rfl rfl ?_
          refine w_zeq (ykc_153 (e := (4, .ifCond .eq 24, 79)) rfl) rfl (fun q => by exfalso; omega) (fun b1333 => ?_)
          refine w_load (pc' := 59) (v := .ref 0) (m := 1) (ykc_153 (e := (2, .aload_n kF0, 0)) rfl) rfl rfl ?_
          refine w_gf (pc' := 62) (v := .ref 10) (ykc_153 (e := (5, .getfield 35, 0)) rfl) rfl ((f1309.1 0 3 (by decide) (by decide)).trans (zsg hS zs_0_3)) rfl ?_
          refine w_load (pc' := 63) (v := .ref 0) (m := 1) (ykc_153 (e := (2, .aload_n kF0, 0)) rfl) rfl rfl ?_
          refine w_gf (pc' := 66) (v := .ref 25) (ykc_153 (e := (5, .getfield 42, 0)) rfl) rfl ((f1309.1 0 4 (by decide) (by decide)).trans (zsg hS zs_0_4)) rfl ?_
          refine w_load (pc' := 68) (v := .int (zn m)) (m := 2) (ykc_153 (e := (2, .iload 4, 0)) rfl) rfl rfl ?_
          refine w_cv (as := [.ref 10, .ref 25, .int (zn m)]) (r := []) (ykc_153 (e := (6, .invokevirtual 332, 0)) rfl) rfl rfl rfl rfl (zc_viewT (zCx_S f1309 hS) (zCx_e f1309 hE0) (zCx_t f1309 ht) hO0 hvw (m := m) (by omega)) (fun v1334 ph1335 hv => ?_)
          obtain ⟨rfl, rfl⟩ := hv
          show zW n D 153 Q 71 [some (.ref 0), some (.long (zAll (R, C, rk, sn, sk, cn, cd) P v)), none, some (.int (zn b)), some (.int (zn m)), some (.int (Int32.ofInt 1))] [.long (zUm (zVw (R, C, rk, sn, sk, cn, cd) P v) m P)] ph1312
          refine w_load (pc' := 72) (v := .long (zAll (R, C, rk, sn, sk, cn, cd) P v)) (m := 1) (ykc_153 (e := (2, .lload_n kF1, 0)) rfl) rfl rfl ?_
          refine w_alu (pc' := 73) (st' := [.int (lg_cmp (zUm (zVw (R, C, rk, sn, sk, cn, cd) P v) m P) (zAll (R, C, rk, sn, sk, cn, cd) P v))]) (ykc_153 (e := (0, .lcmp, 0)) rfl) rfl rfl ?_
          refine w_zne (ykc_153 (e := (4, .ifCond .ne 6, 79)) rfl) rfl (fun b1336 => ?_) (fun b1336 => ?_)
          · obtain ⟨z1337, e_z1337, h_z1337⟩ : ∃ zq : Int32, (zn m) + Int32.ofInt (-1) = zq ∧ zq.toInt = ((m : Nat) : Int) + (-1 : Int) := ⟨_, rfl, zdecJ (by omega)⟩
            refine w_store (pc' := 82) (L' := [some (.ref 0), some (.long (zAll (R, C, rk, sn, sk, cn, cd) P v)), none, some (.int (zn b)), some (.int z1337), some (.int (Int32.ofInt 1))]) (st' := []) (m := 3) (ykc_153 (e := (3, .iinc 4 (-1), 0)) rfl) (by rw [← e_z1337]; rfl) rfl ?_
            refine w_gb (ykc_153 (e := (4, .goto (-53), 29)) rfl) (fun k1338 hk1338 => ?_)
            exact ih k1338 hk1338 b m z1337 (some (.int (Int32.ofInt 1))) (by omega) ob (by omega) (by omega) (fun m2 h1 h2 h3 => by
              by_cases e : m2 = m
              · subst e; rw [zOw_f b1336] at h3; cases h3
              · exact hmin m2 (by omega) h2 h3)
          · refine w_load (pc' := 78) (v := .int (zn m)) (m := 2) (ykc_153 (e := (2, .iload 4, 0)) rfl) rfl rfl ?_
            refine w_store (pc' := 79) (L' := [some (.ref 0), some (.long (zAll (R, C, rk, sn, sk, cn, cd) P v)), none, some (.int (zn m)), some (.int (zn m)), some (.int (Int32.ofInt 1))]) (st' := []) (m := 1) (ykc_153 (e := (3, .istore_n kF3, 0)) rfl) rfl rfl ?_
            obtain ⟨z1339, e_z1339, h_z1339⟩ : ∃ zq : Int32, (zn m) + Int32.ofInt (-1) = zq ∧ zq.toInt = ((m : Nat) : Int) + (-1 : Int) := ⟨_, rfl, zdecJ (by omega)⟩
            refine w_store (pc' := 82) (L' := [some (.ref 0), some (.long (zAll (R, C, rk, sn, sk, cn, cd) P v)), none, some (.int (zn m)), some (.int z1339), some (.int (Int32.ofInt 1))]) (st' := []) (m := 3) (ykc_153 (e := (3, .iinc 4 (-1), 0)) rfl) (by rw [← e_z1339]; rfl) rfl ?_
            refine w_gb (ykc_153 (e := (4, .goto (-53), 29)) rfl) (fun k1340 hk1340 => ?_)
            exact ih k1340 hk1340 m m z1339 (some (.int (Int32.ofInt 1))) (by omega) (zOw_t b1336) (by omega) (by omega) (fun m2 h1 h2 h3 => by
              by_cases e : m2 = m
              · subst e; exact Nat.le_refl _
              · have h4 := hmin m2 (by omega) h2 h3
                omega)
  exact hl n (N - 1) (N - 1) _ _ (by omega) hfull (Nat.le_refl _) (by omega) (fun m h1 h2 _ => by rw [show m = N - 1 by omega]; exact Nat.le_refl _)
theorem zm_fewer {ph : pm_H} {a b : Int32} : zM 264 [.int a, .int b] ph (fun v0 q => ph = q ∧ v0 = some (.int (zI (decide (b.toInt < 0) || decide ((zpc a).toInt < (zpc b).toInt))))) := by
  obtain ⟨Q, hQ⟩ : ∃ Q : Option Value → pm_H → Prop, Q = (fun v0 q => ph = q ∧ v0 = some (.int (zI (decide (b.toInt < 0) || decide ((zpc a).toInt < (zpc b).toInt))))) := ⟨_, rfl⟩
  rw [← hQ]
  refine zM_mk fun n D => ?_
  show zW n D 264 Q 0 [some (.int a), some (.int b)] [] ph
  have c_0 : (Int32.ofInt 0).toInt = 0 := by decide
  have c_1 : (Int32.ofInt 1).toInt = 1 := by decide
  refine w_load (pc' := 1) (v := .int b) (m := 1) (ykc_264 (e := (2, .iload_n kF1, 0)) rfl) rfl rfl ?_
  refine w_zlt (ykc_264 (e := (4, .ifCond .lt 14, 15)) rfl) rfl (fun b1341 => ?_) (fun b1341 => ?_)
  · refine w_alu (pc' := 16) (st' := [.int (Int32.ofInt 1)]) (ykc_264 (e := (0, .iconst 1, 0)) rfl) rfl rfl ?_
    refine w_br (pc' := 20) (st' := [.int (Int32.ofInt 1)]) (ykc_264 (e := (4, .goto 4, 20)) rfl) rfl ?_
    refine w_ret (v := (some (.int (Int32.ofInt 1)))) (ykc_264 (e := (7, .ireturn, 0)) rfl) zr_z ?_
    rw [hQ, zi1]
    exact ⟨rfl, zvB (by rw [decide_eq_true (show b.toInt < 0 by omega), Bool.true_or])⟩
  · refine w_load (pc' := 5) (v := .int a) (m := 1) (ykc_264 (e := (2, .iload_n kF0, 0)) rfl) rfl rfl ?_
    refine w_cs (as := [.int a]) (r := []) (ykc_264 (e := (6, .invokestatic 265, 0)) rfl) rfl rfl rfl rfl (zj_pc) (fun v1342 ph1343 hv => ?_)
    obtain ⟨rfl, rfl⟩ := hv
    show zW n D 264 Q 8 [some (.int a), some (.int b)] [.int (zpc a)] ph
    refine w_load (pc' := 9) (v := .int b) (m := 1) (ykc_264 (e := (2, .iload_n kF1, 0)) rfl) rfl rfl ?_
    refine w_cs (as := [.int b]) (r := [.int (zpc a)]) (ykc_264 (e := (6, .invokestatic 265, 0)) rfl) rfl rfl rfl rfl (zj_pc) (fun v1344 ph1345 hv => ?_)
    obtain ⟨rfl, rfl⟩ := hv
    show zW n D 264 Q 12 [some (.int a), some (.int b)] [.int (zpc b), .int (zpc a)] ph
    refine w_ige (ykc_264 (e := (4, .if_icmp .ge 7, 19)) rfl) rfl (fun b1346 => ?_) (fun b1346 => ?_)
    · refine w_alu (pc' := 20) (st' := [.int (Int32.ofInt 0)]) (ykc_264 (e := (0, .iconst 0, 0)) rfl) rfl rfl ?_
      refine w_ret (v := (some (.int (Int32.ofInt 0)))) (ykc_264 (e := (7, .ireturn, 0)) rfl) zr_z ?_
      rw [hQ, zi0]
      exact ⟨rfl, zvB (by rw [decide_eq_false (show ¬ b.toInt < 0 by omega), Bool.false_or, decide_eq_false (by omega)])⟩
    · refine w_alu (pc' := 16) (st' := [.int (Int32.ofInt 1)]) (ykc_264 (e := (0, .iconst 1, 0)) rfl) rfl rfl ?_
      refine w_br (pc' := 20) (st' := [.int (Int32.ofInt 1)]) (ykc_264 (e := (4, .goto 4, 20)) rfl) rfl ?_
      refine w_ret (v := (some (.int (Int32.ofInt 1)))) (ykc_264 (e := (7, .ireturn, 0)) rfl) zr_z ?_
      rw [hQ, zi1]
      exact ⟨rfl, zvB (by rw [decide_eq_false (show ¬ b.toInt < 0 by omega), Bool.false_or, decide_eq_true (by omega)])⟩
theorem zm_watX {ph : pm_H} {E : zEn} {P G : Nat} {v : Nat → Nat} (hS : zSh ph) (hE : zMe ph E) (hN : zMp ph P G) (hv : zNr ph 174 0 v) (hO : zOk E.1 E.2.1 P G v) : zM 265 [.ref 170] ph (fun v0 _ => v0 = some (.int (zXwat E P v))) := by
  obtain ⟨Q, hQ⟩ : ∃ Q : Option Value → pm_H → Prop, Q = (fun v0 _ => v0 = some (.int (zXwat E P v))) := ⟨_, rfl⟩
  rw [← hQ]
  refine zM_mk fun n D => ?_
  show zW n D 265 Q 0 [some (.ref 170), none, none, none, none, none, none, none] [] ph
  have c_0 : (Int32.ofInt (-1)).toInt = -1 := by decide
  have c_1 : (Int32.ofInt 0).toInt = 0 := by decide
  have c_2 : (Int32.ofInt 1).toInt = 1 := by decide
  have hA : (174 : Nat) = 174 ∨ (174 : Nat) = 175 := Or.inl rfl
  obtain ⟨R, C, rk, sn, sk, cn, cd⟩ := E
  have hL0 : zMl ph R C rk := hE.1
  have hR0 : zMr ph sn sk cn cd := hE.2.1
  have hcg : zcg cn cd := hE.2.2
  have hE0 : zMe ph (R, C, rk, sn, sk, cn, cd) := hE
  have hO0 : zOk R C P G v := hO
  have hN0 := hN
  have hL := hL0
  have hR := hR0
  obtain ⟨gR, gC, gK, hR3, hR7, hC3, hC7⟩ := hL
  have hRC := zRC49 hR7 hC7
  have tR := znt (k := R) (by omega)
  have tC := znt (k := C) (by omega)
  obtain ⟨gP, hP8, gG, hG8⟩ := hN
  have tP := znt (k := P) (by omega)
  have tG := znt (k := G) (by omega)
  obtain ⟨gsn, hs1, hs20, gsk, gcn, hc40, gcd⟩ := hR
  have tsn := znt (k := sn) (by omega)
  have tcn := znt (k := cn) (by omega)
  refine w_load (pc' := 1) (v := .ref 170) (m := 1) (ykc_265 (e := (2, .aload_n kF0, 0)) rfl) rfl rfl ?_
  refine w_alu (pc' := 2) (st' := [.int (Int32.ofInt 0), .ref 170]) (ykc_265 (e := (0, .iconst 0, 0)) rfl) rfl rfl ?_
  refine w_pf (pc' := 5) (ykc_265 (e := (5, .putfield 3, 0)) rfl) rfl rfl (fun ph1348 u1347 => ?_)
  have f0 : zFr [] [(170, 0)] ph ph1348 := zFr_st u1347 (Or.inr (by simp))
  have hS1 := zSh_st u1347 (by decide +kernel) hS
  have hE1 : zMe ph1348 (R, C, rk, sn, sk, cn, cd) := ⟨zMl_F f0 (by simp) (by simp) (by simp) (by simp) hE0.1, zMr_F f0 (by simp) (by simp) (by simp) (by simp) hE0.2.1, hE0.2.2⟩
  have hN1 := zMp_F f0 (by simp) (by simp) (by simp) hN0
  have hv1 := zNr_F f0 (by simp) (by simp) hv
  have hL1 : zMl ph1348 R C rk := hE1.1
  have hR1 : zMr ph1348 sn sk cn cd := hE1.2.1
  have hP8 : P ≤ 8 := hN0.2.1
  obtain ⟨N, hN2⟩ : ∃ N, N = 2 ^ P := ⟨_, rfl⟩
  have hN256 : 1 ≤ N ∧ N ≤ 256 := by rw [hN2]; exact zp2 P hP8
  have tN := znt (k := N) (by omega)
  refine w_load (pc' := 6) (v := .ref 170) (m := 1) (ykc_265 (e := (2, .aload_n kF0, 0)) rfl) rfl rfl ?_
  refine w_load (pc' := 7) (v := .ref 170) (m := 1) (ykc_265 (e := (2, .aload_n kF0, 0)) rfl) rfl rfl ?_
  refine w_gf (pc' := 10) (v := .ref 174) (ykc_265 (e := (5, .getfield 41, 0)) rfl) rfl ((u1347.2.1 170 11 (fun q => absurd q.2 (by decide))).trans (zsg hS zs_170_11)) rfl ?_
  refine w_cv (as := [.ref 170, .ref 174]) (r := []) (ykc_265 (e := (6, .invokevirtual 417, 0)) rfl) rfl rfl rfl rfl (zm_all hS1 hE1 hN1 (⟨hA, hv1⟩ : ((174 : Nat) = 174 ∨ (174 : Nat) = 175) ∧ zNr ph1348 174 0 v).1 (⟨hA, hv1⟩ : ((174 : Nat) = 174 ∨ (174 : Nat) = 175) ∧ zNr ph1348 174 0 v).2 hO0) (fun v1350 ph1351 hv => ?_)
  obtain ⟨f1349, rfl⟩ := hv
  show zW n D 265 Q 13 [some (.ref 170), none, none, none, none, none, none, none] [.long (zAll (R, C, rk, sn, sk, cn, cd) P v)] ph1351
  refine w_store (pc' := 14) (L' := [some (.ref 170), some (.long (zAll (R, C, rk, sn, sk, cn, cd) P v)), none, none, none, none, none, none]) (st' := []) (m := 1) (ykc_265 (e := (3, .lstore_n kF1, 0)) rfl) rfl rfl ?_
  refine w_alu (pc' := 15) (st' := [.int (Int32.ofInt 0)]) (ykc_265 (e := (0, .iconst 0, 0)) rfl) rfl rfl ?_
  refine w_store (pc' := 16) (L' := [some (.ref 170), some (.long (zAll (R, C, rk, sn, sk, cn, cd) P v)), none, some (.int (Int32.ofInt 0)), none, none, none, none]) (st' := []) (m := 1) (ykc_265 (e := (3, .istore_n kF3, 0)) rfl) rfl rfl ?_
  have hS4 := (zSc_S f1349 hS1)
  have hE4 := (zSc_e f1349 hE1)
  have hN4 := (zSc_p f1349 hN1)
  have hv4 := (zSc_a f1349 (⟨hA, hv1⟩ : ((174 : Nat) = 174 ∨ (174 : Nat) = 175) ∧ zNr ph1348 174 0 v)).2
  have hl1 : ∀ (n : Nat), ∀ (k : Nat) (o4 o5 o6 o7 : Option Value) (ph1 : pm_H), (k ≤ P) → (zFr [181, 182, 189] [] ph1351 ph1) → (∀ i, i < k → zc ph1 189 i = some (.long ((zVw (R, C, rk, sn, sk, cn, cd) P v) i))) → zW n D 265 Q 16 [some (.ref 170), some (.long (zAll (R, C, rk, sn, sk, cn, cd) P v)), none, some (.int (zn k)), o4, o5, o6, o7] [] ph1 := by
    intro n
    induction n using Nat.strongRecOn with
    | ind n ih =>
      intro k o4 o5 o6 o7 ph1 hk hf1 hg
      have tk := znt (k := k) (by omega)
      have hS5 := zSh_F hf1 (by decide +kernel) hS4
      have hE5 : zMe ph1 (R, C, rk, sn, sk, cn, cd) := ⟨zMl_F hf1 (by simp) (by simp) (by simp) (by simp) hE4.1, zMr_F hf1 (by simp) (by simp) (by simp) (by simp) hE4.2.1, hE4.2.2⟩
      have hN5 := zMp_F hf1 (by simp) (by simp) (by simp) hN4
      have hv5 := zNr_F hf1 (by simp) (by simp) hv4
      refine w_load (pc' := 17) (v := .int (zn k)) (m := 1) (ykc_265 (e := (2, .iload_n kF3, 0)) rfl) rfl rfl ?_
      refine w_load (pc' := 18) (v := .ref 170) (m := 1) (ykc_265 (e := (2, .aload_n kF0, 0)) rfl) rfl rfl ?_
      refine w_gf (pc' := 21) (v := .int (zn P)) (ykc_265 (e := (5, .getfield 130, 0)) rfl) rfl ((hf1.1 170 5 (by decide) (by decide)).trans ((f1349.1 170 5 (by decide) (by decide)).trans ((u1347.2.1 170 5 (fun q => absurd q.2 (by decide))).trans gP))) rfl ?_
      refine w_ige (ykc_265 (e := (4, .if_icmp .ge 24, 45)) rfl) rfl (fun b1352 => ?_) (fun b1352 => ?_)
      · refine w_alu (pc' := 46) (st' := [.int (Int32.ofInt (-1))]) (ykc_265 (e := (0, .iconst (-1), 0)) rfl) rfl rfl ?_
        refine w_store (pc' := 47) (L' := [some (.ref 170), some (.long (zAll (R, C, rk, sn, sk, cn, cd) P v)), none, some (.int (Int32.ofInt (-1))), o4, o5, o6, o7]) (st' := []) (m := 1) (ykc_265 (e := (3, .istore_n kF3, 0)) rfl) rfl rfl ?_
        refine w_alu (pc' := 48) (st' := [.int (Int32.ofInt 0)]) (ykc_265 (e := (0, .iconst 0, 0)) rfl) rfl rfl ?_
        refine w_store (pc' := 50) (L' := [some (.ref 170), some (.long (zAll (R, C, rk, sn, sk, cn, cd) P v)), none, some (.int (Int32.ofInt (-1))), some (.int (Int32.ofInt 0)), o5, o6, o7]) (st' := []) (m := 2) (ykc_265 (e := (3, .istore 4, 0)) rfl) rfl rfl ?_
        have hl2 : ∀ (n3 : Nat), ∀ (j : Nat) (y : Int32) (o5 o6 o7 : Option Value), (j ≤ N) → ((y.toInt = -1 ∧ zWm (zOw (R, C, rk, sn, sk, cn, cd) P v) zpn j = 99) ∨ (∃ b, b < N ∧ y = zn b ∧ zpn b = zWm (zOw (R, C, rk, sn, sk, cn, cd) P v) zpn j ∧ zWm (zOw (R, C, rk, sn, sk, cn, cd) P v) zpn j ≤ 8)) → zW n3 D 265 Q 50 [some (.ref 170), some (.long (zAll (R, C, rk, sn, sk, cn, cd) P v)), none, some (.int y), some (.int (zn j)), o5, o6, o7] [] ph1 := by
          intro n3
          induction n3 using Nat.strongRecOn with
          | ind n3 ih =>
            intro j y o5 o6 o7 hj hb
            have tj := znt (k := j) (by omega)
            refine w_load (pc' := 52) (v := .int (zn j)) (m := 2) (ykc_265 (e := (2, .iload 4, 0)) rfl) rfl rfl ?_
            refine w_alu (pc' := 53) (st' := [.int (Int32.ofInt 1), .int (zn j)]) (ykc_265 (e := (0, .iconst 1, 0)) rfl) rfl rfl ?_
            refine w_load (pc' := 54) (v := .ref 170) (m := 1) (ykc_265 (e := (2, .aload_n kF0, 0)) rfl) rfl rfl ?_
            refine w_gf (pc' := 57) (v := .int (zn P)) (ykc_265 (e := (5, .getfield 130, 0)) rfl) rfl ((hf1.1 170 5 (by decide) (by decide)).trans ((f1349.1 170 5 (by decide) (by decide)).trans ((u1347.2.1 170 5 (fun q => absurd q.2 (by decide))).trans gP))) rfl ?_
            refine w_alu (pc' := 58) (st' := [.int (zn N), .int (zn j)]) (ykc_265 (e := (0, .ishl, 0)) rfl) (by show some ([.int ((Int32.ofInt 1) <<< ((zn P) &&& 31)), .int (zn j)] : List Value) = _; rw [(by rw [hN2]; exact zm3 P hP8 : (Int32.ofInt 1) <<< ((zn P) &&& 31) = zn N)]) rfl ?_
            refine w_ige (ykc_265 (e := (4, .if_icmp .ge 80, 138)) rfl) rfl (fun b1353 => ?_) (fun b1353 => ?_)
            · refine w_load (pc' := 139) (v := .ref 170) (m := 1) (ykc_265 (e := (2, .aload_n kF0, 0)) rfl) rfl rfl ?_
              refine w_alu (pc' := 140) (st' := [.int (Int32.ofInt 0), .ref 170]) (ykc_265 (e := (0, .iconst 0, 0)) rfl) rfl rfl ?_
              refine w_pf (pc' := 143) (ykc_265 (e := (5, .putfield 15, 0)) rfl) rfl rfl (fun ph1355 u1354 => ?_)
              have hS7 := zSh_st u1354 (by decide +kernel) hS5
              refine w_load (pc' := 144) (v := .ref 170) (m := 1) (ykc_265 (e := (2, .aload_n kF0, 0)) rfl) rfl rfl ?_
              refine w_load (pc' := 145) (v := .int y) (m := 1) (ykc_265 (e := (2, .iload_n kF3, 0)) rfl) rfl rfl ?_
              refine w_alu (pc' := 146) (st' := [.long y.toInt64, .ref 170]) (ykc_265 (e := (0, .i2l, 0)) rfl) rfl rfl ?_
              refine w_cv (as := [.ref 170, .long y.toInt64]) (r := []) (ykc_265 (e := (6, .invokevirtual 373, 0)) rfl) rfl rfl rfl rfl (zm_enter (k := 0) (x := y.toInt64) hS7 u1354.1 (by decide)) (fun v1356 ph1357 hv => ?_)
              obtain ⟨rfl, f8, h8t⟩ := hv
              show zW n3 D 265 Q 149 [some (.ref 170), some (.long (zAll (R, C, rk, sn, sk, cn, cd) P v)), none, some (.int y), some (.int (zn j)), o5, o6, o7] [] ph1357
              refine w_load (pc' := 150) (v := .int y) (m := 1) (ykc_265 (e := (2, .iload_n kF3, 0)) rfl) rfl rfl ?_
              refine w_cs (as := [.int y]) (r := []) (ykc_265 (e := (6, .invokestatic 265, 0)) rfl) rfl rfl rfl rfl (zj_pc) (fun v1358 ph1359 hv => ?_)
              obtain ⟨rfl, rfl⟩ := hv
              show zW n3 D 265 Q 153 [some (.ref 170), some (.long (zAll (R, C, rk, sn, sk, cn, cd) P v)), none, some (.int y), some (.int (zn j)), o5, o6, o7] [.int (zpc y)] ph1357
              refine w_ret (v := (some (.int (zpc y)))) (ykc_265 (e := (7, .ireturn, 0)) rfl) (zr_v rfl) ?_
              have ej : j = N := by omega
              subst ej
              rw [hQ]
              unfold zXwat
              rw [← hN2]
              rcases hb with ⟨e1, e2⟩ | ⟨b, e1, e2, e3, e4⟩
              · rw [if_pos e2, show y = Int32.ofInt (-1) from Int32.toInt_inj.mp (e1.trans (by decide))]
              · rw [if_neg (by omega), e2, (zpn_n b (by omega)).1, e3]
            · refine w_alu (pc' := 62) (st' := [.long (Int64.ofNat kG0)]) (ykc_265 (e := (0, .lconst kG0, 0)) rfl) rfl rfl ?_
              refine w_store (pc' := 64) (L' := [some (.ref 170), some (.long (zAll (R, C, rk, sn, sk, cn, cd) P v)), none, some (.int y), some (.int (zn j)), some (.long (Int64.ofNat kG0)), none, o7]) (st' := []) (m := 2) (ykc_265 (e := (3, .lstore 5, 0)) rfl) rfl rfl ?_
              refine w_alu (pc' := 65) (st' := [.int (Int32.ofInt 0)]) (ykc_265 (e := (0, .iconst 0, 0)) rfl) rfl rfl ?_
              refine w_store (pc' := 67) (L' := [some (.ref 170), some (.long (zAll (R, C, rk, sn, sk, cn, cd) P v)), none, some (.int y), some (.int (zn j)), some (.long (Int64.ofNat kG0)), none, some (.int (Int32.ofInt 0))]) (st' := []) (m := 2) (ykc_265 (e := (3, .istore 7, 0)) rfl) rfl rfl ?_
              have iho := ih
              have hl3 : ∀ (n4 : Nat), n4 ≤ n3 → ∀ (i : Nat), (i ≤ P) → zW n4 D 265 Q 67 [some (.ref 170), some (.long (zAll (R, C, rk, sn, sk, cn, cd) P v)), none, some (.int y), some (.int (zn j)), some (.long (zUm (zVw (R, C, rk, sn, sk, cn, cd) P v) j i)), none, some (.int (zn i))] [] ph1 := by
                intro n4
                induction n4 using Nat.strongRecOn with
                | ind n4 ih =>
                  intro hlim i hi
                  have ti := znt (k := i) (by omega)
                  refine w_load (pc' := 69) (v := .int (zn i)) (m := 2) (ykc_265 (e := (2, .iload 7, 0)) rfl) rfl rfl ?_
                  refine w_load (pc' := 70) (v := .ref 170) (m := 1) (ykc_265 (e := (2, .aload_n kF0, 0)) rfl) rfl rfl ?_
                  refine w_gf (pc' := 73) (v := .int (zn P)) (ykc_265 (e := (5, .getfield 130, 0)) rfl) rfl ((hf1.1 170 5 (by decide) (by decide)).trans ((f1349.1 170 5 (by decide) (by decide)).trans ((u1347.2.1 170 5 (fun q => absurd q.2 (by decide))).trans gP))) rfl ?_
                  refine w_ige (ykc_265 (e := (4, .if_icmp .ge 36, 109)) rfl) rfl (fun b1360 => ?_) (fun b1360 => ?_)
                  · refine w_load (pc' := 111) (v := .long (zUm (zVw (R, C, rk, sn, sk, cn, cd) P v) j i)) (m := 2) (ykc_265 (e := (2, .lload 5, 0)) rfl) rfl rfl ?_
                    refine w_load (pc' := 112) (v := .long (zAll (R, C, rk, sn, sk, cn, cd) P v)) (m := 1) (ykc_265 (e := (2, .lload_n kF1, 0)) rfl) rfl rfl ?_
                    refine w_alu (pc' := 113) (st' := [.int (lg_cmp (zUm (zVw (R, C, rk, sn, sk, cn, cd) P v) j i) (zAll (R, C, rk, sn, sk, cn, cd) P v))]) (ykc_265 (e := (0, .lcmp, 0)) rfl) rfl rfl ?_
                    refine w_zne (ykc_265 (e := (4, .ifCond .ne 17, 130)) rfl) rfl (fun b1361 => ?_) (fun b1361 => ?_)
                    · refine w_load (pc' := 131) (v := .int y) (m := 1) (ykc_265 (e := (2, .iload_n kF3, 0)) rfl) rfl rfl ?_
                      refine w_store (pc' := 132) (L' := [some (.ref 170), some (.long (zAll (R, C, rk, sn, sk, cn, cd) P v)), none, some (.int y), some (.int (zn j)), some (.long (zUm (zVw (R, C, rk, sn, sk, cn, cd) P v) j i)), none, some (.int (zn i))]) (st' := []) (m := 1) (ykc_265 (e := (3, .istore_n kF3, 0)) rfl) rfl rfl ?_
                      have e1362 : (zn j) + Int32.ofInt 1 = zn (j + 1) := (zaddN (a := j) (b := 1) (znt (by omega)) c_2 (by omega))
                      have te1362 := znt (k := j + 1) (by omega)
                      refine w_store (pc' := 135) (L' := [some (.ref 170), some (.long (zAll (R, C, rk, sn, sk, cn, cd) P v)), none, some (.int y), some (.int (zn (j + 1))), some (.long (zUm (zVw (R, C, rk, sn, sk, cn, cd) P v) j i)), none, some (.int (zn i))]) (st' := []) (m := 3) (ykc_265 (e := (3, .iinc 4 1, 0)) rfl) (by rw [← e1362]; rfl) rfl ?_
                      refine w_gb (ykc_265 (e := (4, .goto (-85), 50)) rfl) (fun k1363 hk1363 => ?_)
                      have ei : i = P := by omega
                      rw [ei] at b1361
                      have hw := zWm_f (c := zpn) (k := j) (Or.inl (zOw_f b1361))
                      rw [← hw] at hb
                      exact iho k1363 (by omega) (j + 1) y _ _ _ (by omega) hb
                    · refine w_load (pc' := 118) (v := .int (zn j)) (m := 2) (ykc_265 (e := (2, .iload 4, 0)) rfl) rfl rfl ?_
                      refine w_load (pc' := 119) (v := .int y) (m := 1) (ykc_265 (e := (2, .iload_n kF3, 0)) rfl) rfl rfl ?_
                      refine w_cs (as := [.int (zn j), .int y]) (r := []) (ykc_265 (e := (6, .invokestatic 421, 0)) rfl) rfl rfl rfl rfl (zm_fewer) (fun v1364 ph1365 hv => ?_)
                      obtain ⟨rfl, rfl⟩ := hv
                      show zW n4 D 265 Q 122 [some (.ref 170), some (.long (zAll (R, C, rk, sn, sk, cn, cd) P v)), none, some (.int y), some (.int (zn j)), some (.long (zUm (zVw (R, C, rk, sn, sk, cn, cd) P v) j i)), none, some (.int (zn i))] [.int (zI (decide (y.toInt < 0) || decide ((zpc (zn j)).toInt < (zpc y).toInt)))] ph1
                      refine w_beq (ykc_265 (e := (4, .ifCond .eq 8, 130)) rfl) rfl (fun b1366 => ?_) (fun b1366 => ?_)
                      · refine w_load (pc' := 131) (v := .int y) (m := 1) (ykc_265 (e := (2, .iload_n kF3, 0)) rfl) rfl rfl ?_
                        refine w_store (pc' := 132) (L' := [some (.ref 170), some (.long (zAll (R, C, rk, sn, sk, cn, cd) P v)), none, some (.int y), some (.int (zn j)), some (.long (zUm (zVw (R, C, rk, sn, sk, cn, cd) P v) j i)), none, some (.int (zn i))]) (st' := []) (m := 1) (ykc_265 (e := (3, .istore_n kF3, 0)) rfl) rfl rfl ?_
                        have e1367 : (zn j) + Int32.ofInt 1 = zn (j + 1) := (zaddN (a := j) (b := 1) (znt (by omega)) c_2 (by omega))
                        have te1367 := znt (k := j + 1) (by omega)
                        refine w_store (pc' := 135) (L' := [some (.ref 170), some (.long (zAll (R, C, rk, sn, sk, cn, cd) P v)), none, some (.int y), some (.int (zn (j + 1))), some (.long (zUm (zVw (R, C, rk, sn, sk, cn, cd) P v) j i)), none, some (.int (zn i))]) (st' := []) (m := 3) (ykc_265 (e := (3, .iinc 4 1, 0)) rfl) (by rw [← e1367]; rfl) rfl ?_
                        refine w_gb (ykc_265 (e := (4, .goto (-85), 50)) rfl) (fun k1368 hk1368 => ?_)
                        have ei : i = P := by omega
                        rw [ei] at b1361
                        have hok := zOw_t b1361
                        have hw : zWm (zOw (R, C, rk, sn, sk, cn, cd) P v) zpn (j + 1) = zWm (zOw (R, C, rk, sn, sk, cn, cd) P v) zpn j := zWm_f (Or.inr (fun q => by
                          have q0 := b1366
                          obtain ⟨q1, q2⟩ := Bool.or_eq_false_iff.mp q0
                          have q3 := of_decide_eq_false q1
                          have q4 := of_decide_eq_false q2
                          rcases hb with ⟨e1, e2⟩ | ⟨b, e1, e2, e3, e4⟩
                          · omega
                          · subst e2
                            rw [(zpn_n j (by omega)).1, (zpn_n b (by omega)).1, znt (by have := (zpn_n j (by omega)).2; omega), znt (by have := (zpn_n b (by omega)).2; omega)] at q4
                            omega))
                        rw [← hw] at hb
                        exact iho k1368 (by omega) (j + 1) y _ _ _ (by omega) hb
                      · refine w_load (pc' := 127) (v := .int (zn j)) (m := 2) (ykc_265 (e := (2, .iload 4, 0)) rfl) rfl rfl ?_
                        refine w_br (pc' := 131) (st' := [.int (zn j)]) (ykc_265 (e := (4, .goto 4, 131)) rfl) rfl ?_
                        refine w_store (pc' := 132) (L' := [some (.ref 170), some (.long (zAll (R, C, rk, sn, sk, cn, cd) P v)), none, some (.int (zn j)), some (.int (zn j)), some (.long (zUm (zVw (R, C, rk, sn, sk, cn, cd) P v) j i)), none, some (.int (zn i))]) (st' := []) (m := 1) (ykc_265 (e := (3, .istore_n kF3, 0)) rfl) rfl rfl ?_
                        have e1369 : (zn j) + Int32.ofInt 1 = zn (j + 1) := (zaddN (a := j) (b := 1) (znt (by omega)) c_2 (by omega))
                        have te1369 := znt (k := j + 1) (by omega)
                        refine w_store (pc' := 135) (L' := [some (.ref 170), some (.long (zAll (R, C, rk, sn, sk, cn, cd) P v)), none, some (.int (zn j)), some (.int (zn (j + 1))), some (.long (zUm (zVw (R, C, rk, sn, sk, cn, cd) P v) j i)), none, some (.int (zn i))]) (st' := []) (m := 3) (ykc_265 (e := (3, .iinc 4 1, 0)) rfl) (by rw [← e1369]; rfl) rfl ?_
                        refine w_gb (ykc_265 (e := (4, .goto (-85), 50)) rfl) (fun k1370 hk1370 => ?_)
                        have ei : i = P := by omega
                        rw [ei] at b1361
                        have hok := zOw_t b1361
                        have hlt : zpn j < zWm (zOw (R, C, rk, sn, sk, cn, cd) P v) zpn j := by
                          have q0 := b1366
                          have hj8 := (zpn_n j (by omega)).2
                          rcases hb with ⟨e1, e2⟩ | ⟨b, e1, e2, e3, e4⟩
                          · omega
                          · subst e2
                            have hb8 := (zpn_n b (by omega)).2
                            rw [decide_eq_false (show ¬ (zn b).toInt < 0 by rw [znt (by omega)]; omega), Bool.false_or] at q0
                            have q4 := of_decide_eq_true q0
                            rw [(zpn_n j (by omega)).1, (zpn_n b (by omega)).1, znt (by omega), znt (by omega)] at q4
                            omega
                        have hw := zWm_t (c := zpn) hok hlt
                        have hj8 := (zpn_n j (by omega)).2
                        exact iho k1370 (by omega) (j + 1) (zn j) _ _ _ (by omega) (Or.inr ⟨j, by omega, rfl, hw.symm, by omega⟩)
                  · refine w_load (pc' := 78) (v := .long (zUm (zVw (R, C, rk, sn, sk, cn, cd) P v) j i)) (m := 2) (ykc_265 (e := (2, .lload 5, 0)) rfl) rfl rfl ?_
                    refine w_load (pc' := 80) (v := .int (zn j)) (m := 2) (ykc_265 (e := (2, .iload 4, 0)) rfl) rfl rfl ?_
                    refine w_alu (pc' := 81) (st' := [.long ((zn j).toInt64), .long (zUm (zVw (R, C, rk, sn, sk, cn, cd) P v) j i)]) (ykc_265 (e := (0, .i2l, 0)) rfl) rfl rfl ?_
                    refine w_load (pc' := 83) (v := .int (zn i)) (m := 2) (ykc_265 (e := (2, .iload 7, 0)) rfl) rfl rfl ?_
                    refine w_cs (as := [.long ((zn j).toInt64), .int (zn i)]) (r := [.long (zUm (zVw (R, C, rk, sn, sk, cn, cd) P v) j i)]) (ykc_265 (e := (6, .invokestatic 304, 0)) rfl) rfl rfl rfl rfl (zm_has (kn := i) (by omega) (by omega)) (fun v1371 ph1372 hv => ?_)
                    obtain ⟨rfl, rfl⟩ := hv
                    show zW n4 D 265 Q 86 [some (.ref 170), some (.long (zAll (R, C, rk, sn, sk, cn, cd) P v)), none, some (.int y), some (.int (zn j)), some (.long (zUm (zVw (R, C, rk, sn, sk, cn, cd) P v) j i)), none, some (.int (zn i))] [.int (zI (zb ((zn j).toInt64) i)), .long (zUm (zVw (R, C, rk, sn, sk, cn, cd) P v) j i)] ph1
                    refine w_beq (ykc_265 (e := (4, .ifCond .eq 13, 99)) rfl) rfl (fun b1373 => ?_) (fun b1373 => ?_)
                    · refine w_alu (pc' := 100) (st' := [.long (Int64.ofNat kG0), .long (zUm (zVw (R, C, rk, sn, sk, cn, cd) P v) j i)]) (ykc_265 (e := (0, .lconst kG0, 0)) rfl) rfl rfl ?_
                      refine w_alu (pc' := 101) (st' := [.long ((zUm (zVw (R, C, rk, sn, sk, cn, cd) P v) j i) ||| (Int64.ofNat kG0))]) (ykc_265 (e := (0, .lor, 0)) rfl) rfl rfl ?_
                      refine w_store (pc' := 103) (L' := [some (.ref 170), some (.long (zAll (R, C, rk, sn, sk, cn, cd) P v)), none, some (.int y), some (.int (zn j)), some (.long ((zUm (zVw (R, C, rk, sn, sk, cn, cd) P v) j i) ||| (Int64.ofNat kG0))), none, some (.int (zn i))]) (st' := []) (m := 2) (ykc_265 (e := (3, .lstore 5, 0)) rfl) rfl rfl ?_
                      have e1374 : (zn i) + Int32.ofInt 1 = zn (i + 1) := (zaddN (a := i) (b := 1) (znt (by omega)) c_2 (by omega))
                      have te1374 := znt (k := i + 1) (by omega)
                      refine w_store (pc' := 106) (L' := [some (.ref 170), some (.long (zAll (R, C, rk, sn, sk, cn, cd) P v)), none, some (.int y), some (.int (zn j)), some (.long ((zUm (zVw (R, C, rk, sn, sk, cn, cd) P v) j i) ||| (Int64.ofNat kG0))), none, some (.int (zn (i + 1)))]) (st' := []) (m := 3) (ykc_265 (e := (3, .iinc 7 1, 0)) rfl) (by rw [← e1374]; rfl) rfl ?_
                      refine w_gb (ykc_265 (e := (4, .goto (-39), 67)) rfl) (fun k1375 hk1375 => ?_)
                      have hbt : j.testBit i = false := (zbt j (by omega) i (by omega)).symm.trans b1373
                      have et : zUm (zVw (R, C, rk, sn, sk, cn, cd) P v) j (i + 1) = (zUm (zVw (R, C, rk, sn, sk, cn, cd) P v) j i) ||| (Int64.ofNat kG0) := by
                        show (bif j.testBit i then zUm (zVw (R, C, rk, sn, sk, cn, cd) P v) j i ||| zVw (R, C, rk, sn, sk, cn, cd) P v i else zUm (zVw (R, C, rk, sn, sk, cn, cd) P v) j i) = _
                        rw [hbt]
                        exact zorW.symm
                      have h9 := ih k1375 hk1375 (by omega) (i + 1) (by omega)
                      rw [et] at h9
                      exact h9
                    · refine w_load (pc' := 90) (v := .ref 170) (m := 1) (ykc_265 (e := (2, .aload_n kF0, 0)) rfl) rfl rfl ?_
                      refine w_gf (pc' := 93) (v := .ref 189) (ykc_265 (e := (5, .getfield 86, 0)) rfl) rfl ((hf1.1 170 35 (by decide) (by decide)).trans ((f1349.1 170 35 (by decide) (by decide)).trans ((u1347.2.1 170 35 (fun q => absurd q.2 (by decide))).trans (zsg hS zs_170_35)))) rfl ?_
                      refine w_load (pc' := 95) (v := .int (zn i)) (m := 2) (ykc_265 (e := (2, .iload 7, 0)) rfl) rfl rfl ?_
                      refine w_lalk (pc' := 96) (k := i) (ykc_265 (e := (5, .laload, 0)) rfl) (hg i (by omega)) (by omega) rfl ?_
                      refine w_br (pc' := 100) (st' := [.long ((zVw (R, C, rk, sn, sk, cn, cd) P v) i), .long (zUm (zVw (R, C, rk, sn, sk, cn, cd) P v) j i)]) (ykc_265 (e := (4, .goto 4, 100)) rfl) rfl ?_
                      refine w_alu (pc' := 101) (st' := [.long ((zUm (zVw (R, C, rk, sn, sk, cn, cd) P v) j i) ||| ((zVw (R, C, rk, sn, sk, cn, cd) P v) i))]) (ykc_265 (e := (0, .lor, 0)) rfl) rfl rfl ?_
                      refine w_store (pc' := 103) (L' := [some (.ref 170), some (.long (zAll (R, C, rk, sn, sk, cn, cd) P v)), none, some (.int y), some (.int (zn j)), some (.long ((zUm (zVw (R, C, rk, sn, sk, cn, cd) P v) j i) ||| ((zVw (R, C, rk, sn, sk, cn, cd) P v) i))), none, some (.int (zn i))]) (st' := []) (m := 2) (ykc_265 (e := (3, .lstore 5, 0)) rfl) rfl rfl ?_
                      have e1376 : (zn i) + Int32.ofInt 1 = zn (i + 1) := (zaddN (a := i) (b := 1) (znt (by omega)) c_2 (by omega))
                      have te1376 := znt (k := i + 1) (by omega)
                      refine w_store (pc' := 106) (L' := [some (.ref 170), some (.long (zAll (R, C, rk, sn, sk, cn, cd) P v)), none, some (.int y), some (.int (zn j)), some (.long ((zUm (zVw (R, C, rk, sn, sk, cn, cd) P v) j i) ||| ((zVw (R, C, rk, sn, sk, cn, cd) P v) i))), none, some (.int (zn (i + 1)))]) (st' := []) (m := 3) (ykc_265 (e := (3, .iinc 7 1, 0)) rfl) (by rw [← e1376]; rfl) rfl ?_
                      refine w_gb (ykc_265 (e := (4, .goto (-39), 67)) rfl) (fun k1377 hk1377 => ?_)
                      have hbt : j.testBit i = true := (zbt j (by omega) i (by omega)).symm.trans b1373
                      have et : zUm (zVw (R, C, rk, sn, sk, cn, cd) P v) j (i + 1) = (zUm (zVw (R, C, rk, sn, sk, cn, cd) P v) j i) ||| ((zVw (R, C, rk, sn, sk, cn, cd) P v) i) := by
                        show (bif j.testBit i then zUm (zVw (R, C, rk, sn, sk, cn, cd) P v) j i ||| zVw (R, C, rk, sn, sk, cn, cd) P v i else zUm (zVw (R, C, rk, sn, sk, cn, cd) P v) j i) = _
                        rw [hbt]
                        rfl
                      have h9 := ih k1377 hk1377 (by omega) (i + 1) (by omega)
                      rw [et] at h9
                      exact h9
              exact hl3 n3 (Nat.le_refl _) 0 (Nat.zero_le _)
        exact hl2 n 0 _ _ _ _ (Nat.zero_le _) (Or.inl ⟨by decide, rfl⟩)
      · refine w_load (pc' := 25) (v := .ref 170) (m := 1) (ykc_265 (e := (2, .aload_n kF0, 0)) rfl) rfl rfl ?_
        refine w_gf (pc' := 28) (v := .ref 189) (ykc_265 (e := (5, .getfield 86, 0)) rfl) rfl ((hf1.1 170 35 (by decide) (by decide)).trans ((f1349.1 170 35 (by decide) (by decide)).trans ((u1347.2.1 170 35 (fun q => absurd q.2 (by decide))).trans (zsg hS zs_170_35)))) rfl ?_
        refine w_load (pc' := 29) (v := .int (zn k)) (m := 1) (ykc_265 (e := (2, .iload_n kF3, 0)) rfl) rfl rfl ?_
        refine w_load (pc' := 30) (v := .ref 170) (m := 1) (ykc_265 (e := (2, .aload_n kF0, 0)) rfl) rfl rfl ?_
        refine w_load (pc' := 31) (v := .ref 170) (m := 1) (ykc_265 (e := (2, .aload_n kF0, 0)) rfl) rfl rfl ?_
        refine w_gf (pc' := 34) (v := .ref 174) (ykc_265 (e := (5, .getfield 41, 0)) rfl) rfl ((hf1.1 170 11 (by decide) (by decide)).trans ((f1349.1 170 11 (by decide) (by decide)).trans ((u1347.2.1 170 11 (fun q => absurd q.2 (by decide))).trans (zsg hS zs_170_11)))) rfl ?_
        refine w_load (pc' := 35) (v := .int (zn k)) (m := 1) (ykc_265 (e := (2, .iload_n kF3, 0)) rfl) rfl rfl ?_
        refine w_cv (as := [.ref 170, .ref 174, .int (zn k)]) (r := [.int (zn k), .ref 189]) (ykc_265 (e := (6, .invokevirtual 300, 0)) rfl) rfl rfl rfl rfl (zm_seen hS5 hE5 hN5 hA hv5 hO0 (p := k) (by omega)) (fun v1378 ph1379 hv => ?_)
        obtain ⟨f2, rfl⟩ := hv
        have f3 : zFr [181, 182, 189] [] ph1351 ph1379 := zFr_trans hf1 (zFr_mono f2 (by simp) (by simp))
        show zW n D 265 Q 38 [some (.ref 170), some (.long (zAll (R, C, rk, sn, sk, cn, cd) P v)), none, some (.int (zn k)), o4, o5, o6, o7] [.long ((zVw (R, C, rk, sn, sk, cn, cd) P v) k), .int (zn k), .ref 189] ph1379
        refine w_las (pc' := 39) (k := k) (ykc_265 (e := (5, .lastore, 0)) rfl) (by omega) rfl (fun ph1381 u1380 => ?_)
        have e1382 : (zn k) + Int32.ofInt 1 = zn (k + 1) := (zaddN (a := k) (b := 1) (znt (by omega)) c_2 (by omega))
        have te1382 := znt (k := k + 1) (by omega)
        refine w_store (pc' := 42) (L' := [some (.ref 170), some (.long (zAll (R, C, rk, sn, sk, cn, cd) P v)), none, some (.int (zn (k + 1))), o4, o5, o6, o7]) (st' := []) (m := 3) (ykc_265 (e := (3, .iinc 3 1, 0)) rfl) (by rw [← e1382]; rfl) rfl ?_
        refine w_gb (ykc_265 (e := (4, .goto (-26), 16)) rfl) (fun k1383 hk1383 => ?_)
        exact ih k1383 hk1383 (k + 1) _ _ _ _ _ (by omega) (zFr_add f3 u1380 (Or.inl (by simp))) (fun i hi => by
          by_cases e : i = k
          · subst e; exact u1380.1
          · exact (u1380.2.1 189 i (fun q => e q.2)).trans ((f2.1 189 i (by simp) (by simp)).trans (hg i (by omega))))
  exact hl1 n 0 _ _ _ _ _ (Nat.zero_le _) zFr_refl (fun i hi => absurd hi (Nat.not_lt_zero i))
