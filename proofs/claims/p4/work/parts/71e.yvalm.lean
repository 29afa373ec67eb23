/-! valley, what class and reference answer, by hand, printed by wip/y/h_zzx.py -/
def ztkF (a lo hi : Nat) : List (Nat × xh) := [(696335, .inl (Int.ofNat a, Int.ofNat a)), (696336, .inl (Int.ofNat (a + 1), Int.ofNat 80)), (720896 + a, .inl (Int.ofNat lo, Int.ofNat hi))]
noncomputable def ztkC (fs : List (Nat × xh)) (r : Int) (b : Nat) : Bool := xs_198 (xhmV 1 [.inr (.inr (.inl 0)), .inr (.inr (.inl 91))]) (xrsA xX [(some (.inl (r, r)), [(696335, .inl (Int.ofNat b, Int.ofNat b))])]) (3 + fs.length, [], [], xhmF 3 fs, 0, [])
set_option maxRecDepth 6000 in
theorem ztk_0 : (List.range 52).all (fun a => ztkC (ztkF a 46 46) (Int.ofNat 0) (a + 1)) = true := by decide +kernel
set_option maxRecDepth 6000 in
theorem ztk_1 : (List.range 52).all (fun a => ztkC (ztkF a 35 35) (Int.ofNat 1) (a + 1)) = true := by decide +kernel
set_option maxRecDepth 6000 in
theorem ztk_2 : (List.range 52).all (fun a => ztkC (ztkF a 0 34) (Int.negSucc 0) a) = true := by decide +kernel
set_option maxRecDepth 6000 in
theorem ztk_3 : (List.range 52).all (fun a => ztkC (ztkF a 36 45) (Int.negSucc 0) a) = true := by decide +kernel
set_option maxRecDepth 6000 in
theorem ztk_4 : (List.range 52).all (fun a => ztkC (ztkF a 47 255) (Int.negSucc 0) a) = true := by decide +kernel
set_option maxRecDepth 6000 in
theorem ztk_5 : (List.range 52).all (fun a => ztkC [(696335, .inl (Int.ofNat a, Int.ofNat a)), (696336, .inl (Int.ofNat 0, Int.ofNat a))] (Int.negSucc 0) a) = true := by decide +kernel
set_option maxRecDepth 6000 in
theorem zkey {a : Nat} (ha : a < 80) : (720896 + a) / 4096 = 176 ∧ (720896 + a) % 4096 = a ∧ 720896 + a < 17592186044416 := by omega
section ZM
variable {m : Int} {w D : Nat} {Q : Option Value → pm_H → Prop} {T : Int32} {n : Nat} {t : Nat → Int32}
set_option maxRecDepth 6000 in
/-- one run of takesOf(".#") out of a check -/
theorem ztkR (hm : m ≤ 2147483646) (h0m : (0 : Int) ≤ m) (hD : 5 ≤ D) {ph : pm_H} (hP : xH xX kK m 0 ph) {fs : List (Nat × xh)} (hF : xhF xX m ph fs) {r : Int} {b : Nat} (hc : ztkC fs r b = true) : ∃ v ph', pm_Rd kK false D 198 [.ref 170, .ref 1048627] ph (v, ph', 0, 0) ∧ (xH xX kK m 0 ph' ∧ xSame xX xgA_G64 xgF_G64 ph ph' ∧ (∃ z : Int32, v = some (.int z) ∧ z.toInt = r) ∧ ∃ A : Int32, xget ph' 170 15 = some (.int A) ∧ A.toInt = (b : Int)) := by
  obtain ⟨v, ph', k1, k2, k3, q, hq, k4, k5⟩ := xcok_alt (E := fun p => xSame xX xgA_G64 xgF_G64 ph p) (xso_198 (fun p p' hs hp => ⟨fun a i ha hi => (hp.1 a i ha hi).trans (hs.1 a i ha hi), fun a i k ha hi => (hp.2 a i k ha hi).trans (hs.2 a i k ha hi)⟩)) hc D hD m hm h0m [.ref 170, .ref 1048627] ph ⟨xaRi rfl (by decide), xaRi rfl (by decide), trivial⟩ hF hP ⟨fun _ _ _ _ => rfl, fun _ _ _ _ _ => rfl⟩
  obtain rfl := List.mem_singleton.mp hq
  obtain ⟨u, e, z, e2, z0, z1⟩ := k4
  obtain ⟨A, h1, h2, h3⟩ := xhF_getA (a := 170) (c := 15) k5 (List.Mem.head _) rfl rfl
  have h2 : (b : Int) ≤ A.toInt := h2
  have h3 : A.toInt ≤ (b : Int) := h3
  exact ⟨v, ph', k1, k2, k3, ⟨z, by rw [e, e2], by omega⟩, A, h1, by omega⟩

set_option maxRecDepth 6000 in
theorem ztkF_ok {ph : pm_H} (hP : xH xX kK m 0 ph) {A B : Int32} {a : Nat} (hA : xget ph 170 15 = some (.int A)) (ha : A.toInt = (a : Int)) (hB : xget ph 170 16 = some (.int B)) (hb : B.toInt = (n : Int)) (hn80 : n ≤ 80) (hX : yTX ph 176 n t) (h52 : a < 52) {c : Int32} (hc : t a = c) (hk : a < n) {lo hi : Nat} (h1 : (lo : Int) ≤ c.toInt) (h2 : c.toInt ≤ (hi : Int)) : xhF xX m ph (ztkF a lo hi) := fun k h hm => by
  rcases List.mem_cons.mp hm with e | hm
  · cases e
    exact ⟨by decide, ⟨0, _, rfl, rfl⟩, .int A, hA, A, rfl, by rw [ha]; exact Int.le_refl _, by rw [ha]; exact Int.le_refl _⟩
  · rcases List.mem_cons.mp hm with e | hm
    · cases e
      exact ⟨by decide, ⟨0, _, rfl, rfl⟩, .int B, hB, B, rfl, by rw [hb]; show ((a + 1 : Nat) : Int) ≤ (n : Int); omega, by rw [hb]; show (n : Int) ≤ 80; omega⟩
    · rcases List.mem_cons.mp hm with e | hm
      · cases e
        obtain ⟨k1, k2, k3⟩ := zkey (show a < 80 by omega)
        exact ⟨k3, ⟨6, _, by rw [k1]; rfl, by rw [k1]; rfl⟩, .int c, by rw [k1, k2, hX a hk, hc], c, rfl, h1, h2⟩
      · cases hm
set_option maxRecDepth 6000 in
theorem ztkF_ok2 {ph : pm_H} (hP : xH xX kK m 0 ph) {A B : Int32} {a : Nat} (hA : xget ph 170 15 = some (.int A)) (ha : A.toInt = (a : Int)) (hB : xget ph 170 16 = some (.int B)) (hb : B.toInt = (n : Int)) (hn80 : n ≤ 80) (hk : n ≤ a) (h80 : a ≤ 80) : xhF xX m ph [(696335, .inl (Int.ofNat a, Int.ofNat a)), (696336, .inl (Int.ofNat 0, Int.ofNat a))] := fun k h hm => by
  rcases List.mem_cons.mp hm with e | hm
  · cases e
    exact ⟨by decide, ⟨0, _, rfl, rfl⟩, .int A, hA, A, rfl, by rw [ha]; exact Int.le_refl _, by rw [ha]; exact Int.le_refl _⟩
  · rcases List.mem_cons.mp hm with e | hm
    · cases e
      exact ⟨by decide, ⟨0, _, rfl, rfl⟩, .int B, hB, B, rfl, by rw [hb]; show (0 : Int) ≤ (n : Int); omega, by rw [hb]; show (n : Int) ≤ (a : Int); omega⟩
    · cases hm
set_option maxRecDepth 6000 in
theorem zbyteX {ph : pm_H} (hP : xH xX kK m 0 ph) (hX : yTX ph 176 n t) (hn80 : n ≤ 80) {a : Nat} (ha : a < n) : 0 ≤ (t a).toInt ∧ (t a).toInt ≤ 255 := by
  obtain ⟨x, h1, h2⟩ := xA_el (A := 176) (k := a) hP rfl rfl (by omega)
  rw [hX a ha] at h1
  cases h1
  rw [Nat.mod_one] at h2
  exact h2
set_option maxRecDepth 6000 in
/-- takesOf(".#") at a -/
theorem ztakes (hm : m ≤ 2147483646) (h0m : (0 : Int) ≤ m) (hD : 5 ≤ D) {ph : pm_H} (hP : xH xX kK m 0 ph) {A B : Int32} {a : Nat} (hA : xget ph 170 15 = some (.int A)) (ha : A.toInt = (a : Int)) (hB : xget ph 170 16 = some (.int B)) (hb : B.toInt = (n : Int)) (hn80 : n ≤ 80) (hX : yTX ph 176 n t) (h52 : a < 52) : ∃ v ph', pm_Rd kK false D 198 [.ref 170, .ref 1048627] ph (v, ph', 0, 0) ∧ (xH xX kK m 0 ph' ∧ xSame xX xgA_G64 xgF_G64 ph ph' ∧ ∃ z A1 : Int32, v = some (.int z) ∧ xget ph' 170 15 = some (.int A1) ∧ ((z.toInt = -1 ∧ A1.toInt = (a : Int) ∧ ¬ zfs n t a) ∨ (0 ≤ z.toInt ∧ z.toInt ≤ 1 ∧ A1.toInt = ((a + 1 : Nat) : Int) ∧ zfs n t a ∧ (z.toInt = 1 ↔ (t a).toInt = 35)))) := by
  by_cases hk : a < n
  · obtain ⟨b0, b1⟩ := zbyteX hP hX hn80 hk
    by_cases h46 : (t a).toInt = 46
    · obtain ⟨v, ph', k1, k2, k3, ⟨z, e, hz⟩, A1, h1, h2⟩ := ztkR hm h0m hD hP (ztkF_ok hP hA ha hB hb hn80 hX h52 rfl hk (lo := 46) (hi := 46) (by omega) (by omega)) (List.all_eq_true.mp ztk_0 a (List.mem_range.mpr h52))
      have hz : z.toInt = 0 := hz
      exact ⟨v, ph', k1, k2, k3, z, A1, e, h1, Or.inr ⟨by omega, by omega, h2, ⟨hk, Or.inl h46⟩, by omega⟩⟩
    · by_cases h35 : (t a).toInt = 35
      · obtain ⟨v, ph', k1, k2, k3, ⟨z, e, hz⟩, A1, h1, h2⟩ := ztkR hm h0m hD hP (ztkF_ok hP hA ha hB hb hn80 hX h52 rfl hk (lo := 35) (hi := 35) (by omega) (by omega)) (List.all_eq_true.mp ztk_1 a (List.mem_range.mpr h52))
        have hz : z.toInt = 1 := hz
        exact ⟨v, ph', k1, k2, k3, z, A1, e, h1, Or.inr ⟨by omega, by omega, h2, ⟨hk, Or.inr h35⟩, by omega⟩⟩
      · have hno : ¬ zfs n t a := fun q => by
          rcases q.2 with e | e
          · exact h46 e
          · exact h35 e
        have key : ∀ lo hi : Nat, (lo : Int) ≤ (t a).toInt → (t a).toInt ≤ (hi : Int) → ztkC (ztkF a lo hi) (Int.negSucc 0) a = true → ∃ v ph', pm_Rd kK false D 198 [.ref 170, .ref 1048627] ph (v, ph', 0, 0) ∧ (xH xX kK m 0 ph' ∧ xSame xX xgA_G64 xgF_G64 ph ph' ∧ ∃ z A1 : Int32, v = some (.int z) ∧ xget ph' 170 15 = some (.int A1) ∧ ((z.toInt = -1 ∧ A1.toInt = (a : Int) ∧ ¬ zfs n t a) ∨ (0 ≤ z.toInt ∧ z.toInt ≤ 1 ∧ A1.toInt = ((a + 1 : Nat) : Int) ∧ zfs n t a ∧ (z.toInt = 1 ↔ (t a).toInt = 35)))) := fun lo hi l1 l2 hc => by
          obtain ⟨v, ph', k1, k2, k3, ⟨z, e, hz⟩, A1, h1, h2⟩ := ztkR hm h0m hD hP (ztkF_ok hP hA ha hB hb hn80 hX h52 rfl hk l1 l2) hc
          exact ⟨v, ph', k1, k2, k3, z, A1, e, h1, Or.inl ⟨hz, h2, hno⟩⟩
        by_cases c1 : (t a).toInt ≤ 34
        · exact key 0 34 (by omega) (by omega) (List.all_eq_true.mp ztk_2 a (List.mem_range.mpr h52))
        · by_cases c2 : (t a).toInt ≤ 45
          · exact key 36 45 (by omega) (by omega) (List.all_eq_true.mp ztk_3 a (List.mem_range.mpr h52))
          · exact key 47 255 (by omega) (by omega) (List.all_eq_true.mp ztk_4 a (List.mem_range.mpr h52))
  · obtain ⟨v, ph', k1, k2, k3, ⟨z, e, hz⟩, A1, h1, h2⟩ := ztkR hm h0m hD hP (ztkF_ok2 hP hA ha hB hb hn80 (by omega) (by omega)) (List.all_eq_true.mp ztk_5 a (List.mem_range.mpr h52))
    exact ⟨v, ph', k1, k2, k3, z, A1, e, h1, Or.inl ⟨hz, h2, fun q => hk q.1⟩⟩
/-- a digit from lo to hi at a, or -1 -/
def zdd (n : Nat) (t : Nat → Int32) (a : Nat) (lo hi : Int) : Int := if a < n ∧ lo ≤ (t a).toInt - 48 ∧ (t a).toInt - 48 ≤ hi then (t a).toInt - 48 else -1
set_option maxRecDepth 6000 in
theorem zdinG {ph : pm_H} (hP : xH xX kK m 0 ph) {A B : Int32} {a : Nat} (hA : xget ph 170 15 = some (.int A)) (ha : A.toInt = (a : Int)) (hB : xget ph 170 16 = some (.int B)) (hb : B.toInt = (n : Int)) (hn80 : n ≤ 80) (hX : yTX ph 176 n t) {lo hi : Int32} (hlo : 0 ≤ lo.toInt) : ∃ v ph', pm_Rd kK false (D + 1 + 1) 200 [.ref 170, .int lo, .int hi] ph (v, ph', 0, 0) ∧ (xH xX kK m 0 ph' ∧ ∃ d : Int32, v = some (.int d) ∧ d.toInt = zdd n t a lo.toInt hi.toInt ∧ ((zdd n t a lo.toInt hi.toInt = -1 ∧ ph = ph') ∨ (0 ≤ zdd n t a lo.toInt hi.toInt ∧ ∃ A1 : Int32, A1.toInt = ((a + 1 : Nat) : Int) ∧ xu1 ph ph' 170 15 (.int A1)))) := by
  refine xRd_mk (nl := 3) rfl rfl ?_
  show xGT kK (D + 1) 200 _ (0, [some (.ref 170), some (.int lo), some (.int hi)], [], ph, 0, 0)
  obtain ⟨l2, hl2, -, -⟩ := xA_at (A := 176) hP rfl rfl
  by_cases hk : a < n
  · obtain ⟨b0, b1⟩ := zbyteX hP hX hn80 hk
    refine gt_load (v := .ref 170) (n := 1) (ykc_200 (e := (2, .aload_n kF0, 0)) rfl) rfl rfl ?_
    refine gt_ogk (A := 170) (v := .int A) (ykc_200 (e := (5, .getfield 139, 0)) rfl) rfl hP rfl rfl hA rfl ?_
    refine gt_load (v := .ref 170) (n := 1) (ykc_200 (e := (2, .aload_n kF0, 0)) rfl) rfl rfl ?_
    refine gt_ogk (A := 170) (v := .int B) (ykc_200 (e := (5, .getfield 151, 0)) rfl) rfl hP rfl rfl hB rfl ?_
    refine gt_ige_f (ykc_200 (e := (4, .if_icmp .ge 26, 34)) rfl) (by omega) rfl ?_
    refine gt_load (v := .ref 170) (n := 1) (ykc_200 (e := (2, .aload_n kF0, 0)) rfl) rfl rfl ?_
    refine gt_ogr (A := 170) (B := 176) (ykc_200 (e := (5, .getfield 47, 0)) rfl) rfl hP rfl rfl rfl rfl rfl ?_
    refine gt_load (v := .ref 170) (n := 1) (ykc_200 (e := (2, .aload_n kF0, 0)) rfl) rfl rfl ?_
    refine gt_ogk (A := 170) (v := .int A) (ykc_200 (e := (5, .getfield 139, 0)) rfl) rfl hP rfl rfl hA rfl ?_
    refine gt_ialk (y := t a) (ykc_200 (e := (5, .iaload, 0)) rfl) (hX a hk) ⟨l2, hl2⟩ ha rfl ?_
    refine gt_push (v := .int ((Int8.ofInt 48).toInt32)) (n := 2) (ykc_200 (e := (1, .bipush 48, 0)) rfl) rfl rfl ?_
    obtain ⟨dv, e_dv, h_dv⟩ : ∃ zq : Int32, (t a) - ((Int8.ofInt 48).toInt32) = zq ∧ zq.toInt = (t a).toInt - 48 := ⟨_, rfl, by rw [ti_sub (by rw [zb48]; omega) (by rw [zb48]; omega), zb48]⟩
    refine gt_alu (st' := [.int dv]) (ykc_200 (e := (0, .isub, 0)) rfl) (by rw [← e_dv]; exact rfl) rfl ?_
    refine gt_alu (st' := [.long dv.toInt64]) (ykc_200 (e := (0, .i2l, 0)) rfl) rfl rfl ?_
    refine gt_load (v := .int lo) (n := 1) (ykc_200 (e := (2, .iload_n kF1, 0)) rfl) rfl rfl ?_
    refine gt_alu (st' := [.long lo.toInt64, .long dv.toInt64]) (ykc_200 (e := (0, .i2l, 0)) rfl) rfl rfl ?_
    refine gt_load (v := .int hi) (n := 1) (ykc_200 (e := (2, .iload_n kF2, 0)) rfl) rfl rfl ?_
    refine gt_alu (st' := [.long hi.toInt64, .long lo.toInt64, .long dv.toInt64]) (ykc_200 (e := (0, .i2l, 0)) rfl) rfl rfl ?_
    refine gt_cs (n := 3) (as := [.long dv.toInt64, .long lo.toInt64, .long hi.toInt64]) (r := []) (ykc_200 (e := (6, .invokestatic 126, 0)) rfl) rfl rfl rfl rfl (xin_run (D := D)) rfl (fun vv ph101 hv => ?_)
    obtain ⟨z, e9, e8, z_s⟩ := hv; subst e9; have e7 := e8.symm; subst e7; rw [tl_i2l, tl_i2l, tl_i2l] at z_s
    change xGT kK (D + 1) 200 _ (31, [some (.ref 170), some (.int lo), some (.int hi)], [.int z], ph, 0, 0)
    rcases z_s with ⟨z1, z2, z3⟩ | ⟨z1, z2⟩
    · refine gt_zne_t (ykc_200 (e := (4, .ifCond .ne 5, 36)) rfl) (by omega) ?_
      refine gt_load (v := .ref 170) (n := 1) (ykc_200 (e := (2, .aload_n kF0, 0)) rfl) rfl rfl ?_
      refine gt_alu (st' := [.ref 170, .ref 170]) (ykc_200 (e := (0, .dup, 0)) rfl) rfl rfl ?_
      refine gt_ogk (A := 170) (v := .int A) (ykc_200 (e := (5, .getfield 139, 0)) rfl) rfl hP rfl rfl hA rfl ?_
      refine gt_alu (st' := [.int (Int32.ofInt 1), .int A, .ref 170]) (ykc_200 (e := (0, .iconst 1, 0)) rfl) rfl rfl ?_
      obtain ⟨A1, e_A1, h_A1⟩ : ∃ zq : Int32, A + (Int32.ofInt 1) = zq ∧ zq.toInt = A.toInt + 1 := ⟨_, rfl, by rw [ti_add (by rw [yi1]; omega) (by rw [yi1]; omega), yi1]⟩
      refine gt_alu (st' := [.int A1, .ref 170]) (ykc_200 (e := (0, .iadd, 0)) rfl) (by rw [← e_A1]; exact rfl) rfl ?_
      refine gt_opv (A := 170) (y := .int A1) (ty := .int) (ykc_200 (e := (5, .putfield 139, 0)) rfl) rfl hP rfl rfl rfl rfl rfl ⟨_, rfl, (show (0 : Int) ≤ A1.toInt by omega), (show A1.toInt ≤ 80 by omega)⟩ rfl (fun ph202 hP202 u202 => ?_)
      have f202_170_16 : xget ph202 170 16 = some (.int B) := (u202.2.1 170 16 (fun q => absurd q.2 (by decide))).trans hB
      refine gt_load (v := .ref 170) (n := 1) (ykc_200 (e := (2, .aload_n kF0, 0)) rfl) rfl rfl ?_
      refine gt_ogr (A := 170) (B := 176) (ykc_200 (e := (5, .getfield 47, 0)) rfl) rfl hP202 rfl rfl rfl rfl rfl ?_
      refine gt_load (v := .ref 170) (n := 1) (ykc_200 (e := (2, .aload_n kF0, 0)) rfl) rfl rfl ?_
      refine gt_ogk (A := 170) (v := .int A1) (ykc_200 (e := (5, .getfield 139, 0)) rfl) rfl hP202 rfl rfl u202.1 rfl ?_
      refine gt_alu (st' := [.int (Int32.ofInt 1), .int A1, .ref 176]) (ykc_200 (e := (0, .iconst 1, 0)) rfl) rfl rfl ?_
      obtain ⟨a0, e_a0, h_a0⟩ : ∃ zq : Int32, A1 - (Int32.ofInt 1) = zq ∧ zq.toInt = A1.toInt - 1 := ⟨_, rfl, by rw [ti_sub (by rw [yi1]; omega) (by rw [yi1]; omega), yi1]⟩
      refine gt_alu (st' := [.int a0, .ref 176]) (ykc_200 (e := (0, .isub, 0)) rfl) (by rw [← e_a0]; exact rfl) rfl ?_
      refine gt_ialk (y := t a) (ykc_200 (e := (5, .iaload, 0)) rfl) ((u202.2.1 176 a (fun q => absurd q.1 (by decide))).trans (hX a hk)) ⟨l2, (u202.2.2 176 (by decide)).trans hl2⟩ (by omega) rfl ?_
      refine gt_push (v := .int ((Int8.ofInt 48).toInt32)) (n := 2) (ykc_200 (e := (1, .bipush 48, 0)) rfl) rfl rfl ?_
      obtain ⟨dr, e_dr, h_dr⟩ : ∃ zq : Int32, (t a) - ((Int8.ofInt 48).toInt32) = zq ∧ zq.toInt = (t a).toInt - 48 := ⟨_, rfl, by rw [ti_sub (by rw [zb48]; omega) (by rw [zb48]; omega), zb48]⟩
      refine gt_alu (st' := [.int dr]) (ykc_200 (e := (0, .isub, 0)) rfl) (by rw [← e_dr]; exact rfl) rfl ?_
      refine gt_ret (ykc_200 (e := (7, .ireturn, 0)) rfl) rfl ?_
      have e : zdd n t a lo.toInt hi.toInt = (t a).toInt - 48 := by unfold zdd; rw [if_pos ⟨hk, by omega, by omega⟩]
      exact ⟨hP202, _, rfl, by rw [e]; exact h_dr, Or.inr ⟨by omega, A1, by omega, u202⟩⟩
    · refine gt_zne_f (ykc_200 (e := (4, .ifCond .ne 5, 36)) rfl) (by omega) rfl ?_
      refine gt_alu (st' := [.int (Int32.ofInt (-1))]) (ykc_200 (e := (0, .iconst (-1), 0)) rfl) rfl rfl ?_
      refine gt_ret (ykc_200 (e := (7, .ireturn, 0)) rfl) rfl ?_
      have e : zdd n t a lo.toInt hi.toInt = -1 := by unfold zdd; rw [if_neg (fun q => by omega)]
      exact ⟨hP, _, rfl, by rw [e]; decide, Or.inl ⟨e, rfl⟩⟩
  · refine gt_load (v := .ref 170) (n := 1) (ykc_200 (e := (2, .aload_n kF0, 0)) rfl) rfl rfl ?_
    refine gt_ogk (A := 170) (v := .int A) (ykc_200 (e := (5, .getfield 139, 0)) rfl) rfl hP rfl rfl hA rfl ?_
    refine gt_load (v := .ref 170) (n := 1) (ykc_200 (e := (2, .aload_n kF0, 0)) rfl) rfl rfl ?_
    refine gt_ogk (A := 170) (v := .int B) (ykc_200 (e := (5, .getfield 151, 0)) rfl) rfl hP rfl rfl hB rfl ?_
    refine gt_ige_t (ykc_200 (e := (4, .if_icmp .ge 26, 34)) rfl) (by omega) ?_
    refine gt_alu (st' := [.int (Int32.ofInt (-1))]) (ykc_200 (e := (0, .iconst (-1), 0)) rfl) rfl rfl ?_
    refine gt_ret (ykc_200 (e := (7, .ireturn, 0)) rfl) rfl ?_
    have e : zdd n t a lo.toInt hi.toInt = -1 := by unfold zdd; rw [if_neg (fun q => hk q.1)]
    exact ⟨hP, _, rfl, by rw [e]; decide, Or.inl ⟨e, rfl⟩⟩
set_option maxRecDepth 6000 in
theorem zdd_sd (n : Nat) (t : Nat → Int32) (a : Nat) : zdd n t a (Int32.ofInt 3).toInt ((Int8.ofInt 7).toInt32).toInt = zsd n t a := by
  rw [zi3, zb7]
  unfold zdd zsd
  by_cases h : a < n ∧ 51 ≤ (t a).toInt ∧ (t a).toInt ≤ 55
  · rw [if_pos h, if_pos ⟨h.1, by omega, by omega⟩]
  · rw [if_neg h, if_neg (fun q => h ⟨q.1, by omega, by omega⟩)]
set_option maxRecDepth 6000 in
theorem zdin {ph : pm_H} (hP : xH xX kK m 0 ph) {A B : Int32} {a : Nat} (hA : xget ph 170 15 = some (.int A)) (ha : A.toInt = (a : Int)) (hB : xget ph 170 16 = some (.int B)) (hb : B.toInt = (n : Int)) (hn80 : n ≤ 80) (hX : yTX ph 176 n t) : ∃ v ph', pm_Rd kK false (D + 1 + 1) 200 [.ref 170, .int (Int32.ofInt 3), .int ((Int8.ofInt 7).toInt32)] ph (v, ph', 0, 0) ∧ (xH xX kK m 0 ph' ∧ ∃ d : Int32, v = some (.int d) ∧ d.toInt = zsd n t a ∧ ((zsd n t a = -1 ∧ ph = ph') ∨ (0 ≤ zsd n t a ∧ ∃ A1 : Int32, A1.toInt = ((a + 1 : Nat) : Int) ∧ xu1 ph ph' 170 15 (.int A1)))) := by
  have h := zdinG (D := D) hP hA ha hB hb hn80 hX (lo := Int32.ofInt 3) (hi := (Int8.ofInt 7).toInt32) (by decide)
  rw [zdd_sd] at h
  exact h
set_option maxRecDepth 6000 in
theorem zfld {ph : pm_H} (hP : xH xX kK m w ph) {r c : Int32} {k : Nat} (h3 : xget ph 170 3 = some (.int r)) (h4 : xget ph 170 4 = some (.int c)) (hk : r.toInt * c.toInt = (k : Int)) (h49 : k ≤ 49) : ∃ v ph', pm_Rd kK false (D + 1) 188 [.ref 170] ph (v, ph', 0, 0) ∧ (ph = ph' ∧ ∃ N : Int32, v = some (.int N) ∧ N.toInt = (k : Int)) := by
  refine xRd_mk (nl := 1) rfl rfl ?_
  show xGT kK D 188 _ (0, [some (.ref 170)], [], ph, 0, 0)
  refine gt_load (v := .ref 170) (n := 1) (ykc_188 (e := (2, .aload_n kF0, 0)) rfl) rfl rfl ?_
  refine gt_ogk (A := 170) (v := .int r) (ykc_188 (e := (5, .getfield 24, 0)) rfl) rfl hP rfl rfl h3 rfl ?_
  refine gt_load (v := .ref 170) (n := 1) (ykc_188 (e := (2, .aload_n kF0, 0)) rfl) rfl rfl ?_
  refine gt_ogk (A := 170) (v := .int c) (ykc_188 (e := (5, .getfield 27, 0)) rfl) rfl hP rfl rfl h4 rfl ?_
  obtain ⟨N, e_N, h_N⟩ : ∃ zq : Int32, r * c = zq ∧ zq.toInt = r.toInt * c.toInt := ⟨_, rfl, by rw [ti_mul (by omega) (by omega)]⟩
  refine gt_alu (st' := [.int N]) (ykc_188 (e := (0, .imul, 0)) rfl) (by rw [← e_N]; exact rfl) rfl ?_
  refine gt_ret (ykc_188 (e := (7, .ireturn, 0)) rfl) rfl ?_
  exact ⟨rfl, _, rfl, by rw [h_N]; exact hk⟩
/-- the rocks read below k -/
def zrr (p : pm_H) (t : Nat → Int32) (k : Nat) : Prop := ∀ f, f < k → ∃ y : Int32, xgb p 177 f y ∧ (y.toInt = 1 ↔ (t (2 + f)).toInt = 35)
set_option maxRecDepth 6000 in
theorem zrr_s {p p1 p2 : pm_H} {t : Nat → Int32} {k : Nat} {y : Int32} (h : zrr p t k) (h1 : pm_at p1 177 = pm_at p 177) (u : xu0 p1 p2 177 ∧ xgb p2 177 k y ∧ ∀ j z, j ≠ k → (xgb p2 177 j z ↔ xgb p1 177 j z)) (hy : y.toInt = 1 ↔ (t (2 + k)).toInt = 35) : zrr p2 t (k + 1) := fun f hf => by
  by_cases e : f = k
  · subst e
    exact ⟨y, u.2.1, hy⟩
  · obtain ⟨v, v1, v2⟩ := h f (by omega)
    exact ⟨v, (u.2.2 f v e).mpr (xgb_eq h1.symm v1), v2⟩
/-- what the reading leaves alone -/
def zvs (p0 p : pm_H) : Prop := (∀ b, b ≠ 170 → b ≠ 177 → pm_at p b = pm_at p0 b) ∧ ∀ c, c ≠ 15 → xget p 170 c = xget p0 170 c
set_option maxRecDepth 6000 in
theorem zl1 (hm : m ≤ 2147483646) (h0m : (0 : Int) ≤ m) {p0 : pm_H} {r c B : Int32} {Nn F : Nat} (hN : r.toInt * c.toInt = (Nn : Int)) (hN49 : Nn ≤ 49) (hb : B.toInt = (n : Int)) (hn80 : n ≤ 80) (hF : zF n t Nn F) (kk : ∀ (ph : pm_H) (b x A : Int32) (z0 : Option Value), xH xX kK m 0 ph → xget ph 170 15 = some (.int A) → A.toInt = ((2 + F : Nat) : Int) → xget ph 170 16 = some (.int B) → zrr ph t F → ((b.toInt = 1 ∧ F = Nn) ∨ (b.toInt = 0 ∧ F < Nn)) → xGT kK (D + 1 + 1 + 1 + 1 + 1) 202 Q (104, [some (.ref 170), some (.int r), some (.int c), some (.int b), some (.int x), z0], [], ph, 0, 0)) : ∀ (q i : Nat) (b x A : Int32) (z0 : Option Value) (ph : pm_H), i + q = F → b.toInt = 1 → x.toInt = (i : Int) → A.toInt = ((2 + i : Nat) : Int) → xH xX kK m 0 ph → xget ph 170 15 = some (.int A) → xget ph 170 16 = some (.int B) → yTX ph 176 n t → zrr ph t i → xGT kK (D + 1 + 1 + 1 + 1 + 1) 202 Q (49, [some (.ref 170), some (.int r), some (.int c), some (.int b), some (.int x), z0], [], ph, 0, 0) := by
  obtain ⟨hFN, hgd, hend⟩ := hF
  intro q
  induction q with
  | zero =>
    intro i b x A z0 ph hi hb1 hx ha hP hA hB hX hR
    obtain rfl : i = F := by omega
    by_cases hn : i = Nn
    · refine gt_load (v := .int b) (n := 1) (ykc_202 (e := (2, .iload_n kF3, 0)) rfl) rfl rfl ?_
      refine gt_zeq_f (ykc_202 (e := (4, .ifCond .eq 54, 104)) rfl) (by omega) rfl ?_
      refine gt_load (v := .int x) (n := 2) (ykc_202 (e := (2, .iload 4, 0)) rfl) rfl rfl ?_
      refine gt_load (v := .int r) (n := 1) (ykc_202 (e := (2, .iload_n kF1, 0)) rfl) rfl rfl ?_
      refine gt_load (v := .int c) (n := 1) (ykc_202 (e := (2, .iload_n kF2, 0)) rfl) rfl rfl ?_
      obtain ⟨N, e_N, h_N⟩ : ∃ zq : Int32, r * c = zq ∧ zq.toInt = r.toInt * c.toInt := ⟨_, rfl, by rw [ti_mul (by omega) (by omega)]⟩
      refine gt_alu (st' := [.int N, .int x]) (ykc_202 (e := (0, .imul, 0)) rfl) (by rw [← e_N]; exact rfl) rfl ?_
      refine gt_ige_t (ykc_202 (e := (4, .if_icmp .ge 46, 104)) rfl) (by omega) ?_
      exact kk _ _ _ _ _ hP hA ha hB hR (Or.inl ⟨hb1, hn⟩)
    · have hbad : ¬ zfs n t (2 + i) := by
        rcases hend with e | e
        · exact absurd e hn
        · exact e
      refine gt_load (v := .int b) (n := 1) (ykc_202 (e := (2, .iload_n kF3, 0)) rfl) rfl rfl ?_
      refine gt_zeq_f (ykc_202 (e := (4, .ifCond .eq 54, 104)) rfl) (by omega) rfl ?_
      refine gt_load (v := .int x) (n := 2) (ykc_202 (e := (2, .iload 4, 0)) rfl) rfl rfl ?_
      refine gt_load (v := .int r) (n := 1) (ykc_202 (e := (2, .iload_n kF1, 0)) rfl) rfl rfl ?_
      refine gt_load (v := .int c) (n := 1) (ykc_202 (e := (2, .iload_n kF2, 0)) rfl) rfl rfl ?_
      obtain ⟨N, e_N, h_N⟩ : ∃ zq : Int32, r * c = zq ∧ zq.toInt = r.toInt * c.toInt := ⟨_, rfl, by rw [ti_mul (by omega) (by omega)]⟩
      refine gt_alu (st' := [.int N, .int x]) (ykc_202 (e := (0, .imul, 0)) rfl) (by rw [← e_N]; exact rfl) rfl ?_
      refine gt_ige_f (ykc_202 (e := (4, .if_icmp .ge 46, 104)) rfl) (by omega) rfl ?_
      refine gt_load (v := .ref 170) (n := 1) (ykc_202 (e := (2, .aload_n kF0, 0)) rfl) rfl rfl ?_
      refine gt_push (v := .ref 1048627) (n := 2) (ykc_202 (e := (1, .ldc 182, 0)) rfl) rfl rfl ?_
      refine gt_ocv (A := 170) (n := 1) (as := [.ref 170, .ref 1048627]) (r := []) (ykc_202 (e := (6, .invokevirtual 184, 0)) rfl) rfl hP rfl rfl rfl rfl rfl (ztakes (D := (D + 1 + 1 + 1 + 1 + 1)) hm h0m (by omega) hP hA ha hB hb hn80 hX (by omega)) rfl (fun vv ph1 hv => ?_)
      obtain ⟨hP1, hS1, z, A1, e9, hA1, hz⟩ := hv; subst e9
      change xGT kK (D + 1 + 1 + 1 + 1 + 1) 202 Q (67, [some (.ref 170), some (.int r), some (.int c), some (.int b), some (.int x), z0], [.int z], ph1, 0, 0)
      refine gt_store (L' := [some (.ref 170), some (.int r), some (.int c), some (.int b), some (.int x), some (.int z)]) (st' := []) (n := 2) (ykc_202 (e := (3, .istore 5, 0)) rfl) rfl rfl ?_
      refine gt_load (v := .ref 170) (n := 1) (ykc_202 (e := (2, .aload_n kF0, 0)) rfl) rfl rfl ?_
      refine gt_ogr (A := 170) (B := 177) (ykc_202 (e := (5, .getfield 50, 0)) rfl) rfl hP1 rfl rfl rfl rfl rfl ?_
      refine gt_load (v := .int x) (n := 2) (ykc_202 (e := (2, .iload 4, 0)) rfl) rfl rfl ?_
      refine gt_load (v := .int z) (n := 2) (ykc_202 (e := (2, .iload 5, 0)) rfl) rfl rfl ?_
      refine gt_alu (st' := [.int (Int32.ofInt 1), .int z, .int x, .ref 177]) (ykc_202 (e := (0, .iconst 1, 0)) rfl) rfl rfl ?_
      have hzA : z.toInt = -1 ∧ A1.toInt = ((2 + i : Nat) : Int) := by
        rcases hz with ⟨z1, z2, -⟩ | ⟨-, -, -, z2, -⟩
        · exact ⟨z1, z2⟩
        · exact absurd z2 hbad
      obtain ⟨hz1, hz2⟩ := hzA
      refine gt_ine_t (ykc_202 (e := (4, .if_icmp .ne 7, 85)) rfl) (by rw [yi1]; omega) ?_
      refine gt_alu (st' := [.int (Int32.ofInt 0), .int x, .ref 177]) (ykc_202 (e := (0, .iconst 0, 0)) rfl) rfl rfl ?_
      refine gt_bas (A := 177) (y := Int32.ofInt 0) (x := x) (ykc_202 (e := (5, .bastore, 0)) rfl) hP1 rfl rfl (by omega) (by omega) rfl (fun ph2 hP2 u2 => ?_)
      refine gt_load (v := .int z) (n := 2) (ykc_202 (e := (2, .iload 5, 0)) rfl) rfl rfl ?_
      refine gt_zlt_t (ykc_202 (e := (4, .ifCond .lt 7, 96)) rfl) (by omega) ?_
      refine gt_alu (st' := [.int (Int32.ofInt 0)]) (ykc_202 (e := (0, .iconst 0, 0)) rfl) rfl rfl ?_
      refine gt_store (L' := [some (.ref 170), some (.int r), some (.int c), some (.int (Int32.ofInt 0)), some (.int x), some (.int z)]) (st' := []) (n := 1) (ykc_202 (e := (3, .istore_n kF3, 0)) rfl) rfl rfl ?_
      obtain ⟨x1, e_x1, h_x1⟩ : ∃ zq : Int32, x + Int32.ofInt 1 = zq ∧ zq.toInt = x.toInt + 1 := ⟨_, rfl, by rw [ti_add (by rw [yi1]; omega) (by rw [yi1]; omega), yi1]⟩
      refine gt_store (L' := [some (.ref 170), some (.int r), some (.int c), some (.int (Int32.ofInt 0)), some (.int x1), some (.int z)]) (st' := []) (n := 3) (ykc_202 (e := (3, .iinc 4 1, 0)) rfl) (by rw [← e_x1]; rfl) rfl ?_
      refine gt_br (pc' := 49) (st' := []) (ykc_202 (e := (4, .goto (-52), 49)) rfl) rfl ?_
      refine gt_load (v := .int (Int32.ofInt 0)) (n := 1) (ykc_202 (e := (2, .iload_n kF3, 0)) rfl) rfl rfl ?_
      refine gt_zeq_t (ykc_202 (e := (4, .ifCond .eq 54, 104)) rfl) (by decide) ?_
      exact kk _ _ _ _ _ hP2 ((u2.1.1 170 15).trans hA1) hz2 ((u2.1.1 170 16).trans ((xsame_f (a := 170) (i := 0) (k := 16) hS1 rfl rfl).trans hB)) (fun f hf => by
        obtain ⟨v, v1, v2⟩ := hR f hf
        exact ⟨v, (u2.2.2 f v (by omega)).mpr (xgb_eq (xsame_a (a := 177) (i := 7) hS1 rfl rfl).symm v1), v2⟩) (Or.inr ⟨yi0, by omega⟩)
  | succ q ih =>
    intro i b x A z0 ph hi hb1 hx ha hP hA hB hX hR
    refine gt_load (v := .int b) (n := 1) (ykc_202 (e := (2, .iload_n kF3, 0)) rfl) rfl rfl ?_
    refine gt_zeq_f (ykc_202 (e := (4, .ifCond .eq 54, 104)) rfl) (by omega) rfl ?_
    refine gt_load (v := .int x) (n := 2) (ykc_202 (e := (2, .iload 4, 0)) rfl) rfl rfl ?_
    refine gt_load (v := .int r) (n := 1) (ykc_202 (e := (2, .iload_n kF1, 0)) rfl) rfl rfl ?_
    refine gt_load (v := .int c) (n := 1) (ykc_202 (e := (2, .iload_n kF2, 0)) rfl) rfl rfl ?_
    obtain ⟨N, e_N, h_N⟩ : ∃ zq : Int32, r * c = zq ∧ zq.toInt = r.toInt * c.toInt := ⟨_, rfl, by rw [ti_mul (by omega) (by omega)]⟩
    refine gt_alu (st' := [.int N, .int x]) (ykc_202 (e := (0, .imul, 0)) rfl) (by rw [← e_N]; exact rfl) rfl ?_
    refine gt_ige_f (ykc_202 (e := (4, .if_icmp .ge 46, 104)) rfl) (by omega) rfl ?_
    refine gt_load (v := .ref 170) (n := 1) (ykc_202 (e := (2, .aload_n kF0, 0)) rfl) rfl rfl ?_
    refine gt_push (v := .ref 1048627) (n := 2) (ykc_202 (e := (1, .ldc 182, 0)) rfl) rfl rfl ?_
    refine gt_ocv (A := 170) (n := 1) (as := [.ref 170, .ref 1048627]) (r := []) (ykc_202 (e := (6, .invokevirtual 184, 0)) rfl) rfl hP rfl rfl rfl rfl rfl (ztakes (D := (D + 1 + 1 + 1 + 1 + 1)) hm h0m (by omega) hP hA ha hB hb hn80 hX (by omega)) rfl (fun vv ph1 hv => ?_)
    obtain ⟨hP1, hS1, z, A1, e9, hA1, hz⟩ := hv; subst e9
    change xGT kK (D + 1 + 1 + 1 + 1 + 1) 202 Q (67, [some (.ref 170), some (.int r), some (.int c), some (.int b), some (.int x), z0], [.int z], ph1, 0, 0)
    refine gt_store (L' := [some (.ref 170), some (.int r), some (.int c), some (.int b), some (.int x), some (.int z)]) (st' := []) (n := 2) (ykc_202 (e := (3, .istore 5, 0)) rfl) rfl rfl ?_
    refine gt_load (v := .ref 170) (n := 1) (ykc_202 (e := (2, .aload_n kF0, 0)) rfl) rfl rfl ?_
    refine gt_ogr (A := 170) (B := 177) (ykc_202 (e := (5, .getfield 50, 0)) rfl) rfl hP1 rfl rfl rfl rfl rfl ?_
    refine gt_load (v := .int x) (n := 2) (ykc_202 (e := (2, .iload 4, 0)) rfl) rfl rfl ?_
    refine gt_load (v := .int z) (n := 2) (ykc_202 (e := (2, .iload 5, 0)) rfl) rfl rfl ?_
    refine gt_alu (st' := [.int (Int32.ofInt 1), .int z, .int x, .ref 177]) (ykc_202 (e := (0, .iconst 1, 0)) rfl) rfl rfl ?_
    have hg := hgd i (by omega)
    have hzA : 0 ≤ z.toInt ∧ z.toInt ≤ 1 ∧ A1.toInt = ((2 + i + 1 : Nat) : Int) ∧ (z.toInt = 1 ↔ (t (2 + i)).toInt = 35) := by
      rcases hz with ⟨-, -, z2⟩ | ⟨z1, z2, z3, -, z4⟩
      · exact absurd hg z2
      · exact ⟨z1, z2, z3, z4⟩
    obtain ⟨hz0, hzl, hz2, hz4⟩ := hzA
    have hX1 : yTX ph1 176 n t := yTX_at hX (fun c => xget_at (xsame_a (a := 176) (i := 6) hS1 rfl rfl) c)
    have hB1 : xget ph1 170 16 = some (.int B) := (xsame_f (a := 170) (i := 0) (k := 16) hS1 rfl rfl).trans hB
    by_cases hz1 : z.toInt = 1
    · refine gt_ine_f (ykc_202 (e := (4, .if_icmp .ne 7, 85)) rfl) (by rw [yi1]; exact hz1) rfl ?_
      refine gt_alu (st' := [.int (Int32.ofInt 1), .int x, .ref 177]) (ykc_202 (e := (0, .iconst 1, 0)) rfl) rfl rfl ?_
      refine gt_br (pc' := 86) (st' := [.int (Int32.ofInt 1), .int x, .ref 177]) (ykc_202 (e := (4, .goto 4, 86)) rfl) rfl ?_
      refine gt_bas (A := 177) (y := Int32.ofInt 1) (x := x) (ykc_202 (e := (5, .bastore, 0)) rfl) hP1 rfl rfl (by omega) (by omega) rfl (fun ph102 hP102 u102 => ?_)
      refine gt_load (v := .int z) (n := 2) (ykc_202 (e := (2, .iload 5, 0)) rfl) rfl rfl ?_
      refine gt_zlt_f (ykc_202 (e := (4, .ifCond .lt 7, 96)) rfl) (by omega) rfl ?_
      refine gt_alu (st' := [.int (Int32.ofInt 1)]) (ykc_202 (e := (0, .iconst 1, 0)) rfl) rfl rfl ?_
      refine gt_br (pc' := 97) (st' := [.int (Int32.ofInt 1)]) (ykc_202 (e := (4, .goto 4, 97)) rfl) rfl ?_
      refine gt_store (L' := [some (.ref 170), some (.int r), some (.int c), some (.int (Int32.ofInt 1)), some (.int x), some (.int z)]) (st' := []) (n := 1) (ykc_202 (e := (3, .istore_n kF3, 0)) rfl) rfl rfl ?_
      obtain ⟨x1, e_x1, h_x1⟩ : ∃ zq : Int32, x + Int32.ofInt 1 = zq ∧ zq.toInt = x.toInt + 1 := ⟨_, rfl, by rw [ti_add (by rw [yi1]; omega) (by rw [yi1]; omega), yi1]⟩
      refine gt_store (L' := [some (.ref 170), some (.int r), some (.int c), some (.int (Int32.ofInt 1)), some (.int x1), some (.int z)]) (st' := []) (n := 3) (ykc_202 (e := (3, .iinc 4 1, 0)) rfl) (by rw [← e_x1]; rfl) rfl ?_
      refine gt_br (pc' := 49) (st' := []) (ykc_202 (e := (4, .goto (-52), 49)) rfl) rfl ?_
      exact ih (i + 1) _ _ _ _ _ (by omega) yi1 (by omega) (by rw [hz2]; omega) hP102 ((u102.1.1 170 15).trans hA1) ((u102.1.1 170 16).trans hB1) (yTX_at hX1 (fun c => u102.1.1 176 c)) (zrr_s hR (xsame_a (a := 177) (i := 7) hS1 rfl rfl) (by rw [show x.toInt.toNat = i by omega] at u102; exact u102) ⟨fun _ => hz4.mp hz1, fun _ => (by decide)⟩)
    · refine gt_ine_t (ykc_202 (e := (4, .if_icmp .ne 7, 85)) rfl) (by rw [yi1]; exact hz1) ?_
      refine gt_alu (st' := [.int (Int32.ofInt 0), .int x, .ref 177]) (ykc_202 (e := (0, .iconst 0, 0)) rfl) rfl rfl ?_
      refine gt_bas (A := 177) (y := Int32.ofInt 0) (x := x) (ykc_202 (e := (5, .bastore, 0)) rfl) hP1 rfl rfl (by omega) (by omega) rfl (fun ph102 hP102 u102 => ?_)
      refine gt_load (v := .int z) (n := 2) (ykc_202 (e := (2, .iload 5, 0)) rfl) rfl rfl ?_
      refine gt_zlt_f (ykc_202 (e := (4, .ifCond .lt 7, 96)) rfl) (by omega) rfl ?_
      refine gt_alu (st' := [.int (Int32.ofInt 1)]) (ykc_202 (e := (0, .iconst 1, 0)) rfl) rfl rfl ?_
      refine gt_br (pc' := 97) (st' := [.int (Int32.ofInt 1)]) (ykc_202 (e := (4, .goto 4, 97)) rfl) rfl ?_
      refine gt_store (L' := [some (.ref 170), some (.int r), some (.int c), some (.int (Int32.ofInt 1)), some (.int x), some (.int z)]) (st' := []) (n := 1) (ykc_202 (e := (3, .istore_n kF3, 0)) rfl) rfl rfl ?_
      obtain ⟨x1, e_x1, h_x1⟩ : ∃ zq : Int32, x + Int32.ofInt 1 = zq ∧ zq.toInt = x.toInt + 1 := ⟨_, rfl, by rw [ti_add (by rw [yi1]; omega) (by rw [yi1]; omega), yi1]⟩
      refine gt_store (L' := [some (.ref 170), some (.int r), some (.int c), some (.int (Int32.ofInt 1)), some (.int x1), some (.int z)]) (st' := []) (n := 3) (ykc_202 (e := (3, .iinc 4 1, 0)) rfl) (by rw [← e_x1]; rfl) rfl ?_
      refine gt_br (pc' := 49) (st' := []) (ykc_202 (e := (4, .goto (-52), 49)) rfl) rfl ?_
      exact ih (i + 1) _ _ _ _ _ (by omega) yi1 (by omega) (by rw [hz2]; omega) hP102 ((u102.1.1 170 15).trans hA1) ((u102.1.1 170 16).trans hB1) (yTX_at hX1 (fun c => u102.1.1 176 c)) (zrr_s hR (xsame_a (a := 177) (i := 7) hS1 rfl rfl) (by rw [show x.toInt.toNat = i by omega] at u102; exact u102) ⟨fun q => absurd q (by decide), fun q => absurd (hz4.mpr q) hz1⟩)
set_option maxRecDepth 6000 in
theorem zl2 {r c b : Int32} {Nn : Nat} {z0 : Option Value} (hN : r.toInt * c.toInt = (Nn : Int)) (hN49 : Nn ≤ 49) (kk : ∀ (ph : pm_H) (x : Int32), xH xX kK m 0 ph → xget ph 170 3 = some (.int r) → xget ph 170 4 = some (.int c) → xGT kK (D + 1 + 1 + 1 + 1 + 1) 202 Q (168, [some (.ref 170), some (.int r), some (.int c), some (.int b), some (.int x), z0], [], ph, 0, 0)) : ∀ (q i : Nat) (x : Int32) (ph : pm_H), i + q = Nn → x.toInt = (i : Int) → xH xX kK m 0 ph → xget ph 170 3 = some (.int r) → xget ph 170 4 = some (.int c) → xGT kK (D + 1 + 1 + 1 + 1 + 1) 202 Q (139, [some (.ref 170), some (.int r), some (.int c), some (.int b), some (.int x), z0], [], ph, 0, 0) := by
  intro q
  induction q with
  | zero =>
    intro i x ph hi hx hP h3 h4
    refine gt_load (v := .int x) (n := 2) (ykc_202 (e := (2, .iload 4, 0)) rfl) rfl rfl ?_
    refine gt_load (v := .ref 170) (n := 1) (ykc_202 (e := (2, .aload_n kF0, 0)) rfl) rfl rfl ?_
    refine gt_ocv (A := 170) (n := 0) (as := [.ref 170]) (r := [.int x]) (ykc_202 (e := (6, .invokevirtual 122, 0)) rfl) rfl hP rfl rfl rfl rfl rfl (zfld (D := D + 1 + 1 + 1 + 1) hP h3 h4 hN hN49) rfl (fun vv ph1 hv => ?_)
    obtain ⟨e8, N, e9, hNN⟩ := hv; subst e9; subst e8
    change xGT kK (D + 1 + 1 + 1 + 1 + 1) 202 Q (145, [some (.ref 170), some (.int r), some (.int c), some (.int b), some (.int x), z0], [.int N, .int x], ph, 0, 0)
    refine gt_ige_t (ykc_202 (e := (4, .if_icmp .ge 23, 168)) rfl) (by omega) ?_
    exact kk _ _ hP h3 h4
  | succ q ih =>
    intro i x ph hi hx hP h3 h4
    refine gt_load (v := .int x) (n := 2) (ykc_202 (e := (2, .iload 4, 0)) rfl) rfl rfl ?_
    refine gt_load (v := .ref 170) (n := 1) (ykc_202 (e := (2, .aload_n kF0, 0)) rfl) rfl rfl ?_
    refine gt_ocv (A := 170) (n := 0) (as := [.ref 170]) (r := [.int x]) (ykc_202 (e := (6, .invokevirtual 122, 0)) rfl) rfl hP rfl rfl rfl rfl rfl (zfld (D := D + 1 + 1 + 1 + 1) hP h3 h4 hN hN49) rfl (fun vv ph1 hv => ?_)
    obtain ⟨e8, N, e9, hNN⟩ := hv; subst e9; subst e8
    change xGT kK (D + 1 + 1 + 1 + 1 + 1) 202 Q (145, [some (.ref 170), some (.int r), some (.int c), some (.int b), some (.int x), z0], [.int N, .int x], ph, 0, 0)
    refine gt_ige_f (ykc_202 (e := (4, .if_icmp .ge 23, 168)) rfl) (by omega) rfl ?_
    refine gt_load (v := .ref 170) (n := 1) (ykc_202 (e := (2, .aload_n kF0, 0)) rfl) rfl rfl ?_
    refine gt_ogr (A := 170) (B := 172) (ykc_202 (e := (5, .getfield 33, 0)) rfl) rfl hP rfl rfl rfl rfl rfl ?_
    refine gt_load (v := .int x) (n := 2) (ykc_202 (e := (2, .iload 4, 0)) rfl) rfl rfl ?_
    refine gt_load (v := .ref 170) (n := 1) (ykc_202 (e := (2, .aload_n kF0, 0)) rfl) rfl rfl ?_
    refine gt_ogr (A := 170) (B := 177) (ykc_202 (e := (5, .getfield 50, 0)) rfl) rfl hP rfl rfl rfl rfl rfl ?_
    refine gt_load (v := .int x) (n := 2) (ykc_202 (e := (2, .iload 4, 0)) rfl) rfl rfl ?_
    refine gt_bal (A := 177) (ykc_202 (e := (5, .baload, 0)) rfl) hP rfl rfl (by omega) (by omega) rfl (fun e0 g_e0 b0_e0 b1_e0 => ?_)
    refine gt_bas (A := 172) (y := e0) (x := x) (ykc_202 (e := (5, .bastore, 0)) rfl) hP rfl rfl (by omega) (by omega) rfl (fun ph2 hP2 u2 => ?_)
    obtain ⟨x1, e_x1, h_x1⟩ : ∃ zq : Int32, x + Int32.ofInt 1 = zq ∧ zq.toInt = x.toInt + 1 := ⟨_, rfl, by rw [ti_add (by rw [yi1]; omega) (by rw [yi1]; omega), yi1]⟩
    refine gt_store (L' := [some (.ref 170), some (.int r), some (.int c), some (.int b), some (.int x1), z0]) (st' := []) (n := 3) (ykc_202 (e := (3, .iinc 4 1, 0)) rfl) (by rw [← e_x1]; rfl) rfl ?_
    refine gt_br (pc' := 139) (st' := []) (ykc_202 (e := (4, .goto (-26), 139)) rfl) rfl ?_
    exact ih (i + 1) _ _ (by omega) (by omega) hP2 ((u2.1.1 170 3).trans h3) ((u2.1.1 170 4).trans h4)
set_option maxRecDepth 6000 in
theorem zvalM (hm : m ≤ 2147483646) (h0m : (0 : Int) ≤ m) {ph : pm_H} (hP : xH xX kK m 0 ph) (hT : xget ph 170 14 = some (.int T)) (ht : T.toInt = (n : Int)) (hn80 : n ≤ 80) (hX : yTX ph 176 n t) {F : Nat} (hF : zF n t (zsd n t 0 * zsd n t 1).toNat F) : ∃ v ph', pm_Rd kK false (D + 1 + 1 + 1 + 1 + 1 + 1) 202 [.ref 170] ph (v, ph', 0, 0) ∧ (∃ r : Int32, v = some (.int r) ∧ r.toInt = zvv n (zsd n t 0) (zsd n t 1) F) := by
  have hs : ∀ p, zsd n t p = -1 ∨ (3 ≤ zsd n t p ∧ zsd n t p ≤ 7) := fun p => by
    unfold zsd
    by_cases h : p < n ∧ 51 ≤ (t p).toInt ∧ (t p).toInt ≤ 55
    · rw [if_pos h]; exact Or.inr ⟨by omega, by omega⟩
    · rw [if_neg h]; exact Or.inl rfl
  have hs0 := hs 0
  have hs1 := hs 1
  refine xRd_mk (nl := 6) rfl rfl ?_
  show xGT kK (D + 1 + 1 + 1 + 1 + 1) 202 _ (0, [some (.ref 170), none, none, none, none, none], [], ph, 0, 0)
  refine gt_load (v := .ref 170) (n := 1) (ykc_202 (e := (2, .aload_n kF0, 0)) rfl) rfl rfl ?_
  refine gt_alu (st' := [.int (Int32.ofInt 0), .ref 170]) (ykc_202 (e := (0, .iconst 0, 0)) rfl) rfl rfl ?_
  refine gt_opv (A := 170) (y := .int (Int32.ofInt 0)) (ty := .int) (ykc_202 (e := (5, .putfield 3, 0)) rfl) rfl hP rfl rfl rfl rfl rfl ⟨_, rfl, (by decide), (by decide)⟩ rfl (fun ph1 hP1 u1 => ?_)
  have f1_170_14 : xget ph1 170 14 = some (.int T) := (u1.2.1 170 14 (fun q => absurd q.2 (by decide))).trans hT
  refine gt_load (v := .ref 170) (n := 1) (ykc_202 (e := (2, .aload_n kF0, 0)) rfl) rfl rfl ?_
  refine gt_push (v := .int ((Int8.ofInt 80).toInt32)) (n := 2) (ykc_202 (e := (1, .bipush 80, 0)) rfl) rfl rfl ?_
  refine gt_ocv (A := 170) (n := 1) (as := [.ref 170, .int ((Int8.ofInt 80).toInt32)]) (r := []) (ykc_202 (e := (6, .invokevirtual 175, 0)) rfl) rfl hP1 rfl rfl rfl rfl rfl (zbegM (D := D + 1 + 1 + 1 + 1) (y := (Int8.ofInt 80).toInt32) hP1 f1_170_14 (by omega) (by decide) (by decide)) rfl (fun vv ph2 hv => ?_)
  obtain ⟨e9, hP2, ⟨B, hB, hBT⟩, hA, -, -, hX2, -, hX3⟩ := hv; subst e9
  change xGT kK (D + 1 + 1 + 1 + 1 + 1) 202 _ (11, [some (.ref 170), none, none, none, none, none], [.int T], ph2, 0, 0)
  refine gt_alu (st' := []) (ykc_202 (e := (0, .pop, 0)) rfl) rfl rfl ?_
  refine gt_load (v := .ref 170) (n := 1) (ykc_202 (e := (2, .aload_n kF0, 0)) rfl) rfl rfl ?_
  refine gt_alu (st' := [.int (Int32.ofInt 3), .ref 170]) (ykc_202 (e := (0, .iconst 3, 0)) rfl) rfl rfl ?_
  refine gt_push (v := .int ((Int8.ofInt 7).toInt32)) (n := 2) (ykc_202 (e := (1, .bipush 7, 0)) rfl) rfl rfl ?_
  have y80 := yb80
  have hbn : B.toInt = (n : Int) := by
    rcases hBT with ⟨e, -⟩ | ⟨-, q⟩
    · rw [e]; exact ht
    · omega
  have hXb : yTX ph2 176 n t := yTX_at hX (fun c => (hX2 176 c (by decide)).trans (u1.2.1 176 c (fun q => absurd q.1 (by decide))))
  refine gt_ocv (A := 170) (n := 2) (as := [.ref 170, .int (Int32.ofInt 3), .int ((Int8.ofInt 7).toInt32)]) (r := []) (ykc_202 (e := (6, .invokevirtual 179, 0)) rfl) rfl hP2 rfl rfl rfl rfl rfl (zdin (D := D + 1 + 1 + 1) hP2 hA yi0 hB hbn hn80 hXb) rfl (fun vv ph3 hv => ?_)
  obtain ⟨hP3, r, e9, hr, hr2⟩ := hv; subst e9
  change xGT kK (D + 1 + 1 + 1 + 1 + 1) 202 _ (19, [some (.ref 170), none, none, none, none, none], [.int r], ph3, 0, 0)
  refine gt_store (L' := [some (.ref 170), some (.int r), none, none, none, none]) (st' := []) (n := 1) (ykc_202 (e := (3, .istore_n kF1, 0)) rfl) rfl rfl ?_
  refine gt_load (v := .int r) (n := 1) (ykc_202 (e := (2, .iload_n kF1, 0)) rfl) rfl rfl ?_
  generalize hR : zsd n t 0 = R0 at *
  generalize hC : zsd n t 1 = C0 at *
  by_cases c1 : R0 < 0
  · obtain ⟨-, rfl⟩ : R0 = -1 ∧ ph2 = ph3 := by
      rcases hr2 with q | ⟨q, -⟩
      · exact q
      · omega
    have hAa := hA
    refine gt_zge_f (ykc_202 (e := (4, .ifCond .ge 7, 28)) rfl) (by omega) rfl ?_
    refine gt_alu (st' := [.int (Int32.ofInt (-1))]) (ykc_202 (e := (0, .iconst (-1), 0)) rfl) rfl rfl ?_
    refine gt_br (pc' := 35) (st' := [.int (Int32.ofInt (-1))]) (ykc_202 (e := (4, .goto 10, 35)) rfl) rfl ?_
    refine gt_store (L' := [some (.ref 170), some (.int r), some (.int (Int32.ofInt (-1))), none, none, none]) (st' := []) (n := 1) (ykc_202 (e := (3, .istore_n kF2, 0)) rfl) rfl rfl ?_
    refine gt_load (v := .int (Int32.ofInt (-1))) (n := 1) (ykc_202 (e := (2, .iload_n kF2, 0)) rfl) rfl rfl ?_
    refine gt_zle_t (ykc_202 (e := (4, .ifCond .le 7, 44)) rfl) (by decide) ?_
    refine gt_alu (st' := [.int (Int32.ofInt 0)]) (ykc_202 (e := (0, .iconst 0, 0)) rfl) rfl rfl ?_
    refine gt_store (L' := [some (.ref 170), some (.int r), some (.int (Int32.ofInt (-1))), some (.int (Int32.ofInt 0)), none, none]) (st' := []) (n := 1) (ykc_202 (e := (3, .istore_n kF3, 0)) rfl) rfl rfl ?_
    refine gt_alu (st' := [.int (Int32.ofInt 0)]) (ykc_202 (e := (0, .iconst 0, 0)) rfl) rfl rfl ?_
    refine gt_store (L' := [some (.ref 170), some (.int r), some (.int (Int32.ofInt (-1))), some (.int (Int32.ofInt 0)), some (.int (Int32.ofInt 0)), none]) (st' := []) (n := 2) (ykc_202 (e := (3, .istore 4, 0)) rfl) rfl rfl ?_
    refine gt_load (v := .int (Int32.ofInt 0)) (n := 1) (ykc_202 (e := (2, .iload_n kF3, 0)) rfl) rfl rfl ?_
    refine gt_zeq_t (ykc_202 (e := (4, .ifCond .eq 54, 104)) rfl) (by decide) ?_
    refine gt_load (v := .int (Int32.ofInt 0)) (n := 1) (ykc_202 (e := (2, .iload_n kF3, 0)) rfl) rfl rfl ?_
    refine gt_zeq_t (ykc_202 (e := (4, .ifCond .eq 14, 119)) rfl) (by decide) ?_
    refine gt_alu (st' := [.int (Int32.ofInt (-1))]) (ykc_202 (e := (0, .iconst (-1), 0)) rfl) rfl rfl ?_
    refine gt_load (v := .ref 170) (n := 1) (ykc_202 (e := (2, .aload_n kF0, 0)) rfl) rfl rfl ?_
    refine gt_ogk (A := 170) (v := .int (Int32.ofInt 0)) (ykc_202 (e := (5, .getfield 139, 0)) rfl) rfl hP3 rfl rfl hAa rfl ?_
    refine gt_alu (st' := [.int ((Int32.ofInt (-1)) - (Int32.ofInt 0))]) (ykc_202 (e := (0, .isub, 0)) rfl) rfl rfl ?_
    refine gt_ret (ykc_202 (e := (7, .ireturn, 0)) rfl) rfl ?_
    exact ⟨_, rfl, by unfold zvv; rw [if_pos c1]; decide⟩
  · obtain ⟨A1, hA1, uA⟩ : ∃ A1 : Int32, A1.toInt = ((0 + 1 : Nat) : Int) ∧ xu1 ph2 ph3 170 15 (.int A1) := by
      rcases hr2 with ⟨q, -⟩ | ⟨-, q⟩
      · omega
      · exact q
    have hB3 : xget ph3 170 16 = some (.int B) := (uA.2.1 170 16 (fun q => absurd q.2 (by decide))).trans hB
    have hX3b : yTX ph3 176 n t := yTX_at hXb (fun c => uA.2.1 176 c (fun q => absurd q.1 (by decide)))
    refine gt_zge_t (ykc_202 (e := (4, .ifCond .ge 7, 28)) rfl) (by omega) ?_
    refine gt_load (v := .ref 170) (n := 1) (ykc_202 (e := (2, .aload_n kF0, 0)) rfl) rfl rfl ?_
    refine gt_alu (st' := [.int (Int32.ofInt 3), .ref 170]) (ykc_202 (e := (0, .iconst 3, 0)) rfl) rfl rfl ?_
    refine gt_push (v := .int ((Int8.ofInt 7).toInt32)) (n := 2) (ykc_202 (e := (1, .bipush 7, 0)) rfl) rfl rfl ?_
    refine gt_ocv (A := 170) (n := 2) (as := [.ref 170, .int (Int32.ofInt 3), .int ((Int8.ofInt 7).toInt32)]) (r := []) (ykc_202 (e := (6, .invokevirtual 179, 0)) rfl) rfl hP3 rfl rfl rfl rfl rfl (zdin (D := D + 1 + 1 + 1) hP3 uA.1 (by rw [hA1]) hB3 hbn hn80 hX3b) rfl (fun vv ph104 hv => ?_)
    obtain ⟨hP4, c, e9, hc, hc2⟩ := hv; subst e9
    change xGT kK (D + 1 + 1 + 1 + 1 + 1) 202 _ (35, [some (.ref 170), some (.int r), none, none, none, none], [.int c], ph104, 0, 0)
    refine gt_store (L' := [some (.ref 170), some (.int r), some (.int c), none, none, none]) (st' := []) (n := 1) (ykc_202 (e := (3, .istore_n kF2, 0)) rfl) rfl rfl ?_
    refine gt_load (v := .int c) (n := 1) (ykc_202 (e := (2, .iload_n kF2, 0)) rfl) rfl rfl ?_
    rw [hC] at hc hc2
    by_cases c2 : C0 < 0
    · obtain ⟨-, rfl⟩ : C0 = -1 ∧ ph3 = ph104 := by
        rcases hc2 with q | ⟨q, -⟩
        · exact q
        · omega
      have hAa := uA.1
      refine gt_zle_t (ykc_202 (e := (4, .ifCond .le 7, 44)) rfl) (by omega) ?_
      refine gt_alu (st' := [.int (Int32.ofInt 0)]) (ykc_202 (e := (0, .iconst 0, 0)) rfl) rfl rfl ?_
      refine gt_store (L' := [some (.ref 170), some (.int r), some (.int c), some (.int (Int32.ofInt 0)), none, none]) (st' := []) (n := 1) (ykc_202 (e := (3, .istore_n kF3, 0)) rfl) rfl rfl ?_
      refine gt_alu (st' := [.int (Int32.ofInt 0)]) (ykc_202 (e := (0, .iconst 0, 0)) rfl) rfl rfl ?_
      refine gt_store (L' := [some (.ref 170), some (.int r), some (.int c), some (.int (Int32.ofInt 0)), some (.int (Int32.ofInt 0)), none]) (st' := []) (n := 2) (ykc_202 (e := (3, .istore 4, 0)) rfl) rfl rfl ?_
      refine gt_load (v := .int (Int32.ofInt 0)) (n := 1) (ykc_202 (e := (2, .iload_n kF3, 0)) rfl) rfl rfl ?_
      refine gt_zeq_t (ykc_202 (e := (4, .ifCond .eq 54, 104)) rfl) (by decide) ?_
      refine gt_load (v := .int (Int32.ofInt 0)) (n := 1) (ykc_202 (e := (2, .iload_n kF3, 0)) rfl) rfl rfl ?_
      refine gt_zeq_t (ykc_202 (e := (4, .ifCond .eq 14, 119)) rfl) (by decide) ?_
      refine gt_alu (st' := [.int (Int32.ofInt (-1))]) (ykc_202 (e := (0, .iconst (-1), 0)) rfl) rfl rfl ?_
      refine gt_load (v := .ref 170) (n := 1) (ykc_202 (e := (2, .aload_n kF0, 0)) rfl) rfl rfl ?_
      refine gt_ogk (A := 170) (v := .int A1) (ykc_202 (e := (5, .getfield 139, 0)) rfl) rfl hP4 rfl rfl hAa rfl ?_
      obtain ⟨q9, e_q9, h_q9⟩ : ∃ zq : Int32, (Int32.ofInt (-1)) - A1 = zq ∧ zq.toInt = -1 - A1.toInt := ⟨_, rfl, by rw [ti_sub (by rw [zm1]; omega) (by rw [zm1]; omega), zm1]⟩
      refine gt_alu (st' := [.int q9]) (ykc_202 (e := (0, .isub, 0)) rfl) (by rw [← e_q9]; exact rfl) rfl ?_
      refine gt_ret (ykc_202 (e := (7, .ireturn, 0)) rfl) rfl ?_
      exact ⟨_, rfl, by unfold zvv; rw [if_neg c1, if_pos c2]; omega⟩
    · obtain ⟨A2, hA2, uC⟩ : ∃ A2 : Int32, A2.toInt = ((0 + 1 + 1 : Nat) : Int) ∧ xu1 ph3 ph104 170 15 (.int A2) := by
        rcases hc2 with ⟨q, -⟩ | ⟨-, q⟩
        · omega
        · exact q
      have hb1 : 3 ≤ R0 ∧ R0 ≤ 7 := by rcases hs0 with h | h <;> omega
      have hb2 : 3 ≤ C0 ∧ C0 ≤ 7 := by rcases hs1 with h | h <;> omega
      obtain ⟨rn, hrn0⟩ : ∃ rn : Nat, R0 = (rn : Int) := ⟨R0.toNat, by omega⟩
      obtain ⟨cn, hcn0⟩ : ∃ cn : Nat, C0 = (cn : Int) := ⟨C0.toNat, by omega⟩
      have hm9 : R0 * C0 = ((rn * cn : Nat) : Int) := by rw [hrn0, hcn0]; rfl
      have hN49 : rn * cn ≤ 49 := Nat.le_trans (Nat.mul_le_mul (show rn ≤ 7 by omega) (show cn ≤ 7 by omega)) (by decide)
      have hN49i : r.toInt * c.toInt = ((rn * cn : Nat) : Int) := by rw [hr, hc]; exact hm9
      have hmt : (R0 * C0).toNat = rn * cn := by rw [hm9]; rfl
      rw [hmt] at hF
      have hFN := hF.1
      refine gt_zle_f (ykc_202 (e := (4, .ifCond .le 7, 44)) rfl) (by omega) rfl ?_
      refine gt_alu (st' := [.int (Int32.ofInt 1)]) (ykc_202 (e := (0, .iconst 1, 0)) rfl) rfl rfl ?_
      refine gt_br (pc' := 45) (st' := [.int (Int32.ofInt 1)]) (ykc_202 (e := (4, .goto 4, 45)) rfl) rfl ?_
      refine gt_store (L' := [some (.ref 170), some (.int r), some (.int c), some (.int (Int32.ofInt 1)), none, none]) (st' := []) (n := 1) (ykc_202 (e := (3, .istore_n kF3, 0)) rfl) rfl rfl ?_
      refine gt_alu (st' := [.int (Int32.ofInt 0)]) (ykc_202 (e := (0, .iconst 0, 0)) rfl) rfl rfl ?_
      refine gt_store (L' := [some (.ref 170), some (.int r), some (.int c), some (.int (Int32.ofInt 1)), some (.int (Int32.ofInt 0)), none]) (st' := []) (n := 2) (ykc_202 (e := (3, .istore 4, 0)) rfl) rfl rfl ?_
      refine zl1 hm h0m (p0 := ph) hN49i hN49 hbn hn80 hF (fun ph' b x A z0 hP' hA5 hA5v hB5 hR5 hb5 => ?_) F 0 _ _ _ _ _ (by omega) yi1 yi0 hA2 hP4 uC.1 ((uC.2.1 170 16 (fun q => absurd q.2 (by decide))).trans hB3) (yTX_at hX3b (fun c => uC.2.1 176 c (fun q => absurd q.1 (by decide)))) (fun f hf => absurd hf (by omega))
      rcases hb5 with ⟨b1, b2⟩ | ⟨b1, b2⟩
      case inr =>
        refine gt_load (v := .int b) (n := 1) (ykc_202 (e := (2, .iload_n kF3, 0)) rfl) rfl rfl ?_
        refine gt_zeq_t (ykc_202 (e := (4, .ifCond .eq 14, 119)) rfl) (by omega) ?_
        refine gt_alu (st' := [.int (Int32.ofInt (-1))]) (ykc_202 (e := (0, .iconst (-1), 0)) rfl) rfl rfl ?_
        refine gt_load (v := .ref 170) (n := 1) (ykc_202 (e := (2, .aload_n kF0, 0)) rfl) rfl rfl ?_
        refine gt_ogk (A := 170) (v := .int A) (ykc_202 (e := (5, .getfield 139, 0)) rfl) rfl hP' rfl rfl hA5 rfl ?_
        obtain ⟨q9, e_q9, h_q9⟩ : ∃ zq : Int32, (Int32.ofInt (-1)) - A = zq ∧ zq.toInt = -1 - A.toInt := ⟨_, rfl, by rw [ti_sub (by rw [zm1]; omega) (by rw [zm1]; omega), zm1]⟩
        refine gt_alu (st' := [.int q9]) (ykc_202 (e := (0, .isub, 0)) rfl) (by rw [← e_q9]; exact rfl) rfl ?_
        refine gt_ret (ykc_202 (e := (7, .ireturn, 0)) rfl) rfl ?_
        exact ⟨_, rfl, by unfold zvv; rw [if_neg c1, if_neg c2, if_pos (by omega)]; omega⟩
      case inl =>
        by_cases c3 : rn * cn + 2 < n
        · refine gt_load (v := .int b) (n := 1) (ykc_202 (e := (2, .iload_n kF3, 0)) rfl) rfl rfl ?_
          refine gt_zeq_f (ykc_202 (e := (4, .ifCond .eq 14, 119)) rfl) (by omega) rfl ?_
          refine gt_load (v := .ref 170) (n := 1) (ykc_202 (e := (2, .aload_n kF0, 0)) rfl) rfl rfl ?_
          refine gt_ogk (A := 170) (v := .int A) (ykc_202 (e := (5, .getfield 139, 0)) rfl) rfl hP' rfl rfl hA5 rfl ?_
          refine gt_load (v := .ref 170) (n := 1) (ykc_202 (e := (2, .aload_n kF0, 0)) rfl) rfl rfl ?_
          refine gt_ogk (A := 170) (v := .int B) (ykc_202 (e := (5, .getfield 151, 0)) rfl) rfl hP' rfl rfl hB5 rfl ?_
          refine gt_ige_f (ykc_202 (e := (4, .if_icmp .ge 10, 126)) rfl) (by omega) rfl ?_
          refine gt_alu (st' := [.int (Int32.ofInt (-1))]) (ykc_202 (e := (0, .iconst (-1), 0)) rfl) rfl rfl ?_
          refine gt_load (v := .ref 170) (n := 1) (ykc_202 (e := (2, .aload_n kF0, 0)) rfl) rfl rfl ?_
          refine gt_ogk (A := 170) (v := .int A) (ykc_202 (e := (5, .getfield 139, 0)) rfl) rfl hP' rfl rfl hA5 rfl ?_
          obtain ⟨q9, e_q9, h_q9⟩ : ∃ zq : Int32, (Int32.ofInt (-1)) - A = zq ∧ zq.toInt = -1 - A.toInt := ⟨_, rfl, by rw [ti_sub (by rw [zm1]; omega) (by rw [zm1]; omega), zm1]⟩
          refine gt_alu (st' := [.int q9]) (ykc_202 (e := (0, .isub, 0)) rfl) (by rw [← e_q9]; exact rfl) rfl ?_
          refine gt_ret (ykc_202 (e := (7, .ireturn, 0)) rfl) rfl ?_
          exact ⟨_, rfl, by unfold zvv; rw [if_neg c1, if_neg c2, if_neg (by omega), if_pos (by omega)]; omega⟩
        · refine gt_load (v := .int b) (n := 1) (ykc_202 (e := (2, .iload_n kF3, 0)) rfl) rfl rfl ?_
          refine gt_zeq_f (ykc_202 (e := (4, .ifCond .eq 14, 119)) rfl) (by omega) rfl ?_
          refine gt_load (v := .ref 170) (n := 1) (ykc_202 (e := (2, .aload_n kF0, 0)) rfl) rfl rfl ?_
          refine gt_ogk (A := 170) (v := .int A) (ykc_202 (e := (5, .getfield 139, 0)) rfl) rfl hP' rfl rfl hA5 rfl ?_
          refine gt_load (v := .ref 170) (n := 1) (ykc_202 (e := (2, .aload_n kF0, 0)) rfl) rfl rfl ?_
          refine gt_ogk (A := 170) (v := .int B) (ykc_202 (e := (5, .getfield 151, 0)) rfl) rfl hP' rfl rfl hB5 rfl ?_
          refine gt_ige_t (ykc_202 (e := (4, .if_icmp .ge 10, 126)) rfl) (by omega) ?_
          refine gt_load (v := .ref 170) (n := 1) (ykc_202 (e := (2, .aload_n kF0, 0)) rfl) rfl rfl ?_
          refine gt_load (v := .int r) (n := 1) (ykc_202 (e := (2, .iload_n kF1, 0)) rfl) rfl rfl ?_
          refine gt_opv (A := 170) (y := .int r) (ty := .int) (ykc_202 (e := (5, .putfield 24, 0)) rfl) rfl hP' rfl rfl rfl rfl rfl ⟨_, rfl, (show (3 : Int) ≤ r.toInt by omega), (show r.toInt ≤ 7 by omega)⟩ rfl (fun ph161 hP161 u161 => ?_)
          have f161_170_15 : xget ph161 170 15 = some (.int A) := (u161.2.1 170 15 (fun q => absurd q.2 (by decide))).trans hA5
          have f161_170_16 : xget ph161 170 16 = some (.int B) := (u161.2.1 170 16 (fun q => absurd q.2 (by decide))).trans hB5
          refine gt_load (v := .ref 170) (n := 1) (ykc_202 (e := (2, .aload_n kF0, 0)) rfl) rfl rfl ?_
          refine gt_load (v := .int c) (n := 1) (ykc_202 (e := (2, .iload_n kF2, 0)) rfl) rfl rfl ?_
          refine gt_opv (A := 170) (y := .int c) (ty := .int) (ykc_202 (e := (5, .putfield 27, 0)) rfl) rfl hP161 rfl rfl rfl rfl rfl ⟨_, rfl, (show (3 : Int) ≤ c.toInt by omega), (show c.toInt ≤ 7 by omega)⟩ rfl (fun ph162 hP162 u162 => ?_)
          have f162_170_15 : xget ph162 170 15 = some (.int A) := (u162.2.1 170 15 (fun q => absurd q.2 (by decide))).trans f161_170_15
          have f162_170_16 : xget ph162 170 16 = some (.int B) := (u162.2.1 170 16 (fun q => absurd q.2 (by decide))).trans f161_170_16
          have f162_170_3 : xget ph162 170 3 = some (.int r) := (u162.2.1 170 3 (fun q => absurd q.2 (by decide))).trans u161.1
          refine gt_alu (st' := [.int (Int32.ofInt 0)]) (ykc_202 (e := (0, .iconst 0, 0)) rfl) rfl rfl ?_
          refine gt_store (L' := [some (.ref 170), some (.int r), some (.int c), some (.int b), some (.int (Int32.ofInt 0)), z0]) (st' := []) (n := 2) (ykc_202 (e := (3, .istore 4, 0)) rfl) rfl rfl ?_
          refine zl2 hN49i hN49 (fun ph'' x' hP'' h3 h4 => ?_) (rn * cn) 0 _ _ (by omega) yi0 hP162 f162_170_3 u162.1
          refine gt_load (v := .ref 170) (n := 1) (ykc_202 (e := (2, .aload_n kF0, 0)) rfl) rfl rfl ?_
          refine gt_alu (st' := [.int (Int32.ofInt 0), .ref 170]) (ykc_202 (e := (0, .iconst 0, 0)) rfl) rfl rfl ?_
          refine gt_opv (A := 170) (y := .int (Int32.ofInt 0)) (ty := .int) (ykc_202 (e := (5, .putfield 130, 0)) rfl) rfl hP'' rfl rfl rfl rfl rfl ⟨_, rfl, (by decide), (by decide)⟩ rfl (fun ph81 hP81 u81 => ?_)
          have f81_170_3 : xget ph81 170 3 = some (.int r) := (u81.2.1 170 3 (fun q => absurd q.2 (by decide))).trans h3
          have f81_170_4 : xget ph81 170 4 = some (.int c) := (u81.2.1 170 4 (fun q => absurd q.2 (by decide))).trans h4
          refine gt_load (v := .ref 170) (n := 1) (ykc_202 (e := (2, .aload_n kF0, 0)) rfl) rfl rfl ?_
          refine gt_alu (st' := [.int (Int32.ofInt 0), .ref 170]) (ykc_202 (e := (0, .iconst 0, 0)) rfl) rfl rfl ?_
          refine gt_opv (A := 170) (y := .int (Int32.ofInt 0)) (ty := .int) (ykc_202 (e := (5, .putfield 133, 0)) rfl) rfl hP81 rfl rfl rfl rfl rfl ⟨_, rfl, (by decide), (by decide)⟩ rfl (fun ph82 hP82 u82 => ?_)
          have f82_170_3 : xget ph82 170 3 = some (.int r) := (u82.2.1 170 3 (fun q => absurd q.2 (by decide))).trans f81_170_3
          have f82_170_4 : xget ph82 170 4 = some (.int c) := (u82.2.1 170 4 (fun q => absurd q.2 (by decide))).trans f81_170_4
          have f82_170_5 : xget ph82 170 5 = some (.int (Int32.ofInt 0)) := (u82.2.1 170 5 (fun q => absurd q.2 (by decide))).trans u81.1
          refine gt_load (v := .ref 170) (n := 1) (ykc_202 (e := (2, .aload_n kF0, 0)) rfl) rfl rfl ?_
          refine gt_ogr (A := 170) (B := 174) (ykc_202 (e := (5, .getfield 41, 0)) rfl) rfl hP82 rfl rfl rfl rfl rfl ?_
          refine gt_push (v := .int ((Int8.ofInt 40).toInt32)) (n := 2) (ykc_202 (e := (1, .bipush 40, 0)) rfl) rfl rfl ?_
          refine gt_alu (st' := [.int (Int32.ofInt 0), .int ((Int8.ofInt 40).toInt32), .ref 174]) (ykc_202 (e := (0, .iconst 0, 0)) rfl) rfl rfl ?_
          refine gt_ias (A := 174) (y := Int32.ofInt 0) (x := (Int8.ofInt 40).toInt32) (ykc_202 (e := (5, .iastore, 0)) rfl) hP82 rfl rfl (by decide) (by decide) ⟨by rw [yi0]; exact Int.le_refl _, by rw [yi0]; omega⟩ rfl (fun ph83 hP83 u83 => ?_)
          have f83_170_3 : xget ph83 170 3 = some (.int r) := (u83.2.1 170 3 (fun q => absurd q.1 (by decide))).trans f82_170_3
          have f83_170_4 : xget ph83 170 4 = some (.int c) := (u83.2.1 170 4 (fun q => absurd q.1 (by decide))).trans f82_170_4
          have f83_170_5 : xget ph83 170 5 = some (.int (Int32.ofInt 0)) := (u83.2.1 170 5 (fun q => absurd q.1 (by decide))).trans f82_170_5
          have f83_170_6 : xget ph83 170 6 = some (.int (Int32.ofInt 0)) := (u83.2.1 170 6 (fun q => absurd q.1 (by decide))).trans u82.1
          refine gt_load (v := .ref 170) (n := 1) (ykc_202 (e := (2, .aload_n kF0, 0)) rfl) rfl rfl ?_
          refine gt_alu (st' := [.int (Int32.ofInt 0), .ref 170]) (ykc_202 (e := (0, .iconst 0, 0)) rfl) rfl rfl ?_
          refine gt_opv (A := 170) (y := .int (Int32.ofInt 0)) (ty := .int) (ykc_202 (e := (5, .putfield 188, 0)) rfl) rfl hP83 rfl rfl rfl rfl rfl ⟨_, rfl, (by decide), (by decide)⟩ rfl (fun ph84 hP84 u84 => ?_)
          have f84_170_3 : xget ph84 170 3 = some (.int r) := (u84.2.1 170 3 (fun q => absurd q.2 (by decide))).trans f83_170_3
          have f84_170_4 : xget ph84 170 4 = some (.int c) := (u84.2.1 170 4 (fun q => absurd q.2 (by decide))).trans f83_170_4
          have f84_170_5 : xget ph84 170 5 = some (.int (Int32.ofInt 0)) := (u84.2.1 170 5 (fun q => absurd q.2 (by decide))).trans f83_170_5
          have f84_170_6 : xget ph84 170 6 = some (.int (Int32.ofInt 0)) := (u84.2.1 170 6 (fun q => absurd q.2 (by decide))).trans f83_170_6
          refine gt_load (v := .ref 170) (n := 1) (ykc_202 (e := (2, .aload_n kF0, 0)) rfl) rfl rfl ?_
          refine gt_alu (st' := [.ref 170, .ref 170]) (ykc_202 (e := (0, .dup, 0)) rfl) rfl rfl ?_
          refine gt_ogi (A := 170) (ykc_202 (e := (5, .getfield 191, 0)) rfl) rfl hP84 rfl rfl rfl rfl (fun chg f_chg f0_chg f1_chg => ?_)
          refine gt_alu (st' := [.int (Int32.ofInt 1), .int chg, .ref 170]) (ykc_202 (e := (0, .iconst 1, 0)) rfl) rfl rfl ?_
          refine gt_alu (st' := [.int (chg + (Int32.ofInt 1)), .ref 170]) (ykc_202 (e := (0, .iadd, 0)) rfl) rfl rfl ?_
          refine gt_opv (A := 170) (y := .int (chg + (Int32.ofInt 1))) (ty := .int) (ykc_202 (e := (5, .putfield 191, 0)) rfl) rfl hP84 rfl rfl rfl rfl rfl ⟨_, rfl, (x32_lo _), (x32_hi _)⟩ rfl (fun ph85 hP85 u85 => ?_)
          have f85_170_3 : xget ph85 170 3 = some (.int r) := (u85.2.1 170 3 (fun q => absurd q.2 (by decide))).trans f84_170_3
          have f85_170_4 : xget ph85 170 4 = some (.int c) := (u85.2.1 170 4 (fun q => absurd q.2 (by decide))).trans f84_170_4
          have f85_170_5 : xget ph85 170 5 = some (.int (Int32.ofInt 0)) := (u85.2.1 170 5 (fun q => absurd q.2 (by decide))).trans f84_170_5
          have f85_170_6 : xget ph85 170 6 = some (.int (Int32.ofInt 0)) := (u85.2.1 170 6 (fun q => absurd q.2 (by decide))).trans f84_170_6
          have f85_170_27 : xget ph85 170 27 = some (.int (Int32.ofInt 0)) := (u85.2.1 170 27 (fun q => absurd q.2 (by decide))).trans u84.1
          refine gt_load (v := .ref 170) (n := 1) (ykc_202 (e := (2, .aload_n kF0, 0)) rfl) rfl rfl ?_
          refine gt_alu (st' := [.int (Int32.ofInt 0), .ref 170]) (ykc_202 (e := (0, .iconst 0, 0)) rfl) rfl rfl ?_
          refine gt_opv (A := 170) (y := .int (Int32.ofInt 0)) (ty := .int) (ykc_202 (e := (5, .putfield 194, 0)) rfl) rfl hP85 rfl rfl rfl rfl rfl ⟨_, rfl, (by decide), (by decide)⟩ rfl (fun ph86 hP86 u86 => ?_)
          have f86_170_3 : xget ph86 170 3 = some (.int r) := (u86.2.1 170 3 (fun q => absurd q.2 (by decide))).trans f85_170_3
          have f86_170_4 : xget ph86 170 4 = some (.int c) := (u86.2.1 170 4 (fun q => absurd q.2 (by decide))).trans f85_170_4
          have f86_170_5 : xget ph86 170 5 = some (.int (Int32.ofInt 0)) := (u86.2.1 170 5 (fun q => absurd q.2 (by decide))).trans f85_170_5
          have f86_170_6 : xget ph86 170 6 = some (.int (Int32.ofInt 0)) := (u86.2.1 170 6 (fun q => absurd q.2 (by decide))).trans f85_170_6
          have f86_170_27 : xget ph86 170 27 = some (.int (Int32.ofInt 0)) := (u86.2.1 170 27 (fun q => absurd q.2 (by decide))).trans f85_170_27
          have f86_170_7 : xget ph86 170 7 = some (.int (chg + (Int32.ofInt 1))) := (u86.2.1 170 7 (fun q => absurd q.2 (by decide))).trans u85.1
          refine gt_load (v := .ref 170) (n := 1) (ykc_202 (e := (2, .aload_n kF0, 0)) rfl) rfl rfl ?_
          refine gt_ocv (A := 170) (n := 0) (as := [.ref 170]) (r := []) (ykc_202 (e := (6, .invokevirtual 122, 0)) rfl) rfl hP86 rfl rfl rfl rfl rfl (zfld (D := D + 1 + 1 + 1 + 1) hP86 f86_170_3 f86_170_4 hN49i hN49) rfl (fun vv ph87 hv => ?_)
          obtain ⟨e8, N9, e9, hN9⟩ := hv; subst e9; subst e8
          change xGT kK (D + 1 + 1 + 1 + 1 + 1) 202 _ (210, [some (.ref 170), some (.int r), some (.int c), some (.int b), some (.int (x')), z0], [.int N9], ph86, 0, 0)
          refine gt_ret (ykc_202 (e := (7, .ireturn, 0)) rfl) rfl ?_
          exact ⟨_, rfl, by unfold zvv; rw [if_neg c1, if_neg c2, if_neg (by omega), if_neg (by omega)]; omega⟩
end ZM
