/-! the text's signs, class and reference, by hand, printed by wip/y3/h_zzt.py -/
/-- byte k of y, the highest first -/
def ysg (y : Int32) (k : Nat) : Int32 := (y >>> (Int32.ofNat (24 - 8 * k))) &&& (255 : Int32)
set_option maxRecDepth 6000 in
theorem yushB (b s : BitVec 32) (hs : s.toNat ≤ 24) : (b >>> s.toNat) &&& 255#32 = (b.sshiftRight' s) &&& 255#32 := by
  apply BitVec.eq_of_getLsbD_eq
  intro i hi
  rw [BitVec.getLsbD_and, BitVec.getLsbD_and, BitVec.getLsbD_ushiftRight, BitVec.getLsbD_sshiftRight']
  by_cases h8 : i < 8
  · have h1 : s.toNat + i < 32 := by omega
    have h2 : ¬ 32 ≤ i := by omega
    rw [if_pos h1, decide_eq_false h2]
    rfl
  · have h3 : (255#32).getLsbD i = false := (by decide : ∀ i : Nat, i < 32 → ¬ i < 8 → (255#32).getLsbD i = false) i hi h8
    rw [h3, Bool.and_false, Bool.and_false]
set_option maxRecDepth 6000 in
theorem yu24 (v : Int32) : (v.toUInt32 >>> (24 : UInt32)).toInt32 &&& (255 : Int32) = v >>> (24 : Int32) &&& (255 : Int32) := Int32.toBitVec_inj.mp (yushB v.toBitVec 24#32 (by decide))
set_option maxRecDepth 6000 in
theorem yu16 (v : Int32) : (v.toUInt32 >>> (16 : UInt32)).toInt32 &&& (255 : Int32) = v >>> (16 : Int32) &&& (255 : Int32) := Int32.toBitVec_inj.mp (yushB v.toBitVec 16#32 (by decide))
set_option maxRecDepth 6000 in
theorem yu8 (v : Int32) : (v.toUInt32 >>> (8 : UInt32)).toInt32 &&& (255 : Int32) = v >>> (8 : Int32) &&& (255 : Int32) := Int32.toBitVec_inj.mp (yushB v.toBitVec 8#32 (by decide))
set_option maxRecDepth 6000 in
theorem yu0 (v : Int32) : (v.toUInt32 >>> (0 : UInt32)).toInt32 &&& (255 : Int32) = v >>> (0 : Int32) &&& (255 : Int32) := Int32.toBitVec_inj.mp (yushB v.toBitVec 0#32 (by decide))
set_option maxRecDepth 6000 in
theorem y255 : (Int16.ofInt 255).toInt32 = 255 := by decide
set_option maxRecDepth 6000 in
theorem yshC (y : Int32) {k : Nat} {x : Int32} (hk : k < 4) (hx : x = Int32.ofNat k) : ((y).toUInt32 >>> (((Int8.ofInt 24).toInt32 - (Int8.ofInt 8).toInt32 * x).toUInt32 &&& Int32.toUInt32 31)).toInt32 &&& (Int16.ofInt 255).toInt32 = ysg y k := by
  rw [y255]
  match k, hk, hx with
  | 0, _, hx => subst hx; rw [show ((Int8.ofInt 24).toInt32 - (Int8.ofInt 8).toInt32 * Int32.ofNat 0).toUInt32 &&& Int32.toUInt32 31 = 24 by decide]; exact yu24 y
  | 1, _, hx => subst hx; rw [show ((Int8.ofInt 24).toInt32 - (Int8.ofInt 8).toInt32 * Int32.ofNat 1).toUInt32 &&& Int32.toUInt32 31 = 16 by decide]; exact yu16 y
  | 2, _, hx => subst hx; rw [show ((Int8.ofInt 24).toInt32 - (Int8.ofInt 8).toInt32 * Int32.ofNat 2).toUInt32 &&& Int32.toUInt32 31 = 8 by decide]; exact yu8 y
  | 3, _, hx => subst hx; rw [show ((Int8.ofInt 24).toInt32 - (Int8.ofInt 8).toInt32 * Int32.ofNat 3).toUInt32 &&& Int32.toUInt32 31 = 0 by decide]; exact yu0 y
set_option maxRecDepth 6000 in
theorem yshM (y : Int32) {k : Nat} {x : Int32} (hk : k < 4) (hx : x = Int32.ofNat k) : y >>> (((Int8.ofInt 24).toInt32 - (Int8.ofInt 8).toInt32 * x) &&& 31) &&& (Int16.ofInt 255).toInt32 = ysg y k := by
  rw [y255]
  match k, hk, hx with
  | 0, _, hx => subst hx; rw [show ((Int8.ofInt 24).toInt32 - (Int8.ofInt 8).toInt32 * Int32.ofNat 0) &&& 31 = Int32.ofNat 24 by decide]; rfl
  | 1, _, hx => subst hx; rw [show ((Int8.ofInt 24).toInt32 - (Int8.ofInt 8).toInt32 * Int32.ofNat 1) &&& 31 = Int32.ofNat 16 by decide]; rfl
  | 2, _, hx => subst hx; rw [show ((Int8.ofInt 24).toInt32 - (Int8.ofInt 8).toInt32 * Int32.ofNat 2) &&& 31 = Int32.ofNat 8 by decide]; rfl
  | 3, _, hx => subst hx; rw [show ((Int8.ofInt 24).toInt32 - (Int8.ofInt 8).toInt32 * Int32.ofNat 3) &&& 31 = Int32.ofNat 0 by decide]; rfl
/-- k signs of y stand behind the t of p0 -/
def yAP (p0 p : pm_H) (a t : Nat) (y : Int32) (k : Nat) : Prop := (∀ i, i < k → xget p a (t + i) = some (.int (ysg y i))) ∧ ∀ i, i < t → xget p a i = xget p0 a i
set_option maxRecDepth 6000 in
theorem yAP_0 {p : pm_H} {a t : Nat} {y : Int32} : yAP p p a t y 0 := ⟨fun _ h => absurd h (Nat.not_lt_zero _), fun _ _ => rfl⟩
set_option maxRecDepth 6000 in
theorem yAP_s {p0 p p' : pm_H} {a t k : Nat} {y : Int32} (h : yAP p0 p a t y k) (h1 : xget p' a (t + k) = some (.int (ysg y k))) (h2 : ∀ c, c ≠ t + k → xget p' a c = xget p a c) : yAP p0 p' a t y (k + 1) := ⟨fun i hi => by
  by_cases e : i = k
  · subst e; exact h1
  · rw [h2 _ (by omega)]; exact h.1 i (by omega), fun i hi => by rw [h2 _ (by omega)]; exact h.2 i hi⟩
set_option maxRecDepth 6000 in
theorem yAP_eq {p0 p p' : pm_H} {a t k : Nat} {y : Int32} (h : yAP p0 p a t y k) (h2 : ∀ c, xget p' a c = xget p a c) : yAP p0 p' a t y k := ⟨fun i hi => by rw [h2]; exact h.1 i hi, fun i hi => by rw [h2]; exact h.2 i hi⟩
set_option maxRecDepth 6000 in
theorem yAP_eq0 {p0 p0' p : pm_H} {a t k : Nat} {y : Int32} (h : yAP p0 p a t y k) (h2 : ∀ c, xget p0 a c = xget p0' a c) : yAP p0' p a t y k := ⟨h.1, fun i hi => by rw [← h2]; exact h.2 i hi⟩
set_option maxRecDepth 6000 in
theorem ynt {k : Nat} (h : k ≤ 100000) : (Int32.ofNat k).toInt = (k : Int) := Int32.toInt_ofNat_of_lt (by omega)
set_option maxRecDepth 6000 in
theorem yi1 : (Int32.ofInt 1).toInt = 1 := by decide
set_option maxRecDepth 6000 in
theorem yi4 : (Int32.ofInt 4).toInt = 4 := by decide
set_option maxRecDepth 6000 in
theorem yb80 : ((Int8.ofInt 80).toInt32).toInt = 80 := by decide
set_option maxRecDepth 6000 in
theorem yb76 : ((Int8.ofInt 76).toInt32).toInt = 76 := by decide
set_option maxRecDepth 6000 in
theorem ynx {k : Nat} {x : Int32} (hx : x = Int32.ofNat k) (h : k ≤ 1000) : x + Int32.ofInt 1 = Int32.ofNat (k + 1) := Int32.toInt_inj.mp (by
  subst hx
  rw [ti_add (by rw [ynt (by omega), yi1]; omega) (by rw [ynt (by omega), yi1]; omega), ynt (by omega), ynt (by omega), yi1]
  omega)
section YT
variable {m : Int} {w D : Nat} {Q : Option Value → pm_H → Prop} {y T : Int32} {t : Nat}

set_option maxRecDepth 6000 in
theorem ybyteB (b s : BitVec 32) : 0 ≤ ((b.sshiftRight' s) &&& 255#32).toInt ∧ ((b.sshiftRight' s) &&& 255#32).toInt ≤ 255 := by
  have h : ((b.sshiftRight' s) &&& 255#32).toNat ≤ 255 := by
    rw [BitVec.toNat_and]
    exact Nat.and_le_right
  rw [BitVec.toInt_eq_toNat_of_lt (by omega)]
  omega
set_option maxRecDepth 6000 in
theorem ybyte (y : Int32) (k : Nat) : (0 : Int) ≤ (ysg y k).toInt ∧ (ysg y k).toInt ≤ 255 := ybyteB y.toBitVec _

set_option maxRecDepth 6000 in
theorem yaplC (ht : T.toInt = (t : Int)) (h76 : t ≤ 76) {p0 : pm_H} (kk : ∀ ph (x : Option Value), xH xX kK m w ph → xget ph 1 1 = some (.int T) → yAP p0 ph 2 t y 4 → (∀ b, b ≠ 2 → pm_at ph b = pm_at p0 b) → xGT kK D 95 Q (57, [some (.ref 1), some (.int y), x], [], ph, 0, 0)) : ∀ (r k : Nat) (x : Int32) (ph : pm_H), k + r = 4 → x = Int32.ofNat k → xH xX kK m w ph → xget ph 1 1 = some (.int T) → yAP p0 ph 2 t y k → (∀ b, b ≠ 2 → pm_at ph b = pm_at p0 b) → xGT kK D 95 Q (22, [some (.ref 1), some (.int y), some (.int x)], [], ph, 0, 0) := by
  intro r
  induction r with
  | zero =>
    intro k x ph hk hx hP hT hA hB
    obtain rfl : k = 4 := by omega
    have hx2 : x.toInt = 4 := by rw [hx]; decide
    refine gt_load (v := .int x) (n := 1) (ykc_95 (e := (2, .iload_n kF2, 0)) rfl) rfl rfl ?_
    refine gt_alu (st' := [.int (Int32.ofInt 4), .int x]) (ykc_95 (e := (0, .iconst 4, 0)) rfl) rfl rfl ?_
    refine gt_ige_t (ykc_95 (e := (4, .if_icmp .ge 33, 57)) rfl) (by rw [yi4]; omega) ?_
    exact kk _ _ hP hT hA hB
  | succ r ih =>
    intro k x ph hk hx hP hT hA hB
    have hk4 : k < 4 := by omega
    have hx2 : x.toInt = (k : Int) := by rw [hx]; exact ynt (by omega)
    refine gt_load (v := .int x) (n := 1) (ykc_95 (e := (2, .iload_n kF2, 0)) rfl) rfl rfl ?_
    refine gt_alu (st' := [.int (Int32.ofInt 4), .int x]) (ykc_95 (e := (0, .iconst 4, 0)) rfl) rfl rfl ?_
    refine gt_ige_f (ykc_95 (e := (4, .if_icmp .ge 33, 57)) rfl) (by rw [yi4]; omega) rfl ?_
    refine gt_load (v := .ref 1) (n := 1) (ykc_95 (e := (2, .aload_n kF0, 0)) rfl) rfl rfl ?_
    refine gt_ogr (A := 1) (B := 2) (ykc_95 (e := (5, .getfield 9, 0)) rfl) rfl hP rfl rfl rfl rfl rfl ?_
    refine gt_load (v := .ref 1) (n := 1) (ykc_95 (e := (2, .aload_n kF0, 0)) rfl) rfl rfl ?_
    refine gt_ogk (A := 1) (v := .int T) (ykc_95 (e := (5, .getfield 13, 0)) rfl) rfl hP rfl rfl hT rfl ?_
    refine gt_load (v := .int x) (n := 1) (ykc_95 (e := (2, .iload_n kF2, 0)) rfl) rfl rfl ?_
    obtain ⟨ix, e_ix, h_ix⟩ : ∃ zq : Int32, T + x = zq ∧ zq.toInt = T.toInt + x.toInt := ⟨_, rfl, by rw [ti_add (by omega) (by omega)]⟩
    refine gt_alu (st' := [.int ix, .ref 2]) (ykc_95 (e := (0, .iadd, 0)) rfl) (by rw [← e_ix]; exact rfl) rfl ?_
    refine gt_load (v := .int y) (n := 1) (ykc_95 (e := (2, .iload_n kF1, 0)) rfl) rfl rfl ?_
    refine gt_push (v := .int ((Int8.ofInt 24).toInt32)) (n := 2) (ykc_95 (e := (1, .bipush 24, 0)) rfl) rfl rfl ?_
    refine gt_push (v := .int ((Int8.ofInt 8).toInt32)) (n := 2) (ykc_95 (e := (1, .bipush 8, 0)) rfl) rfl rfl ?_
    refine gt_load (v := .int x) (n := 1) (ykc_95 (e := (2, .iload_n kF2, 0)) rfl) rfl rfl ?_
    refine gt_alu (st' := [.int (((Int8.ofInt 8).toInt32) * x), .int ((Int8.ofInt 24).toInt32), .int y, .int ix, .ref 2]) (ykc_95 (e := (0, .imul, 0)) rfl) rfl rfl ?_
    refine gt_alu (st' := [.int (((Int8.ofInt 24).toInt32) - (((Int8.ofInt 8).toInt32) * x)), .int y, .int ix, .ref 2]) (ykc_95 (e := (0, .isub, 0)) rfl) rfl rfl ?_
    refine gt_alu (st' := [.int (((y).toUInt32 >>> ((((Int8.ofInt 24).toInt32) - (((Int8.ofInt 8).toInt32) * x)).toUInt32 &&& Int32.toUInt32 31)).toInt32), .int ix, .ref 2]) (ykc_95 (e := (0, .iushr, 0)) rfl) rfl rfl ?_
    refine gt_push (v := .int ((Int16.ofInt 255).toInt32)) (n := 3) (ykc_95 (e := (1, .sipush 255, 0)) rfl) rfl rfl ?_
    refine gt_alu (st' := [.int ((((y).toUInt32 >>> ((((Int8.ofInt 24).toInt32) - (((Int8.ofInt 8).toInt32) * x)).toUInt32 &&& Int32.toUInt32 31)).toInt32) &&& ((Int16.ofInt 255).toInt32)), .int ix, .ref 2]) (ykc_95 (e := (0, .iand, 0)) rfl) rfl rfl ?_
    refine gt_ias (A := 2) (y := (((y).toUInt32 >>> ((((Int8.ofInt 24).toInt32) - (((Int8.ofInt 8).toInt32) * x)).toUInt32 &&& Int32.toUInt32 31)).toInt32) &&& ((Int16.ofInt 255).toInt32)) (x := ix) (ykc_95 (e := (5, .iastore, 0)) rfl) hP rfl rfl (by omega) (by omega) xany rfl (fun ph101 hP101 u101 => ?_)
    have f101_1_1 : xget ph101 1 1 = some (.int T) := (u101.2.1 1 1 (fun q => absurd q.1 (by decide))).trans hT
    refine gt_store (L' := [some (.ref 1), some (.int y), some (.int (x + Int32.ofInt 1))]) (st' := []) (n := 3) (ykc_95 (e := (3, .iinc 2 1, 0)) rfl) rfl rfl ?_
    refine gt_br (pc' := 22) (st' := []) (ykc_95 (e := (4, .goto (-32), 22)) rfl) rfl ?_
    have ei : ix.toInt.toNat = t + k := by omega
    have w1 := u101.1
    rw [ei, yshC y hk4 hx] at w1
    exact ih (k + 1) _ _ (by omega) (ynx hx (by omega)) hP101 f101_1_1 (yAP_s hA w1 (fun c hc => u101.2.1 2 c (fun q => hc (by omega)))) (fun b hb => (u101.2.2 b hb).trans (hB b hb))
set_option maxRecDepth 6000 in
theorem yaplM (ht : T.toInt = (t : Int)) (h76 : t ≤ 76) {p0 : pm_H} (kk : ∀ ph (x : Option Value), xH xX kK m w ph → xget ph 170 14 = some (.int T) → yAP p0 ph 176 t y 4 → (∀ b, b ≠ 176 → pm_at ph b = pm_at p0 b) → xGT kK D 193 Q (53, [some (.ref 170), some (.int y), x], [], ph, 0, 0)) : ∀ (r k : Nat) (x : Int32) (ph : pm_H), k + r = 4 → x = Int32.ofNat k → xH xX kK m w ph → xget ph 170 14 = some (.int T) → yAP p0 ph 176 t y k → (∀ b, b ≠ 176 → pm_at ph b = pm_at p0 b) → xGT kK D 193 Q (18, [some (.ref 170), some (.int y), some (.int x)], [], ph, 0, 0) := by
  intro r
  induction r with
  | zero =>
    intro k x ph hk hx hP hT hA hB
    obtain rfl : k = 4 := by omega
    have hx2 : x.toInt = 4 := by rw [hx]; decide
    refine gt_load (v := .int x) (n := 1) (ykc_193 (e := (2, .iload_n kF2, 0)) rfl) rfl rfl ?_
    refine gt_alu (st' := [.int (Int32.ofInt 4), .int x]) (ykc_193 (e := (0, .iconst 4, 0)) rfl) rfl rfl ?_
    refine gt_ige_t (ykc_193 (e := (4, .if_icmp .ge 33, 53)) rfl) (by rw [yi4]; omega) ?_
    exact kk _ _ hP hT hA hB
  | succ r ih =>
    intro k x ph hk hx hP hT hA hB
    have hk4 : k < 4 := by omega
    have hx2 : x.toInt = (k : Int) := by rw [hx]; exact ynt (by omega)
    refine gt_load (v := .int x) (n := 1) (ykc_193 (e := (2, .iload_n kF2, 0)) rfl) rfl rfl ?_
    refine gt_alu (st' := [.int (Int32.ofInt 4), .int x]) (ykc_193 (e := (0, .iconst 4, 0)) rfl) rfl rfl ?_
    refine gt_ige_f (ykc_193 (e := (4, .if_icmp .ge 33, 53)) rfl) (by rw [yi4]; omega) rfl ?_
    refine gt_load (v := .ref 170) (n := 1) (ykc_193 (e := (2, .aload_n kF0, 0)) rfl) rfl rfl ?_
    refine gt_ogr (A := 170) (B := 176) (ykc_193 (e := (5, .getfield 47, 0)) rfl) rfl hP rfl rfl rfl rfl rfl ?_
    refine gt_load (v := .ref 170) (n := 1) (ykc_193 (e := (2, .aload_n kF0, 0)) rfl) rfl rfl ?_
    refine gt_ogk (A := 170) (v := .int T) (ykc_193 (e := (5, .getfield 136, 0)) rfl) rfl hP rfl rfl hT rfl ?_
    refine gt_load (v := .int x) (n := 1) (ykc_193 (e := (2, .iload_n kF2, 0)) rfl) rfl rfl ?_
    obtain ⟨ix, e_ix, h_ix⟩ : ∃ zq : Int32, T + x = zq ∧ zq.toInt = T.toInt + x.toInt := ⟨_, rfl, by rw [ti_add (by omega) (by omega)]⟩
    refine gt_alu (st' := [.int ix, .ref 176]) (ykc_193 (e := (0, .iadd, 0)) rfl) (by rw [← e_ix]; exact rfl) rfl ?_
    refine gt_load (v := .int y) (n := 1) (ykc_193 (e := (2, .iload_n kF1, 0)) rfl) rfl rfl ?_
    refine gt_push (v := .int ((Int8.ofInt 24).toInt32)) (n := 2) (ykc_193 (e := (1, .bipush 24, 0)) rfl) rfl rfl ?_
    refine gt_push (v := .int ((Int8.ofInt 8).toInt32)) (n := 2) (ykc_193 (e := (1, .bipush 8, 0)) rfl) rfl rfl ?_
    refine gt_load (v := .int x) (n := 1) (ykc_193 (e := (2, .iload_n kF2, 0)) rfl) rfl rfl ?_
    refine gt_alu (st' := [.int (((Int8.ofInt 8).toInt32) * x), .int ((Int8.ofInt 24).toInt32), .int y, .int ix, .ref 176]) (ykc_193 (e := (0, .imul, 0)) rfl) rfl rfl ?_
    refine gt_alu (st' := [.int (((Int8.ofInt 24).toInt32) - (((Int8.ofInt 8).toInt32) * x)), .int y, .int ix, .ref 176]) (ykc_193 (e := (0, .isub, 0)) rfl) rfl rfl ?_
    refine gt_alu (st' := [.int (y >>> ((((Int8.ofInt 24).toInt32) - (((Int8.ofInt 8).toInt32) * x)) &&& 31)), .int ix, .ref 176]) (ykc_193 (e := (0, .ishr, 0)) rfl) rfl rfl ?_
    refine gt_push (v := .int ((Int16.ofInt 255).toInt32)) (n := 3) (ykc_193 (e := (1, .sipush 255, 0)) rfl) rfl rfl ?_
    refine gt_alu (st' := [.int ((y >>> ((((Int8.ofInt 24).toInt32) - (((Int8.ofInt 8).toInt32) * x)) &&& 31)) &&& ((Int16.ofInt 255).toInt32)), .int ix, .ref 176]) (ykc_193 (e := (0, .iand, 0)) rfl) rfl rfl ?_
    refine gt_ias (A := 176) (y := (y >>> ((((Int8.ofInt 24).toInt32) - (((Int8.ofInt 8).toInt32) * x)) &&& 31)) &&& ((Int16.ofInt 255).toInt32)) (x := ix) (ykc_193 (e := (5, .iastore, 0)) rfl) hP rfl rfl (by omega) (by omega) (by rw [yshM y hk4 hx, Nat.mod_one]; exact ybyte y k) rfl (fun ph101 hP101 u101 => ?_)
    have f101_170_14 : xget ph101 170 14 = some (.int T) := (u101.2.1 170 14 (fun q => absurd q.1 (by decide))).trans hT
    refine gt_store (L' := [some (.ref 170), some (.int y), some (.int (x + Int32.ofInt 1))]) (st' := []) (n := 3) (ykc_193 (e := (3, .iinc 2 1, 0)) rfl) rfl rfl ?_
    refine gt_br (pc' := 18) (st' := []) (ykc_193 (e := (4, .goto (-32), 18)) rfl) rfl ?_
    have ei : ix.toInt.toNat = t + k := by omega
    have w1 := u101.1
    rw [ei, yshM y hk4 hx] at w1
    exact ih (k + 1) _ _ (by omega) (ynx hx (by omega)) hP101 f101_170_14 (yAP_s hA w1 (fun c hc => u101.2.1 176 c (fun q => hc (by omega)))) (fun b hb => (u101.2.2 b hb).trans (hB b hb))
set_option maxRecDepth 6000 in
theorem yappC {ph : pm_H} (hP : xH xX kK m w ph) (hT : xget ph 1 1 = some (.int T)) (ht : T.toInt = (t : Int)) (h76 : t ≤ 76) : ∃ v ph', pm_Rd kK false (D + 1) 95 [.ref 1, .int y] ph (v, ph', 0, 0) ∧ (v = some (.int (Int32.ofInt 1)) ∧ xH xX kK m w ph' ∧ (∃ s : Int32, xget ph' 1 1 = some (.int s) ∧ s.toInt = (t : Int) + 4) ∧ yAP ph ph' 2 t y 4 ∧ ∀ b, b ≠ 2 → b ≠ 1 → pm_at ph' b = pm_at ph b) := by
  refine xRd_mk (nl := 3) rfl rfl ?_
  show xGT kK D 95 _ (0, [some (.ref 1), some (.int y), none], [], ph, 0, 0)
  refine gt_load (v := .ref 1) (n := 1) (ykc_95 (e := (2, .aload_n kF0, 0)) rfl) rfl rfl ?_
  refine gt_ogk (A := 1) (v := .int T) (ykc_95 (e := (5, .getfield 13, 0)) rfl) rfl hP rfl rfl hT rfl ?_
  refine gt_zlt_f (ykc_95 (e := (4, .ifCond .lt 14, 18)) rfl) (by omega) rfl ?_
  refine gt_load (v := .ref 1) (n := 1) (ykc_95 (e := (2, .aload_n kF0, 0)) rfl) rfl rfl ?_
  refine gt_ogk (A := 1) (v := .int T) (ykc_95 (e := (5, .getfield 13, 0)) rfl) rfl hP rfl rfl hT rfl ?_
  refine gt_alu (st' := [.int (Int32.ofInt 4), .int T]) (ykc_95 (e := (0, .iconst 4, 0)) rfl) rfl rfl ?_
  obtain ⟨T4, e_T4, h_T4⟩ : ∃ zq : Int32, T + (Int32.ofInt 4) = zq ∧ zq.toInt = T.toInt + 4 := ⟨_, rfl, by rw [ti_add (by rw [yi4]; omega) (by rw [yi4]; omega), yi4]⟩
  refine gt_alu (st' := [.int T4]) (ykc_95 (e := (0, .iadd, 0)) rfl) (by rw [← e_T4]; exact rfl) rfl ?_
  refine gt_push (v := .int ((Int8.ofInt 80).toInt32)) (n := 2) (ykc_95 (e := (1, .bipush 80, 0)) rfl) rfl rfl ?_
  refine gt_ile_t (ykc_95 (e := (4, .if_icmp .le 5, 20)) rfl) (by rw [yb80]; omega) ?_
  refine gt_alu (st' := [.int (Int32.ofInt 0)]) (ykc_95 (e := (0, .iconst 0, 0)) rfl) rfl rfl ?_
  refine gt_store (L' := [some (.ref 1), some (.int y), some (.int (Int32.ofInt 0))]) (st' := []) (n := 1) (ykc_95 (e := (3, .istore_n kF2, 0)) rfl) rfl rfl ?_
  refine yaplC ht h76 (p0 := ph) (fun ph' x hP1 hT1 hA hB => ?_) 4 0 _ _ rfl (by decide) hP hT yAP_0 (fun _ _ => rfl)
  refine gt_load (v := .ref 1) (n := 1) (ykc_95 (e := (2, .aload_n kF0, 0)) rfl) rfl rfl ?_
  refine gt_alu (st' := [.ref 1, .ref 1]) (ykc_95 (e := (0, .dup, 0)) rfl) rfl rfl ?_
  refine gt_ogk (A := 1) (v := .int T) (ykc_95 (e := (5, .getfield 13, 0)) rfl) rfl hP1 rfl rfl hT1 rfl ?_
  refine gt_alu (st' := [.int (Int32.ofInt 4), .int T, .ref 1]) (ykc_95 (e := (0, .iconst 4, 0)) rfl) rfl rfl ?_
  obtain ⟨T5, e_T5, h_T5⟩ : ∃ zq : Int32, T + (Int32.ofInt 4) = zq ∧ zq.toInt = T.toInt + 4 := ⟨_, rfl, by rw [ti_add (by rw [yi4]; omega) (by rw [yi4]; omega), yi4]⟩
  refine gt_alu (st' := [.int T5, .ref 1]) (ykc_95 (e := (0, .iadd, 0)) rfl) (by rw [← e_T5]; exact rfl) rfl ?_
  refine gt_opv (A := 1) (y := .int T5) (ty := .int) (ykc_95 (e := (5, .putfield 13, 0)) rfl) rfl hP1 rfl rfl rfl rfl rfl ⟨_, rfl, (by show 0 ≤ T5.toInt; omega), (by show T5.toInt ≤ 80; omega)⟩ rfl (fun ph1 hP1 u1 => ?_)
  refine gt_alu (st' := [.int (Int32.ofInt 1)]) (ykc_95 (e := (0, .iconst 1, 0)) rfl) rfl rfl ?_
  refine gt_ret (ykc_95 (e := (7, .ireturn, 0)) rfl) (xretz (by decide) (by decide)) ?_
  exact ⟨rfl, hP1, ⟨T5, u1.1, by omega⟩, yAP_eq hA (fun c => u1.2.1 2 c (fun q => absurd q.1 (by decide))), fun b h2 h1 => (u1.2.2 b h1).trans (hB b h2)⟩
set_option maxRecDepth 6000 in
theorem yappC0 {ph : pm_H} (hP : xH xX kK m w ph) (hT : xget ph 1 1 = some (.int T)) (ht : T.toInt = (t : Int)) (h76 : 76 < t) (h80 : t ≤ 80) : ∃ v ph', pm_Rd kK false (D + 1) 95 [.ref 1, .int y] ph (v, ph', 0, 0) ∧ (v = some (.int (Int32.ofInt 0)) ∧ ph = ph') := by
  refine xRd_mk (nl := 3) rfl rfl ?_
  show xGT kK D 95 _ (0, [some (.ref 1), some (.int y), none], [], ph, 0, 0)
  refine gt_load (v := .ref 1) (n := 1) (ykc_95 (e := (2, .aload_n kF0, 0)) rfl) rfl rfl ?_
  refine gt_ogk (A := 1) (v := .int T) (ykc_95 (e := (5, .getfield 13, 0)) rfl) rfl hP rfl rfl hT rfl ?_
  refine gt_zlt_f (ykc_95 (e := (4, .ifCond .lt 14, 18)) rfl) (by omega) rfl ?_
  refine gt_load (v := .ref 1) (n := 1) (ykc_95 (e := (2, .aload_n kF0, 0)) rfl) rfl rfl ?_
  refine gt_ogk (A := 1) (v := .int T) (ykc_95 (e := (5, .getfield 13, 0)) rfl) rfl hP rfl rfl hT rfl ?_
  refine gt_alu (st' := [.int (Int32.ofInt 4), .int T]) (ykc_95 (e := (0, .iconst 4, 0)) rfl) rfl rfl ?_
  obtain ⟨T4, e_T4, h_T4⟩ : ∃ zq : Int32, T + (Int32.ofInt 4) = zq ∧ zq.toInt = T.toInt + 4 := ⟨_, rfl, by rw [ti_add (by rw [yi4]; omega) (by rw [yi4]; omega), yi4]⟩
  refine gt_alu (st' := [.int T4]) (ykc_95 (e := (0, .iadd, 0)) rfl) (by rw [← e_T4]; exact rfl) rfl ?_
  refine gt_push (v := .int ((Int8.ofInt 80).toInt32)) (n := 2) (ykc_95 (e := (1, .bipush 80, 0)) rfl) rfl rfl ?_
  refine gt_ile_f (ykc_95 (e := (4, .if_icmp .le 5, 20)) rfl) (by rw [yb80]; omega) rfl ?_
  refine gt_alu (st' := [.int (Int32.ofInt 0)]) (ykc_95 (e := (0, .iconst 0, 0)) rfl) rfl rfl ?_
  refine gt_ret (ykc_95 (e := (7, .ireturn, 0)) rfl) (xretz (by decide) (by decide)) ?_
  exact ⟨rfl, rfl⟩
set_option maxRecDepth 6000 in
theorem yszC {ph : pm_H} (hP : xH xX kK m w ph) (hT : xget ph 1 1 = some (.int T)) : ∃ v ph', pm_Rd kK false (D + 1) 99 [.ref 1] ph (v, ph', 0, 0) ∧ (v = some (.int T) ∧ ph = ph') := by
  refine xRd_mk (nl := 1) rfl rfl ?_
  show xGT kK D 99 _ (0, [some (.ref 1)], [], ph, 0, 0)
  refine gt_load (v := .ref 1) (n := 1) (ykc_99 (e := (2, .aload_n kF0, 0)) rfl) rfl rfl ?_
  refine gt_ogk (A := 1) (v := .int T) (ykc_99 (e := (5, .getfield 13, 0)) rfl) rfl hP rfl rfl hT rfl ?_
  refine gt_ret (ykc_99 (e := (7, .ireturn, 0)) rfl) rfl ?_
  exact ⟨rfl, rfl⟩
set_option maxRecDepth 6000 in
theorem ysignC {ph : pm_H} (hP : xH xX kK m w ph) (hT : xget ph 1 1 = some (.int T)) (ht : T.toInt = (t : Int)) (h80 : t ≤ 80) : ∃ v ph', pm_Rd kK false (D + 1 + 1) 122 [.ref 0, .int y] ph (v, ph', 0, 0) ∧ ((t ≤ 76 ∧ yAP ph ph' 2 t y 4) ∨ (76 < t ∧ ph = ph')) := by
  refine xRd_mk (nl := 2) rfl rfl ?_
  show xGT kK (D + 1) 122 _ (0, [some (.ref 0), some (.int y)], [], ph, 0, 0)
  by_cases h76 : t ≤ 76
  · refine gt_load (v := .ref 0) (n := 1) (ykc_122 (e := (2, .aload_n kF0, 0)) rfl) rfl rfl ?_
    refine gt_ogr (A := 0) (B := 1) (ykc_122 (e := (5, .getfield 10, 0)) rfl) rfl hP rfl rfl rfl rfl rfl ?_
    refine gt_load (v := .int y) (n := 1) (ykc_122 (e := (2, .iload_n kF1, 0)) rfl) rfl rfl ?_
    refine gt_ocv (A := 1) (n := 1) (as := [.ref 1, .int y]) (r := []) (ykc_122 (e := (6, .invokevirtual 104, 0)) rfl) rfl hP rfl rfl rfl rfl rfl (yappC (D := D) (y := y) hP hT ht h76) rfl (fun vv ph1 hv => ?_)
    obtain ⟨e9, hP1, ⟨s, hs, hs4⟩, hA, hB⟩ := hv; subst e9
    change xGT kK (D + 1) 122 _ (8, [some (.ref 0), some (.int y)], [.int (Int32.ofInt 1)], ph1, 0, 0)
    refine gt_zeq_f (ykc_122 (e := (4, .ifCond .eq 13, 21)) rfl) (by decide) rfl ?_
    refine gt_load (v := .ref 0) (n := 1) (ykc_122 (e := (2, .aload_n kF0, 0)) rfl) rfl rfl ?_
    refine gt_ogr (A := 0) (B := 1) (ykc_122 (e := (5, .getfield 10, 0)) rfl) rfl hP1 rfl rfl rfl rfl rfl ?_
    refine gt_ocv (A := 1) (n := 0) (as := [.ref 1]) (r := []) (ykc_122 (e := (6, .invokevirtual 108, 0)) rfl) rfl hP1 rfl rfl rfl rfl rfl (yszC (D := D) hP1 hs) rfl (fun vv ph2 hv => ?_)
    obtain ⟨e9, e8⟩ := hv; subst e9; subst e8
    change xGT kK (D + 1) 122 _ (18, [some (.ref 0), some (.int y)], [.int s], ph1, 0, 0)
    refine gt_br (pc' := 22) (st' := [.int s]) (ykc_122 (e := (4, .goto 4, 22)) rfl) rfl ?_
    refine gt_ret (ykc_122 (e := (7, .ireturn, 0)) rfl) rfl ?_
    exact Or.inl ⟨h76, hA⟩
  · replace h76 : 76 < t := by omega
    refine gt_load (v := .ref 0) (n := 1) (ykc_122 (e := (2, .aload_n kF0, 0)) rfl) rfl rfl ?_
    refine gt_ogr (A := 0) (B := 1) (ykc_122 (e := (5, .getfield 10, 0)) rfl) rfl hP rfl rfl rfl rfl rfl ?_
    refine gt_load (v := .int y) (n := 1) (ykc_122 (e := (2, .iload_n kF1, 0)) rfl) rfl rfl ?_
    refine gt_ocv (A := 1) (n := 1) (as := [.ref 1, .int y]) (r := []) (ykc_122 (e := (6, .invokevirtual 104, 0)) rfl) rfl hP rfl rfl rfl rfl rfl (yappC0 (D := D) (y := y) hP hT ht h76 h80) rfl (fun vv ph1 hv => ?_)
    obtain ⟨e9, e8⟩ := hv; subst e9; subst e8
    change xGT kK (D + 1) 122 _ (8, [some (.ref 0), some (.int y)], [.int (Int32.ofInt 0)], ph, 0, 0)
    refine gt_zeq_t (ykc_122 (e := (4, .ifCond .eq 13, 21)) rfl) (by decide) ?_
    refine gt_alu (st' := [.int (Int32.ofInt (-1))]) (ykc_122 (e := (0, .iconst (-1), 0)) rfl) rfl rfl ?_
    refine gt_ret (ykc_122 (e := (7, .ireturn, 0)) rfl) rfl ?_
    exact Or.inr ⟨h76, rfl⟩
set_option maxRecDepth 6000 in
theorem ysignM {ph : pm_H} (hP : xH xX kK m w ph) (hT : xget ph 170 14 = some (.int T)) (ht : T.toInt = (t : Int)) (h80 : t ≤ 80) : ∃ v ph', pm_Rd kK false (D + 1) 193 [.ref 170, .int y] ph (v, ph', 0, 0) ∧ ((t ≤ 76 ∧ yAP ph ph' 176 t y 4) ∨ (76 < t ∧ ∀ c, xget ph' 176 c = xget ph 176 c)) := by
  refine xRd_mk (nl := 3) rfl rfl ?_
  show xGT kK D 193 _ (0, [some (.ref 170), some (.int y), none], [], ph, 0, 0)
  by_cases h76 : t ≤ 76
  · refine gt_load (v := .ref 170) (n := 1) (ykc_193 (e := (2, .aload_n kF0, 0)) rfl) rfl rfl ?_
    refine gt_alu (st' := [.int (Int32.ofInt 0), .ref 170]) (ykc_193 (e := (0, .iconst 0, 0)) rfl) rfl rfl ?_
    refine gt_opv (A := 170) (y := .int (Int32.ofInt 0)) (ty := .int) (ykc_193 (e := (5, .putfield 3, 0)) rfl) rfl hP rfl rfl rfl rfl rfl ⟨_, rfl, (by decide), (by decide)⟩ rfl (fun ph1 hP1 u1 => ?_)
    have f1_170_14 : xget ph1 170 14 = some (.int T) := (u1.2.1 170 14 (fun q => absurd q.2 (by decide))).trans hT
    refine gt_load (v := .ref 170) (n := 1) (ykc_193 (e := (2, .aload_n kF0, 0)) rfl) rfl rfl ?_
    refine gt_ogk (A := 170) (v := .int T) (ykc_193 (e := (5, .getfield 136, 0)) rfl) rfl hP1 rfl rfl f1_170_14 rfl ?_
    refine gt_push (v := .int ((Int8.ofInt 76).toInt32)) (n := 2) (ykc_193 (e := (1, .bipush 76, 0)) rfl) rfl rfl ?_
    refine gt_ile_t (ykc_193 (e := (4, .if_icmp .le 5, 16)) rfl) (by rw [yb76]; omega) ?_
    refine gt_alu (st' := [.int (Int32.ofInt 0)]) (ykc_193 (e := (0, .iconst 0, 0)) rfl) rfl rfl ?_
    refine gt_store (L' := [some (.ref 170), some (.int y), some (.int (Int32.ofInt 0))]) (st' := []) (n := 1) (ykc_193 (e := (3, .istore_n kF2, 0)) rfl) rfl rfl ?_
    refine yaplM ht h76 (p0 := ph1) (fun ph' x hP1 hT1 hA hB => ?_) 4 0 _ _ rfl (by decide) hP1 f1_170_14 yAP_0 (fun _ _ => rfl)
    refine gt_load (v := .ref 170) (n := 1) (ykc_193 (e := (2, .aload_n kF0, 0)) rfl) rfl rfl ?_
    refine gt_alu (st' := [.ref 170, .ref 170]) (ykc_193 (e := (0, .dup, 0)) rfl) rfl rfl ?_
    refine gt_ogk (A := 170) (v := .int T) (ykc_193 (e := (5, .getfield 136, 0)) rfl) rfl hP1 rfl rfl hT1 rfl ?_
    refine gt_alu (st' := [.int (Int32.ofInt 4), .int T, .ref 170]) (ykc_193 (e := (0, .iconst 4, 0)) rfl) rfl rfl ?_
    obtain ⟨T5, e_T5, h_T5⟩ : ∃ zq : Int32, T + (Int32.ofInt 4) = zq ∧ zq.toInt = T.toInt + 4 := ⟨_, rfl, by rw [ti_add (by rw [yi4]; omega) (by rw [yi4]; omega), yi4]⟩
    refine gt_alu (st' := [.int T5, .ref 170]) (ykc_193 (e := (0, .iadd, 0)) rfl) (by rw [← e_T5]; exact rfl) rfl ?_
    refine gt_opv (A := 170) (y := .int T5) (ty := .int) (ykc_193 (e := (5, .putfield 136, 0)) rfl) rfl hP1 rfl rfl rfl rfl rfl ⟨_, rfl, (by show 0 ≤ T5.toInt; omega), (by show T5.toInt ≤ 80; omega)⟩ rfl (fun ph21 hP21 u21 => ?_)
    refine gt_load (v := .ref 170) (n := 1) (ykc_193 (e := (2, .aload_n kF0, 0)) rfl) rfl rfl ?_
    refine gt_ogk (A := 170) (v := .int T5) (ykc_193 (e := (5, .getfield 136, 0)) rfl) rfl hP21 rfl rfl u21.1 rfl ?_
    refine gt_ret (ykc_193 (e := (7, .ireturn, 0)) rfl) rfl ?_
    exact Or.inl ⟨h76, yAP_eq0 (yAP_eq hA (fun c => u21.2.1 176 c (fun q => absurd q.1 (by decide)))) (fun c => u1.2.1 176 c (fun q => absurd q.1 (by decide)))⟩
  · replace h76 : 76 < t := by omega
    refine gt_load (v := .ref 170) (n := 1) (ykc_193 (e := (2, .aload_n kF0, 0)) rfl) rfl rfl ?_
    refine gt_alu (st' := [.int (Int32.ofInt 0), .ref 170]) (ykc_193 (e := (0, .iconst 0, 0)) rfl) rfl rfl ?_
    refine gt_opv (A := 170) (y := .int (Int32.ofInt 0)) (ty := .int) (ykc_193 (e := (5, .putfield 3, 0)) rfl) rfl hP rfl rfl rfl rfl rfl ⟨_, rfl, (by decide), (by decide)⟩ rfl (fun ph1 hP1 u1 => ?_)
    have f1_170_14 : xget ph1 170 14 = some (.int T) := (u1.2.1 170 14 (fun q => absurd q.2 (by decide))).trans hT
    refine gt_load (v := .ref 170) (n := 1) (ykc_193 (e := (2, .aload_n kF0, 0)) rfl) rfl rfl ?_
    refine gt_ogk (A := 170) (v := .int T) (ykc_193 (e := (5, .getfield 136, 0)) rfl) rfl hP1 rfl rfl f1_170_14 rfl ?_
    refine gt_push (v := .int ((Int8.ofInt 76).toInt32)) (n := 2) (ykc_193 (e := (1, .bipush 76, 0)) rfl) rfl rfl ?_
    refine gt_ile_f (ykc_193 (e := (4, .if_icmp .le 5, 16)) rfl) (by rw [yb76]; omega) rfl ?_
    refine gt_alu (st' := [.int (Int32.ofInt (-1))]) (ykc_193 (e := (0, .iconst (-1), 0)) rfl) rfl rfl ?_
    refine gt_ret (ykc_193 (e := (7, .ireturn, 0)) rfl) rfl ?_
    exact Or.inr ⟨h76, fun c => u1.2.1 176 c (fun q => absurd q.1 (by decide))⟩
end YT
