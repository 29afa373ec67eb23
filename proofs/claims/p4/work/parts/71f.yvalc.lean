/-! valley of the class, what it answers, by hand, printed by wip/y/h_zzy.py -/
section ZC
variable {m : Int} {w D : Nat} {Q : Option Value → pm_H → Prop} {T : Int32} {n : Nat} {t : Nat → Int32}
set_option maxRecDepth 6000 in
theorem zstclr {ph : pm_H} (hP : xH xX kK m w ph) : ∃ v ph', pm_Rd kK false (D + 1) 102 [.ref 25] ph (v, ph', 0, 0) ∧ (v = none ∧ xH xX kK m w ph' ∧ (∀ b, b ≠ 25 → pm_at ph' b = pm_at ph b)) := by
  refine xRd_mk (nl := 1) rfl rfl ?_
  show xGT kK D 102 _ (0, [some (.ref 25)], [], ph, 0, 0)
  refine gt_load (v := .ref 25) (n := 1) (ykc_102 (e := (2, .aload_n kF0, 0)) rfl) rfl rfl ?_
  refine gt_alu (st' := [.int (Int32.ofInt 0), .ref 25]) (ykc_102 (e := (0, .iconst 0, 0)) rfl) rfl rfl ?_
  refine gt_opv (A := 25) (y := .int (Int32.ofInt 0)) (ty := .int) (ykc_102 (e := (5, .putfield 30, 0)) rfl) rfl hP rfl rfl rfl rfl rfl ⟨_, rfl, (by decide), (by decide)⟩ rfl (fun ph1 hP1 u1 => ?_)
  refine gt_load (v := .ref 25) (n := 1) (ykc_102 (e := (2, .aload_n kF0, 0)) rfl) rfl rfl ?_
  refine gt_alu (st' := [.int (Int32.ofInt 0), .ref 25]) (ykc_102 (e := (0, .iconst 0, 0)) rfl) rfl rfl ?_
  refine gt_opv (A := 25) (y := .int (Int32.ofInt 0)) (ty := .int) (ykc_102 (e := (5, .putfield 34, 0)) rfl) rfl hP1 rfl rfl rfl rfl rfl ⟨_, rfl, (by decide), (by decide)⟩ rfl (fun ph2 hP2 u2 => ?_)
  have f2_25_0 : xget ph2 25 0 = some (.int (Int32.ofInt 0)) := (u2.2.1 25 0 (fun q => absurd q.2 (by decide))).trans u1.1
  refine gt_load (v := .ref 25) (n := 1) (ykc_102 (e := (2, .aload_n kF0, 0)) rfl) rfl rfl ?_
  refine gt_alu (st' := [.int (Int32.ofInt 0), .ref 25]) (ykc_102 (e := (0, .iconst 0, 0)) rfl) rfl rfl ?_
  refine gt_opv (A := 25) (y := .int (Int32.ofInt 0)) (ty := .int) (ykc_102 (e := (5, .putfield 37, 0)) rfl) rfl hP2 rfl rfl rfl rfl rfl ⟨_, rfl, (by decide), (by decide)⟩ rfl (fun ph3 hP3 u3 => ?_)
  have f3_25_0 : xget ph3 25 0 = some (.int (Int32.ofInt 0)) := (u3.2.1 25 0 (fun q => absurd q.2 (by decide))).trans f2_25_0
  have f3_25_1 : xget ph3 25 1 = some (.int (Int32.ofInt 0)) := (u3.2.1 25 1 (fun q => absurd q.2 (by decide))).trans u2.1
  refine gt_ret (ykc_102 (e := (7, .return_, 0)) rfl) rfl ?_
  exact ⟨rfl, hP3, fun b hb => (((u3.2.2 b hb).trans (u2.2.2 b hb)).trans (u1.2.2 b hb))⟩
set_option maxRecDepth 6000 in
theorem zhiclr {ph : pm_H} (hP : xH xX kK m w ph) : ∃ v ph', pm_Rd kK false (D + 1) 30 [.ref 43] ph (v, ph', 0, 0) ∧ (v = none ∧ xH xX kK m w ph' ∧ (∀ b, b ≠ 43 → pm_at ph' b = pm_at ph b)) := by
  refine xRd_mk (nl := 1) rfl rfl ?_
  show xGT kK D 30 _ (0, [some (.ref 43)], [], ph, 0, 0)
  refine gt_load (v := .ref 43) (n := 1) (ykc_30 (e := (2, .aload_n kF0, 0)) rfl) rfl rfl ?_
  refine gt_alu (st' := [.int (Int32.ofInt 0), .ref 43]) (ykc_30 (e := (0, .iconst 0, 0)) rfl) rfl rfl ?_
  refine gt_opv (A := 43) (y := .int (Int32.ofInt 0)) (ty := .int) (ykc_30 (e := (5, .putfield 26, 0)) rfl) rfl hP rfl rfl rfl rfl rfl ⟨_, rfl, (by decide), (by decide)⟩ rfl (fun ph1 hP1 u1 => ?_)
  refine gt_load (v := .ref 43) (n := 1) (ykc_30 (e := (2, .aload_n kF0, 0)) rfl) rfl rfl ?_
  refine gt_alu (st' := [.int (Int32.ofInt 0), .ref 43]) (ykc_30 (e := (0, .iconst 0, 0)) rfl) rfl rfl ?_
  refine gt_opv (A := 43) (y := .int (Int32.ofInt 0)) (ty := .int) (ykc_30 (e := (5, .putfield 19, 0)) rfl) rfl hP1 rfl rfl rfl rfl rfl ⟨_, rfl, (by decide), (by decide)⟩ rfl (fun ph2 hP2 u2 => ?_)
  have f2_43_2 : xget ph2 43 2 = some (.int (Int32.ofInt 0)) := (u2.2.1 43 2 (fun q => absurd q.2 (by decide))).trans u1.1
  refine gt_ret (ykc_30 (e := (7, .return_, 0)) rfl) rfl ?_
  exact ⟨rfl, hP2, fun b hb => ((u2.2.2 b hb).trans (u1.2.2 b hb))⟩
set_option maxRecDepth 6000 in
theorem zforg {ph : pm_H} (hP : xH xX kK m w ph) : ∃ v ph', pm_Rd kK false (D + 1) 170 [.ref 0] ph (v, ph', 0, 0) ∧ (v = none ∧ xH xX kK m w ph' ∧ (∀ b, b ≠ 0 → pm_at ph' b = pm_at ph b)) := by
  refine xRd_mk (nl := 1) rfl rfl ?_
  show xGT kK D 170 _ (0, [some (.ref 0)], [], ph, 0, 0)
  refine gt_load (v := .ref 0) (n := 1) (ykc_170 (e := (2, .aload_n kF0, 0)) rfl) rfl rfl ?_
  refine gt_push (v := .long (-1 : Int64)) (n := 3) (ykc_170 (e := (1, .ldc2_w 94, 0)) rfl) rfl rfl ?_
  refine gt_opv (A := 0) (y := .long (-1 : Int64)) (ty := .long) (ykc_170 (e := (5, .putfield 96, 0)) rfl) rfl hP rfl rfl rfl rfl rfl ⟨_, rfl⟩ rfl (fun ph1 hP1 u1 => ?_)
  refine gt_load (v := .ref 0) (n := 1) (ykc_170 (e := (2, .aload_n kF0, 0)) rfl) rfl rfl ?_
  refine gt_alu (st' := [.int (Int32.ofInt 0), .ref 0]) (ykc_170 (e := (0, .iconst 0, 0)) rfl) rfl rfl ?_
  refine gt_opv (A := 0) (y := .int (Int32.ofInt 0)) (ty := .int) (ykc_170 (e := (5, .putfield 100, 0)) rfl) rfl hP1 rfl rfl rfl rfl rfl ⟨_, rfl, (by decide), (by decide)⟩ rfl (fun ph2 hP2 u2 => ?_)
  have f2_0_13 : xget ph2 0 13 = some (.long (-1 : Int64)) := (u2.2.1 0 13 (fun q => absurd q.2 (by decide))).trans u1.1
  refine gt_ret (ykc_170 (e := (7, .return_, 0)) rfl) rfl ?_
  exact ⟨rfl, hP2, fun b hb => ((u2.2.2 b hb).trans (u1.2.2 b hb))⟩
set_option maxRecDepth 6000 in
theorem zflds {ph : pm_H} {S : Int32} (hP : xH xX kK m w ph) (hS : xget ph 5 2 = some (.int S)) : ∃ v ph', pm_Rd kK false (D + 1) 39 [.ref 5] ph (v, ph', 0, 0) ∧ (v = some (.int S) ∧ ph = ph') := by
  refine xRd_mk (nl := 1) rfl rfl ?_
  show xGT kK D 39 _ (0, [some (.ref 5)], [], ph, 0, 0)
  refine gt_load (v := .ref 5) (n := 1) (ykc_39 (e := (2, .aload_n kF0, 0)) rfl) rfl rfl ?_
  refine gt_ogk (A := 5) (v := .int S) (ykc_39 (e := (5, .getfield 60, 0)) rfl) rfl hP rfl rfl hS rfl ?_
  refine gt_ret (ykc_39 (e := (7, .ireturn, 0)) rfl) rfl ?_
  exact ⟨rfl, rfl⟩
set_option maxRecDepth 6000 in
theorem zvalC {ph : pm_H} (hP : xH xX kK m w ph) (hT : xget ph 1 1 = some (.int T)) (ht : T.toInt = (n : Int)) (hX : yTX ph 2 n t) {F : Nat} (hF : zF n t (zsd n t 0 * zsd n t 1).toNat F) (hF49 : zsd n t 0 * zsd n t 1 ≤ 49) : ∃ v ph', pm_Rd kK false (D + 1 + 1 + 1 + 1 + 1) 124 [.ref 0] ph (v, ph', 0, 0) ∧ (∃ r : Int32, v = some (.int r) ∧ r.toInt = zvv n (zsd n t 0) (zsd n t 1) F) := by
  have hFN := hF.1
  have hv3 : -60 ≤ zvv n (zsd n t 0) (zsd n t 1) F := by
    unfold zvv
    by_cases q1 : zsd n t 0 < 0
    · rw [if_pos q1]; decide
    · by_cases q2 : zsd n t 1 < 0
      · rw [if_neg q1, if_pos q2]; decide
      · rw [if_neg q1, if_neg q2]
        have q3 : 0 ≤ zsd n t 0 * zsd n t 1 := Int.mul_nonneg (by omega) (by omega)
        generalize zsd n t 0 * zsd n t 1 = M at *
        by_cases q4 : (F : Int) < M
        · rw [if_pos q4]; omega
        · rw [if_neg q4]
          by_cases q5 : 2 + M < (n : Int)
          · rw [if_pos q5]; omega
          · rw [if_neg q5]; omega
  refine xRd_mk (nl := 2) rfl rfl ?_
  show xGT kK (D + 1 + 1 + 1 + 1) 124 _ (0, [some (.ref 0), none], [], ph, 0, 0)
  refine gt_load (v := .ref 0) (n := 1) (ykc_124 (e := (2, .aload_n kF0, 0)) rfl) rfl rfl ?_
  refine gt_ogr (A := 0) (B := 5) (ykc_124 (e := (5, .getfield 26, 0)) rfl) rfl hP rfl rfl rfl rfl rfl ?_
  refine gt_load (v := .ref 0) (n := 1) (ykc_124 (e := (2, .aload_n kF0, 0)) rfl) rfl rfl ?_
  refine gt_ogr (A := 0) (B := 1) (ykc_124 (e := (5, .getfield 10, 0)) rfl) rfl hP rfl rfl rfl rfl rfl ?_
  refine gt_ocv (A := 5) (n := 1) (as := [.ref 5, .ref 1]) (r := []) (ykc_124 (e := (6, .invokevirtual 115, 0)) rfl) rfl hP rfl rfl rfl rfl rfl (zreadC (D := D) hP hT ht hX hF) rfl (fun vv ph1 hv => ?_)
  obtain ⟨hP1, q, e9, hq⟩ := hv; subst e9
  change xGT kK (D + 1 + 1 + 1 + 1) 124 _ (11, [some (.ref 0), none], [.int q], ph1, 0, 0)
  refine gt_store (L' := [some (.ref 0), some (.int q)]) (st' := []) (n := 1) (ykc_124 (e := (3, .istore_n kF1, 0)) rfl) rfl rfl ?_
  refine gt_load (v := .ref 0) (n := 1) (ykc_124 (e := (2, .aload_n kF0, 0)) rfl) rfl rfl ?_
  refine gt_ogr (A := 0) (B := 1) (ykc_124 (e := (5, .getfield 10, 0)) rfl) rfl hP1 rfl rfl rfl rfl rfl ?_
  refine gt_ocv (A := 1) (n := 0) (as := [.ref 1]) (r := []) (ykc_124 (e := (6, .invokevirtual 119, 0)) rfl) rfl hP1 rfl rfl rfl rfl rfl (zclrC (D := D + 1 + 1 + 1) hP1) rfl (fun vv ph2 hv => ?_)
  obtain ⟨e9, hP2, u2⟩ := hv; subst e9
  change xGT kK (D + 1 + 1 + 1 + 1) 124 _ (19, [some (.ref 0), some (.int q)], [], ph2, 0, 0)
  refine gt_load (v := .int q) (n := 1) (ykc_124 (e := (2, .iload_n kF1, 0)) rfl) rfl rfl ?_
  rcases hq with ⟨q1, q2, -⟩ | ⟨q1, q2, q3, q4, q5, r, c, q6, q7, h0, h1, h3, h4, ⟨S, h2, hS⟩, -, -⟩
  · refine gt_zlt_f (ykc_124 (e := (4, .ifCond .lt 7, 27)) rfl) (by omega) rfl ?_
    refine gt_alu (st' := [.int (Int32.ofInt (-1))]) (ykc_124 (e := (0, .iconst (-1), 0)) rfl) rfl rfl ?_
    refine gt_load (v := .int q) (n := 1) (ykc_124 (e := (2, .iload_n kF1, 0)) rfl) rfl rfl ?_
    obtain ⟨q9, e_q9, h_q9⟩ : ∃ zq : Int32, (Int32.ofInt (-1)) - q = zq ∧ zq.toInt = -1 - q.toInt := ⟨_, rfl, by rw [ti_sub (by rw [zm1]; omega) (by rw [zm1]; omega), zm1]⟩
    refine gt_alu (st' := [.int q9]) (ykc_124 (e := (0, .isub, 0)) rfl) (by rw [← e_q9]; exact rfl) rfl ?_
    refine gt_ret (ykc_124 (e := (7, .ireturn, 0)) rfl) rfl ?_
    exact ⟨_, rfl, by omega⟩
  · refine gt_zlt_t (ykc_124 (e := (4, .ifCond .lt 7, 27)) rfl) (by omega) ?_
    refine gt_load (v := .ref 0) (n := 1) (ykc_124 (e := (2, .aload_n kF0, 0)) rfl) rfl rfl ?_
    refine gt_ogr (A := 0) (B := 25) (ykc_124 (e := (5, .getfield 42, 0)) rfl) rfl hP2 rfl rfl rfl rfl rfl ?_
    refine gt_ocv (A := 25) (n := 0) (as := [.ref 25]) (r := []) (ykc_124 (e := (6, .invokevirtual 122, 0)) rfl) rfl hP2 rfl rfl rfl rfl rfl (zstclr (D := D + 1 + 1 + 1) hP2) rfl (fun vv ph103 hv => ?_)
    obtain ⟨e9, hP3, g3⟩ := hv; subst e9
    change xGT kK (D + 1 + 1 + 1 + 1) 124 _ (34, [some (.ref 0), some (.int q)], [], ph103, 0, 0)
    refine gt_load (v := .ref 0) (n := 1) (ykc_124 (e := (2, .aload_n kF0, 0)) rfl) rfl rfl ?_
    refine gt_ogr (A := 0) (B := 43) (ykc_124 (e := (5, .getfield 55, 0)) rfl) rfl hP3 rfl rfl rfl rfl rfl ?_
    refine gt_ocv (A := 43) (n := 0) (as := [.ref 43]) (r := []) (ykc_124 (e := (6, .invokevirtual 123, 0)) rfl) rfl hP3 rfl rfl rfl rfl rfl (zhiclr (D := D + 1 + 1 + 1) hP3) rfl (fun vv ph104 hv => ?_)
    obtain ⟨e9, hP4, g4⟩ := hv; subst e9
    change xGT kK (D + 1 + 1 + 1 + 1) 124 _ (41, [some (.ref 0), some (.int q)], [], ph104, 0, 0)
    refine gt_load (v := .ref 0) (n := 1) (ykc_124 (e := (2, .aload_n kF0, 0)) rfl) rfl rfl ?_
    refine gt_ocv (A := 0) (n := 0) (as := [.ref 0]) (r := []) (ykc_124 (e := (6, .invokevirtual 124, 0)) rfl) rfl hP4 rfl rfl rfl rfl rfl (zforg (D := D + 1 + 1 + 1) hP4) rfl (fun vv ph105 hv => ?_)
    obtain ⟨e9, hP5, g5⟩ := hv; subst e9
    change xGT kK (D + 1 + 1 + 1 + 1) 124 _ (45, [some (.ref 0), some (.int q)], [], ph105, 0, 0)
    refine gt_load (v := .ref 0) (n := 1) (ykc_124 (e := (2, .aload_n kF0, 0)) rfl) rfl rfl ?_
    refine gt_ogr (A := 0) (B := 5) (ykc_124 (e := (5, .getfield 26, 0)) rfl) rfl hP5 rfl rfl rfl rfl rfl ?_
    have hS5 : xget ph105 5 2 = some (.int S) := (xget_at (g5 5 (by decide)) 2).trans ((xget_at (g4 5 (by decide)) 2).trans ((xget_at (g3 5 (by decide)) 2).trans ((u2.2.1 5 2 (fun q => absurd q.1 (by decide))).trans h2)))
    refine gt_ocv (A := 5) (n := 0) (as := [.ref 5]) (r := []) (ykc_124 (e := (6, .invokevirtual 127, 0)) rfl) rfl hP5 rfl rfl rfl rfl rfl (zflds (D := D + 1 + 1 + 1) hP5 hS5) rfl (fun vv ph106 hv => ?_)
    obtain ⟨e9, e8⟩ := hv; subst e9; subst e8
    change xGT kK (D + 1 + 1 + 1 + 1) 124 _ (52, [some (.ref 0), some (.int q)], [.int S], ph105, 0, 0)
    refine gt_ret (ykc_124 (e := (7, .ireturn, 0)) rfl) rfl ?_
    exact ⟨_, rfl, by
      have q8 : 0 ≤ zsd n t 0 * zsd n t 1 := Int.mul_nonneg q2 q3
      rw [hS, q4]
      omega⟩
end ZC
