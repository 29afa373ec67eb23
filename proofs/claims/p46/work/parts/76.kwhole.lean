/-! The whole start, printed by wip/x/claw.py -/
theorem k64 (v : Int32) : ∃ k, k < 64 ∧ v &&& (Int8.ofInt 63).toInt32 = Int32.ofNat k := by
  have e : (Int8.ofInt 63).toInt32 = 63 := by decide +kernel
  rw [e]
  refine ⟨(v &&& 63).toBitVec.toNat, ?_, ?_⟩
  · have h : (v &&& 63).toBitVec.toNat = v.toBitVec.toNat &&& 63 := by simp
    rw [h]
    exact Nat.lt_of_le_of_lt Nat.and_le_right (by decide)
  · apply Int32.toBitVec_inj.mp
    apply BitVec.eq_of_toNat_eq
    simp
section KWS
variable {p : Program} {l : Launch} {e : Env} {s : State} {m : MethodId} {below : List Frame} {meth : Method} {c : Code} {b L : Nat} {xs : Nat → Int32} {D : va_G} {dA : Nat → ClassId} {ra : Nat → Nat}
theorem ktb6 {w : Cond} (h : tables_1_6.any (fun v => decide (v = w)) = true) : w ∈ lw_tbl := List.mem_append_right _ (List.mem_append_right _ (List.mem_append_right _ (List.mem_append_right _ (List.mem_append_right _ (List.mem_append_right _ (List.mem_append_left _ (kvin_any h)))))))
theorem ktb5 {w : Cond} (h : tables_1_5.any (fun v => decide (v = w)) = true) : w ∈ lw_tbl := List.mem_append_right _ (List.mem_append_right _ (List.mem_append_right _ (List.mem_append_right _ (List.mem_append_right _ (List.mem_append_left _ (kvin_any h))))))
theorem kvxB_l : ∀ w ∈ kvxB, w ∈ lw_tbl := fun w hw => by
  have h := List.all_eq_true.mp (by decide +kernel : kvxB.all (fun w => tables_1_5.any (fun v => decide (v = w)) || tables_1_6.any (fun v => decide (v = w))) = true) w hw
  rcases Bool.or_eq_true_iff.mp h with h | h
  · exact ktb5 h
  · exact ktb6 h
theorem kC0_le : kC0 ≤ 10000 := by decide +kernel
theorem kS0_le : kS0 ≤ 100000 := by decide +kernel
theorem kTs_law (C0 : lw_At p s m meth c b L xs) : kTs s.heap.size s s.heap := by
  obtain ⟨hx, hb, hr, hml, hown, hts, hX, hbl, hlocks, hgv⟩ := C0
  have hA : ∀ a : Nat, a < s.heap.size → ¬ (fun q => s.heap.size ≤ q) a := fun a h => Nat.not_le.mpr h
  have hf := flat_of_before _ hgv
  have hi : Cond.initialized Bundle.tN ∈ lw_tbl := (List.mem_filter.mp (kvin_ok (w := .initialized Bundle.tN) (by decide +kernel))).1
  refine ⟨vx_Zqof (args := #[Value.ref b]) (hts _ (ktb6 (by decide +kernel))) (hts _ hi) (hf _ (by decide +kernel)) hA, vx_Zqof (args := #[Value.ref b]) (hts _ (ktb6 (by decide +kernel))) (hts _ hi) (hf _ (by decide +kernel)) hA, fun w hw => va_Nw.of (A := #[Value.ref b]) (kvxB_t w hw) (hts _ (kvxB_l w hw))⟩
theorem ki5 : (Int32.ofInt 5).toInt = 5 := by decide
theorem kofN {N : Nat} (h : N ≤ 100000) : (Int32.ofNat N).toInt = (N : Int) := Int32.toInt_ofNat_of_lt (by omega)
theorem kAg_of {i : Int32} {q N : Nat} (hi : i.toInt = ((5 * q : Nat) : Int)) (h : 5 * q + 5 ≤ N) (hN : N ≤ 100000) : kAg i N := fun z h0 h4 => by
  have hz : (Int32.ofInt z).toInt = z := Int32.toInt_ofInt_of_le (by omega) (by omega)
  have e : (i + Int32.ofInt z).toInt = ((5 * q : Nat) : Int) + z := by rw [ti_add (by omega) (by omega), hi, hz]
  have z0 : (0 : Int32).toInt = 0 := by decide
  have h1 : decide (i + Int32.ofInt z < 0) = false := decide_eq_false (fun h => by rw [Int32.lt_iff_toInt_lt, e, z0] at h; omega)
  unfold pm_inb
  rw [h1, cond_false]
  exact Nat.ble_eq_true_of_le (show (i + Int32.ofInt z).toNatClampNeg + 1 ≤ N by
    rw [show (i + Int32.ofInt z).toNatClampNeg = (i + Int32.ofInt z).toInt.toNat from rfl, e]
    omega)
theorem kz198 : (match pm_at kH0 198 with
  | some (.inl (1, .inl l)) => l.all (fun x => decide (x = 0))
  | _ => false) = true := by decide +kernel
theorem kzz : (0 : Int32).toInt = 0 := by decide
theorem xINV0 : xINV 0 kH0 := by
  refine ⟨3, 0, 0, 0, 0, ⟨rfl, rfl, rfl, rfl, rfl⟩, ⟨by decide, by decide, by decide, by decide⟩, Or.inr fun k x hk hx => ?_, fun u hu => ?_, fun i hi y hy h0 => ?_⟩
  · rw [kzz] at hk
    omega
  · rw [kzz] at hu
    omega
  · obtain ⟨l, hl, hy⟩ := hy
    have h := kz198
    rw [hl] at h
    have h2 : y = 0 := of_decide_eq_true (List.all_eq_true.mp h y (List.mem_of_getElem? hy))
    subst h2
    exact absurd kzz h0
theorem kst00 : xLI 0 kH0 := ⟨xst0 (by unfold xLm; omega), ⟨xV0, 0, rfl, rfl, fun i hi => absurd hi (by rw [kzz]; omega)⟩, xINV0⟩
theorem kge {i : Int32} {q N : Nat} (hi : i.toInt = ((5 * q : Nat) : Int)) (hq : q ≤ 100000) (hN : N ≤ 100000) : (Int32.ofNat N - Int32.ofInt 5 < i ↔ N < 5 * q + 5) := by
  have e : (Int32.ofNat N - Int32.ofInt 5).toInt = (N : Int) - 5 := by rw [ti_sub (by rw [kofN hN, ki5]; omega) (by rw [kofN hN, ki5]; omega), kofN hN, ki5]
  rw [Int32.lt_iff_toInt_lt, e, hi]
  omega
/-- 64 cases, one behind another -/
theorem kcs {P : Nat → Prop} (a b : Nat) (e : a + 1 = b) (h0 : P a) (h : ∀ k, b ≤ k → k < 64 → P k) : ∀ k, a ≤ k → k < 64 → P k := fun k h1 h2 => by
  rcases Nat.lt_or_eq_of_le h1 with h3 | h3
  · exact h k (by omega) h2
  · subst h3; exact h0
theorem kall64 {P : Nat → Prop} (h0 : P 0) (h1 : P 1) (h2 : P 2) (h3 : P 3) (h4 : P 4) (h5 : P 5) (h6 : P 6) (h7 : P 7) (h8 : P 8) (h9 : P 9) (h10 : P 10) (h11 : P 11) (h12 : P 12) (h13 : P 13) (h14 : P 14) (h15 : P 15) (h16 : P 16) (h17 : P 17) (h18 : P 18) (h19 : P 19) (h20 : P 20) (h21 : P 21) (h22 : P 22) (h23 : P 23) (h24 : P 24) (h25 : P 25) (h26 : P 26) (h27 : P 27) (h28 : P 28) (h29 : P 29) (h30 : P 30) (h31 : P 31) (h32 : P 32) (h33 : P 33) (h34 : P 34) (h35 : P 35) (h36 : P 36) (h37 : P 37) (h38 : P 38) (h39 : P 39) (h40 : P 40) (h41 : P 41) (h42 : P 42) (h43 : P 43) (h44 : P 44) (h45 : P 45) (h46 : P 46) (h47 : P 47) (h48 : P 48) (h49 : P 49) (h50 : P 50) (h51 : P 51) (h52 : P 52) (h53 : P 53) (h54 : P 54) (h55 : P 55) (h56 : P 56) (h57 : P 57) (h58 : P 58) (h59 : P 59) (h60 : P 60) (h61 : P 61) (h62 : P 62) (h63 : P 63) : ∀ k, k < 64 → P k := fun k hk => kcs (P := P) 0 1 rfl h0 (kcs (P := P) 1 2 rfl h1 (kcs (P := P) 2 3 rfl h2 (kcs (P := P) 3 4 rfl h3 (kcs (P := P) 4 5 rfl h4 (kcs (P := P) 5 6 rfl h5 (kcs (P := P) 6 7 rfl h6 (kcs (P := P) 7 8 rfl h7 (kcs (P := P) 8 9 rfl h8 (kcs (P := P) 9 10 rfl h9 (kcs (P := P) 10 11 rfl h10 (kcs (P := P) 11 12 rfl h11 (kcs (P := P) 12 13 rfl h12 (kcs (P := P) 13 14 rfl h13 (kcs (P := P) 14 15 rfl h14 (kcs (P := P) 15 16 rfl h15 (kcs (P := P) 16 17 rfl h16 (kcs (P := P) 17 18 rfl h17 (kcs (P := P) 18 19 rfl h18 (kcs (P := P) 19 20 rfl h19 (kcs (P := P) 20 21 rfl h20 (kcs (P := P) 21 22 rfl h21 (kcs (P := P) 22 23 rfl h22 (kcs (P := P) 23 24 rfl h23 (kcs (P := P) 24 25 rfl h24 (kcs (P := P) 25 26 rfl h25 (kcs (P := P) 26 27 rfl h26 (kcs (P := P) 27 28 rfl h27 (kcs (P := P) 28 29 rfl h28 (kcs (P := P) 29 30 rfl h29 (kcs (P := P) 30 31 rfl h30 (kcs (P := P) 31 32 rfl h31 (kcs (P := P) 32 33 rfl h32 (kcs (P := P) 33 34 rfl h33 (kcs (P := P) 34 35 rfl h34 (kcs (P := P) 35 36 rfl h35 (kcs (P := P) 36 37 rfl h36 (kcs (P := P) 37 38 rfl h37 (kcs (P := P) 38 39 rfl h38 (kcs (P := P) 39 40 rfl h39 (kcs (P := P) 40 41 rfl h40 (kcs (P := P) 41 42 rfl h41 (kcs (P := P) 42 43 rfl h42 (kcs (P := P) 43 44 rfl h43 (kcs (P := P) 44 45 rfl h44 (kcs (P := P) 45 46 rfl h45 (kcs (P := P) 46 47 rfl h46 (kcs (P := P) 47 48 rfl h47 (kcs (P := P) 48 49 rfl h48 (kcs (P := P) 49 50 rfl h49 (kcs (P := P) 50 51 rfl h50 (kcs (P := P) 51 52 rfl h51 (kcs (P := P) 52 53 rfl h52 (kcs (P := P) 53 54 rfl h53 (kcs (P := P) 54 55 rfl h54 (kcs (P := P) 55 56 rfl h55 (kcs (P := P) 56 57 rfl h56 (kcs (P := P) 57 58 rfl h57 (kcs (P := P) 58 59 rfl h58 (kcs (P := P) 59 60 rfl h59 (kcs (P := P) 60 61 rfl h60 (kcs (P := P) 61 62 rfl h61 (kcs (P := P) 62 63 rfl h62 (kcs (P := P) 63 64 rfl h63 (fun k h1 h2 => absurd h2 (Nat.not_lt.mpr h1))))))))))))))))))))))))))))))))))))))))))))))))))))))))))))))))) k (Nat.zero_le k) hk
noncomputable def kTt (k : Nat) : Nat := [nat_lit 240, nat_lit 265, nat_lit 290, nat_lit 303, nat_lit 316, nat_lit 329, nat_lit 342, nat_lit 355, nat_lit 395, nat_lit 435, nat_lit 496, nat_lit 521, nat_lit 558, nat_lit 595, nat_lit 632, nat_lit 669, nat_lit 682, nat_lit 695, nat_lit 720, nat_lit 745, nat_lit 758, nat_lit 771, nat_lit 796, nat_lit 809, nat_lit 822, nat_lit 859, nat_lit 872, nat_lit 897, nat_lit 922, nat_lit 959, nat_lit 972, nat_lit 997, nat_lit 1034, nat_lit 1071, nat_lit 1108, nat_lit 1145, nat_lit 1158, nat_lit 1171, nat_lit 1184, nat_lit 1233, nat_lit 1270, nat_lit 1283, nat_lit 1308, nat_lit 1345, nat_lit 1370, nat_lit 1395, nat_lit 1420].getD k (nat_lit 1448)
theorem kTt_ok : ∀ k, k < 64 → pm_br (.tableswitch 1409 0 46 #[201, 226, 251, 264, 277, 290, 303, 316, 356, 396, 457, 482, 519, 556, 593, 630, 643, 656, 681, 706, 719, 732, 757, 770, 783, 820, 833, 858, 883, 920, 933, 958, 995, 1032, 1069, 1106, 1119, 1132, 1145, 1194, 1231, 1244, 1269, 1306, 1331, 1356, 1381]) 201 39 [.int (Int32.ofNat k)] = some (kTt k, []) := by decide +kernel
/-- the loop, with r calls at most to come -/
theorem kloopN (hl : l.stackTraces = false) (C0 : lw_At p s m meth c b L xs) (F : kFx p s m meth c b L xs D dA ra) (hL : L ≤ 2560) : ∀ (r q : Nat) (i : Int32) (a5 a6 a7 : Option Value) (ph : pm_H) (cs ss : Nat), 512 < r + q → q ≤ 512 → i.toInt = ((5 * q : Nat) : Int) → xRI q ph → cs ≤ 10000 + q → ss ≤ 100000 + 6 * q → kW p l e s m below meth c b D dA ra false (lw_Z below #[Value.ref b] s) (23, kL2 i a5 a6 a7, [], ph, cs, ss) := by
  intro r
  induction r with
  | zero => intro q i a5 a6 a7 ph cs ss h1 h2; omega
  | succ r ih =>
    intro q i a5 a6 a7 ph cs ss h1 h2 hi hI hc hs
    by_cases hlt : L < 5 * q + 5
    · refine kW_se (d := 600) F (by decide) (khead2 (t := 1454) (y := (1454 + 1, kL2 i a5 a6 a7, [.int 1], ph, cs, ss)) (by rw [decide_eq_true ((kge hi (by omega) (by omega)).mpr hlt)]; rfl) (.step (ks0 (st' := [.int 1]) (kcL (e := (0, .iconst 1, 0)) rfl) ?_) .rf)) (show cs ≤ 601024 by omega) (show ss ≤ 7293034 by omega) (kW_end F (by omega) (by omega))
      have e : Int32.ofInt 1 = 1 := by decide +kernel
      show some [Value.int (Int32.ofInt 1)] = _
      rw [e]
    · have hge : 5 * q + 5 ≤ L := by omega
      have hq : q ≤ 511 := by omega
      have hA := kAg_of hi hge (by omega)
      have h5 : (i + Int32.ofInt 5).toInt = ((5 * (q + 1) : Nat) : Int) := by rw [ti_add (by rw [hi, ki5]; omega) (by rw [hi, ki5]; omega), hi, ki5]; omega
      have nx : ∀ (x5 x6 x7 : Option Value) (ph2 : pm_H) (c2 s2 : Nat), xRI (q + 1) ph2 → c2 ≤ cs + 1 → s2 ≤ ss + 6 → kW p l e s m below meth c b D dA ra false (lw_Z below #[Value.ref b] s) (23, kL2 (i + Int32.ofInt 5) x5 x6 x7, [], ph2, c2, s2) := fun x5 x6 x7 ph2 c2 s2 h g1 g2 => ih (q + 1) _ x5 x6 x7 ph2 c2 s2 (by omega) (by omega) h5 h (by omega) (by omega)
      have st : ∀ (t : Nat), (∃ ph2, xRI (q + 1) ph2 ∧ pm_Se (kK2 xs L) false (pm_Rd kK false 600) 0 (t, kL2 i a5 a6 a7, [], ph, cs, ss) (23, kL2 (i + Int32.ofInt 5) a5 a6 a7, [], ph2, cs, ss)) → kW p l e s m below meth c b D dA ra false (lw_Z below #[Value.ref b] s) (t, kL2 i a5 a6 a7, [], ph, cs, ss) := fun t ⟨ph2, h, g⟩ => kW_se F (by decide) g (show cs ≤ 601024 by omega) (show ss ≤ 7293034 by omega) (nx _ _ _ _ _ _ h (by omega) (by omega))
      obtain ⟨k, hk, hx⟩ := k64 (xs i.toNatClampNeg)
      have sw : kW p l e s m below meth c b D dA ra false (lw_Z below #[Value.ref b] s) (kTt k, kL2 i a5 a6 a7, [], ph, cs, ss) → kW p l e s m below meth c b D dA ra false (lw_Z below #[Value.ref b] s) (23, kL2 i a5 a6 a7, [], ph, cs, ss) := fun kk => kW_se (d := 600) F (by decide) (khead2 (t := 32) (y := (kTt k, kL2 i a5 a6 a7, [], ph, cs, ss)) (by rw [decide_eq_false (fun h => hlt ((kge hi (by omega) (by omega)).mp h))]; rfl) (knum2 _ (by have := hA 0 (by decide) (by decide); rwa [show i + Int32.ofInt 0 = i from by simp] at this) (.step (ks4 (pc' := kTt k) (st' := []) (kcL (e := (4, .tableswitch 1409 0 46 #[201, 226, 251, 264, 277, 290, 303, 316, 356, 396, 457, 482, 519, 556, 593, 630, 643, 656, 681, 706, 719, 732, 757, 770, 783, 820, 833, 858, 883, 920, 933, 958, 995, 1032, 1069, 1106, 1119, 1132, 1145, 1194, 1231, 1244, 1269, 1306, 1331, 1356, 1381], 201)) rfl) (by rw [hx]; exact kTt_ok k hk)) .rf))) (show cs ≤ 601024 by omega) (show ss ≤ 7293034 by omega) kk
      have Z := kTs_law C0
      have q5 : q ≤ 512 := by omega
      have c5 : cs ≤ 600524 := by omega
      have s5 : ss ≤ 7292534 := by omega
      have nx2 : ∀ (x5 x6 x7 : Option Value) (ph2 : pm_H), xRI (q + 1) ph2 → kW p l e s m below meth c b D dA ra false (lw_Z below #[Value.ref b] s) (23, kL2 (i + Int32.ofInt 5) x5 x6 x7, [], ph2, cs + 1, ss + 6) := fun x5 x6 x7 ph2 h => nx _ _ _ _ _ _ h (Nat.le_refl _) (Nat.le_refl _)
      have hz9 := st 1448 ⟨ph, xRI_le hI, kend⟩
      exact sw (kall64 (P := fun k => kW p l e s m below meth c b D dA ra false (lw_Z below #[Value.ref b] s) (kTt k, kL2 i a5 a6 a7, [], ph, cs, ss))
        (st 240 (kca_0 xrs_sign q5 hI hA))
        (st 265 (kca_1 xrs_end q5 hI hA))
        (st 290 (kca_2 xrs_valley q5 hI hA))
        (st 303 (kca_3 xrs_people q5 hI hA))
        (st 316 (kca_4 xrs_things q5 hI hA))
        (st 329 (kca_5 xrs_light q5 hI hA))
        (st 342 (kca_6 xrs_rule q5 hI hA))
        (kcase_person hl F Z c5 s5 (n := q) q5 hI hA nx2)
        (kcase_thing hl F Z c5 s5 (n := q) q5 hI hA nx2)
        (st 435 (kca_9 xrs_sheet q5 hI hA))
        (st 496 (kca_10 xrs_hours q5 hI hA))
        (st 521 (kca_11 xrs_faces q5 hI hA))
        (st 558 (kca_12 xrs_steps q5 hI hA))
        (st 595 (kca_13 xrs_trims q5 hI hA))
        (st 632 (kca_14 xrs_puts q5 hI hA))
        (st 669 (kca_15 xrs_day q5 hI hA))
        (st 682 (kca_16 xrs_undo q5 hI hA))
        (st 695 (kca_17 xrs_sees q5 hI hA))
        (st 720 (kca_18 xrs_seers q5 hI hA))
        (st 745 (kca_19 xrs_hidden q5 hI hA))
        (st 758 (kca_20 xrs_pairs q5 hI hA))
        (st 771 (kca_21 xrs_behind q5 hI hA))
        (st 796 (kca_22 xrs_widest q5 hI hA))
        (st 809 (kca_23 xrs_watch q5 hI hA))
        (st 822 (kca_24 xrs_learns q5 hI hA))
        (st 859 (kca_25 xrs_all q5 hI hA))
        (st 872 (kca_26 xrs_ahead q5 hI hA))
        (st 897 (kca_27 xrs_gossip q5 hI hA))
        (st 922 (kca_28 xrs_eighths q5 hI hA))
        (st 959 (kca_29 xrs_turned q5 hI hA))
        (st 972 (kca_30 xrs_best q5 hI hA))
        (st 997 (kca_31 xrs_bears q5 hI hA))
        (st 1034 (kca_32 xrs_back q5 hI hA))
        (st 1071 (kca_33 xrs_open q5 hI hA))
        (st 1108 (kca_34 xrs_heard q5 hI hA))
        (st 1145 (kca_35 xrs_forget q5 hI hA))
        (st 1158 (kca_36 xrs_lost q5 hI hA))
        (st 1171 (kca_37 xrs_asks q5 hI hA))
        (st 1184 (kca_38 xrs_storm q5 hI hA))
        (st 1233 (kca_39 xrs_cock q5 hI hA))
        (st 1270 (kca_40 xrs_law q5 hI hA))
        (st 1283 (kca_41 xrs_rests q5 hI hA))
        (st 1308 (kca_42 xrs_years q5 hI hA))
        (st 1345 (kca_43 xrs_keep q5 hI hA))
        (st 1370 (kca_44 xrs_againE q5 hI hA))
        (st 1395 (kca_45 xrs_count q5 hI hA))
        (kcase_row hl F Z c5 s5 (n := q) q5 hI hA nx2)
        hz9
        hz9
        hz9
        hz9
        hz9
        hz9
        hz9
        hz9
        hz9
        hz9
        hz9
        hz9
        hz9
        hz9
        hz9
        hz9
        hz9
        k hk)
end KWS
/-- YOUR PART: from the entry, for every script of at most 2560 ints -/
theorem whole_start {p : Program} {e : Env} {s : State} {m : MethodId} {below : List Frame} {meth : Method} {c : Code} (l : Launch) (hflags : l.flags = flags0) {b L : Nat} {xs : Nat → Int32} (hL : L ≤ 2560) (C0 : lw_At p s m meth c b L xs) : W p l e room_1 s m #[Value.ref b] below meth c s.heap [] 0 0 (lw_Z below #[Value.ref b] s) (entryFrame m ([Value.ref b] : List Value).toArray 8) := by
  have hl : l.stackTraces = false := by
    unfold Launch.stackTraces
    rw [hflags]
    decide +kernel
  refine kW_start C0 ?_
  intro D dA ra F
  have hc := kC0_le
  have hs := kS0_le
  refine kW_se (d := 12) F (by decide) (kctor (xs := xs) (N := L)) (show kC0 ≤ 601024 by omega) (show kS0 ≤ 7293034 by omega) ?_
  refine kW_all ?_
  rw [kL2_0]
  exact kloopN hl C0 F hL 513 0 _ _ _ _ _ _ _ (by omega) (by omega) (by decide) (xRI_0 kst00) (by omega) (by omega)
