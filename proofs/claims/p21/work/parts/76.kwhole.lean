/-! The whole start, printed by wip/x/claw.py -/
theorem k64 (v : Int32) : ∃ k, k < 64 ∧ v &&& (Int8.ofInt 63).toInt32 = Int32.ofNat k := by
  have e : (Int8.ofInt 63).toInt32 = 63 := by decide +kernel
  rw [e]
  refine ⟨(v &&& 63).toBitVec.toNat, ?_, ?_⟩
  · have h : (v &&& 63).toBitVec.toNat = v.toBitVec.toNat &&& 63 := by simp
    rw [h]
    exact Nat.lt_of_le_of_lt Nat.and_le_right (by decide)
  · apply Int32.toBitVec_inj.mp
    apply BitVec.eq_of_toNat_eq
    simp
section KWS
variable {p : Program} {l : Launch} {e : Env} {s : State} {m : MethodId} {below : List Frame} {meth : Method} {c : Code} {b L : Nat} {xs : Nat → Int32} {D : va_G} {dA : Nat → ClassId} {ra : Nat → Nat}
theorem ktb6 {w : Cond} (h : tables_1_6.any (fun v => decide (v = w)) = true) : w ∈ lw_tbl := List.mem_append_right _ (List.mem_append_right _ (List.mem_append_right _ (List.mem_append_right _ (List.mem_append_right _ (List.mem_append_right _ (List.mem_append_left _ (kvin_any h)))))))
theorem ktb5 {w : Cond} (h : tables_1_5.any (fun v => decide (v = w)) = true) : w ∈ lw_tbl := List.mem_append_right _ (List.mem_append_right _ (List.mem_append_right _ (List.mem_append_right _ (List.mem_append_right _ (List.mem_append_left _ (kvin_any h))))))
theorem kvxB_l : ∀ w ∈ kvxB, w ∈ lw_tbl := fun w hw => by
  have h := List.all_eq_true.mp (by decide +kernel : kvxB.all (fun w => tables_1_5.any (fun v => decide (v = w)) || tables_1_6.any (fun v => decide (v = w))) = true) w hw
  rcases Bool.or_eq_true_iff.mp h with h | h
  · exact ktb5 h
  · exact ktb6 h
theorem kC0_le : kC0 ≤ 10000 := by decide +kernel
theorem kS0_le : kS0 ≤ 100000 := by decide +kernel
theorem kTs_law (C0 : lw_At p s m meth c b L xs) : kTs s.heap.size s s.heap := by
  obtain ⟨hx, hb, hr, hml, hown, hts, hX, hbl, hlocks, hgv⟩ := C0
  have hA : ∀ a : Nat, a < s.heap.size → ¬ (fun q => s.heap.size ≤ q) a := fun a h => Nat.not_le.mpr h
  have hf := flat_of_before _ hgv
  have hi : Cond.initialized Bundle.tN ∈ lw_tbl := (List.mem_filter.mp (kvin_ok (w := .initialized Bundle.tN) (by decide +kernel))).1
  refine ⟨vx_Zqof (args := #[Value.ref b]) (hts _ (ktb6 (by decide +kernel))) (hts _ hi) (hf _ (by decide +kernel)) hA, vx_Zqof (args := #[Value.ref b]) (hts _ (ktb6 (by decide +kernel))) (hts _ hi) (hf _ (by decide +kernel)) hA, fun w hw => va_Nw.of (A := #[Value.ref b]) (kvxB_t w hw) (hts _ (kvxB_l w hw))⟩
theorem ki5 : (Int32.ofInt 5).toInt = 5 := by decide
theorem kofN {N : Nat} (h : N ≤ 100000) : (Int32.ofNat N).toInt = (N : Int) := Int32.toInt_ofNat_of_lt (by omega)
theorem kAg_of {i : Int32} {q N : Nat} (hi : i.toInt = ((5 * q : Nat) : Int)) (h : 5 * q + 5 ≤ N) (hN : N ≤ 100000) : kAg i N := fun z h0 h4 => by
  have hz : (Int32.ofInt z).toInt = z := Int32.toInt_ofInt_of_le (by omega) (by omega)
  have e : (i + Int32.ofInt z).toInt = ((5 * q : Nat) : Int) + z := by rw [ti_add (by omega) (by omega), hi, hz]
  have z0 : (0 : Int32).toInt = 0 := by decide
  have h1 : decide (i + Int32.ofInt z < 0) = false := decide_eq_false (fun h => by rw [Int32.lt_iff_toInt_lt, e, z0] at h; omega)
  unfold pm_inb
  rw [h1, cond_false]
  exact Nat.ble_eq_true_of_le (show (i + Int32.ofInt z).toNatClampNeg + 1 ≤ N by
    rw [show (i + Int32.ofInt z).toNatClampNeg = (i + Int32.ofInt z).toInt.toNat from rfl, e]
    omega)
theorem kz198 : (match pm_at kH0 198 with
  | some (.inl (1, .inl l)) => l.all (fun x => decide (x = 0))
  | _ => false) = true := by decide +kernel
theorem kzz : (0 : Int32).toInt = 0 := by decide
theorem xINV0 : xINV 0 kH0 := by
  refine ⟨3, 0, 0, 0, 0, ⟨rfl, rfl, rfl, rfl, rfl⟩, ⟨by decide, by decide, by decide, by decide⟩, Or.inr fun k x hk hx => ?_, fun u hu => ?_, fun i hi y hy h0 => ?_⟩
  · rw [kzz] at hk
    omega
  · rw [kzz] at hu
    omega
  · obtain ⟨l, hl, hy⟩ := hy
    have h := kz198
    rw [hl] at h
    have h2 : y = 0 := of_decide_eq_true (List.all_eq_true.mp h y (List.mem_of_getElem? hy))
    subst h2
    exact absurd kzz h0
theorem kst00 : xLI 0 kH0 := ⟨xst0 (by unfold xLm; omega), ⟨xV0, 0, rfl, rfl, fun i hi => absurd hi (by rw [kzz]; omega)⟩, xINV0⟩
theorem kge {i : Int32} {q N : Nat} (hi : i.toInt = ((5 * q : Nat) : Int)) (hq : q ≤ 100000) (hN : N ≤ 100000) : (Int32.ofNat N - Int32.ofInt 5 < i ↔ N < 5 * q + 5) := by
  have e : (Int32.ofNat N - Int32.ofInt 5).toInt = (N : Int) - 5 := by rw [ti_sub (by rw [kofN hN, ki5]; omega) (by rw [kofN hN, ki5]; omega), kofN hN, ki5]
  rw [Int32.lt_iff_toInt_lt, e, hi]
  omega
/-- the loop, with r calls at most to come -/
theorem kloopN (hl : l.stackTraces = false) (C0 : lw_At p s m meth c b L xs) (F : kFx p s m meth c b L xs D dA ra) (hL : L ≤ 2560) : ∀ (r q : Nat) (i : Int32) (a5 a6 a7 : Option Value) (ph : pm_H) (cs ss : Nat), 512 < r + q → q ≤ 512 → i.toInt = ((5 * q : Nat) : Int) → xRI q ph → cs ≤ 10000 + q → ss ≤ 100000 + 6 * q → kW p l e s m below meth c b D dA ra false (lw_Z below #[Value.ref b] s) (23, kL2 i a5 a6 a7, [], ph, cs, ss) := by
  intro r
  induction r with
  | zero => intro q i a5 a6 a7 ph cs ss h1 h2; omega
  | succ r ih =>
    intro q i a5 a6 a7 ph cs ss h1 h2 hi hI hc hs
    by_cases hlt : L < 5 * q + 5
    · refine kW_se (d := 600) F (by decide) (khead2 (t := 1455) (y := (1455 + 1, kL2 i a5 a6 a7, [.int 1], ph, cs, ss)) (by rw [decide_eq_true ((kge hi (by omega) (by omega)).mpr hlt)]; rfl) (.step (ks0 (st' := [.int 1]) (kcL (e := (0, .iconst 1, 0)) rfl) ?_) .rf)) (show cs ≤ 601024 by omega) (show ss ≤ 7293034 by omega) (kW_end F (by omega) (by omega))
      have e : Int32.ofInt 1 = 1 := by decide +kernel
      show some [Value.int (Int32.ofInt 1)] = _
      rw [e]
    · have hge : 5 * q + 5 ≤ L := by omega
      have hq : q ≤ 511 := by omega
      have hA := kAg_of hi hge (by omega)
      have h5 : (i + Int32.ofInt 5).toInt = ((5 * (q + 1) : Nat) : Int) := by rw [ti_add (by rw [hi, ki5]; omega) (by rw [hi, ki5]; omega), hi, ki5]; omega
      have nx : ∀ (x5 x6 x7 : Option Value) (ph2 : pm_H) (c2 s2 : Nat), xRI (q + 1) ph2 → c2 ≤ cs + 1 → s2 ≤ ss + 6 → kW p l e s m below meth c b D dA ra false (lw_Z below #[Value.ref b] s) (23, kL2 (i + Int32.ofInt 5) x5 x6 x7, [], ph2, c2, s2) := fun x5 x6 x7 ph2 c2 s2 h g1 g2 => ih (q + 1) _ x5 x6 x7 ph2 c2 s2 (by omega) (by omega) h5 h (by omega) (by omega)
      have st : ∀ (t : Nat), (∃ ph2, xRI (q + 1) ph2 ∧ pm_Se (kK2 xs L) false (pm_Rd kK false 600) 0 (t, kL2 i a5 a6 a7, [], ph, cs, ss) (23, kL2 (i + Int32.ofInt 5) a5 a6 a7, [], ph2, cs, ss)) → kW p l e s m below meth c b D dA ra false (lw_Z below #[Value.ref b] s) (t, kL2 i a5 a6 a7, [], ph, cs, ss) := fun t ⟨ph2, h, g⟩ => kW_se F (by decide) g (show cs ≤ 601024 by omega) (show ss ≤ 7293034 by omega) (nx _ _ _ _ _ _ h (by omega) (by omega))
      obtain ⟨k, hk, hx⟩ := k64 (xs i.toNatClampNeg)
      have sw : ∀ (t : Nat), pm_br (.tableswitch 1410 0 46 #[201, 226, 251, 264, 277, 290, 303, 316, 356, 396, 457, 482, 519, 556, 593, 630, 643, 656, 681, 706, 720, 733, 758, 771, 784, 821, 834, 859, 884, 921, 934, 959, 996, 1033, 1070, 1107, 1120, 1133, 1146, 1195, 1232, 1245, 1270, 1307, 1332, 1357, 1382]) 201 39 [.int (Int32.ofNat k)] = some (t, []) → kW p l e s m below meth c b D dA ra false (lw_Z below #[Value.ref b] s) (t, kL2 i a5 a6 a7, [], ph, cs, ss) → kW p l e s m below meth c b D dA ra false (lw_Z below #[Value.ref b] s) (23, kL2 i a5 a6 a7, [], ph, cs, ss) := fun t ht kk => kW_se (d := 600) F (by decide) (khead2 (t := 32) (y := (t, kL2 i a5 a6 a7, [], ph, cs, ss)) (by rw [decide_eq_false (fun h => hlt ((kge hi (by omega) (by omega)).mp h))]; rfl) (knum2 _ (by have := hA 0 (by decide) (by decide); rwa [show i + Int32.ofInt 0 = i from by simp] at this) (.step (ks4 (pc' := t) (st' := []) (kcL (e := (4, .tableswitch 1410 0 46 #[201, 226, 251, 264, 277, 290, 303, 316, 356, 396, 457, 482, 519, 556, 593, 630, 643, 656, 681, 706, 720, 733, 758, 771, 784, 821, 834, 859, 884, 921, 934, 959, 996, 1033, 1070, 1107, 1120, 1133, 1146, 1195, 1232, 1245, 1270, 1307, 1332, 1357, 1382], 201)) rfl) (by rw [hx]; exact ht)) .rf))) (show cs ≤ 601024 by omega) (show ss ≤ 7293034 by omega) kk
      have Z := kTs_law C0
      have hk2 := hk
      match k, hk2, sw with
      | 0, _, sw => exact sw 240 (by decide +kernel) (st 240 (kca_0 xrs_sign (by omega) hI hA))
      | 1, _, sw => exact sw 265 (by decide +kernel) (st 265 (kca_1 xrs_end (by omega) hI hA))
      | 2, _, sw => exact sw 290 (by decide +kernel) (st 290 (kca_2 xrs_valley (by omega) hI hA))
      | 3, _, sw => exact sw 303 (by decide +kernel) (st 303 (kca_3 xrs_people (by omega) hI hA))
      | 4, _, sw => exact sw 316 (by decide +kernel) (st 316 (kca_4 xrs_things (by omega) hI hA))
      | 5, _, sw => exact sw 329 (by decide +kernel) (st 329 (kca_5 xrs_light (by omega) hI hA))
      | 6, _, sw => exact sw 342 (by decide +kernel) (st 342 (kca_6 xrs_rule (by omega) hI hA))
      | 7, _, sw => exact sw 355 (by decide +kernel) (kcase_person hl F Z (by omega) (by omega) (n := q) (by omega) hI hA (fun x5 x6 x7 ph2 h => nx _ _ _ _ _ _ h (by omega) (by omega)))
      | 8, _, sw => exact sw 395 (by decide +kernel) (kcase_thing hl F Z (by omega) (by omega) (n := q) (by omega) hI hA (fun x5 x6 x7 ph2 h => nx _ _ _ _ _ _ h (by omega) (by omega)))
      | 9, _, sw => exact sw 435 (by decide +kernel) (st 435 (kca_9 xrs_sheet (by omega) hI hA))
      | 10, _, sw => exact sw 496 (by decide +kernel) (st 496 (kca_10 xrs_hours (by omega) hI hA))
      | 11, _, sw => exact sw 521 (by decide +kernel) (st 521 (kca_11 xrs_faces (by omega) hI hA))
      | 12, _, sw => exact sw 558 (by decide +kernel) (st 558 (kca_12 xrs_steps (by omega) hI hA))
      | 13, _, sw => exact sw 595 (by decide +kernel) (st 595 (kca_13 xrs_trims (by omega) hI hA))
      | 14, _, sw => exact sw 632 (by decide +kernel) (st 632 (kca_14 xrs_puts (by omega) hI hA))
      | 15, _, sw => exact sw 669 (by decide +kernel) (st 669 (kca_15 xrs_day (by omega) hI hA))
      | 16, _, sw => exact sw 682 (by decide +kernel) (st 682 (kca_16 xrs_undo (by omega) hI hA))
      | 17, _, sw => exact sw 695 (by decide +kernel) (st 695 (kca_17 xrs_sees (by omega) hI hA))
      | 18, _, sw => exact sw 720 (by decide +kernel) (st 720 (kca_18 xrs_seers (by omega) hI hA))
      | 19, _, sw => exact sw 745 (by decide +kernel) (st 745 (kca_19 xrs_hiddenE (by omega) hI hA))
      | 20, _, sw => exact sw 759 (by decide +kernel) (st 759 (kca_20 xrs_pairs (by omega) hI hA))
      | 21, _, sw => exact sw 772 (by decide +kernel) (st 772 (kca_21 xrs_behind (by omega) hI hA))
      | 22, _, sw => exact sw 797 (by decide +kernel) (st 797 (kca_22 xrs_widest (by omega) hI hA))
      | 23, _, sw => exact sw 810 (by decide +kernel) (st 810 (kca_23 xrs_watch (by omega) hI hA))
      | 24, _, sw => exact sw 823 (by decide +kernel) (st 823 (kca_24 xrs_learns (by omega) hI hA))
      | 25, _, sw => exact sw 860 (by decide +kernel) (st 860 (kca_25 xrs_all (by omega) hI hA))
      | 26, _, sw => exact sw 873 (by decide +kernel) (st 873 (kca_26 xrs_ahead (by omega) hI hA))
      | 27, _, sw => exact sw 898 (by decide +kernel) (st 898 (kca_27 xrs_gossip (by omega) hI hA))
      | 28, _, sw => exact sw 923 (by decide +kernel) (st 923 (kca_28 xrs_eighths (by omega) hI hA))
      | 29, _, sw => exact sw 960 (by decide +kernel) (st 960 (kca_29 xrs_turned (by omega) hI hA))
      | 30, _, sw => exact sw 973 (by decide +kernel) (st 973 (kca_30 xrs_best (by omega) hI hA))
      | 31, _, sw => exact sw 998 (by decide +kernel) (st 998 (kca_31 xrs_bears (by omega) hI hA))
      | 32, _, sw => exact sw 1035 (by decide +kernel) (st 1035 (kca_32 xrs_back (by omega) hI hA))
      | 33, _, sw => exact sw 1072 (by decide +kernel) (st 1072 (kca_33 xrs_open (by omega) hI hA))
      | 34, _, sw => exact sw 1109 (by decide +kernel) (st 1109 (kca_34 xrs_heard (by omega) hI hA))
      | 35, _, sw => exact sw 1146 (by decide +kernel) (st 1146 (kca_35 xrs_forget (by omega) hI hA))
      | 36, _, sw => exact sw 1159 (by decide +kernel) (st 1159 (kca_36 xrs_lost (by omega) hI hA))
      | 37, _, sw => exact sw 1172 (by decide +kernel) (st 1172 (kca_37 xrs_asks (by omega) hI hA))
      | 38, _, sw => exact sw 1185 (by decide +kernel) (st 1185 (kca_38 xrs_storm (by omega) hI hA))
      | 39, _, sw => exact sw 1234 (by decide +kernel) (st 1234 (kca_39 xrs_cock (by omega) hI hA))
      | 40, _, sw => exact sw 1271 (by decide +kernel) (st 1271 (kca_40 xrs_law (by omega) hI hA))
      | 41, _, sw => exact sw 1284 (by decide +kernel) (st 1284 (kca_41 xrs_rests (by omega) hI hA))
      | 42, _, sw => exact sw 1309 (by decide +kernel) (st 1309 (kca_42 xrs_years (by omega) hI hA))
      | 43, _, sw => exact sw 1346 (by decide +kernel) (st 1346 (kca_43 xrs_keep (by omega) hI hA))
      | 44, _, sw => exact sw 1371 (by decide +kernel) (st 1371 (kca_44 xrs_again (by omega) hI hA))
      | 45, _, sw => exact sw 1396 (by decide +kernel) (st 1396 (kca_45 xrs_count (by omega) hI hA))
      | 46, _, sw => exact sw 1421 (by decide +kernel) (kcase_row hl F Z (by omega) (by omega) (n := q) (by omega) hI hA (fun x5 x6 x7 ph2 h => nx _ _ _ _ _ _ h (by omega) (by omega)))
      | 47, _, sw => exact sw 1449 (by decide +kernel) (st 1449 ⟨ph, xRI_le hI, kend⟩)
      | 48, _, sw => exact sw 1449 (by decide +kernel) (st 1449 ⟨ph, xRI_le hI, kend⟩)
      | 49, _, sw => exact sw 1449 (by decide +kernel) (st 1449 ⟨ph, xRI_le hI, kend⟩)
      | 50, _, sw => exact sw 1449 (by decide +kernel) (st 1449 ⟨ph, xRI_le hI, kend⟩)
      | 51, _, sw => exact sw 1449 (by decide +kernel) (st 1449 ⟨ph, xRI_le hI, kend⟩)
      | 52, _, sw => exact sw 1449 (by decide +kernel) (st 1449 ⟨ph, xRI_le hI, kend⟩)
      | 53, _, sw => exact sw 1449 (by decide +kernel) (st 1449 ⟨ph, xRI_le hI, kend⟩)
      | 54, _, sw => exact sw 1449 (by decide +kernel) (st 1449 ⟨ph, xRI_le hI, kend⟩)
      | 55, _, sw => exact sw 1449 (by decide +kernel) (st 1449 ⟨ph, xRI_le hI, kend⟩)
      | 56, _, sw => exact sw 1449 (by decide +kernel) (st 1449 ⟨ph, xRI_le hI, kend⟩)
      | 57, _, sw => exact sw 1449 (by decide +kernel) (st 1449 ⟨ph, xRI_le hI, kend⟩)
      | 58, _, sw => exact sw 1449 (by decide +kernel) (st 1449 ⟨ph, xRI_le hI, kend⟩)
      | 59, _, sw => exact sw 1449 (by decide +kernel) (st 1449 ⟨ph, xRI_le hI, kend⟩)
      | 60, _, sw => exact sw 1449 (by decide +kernel) (st 1449 ⟨ph, xRI_le hI, kend⟩)
      | 61, _, sw => exact sw 1449 (by decide +kernel) (st 1449 ⟨ph, xRI_le hI, kend⟩)
      | 62, _, sw => exact sw 1449 (by decide +kernel) (st 1449 ⟨ph, xRI_le hI, kend⟩)
      | 63, _, sw => exact sw 1449 (by decide +kernel) (st 1449 ⟨ph, xRI_le hI, kend⟩)
      | q9 + 64, h9, _ => exact absurd h9 (by omega)
end KWS
/-- YOUR PART: from the entry, for every script of at most 2560 ints -/
theorem whole_start {p : Program} {e : Env} {s : State} {m : MethodId} {below : List Frame} {meth : Method} {c : Code} (l : Launch) (hflags : l.flags = flags0) {b L : Nat} {xs : Nat → Int32} (hL : L ≤ 2560) (C0 : lw_At p s m meth c b L xs) : W p l e room_1 s m #[Value.ref b] below meth c s.heap [] 0 0 (lw_Z below #[Value.ref b] s) (entryFrame m ([Value.ref b] : List Value).toArray 8) := by
  have hl : l.stackTraces = false := by
    unfold Launch.stackTraces
    rw [hflags]
    decide +kernel
  refine kW_start C0 ?_
  intro D dA ra F
  have hc := kC0_le
  have hs := kS0_le
  refine kW_se (d := 12) F (by decide) (kctor (xs := xs) (N := L)) (show kC0 ≤ 601024 by omega) (show kS0 ≤ 7293034 by omega) ?_
  refine kW_all ?_
  rw [kL2_0]
  exact kloopN hl C0 F hL 513 0 _ _ _ _ _ _ _ (by omega) (by omega) (by decide) (xRI_0 kst00) (by omega) (by omega)
