/-! The whole start, printed by wip/pm/gen19.py -/
section KWS
variable {p : Program} {l : Launch} {e : Env} {s : State} {m : MethodId} {below : List Frame} {meth : Method} {c : Code} {b : Nat} {xs : Nat → Int32} {D : va_G} {dA : Nat → ClassId} {ra : Nat → Nat}
theorem ktb6 {w : Cond} (h : tables_1_6.any (fun v => decide (v = w)) = true) : w ∈ lw_tbl := List.mem_append_right _ (List.mem_append_right _ (List.mem_append_right _ (List.mem_append_right _ (List.mem_append_right _ (List.mem_append_right _ (List.mem_append_left _ (kvin_any h)))))))
theorem ktb5 {w : Cond} (h : tables_1_5.any (fun v => decide (v = w)) = true) : w ∈ lw_tbl := List.mem_append_right _ (List.mem_append_right _ (List.mem_append_right _ (List.mem_append_right _ (List.mem_append_right _ (List.mem_append_left _ (kvin_any h))))))
theorem kvxB_l : ∀ w ∈ kvxB, w ∈ lw_tbl := fun w hw => by
  have h := List.all_eq_true.mp (by decide +kernel : kvxB.all (fun w => tables_1_5.any (fun v => decide (v = w)) || tables_1_6.any (fun v => decide (v = w))) = true) w hw
  rcases Bool.or_eq_true_iff.mp h with h | h
  · exact ktb5 h
  · exact ktb6 h
theorem kC0_le : kC0 ≤ 500000 := by decide +kernel
theorem kS0_le : kS0 ≤ 6000000 := by decide +kernel
theorem kTs_law (C0 : lw_At p s m meth c b 5 xs) : kTs s.heap.size s s.heap := by
  obtain ⟨hx, hb, hr, hml, hown, hts, hX, hbl, hlocks, hgv⟩ := C0
  have hA : ∀ a : Nat, a < s.heap.size → ¬ (fun q => s.heap.size ≤ q) a := fun a h => Nat.not_le.mpr h
  have hf := flat_of_before _ hgv
  have hi : Cond.initialized Bundle.tN ∈ lw_tbl := (List.mem_filter.mp (kvin_ok (w := .initialized Bundle.tN) (by decide +kernel))).1
  refine ⟨vx_Zqof (args := #[Value.ref b]) (hts _ (ktb6 (by decide +kernel))) (hts _ hi) (hf _ (by decide +kernel)) hA, vx_Zqof (args := #[Value.ref b]) (hts _ (ktb6 (by decide +kernel))) (hts _ hi) (hf _ (by decide +kernel)) hA, fun w hw => va_Nw.of (A := #[Value.ref b]) (kvxB_t w hw) (hts _ (kvxB_l w hw))⟩

theorem kloop5 (hl : l.stackTraces = false) (C0 : lw_At p s m meth c b 5 xs) (F : kFx p s m meth c b 5 xs D dA ra) : kW p l e s m below meth c b D dA ra false (lw_Z below #[Value.ref b] s) (23, kLL (Int32.ofInt 0), [], kH0, kC0, kS0) := by
  have hc := kC0_le
  have hs := kS0_le
  have Z := kTs_law C0
  obtain ⟨k, hk, hx⟩ := k64 (xs 0)
  have sw : ∀ (t : Nat), pm_br (.tableswitch 1495 0 46 #[201, 226, 251, 264, 277, 290, 303, 316, 384, 452, 513, 538, 575, 612, 649, 686, 699, 712, 738, 763, 777, 790, 815, 828, 841, 878, 891, 916, 941, 978, 991, 1016, 1053, 1090, 1127, 1164, 1177, 1191, 1204, 1253, 1290, 1303, 1328, 1365, 1390, 1415, 1440]) 201 39 [.int (Int32.ofNat k)] = some (t, []) → kW p l e s m below meth c b D dA ra false (lw_Z below #[Value.ref b] s) (t, kLL (Int32.ofInt 0), [], kH0, kC0, kS0) → kW p l e s m below meth c b D dA ra false (lw_Z below #[Value.ref b] s) (23, kLL (Int32.ofInt 0), [], kH0, kC0, kS0) := fun t ht kk => kW_se (d := 40) F (by decide) (kswitch hx ht _ .rf) (show kC0 ≤ 600002 by omega) (show kS0 ≤ 7302232 by omega) kk
  have hk2 := hk
  match k, hk2, sw with
  | 0, _, sw => exact sw 240 (by decide +kernel) (kW_goal F (kcase_0 (kT_sign (xs 1)) (by omega) (by omega)))
  | 1, _, sw => exact sw 265 (by decide +kernel) (kW_goal F (kcase_1 (kT_end (xs 1)) (by omega) (by omega)))
  | 2, _, sw => exact sw 290 (by decide +kernel) (kW_goal F (kcase_2 kq_valley (by omega) (by omega)))
  | 3, _, sw => exact sw 303 (by decide +kernel) (kW_goal F (kcase_3 kq_people (by omega) (by omega)))
  | 4, _, sw => exact sw 316 (by decide +kernel) (kW_goal F (kcase_4 kq_things (by omega) (by omega)))
  | 5, _, sw => exact sw 329 (by decide +kernel) (kW_goal F (kcase_5 kq_light (by omega) (by omega)))
  | 6, _, sw => exact sw 342 (by decide +kernel) (kW_goal F (kcase_6 kq_rule (by omega) (by omega)))
  | 7, _, sw => exact sw 355 (by decide +kernel) (kcase_person hl F Z (by omega) (by omega))
  | 8, _, sw => exact sw 423 (by decide +kernel) (kcase_thing hl F Z (by omega) (by omega))
  | 9, _, sw => exact sw 491 (by decide +kernel) (kW_goal F (kcase_9 (kT_sheet (xs 1) (xs 2) (xs 3) (xs 4)) (by omega) (by omega)))
  | 10, _, sw => exact sw 552 (by decide +kernel) (kW_goal F (kcase_10 (kT_hours (xs 1)) (by omega) (by omega)))
  | 11, _, sw => exact sw 577 (by decide +kernel) (kW_goal F (kcase_11 (kT_faces (xs 1) (xs 2)) (by omega) (by omega)))
  | 12, _, sw => exact sw 614 (by decide +kernel) (kW_goal F (kcase_12 (kT_steps (xs 1) (xs 2)) (by omega) (by omega)))
  | 13, _, sw => exact sw 651 (by decide +kernel) (kW_goal F (kcase_13 (kT_trims (xs 1) (xs 2)) (by omega) (by omega)))
  | 14, _, sw => exact sw 688 (by decide +kernel) (kW_goal F (kcase_14 (kT_puts (xs 1) (xs 2)) (by omega) (by omega)))
  | 15, _, sw => exact sw 725 (by decide +kernel) (kW_goal F (kcase_15 kq_day (by omega) (by omega)))
  | 16, _, sw => exact sw 738 (by decide +kernel) (kW_goal F (kcase_16 kq_undo (by omega) (by omega)))
  | 17, _, sw => exact sw 751 (by decide +kernel) (kW_goal F (kcase_17 (kT_sees (xs 1)) (by omega) (by omega)))
  | 18, _, sw => exact sw 777 (by decide +kernel) (kW_goal F (kcase_18 (kT_seers (xs 1)) (by omega) (by omega)))
  | 19, _, sw => exact sw 802 (by decide +kernel) (kW_goal F (kcase_19 kq_hidden (by omega) (by omega)))
  | 20, _, sw => exact sw 816 (by decide +kernel) (kW_goal F (kcase_20 kq_pairs (by omega) (by omega)))
  | 21, _, sw => exact sw 829 (by decide +kernel) (kW_goal F (kcase_21 (kT_behind (xs 1)) (by omega) (by omega)))
  | 22, _, sw => exact sw 854 (by decide +kernel) (kW_goal F (kcase_22 kq_widest (by omega) (by omega)))
  | 23, _, sw => exact sw 867 (by decide +kernel) (kW_goal F (kcase_23 kq_watch (by omega) (by omega)))
  | 24, _, sw => exact sw 880 (by decide +kernel) (kW_goal F (kcase_24 (kT_learns (xs 1) (xs 2)) (by omega) (by omega)))
  | 25, _, sw => exact sw 917 (by decide +kernel) (kW_goal F (kcase_25 kq_all (by omega) (by omega)))
  | 26, _, sw => exact sw 930 (by decide +kernel) (kW_goal F (kcase_26 (kT_ahead (xs 1)) (by omega) (by omega)))
  | 27, _, sw => exact sw 955 (by decide +kernel) (kW_goal F (kcase_27 (kT_gossip (xs 1)) (by omega) (by omega)))
  | 28, _, sw => exact sw 980 (by decide +kernel) (kW_goal F (kcase_28 (kT_eighths (xs 1) (xs 2)) (by omega) (by omega)))
  | 29, _, sw => exact sw 1017 (by decide +kernel) (kW_goal F (kcase_29 kq_turned (by omega) (by omega)))
  | 30, _, sw => exact sw 1030 (by decide +kernel) (kW_goal F (kcase_30 (kT_best (xs 1)) (by omega) (by omega)))
  | 31, _, sw => exact sw 1055 (by decide +kernel) (kW_goal F (kcase_31 (kT_bears (xs 1) (xs 2)) (by omega) (by omega)))
  | 32, _, sw => exact sw 1092 (by decide +kernel) (kW_goal F (kcase_32 (kT_back (xs 1) (xs 2)) (by omega) (by omega)))
  | 33, _, sw => exact sw 1129 (by decide +kernel) (kW_goal F (kcase_33 (kT_opn (xs 1) (xs 2)) (by omega) (by omega)))
  | 34, _, sw => exact sw 1166 (by decide +kernel) (kW_goal F (kcase_34 (kT_heard (xs 1) (xs 2)) (by omega) (by omega)))
  | 35, _, sw => exact sw 1203 (by decide +kernel) (kW_goal F (kcase_35 kq_forget (by omega) (by omega)))
  | 36, _, sw => exact sw 1216 (by decide +kernel) (kW_goal F (kcase_36 kq_lost (by omega) (by omega)))
  | 37, _, sw => exact sw 1230 (by decide +kernel) (kW_goal F (kcase_37 kq_asks (by omega) (by omega)))
  | 38, _, sw => exact sw 1243 (by decide +kernel) (kW_goal F (kcase_38 (kT_storm (xs 1) (xs 2) (xs 3)) (by omega) (by omega)))
  | 39, _, sw => exact sw 1292 (by decide +kernel) (kW_goal F (kcase_39 (kT_cock (xs 1) (xs 2)) (by omega) (by omega)))
  | 40, _, sw => exact sw 1329 (by decide +kernel) (kW_goal F (kcase_40 kq_law (by omega) (by omega)))
  | 41, _, sw => exact sw 1342 (by decide +kernel) (kW_goal F (kcase_41 (kT_rests (xs 1)) (by omega) (by omega)))
  | 42, _, sw => exact sw 1367 (by decide +kernel) (kW_goal F (kcase_42 (kT_years (xs 1) (xs 2)) (by omega) (by omega)))
  | 43, _, sw => exact sw 1404 (by decide +kernel) (kW_goal F (kcase_43 (kT_keep (xs 1)) (by omega) (by omega)))
  | 44, _, sw => exact sw 1429 (by decide +kernel) (kW_goal F (kcase_44 (kT_again (xs 1)) (by omega) (by omega)))
  | 45, _, sw => exact sw 1454 (by decide +kernel) (kW_goal F (kcase_45 (kT_count (xs 1)) (by omega) (by omega)))
  | 46, _, sw => exact sw 1479 (by decide +kernel) (kcase_row hl F Z (by omega) (by omega))
  | 47, _, sw => exact sw 1534 (by decide +kernel) (kW_goal F (.tail (by omega) (by omega)))
  | 48, _, sw => exact sw 1534 (by decide +kernel) (kW_goal F (.tail (by omega) (by omega)))
  | 49, _, sw => exact sw 1534 (by decide +kernel) (kW_goal F (.tail (by omega) (by omega)))
  | 50, _, sw => exact sw 1534 (by decide +kernel) (kW_goal F (.tail (by omega) (by omega)))
  | 51, _, sw => exact sw 1534 (by decide +kernel) (kW_goal F (.tail (by omega) (by omega)))
  | 52, _, sw => exact sw 1534 (by decide +kernel) (kW_goal F (.tail (by omega) (by omega)))
  | 53, _, sw => exact sw 1534 (by decide +kernel) (kW_goal F (.tail (by omega) (by omega)))
  | 54, _, sw => exact sw 1534 (by decide +kernel) (kW_goal F (.tail (by omega) (by omega)))
  | 55, _, sw => exact sw 1534 (by decide +kernel) (kW_goal F (.tail (by omega) (by omega)))
  | 56, _, sw => exact sw 1534 (by decide +kernel) (kW_goal F (.tail (by omega) (by omega)))
  | 57, _, sw => exact sw 1534 (by decide +kernel) (kW_goal F (.tail (by omega) (by omega)))
  | 58, _, sw => exact sw 1534 (by decide +kernel) (kW_goal F (.tail (by omega) (by omega)))
  | 59, _, sw => exact sw 1534 (by decide +kernel) (kW_goal F (.tail (by omega) (by omega)))
  | 60, _, sw => exact sw 1534 (by decide +kernel) (kW_goal F (.tail (by omega) (by omega)))
  | 61, _, sw => exact sw 1534 (by decide +kernel) (kW_goal F (.tail (by omega) (by omega)))
  | 62, _, sw => exact sw 1534 (by decide +kernel) (kW_goal F (.tail (by omega) (by omega)))
  | 63, _, sw => exact sw 1534 (by decide +kernel) (kW_goal F (.tail (by omega) (by omega)))
  | q + 64, h9, _ => exact absurd h9 (by omega)
end KWS
/-- YOUR PART: from the entry, for every script of at most 5 ints -/
theorem whole_start {p : Program} {e : Env} {s : State} {m : MethodId} {below : List Frame} {meth : Method} {c : Code} (l : Launch) (hflags : l.flags = flags0) {b L : Nat} {xs : Nat → Int32} (hL : L ≤ 5) (C0 : lw_At p s m meth c b L xs) : W p l e room_1 s m #[Value.ref b] below meth c s.heap [] 0 0 (lw_Z below #[Value.ref b] s) (entryFrame m ([Value.ref b] : List Value).toArray 8) := by
  have hl : l.stackTraces = false := by
    unfold Launch.stackTraces
    rw [hflags]
    decide +kernel
  refine kW_start C0 ?_
  intro D dA ra F
  refine kW_se (d := 12) F (by decide) (kctor (xs := xs) (N := L)) (show kC0 ≤ 600002 by have := kC0_le; omega) (show kS0 ≤ 7302232 by have := kS0_le; omega) ?_
  refine kW_all ?_
  rcases Nat.lt_or_ge L 5 with h | h
  · exact kW_goal F (kshort h (by have := kC0_le; omega) (by have := kS0_le; omega))
  · have e5 : L = 5 := by omega
    subst e5
    exact kloop5 hl C0 F
