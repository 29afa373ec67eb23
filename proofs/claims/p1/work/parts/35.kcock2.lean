/-! cock: the same answers, checked -/
theorem kcc0_2 : fo_eq (cx_f (List.replicate 61 0) 0 2 1) (gW (cw_n 2 1 0 (List.replicate 610 0)) 0) = true := by decide +kernel
theorem kcc_2 : kcc 2 60 1 (List.replicate 61 0) (cw_n 2 1 0 (List.replicate 610 0)) = true := by decide +kernel
theorem kcc0_3 : fo_eq (cx_f (List.replicate 61 0) 0 3 1) (gW (cw_n 3 1 0 (List.replicate 610 0)) 0) = true := by decide +kernel
theorem kcc_3 : kcc 3 60 1 (List.replicate 61 0) (cw_n 3 1 0 (List.replicate 610 0)) = true := by decide +kernel
theorem kcc0_4 : fo_eq (cx_f (List.replicate 61 0) 0 4 1) (gW (cw_n 4 1 0 (List.replicate 610 0)) 0) = true := by decide +kernel
theorem kcc_4 : kcc 4 60 1 (List.replicate 61 0) (cw_n 4 1 0 (List.replicate 610 0)) = true := by decide +kernel
theorem kcc0_5 : fo_eq (cx_f (List.replicate 61 0) 0 5 1) (gW (cw_n 5 1 0 (List.replicate 610 0)) 0) = true := by decide +kernel
theorem kcc_5 : kcc 5 60 1 (List.replicate 61 0) (cw_n 5 1 0 (List.replicate 610 0)) = true := by decide +kernel
theorem kcc0_6 : fo_eq (cx_f (List.replicate 61 0) 0 6 1) (gW (cw_n 6 1 0 (List.replicate 610 0)) 0) = true := by decide +kernel
theorem kcc_6 : kcc 6 60 1 (List.replicate 61 0) (cw_n 6 1 0 (List.replicate 610 0)) = true := by decide +kernel
theorem kcc0_7 : fo_eq (cx_f (List.replicate 61 0) 0 7 1) (gW (cw_n 7 1 0 (List.replicate 610 0)) 0) = true := by decide +kernel
theorem kcc_7 : kcc 7 60 1 (List.replicate 61 0) (cw_n 7 1 0 (List.replicate 610 0)) = true := by decide +kernel
theorem kcc0_8 : fo_eq (cx_f (List.replicate 61 0) 0 8 1) (gW (cw_n 8 1 0 (List.replicate 610 0)) 0) = true := by decide +kernel
theorem kcc_8 : kcc 8 60 1 (List.replicate 61 0) (cw_n 8 1 0 (List.replicate 610 0)) = true := by decide +kernel
theorem kcc0_9 : fo_eq (cx_f (List.replicate 61 0) 0 9 1) (gW (cw_n 9 1 0 (List.replicate 610 0)) 0) = true := by decide +kernel
theorem kcc_9 : kcc 9 60 1 (List.replicate 61 0) (cw_n 9 1 0 (List.replicate 610 0)) = true := by decide +kernel
theorem kcock_eq : ∀ k, 2 ≤ k → k ≤ 9 → ∀ n, n ≤ 60 → cx_f (cx_n k n 1 (List.replicate 61 0)) n k 1 = gW (cw_n k (n + 1) 0 (List.replicate 610 0)) (10 * n) := by
  have main : ∀ k, fo_eq (cx_f (List.replicate 61 0) 0 k 1) (gW (cw_n k 1 0 (List.replicate 610 0)) 0) = true → kcc k 60 1 (List.replicate 61 0) (cw_n k 1 0 (List.replicate 610 0)) = true → ∀ n, n ≤ 60 → cx_f (cx_n k n 1 (List.replicate 61 0)) n k 1 = gW (cw_n k (n + 1) 0 (List.replicate 610 0)) (10 * n) := by
    intro k h0 h1 n hn
    cases n with
    | zero => exact of_decide_eq_true ((fo_eq_eq _ _).symm.trans h0)
    | succ j =>
      have h := kcc_ok 60 1 _ _ h1 j (by omega)
      have e : 1 + j = j + 1 := by omega
      rw [e] at h
      exact h
  intro k hk2 hk9
  match k, hk2, hk9 with
  | 2, _, _ => exact main 2 kcc0_2 kcc_2
  | 3, _, _ => exact main 3 kcc0_3 kcc_3
  | 4, _, _ => exact main 4 kcc0_4 kcc_4
  | 5, _, _ => exact main 5 kcc0_5 kcc_5
  | 6, _, _ => exact main 6 kcc0_6 kcc_6
  | 7, _, _ => exact main 7 kcc0_7 kcc_7
  | 8, _, _ => exact main 8 kcc0_8 kcc_8
  | 9, _, _ => exact main 9 kcc0_9 kcc_9
  | 0, h, _ => exact absurd h (by decide)
  | 1, h, _ => exact absurd h (by decide)
  | K + 10, _, h => exact absurd h (by omega)
theorem kTi_cock {x y : Int32} (h0 : 0 ≤ x.toInt) (h1 : x.toInt ≤ 60) (h2 : 2 ≤ y.toInt) (h3 : y.toInt ≤ 9) : kSame 40 true 172 290 [.int x, .int y] kH0 := by
  obtain ⟨n, hn, rfl⟩ := sx_r (x := x) (n := 61) (by decide) h0 (by omega)
  obtain ⟨k, hk, rfl⟩ := sx_r (x := y) (n := 10) (by decide) (by omega) (by omega)
  have hk2 : 2 ≤ k := by
    rw [sfi (by omega)] at h2
    omega
  have g1 := kxw_run (n := n) (k := k) (by omega) (by omega) hk2
  have g2 := kcw_run (P := kXw (cx_n k n 1 (List.replicate 61 0))) kxw_fr (n := n) (k := k) (by omega) (by omega) hk2
  rw [← kcock_eq k hk2 (by omega) n (by omega)] at g2
  exact ⟨_, _, _, 0, 0, 0, 0, g1, g2, by decide, by decide, ⟨_, kxw_fr 170 _ (by decide) kat_170⟩, fun _ => ⟨_, rfl⟩, fun h => by cases h⟩
