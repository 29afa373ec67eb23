/-! turned: what it answers, class and reference, by W; printed by wip/z/z4d_turned.py -/
def zMn (f : Nat → Nat) (N : Nat) : Nat → Nat
  | 0 => N
  | k + 1 => min (zMn f N k) (f k)
/-- the fewest to be turned: d people are left, those ahead see s -/
def zTq (sh : Nat → Nat → Nat) (fc : Nat → Nat) (M N P : Nat) : Nat → Nat → Nat
  | 0, s => if s = M then 0 else N
  | d + 1, s => zMn (fun k => (if k = fc (P - (d + 1)) then 0 else 1) + zTq sh fc M N P d (s ||| sh (P - (d + 1)) k)) N 8
def zTs (E : zEn) (G : Nat) (v : Nat → Nat) (P p f : Nat) : Nat := zNs (fun t => zsee E.2.1 E.2.2.1 (v p) (v (32 + t)) f (v (16 + p)) (zRe E P v p (v (16 + p)))) G
theorem zMn_le {f : Nat → Nat} {N k : Nat} : zMn f N k ≤ N := by
  induction k with
  | zero => exact Nat.le_refl _
  | succ k ih => exact Nat.le_trans (Nat.min_le_left _ _) ih
theorem zTq_le {sh : Nat → Nat → Nat} {fc : Nat → Nat} {M N P d s : Nat} : zTq sh fc M N P d s ≤ N := by
  cases d with
  | zero =>
    show (if s = M then 0 else N) ≤ N
    split
    · exact Nat.zero_le _
    · exact Nat.le_refl _
  | succ d => exact zMn_le
theorem zMn_2 {f g : Nat → Nat} {N1 N2 B : Nat} (h1 : B < N1) (h2 : B < N2) (h : ∀ k, k < 8 → (f k = g k ∧ f k ≤ B) ∨ (N1 ≤ f k ∧ N2 ≤ g k)) : ∀ n, n ≤ 8 → (zMn f N1 n = zMn g N2 n ∧ zMn f N1 n ≤ B) ∨ (zMn f N1 n = N1 ∧ zMn g N2 n = N2) := by
  intro n
  induction n with
  | zero => intro _; exact Or.inr ⟨rfl, rfl⟩
  | succ n ih =>
    intro hn
    have a := ih (by omega)
    have b := h n (by omega)
    show (min (zMn f N1 n) (f n) = min (zMn g N2 n) (g n) ∧ min (zMn f N1 n) (f n) ≤ B) ∨ (min (zMn f N1 n) (f n) = N1 ∧ min (zMn g N2 n) (g n) = N2)
    omega
theorem zTq_2 {sh : Nat → Nat → Nat} {fc : Nat → Nat} {M N1 N2 P : Nat} (h1 : 8 < N1) (h2 : 8 < N2) : ∀ d, d ≤ 8 → ∀ s, (zTq sh fc M N1 P d s = zTq sh fc M N2 P d s ∧ zTq sh fc M N1 P d s ≤ d) ∨ (zTq sh fc M N1 P d s = N1 ∧ zTq sh fc M N2 P d s = N2) := by
  intro d
  induction d with
  | zero =>
    intro _ s
    show ((if s = M then 0 else N1) = (if s = M then 0 else N2) ∧ (if s = M then 0 else N1) ≤ 0) ∨ ((if s = M then 0 else N1) = N1 ∧ (if s = M then 0 else N2) = N2)
    by_cases e : s = M
    · rw [if_pos e, if_pos e]; exact Or.inl ⟨rfl, Nat.le_refl _⟩
    · rw [if_neg e, if_neg e]; exact Or.inr ⟨rfl, rfl⟩
  | succ d ih =>
    intro hd s
    refine zMn_2 (B := d + 1) (by omega) (by omega) (fun k hk => ?_) 8 (Nat.le_refl 8)
    have a := ih (by omega) (s ||| sh (P - (d + 1)) k)
    by_cases e : k = fc (P - (d + 1))
    · rw [if_pos e]; omega
    · rw [if_neg e]; omega
def zXtur (E : zEn) (P G : Nat) (v : Nat → Nat) : Int32 := if zTq (zTs E G v P) (fun p => v (8 + p)) (2 ^ G - 1) 100 P P 0 < 100 then zn (zTq (zTs E G v P) (fun p => v (8 + p)) (2 ^ G - 1) 100 P P 0) else (Int8.ofInt (-2)).toInt32
theorem zTs_lt {E : zEn} {G P p f : Nat} {v : Nat → Nat} : zTs E G v P p f < 2 ^ G := zNs_2
theorem zp8 {G a : Nat} (hG : G ≤ 8) (h : a < 2 ^ G) : a < 256 := Nat.lt_of_lt_of_le h (Nat.pow_le_pow_right (n := 2) (by decide) hG)
theorem zful : ∀ G, G < 9 → ((Int32.ofInt 1 <<< (zn G &&& 31)) - Int32.ofInt 1) &&& (Int16.ofInt 255).toInt32 = zn (2 ^ G - 1) := by decide +kernel
theorem zful2 : ∀ G, G < 9 → ((Int32.ofInt 1 <<< (zn G &&& 31)) - Int32.ofInt 1) = zn (2 ^ G - 1) := by decide +kernel
theorem zand255 : ∀ a, a < 256 → zn a &&& (Int16.ofInt 255).toInt32 = zn a := by decide +kernel
theorem zdecT {m : Nat} (h : m < 1000) : ((zn m) + Int32.ofInt (-1)).toInt = ((m : Nat) : Int) + (-1 : Int) := by
  have t := znt (k := m) (by omega)
  have c : (Int32.ofInt (-1)).toInt = -1 := by decide
  have := ti_add (x := zn m) (y := Int32.ofInt (-1)) (by omega) (by omega)
  omega
theorem z100 : (Int8.ofInt 100).toInt32 = zn 100 := by decide
theorem zpow1 {G : Nat} : 2 ^ G - 1 + 1 = 2 ^ G := Nat.sub_add_cancel (Nat.two_pow_pos G)
theorem zc_withF {ph : pm_H} {P G : Nat} {v : Nat → Nat} (hS : zSh ph) (hd : zSd ph 25 P G v) {p s k a b : Nat} (hp : p < P) (hs : s < 256) (hk : k < 8) (ha : a < 256) (hb : b ≤ 1000000) (h8 : v (8 + p) < 8) (h1 : zc ph 165 (p * 8 + k) = some (.int (zn a))) (h2 : zc ph 166 ((p + 1) * 256 + (s ||| a)) = some (.int (zn b))) : zM 119 [.ref 164, .ref 25, .int (zn p), .int (zn s), .int (zn k)] ph (fun v0 q => ph = q ∧ v0 = some (.int (zn ((if k = v (8 + p) then 0 else 1) + b)))) := by
  obtain ⟨Q, hQ⟩ : ∃ Q : Option Value → pm_H → Prop, Q = (fun v0 q => ph = q ∧ v0 = some (.int (zn ((if k = v (8 + p) then 0 else 1) + b)))) := ⟨_, rfl⟩
  rw [← hQ]
  refine zM_mk fun n D => ?_
  show zW n D 119 Q 0 [some (.ref 164), some (.ref 25), some (.int (zn p)), some (.int (zn s)), some (.int (zn k)), none] [] ph
  have c_0 : ((Int16.ofInt 256).toInt32).toInt = 256 := by decide
  have c_1 : ((Int8.ofInt 8).toInt32).toInt = 8 := by decide
  have c_2 : (Int32.ofInt 0).toInt = 0 := by decide
  have c_3 : (Int32.ofInt 1).toInt = 1 := by decide
  have hP8 : P ≤ 8 := hd.2.1
  have tp := znt (k := p) (by omega)
  have ts := znt (k := s) (by omega)
  have tk := znt (k := k) (by omega)
  have ta := znt (k := a) (by omega)
  have tb := znt (k := b) (by omega)
  have t8 := znt (k := v (8 + p)) (by omega)
  have hsa := zor_lt hs ha
  have tsa := znt (k := s ||| a) (by omega)
  refine w_load (pc' := 1) (v := .int (zn s)) (m := 1) (ykc_119 (e := (2, .iload_n kF3, 0)) rfl) rfl rfl ?_
  refine w_load (pc' := 2) (v := .ref 164) (m := 1) (ykc_119 (e := (2, .aload_n kF0, 0)) rfl) rfl rfl ?_
  refine w_gf (pc' := 5) (v := .ref 165) (ykc_119 (e := (5, .getfield 9, 0)) rfl) rfl (zsg hS zs_164_0) rfl ?_
  refine w_load (pc' := 6) (v := .int (zn p)) (m := 1) (ykc_119 (e := (2, .iload_n kF2, 0)) rfl) rfl rfl ?_
  refine w_push (pc' := 8) (v := .int ((Int8.ofInt 8).toInt32)) (m := 2) (ykc_119 (e := (1, .bipush 8, 0)) rfl) rfl rfl ?_
  have e1302 : (zn p) * ((Int8.ofInt 8).toInt32) = zn (p * 8) := zn_of (by rw [ti_mul (by rw [show (zn p).toInt = ((p : Nat) : Int) by omega, show ((Int8.ofInt 8).toInt32).toInt = (8 : Int) by omega]; omega) (by rw [show (zn p).toInt = ((p : Nat) : Int) by omega, show ((Int8.ofInt 8).toInt32).toInt = (8 : Int) by omega]; omega), show (zn p).toInt = ((p : Nat) : Int) by omega, show ((Int8.ofInt 8).toInt32).toInt = (8 : Int) by omega] <;> omega)
  have te1302 := znt (k := p * 8) (by omega)
  refine w_alu (pc' := 9) (st' := [.int (zn (p * 8)), .ref 165, .int (zn s)]) (ykc_119 (e := (0, .imul, 0)) rfl) (by rw [← e1302]; rfl) rfl ?_
  refine w_load (pc' := 11) (v := .int (zn k)) (m := 2) (ykc_119 (e := (2, .iload 4, 0)) rfl) rfl rfl ?_
  have e1303 : (zn (p * 8)) + (zn k) = zn (p * 8 + k) := (zaddN (a := p * 8) (b := k) (znt (by omega)) (znt (by omega)) (by omega)) 
  have te1303 := znt (k := p * 8 + k) (by omega)
  refine w_alu (pc' := 12) (st' := [.int (zn (p * 8 + k)), .ref 165, .int (zn s)]) (ykc_119 (e := (0, .iadd, 0)) rfl) (by rw [← e1303]; rfl) rfl ?_
  refine w_ialk (pc' := 13) (k := p * 8 + k) (ykc_119 (e := (5, .iaload, 0)) rfl) h1 (by omega) rfl ?_
  refine w_alu (pc' := 14) (st' := [.int ((zn s) ||| (zn a))]) (ykc_119 (e := (0, .ior, 0)) rfl) rfl rfl ?_
  rw [zor_n hs ha]
  refine w_store (pc' := 16) (L' := [some (.ref 164), some (.ref 25), some (.int (zn p)), some (.int (zn s)), some (.int (zn k)), some (.int (zn (s ||| a)))]) (st' := []) (m := 2) (ykc_119 (e := (3, .istore 5, 0)) rfl) rfl rfl ?_
  refine w_load (pc' := 18) (v := .int (zn k)) (m := 2) (ykc_119 (e := (2, .iload 4, 0)) rfl) rfl rfl ?_
  refine w_load (pc' := 19) (v := .ref 25) (m := 1) (ykc_119 (e := (2, .aload_n kF1, 0)) rfl) rfl rfl ?_
  refine w_gf (pc' := 22) (v := .ref 27) (ykc_119 (e := (5, .getfield 44, 0)) rfl) rfl (zsg hS zs_25_4) rfl ?_
  refine w_load (pc' := 23) (v := .int (zn p)) (m := 1) (ykc_119 (e := (2, .iload_n kF2, 0)) rfl) rfl rfl ?_
  refine w_ialk (pc' := 24) (k := p) (ykc_119 (e := (5, .iaload, 0)) rfl) (hd.2.2.2.2.2.1 p hp).2.1 (by omega) rfl ?_
  refine w_ine (ykc_119 (e := (4, .if_icmp .ne 7, 31)) rfl) rfl (fun b1304 => ?_) (fun b1304 => ?_)
  · refine w_alu (pc' := 32) (st' := [.int (Int32.ofInt 1)]) (ykc_119 (e := (0, .iconst 1, 0)) rfl) rfl rfl ?_
    refine w_load (pc' := 33) (v := .ref 164) (m := 1) (ykc_119 (e := (2, .aload_n kF0, 0)) rfl) rfl rfl ?_
    refine w_gf (pc' := 36) (v := .ref 166) (ykc_119 (e := (5, .getfield 15, 0)) rfl) rfl (zsg hS zs_164_1) rfl ?_
    refine w_load (pc' := 37) (v := .int (zn p)) (m := 1) (ykc_119 (e := (2, .iload_n kF2, 0)) rfl) rfl rfl ?_
    refine w_alu (pc' := 38) (st' := [.int (Int32.ofInt 1), .int (zn p), .ref 166, .int (Int32.ofInt 1)]) (ykc_119 (e := (0, .iconst 1, 0)) rfl) rfl rfl ?_
    have e1305 : (zn p) + (Int32.ofInt 1) = zn (p + 1) := (zaddN (a := p) (b := 1) (znt (by omega)) c_3 (by omega)) 
    have te1305 := znt (k := p + 1) (by omega)
    refine w_alu (pc' := 39) (st' := [.int (zn (p + 1)), .ref 166, .int (Int32.ofInt 1)]) (ykc_119 (e := (0, .iadd, 0)) rfl) (by rw [← e1305]; rfl) rfl ?_
    refine w_push (pc' := 42) (v := .int ((Int16.ofInt 256).toInt32)) (m := 3) (ykc_119 (e := (1, .sipush 256, 0)) rfl) rfl rfl ?_
    have e1306 : (zn (p + 1)) * ((Int16.ofInt 256).toInt32) = zn ((p + 1) * 256) := zn_of (by rw [ti_mul (by rw [show (zn (p + 1)).toInt = ((p + 1 : Nat) : Int) by omega, show ((Int16.ofInt 256).toInt32).toInt = (256 : Int) by omega]; omega) (by rw [show (zn (p + 1)).toInt = ((p + 1 : Nat) : Int) by omega, show ((Int16.ofInt 256).toInt32).toInt = (256 : Int) by omega]; omega), show (zn (p + 1)).toInt = ((p + 1 : Nat) : Int) by omega, show ((Int16.ofInt 256).toInt32).toInt = (256 : Int) by omega] <;> omega)
    have te1306 := znt (k := (p + 1) * 256) (by omega)
    refine w_alu (pc' := 43) (st' := [.int (zn ((p + 1) * 256)), .ref 166, .int (Int32.ofInt 1)]) (ykc_119 (e := (0, .imul, 0)) rfl) (by rw [← e1306]; rfl) rfl ?_
    refine w_load (pc' := 45) (v := .int (zn (s ||| a))) (m := 2) (ykc_119 (e := (2, .iload 5, 0)) rfl) rfl rfl ?_
    have e1307 : (zn ((p + 1) * 256)) + (zn (s ||| a)) = zn ((p + 1) * 256 + (s ||| a)) := (zaddN (a := (p + 1) * 256) (b := s ||| a) (znt (by omega)) (znt (by omega)) (by omega)) 
    have te1307 := znt (k := (p + 1) * 256 + (s ||| a)) (by omega)
    refine w_alu (pc' := 46) (st' := [.int (zn ((p + 1) * 256 + (s ||| a))), .ref 166, .int (Int32.ofInt 1)]) (ykc_119 (e := (0, .iadd, 0)) rfl) (by rw [← e1307]; rfl) rfl ?_
    refine w_ialk (pc' := 47) (k := (p + 1) * 256 + (s ||| a)) (ykc_119 (e := (5, .iaload, 0)) rfl) h2 (by omega) rfl ?_
    have e1308 : (Int32.ofInt 1) + (zn b) = zn (1 + b) := (zaddN (a := 1) (b := b) c_3 (znt (by omega)) (by omega)) 
    have te1308 := znt (k := 1 + b) (by omega)
    refine w_alu (pc' := 48) (st' := [.int (zn (1 + b))]) (ykc_119 (e := (0, .iadd, 0)) rfl) (by rw [← e1308]; rfl) rfl ?_
    refine w_ret (v := (some (.int (zn (1 + b))))) (ykc_119 (e := (7, .ireturn, 0)) rfl) (zr_v rfl) ?_
    rw [hQ]
    exact ⟨rfl, by rw [if_neg (by omega)]⟩
  · refine w_alu (pc' := 28) (st' := [.int (Int32.ofInt 0)]) (ykc_119 (e := (0, .iconst 0, 0)) rfl) rfl rfl ?_
    refine w_br (pc' := 32) (st' := [.int (Int32.ofInt 0)]) (ykc_119 (e := (4, .goto 4, 32)) rfl) rfl ?_
    refine w_load (pc' := 33) (v := .ref 164) (m := 1) (ykc_119 (e := (2, .aload_n kF0, 0)) rfl) rfl rfl ?_
    refine w_gf (pc' := 36) (v := .ref 166) (ykc_119 (e := (5, .getfield 15, 0)) rfl) rfl (zsg hS zs_164_1) rfl ?_
    refine w_load (pc' := 37) (v := .int (zn p)) (m := 1) (ykc_119 (e := (2, .iload_n kF2, 0)) rfl) rfl rfl ?_
    refine w_alu (pc' := 38) (st' := [.int (Int32.ofInt 1), .int (zn p), .ref 166, .int (Int32.ofInt 0)]) (ykc_119 (e := (0, .iconst 1, 0)) rfl) rfl rfl ?_
    have e1309 : (zn p) + (Int32.ofInt 1) = zn (p + 1) := (zaddN (a := p) (b := 1) (znt (by omega)) c_3 (by omega)) 
    have te1309 := znt (k := p + 1) (by omega)
    refine w_alu (pc' := 39) (st' := [.int (zn (p + 1)), .ref 166, .int (Int32.ofInt 0)]) (ykc_119 (e := (0, .iadd, 0)) rfl) (by rw [← e1309]; rfl) rfl ?_
    refine w_push (pc' := 42) (v := .int ((Int16.ofInt 256).toInt32)) (m := 3) (ykc_119 (e := (1, .sipush 256, 0)) rfl) rfl rfl ?_
    have e1310 : (zn (p + 1)) * ((Int16.ofInt 256).toInt32) = zn ((p + 1) * 256) := zn_of (by rw [ti_mul (by rw [show (zn (p + 1)).toInt = ((p + 1 : Nat) : Int) by omega, show ((Int16.ofInt 256).toInt32).toInt = (256 : Int) by omega]; omega) (by rw [show (zn (p + 1)).toInt = ((p + 1 : Nat) : Int) by omega, show ((Int16.ofInt 256).toInt32).toInt = (256 : Int) by omega]; omega), show (zn (p + 1)).toInt = ((p + 1 : Nat) : Int) by omega, show ((Int16.ofInt 256).toInt32).toInt = (256 : Int) by omega] <;> omega)
    have te1310 := znt (k := (p + 1) * 256) (by omega)
    refine w_alu (pc' := 43) (st' := [.int (zn ((p + 1) * 256)), .ref 166, .int (Int32.ofInt 0)]) (ykc_119 (e := (0, .imul, 0)) rfl) (by rw [← e1310]; rfl) rfl ?_
    refine w_load (pc' := 45) (v := .int (zn (s ||| a))) (m := 2) (ykc_119 (e := (2, .iload 5, 0)) rfl) rfl rfl ?_
    have e1311 : (zn ((p + 1) * 256)) + (zn (s ||| a)) = zn ((p + 1) * 256 + (s ||| a)) := (zaddN (a := (p + 1) * 256) (b := s ||| a) (znt (by omega)) (znt (by omega)) (by omega)) 
    have te1311 := znt (k := (p + 1) * 256 + (s ||| a)) (by omega)
    refine w_alu (pc' := 46) (st' := [.int (zn ((p + 1) * 256 + (s ||| a))), .ref 166, .int (Int32.ofInt 0)]) (ykc_119 (e := (0, .iadd, 0)) rfl) (by rw [← e1311]; rfl) rfl ?_
    refine w_ialk (pc' := 47) (k := (p + 1) * 256 + (s ||| a)) (ykc_119 (e := (5, .iaload, 0)) rfl) h2 (by omega) rfl ?_
    have e1312 : (Int32.ofInt 0) + (zn b) = zn (0 + b) := (zaddN (a := 0) (b := b) c_2 (znt (by omega)) (by omega)) 
    have te1312 := znt (k := 0 + b) (by omega)
    refine w_alu (pc' := 48) (st' := [.int (zn (0 + b))]) (ykc_119 (e := (0, .iadd, 0)) rfl) (by rw [← e1312]; rfl) rfl ?_
    refine w_ret (v := (some (.int (zn (0 + b))))) (ykc_119 (e := (7, .ireturn, 0)) rfl) (zr_v rfl) ?_
    rw [hQ]
    exact ⟨rfl, by rw [if_pos (by omega)]⟩
theorem zc_least {ph : pm_H} {P G : Nat} {v : Nat → Nat} (hS : zSh ph) (hd : zSd ph 25 P G v) {p s : Nat} {a b : Nat → Nat} (hp : p < P) (hs : s < 256) (h8 : v (8 + p) < 8) (h1 : ∀ k, k < 8 → a k < 256 ∧ zc ph 165 (p * 8 + k) = some (.int (zn (a k)))) (h2 : ∀ k, k < 8 → b k ≤ 1000000 ∧ zc ph 166 ((p + 1) * 256 + (s ||| a k)) = some (.int (zn (b k)))) : zM 118 [.ref 164, .ref 25, .int (zn p), .int (zn s)] ph (fun v0 q => ph = q ∧ v0 = some (.int (zn (zMn (fun k => (if k = v (8 + p) then 0 else 1) + b k) 100 8)))) := by
  obtain ⟨Q, hQ⟩ : ∃ Q : Option Value → pm_H → Prop, Q = (fun v0 q => ph = q ∧ v0 = some (.int (zn (zMn (fun k => (if k = v (8 + p) then 0 else 1) + b k) 100 8)))) := ⟨_, rfl⟩
  rw [← hQ]
  refine zM_mk fun n D => ?_
  show zW n D 118 Q 0 [some (.ref 164), some (.ref 25), some (.int (zn p)), some (.int (zn s)), none, none] [] ph
  have c_0 : ((Int8.ofInt 100).toInt32).toInt = 100 := by decide
  have c_1 : ((Int8.ofInt 8).toInt32).toInt = 8 := by decide
  have c_2 : (Int32.ofInt 0).toInt = 0 := by decide
  have c_3 : (Int32.ofInt 1).toInt = 1 := by decide
  have hP8 : P ≤ 8 := hd.2.1
  have tp := znt (k := p) (by omega)
  have ts := znt (k := s) (by omega)
  refine w_push (pc' := 2) (v := .int ((Int8.ofInt 100).toInt32)) (m := 2) (ykc_118 (e := (1, .bipush 100, 0)) rfl) rfl rfl ?_
  rw [z100]
  have t100 := znt (k := 100) (by omega)
  refine w_store (pc' := 4) (L' := [some (.ref 164), some (.ref 25), some (.int (zn p)), some (.int (zn s)), some (.int (zn 100)), none]) (st' := []) (m := 2) (ykc_118 (e := (3, .istore 4, 0)) rfl) rfl rfl ?_
  refine w_alu (pc' := 5) (st' := [.int (Int32.ofInt 0)]) (ykc_118 (e := (0, .iconst 0, 0)) rfl) rfl rfl ?_
  refine w_store (pc' := 7) (L' := [some (.ref 164), some (.ref 25), some (.int (zn p)), some (.int (zn s)), some (.int (zn 100)), some (.int (Int32.ofInt 0))]) (st' := []) (m := 2) (ykc_118 (e := (3, .istore 5, 0)) rfl) rfl rfl ?_
  have hl : ∀ (n : Nat), ∀ (k : Nat), (k ≤ 8) → zW n D 118 Q 7 [some (.ref 164), some (.ref 25), some (.int (zn p)), some (.int (zn s)), some (.int (zn (zMn (fun k => (if k = v (8 + p) then 0 else 1) + b k) 100 k))), some (.int (zn k))] [] ph := by
    intro n
    induction n using Nat.strongRecOn with
    | ind n ih =>
      intro k hk
      have tk := znt (k := k) (by omega)
      have lm := @zMn_le (fun k => (if k = v (8 + p) then 0 else 1) + b k) 100 k
      have tm := znt (k := zMn (fun k => (if k = v (8 + p) then 0 else 1) + b k) 100 k) (by omega)
      refine w_load (pc' := 9) (v := .int (zn k)) (m := 2) (ykc_118 (e := (2, .iload 5, 0)) rfl) rfl rfl ?_
      refine w_push (pc' := 11) (v := .int ((Int8.ofInt 8).toInt32)) (m := 2) (ykc_118 (e := (1, .bipush 8, 0)) rfl) rfl rfl ?_
      refine w_ige (ykc_118 (e := (4, .if_icmp .ge 25, 36)) rfl) rfl (fun b1313 => ?_) (fun b1313 => ?_)
      · refine w_load (pc' := 38) (v := .int (zn (zMn (fun k => (if k = v (8 + p) then 0 else 1) + b k) 100 k))) (m := 2) (ykc_118 (e := (2, .iload 4, 0)) rfl) rfl rfl ?_
        refine w_ret (v := (some (.int (zn (zMn (fun k => (if k = v (8 + p) then 0 else 1) + b k) 100 k))))) (ykc_118 (e := (7, .ireturn, 0)) rfl) (zr_v rfl) ?_
        have ek : k = 8 := by omega
        subst ek
        rw [hQ]
        exact ⟨rfl, rfl⟩
      · refine w_load (pc' := 16) (v := .int (zn (zMn (fun k => (if k = v (8 + p) then 0 else 1) + b k) 100 k))) (m := 2) (ykc_118 (e := (2, .iload 4, 0)) rfl) rfl rfl ?_
        refine w_load (pc' := 17) (v := .ref 164) (m := 1) (ykc_118 (e := (2, .aload_n kF0, 0)) rfl) rfl rfl ?_
        refine w_load (pc' := 18) (v := .ref 25) (m := 1) (ykc_118 (e := (2, .aload_n kF1, 0)) rfl) rfl rfl ?_
        refine w_load (pc' := 19) (v := .int (zn p)) (m := 1) (ykc_118 (e := (2, .iload_n kF2, 0)) rfl) rfl rfl ?_
        refine w_load (pc' := 20) (v := .int (zn s)) (m := 1) (ykc_118 (e := (2, .iload_n kF3, 0)) rfl) rfl rfl ?_
        refine w_load (pc' := 22) (v := .int (zn k)) (m := 2) (ykc_118 (e := (2, .iload 5, 0)) rfl) rfl rfl ?_
        have g1 := h1 k (by omega)
        have g2 := h2 k (by omega)
        refine w_cv (as := [.ref 164, .ref 25, .int (zn p), .int (zn s), .int (zn k)]) (r := [.int (zn (zMn (fun k => (if k = v (8 + p) then 0 else 1) + b k) 100 k))]) (ykc_118 (e := (6, .invokevirtual 40, 0)) rfl) rfl rfl rfl rfl (zc_withF hS hd (p := p) (s := s) (k := k) (a := a k) (b := b k) hp hs (by omega) g1.1 g2.1 h8 g1.2 g2.2) (fun v1314 ph1315 hv => ?_)
        obtain ⟨rfl, rfl⟩ := hv
        obtain ⟨c, ec⟩ : ∃ c, (if k = v (8 + p) then 0 else 1) + b k = c := ⟨_, rfl⟩
        rw [ec]
        have hc : c ≤ 1000001 := by
          rw [← ec]
          split <;> omega
        have tc := znt (k := c) (by omega)
        have em : zMn (fun k => (if k = v (8 + p) then 0 else 1) + b k) 100 (k + 1) = min (zMn (fun k => (if k = v (8 + p) then 0 else 1) + b k) 100 k) c := by
          rw [← ec]
          rfl
        show zW n D 118 Q 25 [some (.ref 164), some (.ref 25), some (.int (zn p)), some (.int (zn s)), some (.int (zn (zMn (fun k => (if k = v (8 + p) then 0 else 1) + b k) 100 k))), some (.int (zn k))] [.int (zn c), .int (zn (zMn (fun k => (if k = v (8 + p) then 0 else 1) + b k) 100 k))] ph
        obtain ⟨z1316, e_z1316⟩ : ∃ zq : Int32, (if (zn c) < (zn (zMn (fun k => (if k = v (8 + p) then 0 else 1) + b k) 100 k)) then (zn c) else (zn (zMn (fun k => (if k = v (8 + p) then 0 else 1) + b k) 100 k))) = zq := ⟨_, rfl⟩
        have h_z1316 := zminI e_z1316
        have n_z1316 : z1316.toInt = ((zMn (fun k => (if k = v (8 + p) then 0 else 1) + b k) 100 (k + 1) : Nat) : Int) := by omega
        refine w_mem1 (pc' := 28) (m := 3) (st' := [.int z1316]) (ph' := ph) (ykc_118 (e := (5, .invokestatic 27, 0)) rfl) (by rw [← e_z1316]; rfl) rfl ?_
        refine w_store (pc' := 30) (L' := [some (.ref 164), some (.ref 25), some (.int (zn p)), some (.int (zn s)), some (.int z1316), some (.int (zn k))]) (st' := []) (m := 2) (ykc_118 (e := (3, .istore 4, 0)) rfl) rfl rfl ?_
        have e1317 : (zn k) + Int32.ofInt 1 = zn (k + 1) := (zaddN (a := k) (b := 1) (znt (by omega)) c_3 (by omega))
        have te1317 := znt (k := k + 1) (by omega)
        refine w_store (pc' := 33) (L' := [some (.ref 164), some (.ref 25), some (.int (zn p)), some (.int (zn s)), some (.int z1316), some (.int (zn (k + 1)))]) (st' := []) (m := 3) (ykc_118 (e := (3, .iinc 5 1, 0)) rfl) (by rw [← e1317]; rfl) rfl ?_
        refine w_gb (ykc_118 (e := (4, .goto (-26), 7)) rfl) (fun k1318 hk1318 => ?_)
        obtain rfl := zn_of (k := zMn (fun k => (if k = v (8 + p) then 0 else 1) + b k) 100 (k + 1)) (show z1316.toInt = _ by omega)
        exact ih k1318 hk1318 (k + 1) (by omega)
  exact hl n 0 (Nat.zero_le 8)
theorem zc_fewest {ph : pm_H} {P G : Nat} {v : Nat → Nat} (hS : zSh ph) (hd : zSd ph 25 P G v) {sh : Nat → Nat → Nat} (hG : G ≤ 8) (h8 : ∀ p, p < P → v (8 + p) < 8) (hsh : ∀ p, p < P → ∀ k, k < 8 → sh p k < 2 ^ G ∧ zc ph 165 (p * 8 + k) = some (.int (zn (sh p k)))) : zM 117 [.ref 164, .ref 25] ph (fun v0 q => ∃ T z, T = zTq sh (fun p => v (8 + p)) (2 ^ G - 1) 100 P P 0 ∧ v0 = some (.int z) ∧ ((T < 100 ∧ z = zn T) ∨ (100 ≤ T ∧ z = Int32.ofInt (-1)))) := by
  obtain ⟨Q, hQ⟩ : ∃ Q : Option Value → pm_H → Prop, Q = (fun v0 q => ∃ T z, T = zTq sh (fun p => v (8 + p)) (2 ^ G - 1) 100 P P 0 ∧ v0 = some (.int z) ∧ ((T < 100 ∧ z = zn T) ∨ (100 ≤ T ∧ z = Int32.ofInt (-1)))) := ⟨_, rfl⟩
  rw [← hQ]
  refine zM_mk fun n D => ?_
  show zW n D 117 Q 0 [some (.ref 164), some (.ref 25), none, none, none, none] [] ph
  have c_0 : ((Int16.ofInt 255).toInt32).toInt = 255 := by decide
  have c_1 : ((Int16.ofInt 256).toInt32).toInt = 256 := by decide
  have c_2 : ((Int8.ofInt 100).toInt32).toInt = 100 := by decide
  have c_3 : ((Int8.ofInt 8).toInt32).toInt = 8 := by decide
  have c_4 : (Int32.ofInt (-1)).toInt = -1 := by decide
  have c_5 : (Int32.ofInt 0).toInt = 0 := by decide
  have c_6 : (Int32.ofInt 1).toInt = 1 := by decide
  have hP8 : P ≤ 8 := hd.2.1
  have tP := znt (k := P) (by omega)
  have t100 := znt (k := 100) (by omega)
  have hf := zful G (by omega)
  have hM1 := @zpow1 G
  obtain ⟨M, eM⟩ : ∃ M, 2 ^ G - 1 = M := ⟨_, rfl⟩
  rw [eM] at hf hM1 hQ
  have hM8 : M < 256 := by have := zp8 hG (show M < 2 ^ G by omega); omega
  have tM := znt (k := M) (by omega)
  refine w_alu (pc' := 1) (st' := [.int (Int32.ofInt 1)]) (ykc_117 (e := (0, .iconst 1, 0)) rfl) rfl rfl ?_
  refine w_load (pc' := 2) (v := .ref 25) (m := 1) (ykc_117 (e := (2, .aload_n kF1, 0)) rfl) rfl rfl ?_
  refine w_gf (pc' := 5) (v := .int (zn G)) (ykc_117 (e := (5, .getfield 18, 0)) rfl) rfl hd.2.2.1 rfl ?_
  refine w_alu (pc' := 6) (st' := [.int ((Int32.ofInt 1) <<< ((zn G) &&& 31))]) (ykc_117 (e := (0, .ishl, 0)) rfl) rfl rfl ?_
  refine w_alu (pc' := 7) (st' := [.int (Int32.ofInt 1), .int ((Int32.ofInt 1) <<< ((zn G) &&& 31))]) (ykc_117 (e := (0, .iconst 1, 0)) rfl) rfl rfl ?_
  refine w_alu (pc' := 8) (st' := [.int (((Int32.ofInt 1) <<< ((zn G) &&& 31)) - (Int32.ofInt 1))]) (ykc_117 (e := (0, .isub, 0)) rfl) rfl rfl ?_
  refine w_push (pc' := 11) (v := .int ((Int16.ofInt 255).toInt32)) (m := 3) (ykc_117 (e := (1, .sipush 255, 0)) rfl) rfl rfl ?_
  refine w_alu (pc' := 12) (st' := [.int ((((Int32.ofInt 1) <<< ((zn G) &&& 31)) - (Int32.ofInt 1)) &&& ((Int16.ofInt 255).toInt32))]) (ykc_117 (e := (0, .iand, 0)) rfl) rfl rfl ?_
  rw [hf]
  refine w_store (pc' := 13) (L' := [some (.ref 164), some (.ref 25), some (.int (zn M)), none, none, none]) (st' := []) (m := 1) (ykc_117 (e := (3, .istore_n kF2, 0)) rfl) rfl rfl ?_
  refine w_alu (pc' := 14) (st' := [.int (Int32.ofInt 0)]) (ykc_117 (e := (0, .iconst 0, 0)) rfl) rfl rfl ?_
  refine w_push (pc' := 16) (v := .int ((Int8.ofInt 8).toInt32)) (m := 2) (ykc_117 (e := (1, .bipush 8, 0)) rfl) rfl rfl ?_
  refine w_load (pc' := 17) (v := .ref 25) (m := 1) (ykc_117 (e := (2, .aload_n kF1, 0)) rfl) rfl rfl ?_
  refine w_gf (pc' := 20) (v := .int (zn P)) (ykc_117 (e := (5, .getfield 24, 0)) rfl) rfl hd.1 rfl ?_
  obtain ⟨z1319, e_z1319⟩ : ∃ zq : Int32, (if (zn P) < ((Int8.ofInt 8).toInt32) then (zn P) else ((Int8.ofInt 8).toInt32)) = zq := ⟨_, rfl⟩
  have h_z1319 := zminI e_z1319
  have n_z1319 : z1319.toInt = ((P : Nat) : Int) := by omega
  refine w_mem1 (pc' := 23) (m := 3) (st' := [.int z1319, .int (Int32.ofInt 0)]) (ph' := ph) (ykc_117 (e := (5, .invokestatic 27, 0)) rfl) (by rw [← e_z1319]; rfl) rfl ?_
  obtain ⟨z1320, e_z1320⟩ : ∃ zq : Int32, (if (Int32.ofInt 0) < z1319 then z1319 else (Int32.ofInt 0)) = zq := ⟨_, rfl⟩
  have h_z1320 := zmaxI e_z1320
  have n_z1320 : z1320.toInt = ((P : Nat) : Int) := by omega
  refine w_mem1 (pc' := 26) (m := 3) (st' := [.int z1320]) (ph' := ph) (ykc_117 (e := (5, .invokestatic 33, 0)) rfl) (by rw [← e_z1320]; rfl) rfl ?_
  obtain rfl := zn_of (k := P) (show z1320.toInt = _ by omega)
  refine w_store (pc' := 27) (L' := [some (.ref 164), some (.ref 25), some (.int (zn M)), some (.int (zn (P))), none, none]) (st' := []) (m := 1) (ykc_117 (e := (3, .istore_n kF3, 0)) rfl) rfl rfl ?_
  refine w_alu (pc' := 28) (st' := [.int (Int32.ofInt 0)]) (ykc_117 (e := (0, .iconst 0, 0)) rfl) rfl rfl ?_
  refine w_store (pc' := 30) (L' := [some (.ref 164), some (.ref 25), some (.int (zn M)), some (.int (zn (P))), some (.int (Int32.ofInt 0)), none]) (st' := []) (m := 2) (ykc_117 (e := (3, .istore 4, 0)) rfl) rfl rfl ?_
  have ha : ∀ (n : Nat), ∀ (t : Nat) (o5 : Option Value) (ph1 : pm_H), (t ≤ M + 1) → (zFr [166] [] ph ph1) → (∀ s, s < t → zc ph1 166 (P * 256 + s) = some (.int (zn (if s = M then 0 else 100)))) → zW n D 117 Q 30 [some (.ref 164), some (.ref 25), some (.int (zn M)), some (.int (zn P)), some (.int (zn t)), o5] [] ph1 := by
    intro n
    induction n using Nat.strongRecOn with
    | ind n ih =>
      intro t o5 ph1 ht hf1 hi
      have tt := znt (k := t) (by omega)
      refine w_load (pc' := 32) (v := .int (zn t)) (m := 2) (ykc_117 (e := (2, .iload 4, 0)) rfl) rfl rfl ?_
      refine w_load (pc' := 33) (v := .int (zn M)) (m := 1) (ykc_117 (e := (2, .iload_n kF2, 0)) rfl) rfl rfl ?_
      refine w_igt (ykc_117 (e := (4, .if_icmp .gt 34, 67)) rfl) rfl (fun b1321 => ?_) (fun b1321 => ?_)
      · have ht9 : t = M + 1 := by omega
        subst ht9
        refine w_load (pc' := 68) (v := .int (zn P)) (m := 1) (ykc_117 (e := (2, .iload_n kF3, 0)) rfl) rfl rfl ?_
        refine w_alu (pc' := 69) (st' := [.int (Int32.ofInt 1), .int (zn P)]) (ykc_117 (e := (0, .iconst 1, 0)) rfl) rfl rfl ?_
        obtain ⟨z1322, e_z1322, h_z1322⟩ : ∃ zq : Int32, (zn P) - (Int32.ofInt 1) = zq ∧ zq.toInt = ((P : Nat) : Int) - (1 : Int) := ⟨_, rfl, (by have := ti_sub (x := (zn P)) (y := (Int32.ofInt 1)) (by omega) (by omega); omega)⟩
        refine w_alu (pc' := 70) (st' := [.int z1322]) (ykc_117 (e := (0, .isub, 0)) rfl) (by rw [← e_z1322]; rfl) rfl ?_
        refine w_store (pc' := 72) (L' := [some (.ref 164), some (.ref 25), some (.int (zn M)), some (.int (zn P)), some (.int z1322), o5]) (st' := []) (m := 2) (ykc_117 (e := (3, .istore 4, 0)) rfl) rfl rfl ?_
        have hb : ∀ (n2 : Nat), ∀ (k : Nat) (y : Int32) (o5 : Option Value) (ph2 : pm_H), (k ≤ P) → (y.toInt = (k : Int) - 1) → (zFr [166] [] ph ph2) → (∀ j, k ≤ j → j ≤ P → ∀ s, s ≤ M → zc ph2 166 (j * 256 + s) = some (.int (zn (zTq sh (fun p => v (8 + p)) M 100 P (P - j) s)))) → zW n2 D 117 Q 72 [some (.ref 164), some (.ref 25), some (.int (zn M)), some (.int (zn P)), some (.int y), o5] [] ph2 := by
          intro n2
          induction n2 using Nat.strongRecOn with
          | ind n2 ih =>
            intro k y o5 ph2 hk hy hf2 hj
            refine w_load (pc' := 74) (v := .int y) (m := 2) (ykc_117 (e := (2, .iload 4, 0)) rfl) rfl rfl ?_
            refine w_zlt (ykc_117 (e := (4, .ifCond .lt 47, 121)) rfl) rfl (fun b1323 => ?_) (fun b1323 => ?_)
            · refine w_load (pc' := 122) (v := .ref 164) (m := 1) (ykc_117 (e := (2, .aload_n kF0, 0)) rfl) rfl rfl ?_
              refine w_gf (pc' := 125) (v := .ref 166) (ykc_117 (e := (5, .getfield 15, 0)) rfl) rfl ((hf2.1 164 1 (by decide) (by decide)).trans (zsg hS zs_164_1)) rfl ?_
              refine w_alu (pc' := 126) (st' := [.int (Int32.ofInt 0), .ref 166]) (ykc_117 (e := (0, .iconst 0, 0)) rfl) rfl rfl ?_
              obtain rfl : k = 0 := by omega
              have g0 : zc ph2 166 0 = some (.int (zn (zTq sh (fun p => v (8 + p)) M 100 P (P) 0))) := by
                have h := hj 0 (Nat.le_refl 0) (Nat.zero_le P) 0 (Nat.zero_le M)
                rw [Nat.zero_mul, Nat.zero_add, Nat.sub_zero] at h
                exact h
              have l0 : zTq sh (fun p => v (8 + p)) M 100 P (P) 0 ≤ 100 := zTq_le
              have t0 := znt (k := zTq sh (fun p => v (8 + p)) M 100 P (P) 0) (by omega)
              refine w_ialk (pc' := 127) (k := 0) (ykc_117 (e := (5, .iaload, 0)) rfl) g0 (by omega) rfl ?_
              refine w_push (pc' := 129) (v := .int ((Int8.ofInt 100).toInt32)) (m := 2) (ykc_117 (e := (1, .bipush 100, 0)) rfl) rfl rfl ?_
              refine w_ige (ykc_117 (e := (4, .if_icmp .ge 12, 141)) rfl) rfl (fun b1324 => ?_) (fun b1324 => ?_)
              · refine w_alu (pc' := 142) (st' := [.int (Int32.ofInt (-1))]) (ykc_117 (e := (0, .iconst (-1), 0)) rfl) rfl rfl ?_
                refine w_ret (v := (some (.int (Int32.ofInt (-1))))) (ykc_117 (e := (7, .ireturn, 0)) rfl) (zr_v rfl) ?_
                rw [hQ]
                exact ⟨_, _, rfl, rfl, Or.inr ⟨by omega, rfl⟩⟩
              · refine w_load (pc' := 133) (v := .ref 164) (m := 1) (ykc_117 (e := (2, .aload_n kF0, 0)) rfl) rfl rfl ?_
                refine w_gf (pc' := 136) (v := .ref 166) (ykc_117 (e := (5, .getfield 15, 0)) rfl) rfl ((hf2.1 164 1 (by decide) (by decide)).trans (zsg hS zs_164_1)) rfl ?_
                refine w_alu (pc' := 137) (st' := [.int (Int32.ofInt 0), .ref 166]) (ykc_117 (e := (0, .iconst 0, 0)) rfl) rfl rfl ?_
                refine w_ialk (pc' := 138) (k := 0) (ykc_117 (e := (5, .iaload, 0)) rfl) g0 (by omega) rfl ?_
                refine w_br (pc' := 142) (st' := [.int (zn (zTq sh (fun p => v (8 + p)) M 100 P (P) 0))]) (ykc_117 (e := (4, .goto 4, 142)) rfl) rfl ?_
                refine w_ret (v := (some (.int (zn (zTq sh (fun p => v (8 + p)) M 100 P (P) 0))))) (ykc_117 (e := (7, .ireturn, 0)) rfl) (zr_v rfl) ?_
                rw [hQ]
                exact ⟨_, _, rfl, rfl, Or.inl ⟨by omega, rfl⟩⟩
            · obtain ⟨m, rfl⟩ : ∃ m, k = m + 1 := ⟨k - 1, by omega⟩
              obtain rfl := zn_of (k := m) (show y.toInt = _ by omega)
              have tm := znt (k := m) (by omega)
              show zW n2 D 117 Q 77 [some (.ref 164), some (.ref 25), some (.int (zn M)), some (.int (zn P)), some (.int (zn m)), o5] [] ph2
              refine w_alu (pc' := 78) (st' := [.int (Int32.ofInt 0)]) (ykc_117 (e := (0, .iconst 0, 0)) rfl) rfl rfl ?_
              refine w_store (pc' := 80) (L' := [some (.ref 164), some (.ref 25), some (.int (zn M)), some (.int (zn P)), some (.int (zn m)), some (.int (Int32.ofInt 0))]) (st' := []) (m := 2) (ykc_117 (e := (3, .istore 5, 0)) rfl) rfl rfl ?_
              have iho := ih
              have hc : ∀ (n3 : Nat), n3 ≤ n2 → ∀ (s : Nat) (ph3 : pm_H), (s ≤ M + 1) → (zFr [166] [] ph ph3) → (∀ j, m + 1 ≤ j → j ≤ P → ∀ s, s ≤ M → zc ph3 166 (j * 256 + s) = some (.int (zn (zTq sh (fun p => v (8 + p)) M 100 P (P - j) s)))) → (∀ r, r < s → zc ph3 166 (m * 256 + r) = some (.int (zn (zTq sh (fun p => v (8 + p)) M 100 P (P - m) r)))) → zW n3 D 117 Q 80 [some (.ref 164), some (.ref 25), some (.int (zn M)), some (.int (zn P)), some (.int (zn m)), some (.int (zn s))] [] ph3 := by
                intro n3
                induction n3 using Nat.strongRecOn with
                | ind n3 ih =>
                  intro hlim s ph3 hs hf3 hj3 hi3
                  have ts := znt (k := s) (by omega)
                  refine w_load (pc' := 82) (v := .int (zn s)) (m := 2) (ykc_117 (e := (2, .iload 5, 0)) rfl) rfl rfl ?_
                  refine w_load (pc' := 83) (v := .int (zn M)) (m := 1) (ykc_117 (e := (2, .iload_n kF2, 0)) rfl) rfl rfl ?_
                  refine w_igt (ykc_117 (e := (4, .if_icmp .gt 32, 115)) rfl) rfl (fun b1325 => ?_) (fun b1325 => ?_)
                  · obtain ⟨z1326, e_z1326, h_z1326⟩ : ∃ zq : Int32, (zn m) + Int32.ofInt (-1) = zq ∧ zq.toInt = ((m : Nat) : Int) + (-1 : Int) := ⟨_, rfl, zdecT (by omega)⟩
                    refine w_store (pc' := 118) (L' := [some (.ref 164), some (.ref 25), some (.int (zn M)), some (.int (zn P)), some (.int z1326), some (.int (zn s))]) (st' := []) (m := 3) (ykc_117 (e := (3, .iinc 4 (-1), 0)) rfl) (by rw [← e_z1326]; rfl) rfl ?_
                    refine w_gb (ykc_117 (e := (4, .goto (-46), 72)) rfl) (fun k1327 hk1327 => ?_)
                    exact iho k1327 (by omega) m z1326 _ ph3 (by omega) (by omega) hf3 (fun j j1 j2 r hr => by
                      by_cases e : j = m
                      · subst e
                        exact hi3 r (by omega)
                      · exact hj3 j (by omega) j2 r hr)
                  · refine w_load (pc' := 87) (v := .ref 164) (m := 1) (ykc_117 (e := (2, .aload_n kF0, 0)) rfl) rfl rfl ?_
                    refine w_gf (pc' := 90) (v := .ref 166) (ykc_117 (e := (5, .getfield 15, 0)) rfl) rfl ((hf3.1 164 1 (by decide) (by decide)).trans (zsg hS zs_164_1)) rfl ?_
                    refine w_load (pc' := 92) (v := .int (zn m)) (m := 2) (ykc_117 (e := (2, .iload 4, 0)) rfl) rfl rfl ?_
                    refine w_push (pc' := 95) (v := .int ((Int16.ofInt 256).toInt32)) (m := 3) (ykc_117 (e := (1, .sipush 256, 0)) rfl) rfl rfl ?_
                    have e1328 : (zn m) * ((Int16.ofInt 256).toInt32) = zn (m * 256) := zn_of (by rw [ti_mul (by rw [show (zn m).toInt = ((m : Nat) : Int) by omega, show ((Int16.ofInt 256).toInt32).toInt = (256 : Int) by omega]; omega) (by rw [show (zn m).toInt = ((m : Nat) : Int) by omega, show ((Int16.ofInt 256).toInt32).toInt = (256 : Int) by omega]; omega), show (zn m).toInt = ((m : Nat) : Int) by omega, show ((Int16.ofInt 256).toInt32).toInt = (256 : Int) by omega] <;> omega)
                    have te1328 := znt (k := m * 256) (by omega)
                    refine w_alu (pc' := 96) (st' := [.int (zn (m * 256)), .ref 166]) (ykc_117 (e := (0, .imul, 0)) rfl) (by rw [← e1328]; rfl) rfl ?_
                    refine w_load (pc' := 98) (v := .int (zn s)) (m := 2) (ykc_117 (e := (2, .iload 5, 0)) rfl) rfl rfl ?_
                    have e1329 : (zn (m * 256)) + (zn s) = zn (m * 256 + s) := (zaddN (a := m * 256) (b := s) (znt (by omega)) (znt (by omega)) (by omega)) 
                    have te1329 := znt (k := m * 256 + s) (by omega)
                    refine w_alu (pc' := 99) (st' := [.int (zn (m * 256 + s)), .ref 166]) (ykc_117 (e := (0, .iadd, 0)) rfl) (by rw [← e1329]; rfl) rfl ?_
                    refine w_load (pc' := 100) (v := .ref 164) (m := 1) (ykc_117 (e := (2, .aload_n kF0, 0)) rfl) rfl rfl ?_
                    refine w_load (pc' := 101) (v := .ref 25) (m := 1) (ykc_117 (e := (2, .aload_n kF1, 0)) rfl) rfl rfl ?_
                    refine w_load (pc' := 103) (v := .int (zn m)) (m := 2) (ykc_117 (e := (2, .iload 4, 0)) rfl) rfl rfl ?_
                    refine w_load (pc' := 105) (v := .int (zn s)) (m := 2) (ykc_117 (e := (2, .iload 5, 0)) rfl) rfl rfl ?_
                    have hS3 := zSh_F hf3 (by decide +kernel) hS
                    have hd3 : zSd ph3 25 P G v := zSd_F hf3 (by simp; omega) (by simp) hd
                    have et : zMn (fun k => (if k = v (8 + m) then 0 else 1) + zTq sh (fun p => v (8 + p)) M 100 P (P - (m + 1)) (s ||| sh m k)) 100 8 = zTq sh (fun p => v (8 + p)) M 100 P (P - m) s := by
                      rw [show P - m = (P - (m + 1)) + 1 by omega]
                      show _ = zMn (fun k => (if k = v (8 + (P - (P - (m + 1) + 1))) then 0 else 1) + zTq sh (fun p => v (8 + p)) M 100 P (P - (m + 1)) (s ||| sh (P - (P - (m + 1) + 1)) k)) 100 8
                      rw [show P - (P - (m + 1) + 1) = m by omega]
                    refine w_cv (as := [.ref 164, .ref 25, .int (zn m), .int (zn s)]) (r := [.int (zn (m * 256 + s)), .ref 166]) (ykc_117 (e := (6, .invokevirtual 36, 0)) rfl) rfl rfl rfl rfl (zc_least hS3 hd3 (p := m) (s := s) (a := sh m) (b := fun k => zTq sh (fun p => v (8 + p)) M 100 P (P - (m + 1)) (s ||| sh m k)) (by omega) (by omega) (h8 m (by omega)) (fun k hk => ⟨zp8 hG (hsh m (by omega) k hk).1, (hf3.1 165 (m * 8 + k) (by decide) (by simp)).trans (hsh m (by omega) k hk).2⟩) (fun k hk => ⟨Nat.le_trans zTq_le (by decide), hj3 (m + 1) (Nat.le_refl _) (by omega) (s ||| sh m k) (by have := Nat.or_lt_two_pow (show s < 2 ^ G by omega) (hsh m (by omega) k hk).1; omega)⟩)) (fun v1330 ph1331 hv => ?_)
                    obtain ⟨rfl, rfl⟩ := hv
                    rw [et]
                    show zW n3 D 117 Q 108 [some (.ref 164), some (.ref 25), some (.int (zn M)), some (.int (zn P)), some (.int (zn m)), some (.int (zn s))] [.int (zn (zTq sh (fun p => v (8 + p)) M 100 P (P - m) s)), .int (zn (m * 256 + s)), .ref 166] ph3
                    refine w_ias (pc' := 109) (k := m * 256 + s) (ykc_117 (e := (5, .iastore, 0)) rfl) (by omega) rfl (fun ph1333 u1332 => ?_)
                    have e1334 : (zn s) + Int32.ofInt 1 = zn (s + 1) := (zaddN (a := s) (b := 1) (znt (by omega)) c_6 (by omega))
                    have te1334 := znt (k := s + 1) (by omega)
                    refine w_store (pc' := 112) (L' := [some (.ref 164), some (.ref 25), some (.int (zn M)), some (.int (zn P)), some (.int (zn m)), some (.int (zn (s + 1)))]) (st' := []) (m := 3) (ykc_117 (e := (3, .iinc 5 1, 0)) rfl) (by rw [← e1334]; rfl) rfl ?_
                    refine w_gb (ykc_117 (e := (4, .goto (-32), 80)) rfl) (fun k1335 hk1335 => ?_)
                    exact ih k1335 hk1335 (by omega) (s + 1) ph1333 (by omega) (zFr_trans hf3 (zFr_st u1332 (Or.inl (by simp)))) (fun j j1 j2 r hr => (u1332.2.1 166 (j * 256 + r) (fun q => by have := q.2; omega)).trans (hj3 j j1 j2 r hr)) (fun r hr => by
                      by_cases e : r = s
                      · subst e
                        exact u1332.1
                      · exact (u1332.2.1 166 (m * 256 + r) (fun q => by have := q.2; omega)).trans (hi3 r (by omega)))
              exact hc n2 (Nat.le_refl _) 0 ph2 (Nat.zero_le _) hf2 (fun j j1 j2 s hs => hj j j1 j2 s hs) (fun r hr => absurd hr (Nat.not_lt_zero r))
        exact hb n P _ _ ph1 (Nat.le_refl _) (by omega) hf1 (fun j j1 j2 s hs => by
          obtain rfl : j = P := by omega
          rw [Nat.sub_self]
          exact hi s (by omega))
        
      · refine w_load (pc' := 37) (v := .ref 164) (m := 1) (ykc_117 (e := (2, .aload_n kF0, 0)) rfl) rfl rfl ?_
        refine w_gf (pc' := 40) (v := .ref 166) (ykc_117 (e := (5, .getfield 15, 0)) rfl) rfl ((hf1.1 164 1 (by decide) (by decide)).trans (zsg hS zs_164_1)) rfl ?_
        refine w_load (pc' := 41) (v := .int (zn P)) (m := 1) (ykc_117 (e := (2, .iload_n kF3, 0)) rfl) rfl rfl ?_
        refine w_push (pc' := 44) (v := .int ((Int16.ofInt 256).toInt32)) (m := 3) (ykc_117 (e := (1, .sipush 256, 0)) rfl) rfl rfl ?_
        have e1336 : (zn P) * ((Int16.ofInt 256).toInt32) = zn (P * 256) := zn_of (by rw [ti_mul (by rw [show (zn P).toInt = ((P : Nat) : Int) by omega, show ((Int16.ofInt 256).toInt32).toInt = (256 : Int) by omega]; omega) (by rw [show (zn P).toInt = ((P : Nat) : Int) by omega, show ((Int16.ofInt 256).toInt32).toInt = (256 : Int) by omega]; omega), show (zn P).toInt = ((P : Nat) : Int) by omega, show ((Int16.ofInt 256).toInt32).toInt = (256 : Int) by omega] <;> omega)
        have te1336 := znt (k := P * 256) (by omega)
        refine w_alu (pc' := 45) (st' := [.int (zn (P * 256)), .ref 166]) (ykc_117 (e := (0, .imul, 0)) rfl) (by rw [← e1336]; rfl) rfl ?_
        refine w_load (pc' := 47) (v := .int (zn t)) (m := 2) (ykc_117 (e := (2, .iload 4, 0)) rfl) rfl rfl ?_
        have e1337 : (zn (P * 256)) + (zn t) = zn (P * 256 + t) := (zaddN (a := P * 256) (b := t) (znt (by omega)) (znt (by omega)) (by omega)) 
        have te1337 := znt (k := P * 256 + t) (by omega)
        refine w_alu (pc' := 48) (st' := [.int (zn (P * 256 + t)), .ref 166]) (ykc_117 (e := (0, .iadd, 0)) rfl) (by rw [← e1337]; rfl) rfl ?_
        refine w_load (pc' := 50) (v := .int (zn t)) (m := 2) (ykc_117 (e := (2, .iload 4, 0)) rfl) rfl rfl ?_
        refine w_load (pc' := 51) (v := .int (zn M)) (m := 1) (ykc_117 (e := (2, .iload_n kF2, 0)) rfl) rfl rfl ?_
        refine w_ine (ykc_117 (e := (4, .if_icmp .ne 7, 58)) rfl) rfl (fun b1338 => ?_) (fun b1338 => ?_)
        · refine w_push (pc' := 60) (v := .int ((Int8.ofInt 100).toInt32)) (m := 2) (ykc_117 (e := (1, .bipush 100, 0)) rfl) rfl rfl ?_
          refine w_ias (pc' := 61) (k := P * 256 + t) (ykc_117 (e := (5, .iastore, 0)) rfl) (by omega) rfl (fun ph1340 u1339 => ?_)
          have e1341 : (zn t) + Int32.ofInt 1 = zn (t + 1) := (zaddN (a := t) (b := 1) (znt (by omega)) c_6 (by omega))
          have te1341 := znt (k := t + 1) (by omega)
          refine w_store (pc' := 64) (L' := [some (.ref 164), some (.ref 25), some (.int (zn M)), some (.int (zn P)), some (.int (zn (t + 1))), o5]) (st' := []) (m := 3) (ykc_117 (e := (3, .iinc 4 1, 0)) rfl) (by rw [← e1341]; rfl) rfl ?_
          refine w_gb (ykc_117 (e := (4, .goto (-34), 30)) rfl) (fun k1342 hk1342 => ?_)
          exact ih k1342 hk1342 (t + 1) _ ph1340 (by omega) (zFr_trans hf1 (zFr_st u1339 (Or.inl (by simp)))) (fun s hs => by
            by_cases e : s = t
            · subst e
              rw [if_neg (by omega)]
              exact u1339.1.trans (by rw [z100])
            · exact (u1339.2.1 166 (P * 256 + s) (fun q => by have := q.2; omega)).trans (hi s (by omega)))
        · refine w_alu (pc' := 55) (st' := [.int (Int32.ofInt 0), .int (zn (P * 256 + t)), .ref 166]) (ykc_117 (e := (0, .iconst 0, 0)) rfl) rfl rfl ?_
          refine w_br (pc' := 60) (st' := [.int (Int32.ofInt 0), .int (zn (P * 256 + t)), .ref 166]) (ykc_117 (e := (4, .goto 5, 60)) rfl) rfl ?_
          refine w_ias (pc' := 61) (k := P * 256 + t) (ykc_117 (e := (5, .iastore, 0)) rfl) (by omega) rfl (fun ph1344 u1343 => ?_)
          have e1345 : (zn t) + Int32.ofInt 1 = zn (t + 1) := (zaddN (a := t) (b := 1) (znt (by omega)) c_6 (by omega))
          have te1345 := znt (k := t + 1) (by omega)
          refine w_store (pc' := 64) (L' := [some (.ref 164), some (.ref 25), some (.int (zn M)), some (.int (zn P)), some (.int (zn (t + 1))), o5]) (st' := []) (m := 3) (ykc_117 (e := (3, .iinc 4 1, 0)) rfl) (by rw [← e1345]; rfl) rfl ?_
          refine w_gb (ykc_117 (e := (4, .goto (-34), 30)) rfl) (fun k1346 hk1346 => ?_)
          exact ih k1346 hk1346 (t + 1) _ ph1344 (by omega) (zFr_trans hf1 (zFr_st u1343 (Or.inl (by simp)))) (fun s hs => by
            by_cases e : s = t
            · subst e
              rw [if_pos (by omega)]
              exact u1343.1
            · exact (u1343.2.1 166 (P * 256 + s) (fun q => by have := q.2; omega)).trans (hi s (by omega)))
  exact ha n 0 _ ph (Nat.zero_le _) zFr_refl (fun s hs => absurd hs (Nat.not_lt_zero s))
theorem zc_set {ph : pm_H} (hS : zSh ph) {p k a : Nat} (hp : p < 8) (hk : k < 8) (ha : a < 256) : zM 116 [.ref 164, .int (zn p), .int (zn k), .int (zn a)] ph (fun v0 q => v0 = none ∧ zst ph q 165 (p * 8 + k) (.int (zn a))) := by
  obtain ⟨Q, hQ⟩ : ∃ Q : Option Value → pm_H → Prop, Q = (fun v0 q => v0 = none ∧ zst ph q 165 (p * 8 + k) (.int (zn a))) := ⟨_, rfl⟩
  rw [← hQ]
  refine zM_mk fun n D => ?_
  show zW n D 116 Q 0 [some (.ref 164), some (.int (zn p)), some (.int (zn k)), some (.int (zn a)), none] [] ph
  have c_0 : ((Int16.ofInt 255).toInt32).toInt = 255 := by decide
  have c_1 : ((Int8.ofInt 8).toInt32).toInt = 8 := by decide
  have tp := znt (k := p) (by omega)
  have tk := znt (k := k) (by omega)
  refine w_load (pc' := 1) (v := .int (zn p)) (m := 1) (ykc_116 (e := (2, .iload_n kF1, 0)) rfl) rfl rfl ?_
  refine w_push (pc' := 3) (v := .int ((Int8.ofInt 8).toInt32)) (m := 2) (ykc_116 (e := (1, .bipush 8, 0)) rfl) rfl rfl ?_
  have e1347 : (zn p) * ((Int8.ofInt 8).toInt32) = zn (p * 8) := zn_of (by rw [ti_mul (by rw [show (zn p).toInt = ((p : Nat) : Int) by omega, show ((Int8.ofInt 8).toInt32).toInt = (8 : Int) by omega]; omega) (by rw [show (zn p).toInt = ((p : Nat) : Int) by omega, show ((Int8.ofInt 8).toInt32).toInt = (8 : Int) by omega]; omega), show (zn p).toInt = ((p : Nat) : Int) by omega, show ((Int8.ofInt 8).toInt32).toInt = (8 : Int) by omega] <;> omega)
  have te1347 := znt (k := p * 8) (by omega)
  refine w_alu (pc' := 4) (st' := [.int (zn (p * 8))]) (ykc_116 (e := (0, .imul, 0)) rfl) (by rw [← e1347]; rfl) rfl ?_
  refine w_load (pc' := 5) (v := .int (zn k)) (m := 1) (ykc_116 (e := (2, .iload_n kF2, 0)) rfl) rfl rfl ?_
  have e1348 : (zn (p * 8)) + (zn k) = zn (p * 8 + k) := (zaddN (a := p * 8) (b := k) (znt (by omega)) (znt (by omega)) (by omega)) 
  have te1348 := znt (k := p * 8 + k) (by omega)
  refine w_alu (pc' := 6) (st' := [.int (zn (p * 8 + k))]) (ykc_116 (e := (0, .iadd, 0)) rfl) (by rw [← e1348]; rfl) rfl ?_
  refine w_store (pc' := 8) (L' := [some (.ref 164), some (.int (zn p)), some (.int (zn k)), some (.int (zn a)), some (.int (zn (p * 8 + k)))]) (st' := []) (m := 2) (ykc_116 (e := (3, .istore 4, 0)) rfl) rfl rfl ?_
  refine w_load (pc' := 10) (v := .int (zn (p * 8 + k))) (m := 2) (ykc_116 (e := (2, .iload 4, 0)) rfl) rfl rfl ?_
  refine w_zlt (ykc_116 (e := (4, .ifCond .lt 25, 35)) rfl) rfl (fun q => by exfalso; omega) (fun b1349 => ?_)
  refine w_load (pc' := 15) (v := .int (zn (p * 8 + k))) (m := 2) (ykc_116 (e := (2, .iload 4, 0)) rfl) rfl rfl ?_
  refine w_load (pc' := 16) (v := .ref 164) (m := 1) (ykc_116 (e := (2, .aload_n kF0, 0)) rfl) rfl rfl ?_
  refine w_gf (pc' := 19) (v := .ref 165) (ykc_116 (e := (5, .getfield 9, 0)) rfl) rfl (zsg hS zs_164_0) rfl ?_
  have cn1350 : (Int32.ofNat 64).toInt = 64 := by decide
  refine w_aln (ykc_116 (e := (5, .arraylength, 0)) rfl) (zsl hS zl_165) rfl ?_
  refine w_ige (ykc_116 (e := (4, .if_icmp .ge 15, 35)) rfl) rfl (fun q => by exfalso; omega) (fun b1351 => ?_)
  refine w_load (pc' := 24) (v := .ref 164) (m := 1) (ykc_116 (e := (2, .aload_n kF0, 0)) rfl) rfl rfl ?_
  refine w_gf (pc' := 27) (v := .ref 165) (ykc_116 (e := (5, .getfield 9, 0)) rfl) rfl (zsg hS zs_164_0) rfl ?_
  refine w_load (pc' := 29) (v := .int (zn (p * 8 + k))) (m := 2) (ykc_116 (e := (2, .iload 4, 0)) rfl) rfl rfl ?_
  refine w_load (pc' := 30) (v := .int (zn a)) (m := 1) (ykc_116 (e := (2, .iload_n kF3, 0)) rfl) rfl rfl ?_
  refine w_push (pc' := 33) (v := .int ((Int16.ofInt 255).toInt32)) (m := 3) (ykc_116 (e := (1, .sipush 255, 0)) rfl) rfl rfl ?_
  refine w_alu (pc' := 34) (st' := [.int ((zn a) &&& ((Int16.ofInt 255).toInt32)), .int (zn (p * 8 + k)), .ref 165]) (ykc_116 (e := (0, .iand, 0)) rfl) rfl rfl ?_
  rw [zand255 a ha]
  refine w_ias (pc' := 35) (k := p * 8 + k) (ykc_116 (e := (5, .iastore, 0)) rfl) (by omega) rfl (fun ph1353 u1352 => ?_)
  refine w_ret (v := none) (ykc_116 (e := (7, .return_, 0)) rfl) (zr_v rfl) ?_
  rw [hQ]
  exact ⟨rfl, u1352⟩
/-- the class at NOW, all that a look wants -/
def zNw (q : pm_H) (E : zEn) (F P G : Nat) (v : Nat → Nat) : Prop := zSh q ∧ zCe q E F ∧ zCt q 25 P G v ∧ zc q 10 1 = some (.ref F) ∧ zCc q E.1 E.2.1 E.2.2.1
theorem zNw_Q {ph q : pm_H} {E : zEn} {F P G : Nat} {v : Nat → Nat} (h : zNw ph E F P G v) (hSq : zSh q) (hd : zSd q 25 P G v) (eQ : ∀ a k, a < 165 → zc q a k = zc ph a k) (hc : zCc q E.1 E.2.1 E.2.2.1) : zNw q E F P G v := by
  obtain ⟨hS, hE, ht, hr, -⟩ := h
  exact ⟨hSq, zCe_Q hSq (fun a k t => eQ a k (by omega)) (fun a k t => eQ a k (by omega)) (fun a k t => eQ a k (by omega)) hE, ⟨⟨by decide, zSs_of hSq (S := 25) (by decide)⟩, hd⟩, (eQ 10 1 (by omega)).trans hr, hc⟩
theorem zNw_s {ph q : pm_H} {E : zEn} {F P G i : Nat} {v : Nat → Nat} {x : Value} (h : zNw ph E F P G v) (u : zst ph q 165 i x) : zNw q E F P G v := zNw_Q h (zSh_F (zFr_st (A := [165]) (F := []) u (Or.inl (by simp))) (by decide +kernel) h.1) (zSd_F (zFr_st (A := [165]) (F := []) u (Or.inl (by simp))) (by simp; omega) (by simp) h.2.2.1.2) (fun a k h1 => u.2.1 a k (fun e => by have := e.1; omega)) (zCc_Q (fun a k t => u.2.1 a k (fun e => by have := e.1; omega)) h.2.2.2.2)
theorem zNw_x {ph q : pm_H} {E : zEn} {F P G : Nat} {v : Nat → Nat} (h : zNw ph E F P G v) (f : zCx ph q) (hc : zCc q E.1 E.2.1 E.2.2.1) : zNw q E F P G v := ⟨zCx_S f h.1, zCx_e f h.2.1, zCx_t f h.2.2.1, (f.1 10 1 (by decide) (by decide)).trans h.2.2.2.1, hc⟩
theorem zNw_r {ph q : pm_H} {E : zEn} {F P G : Nat} {v : Nat → Nat} (h : zNw ph E F P G v) (f : zCr ph q) : zNw q E F P G v := zNw_x h (zCr_x f) (zCr_c f h.2.2.2.2)
theorem zc_turX {ph : pm_H} {E : zEn} {F P G : Nat} {v : Nat → Nat} (hS : zSh ph) (hE : zCe ph E F) (ht : zCt ph 25 P G v) (hO : zOk E.1 E.2.1 P G v) (hr : zc ph 10 1 = some (.ref F)) (hc : zCc ph E.1 E.2.1 E.2.2.1) : zM 159 [.ref 0] ph (fun v0 _ => v0 = some (.int (zXtur E P G v))) := by
  obtain ⟨Q, hQ⟩ : ∃ Q : Option Value → pm_H → Prop, Q = (fun v0 _ => v0 = some (.int (zXtur E P G v))) := ⟨_, rfl⟩
  rw [← hQ]
  refine zM_mk fun n D => ?_
  show zW n D 159 Q 0 [some (.ref 0), none, none, none] [] ph
  have c_0 : ((Int8.ofInt (-2)).toInt32).toInt = -2 := by decide
  have c_1 : ((Int8.ofInt 8).toInt32).toInt = 8 := by decide
  have c_2 : (Int32.ofInt 0).toInt = 0 := by decide
  have c_3 : (Int32.ofInt 1).toInt = 1 := by decide
  obtain ⟨R, C, rk, sn, sk, cn, cd⟩ := E
  have nw0 : zNw ph (R, C, rk, sn, sk, cn, cd) F P G v := ⟨hS, hE, ht, hr, hc⟩
  have hP8 : P ≤ 8 := ht.2.2.1
  have hG8 : G ≤ 8 := ht.2.2.2.2.1
  have hO0 : zOk R C P G v := hO
  have tP := znt (k := P) (by omega)
  refine w_alu (pc' := 1) (st' := [.int (Int32.ofInt 0)]) (ykc_159 (e := (0, .iconst 0, 0)) rfl) rfl rfl ?_
  refine w_store (pc' := 2) (L' := [some (.ref 0), some (.int (Int32.ofInt 0)), none, none]) (st' := []) (m := 1) (ykc_159 (e := (3, .istore_n kF1, 0)) rfl) rfl rfl ?_
  have hl : ∀ (n : Nat), ∀ (i : Nat) (o2 o3 : Option Value) (ph1 : pm_H), (i ≤ P) → (zSh ph1) → (zNw ph1 (R, C, rk, sn, sk, cn, cd) F P G v) → (∀ p, p < i → ∀ k, k < 8 → zc ph1 165 (p * 8 + k) = some (.int (zn (zTs (R, C, rk, sn, sk, cn, cd) G v P p k)))) → zW n D 159 Q 2 [some (.ref 0), some (.int (zn i)), o2, o3] [] ph1 := by
    intro n
    induction n using Nat.strongRecOn with
    | ind n ih =>
      intro i o2 o3 ph1 hi hS nw hg
      have ti := znt (k := i) (by omega)
      refine w_load (pc' := 3) (v := .int (zn i)) (m := 1) (ykc_159 (e := (2, .iload_n kF1, 0)) rfl) rfl rfl ?_
      refine w_load (pc' := 4) (v := .ref 0) (m := 1) (ykc_159 (e := (2, .aload_n kF0, 0)) rfl) rfl rfl ?_
      refine w_gf (pc' := 7) (v := .ref 25) (ykc_159 (e := (5, .getfield 42, 0)) rfl) rfl (zsg hS zs_0_4) rfl ?_
      refine w_gf (pc' := 10) (v := .int (zn P)) (ykc_159 (e := (5, .getfield 130, 0)) rfl) rfl nw.2.2.1.2.1 rfl ?_
      refine w_ige (ykc_159 (e := (4, .if_icmp .ge 59, 69)) rfl) rfl (fun b1354 => ?_) (fun b1354 => ?_)
      · refine w_load (pc' := 70) (v := .ref 0) (m := 1) (ykc_159 (e := (2, .aload_n kF0, 0)) rfl) rfl rfl ?_
        refine w_gf (pc' := 73) (v := .ref 164) (ykc_159 (e := (5, .getfield 83, 0)) rfl) rfl (zsg hS zs_0_11) rfl ?_
        refine w_load (pc' := 74) (v := .ref 0) (m := 1) (ykc_159 (e := (2, .aload_n kF0, 0)) rfl) rfl rfl ?_
        refine w_gf (pc' := 77) (v := .ref 25) (ykc_159 (e := (5, .getfield 42, 0)) rfl) rfl (zsg hS zs_0_4) rfl ?_
        have hg5 : ∀ p, p < P → ∀ k, k < 8 → zTs (R, C, rk, sn, sk, cn, cd) G v P p k < 2 ^ G ∧ zc ph1 165 (p * 8 + k) = some (.int (zn (zTs (R, C, rk, sn, sk, cn, cd) G v P p k))) := fun p hp k hk => ⟨zTs_lt, hg p (by omega) k hk⟩
        refine w_cv (as := [.ref 164, .ref 25]) (r := []) (ykc_159 (e := (6, .invokevirtual 352, 0)) rfl) rfl rfl rfl rfl (zc_fewest nw.1 nw.2.2.1.2 (sh := zTs (R, C, rk, sn, sk, cn, cd) G v P) hG8 (fun p hp => (hO0.1 p hp).2.1) hg5) (fun v1355 ph1356 hv => ?_)
        obtain ⟨T, z9, eT, rfl, hz⟩ := hv
        show zW n D 159 Q 80 [some (.ref 0), some (.int (zn i)), o2, o3] [.int z9] ph1356
        refine w_store (pc' := 81) (L' := [some (.ref 0), some (.int z9), o2, o3]) (st' := []) (m := 1) (ykc_159 (e := (3, .istore_n kF1, 0)) rfl) rfl rfl ?_
        refine w_load (pc' := 82) (v := .int z9) (m := 1) (ykc_159 (e := (2, .iload_n kF1, 0)) rfl) rfl rfl ?_
        refine w_zge (ykc_159 (e := (4, .ifCond .ge 6, 88)) rfl) rfl (fun b1357 => ?_) (fun b1357 => ?_)
        · have hT : T < 100 ∧ z9 = zn T := by
            rcases hz with h | ⟨h1, h2⟩
            · exact h
            · subst h2
              exact absurd (show (Int32.ofInt (-1)).toInt = -1 by decide) (by omega)
          rw [hQ]
          exact zTail kc_159 false 1 88 9999 (fun _ => rfl) (Or.inl ⟨_, rfl⟩) (by decide +kernel) (by decide) (by decide) rfl (by decide +kernel) (fun _ => (by rw [hT.2]; show _ = some (Value.int (if zTq (zTs (R, C, rk, sn, sk, cn, cd) G v P) (fun p => v (8 + p)) (2 ^ G - 1) 100 P P 0 < 100 then zn (zTq (zTs (R, C, rk, sn, sk, cn, cd) G v P) (fun p => v (8 + p)) (2 ^ G - 1) 100 P P 0) else (Int8.ofInt (-2)).toInt32)); rw [← eT, if_pos hT.1]))
        · refine w_push (pc' := 87) (v := .int ((Int8.ofInt (-2)).toInt32)) (m := 2) (ykc_159 (e := (1, .bipush (-2), 0)) rfl) rfl rfl ?_
          refine w_ret (v := (some (.int ((Int8.ofInt (-2)).toInt32)))) (ykc_159 (e := (7, .ireturn, 0)) rfl) (zr_v rfl) ?_
          rw [hQ]
          have hT : 100 ≤ T := by
            rcases hz with ⟨h1, h2⟩ | h
            · subst h2
              have t9 := znt (k := T) (by omega)
              omega
            · exact h.1
          show _ = some (Value.int (if zTq (zTs (R, C, rk, sn, sk, cn, cd) G v P) (fun p => v (8 + p)) (2 ^ G - 1) 100 P P 0 < 100 then zn (zTq (zTs (R, C, rk, sn, sk, cn, cd) G v P) (fun p => v (8 + p)) (2 ^ G - 1) 100 P P 0) else (Int8.ofInt (-2)).toInt32))
          rw [← eT, if_neg (by omega)]
      · refine w_load (pc' := 14) (v := .ref 0) (m := 1) (ykc_159 (e := (2, .aload_n kF0, 0)) rfl) rfl rfl ?_
        refine w_gf (pc' := 17) (v := .ref 10) (ykc_159 (e := (5, .getfield 35, 0)) rfl) rfl (zsg hS zs_0_3) rfl ?_
        refine w_load (pc' := 18) (v := .ref 0) (m := 1) (ykc_159 (e := (2, .aload_n kF0, 0)) rfl) rfl rfl ?_
        refine w_gf (pc' := 21) (v := .ref 25) (ykc_159 (e := (5, .getfield 42, 0)) rfl) rfl (zsg hS zs_0_4) rfl ?_
        refine w_load (pc' := 22) (v := .int (zn i)) (m := 1) (ykc_159 (e := (2, .iload_n kF1, 0)) rfl) rfl rfl ?_
        refine w_cv (as := [.ref 10, .ref 25, .int (zn i)]) (r := []) (ykc_159 (e := (6, .invokevirtual 186, 0)) rfl) rfl rfl rfl rfl (zc_reachP nw.1 nw.2.1 nw.2.2.1 hO0 nw.2.2.2.1 (p := i) (by omega)) (fun v1358 ph1359 hv => ?_)
        obtain ⟨f1, rfl⟩ := hv
        have nw1 := zNw_r nw f1
        obtain ⟨re, ere⟩ : ∃ re, zRe (R, C, rk, sn, sk, cn, cd) P v i (v (16 + i)) = re := ⟨_, rfl⟩
        rw [ere]
        have hre : re ≤ 9 := by
          rw [← ere]
          exact zRe_9
        have tre := znt (k := re) (by omega)
        have hg1 : ∀ p, p < i → ∀ k, k < 8 → zc ph1359 165 (p * 8 + k) = some (.int (zn (zTs (R, C, rk, sn, sk, cn, cd) G v P p k))) := fun p hp k hk => (f1.1 165 (p * 8 + k) (by decide) (by simp)).trans (hg p hp k hk)
        show zW n D 159 Q 25 [some (.ref 0), some (.int (zn i)), o2, o3] [.int (zn re)] ph1359
        refine w_store (pc' := 26) (L' := [some (.ref 0), some (.int (zn i)), some (.int (zn re)), o3]) (st' := []) (m := 1) (ykc_159 (e := (3, .istore_n kF2, 0)) rfl) rfl rfl ?_
        refine w_alu (pc' := 27) (st' := [.int (Int32.ofInt 0)]) (ykc_159 (e := (0, .iconst 0, 0)) rfl) rfl rfl ?_
        refine w_store (pc' := 28) (L' := [some (.ref 0), some (.int (zn i)), some (.int (zn re)), some (.int (Int32.ofInt 0))]) (st' := []) (m := 1) (ykc_159 (e := (3, .istore_n kF3, 0)) rfl) rfl rfl ?_
        have iho := ih
        have hj : ∀ (n2 : Nat), n2 ≤ n → ∀ (j : Nat) (ph2 : pm_H), (j ≤ 8) → (zSh ph2) → (zNw ph2 (R, C, rk, sn, sk, cn, cd) F P G v) → (∀ p, p < i → ∀ k, k < 8 → zc ph2 165 (p * 8 + k) = some (.int (zn (zTs (R, C, rk, sn, sk, cn, cd) G v P p k)))) → (∀ k, k < j → zc ph2 165 (i * 8 + k) = some (.int (zn (zTs (R, C, rk, sn, sk, cn, cd) G v P i k)))) → zW n2 D 159 Q 28 [some (.ref 0), some (.int (zn i)), some (.int (zn re)), some (.int (zn j))] [] ph2 := by
          intro n2
          induction n2 using Nat.strongRecOn with
          | ind n2 ih =>
            intro hlim j ph2 hj hS nw2 hg2 hk2
            have tj := znt (k := j) (by omega)
            refine w_load (pc' := 29) (v := .int (zn j)) (m := 1) (ykc_159 (e := (2, .iload_n kF3, 0)) rfl) rfl rfl ?_
            refine w_push (pc' := 31) (v := .int ((Int8.ofInt 8).toInt32)) (m := 2) (ykc_159 (e := (1, .bipush 8, 0)) rfl) rfl rfl ?_
            refine w_ige (ykc_159 (e := (4, .if_icmp .ge 32, 63)) rfl) rfl (fun b1360 => ?_) (fun b1360 => ?_)
            · have e1361 : (zn i) + Int32.ofInt 1 = zn (i + 1) := (zaddN (a := i) (b := 1) (znt (by omega)) c_3 (by omega))
              have te1361 := znt (k := i + 1) (by omega)
              refine w_store (pc' := 66) (L' := [some (.ref 0), some (.int (zn (i + 1))), some (.int (zn re)), some (.int (zn j))]) (st' := []) (m := 3) (ykc_159 (e := (3, .iinc 1 1, 0)) rfl) (by rw [← e1361]; rfl) rfl ?_
              refine w_gb (ykc_159 (e := (4, .goto (-64), 2)) rfl) (fun k1362 hk1362 => ?_)
              exact iho k1362 (by omega) (i + 1) _ _ ph2 (by omega) hS nw2 (fun p hp k hk => by
                by_cases e : p = i
                · subst e
                  exact hk2 k (by omega)
                · exact hg2 p (by omega) k hk)
            · refine w_load (pc' := 35) (v := .ref 0) (m := 1) (ykc_159 (e := (2, .aload_n kF0, 0)) rfl) rfl rfl ?_
              refine w_gf (pc' := 38) (v := .ref 164) (ykc_159 (e := (5, .getfield 83, 0)) rfl) rfl (zsg hS zs_0_11) rfl ?_
              refine w_load (pc' := 39) (v := .int (zn i)) (m := 1) (ykc_159 (e := (2, .iload_n kF1, 0)) rfl) rfl rfl ?_
              refine w_load (pc' := 40) (v := .int (zn j)) (m := 1) (ykc_159 (e := (2, .iload_n kF3, 0)) rfl) rfl rfl ?_
              refine w_load (pc' := 41) (v := .ref 0) (m := 1) (ykc_159 (e := (2, .aload_n kF0, 0)) rfl) rfl rfl ?_
              refine w_gf (pc' := 44) (v := .ref 25) (ykc_159 (e := (5, .getfield 42, 0)) rfl) rfl (zsg hS zs_0_4) rfl ?_
              refine w_load (pc' := 45) (v := .ref 0) (m := 1) (ykc_159 (e := (2, .aload_n kF0, 0)) rfl) rfl rfl ?_
              refine w_load (pc' := 46) (v := .int (zn i)) (m := 1) (ykc_159 (e := (2, .iload_n kF1, 0)) rfl) rfl rfl ?_
              refine w_load (pc' := 47) (v := .int (zn j)) (m := 1) (ykc_159 (e := (2, .iload_n kF3, 0)) rfl) rfl rfl ?_
              refine w_load (pc' := 48) (v := .int (zn re)) (m := 1) (ykc_159 (e := (2, .iload_n kF2, 0)) rfl) rfl rfl ?_
              refine w_cv (as := [.ref 0, .int (zn i), .int (zn j), .int (zn re)]) (r := [.ref 25, .int (zn j), .int (zn i), .ref 164]) (ykc_159 (e := (6, .invokevirtual 341, 0)) rfl) rfl rfl rfl rfl (zc_viewF nw2.1 nw2.2.1 nw2.2.2.1 hO0 nw2.2.2.2.1 nw2.2.2.2.2 (p := i) (fc := j) (re := re) (by omega) (by omega) (by omega)) (fun v1363 ph1364 hv => ?_)
              obtain ⟨f2, hc2, rfl⟩ := hv
              have nw3 := zNw_x nw2 f2 hc2
              have hg3 : ∀ p, p < i → ∀ k, k < 8 → zc ph1364 165 (p * 8 + k) = some (.int (zn (zTs (R, C, rk, sn, sk, cn, cd) G v P p k))) := fun p hp k hk => (f2.1 165 (p * 8 + k) (by decide) (by simp)).trans (hg2 p hp k hk)
              have hk3 : ∀ k, k < j → zc ph1364 165 (i * 8 + k) = some (.int (zn (zTs (R, C, rk, sn, sk, cn, cd) G v P i k))) := fun k hk => (f2.1 165 (i * 8 + k) (by decide) (by simp)).trans (hk2 k hk)
              show zW n2 D 159 Q 51 [some (.ref 0), some (.int (zn i)), some (.int (zn re)), some (.int (zn j))] [.long (zS (fun g => zsee C rk (v i) g j (v (16 + i)) re) (R * C)), .ref 25, .int (zn j), .int (zn i), .ref 164] ph1364
              refine w_cv (as := [.ref 25, .long (zS (fun g => zsee C rk (v i) g j (v (16 + i)) re) (R * C))]) (r := [.int (zn j), .int (zn i), .ref 164]) (ykc_159 (e := (6, .invokevirtual 194, 0)) rfl) rfl rfl rfl rfl (zc_ton nw3.2.2.1.1.2 nw3.2.2.1.2 (x := zS (fun g => zsee C rk (v i) g j (v (16 + i)) re) (R * C)) (fun t ht => by have := hO0.2.1 t ht; have h9 := zRC49 (R := R) (C := C) nw3.2.1.1.2.2.2.2.2.2.1 nw3.2.1.1.2.2.2.2.2.2.2.2; omega)) (fun v1365 ph1366 hv => ?_)
              obtain ⟨rfl, rfl⟩ := hv
              rw [show zTon G v (zS (fun g => zsee C rk (v i) g j (v (16 + i)) re) (R * C)) = zn (zTs (R, C, rk, sn, sk, cn, cd) G v P i j) from by
                rw [← ere, zXth_c (E := (R, C, rk, sn, sk, cn, cd)) (by have h9 := zRC49 (R := R) (C := C) nw3.2.1.1.2.2.2.2.2.2.1 nw3.2.1.1.2.2.2.2.2.2.2.2; show R * C ≤ 64; omega) hO0.2.1]
                exact zT_N hG8]
              show zW n2 D 159 Q 54 [some (.ref 0), some (.int (zn i)), some (.int (zn re)), some (.int (zn j))] [.int (zn (zTs (R, C, rk, sn, sk, cn, cd) G v P i j)), .int (zn j), .int (zn i), .ref 164] ph1364
              refine w_cv (as := [.ref 164, .int (zn i), .int (zn j), .int (zn (zTs (R, C, rk, sn, sk, cn, cd) G v P i j))]) (r := []) (ykc_159 (e := (6, .invokevirtual 349, 0)) rfl) rfl rfl rfl rfl (zc_set nw3.1 (p := i) (k := j) (a := zTs (R, C, rk, sn, sk, cn, cd) G v P i j) (by omega) (by omega) (zp8 hG8 zTs_lt)) (fun v1367 ph1368 hv => ?_)
              obtain ⟨rfl, u3⟩ := hv
              have nw4 := zNw_s nw3 u3
              show zW n2 D 159 Q 57 [some (.ref 0), some (.int (zn i)), some (.int (zn re)), some (.int (zn j))] [] ph1368
              have e1369 : (zn j) + Int32.ofInt 1 = zn (j + 1) := (zaddN (a := j) (b := 1) (znt (by omega)) c_3 (by omega))
              have te1369 := znt (k := j + 1) (by omega)
              refine w_store (pc' := 60) (L' := [some (.ref 0), some (.int (zn i)), some (.int (zn re)), some (.int (zn (j + 1)))]) (st' := []) (m := 3) (ykc_159 (e := (3, .iinc 3 1, 0)) rfl) (by rw [← e1369]; rfl) rfl ?_
              refine w_gb (ykc_159 (e := (4, .goto (-32), 28)) rfl) (fun k1370 hk1370 => ?_)
              exact ih k1370 hk1370 (by omega) (j + 1) ph1368 (by omega) nw4.1 nw4 (fun p hp k hk => (u3.2.1 165 (p * 8 + k) (fun q => by have := q.2; omega)).trans (hg3 p hp k hk)) (fun k hk => by
                by_cases e : k = j
                · subst e
                  exact u3.1
                · exact (u3.2.1 165 (i * 8 + k) (fun q => by have := q.2; omega)).trans (hk3 k (by omega)))
        exact hj n (Nat.le_refl _) 0 ph1359 (Nat.zero_le 8) nw1.1 nw1 hg1 (fun k hk => absurd hk (Nat.not_lt_zero k))
  exact hl n 0 _ _ ph (Nat.zero_le _) nw0.1 nw0 (fun p hp => absurd hp (Nat.not_lt_zero p))
def zNm (ph : pm_H) (E : zEn) (P G : Nat) (v : Nat → Nat) : Prop := zSh ph ∧ zMe ph E ∧ zMp ph P G ∧ zNr ph 174 0 v
theorem zNm_F {A : List Nat} {F : List (Nat × Nat)} {ph q : pm_H} {E : zEn} {P G : Nat} {v : Nat → Nat} (f : zFr A F ph q) (h0 : zok A F = true) (h1 : (170, 3) ∉ F ∧ (170, 4) ∉ F ∧ (170, 5) ∉ F ∧ (170, 6) ∉ F ∧ (170, 8) ∉ F ∧ (170, 23) ∉ F) (h2 : ∀ i, (172, i) ∉ F ∧ (173, i) ∉ F ∧ (179, i) ∉ F ∧ (174, i) ∉ F) (h3 : 170 ∉ A ∧ 172 ∉ A ∧ 173 ∉ A ∧ 179 ∉ A ∧ 174 ∉ A) (h : zNm ph E P G v) : zNm q E P G v := by
  obtain ⟨hS, hE, hN, hv⟩ := h
  exact ⟨zSh_F f h0 hS, ⟨zMl_F f h1.1 h1.2.1 (fun i => (h2 i).1) ⟨h3.1, h3.2.1⟩ hE.1, zMr_F f h1.2.2.2.2.1 h1.2.2.2.2.2 (fun i => ⟨(h2 i).2.1, (h2 i).2.2.1⟩) ⟨h3.1, h3.2.2.1, h3.2.2.2.1⟩ hE.2.1, hE.2.2⟩, zMp_F f h1.2.2.1 h1.2.2.2.1 h3.1 hN, zNr_F f (fun i => (h2 i).2.2.2) h3.2.2.2.2 hv⟩
theorem zplace : ∀ p, p < 9 → ∀ s, s < 256 → (zn p <<< ((Int8.ofInt 8).toInt32 &&& 31)) ||| zn s = zn (p * 256 + s) := by decide +kernel
theorem z1e6 : (1000000 : Int32) = zn 1000000 := by decide
theorem zm_place {ph : pm_H} {p s : Nat} (hp : p < 9) (hs : s < 256) : zM 274 [.int (zn p), .int (zn s)] ph (fun v0 q => ph = q ∧ v0 = some (.int (zn (p * 256 + s)))) := by
  obtain ⟨Q, hQ⟩ : ∃ Q : Option Value → pm_H → Prop, Q = (fun v0 q => ph = q ∧ v0 = some (.int (zn (p * 256 + s)))) := ⟨_, rfl⟩
  rw [← hQ]
  refine zM_mk fun n D => ?_
  show zW n D 274 Q 0 [some (.int (zn p)), some (.int (zn s))] [] ph
  have c_0 : ((Int8.ofInt 8).toInt32).toInt = 8 := by decide
  refine w_load (pc' := 1) (v := .int (zn p)) (m := 1) (ykc_274 (e := (2, .iload_n kF0, 0)) rfl) rfl rfl ?_
  refine w_push (pc' := 3) (v := .int ((Int8.ofInt 8).toInt32)) (m := 2) (ykc_274 (e := (1, .bipush 8, 0)) rfl) rfl rfl ?_
  refine w_alu (pc' := 4) (st' := [.int ((zn p) <<< (((Int8.ofInt 8).toInt32) &&& 31))]) (ykc_274 (e := (0, .ishl, 0)) rfl) rfl rfl ?_
  refine w_load (pc' := 5) (v := .int (zn s)) (m := 1) (ykc_274 (e := (2, .iload_n kF1, 0)) rfl) rfl rfl ?_
  refine w_alu (pc' := 6) (st' := [.int (((zn p) <<< (((Int8.ofInt 8).toInt32) &&& 31)) ||| (zn s))]) (ykc_274 (e := (0, .ior, 0)) rfl) rfl rfl ?_
  refine w_ret (v := (some (.int (((zn p) <<< (((Int8.ofInt 8).toInt32) &&& 31)) ||| (zn s))))) (ykc_274 (e := (7, .ireturn, 0)) rfl) (zr_v rfl) ?_
  rw [hQ]
  exact ⟨rfl, by rw [← zplace p hp s hs]⟩
theorem zm_fewW {ph : pm_H} {P : Nat} {v : Nat → Nat} (hS : zSh ph) (hv : zNr ph 174 0 v) {p s k a b : Nat} (hp : p < P) (hP8 : P ≤ 8) (hs : s < 256) (hk : k < 8) (ha : a < 256) (hb : b ≤ 1000000) (h8 : v (8 + p) < 8) (h1 : zc ph 190 (8 * p + k) = some (.int (zn a))) (h2 : zc ph 191 ((p + 1) * 256 + (s ||| a)) = some (.int (zn b))) : zM 275 [.ref 170, .int (zn p), .int (zn s), .int (zn k)] ph (fun v0 q => ph = q ∧ v0 = some (.int (zn ((if k = v (8 + p) then 0 else 1) + b)))) := by
  obtain ⟨Q, hQ⟩ : ∃ Q : Option Value → pm_H → Prop, Q = (fun v0 q => ph = q ∧ v0 = some (.int (zn ((if k = v (8 + p) then 0 else 1) + b)))) := ⟨_, rfl⟩
  rw [← hQ]
  refine zM_mk fun n D => ?_
  show zW n D 275 Q 0 [some (.ref 170), some (.int (zn p)), some (.int (zn s)), some (.int (zn k))] [] ph
  have c_0 : ((Int8.ofInt 8).toInt32).toInt = 8 := by decide
  have c_1 : (Int32.ofInt 0).toInt = 0 := by decide
  have c_2 : (Int32.ofInt 1).toInt = 1 := by decide
  have tp := znt (k := p) (by omega)
  have ts := znt (k := s) (by omega)
  have tk := znt (k := k) (by omega)
  have ta := znt (k := a) (by omega)
  have tb := znt (k := b) (by omega)
  have t8 := znt (k := v (8 + p)) (by omega)
  have hsa := zor_lt hs ha
  have tsa := znt (k := s ||| a) (by omega)
  refine w_load (pc' := 1) (v := .ref 170) (m := 1) (ykc_275 (e := (2, .aload_n kF0, 0)) rfl) rfl rfl ?_
  refine w_gf (pc' := 4) (v := .ref 191) (ykc_275 (e := (5, .getfield 92, 0)) rfl) rfl (zsg hS zs_170_37) rfl ?_
  refine w_load (pc' := 5) (v := .int (zn p)) (m := 1) (ykc_275 (e := (2, .iload_n kF1, 0)) rfl) rfl rfl ?_
  refine w_alu (pc' := 6) (st' := [.int (Int32.ofInt 1), .int (zn p), .ref 191]) (ykc_275 (e := (0, .iconst 1, 0)) rfl) rfl rfl ?_
  have e1371 : (zn p) + (Int32.ofInt 1) = zn (p + 1) := (zaddN (a := p) (b := 1) (znt (by omega)) c_2 (by omega)) 
  have te1371 := znt (k := p + 1) (by omega)
  refine w_alu (pc' := 7) (st' := [.int (zn (p + 1)), .ref 191]) (ykc_275 (e := (0, .iadd, 0)) rfl) (by rw [← e1371]; rfl) rfl ?_
  refine w_load (pc' := 8) (v := .int (zn s)) (m := 1) (ykc_275 (e := (2, .iload_n kF2, 0)) rfl) rfl rfl ?_
  refine w_load (pc' := 9) (v := .ref 170) (m := 1) (ykc_275 (e := (2, .aload_n kF0, 0)) rfl) rfl rfl ?_
  refine w_gf (pc' := 12) (v := .ref 190) (ykc_275 (e := (5, .getfield 89, 0)) rfl) rfl (zsg hS zs_170_36) rfl ?_
  refine w_push (pc' := 14) (v := .int ((Int8.ofInt 8).toInt32)) (m := 2) (ykc_275 (e := (1, .bipush 8, 0)) rfl) rfl rfl ?_
  refine w_load (pc' := 15) (v := .int (zn p)) (m := 1) (ykc_275 (e := (2, .iload_n kF1, 0)) rfl) rfl rfl ?_
  have e1372 : ((Int8.ofInt 8).toInt32) * (zn p) = zn (8 * p) := zn_of (by rw [ti_mul (by rw [show ((Int8.ofInt 8).toInt32).toInt = (8 : Int) by omega, show (zn p).toInt = ((p : Nat) : Int) by omega]; omega) (by rw [show ((Int8.ofInt 8).toInt32).toInt = (8 : Int) by omega, show (zn p).toInt = ((p : Nat) : Int) by omega]; omega), show ((Int8.ofInt 8).toInt32).toInt = (8 : Int) by omega, show (zn p).toInt = ((p : Nat) : Int) by omega] <;> omega)
  have te1372 := znt (k := 8 * p) (by omega)
  refine w_alu (pc' := 16) (st' := [.int (zn (8 * p)), .ref 190, .int (zn s), .int (zn (p + 1)), .ref 191]) (ykc_275 (e := (0, .imul, 0)) rfl) (by rw [← e1372]; rfl) rfl ?_
  refine w_load (pc' := 17) (v := .int (zn k)) (m := 1) (ykc_275 (e := (2, .iload_n kF3, 0)) rfl) rfl rfl ?_
  have e1373 : (zn (8 * p)) + (zn k) = zn (8 * p + k) := (zaddN (a := 8 * p) (b := k) (znt (by omega)) (znt (by omega)) (by omega)) 
  have te1373 := znt (k := 8 * p + k) (by omega)
  refine w_alu (pc' := 18) (st' := [.int (zn (8 * p + k)), .ref 190, .int (zn s), .int (zn (p + 1)), .ref 191]) (ykc_275 (e := (0, .iadd, 0)) rfl) (by rw [← e1373]; rfl) rfl ?_
  refine w_ialk (pc' := 19) (k := 8 * p + k) (ykc_275 (e := (5, .iaload, 0)) rfl) h1 (by omega) rfl ?_
  refine w_alu (pc' := 20) (st' := [.int ((zn s) ||| (zn a)), .int (zn (p + 1)), .ref 191]) (ykc_275 (e := (0, .ior, 0)) rfl) rfl rfl ?_
  rw [zor_n hs ha]
  have tpl := znt (k := (p + 1) * 256 + (s ||| a)) (by omega)
  refine w_cs (as := [.int (zn (p + 1)), .int (zn (s ||| a))]) (r := [.ref 191]) (ykc_275 (e := (6, .invokestatic 437, 0)) rfl) rfl rfl rfl rfl (zm_place (p := p + 1) (s := s ||| a) (by omega) (by omega)) (fun v1374 ph1375 hv => ?_)
  obtain ⟨rfl, rfl⟩ := hv
  show zW n D 275 Q 23 [some (.ref 170), some (.int (zn p)), some (.int (zn s)), some (.int (zn k))] [.int (zn ((p + 1) * 256 + (s ||| a))), .ref 191] ph
  refine w_ialk (pc' := 24) (k := (p + 1) * 256 + (s ||| a)) (ykc_275 (e := (5, .iaload, 0)) rfl) h2 (by omega) rfl ?_
  refine w_load (pc' := 25) (v := .int (zn k)) (m := 1) (ykc_275 (e := (2, .iload_n kF3, 0)) rfl) rfl rfl ?_
  refine w_load (pc' := 26) (v := .ref 170) (m := 1) (ykc_275 (e := (2, .aload_n kF0, 0)) rfl) rfl rfl ?_
  refine w_gf (pc' := 29) (v := .ref 174) (ykc_275 (e := (5, .getfield 41, 0)) rfl) rfl (zsg hS zs_170_11) rfl ?_
  refine w_push (pc' := 31) (v := .int ((Int8.ofInt 8).toInt32)) (m := 2) (ykc_275 (e := (1, .bipush 8, 0)) rfl) rfl rfl ?_
  refine w_load (pc' := 32) (v := .int (zn p)) (m := 1) (ykc_275 (e := (2, .iload_n kF1, 0)) rfl) rfl rfl ?_
  have e1376 : ((Int8.ofInt 8).toInt32) + (zn p) = zn (8 + p) := (zaddN (a := 8) (b := p) c_0 (znt (by omega)) (by omega)) 
  have te1376 := znt (k := 8 + p) (by omega)
  refine w_alu (pc' := 33) (st' := [.int (zn (8 + p)), .ref 174, .int (zn k), .int (zn b)]) (ykc_275 (e := (0, .iadd, 0)) rfl) (by rw [← e1376]; rfl) rfl ?_
  refine w_ialk (pc' := 34) (k := 8 + p) (ykc_275 (e := (5, .iaload, 0)) rfl) (zNr0 hv (i := 8 + p) (by omega)) (by omega) rfl ?_
  refine w_ieq (ykc_275 (e := (4, .if_icmp .eq 7, 41)) rfl) rfl (fun b1377 => ?_) (fun b1377 => ?_)
  · refine w_alu (pc' := 42) (st' := [.int (Int32.ofInt 0), .int (zn b)]) (ykc_275 (e := (0, .iconst 0, 0)) rfl) rfl rfl ?_
    refine w_cs (as := [.int (Int32.ofInt 0)]) (r := [.int (zn b)]) (ykc_275 (e := (6, .invokestatic 154, 0)) rfl) rfl rfl rfl rfl (zm_flag (b := false)) (fun v1378 ph1379 hv => ?_)
    obtain ⟨rfl, rfl⟩ := hv
    show zW n D 275 Q 45 [some (.ref 170), some (.int (zn p)), some (.int (zn s)), some (.int (zn k))] [.int (Int32.ofInt 0), .int (zn b)] ph
    have e1380 : (zn b) + (Int32.ofInt 0) = zn (b + 0) := (zaddN (a := b) (b := 0) (znt (by omega)) c_1 (by omega)) 
    have te1380 := znt (k := b + 0) (by omega)
    refine w_alu (pc' := 46) (st' := [.int (zn (b + 0))]) (ykc_275 (e := (0, .iadd, 0)) rfl) (by rw [← e1380]; rfl) rfl ?_
    refine w_ret (v := (some (.int (zn (b + 0))))) (ykc_275 (e := (7, .ireturn, 0)) rfl) (zr_v rfl) ?_
    rw [hQ]
    exact ⟨rfl, by rw [if_pos (by omega), Nat.add_comm]⟩
  · refine w_alu (pc' := 38) (st' := [.int (Int32.ofInt 1), .int (zn b)]) (ykc_275 (e := (0, .iconst 1, 0)) rfl) rfl rfl ?_
    refine w_br (pc' := 42) (st' := [.int (Int32.ofInt 1), .int (zn b)]) (ykc_275 (e := (4, .goto 4, 42)) rfl) rfl ?_
    refine w_cs (as := [.int (Int32.ofInt 1)]) (r := [.int (zn b)]) (ykc_275 (e := (6, .invokestatic 154, 0)) rfl) rfl rfl rfl rfl (zm_flag (b := true)) (fun v1381 ph1382 hv => ?_)
    obtain ⟨rfl, rfl⟩ := hv
    show zW n D 275 Q 45 [some (.ref 170), some (.int (zn p)), some (.int (zn s)), some (.int (zn k))] [.int (Int32.ofInt 1), .int (zn b)] ph
    have e1383 : (zn b) + (Int32.ofInt 1) = zn (b + 1) := (zaddN (a := b) (b := 1) (znt (by omega)) c_2 (by omega)) 
    have te1383 := znt (k := b + 1) (by omega)
    refine w_alu (pc' := 46) (st' := [.int (zn (b + 1))]) (ykc_275 (e := (0, .iadd, 0)) rfl) (by rw [← e1383]; rfl) rfl ?_
    refine w_ret (v := (some (.int (zn (b + 1))))) (ykc_275 (e := (7, .ireturn, 0)) rfl) (zr_v rfl) ?_
    rw [hQ]
    exact ⟨rfl, by rw [if_neg (by omega), Nat.add_comm]⟩
theorem zm_turX {ph : pm_H} {E : zEn} {P G : Nat} {v : Nat → Nat} (hS : zSh ph) (hE : zMe ph E) (hN : zMp ph P G) (hv : zNr ph 174 0 v) (hO : zOk E.1 E.2.1 P G v) : zM 276 [.ref 170] ph (fun v0 _ => v0 = some (.int (zXtur E P G v))) := by
  obtain ⟨Q, hQ⟩ : ∃ Q : Option Value → pm_H → Prop, Q = (fun v0 _ => v0 = some (.int (zXtur E P G v))) := ⟨_, rfl⟩
  rw [← hQ]
  refine zM_mk fun n D => ?_
  show zW n D 276 Q 0 [some (.ref 170), none, none, none, none, none] [] ph
  have c_0 : ((1000000 : Int32)).toInt = 1000000 := by decide
  have c_1 : ((Int8.ofInt (-2)).toInt32).toInt = -2 := by decide
  have c_2 : ((Int8.ofInt 8).toInt32).toInt = 8 := by decide
  have c_3 : (Int32.ofInt (-1)).toInt = -1 := by decide
  have c_4 : (Int32.ofInt 0).toInt = 0 := by decide
  have c_5 : (Int32.ofInt 1).toInt = 1 := by decide
  have hA : (174 : Nat) = 174 ∨ (174 : Nat) = 175 := Or.inl rfl
  obtain ⟨R, C, rk, sn, sk, cn, cd⟩ := E
  have hL0 : zMl ph R C rk := hE.1
  have hR0 : zMr ph sn sk cn cd := hE.2.1
  have hcg : zcg cn cd := hE.2.2
  have hE0 : zMe ph (R, C, rk, sn, sk, cn, cd) := hE
  have hO0 : zOk R C P G v := hO
  have hN0 := hN
  have hL := hL0
  have hR := hR0
  obtain ⟨gR, gC, gK, hR3, hR7, hC3, hC7⟩ := hL
  have hRC := zRC49 hR7 hC7
  have tR := znt (k := R) (by omega)
  have tC := znt (k := C) (by omega)
  obtain ⟨gP, hP8, gG, hG8⟩ := hN
  have tP := znt (k := P) (by omega)
  have tG := znt (k := G) (by omega)
  obtain ⟨gsn, hs1, hs20, gsk, gcn, hc40, gcd⟩ := hR
  have tsn := znt (k := sn) (by omega)
  have tcn := znt (k := cn) (by omega)
  refine w_load (pc' := 1) (v := .ref 170) (m := 1) (ykc_276 (e := (2, .aload_n kF0, 0)) rfl) rfl rfl ?_
  refine w_alu (pc' := 2) (st' := [.int (Int32.ofInt 0), .ref 170]) (ykc_276 (e := (0, .iconst 0, 0)) rfl) rfl rfl ?_
  refine w_pf (pc' := 5) (ykc_276 (e := (5, .putfield 3, 0)) rfl) rfl rfl (fun ph1385 u1384 => ?_)
  have f0 : zFr [] [(170, 0)] ph ph1385 := zFr_st u1384 (Or.inr (by simp))
  have hS1 := zSh_st u1384 (by decide +kernel) hS
  have hE1 : zMe ph1385 (R, C, rk, sn, sk, cn, cd) := ⟨zMl_F f0 (by simp) (by simp) (by simp) (by simp) hE0.1, zMr_F f0 (by simp) (by simp) (by simp) (by simp) hE0.2.1, hE0.2.2⟩
  have hN1 := zMp_F f0 (by simp) (by simp) (by simp) hN0
  have hv1 := zNr_F f0 (by simp) (by simp) hv
  have hL1 : zMl ph1385 R C rk := hE1.1
  have hR1 : zMr ph1385 sn sk cn cd := hE1.2.1
  have hP8 : P ≤ 8 := hN0.2.1
  have hG8 : G ≤ 8 := hN0.2.2.2
  have nm0 : zNm ph1385 (R, C, rk, sn, sk, cn, cd) P G v := ⟨hS1, hE1, hN1, hv1⟩
  refine w_alu (pc' := 6) (st' := [.int (Int32.ofInt 0)]) (ykc_276 (e := (0, .iconst 0, 0)) rfl) rfl rfl ?_
  refine w_store (pc' := 7) (L' := [some (.ref 170), some (.int (Int32.ofInt 0)), none, none, none, none]) (st' := []) (m := 1) (ykc_276 (e := (3, .istore_n kF1, 0)) rfl) rfl rfl ?_
  have hl : ∀ (n : Nat), ∀ (i : Nat) (o2 o3 o4 o5 : Option Value) (ph1 : pm_H), (i ≤ P) → (zSh ph1) → (zNm ph1 (R, C, rk, sn, sk, cn, cd) P G v) → (∀ p, p < i → ∀ k, k < 8 → zc ph1 190 (8 * p + k) = some (.int (zn (zTs (R, C, rk, sn, sk, cn, cd) G v P p k)))) → zW n D 276 Q 7 [some (.ref 170), some (.int (zn i)), o2, o3, o4, o5] [] ph1 := by
    intro n
    induction n using Nat.strongRecOn with
    | ind n ih =>
      intro i o2 o3 o4 o5 ph1 hi hS nw hg
      have ti := znt (k := i) (by omega)
      refine w_load (pc' := 8) (v := .int (zn i)) (m := 1) (ykc_276 (e := (2, .iload_n kF1, 0)) rfl) rfl rfl ?_
      refine w_load (pc' := 9) (v := .ref 170) (m := 1) (ykc_276 (e := (2, .aload_n kF0, 0)) rfl) rfl rfl ?_
      refine w_gf (pc' := 12) (v := .int (zn P)) (ykc_276 (e := (5, .getfield 130, 0)) rfl) rfl nw.2.2.1.1 rfl ?_
      refine w_ige (ykc_276 (e := (4, .if_icmp .ge 40, 52)) rfl) rfl (fun b1386 => ?_) (fun b1386 => ?_)
      · refine w_alu (pc' := 53) (st' := [.int (Int32.ofInt 1)]) (ykc_276 (e := (0, .iconst 1, 0)) rfl) rfl rfl ?_
        refine w_load (pc' := 54) (v := .ref 170) (m := 1) (ykc_276 (e := (2, .aload_n kF0, 0)) rfl) rfl rfl ?_
        refine w_gf (pc' := 57) (v := .int (zn G)) (ykc_276 (e := (5, .getfield 133, 0)) rfl) rfl nw.2.2.1.2.2.1 rfl ?_
        refine w_alu (pc' := 58) (st' := [.int ((Int32.ofInt 1) <<< ((zn G) &&& 31))]) (ykc_276 (e := (0, .ishl, 0)) rfl) rfl rfl ?_
        refine w_alu (pc' := 59) (st' := [.int (Int32.ofInt 1), .int ((Int32.ofInt 1) <<< ((zn G) &&& 31))]) (ykc_276 (e := (0, .iconst 1, 0)) rfl) rfl rfl ?_
        refine w_alu (pc' := 60) (st' := [.int (((Int32.ofInt 1) <<< ((zn G) &&& 31)) - (Int32.ofInt 1))]) (ykc_276 (e := (0, .isub, 0)) rfl) rfl rfl ?_
        have hf := zful2 G (by omega)
        have hM1 := @zpow1 G
        obtain ⟨M, eM⟩ : ∃ M, 2 ^ G - 1 = M := ⟨_, rfl⟩
        rw [eM] at hf hM1
        have hM8 : M < 256 := by have := zp8 hG8 (show M < 2 ^ G by omega); omega
        have tM := znt (k := M) (by omega)
        rw [hf]
        obtain ⟨sh, esh⟩ : ∃ sh, zTs (R, C, rk, sn, sk, cn, cd) G v P = sh := ⟨_, rfl⟩
        rw [esh] at hg
        have hsh : ∀ p, p < P → ∀ k, k < 8 → sh p k < 2 ^ G ∧ zc ph1 190 (8 * p + k) = some (.int (zn (sh p k))) := fun p hp k hk => ⟨by rw [← esh]; exact zTs_lt, hg p (by omega) k hk⟩
        refine w_store (pc' := 61) (L' := [some (.ref 170), some (.int (zn M)), o2, o3, o4, o5]) (st' := []) (m := 1) (ykc_276 (e := (3, .istore_n kF1, 0)) rfl) rfl rfl ?_
        refine w_alu (pc' := 62) (st' := [.int (Int32.ofInt 0)]) (ykc_276 (e := (0, .iconst 0, 0)) rfl) rfl rfl ?_
        refine w_store (pc' := 63) (L' := [some (.ref 170), some (.int (zn M)), some (.int (Int32.ofInt 0)), o3, o4, o5]) (st' := []) (m := 1) (ykc_276 (e := (3, .istore_n kF2, 0)) rfl) rfl rfl ?_
        have ha : ∀ (n3 : Nat), ∀ (t : Nat) (o3 o4 o5 : Option Value) (ph3 : pm_H), (t ≤ M + 1) → (zFr [191] [] ph1 ph3) → (∀ s, s < t → zc ph3 191 (P * 256 + s) = some (.int (zn (if s = M then 0 else 1000000)))) → zW n3 D 276 Q 63 [some (.ref 170), some (.int (zn M)), some (.int (zn t)), o3, o4, o5] [] ph3 := by
          intro n3
          induction n3 using Nat.strongRecOn with
          | ind n3 ih =>
            intro t o3 o4 o5 ph3 ht hf1 hi3
            have tt := znt (k := t) (by omega)
            refine w_load (pc' := 64) (v := .int (zn t)) (m := 1) (ykc_276 (e := (2, .iload_n kF2, 0)) rfl) rfl rfl ?_
            refine w_load (pc' := 65) (v := .int (zn M)) (m := 1) (ykc_276 (e := (2, .iload_n kF1, 0)) rfl) rfl rfl ?_
            refine w_igt (ykc_276 (e := (4, .if_icmp .gt 34, 99)) rfl) rfl (fun b1387 => ?_) (fun b1387 => ?_)
            · have ht9 : t = M + 1 := by omega
              subst ht9
              refine w_load (pc' := 100) (v := .ref 170) (m := 1) (ykc_276 (e := (2, .aload_n kF0, 0)) rfl) rfl rfl ?_
              refine w_gf (pc' := 103) (v := .int (zn P)) (ykc_276 (e := (5, .getfield 130, 0)) rfl) rfl ((hf1.1 170 5 (by decide) (by simp)).trans nw.2.2.1.1) rfl ?_
              refine w_alu (pc' := 104) (st' := [.int (Int32.ofInt 1), .int (zn P)]) (ykc_276 (e := (0, .iconst 1, 0)) rfl) rfl rfl ?_
              obtain ⟨z1388, e_z1388, h_z1388⟩ : ∃ zq : Int32, (zn P) - (Int32.ofInt 1) = zq ∧ zq.toInt = ((P : Nat) : Int) - (1 : Int) := ⟨_, rfl, (by have := ti_sub (x := (zn P)) (y := (Int32.ofInt 1)) (by omega) (by omega); omega)⟩
              refine w_alu (pc' := 105) (st' := [.int z1388]) (ykc_276 (e := (0, .isub, 0)) rfl) (by rw [← e_z1388]; rfl) rfl ?_
              refine w_store (pc' := 106) (L' := [some (.ref 170), some (.int (zn M)), some (.int z1388), o3, o4, o5]) (st' := []) (m := 1) (ykc_276 (e := (3, .istore_n kF2, 0)) rfl) rfl rfl ?_
              have hb : ∀ (n4 : Nat), ∀ (k : Nat) (y : Int32) (o3 o4 o5 : Option Value) (ph4 : pm_H), (k ≤ P) → (y.toInt = (k : Int) - 1) → (zFr [191] [] ph1 ph4) → (∀ j, k ≤ j → j ≤ P → ∀ s, s ≤ M → zc ph4 191 (j * 256 + s) = some (.int (zn (zTq sh (fun p => v (8 + p)) M 1000000 P (P - j) s)))) → zW n4 D 276 Q 106 [some (.ref 170), some (.int (zn M)), some (.int y), o3, o4, o5] [] ph4 := by
                intro n4
                induction n4 using Nat.strongRecOn with
                | ind n4 ih =>
                  intro k y o3 o4 o5 ph4 hk hy hf2 hj
                  refine w_load (pc' := 107) (v := .int y) (m := 1) (ykc_276 (e := (2, .iload_n kF2, 0)) rfl) rfl rfl ?_
                  refine w_zlt (ykc_276 (e := (4, .ifCond .lt 70, 177)) rfl) rfl (fun b1389 => ?_) (fun b1389 => ?_)
                  · refine w_load (pc' := 178) (v := .ref 170) (m := 1) (ykc_276 (e := (2, .aload_n kF0, 0)) rfl) rfl rfl ?_
                    refine w_gf (pc' := 181) (v := .ref 191) (ykc_276 (e := (5, .getfield 92, 0)) rfl) rfl ((hf2.1 170 37 (by decide) (by decide)).trans (zsg hS zs_170_37)) rfl ?_
                    refine w_alu (pc' := 182) (st' := [.int (Int32.ofInt 0), .ref 191]) (ykc_276 (e := (0, .iconst 0, 0)) rfl) rfl rfl ?_
                    refine w_alu (pc' := 183) (st' := [.int (Int32.ofInt 0), .int (Int32.ofInt 0), .ref 191]) (ykc_276 (e := (0, .iconst 0, 0)) rfl) rfl rfl ?_
                    obtain rfl : k = 0 := by omega
                    have g0 : zc ph4 191 0 = some (.int (zn (zTq sh (fun p => v (8 + p)) M 1000000 P (P) 0))) := by
                      have h := hj 0 (Nat.le_refl 0) (Nat.zero_le P) 0 (Nat.zero_le M)
                      rw [Nat.zero_mul, Nat.zero_add, Nat.sub_zero] at h
                      exact h
                    have l0 : zTq sh (fun p => v (8 + p)) M 1000000 P (P) 0 ≤ 1000000 := zTq_le
                    have h2 := @zTq_2 sh (fun p => v (8 + p)) M 100 1000000 P (by decide) (by decide) P hP8 0
                    obtain ⟨T, eT⟩ : ∃ T, zTq sh (fun p => v (8 + p)) M 1000000 P (P) 0 = T := ⟨_, rfl⟩
                    rw [eT] at g0 l0 h2
                    have t0 := znt (k := T) (by omega)
                    refine w_cs (as := [.int (Int32.ofInt 0), .int (Int32.ofInt 0)]) (r := [.ref 191]) (ykc_276 (e := (6, .invokestatic 437, 0)) rfl) rfl rfl rfl rfl (zm_place (p := 0) (s := 0) (by omega) (by omega)) (fun v1390 ph1391 hv => ?_)
                    obtain ⟨rfl, rfl⟩ := hv
                    rw [show zn (0 * 256 + 0) = Int32.ofInt 0 from by decide]
                    show zW n4 D 276 Q 186 [some (.ref 170), some (.int (zn M)), some (.int y), o3, o4, o5] [.int (Int32.ofInt 0), .ref 191] ph4
                    refine w_ialk (pc' := 187) (k := 0) (ykc_276 (e := (5, .iaload, 0)) rfl) g0 (by omega) rfl ?_
                    refine w_store (pc' := 188) (L' := [some (.ref 170), some (.int (zn M)), some (.int (zn T)), o3, o4, o5]) (st' := []) (m := 1) (ykc_276 (e := (3, .istore_n kF2, 0)) rfl) rfl rfl ?_
                    refine w_load (pc' := 189) (v := .int (zn T)) (m := 1) (ykc_276 (e := (2, .iload_n kF2, 0)) rfl) rfl rfl ?_
                    refine w_push (pc' := 192) (v := .int (1000000 : Int32)) (m := 3) (ykc_276 (e := (1, .ldc_w 432, 0)) rfl) rfl rfl ?_
                    refine w_ilt (ykc_276 (e := (4, .if_icmp .lt 6, 198)) rfl) rfl (fun b1392 => ?_) (fun b1392 => ?_)
                    · have hT : T < 1000000 := by omega
                      have hT2 : zTq sh (fun p => v (8 + p)) M 100 P (P) 0 = T := by omega
                      have hT3 : T < 100 := by omega
                      rw [hQ]
                      exact zTail kc_276 false 2 198 9999 (fun _ => rfl) (Or.inl ⟨_, rfl⟩) (by decide +kernel) (by decide) (by decide) rfl (by decide +kernel) (fun _ => (by show _ = some (Value.int (if zTq (zTs (R, C, rk, sn, sk, cn, cd) G v P) (fun p => v (8 + p)) (2 ^ G - 1) 100 P P 0 < 100 then zn (zTq (zTs (R, C, rk, sn, sk, cn, cd) G v P) (fun p => v (8 + p)) (2 ^ G - 1) 100 P P 0) else (Int8.ofInt (-2)).toInt32)); rw [esh, eM, hT2, if_pos hT3]))
                    · refine w_push (pc' := 197) (v := .int ((Int8.ofInt (-2)).toInt32)) (m := 2) (ykc_276 (e := (1, .bipush (-2), 0)) rfl) rfl rfl ?_
                      refine w_ret (v := (some (.int ((Int8.ofInt (-2)).toInt32)))) (ykc_276 (e := (7, .ireturn, 0)) rfl) (zr_v rfl) ?_
                      have hT2 : zTq sh (fun p => v (8 + p)) M 100 P (P) 0 = 100 := by omega
                      rw [hQ]
                      show _ = some (Value.int (if zTq (zTs (R, C, rk, sn, sk, cn, cd) G v P) (fun p => v (8 + p)) (2 ^ G - 1) 100 P P 0 < 100 then zn (zTq (zTs (R, C, rk, sn, sk, cn, cd) G v P) (fun p => v (8 + p)) (2 ^ G - 1) 100 P P 0) else (Int8.ofInt (-2)).toInt32))
                      rw [esh, eM, hT2, if_neg (by decide)]
                  · obtain ⟨m, rfl⟩ : ∃ m, k = m + 1 := ⟨k - 1, by omega⟩
                    obtain rfl := zn_of (k := m) (show y.toInt = _ by omega)
                    have tm := znt (k := m) (by omega)
                    show zW n4 D 276 Q 110 [some (.ref 170), some (.int (zn M)), some (.int (zn m)), o3, o4, o5] [] ph4
                    refine w_alu (pc' := 111) (st' := [.int (Int32.ofInt 0)]) (ykc_276 (e := (0, .iconst 0, 0)) rfl) rfl rfl ?_
                    refine w_store (pc' := 112) (L' := [some (.ref 170), some (.int (zn M)), some (.int (zn m)), some (.int (Int32.ofInt 0)), o4, o5]) (st' := []) (m := 1) (ykc_276 (e := (3, .istore_n kF3, 0)) rfl) rfl rfl ?_
                    have iho := ih
                    have hc : ∀ (n5 : Nat), n5 ≤ n4 → ∀ (s : Nat) (o4 o5 : Option Value) (ph5 : pm_H), (s ≤ M + 1) → (zFr [191] [] ph1 ph5) → (∀ j, m + 1 ≤ j → j ≤ P → ∀ s, s ≤ M → zc ph5 191 (j * 256 + s) = some (.int (zn (zTq sh (fun p => v (8 + p)) M 1000000 P (P - j) s)))) → (∀ r, r < s → zc ph5 191 (m * 256 + r) = some (.int (zn (zTq sh (fun p => v (8 + p)) M 1000000 P (P - m) r)))) → zW n5 D 276 Q 112 [some (.ref 170), some (.int (zn M)), some (.int (zn m)), some (.int (zn s)), o4, o5] [] ph5 := by
                      intro n5
                      induction n5 using Nat.strongRecOn with
                      | ind n5 ih =>
                        intro hlim s o4 o5 ph5 hs hf3 hj3 hi5
                        have ts := znt (k := s) (by omega)
                        refine w_load (pc' := 113) (v := .int (zn s)) (m := 1) (ykc_276 (e := (2, .iload_n kF3, 0)) rfl) rfl rfl ?_
                        refine w_load (pc' := 114) (v := .int (zn M)) (m := 1) (ykc_276 (e := (2, .iload_n kF1, 0)) rfl) rfl rfl ?_
                        refine w_igt (ykc_276 (e := (4, .if_icmp .gt 57, 171)) rfl) rfl (fun b1393 => ?_) (fun b1393 => ?_)
                        · obtain ⟨z1394, e_z1394, h_z1394⟩ : ∃ zq : Int32, (zn m) + Int32.ofInt (-1) = zq ∧ zq.toInt = ((m : Nat) : Int) + (-1 : Int) := ⟨_, rfl, zdecT (by omega)⟩
                          refine w_store (pc' := 174) (L' := [some (.ref 170), some (.int (zn M)), some (.int z1394), some (.int (zn s)), o4, o5]) (st' := []) (m := 3) (ykc_276 (e := (3, .iinc 2 (-1), 0)) rfl) (by rw [← e_z1394]; rfl) rfl ?_
                          refine w_gb (ykc_276 (e := (4, .goto (-68), 106)) rfl) (fun k1395 hk1395 => ?_)
                          exact iho k1395 (by omega) m z1394 _ _ _ ph5 (by omega) (by omega) hf3 (fun j j1 j2 r hr => by
                            by_cases e : j = m
                            · subst e
                              exact hi5 r (by omega)
                            · exact hj3 j (by omega) j2 r hr)
                        · refine w_push (pc' := 120) (v := .int (1000000 : Int32)) (m := 3) (ykc_276 (e := (1, .ldc_w 432, 0)) rfl) rfl rfl ?_
                          rw [z1e6]
                          have t1e6 := znt (k := 1000000) (by omega)
                          have nw5 := zNm_F hf3 (by decide +kernel) (by simp) (by simp) (by simp) nw
                          have et : zMn (fun k => (if k = v (8 + m) then 0 else 1) + zTq sh (fun p => v (8 + p)) M 1000000 P (P - (m + 1)) (s ||| sh m k)) 1000000 8 = zTq sh (fun p => v (8 + p)) M 1000000 P (P - m) s := by
                            rw [show P - m = (P - (m + 1)) + 1 by omega]
                            show _ = zMn (fun k => (if k = v (8 + (P - (P - (m + 1) + 1))) then 0 else 1) + zTq sh (fun p => v (8 + p)) M 1000000 P (P - (m + 1)) (s ||| sh (P - (P - (m + 1) + 1)) k)) 1000000 8
                            rw [show P - (P - (m + 1) + 1) = m by omega]
                          refine w_store (pc' := 122) (L' := [some (.ref 170), some (.int (zn M)), some (.int (zn m)), some (.int (zn s)), some (.int (zn 1000000)), o5]) (st' := []) (m := 2) (ykc_276 (e := (3, .istore 4, 0)) rfl) rfl rfl ?_
                          refine w_alu (pc' := 123) (st' := [.int (Int32.ofInt 0)]) (ykc_276 (e := (0, .iconst 0, 0)) rfl) rfl rfl ?_
                          refine w_store (pc' := 125) (L' := [some (.ref 170), some (.int (zn M)), some (.int (zn m)), some (.int (zn s)), some (.int (zn 1000000)), some (.int (Int32.ofInt 0))]) (st' := []) (m := 2) (ykc_276 (e := (3, .istore 5, 0)) rfl) rfl rfl ?_
                          have ihs := ih
                          have hd : ∀ (n6 : Nat), n6 ≤ n5 → ∀ (k : Nat), (k ≤ 8) → zW n6 D 276 Q 125 [some (.ref 170), some (.int (zn M)), some (.int (zn m)), some (.int (zn s)), some (.int (zn (zMn (fun k => (if k = v (8 + m) then 0 else 1) + zTq sh (fun p => v (8 + p)) M 1000000 P (P - (m + 1)) (s ||| sh m k)) 1000000 k))), some (.int (zn k))] [] ph5 := by
                            intro n6
                            induction n6 using Nat.strongRecOn with
                            | ind n6 ih =>
                              intro hlim k hk8
                              have tk := znt (k := k) (by omega)
                              have lm := @zMn_le (fun k => (if k = v (8 + m) then 0 else 1) + zTq sh (fun p => v (8 + p)) M 1000000 P (P - (m + 1)) (s ||| sh m k)) 1000000 k
                              have tzm := znt (k := zMn (fun k => (if k = v (8 + m) then 0 else 1) + zTq sh (fun p => v (8 + p)) M 1000000 P (P - (m + 1)) (s ||| sh m k)) 1000000 k) (by omega)
                              refine w_load (pc' := 127) (v := .int (zn k)) (m := 2) (ykc_276 (e := (2, .iload 5, 0)) rfl) rfl rfl ?_
                              refine w_push (pc' := 129) (v := .int ((Int8.ofInt 8).toInt32)) (m := 2) (ykc_276 (e := (1, .bipush 8, 0)) rfl) rfl rfl ?_
                              refine w_ige (ykc_276 (e := (4, .if_icmp .ge 24, 153)) rfl) rfl (fun b1396 => ?_) (fun b1396 => ?_)
                              · have ek : k = 8 := by omega
                                subst ek
                                rw [et]
                                have lq := @zTq_le sh (fun p => v (8 + p)) M 1000000 P (P - m) s
                                have ttq := znt (k := zTq sh (fun p => v (8 + p)) M 1000000 P (P - m) s) (by omega)
                                refine w_load (pc' := 154) (v := .ref 170) (m := 1) (ykc_276 (e := (2, .aload_n kF0, 0)) rfl) rfl rfl ?_
                                refine w_gf (pc' := 157) (v := .ref 191) (ykc_276 (e := (5, .getfield 92, 0)) rfl) rfl ((hf3.1 170 37 (by decide) (by decide)).trans (zsg hS zs_170_37)) rfl ?_
                                refine w_load (pc' := 158) (v := .int (zn m)) (m := 1) (ykc_276 (e := (2, .iload_n kF2, 0)) rfl) rfl rfl ?_
                                refine w_load (pc' := 159) (v := .int (zn s)) (m := 1) (ykc_276 (e := (2, .iload_n kF3, 0)) rfl) rfl rfl ?_
                                have tpl := znt (k := m * 256 + s) (by omega)
                                refine w_cs (as := [.int (zn m), .int (zn s)]) (r := [.ref 191]) (ykc_276 (e := (6, .invokestatic 437, 0)) rfl) rfl rfl rfl rfl (zm_place (p := m) (s := s) (by omega) (by omega)) (fun v1397 ph1398 hv => ?_)
                                obtain ⟨rfl, rfl⟩ := hv
                                show zW n6 D 276 Q 162 [some (.ref 170), some (.int (zn M)), some (.int (zn m)), some (.int (zn s)), some (.int (zn (zTq sh (fun p => v (8 + p)) M 1000000 P (P - m) s))), some (.int (zn 8))] [.int (zn (m * 256 + s)), .ref 191] ph5
                                refine w_load (pc' := 164) (v := .int (zn (zTq sh (fun p => v (8 + p)) M 1000000 P (P - m) s))) (m := 2) (ykc_276 (e := (2, .iload 4, 0)) rfl) rfl rfl ?_
                                refine w_ias (pc' := 165) (k := m * 256 + s) (ykc_276 (e := (5, .iastore, 0)) rfl) (by omega) rfl (fun ph1400 u1399 => ?_)
                                have e1401 : (zn s) + Int32.ofInt 1 = zn (s + 1) := (zaddN (a := s) (b := 1) (znt (by omega)) c_5 (by omega))
                                have te1401 := znt (k := s + 1) (by omega)
                                refine w_store (pc' := 168) (L' := [some (.ref 170), some (.int (zn M)), some (.int (zn m)), some (.int (zn (s + 1))), some (.int (zn (zTq sh (fun p => v (8 + p)) M 1000000 P (P - m) s))), some (.int (zn 8))]) (st' := []) (m := 3) (ykc_276 (e := (3, .iinc 3 1, 0)) rfl) (by rw [← e1401]; rfl) rfl ?_
                                refine w_gb (ykc_276 (e := (4, .goto (-56), 112)) rfl) (fun k1402 hk1402 => ?_)
                                exact ihs k1402 (by omega) (by omega) (s + 1) _ _ ph1400 (by omega) (zFr_trans hf3 (zFr_st u1399 (Or.inl (by simp)))) (fun j j1 j2 r hr => (u1399.2.1 191 (j * 256 + r) (fun q => by have := q.2; omega)).trans (hj3 j j1 j2 r hr)) (fun r hr => by
                                  by_cases e : r = s
                                  · subst e
                                    exact u1399.1
                                  · exact (u1399.2.1 191 (m * 256 + r) (fun q => by have := q.2; omega)).trans (hi5 r (by omega)))
                              · refine w_load (pc' := 134) (v := .int (zn (zMn (fun k => (if k = v (8 + m) then 0 else 1) + zTq sh (fun p => v (8 + p)) M 1000000 P (P - (m + 1)) (s ||| sh m k)) 1000000 k))) (m := 2) (ykc_276 (e := (2, .iload 4, 0)) rfl) rfl rfl ?_
                                refine w_load (pc' := 135) (v := .ref 170) (m := 1) (ykc_276 (e := (2, .aload_n kF0, 0)) rfl) rfl rfl ?_
                                refine w_load (pc' := 136) (v := .int (zn m)) (m := 1) (ykc_276 (e := (2, .iload_n kF2, 0)) rfl) rfl rfl ?_
                                refine w_load (pc' := 137) (v := .int (zn s)) (m := 1) (ykc_276 (e := (2, .iload_n kF3, 0)) rfl) rfl rfl ?_
                                refine w_load (pc' := 139) (v := .int (zn k)) (m := 2) (ykc_276 (e := (2, .iload 5, 0)) rfl) rfl rfl ?_
                                have g1 := hsh m (by omega) k (by omega)
                                have g3 := (hf3.1 190 (8 * m + k) (by decide) (by simp)).trans g1.2
                                have g2 := hj3 (m + 1) (Nat.le_refl _) (by omega) (s ||| sh m k) (by have := Nat.or_lt_two_pow (show s < 2 ^ G by omega) g1.1; omega)
                                refine w_cv (as := [.ref 170, .int (zn m), .int (zn s), .int (zn k)]) (r := [.int (zn (zMn (fun k => (if k = v (8 + m) then 0 else 1) + zTq sh (fun p => v (8 + p)) M 1000000 P (P - (m + 1)) (s ||| sh m k)) 1000000 k))]) (ykc_276 (e := (6, .invokevirtual 443, 0)) rfl) rfl rfl rfl rfl (zm_fewW nw5.1 nw5.2.2.2 (p := m) (s := s) (k := k) (a := sh m k) (b := zTq sh (fun p => v (8 + p)) M 1000000 P (P - (m + 1)) (s ||| sh m k)) (by omega) hP8 (by omega) (by omega) (zp8 hG8 g1.1) zTq_le (hO0.1 m (by omega)).2.1 g3 g2) (fun v1403 ph1404 hv => ?_)
                                obtain ⟨rfl, rfl⟩ := hv
                                obtain ⟨c, ec⟩ : ∃ c, (if k = v (8 + m) then 0 else 1) + zTq sh (fun p => v (8 + p)) M 1000000 P (P - (m + 1)) (s ||| sh m k) = c := ⟨_, rfl⟩
                                rw [ec]
                                have lq : zTq sh (fun p => v (8 + p)) M 1000000 P (P - (m + 1)) (s ||| sh m k) ≤ 1000000 := zTq_le
                                have hc : c ≤ 1000001 := by
                                  rw [← ec]
                                  split <;> omega
                                have tc := znt (k := c) (by omega)
                                have em : zMn (fun k => (if k = v (8 + m) then 0 else 1) + zTq sh (fun p => v (8 + p)) M 1000000 P (P - (m + 1)) (s ||| sh m k)) 1000000 (k + 1) = min (zMn (fun k => (if k = v (8 + m) then 0 else 1) + zTq sh (fun p => v (8 + p)) M 1000000 P (P - (m + 1)) (s ||| sh m k)) 1000000 k) c := by
                                  rw [← ec]
                                  rfl
                                show zW n6 D 276 Q 142 [some (.ref 170), some (.int (zn M)), some (.int (zn m)), some (.int (zn s)), some (.int (zn (zMn (fun k => (if k = v (8 + m) then 0 else 1) + zTq sh (fun p => v (8 + p)) M 1000000 P (P - (m + 1)) (s ||| sh m k)) 1000000 k))), some (.int (zn k))] [.int (zn c), .int (zn (zMn (fun k => (if k = v (8 + m) then 0 else 1) + zTq sh (fun p => v (8 + p)) M 1000000 P (P - (m + 1)) (s ||| sh m k)) 1000000 k))] ph5
                                obtain ⟨z1405, e_z1405⟩ : ∃ zq : Int32, (if (zn c) < (zn (zMn (fun k => (if k = v (8 + m) then 0 else 1) + zTq sh (fun p => v (8 + p)) M 1000000 P (P - (m + 1)) (s ||| sh m k)) 1000000 k)) then (zn c) else (zn (zMn (fun k => (if k = v (8 + m) then 0 else 1) + zTq sh (fun p => v (8 + p)) M 1000000 P (P - (m + 1)) (s ||| sh m k)) 1000000 k))) = zq := ⟨_, rfl⟩
                                have h_z1405 := zminI e_z1405
                                have n_z1405 : z1405.toInt = ((zMn (fun k => (if k = v (8 + m) then 0 else 1) + zTq sh (fun p => v (8 + p)) M 1000000 P (P - (m + 1)) (s ||| sh m k)) 1000000 (k + 1) : Nat) : Int) := by omega
                                refine w_mem1 (pc' := 145) (m := 3) (st' := [.int z1405]) (ph' := ph5) (ykc_276 (e := (5, .invokestatic 145, 0)) rfl) (by rw [← e_z1405]; rfl) rfl ?_
                                refine w_store (pc' := 147) (L' := [some (.ref 170), some (.int (zn M)), some (.int (zn m)), some (.int (zn s)), some (.int z1405), some (.int (zn k))]) (st' := []) (m := 2) (ykc_276 (e := (3, .istore 4, 0)) rfl) rfl rfl ?_
                                have e1406 : (zn k) + Int32.ofInt 1 = zn (k + 1) := (zaddN (a := k) (b := 1) (znt (by omega)) c_5 (by omega))
                                have te1406 := znt (k := k + 1) (by omega)
                                refine w_store (pc' := 150) (L' := [some (.ref 170), some (.int (zn M)), some (.int (zn m)), some (.int (zn s)), some (.int z1405), some (.int (zn (k + 1)))]) (st' := []) (m := 3) (ykc_276 (e := (3, .iinc 5 1, 0)) rfl) (by rw [← e1406]; rfl) rfl ?_
                                refine w_gb (ykc_276 (e := (4, .goto (-25), 125)) rfl) (fun k1407 hk1407 => ?_)
                                obtain rfl := zn_of (k := zMn (fun k => (if k = v (8 + m) then 0 else 1) + zTq sh (fun p => v (8 + p)) M 1000000 P (P - (m + 1)) (s ||| sh m k)) 1000000 (k + 1)) (show z1405.toInt = _ by omega)
                                exact ih k1407 hk1407 (by omega) (k + 1) (by omega)
                          exact hd n5 (Nat.le_refl _) 0 (Nat.zero_le 8)
                    exact hc n4 (Nat.le_refl _) 0 _ _ ph4 (Nat.zero_le _) hf2 (fun j j1 j2 s hs => hj j j1 j2 s hs) (fun r hr => absurd hr (Nat.not_lt_zero r))
              exact hb n3 P _ _ _ _ ph3 (Nat.le_refl _) (by omega) hf1 (fun j j1 j2 s hs => by
                obtain rfl : j = P := by omega
                rw [Nat.sub_self]
                exact hi3 s (by omega))
              
            · refine w_load (pc' := 69) (v := .ref 170) (m := 1) (ykc_276 (e := (2, .aload_n kF0, 0)) rfl) rfl rfl ?_
              refine w_gf (pc' := 72) (v := .ref 191) (ykc_276 (e := (5, .getfield 92, 0)) rfl) rfl ((hf1.1 170 37 (by decide) (by decide)).trans (zsg hS zs_170_37)) rfl ?_
              refine w_load (pc' := 73) (v := .ref 170) (m := 1) (ykc_276 (e := (2, .aload_n kF0, 0)) rfl) rfl rfl ?_
              refine w_gf (pc' := 76) (v := .int (zn P)) (ykc_276 (e := (5, .getfield 130, 0)) rfl) rfl ((hf1.1 170 5 (by decide) (by simp)).trans nw.2.2.1.1) rfl ?_
              refine w_load (pc' := 77) (v := .int (zn t)) (m := 1) (ykc_276 (e := (2, .iload_n kF2, 0)) rfl) rfl rfl ?_
              have tpl := znt (k := P * 256 + t) (by omega)
              refine w_cs (as := [.int (zn P), .int (zn t)]) (r := [.ref 191]) (ykc_276 (e := (6, .invokestatic 437, 0)) rfl) rfl rfl rfl rfl (zm_place (p := P) (s := t) (by omega) (by omega)) (fun v1408 ph1409 hv => ?_)
              obtain ⟨rfl, rfl⟩ := hv
              show zW n3 D 276 Q 80 [some (.ref 170), some (.int (zn M)), some (.int (zn t)), o3, o4, o5] [.int (zn (P * 256 + t)), .ref 191] ph3
              refine w_load (pc' := 81) (v := .int (zn t)) (m := 1) (ykc_276 (e := (2, .iload_n kF2, 0)) rfl) rfl rfl ?_
              refine w_load (pc' := 82) (v := .int (zn M)) (m := 1) (ykc_276 (e := (2, .iload_n kF1, 0)) rfl) rfl rfl ?_
              refine w_ine (ykc_276 (e := (4, .if_icmp .ne 7, 89)) rfl) rfl (fun b1410 => ?_) (fun b1410 => ?_)
              · refine w_push (pc' := 92) (v := .int (1000000 : Int32)) (m := 3) (ykc_276 (e := (1, .ldc_w 432, 0)) rfl) rfl rfl ?_
                rw [z1e6]
                refine w_ias (pc' := 93) (k := P * 256 + t) (ykc_276 (e := (5, .iastore, 0)) rfl) (by omega) rfl (fun ph1412 u1411 => ?_)
                have e1413 : (zn t) + Int32.ofInt 1 = zn (t + 1) := (zaddN (a := t) (b := 1) (znt (by omega)) c_5 (by omega))
                have te1413 := znt (k := t + 1) (by omega)
                refine w_store (pc' := 96) (L' := [some (.ref 170), some (.int (zn M)), some (.int (zn (t + 1))), o3, o4, o5]) (st' := []) (m := 3) (ykc_276 (e := (3, .iinc 2 1, 0)) rfl) (by rw [← e1413]; rfl) rfl ?_
                refine w_gb (ykc_276 (e := (4, .goto (-33), 63)) rfl) (fun k1414 hk1414 => ?_)
                exact ih k1414 hk1414 (t + 1) _ _ _ ph1412 (by omega) (zFr_trans hf1 (zFr_st u1411 (Or.inl (by simp)))) (fun s hs => by
                  by_cases e : s = t
                  · subst e
                    rw [if_neg (by omega)]
                    exact u1411.1
                  · exact (u1411.2.1 191 (P * 256 + s) (fun q => by have := q.2; omega)).trans (hi3 s (by omega)))
              · refine w_alu (pc' := 86) (st' := [.int (Int32.ofInt 0), .int (zn (P * 256 + t)), .ref 191]) (ykc_276 (e := (0, .iconst 0, 0)) rfl) rfl rfl ?_
                refine w_br (pc' := 92) (st' := [.int (Int32.ofInt 0), .int (zn (P * 256 + t)), .ref 191]) (ykc_276 (e := (4, .goto 6, 92)) rfl) rfl ?_
                refine w_ias (pc' := 93) (k := P * 256 + t) (ykc_276 (e := (5, .iastore, 0)) rfl) (by omega) rfl (fun ph1416 u1415 => ?_)
                have e1417 : (zn t) + Int32.ofInt 1 = zn (t + 1) := (zaddN (a := t) (b := 1) (znt (by omega)) c_5 (by omega))
                have te1417 := znt (k := t + 1) (by omega)
                refine w_store (pc' := 96) (L' := [some (.ref 170), some (.int (zn M)), some (.int (zn (t + 1))), o3, o4, o5]) (st' := []) (m := 3) (ykc_276 (e := (3, .iinc 2 1, 0)) rfl) (by rw [← e1417]; rfl) rfl ?_
                refine w_gb (ykc_276 (e := (4, .goto (-33), 63)) rfl) (fun k1418 hk1418 => ?_)
                exact ih k1418 hk1418 (t + 1) _ _ _ ph1416 (by omega) (zFr_trans hf1 (zFr_st u1415 (Or.inl (by simp)))) (fun s hs => by
                  by_cases e : s = t
                  · subst e
                    rw [if_pos (by omega)]
                    exact u1415.1
                  · exact (u1415.2.1 191 (P * 256 + s) (fun q => by have := q.2; omega)).trans (hi3 s (by omega)))
        exact ha n 0 _ _ _ ph1 (Nat.zero_le _) zFr_refl (fun s hs => absurd hs (Nat.not_lt_zero s))
      · refine w_alu (pc' := 16) (st' := [.int (Int32.ofInt 0)]) (ykc_276 (e := (0, .iconst 0, 0)) rfl) rfl rfl ?_
        refine w_store (pc' := 17) (L' := [some (.ref 170), some (.int (zn i)), some (.int (Int32.ofInt 0)), o3, o4, o5]) (st' := []) (m := 1) (ykc_276 (e := (3, .istore_n kF2, 0)) rfl) rfl rfl ?_
        have iho := ih
        have hj : ∀ (n2 : Nat), n2 ≤ n → ∀ (j : Nat) (o3 o4 o5 : Option Value) (ph2 : pm_H), (j ≤ 8) → (zSh ph2) → (zNm ph2 (R, C, rk, sn, sk, cn, cd) P G v) → (∀ p, p < i → ∀ k, k < 8 → zc ph2 190 (8 * p + k) = some (.int (zn (zTs (R, C, rk, sn, sk, cn, cd) G v P p k)))) → (∀ k, k < j → zc ph2 190 (8 * i + k) = some (.int (zn (zTs (R, C, rk, sn, sk, cn, cd) G v P i k)))) → zW n2 D 276 Q 17 [some (.ref 170), some (.int (zn i)), some (.int (zn j)), o3, o4, o5] [] ph2 := by
          intro n2
          induction n2 using Nat.strongRecOn with
          | ind n2 ih =>
            intro hlim j o3 o4 o5 ph2 hj hS nw2 hg2 hk2
            have tj := znt (k := j) (by omega)
            refine w_load (pc' := 18) (v := .int (zn j)) (m := 1) (ykc_276 (e := (2, .iload_n kF2, 0)) rfl) rfl rfl ?_
            refine w_push (pc' := 20) (v := .int ((Int8.ofInt 8).toInt32)) (m := 2) (ykc_276 (e := (1, .bipush 8, 0)) rfl) rfl rfl ?_
            refine w_ige (ykc_276 (e := (4, .if_icmp .ge 26, 46)) rfl) rfl (fun b1419 => ?_) (fun b1419 => ?_)
            · have e1420 : (zn i) + Int32.ofInt 1 = zn (i + 1) := (zaddN (a := i) (b := 1) (znt (by omega)) c_5 (by omega))
              have te1420 := znt (k := i + 1) (by omega)
              refine w_store (pc' := 49) (L' := [some (.ref 170), some (.int (zn (i + 1))), some (.int (zn j)), o3, o4, o5]) (st' := []) (m := 3) (ykc_276 (e := (3, .iinc 1 1, 0)) rfl) (by rw [← e1420]; rfl) rfl ?_
              refine w_gb (ykc_276 (e := (4, .goto (-42), 7)) rfl) (fun k1421 hk1421 => ?_)
              exact iho k1421 (by omega) (i + 1) _ _ _ _ ph2 (by omega) hS nw2 (fun p hp k hk => by
                by_cases e : p = i
                · subst e
                  exact hk2 k (by omega)
                · exact hg2 p (by omega) k hk)
            · refine w_load (pc' := 24) (v := .ref 170) (m := 1) (ykc_276 (e := (2, .aload_n kF0, 0)) rfl) rfl rfl ?_
              refine w_gf (pc' := 27) (v := .ref 190) (ykc_276 (e := (5, .getfield 89, 0)) rfl) rfl (zsg hS zs_170_36) rfl ?_
              refine w_push (pc' := 29) (v := .int ((Int8.ofInt 8).toInt32)) (m := 2) (ykc_276 (e := (1, .bipush 8, 0)) rfl) rfl rfl ?_
              refine w_load (pc' := 30) (v := .int (zn i)) (m := 1) (ykc_276 (e := (2, .iload_n kF1, 0)) rfl) rfl rfl ?_
              have e1422 : ((Int8.ofInt 8).toInt32) * (zn i) = zn (8 * i) := zn_of (by rw [ti_mul (by rw [show ((Int8.ofInt 8).toInt32).toInt = (8 : Int) by omega, show (zn i).toInt = ((i : Nat) : Int) by omega]; omega) (by rw [show ((Int8.ofInt 8).toInt32).toInt = (8 : Int) by omega, show (zn i).toInt = ((i : Nat) : Int) by omega]; omega), show ((Int8.ofInt 8).toInt32).toInt = (8 : Int) by omega, show (zn i).toInt = ((i : Nat) : Int) by omega] <;> omega)
              have te1422 := znt (k := 8 * i) (by omega)
              refine w_alu (pc' := 31) (st' := [.int (zn (8 * i)), .ref 190]) (ykc_276 (e := (0, .imul, 0)) rfl) (by rw [← e1422]; rfl) rfl ?_
              refine w_load (pc' := 32) (v := .int (zn j)) (m := 1) (ykc_276 (e := (2, .iload_n kF2, 0)) rfl) rfl rfl ?_
              have e1423 : (zn (8 * i)) + (zn j) = zn (8 * i + j) := (zaddN (a := 8 * i) (b := j) (znt (by omega)) (znt (by omega)) (by omega)) 
              have te1423 := znt (k := 8 * i + j) (by omega)
              refine w_alu (pc' := 33) (st' := [.int (zn (8 * i + j)), .ref 190]) (ykc_276 (e := (0, .iadd, 0)) rfl) (by rw [← e1423]; rfl) rfl ?_
              refine w_load (pc' := 34) (v := .ref 170) (m := 1) (ykc_276 (e := (2, .aload_n kF0, 0)) rfl) rfl rfl ?_
              refine w_load (pc' := 35) (v := .int (zn i)) (m := 1) (ykc_276 (e := (2, .iload_n kF1, 0)) rfl) rfl rfl ?_
              refine w_load (pc' := 36) (v := .int (zn j)) (m := 1) (ykc_276 (e := (2, .iload_n kF2, 0)) rfl) rfl rfl ?_
              refine w_cv (as := [.ref 170, .int (zn i), .int (zn j)]) (r := [.int (zn (8 * i + j)), .ref 190]) (ykc_276 (e := (6, .invokevirtual 440, 0)) rfl) rfl rfl rfl rfl (zm_wouldT nw2.1 nw2.2.1 nw2.2.2.1 nw2.2.2.2 hO0 (p := i) (fc := j) (by omega) (by omega)) (fun v1424 ph1425 hv => ?_)
              obtain ⟨f2, rfl⟩ := hv
              rw [show zXth (R, C, rk, sn, sk, cn, cd) P G v i j = zn (zTs (R, C, rk, sn, sk, cn, cd) G v P i j) from zT_N hG8]
              have nw3 := zNm_F f2 (by decide +kernel) (by simp) (by simp) (by simp) nw2
              show zW n2 D 276 Q 39 [some (.ref 170), some (.int (zn i)), some (.int (zn j)), o3, o4, o5] [.int (zn (zTs (R, C, rk, sn, sk, cn, cd) G v P i j)), .int (zn (8 * i + j)), .ref 190] ph1425
              refine w_ias (pc' := 40) (k := 8 * i + j) (ykc_276 (e := (5, .iastore, 0)) rfl) (by omega) rfl (fun ph1427 u1426 => ?_)
              have e1428 : (zn j) + Int32.ofInt 1 = zn (j + 1) := (zaddN (a := j) (b := 1) (znt (by omega)) c_5 (by omega))
              have te1428 := znt (k := j + 1) (by omega)
              refine w_store (pc' := 43) (L' := [some (.ref 170), some (.int (zn i)), some (.int (zn (j + 1))), o3, o4, o5]) (st' := []) (m := 3) (ykc_276 (e := (3, .iinc 2 1, 0)) rfl) (by rw [← e1428]; rfl) rfl ?_
              refine w_gb (ykc_276 (e := (4, .goto (-26), 17)) rfl) (fun k1429 hk1429 => ?_)
              have nw4 := zNm_F (zFr_st (A := [190]) (F := []) u1426 (Or.inl (by simp))) (by decide +kernel) (by simp) (by simp) (by simp) nw3
              exact ih k1429 hk1429 (by omega) (j + 1) _ _ _ ph1427 (by omega) nw4.1 nw4 (fun p hp k hk => (u1426.2.1 190 (8 * p + k) (fun q => by have := q.2; omega)).trans ((f2.1 190 (8 * p + k) (by decide) (by simp)).trans (hg2 p hp k hk))) (fun k hk => by
                by_cases e : k = j
                · subst e
                  exact u1426.1
                · exact (u1426.2.1 190 (8 * i + k) (fun q => by have := q.2; omega)).trans ((f2.1 190 (8 * i + k) (by decide) (by simp)).trans (hk2 k (by omega))))
        exact hj n (Nat.le_refl _) 0 _ _ _ ph1 (Nat.zero_le 8) hS nw hg (fun k hk => absurd hk (Nat.not_lt_zero k))
  exact hl n 0 _ _ _ _ _ (Nat.zero_le _) nm0.1 nm0 (fun p hp => absurd hp (Nat.not_lt_zero p))
