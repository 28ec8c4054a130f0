/-! The class: primes, roots, the least point, curves. By wip/whole/tools/gen3.py. -/
def prF (n : Nat) : Nat → Nat → Nat
  | 0, _ => 0
  | f + 1, d => if n < d * d then (if n < 2 then 0 else 1) else if n % d = 0 then 0 else prF n f (d + 1)
theorem prF_s (n f d : Nat) : prF n (f + 1) d = if n < d * d then (if n < 2 then 0 else 1) else if n % d = 0 then 0 else prF n f (d + 1) := rfl
theorem prF_b : ∀ (n f d : Nat), prF n f d = 0 ∨ prF n f d = 1
  | _, 0, _ => Or.inl rfl
  | n, f + 1, d => by
    rw [prF_s]
    split
    · split
      · exact Or.inl rfl
      · exact Or.inr rfl
    · split
      · exact Or.inl rfl
      · exact prF_b n f (d + 1)
def lrF (p v : Nat) : Nat → Nat → Int
  | 0, _ => -1
  | f + 1, y => if p / 2 < y then -1 else if y * y % p = v then y else lrF p v f (y + 1)
theorem lrF_s (p v f y : Nat) : lrF p v (f + 1) y = if p / 2 < y then -1 else if y * y % p = v then (y : Int) else lrF p v f (y + 1) := rfl
theorem lrF_b {p : Nat} (v : Nat) : ∀ (f y : Nat), -1 ≤ lrF p v f y ∧ lrF p v f y ≤ p / 2
  | 0, _ => ⟨by show (-1 : Int) ≤ -1; omega, by show (-1 : Int) ≤ (p : Int) / 2; omega⟩
  | f + 1, y => by
    rw [lrF_s]
    split
    · omega
    · split
      · omega
      · exact lrF_b v f (y + 1)
def lpF (p a b : Nat) : Nat → Nat → Int
  | 0, _ => -1
  | f + 1, x => if p ≤ x then -1 else if lrF p (cub p a b x) 1100 0 = -1 then lpF p a b f (x + 1) else (x : Int) * 65536 + lrF p (cub p a b x) 1100 0
theorem lpF_s (p a b f x : Nat) : lpF p a b (f + 1) x = if p ≤ x then -1 else if lrF p (cub p a b x) 1100 0 = -1 then lpF p a b f (x + 1) else (x : Int) * 65536 + lrF p (cub p a b x) 1100 0 := rfl
theorem dd_b {d n : Nat} (h : d * d ≤ n) (hn : n ≤ 1100000) : d ≤ 1048 := by
  apply Classical.byContradiction
  intro z
  have := Nat.mul_le_mul (show 1049 ≤ d by omega) (show 1049 ≤ d by omega)
  omega
set_option maxRecDepth 100000 in
set_option maxHeartbeats 4000000 in
theorem c_X1_isPrime (l : Launch) (n : Nat) (hn : n ≤ 1100000) : Met l yX1_isPrime (Cond.code yX1_isPrime cX1_isPrime 2 (some .boolean) :: AW) { frames := 0, cells := 0, slots := 0, locals := 0 } (PcN [.int (ii (n : Int))]) (QcV (some (.int (ii (prF n 1100 2 : Nat))))) 0 0 (fun _ => False) := by
  refine mt_pure (by decide +kernel) (Nat.le_of_ble_eq_true rfl) ?_
  intro P0 E0 S0 M0 A0 B0 T0 K0 C hN hr hk ls hl
  have hl : lv_has ls 2 [(0, .int (ii (n : Int)))] := hl
  have hV0 := prF_b n 1100 2
  generalize hV : prF n 1100 2 = V at hV0 ⊢
  have loop : ∀ (f : Nat) (ls : Array Slot) (d : Nat), 2 ≤ d → d + f = 1102 → d ≤ 1050 → prF n f d = V → lv_has ls 2 [(0, .int (ii (n : Int))), (1, .int (ii (d : Int)))] → W P0 l E0 ({ frames := 0, cells := 0, slots := 0, locals := 0 } : Room) S0 M0 A0 B0 T0 K0 S0.heap [] 0 0 (MQ B0 (QcV (some (.int (ii (V : Nat))))) A0 S0 0 0 (fun _ => False)) (F0 M0 2 ls []) := by
    intro f
    induction f with
    | zero =>
      intro ls d h2 hf hd
      omega
    | succ f ih =>
    intro ls d h2 hf hd1 hV hl
    rw [prF_s] at hV
    have m1 := Nat.mul_le_mul (show d ≤ 1050 by omega) (show d ≤ 1050 by omega)
    refine lv_iload_n C.1 C.2.1 dX1_isPrime_2 rfl (lv_at hl 1 rfl) ?_
    refine lv_iload_n C.1 C.2.1 dX1_isPrime_3 rfl (lv_at hl 1 rfl) ?_
    refine i_mul C dX1_isPrime_4 ?_
    refine i_top (b := ((d * d : Nat) : Int)) rfl ?_
    refine lv_iload_n C.1 C.2.1 dX1_isPrime_5 rfl (lv_at hl 0 rfl) ?_
    refine i_icmp_gt (tgt := 23) C dX1_isPrime_6 (by decide) ⟨by omega, by omega⟩ ⟨by omega, by omega⟩ (fun hc => ?_) (fun hc => ?_)
    · rw [if_pos (show n < d * d by omega)] at hV
      refine lv_iload_n C.1 C.2.1 dX1_isPrime_23 rfl (lv_at hl 0 rfl) ?_
      refine i_const C dX1_isPrime_24 ?_
      refine i_icmp_lt (tgt := 32) C dX1_isPrime_25 (by decide) ⟨by omega, by omega⟩ ⟨by omega, by omega⟩ (fun h1 => ?_) (fun h1 => ?_)
      · rw [if_pos (show n < 2 by omega)] at hV
        refine i_const C dX1_isPrime_32 ?_
        subst hV
        exact rt_z C hr hk dX1_isPrime_33 (Or.inl rfl) rfl
      · rw [if_neg (show ¬ n < 2 by omega)] at hV
        refine i_const C dX1_isPrime_28 ?_
        refine lv_goto (tgt := 33) C.1 C.2.1 dX1_isPrime_29 (by decide) ?_
        subst hV
        exact rt_z C hr hk dX1_isPrime_33 (Or.inr rfl) rfl
    · rw [if_neg (show ¬ n < d * d by omega)] at hV
      have m2 := dd_b (show d * d ≤ n by omega) hn
      refine lv_iload_n C.1 C.2.1 dX1_isPrime_9 rfl (lv_at hl 0 rfl) ?_
      refine lv_iload_n C.1 C.2.1 dX1_isPrime_10 rfl (lv_at hl 1 rfl) ?_
      refine i_rem C dX1_isPrime_11 ⟨by omega, by omega⟩ ⟨by omega, by omega⟩ ?_
      refine i_top (b := ((n % d : Nat) : Int)) rfl ?_
      have m3 := Nat.mod_lt n (show 0 < d by omega)
      refine i_if_ne (tgt := 17) C dX1_isPrime_12 (by decide) ⟨by omega, by omega⟩ (fun h1 => ?_) (fun h1 => ?_)
      · rw [if_neg (show ¬ n % d = 0 by omega)] at hV
        refine lv_iinc C.1 C.2.1 dX1_isPrime_17 hl (k := 1) rfl (ii_add (d : Int) 1) (by decide) rfl (fun ls hl => ?_)
        have hl : lv_has ls 2 [(1, .int (ii ((d : Int) + 1))), (0, .int (ii (n : Int)))] := hl
        refine lv_goto (tgt := 2) C.1 C.2.1 dX1_isPrime_20 (by decide) ?_
        exact ih ls (d + 1) (by omega) (by omega) (by omega) hV (lv_sub (l' := [(0, .int (ii (n : Int))), (1, .int (ii ((d : Int) + 1)))]) hl [1, 0] rfl)
      · rw [if_pos (show n % d = 0 by omega)] at hV
        refine i_const C dX1_isPrime_15 ?_
        subst hV
        exact rt_z C hr hk dX1_isPrime_16 (Or.inl rfl) rfl
  refine i_const C dX1_isPrime_0 ?_
  refine lv_istore_n C.1 C.2.1 dX1_isPrime_1 rfl hl (by decide) rfl (fun ls hl => ?_)
  have hl : lv_has ls 2 [(1, .int (ii 2)), (0, .int (ii (n : Int)))] := hl
  exact loop 1100 ls 2 (by omega) (by omega) (by omega) hV (lv_sub (l' := [(0, .int (ii (n : Int))), (1, .int (ii 2))]) hl [1, 0] rfl)
set_option maxRecDepth 100000 in
set_option maxHeartbeats 4000000 in
theorem c_X0_lesserRoot (l : Launch) (v p : Nat) (hv : v < p) (hp : 5 ≤ p ∧ p ≤ 1021) : Met l yX0_lesserRoot (Cond.code yX0_lesserRoot cX0_lesserRoot 3 (some .int) :: AW) { frames := 0, cells := 0, slots := 0, locals := 0 } (PcN [.int (ii (v : Int)), .int (ii (p : Int))]) (QcV (some (.int (ii (lrF p v 1100 0))))) 0 0 (fun _ => False) := by
  refine mt_pure (by decide +kernel) (Nat.le_of_ble_eq_true rfl) ?_
  intro P0 E0 S0 M0 A0 B0 T0 K0 C hN hr hk ls hl
  have hl : lv_has ls 3 [(0, .int (ii (v : Int))), (1, .int (ii (p : Int)))] := hl
  generalize hV : lrF p v 1100 0 = V
  have loop : ∀ (f : Nat) (ls : Array Slot) (y : Nat), y + f = 1100 → y ≤ p / 2 + 1 → lrF p v f y = V → lv_has ls 3 [(0, .int (ii (v : Int))), (1, .int (ii (p : Int))), (2, .int (ii (y : Int)))] → W P0 l E0 ({ frames := 0, cells := 0, slots := 0, locals := 0 } : Room) S0 M0 A0 B0 T0 K0 S0.heap [] 0 0 (MQ B0 (QcV (some (.int (ii V)))) A0 S0 0 0 (fun _ => False)) (F0 M0 2 ls []) := by
    intro f
    induction f with
    | zero =>
      intro ls y hf hd
      omega
    | succ f ih =>
    intro ls y hf hd1 hV hl
    rw [lrF_s] at hV
    have m1 := nmul_b (show y ≤ 1100 by omega) (show y ≤ 1100 by omega)
    have m2 := Nat.mod_lt (y * y) (show 0 < p by omega)
    refine lv_iload_n C.1 C.2.1 dX0_lesserRoot_2 rfl (lv_at hl 2 rfl) ?_
    refine lv_iload_n C.1 C.2.1 dX0_lesserRoot_3 rfl (lv_at hl 1 rfl) ?_
    refine i_const C dX0_lesserRoot_4 ?_
    refine i_div C dX0_lesserRoot_5 ⟨by omega, by omega⟩ ⟨by omega, by omega⟩ ?_
    refine i_top (b := ((p / 2 : Nat) : Int)) rfl ?_
    refine i_icmp_gt (tgt := 26) C dX0_lesserRoot_6 (by decide) ⟨by omega, by omega⟩ ⟨by omega, by omega⟩ (fun hc => ?_) (fun hc => ?_)
    · rw [if_pos (show p / 2 < y by omega)] at hV
      refine i_const C dX0_lesserRoot_26 ?_
      exact rt_i C hr hk dX0_lesserRoot_27 (by rw [hV])
    · rw [if_neg (show ¬ p / 2 < y by omega)] at hV
      refine lv_iload_n C.1 C.2.1 dX0_lesserRoot_9 rfl (lv_at hl 2 rfl) ?_
      refine lv_iload_n C.1 C.2.1 dX0_lesserRoot_10 rfl (lv_at hl 2 rfl) ?_
      refine i_mul C dX0_lesserRoot_11 ?_
      refine lv_iload_n C.1 C.2.1 dX0_lesserRoot_12 rfl (lv_at hl 1 rfl) ?_
      refine i_rem C dX0_lesserRoot_13 ⟨by omega, by omega⟩ ⟨by omega, by omega⟩ ?_
      refine i_top (b := ((y * y % p : Nat) : Int)) rfl ?_
      refine lv_iload_n C.1 C.2.1 dX0_lesserRoot_14 rfl (lv_at hl 0 rfl) ?_
      refine i_icmp_ne (tgt := 20) C dX0_lesserRoot_15 (by decide) ⟨by omega, by omega⟩ ⟨by omega, by omega⟩ (fun h1 => ?_) (fun h1 => ?_)
      · rw [if_neg (show ¬ y * y % p = v by omega)] at hV
        refine lv_iinc C.1 C.2.1 dX0_lesserRoot_20 hl (k := 2) rfl (ii_add (y : Int) 1) (by decide) rfl (fun ls hl => ?_)
        have hl : lv_has ls 3 [(2, .int (ii ((y : Int) + 1))), (0, .int (ii (v : Int))), (1, .int (ii (p : Int)))] := hl
        refine lv_goto (tgt := 2) C.1 C.2.1 dX0_lesserRoot_23 (by decide) ?_
        exact ih ls (y + 1) (by omega) (by omega) hV (lv_sub (l' := [(0, .int (ii (v : Int))), (1, .int (ii (p : Int))), (2, .int (ii ((y : Int) + 1)))]) hl [1, 2, 0] rfl)
      · rw [if_pos (show y * y % p = v by omega)] at hV
        refine lv_iload_n C.1 C.2.1 dX0_lesserRoot_18 rfl (lv_at hl 2 rfl) ?_
        exact rt_i C hr hk dX0_lesserRoot_19 (by rw [hV])
  refine i_const C dX0_lesserRoot_0 ?_
  refine lv_istore_n C.1 C.2.1 dX0_lesserRoot_1 rfl hl (by decide) rfl (fun ls hl => ?_)
  have hl : lv_has ls 3 [(2, .int (ii 0)), (0, .int (ii (v : Int))), (1, .int (ii (p : Int)))] := hl
  exact loop 1100 ls 0 (by omega) (by omega) hV (lv_sub (l' := [(0, .int (ii (v : Int))), (1, .int (ii (p : Int))), (2, .int (ii 0))]) hl [1, 2, 0] rfl)
set_option maxRecDepth 100000 in
set_option maxHeartbeats 4000000 in
theorem c_X0_leastPoint (l : Launch) (p a b : Nat) (hp : 5 ≤ p ∧ p ≤ 1021) (ha : a < p) (hb : b < p) : Met l yX0_leastPoint (Cond.code yX0_leastPoint cX0_leastPoint 5 (some .int) :: AW) ({ frames := 1, cells := 0, slots := 0, locals := 24 } : Room) (PcN [.int (ii (p : Int)), .int (ii (a : Int)), .int (ii (b : Int))]) (QcV (some (.int (ii (lpF p a b 1100 0))))) 0 0 (fun _ => False) := by
  refine mt_pure (by decide +kernel) (Nat.le_of_ble_eq_true rfl) ?_
  intro P0 E0 S0 M0 A0 B0 T0 K0 C hN hr hk ls hl
  have hl : lv_has ls 5 [(0, .int (ii (p : Int))), (1, .int (ii (a : Int))), (2, .int (ii (b : Int)))] := hl
  generalize hV : lpF p a b 1100 0 = V
  have loop : ∀ (f : Nat) (ls : Array Slot) (x : Nat), x + f = 1100 → x ≤ p → lpF p a b f x = V → lv_has ls 5 [(0, .int (ii (p : Int))), (1, .int (ii (a : Int))), (2, .int (ii (b : Int))), (3, .int (ii (x : Int)))] → W P0 l E0 ({ frames := 1, cells := 0, slots := 0, locals := 24 } : Room) S0 M0 A0 B0 T0 K0 S0.heap [] 0 0 (MQ B0 (QcV (some (.int (ii V)))) A0 S0 0 0 (fun _ => False)) (F0 M0 2 ls []) := by
    intro f
    induction f with
    | zero =>
      intro ls x hf hd
      omega
    | succ f ih =>
    intro ls x hf hd1 hV hl
    rw [lpF_s] at hV
    refine lv_iload_n C.1 C.2.1 dX0_leastPoint_2 rfl (lv_at hl 3 rfl) ?_
    refine lv_iload_n C.1 C.2.1 dX0_leastPoint_3 rfl (lv_at hl 0 rfl) ?_
    refine i_icmp_ge (tgt := 39) C dX0_leastPoint_4 (by decide) ⟨by omega, by omega⟩ ⟨by omega, by omega⟩ (fun hc => ?_) (fun hc => ?_)
    · rw [if_pos (show p ≤ x by omega)] at hV
      refine i_const C dX0_leastPoint_39 ?_
      exact rt_i C hr hk dX0_leastPoint_40 (by rw [hV])
    · rw [if_neg (show ¬ p ≤ x by omega)] at hV
      have m1 : cub p a b x < p := Nat.mod_lt _ (by omega)
      have m2 := lrF_b (p := p) (cub p a b x) 1100 0
      refine lv_iload_n C.1 C.2.1 dX0_leastPoint_7 rfl (lv_at hl 0 rfl) ?_
      refine lv_iload_n C.1 C.2.1 dX0_leastPoint_8 rfl (lv_at hl 1 rfl) ?_
      refine lv_iload_n C.1 C.2.1 dX0_leastPoint_9 rfl (lv_at hl 2 rfl) ?_
      refine lv_iload_n C.1 C.2.1 dX0_leastPoint_10 rfl (lv_at hl 3 rfl) ?_
      refine ca_SN (As := [.int (ii (p : Int)), .int (ii (a : Int)), .int (ii (b : Int)), .int (ii (x : Int))]) (rest := []) C (c_X1_cubic l (p : Int) (a : Int) (b : Int) (x : Int) (by omega) (by omega) (by omega) (by omega)) hN (pcn_pre _ hN) aw_b_X1_cubic nw_X0_31 aw_s_X1_cubic aw_i_X1 ⟨rfl, rfl⟩ 4 (by decide +kernel) rfl ⟨by decide, by decide⟩ hl.1 rfl (Nat.le_of_ble_eq_true rfl) dX0_leastPoint_11 ⟨by decide, by decide⟩ ?_
      refine i_top (b := ((cub p a b x : Nat) : Int)) rfl ?_
      refine lv_iload_n C.1 C.2.1 dX0_leastPoint_14 rfl (lv_at hl 0 rfl) ?_
      refine ca_S (As := [.int (ii ((cub p a b x : Nat) : Int)), .int (ii (p : Int))]) (rest := []) C (c_X0_lesserRoot l (cub p a b x) p m1 hp) (pcn_pre _ hN) aw_b_X0_lesserRoot aw_m_X0_35 aw_s_X0_lesserRoot aw_i_X0 ⟨rfl, rfl⟩ 2 (by decide +kernel) rfl ⟨by decide, by decide⟩ hl.1 rfl (Nat.le_of_ble_eq_true rfl) dX0_leastPoint_15 ⟨by decide, by decide⟩ ?_
      generalize lrF p (cub p a b x) 1100 0 = y at m2 hV ⊢
      refine lv_istore C.1 C.2.1 dX0_leastPoint_18 hl (by decide) rfl (fun ls hl => ?_)
      have hl : lv_has ls 5 [(4, .int (ii y)), (0, .int (ii (p : Int))), (1, .int (ii (a : Int))), (2, .int (ii (b : Int))), (3, .int (ii (x : Int)))] := hl
      refine lv_iload C.1 C.2.1 dX0_leastPoint_20 (lv_at hl 0 rfl) ?_
      refine i_const C dX0_leastPoint_22 ?_
      refine i_icmp_eq (tgt := 33) C dX0_leastPoint_23 (by decide) ⟨by omega, by omega⟩ ⟨by omega, by omega⟩ (fun h1 => ?_) (fun h1 => ?_)
      · rw [if_pos (show y = -1 by omega)] at hV
        refine lv_iinc C.1 C.2.1 dX0_leastPoint_33 hl (k := 4) rfl (ii_add (x : Int) 1) (by decide) rfl (fun ls hl => ?_)
        have hl : lv_has ls 5 [(3, .int (ii ((x : Int) + 1))), (4, .int (ii y)), (0, .int (ii (p : Int))), (1, .int (ii (a : Int))), (2, .int (ii (b : Int)))] := hl
        refine lv_goto (tgt := 2) C.1 C.2.1 dX0_leastPoint_36 (by decide) ?_
        exact ih ls (x + 1) (by omega) (by omega) hV (lv_sub (l' := [(0, .int (ii (p : Int))), (1, .int (ii (a : Int))), (2, .int (ii (b : Int))), (3, .int (ii ((x : Int) + 1)))]) hl [2, 3, 4, 0] rfl)
      · rw [if_neg (show ¬ y = -1 by omega)] at hV
        refine lv_iload_n C.1 C.2.1 dX0_leastPoint_26 rfl (lv_at hl 4 rfl) ?_
        refine lv_iload C.1 C.2.1 dX0_leastPoint_27 (lv_at hl 0 rfl) ?_
        refine ca_SN (As := [.int (ii (x : Int)), .int (ii y)]) (rest := []) C (c_X1_pointAt l (x : Int) y) hN (pcn_pre _ hN) aw_b_X1_pointAt nw_X0_39 aw_s_X1_pointAt aw_i_X1 ⟨rfl, rfl⟩ 2 (by decide +kernel) rfl ⟨by decide, by decide⟩ hl.1 rfl (Nat.le_of_ble_eq_true rfl) dX0_leastPoint_29 ⟨by decide, by decide⟩ ?_
        exact rt_i C hr hk dX0_leastPoint_32 (by rw [hV])
  refine i_const C dX0_leastPoint_0 ?_
  refine lv_istore_n C.1 C.2.1 dX0_leastPoint_1 rfl hl (by decide) rfl (fun ls hl => ?_)
  have hl : lv_has ls 5 [(3, .int (ii 0)), (0, .int (ii (p : Int))), (1, .int (ii (a : Int))), (2, .int (ii (b : Int)))] := hl
  exact loop 1100 ls 0 (by omega) (by omega) hV (lv_sub (l' := [(0, .int (ii (p : Int))), (1, .int (ii (a : Int))), (2, .int (ii (b : Int))), (3, .int (ii 0))]) hl [1, 2, 3, 0] rfl)
def icF (p a b : Int) : Int := if p < 5 then 0 else if 1021 < p then 0 else if prF p.toNat 1100 2 = 0 then 0 else if a < 0 then 0 else if p ≤ a then 0 else if b < 0 then 0 else if p ≤ b then 0 else if (4 * (a * a % p * a % p) + 27 * (b * b % p)) % p = 0 then 0 else 1
set_option maxRecDepth 100000 in
set_option maxHeartbeats 4000000 in
theorem c_X1_isCurve (l : Launch) (p a b : Int) (hp : rg p) (ha : rg a) (hb : rg b) : Met l yX1_isCurve (Cond.code yX1_isCurve cX1_isCurve 3 (some .boolean) :: AW) ({ frames := 1, cells := 0, slots := 0, locals := 24 } : Room) (PcN [.int (ii p), .int (ii a), .int (ii b)]) (QcV (some (.int (ii (icF p a b))))) 0 0 (fun _ => False) := by
  refine mt_pure (by decide +kernel) (Nat.le_of_ble_eq_true rfl) ?_
  intro P0 E0 S0 M0 A0 B0 T0 K0 C hN hr hk ls hl
  have hl : lv_has ls 3 [(0, .int (ii p)), (1, .int (ii a)), (2, .int (ii b))] := hl
  generalize hV : icF p a b = V
  unfold icF at hV
  refine lv_iload_n C.1 C.2.1 dX1_isCurve_0 rfl (lv_at hl 0 rfl) ?_
  refine i_const C dX1_isCurve_1 ?_
  refine i_icmp_lt (tgt := 19) C dX1_isCurve_2 (by decide) ⟨by omega, by omega⟩ ⟨by omega, by omega⟩ (fun h1 => ?_) (fun h1 => ?_)
  · rw [if_pos (show p < 5 by omega)] at hV
    refine i_const C dX1_isCurve_19 ?_
    subst hV
    exact rt_z C hr hk dX1_isCurve_20 (Or.inl rfl) rfl
  · rw [if_neg (show ¬ p < 5 by omega)] at hV
    refine lv_iload_n C.1 C.2.1 dX1_isCurve_5 rfl (lv_at hl 0 rfl) ?_
    refine i_sipush C dX1_isCurve_6 (by decide +kernel) ?_
    refine i_icmp_gt (tgt := 19) C dX1_isCurve_9 (by decide) ⟨by omega, by omega⟩ ⟨by omega, by omega⟩ (fun h2 => ?_) (fun h2 => ?_)
    · rw [if_pos (show 1021 < p by omega)] at hV
      refine i_const C dX1_isCurve_19 ?_
      subst hV
      exact rt_z C hr hk dX1_isCurve_20 (Or.inl rfl) rfl
    · rw [if_neg (show ¬ 1021 < p by omega)] at hV
      have b0 := prF_b p.toNat 1100 2
      refine lv_iload_n C.1 C.2.1 dX1_isCurve_12 rfl (lv_at hl 0 rfl) ?_
      refine i_top (b := ((p.toNat : Nat) : Int)) (by omega) ?_
      refine ca_S (As := [.int (ii ((p.toNat : Nat) : Int))]) (rest := []) C (c_X1_isPrime l p.toNat (by omega)) (pcn_pre _ hN) aw_b_X1_isPrime aw_m_X1_48 aw_s_X1_isPrime aw_i_X1 ⟨rfl, rfl⟩ 1 (by decide +kernel) rfl ⟨by decide, by decide⟩ hl.1 rfl (Nat.le_of_ble_eq_true rfl) dX1_isCurve_13 ⟨by decide, by decide⟩ ?_
      generalize prF p.toNat 1100 2 = k at b0 hV ⊢
      refine i_if_ne (tgt := 21) C dX1_isCurve_16 (by decide) ⟨by omega, by omega⟩ (fun h3 => ?_) (fun h3 => ?_)
      · rw [if_neg (show ¬ k = 0 by omega)] at hV
        refine lv_iload_n C.1 C.2.1 dX1_isCurve_21 rfl (lv_at hl 1 rfl) ?_
        refine i_if_lt (tgt := 39) C dX1_isCurve_22 (by decide) ⟨by omega, by omega⟩ (fun h4 => ?_) (fun h4 => ?_)
        · rw [if_pos (show a < 0 by omega)] at hV
          refine i_const C dX1_isCurve_39 ?_
          subst hV
          exact rt_z C hr hk dX1_isCurve_40 (Or.inl rfl) rfl
        · rw [if_neg (show ¬ a < 0 by omega)] at hV
          refine lv_iload_n C.1 C.2.1 dX1_isCurve_25 rfl (lv_at hl 1 rfl) ?_
          refine lv_iload_n C.1 C.2.1 dX1_isCurve_26 rfl (lv_at hl 0 rfl) ?_
          refine i_icmp_ge (tgt := 39) C dX1_isCurve_27 (by decide) ⟨by omega, by omega⟩ ⟨by omega, by omega⟩ (fun h5 => ?_) (fun h5 => ?_)
          · rw [if_pos (show p ≤ a by omega)] at hV
            refine i_const C dX1_isCurve_39 ?_
            subst hV
            exact rt_z C hr hk dX1_isCurve_40 (Or.inl rfl) rfl
          · rw [if_neg (show ¬ p ≤ a by omega)] at hV
            refine lv_iload_n C.1 C.2.1 dX1_isCurve_30 rfl (lv_at hl 2 rfl) ?_
            refine i_if_lt (tgt := 39) C dX1_isCurve_31 (by decide) ⟨by omega, by omega⟩ (fun h6 => ?_) (fun h6 => ?_)
            · rw [if_pos (show b < 0 by omega)] at hV
              refine i_const C dX1_isCurve_39 ?_
              subst hV
              exact rt_z C hr hk dX1_isCurve_40 (Or.inl rfl) rfl
            · rw [if_neg (show ¬ b < 0 by omega)] at hV
              refine lv_iload_n C.1 C.2.1 dX1_isCurve_34 rfl (lv_at hl 2 rfl) ?_
              refine lv_iload_n C.1 C.2.1 dX1_isCurve_35 rfl (lv_at hl 0 rfl) ?_
              refine i_icmp_lt (tgt := 41) C dX1_isCurve_36 (by decide) ⟨by omega, by omega⟩ ⟨by omega, by omega⟩ (fun h7 => ?_) (fun h7 => ?_)
              · rw [if_neg (show ¬ p ≤ b by omega)] at hV
                have e1 := mu_b (show 0 ≤ a by omega) (show a ≤ 1099 by omega) (show 0 ≤ a by omega) (show a ≤ 1099 by omega)
                have e2 := em_b (a * a) (show 0 < p by omega)
                have e3 := mu_b e2.1 (show a * a % p ≤ 1099 by omega) (show 0 ≤ a by omega) (show a ≤ 1099 by omega)
                have e4 := em_b (a * a % p * a) (show 0 < p by omega)
                have e5 := mu_b (show 0 ≤ b by omega) (show b ≤ 1099 by omega) (show 0 ≤ b by omega) (show b ≤ 1099 by omega)
                have e6 := em_b (b * b) (show 0 < p by omega)
                have e7 := em_b (4 * (a * a % p * a % p) + 27 * (b * b % p)) (show 0 < p by omega)
                refine i_const C dX1_isCurve_41 ?_
                refine lv_iload_n C.1 C.2.1 dX1_isCurve_42 rfl (lv_at hl 1 rfl) ?_
                refine lv_iload_n C.1 C.2.1 dX1_isCurve_43 rfl (lv_at hl 1 rfl) ?_
                refine i_mul C dX1_isCurve_44 ?_
                refine lv_iload_n C.1 C.2.1 dX1_isCurve_45 rfl (lv_at hl 0 rfl) ?_
                refine i_rem C dX1_isCurve_46 ⟨by omega, by omega⟩ ⟨by omega, by omega⟩ ?_
                refine lv_iload_n C.1 C.2.1 dX1_isCurve_47 rfl (lv_at hl 1 rfl) ?_
                refine i_mul C dX1_isCurve_48 ?_
                refine lv_iload_n C.1 C.2.1 dX1_isCurve_49 rfl (lv_at hl 0 rfl) ?_
                refine i_rem C dX1_isCurve_50 ⟨by omega, by omega⟩ ⟨by omega, by omega⟩ ?_
                refine i_mul C dX1_isCurve_51 ?_
                refine i_bipush C dX1_isCurve_52 (by decide +kernel) ?_
                refine lv_iload_n C.1 C.2.1 dX1_isCurve_54 rfl (lv_at hl 2 rfl) ?_
                refine lv_iload_n C.1 C.2.1 dX1_isCurve_55 rfl (lv_at hl 2 rfl) ?_
                refine i_mul C dX1_isCurve_56 ?_
                refine lv_iload_n C.1 C.2.1 dX1_isCurve_57 rfl (lv_at hl 0 rfl) ?_
                refine i_rem C dX1_isCurve_58 ⟨by omega, by omega⟩ ⟨by omega, by omega⟩ ?_
                refine i_mul C dX1_isCurve_59 ?_
                refine i_add C dX1_isCurve_60 ?_
                refine lv_iload_n C.1 C.2.1 dX1_isCurve_61 rfl (lv_at hl 0 rfl) ?_
                refine i_rem C dX1_isCurve_62 ⟨by omega, by omega⟩ ⟨by omega, by omega⟩ ?_
                refine i_if_eq (tgt := 70) C dX1_isCurve_63 (by decide) ⟨by omega, by omega⟩ (fun h8 => ?_) (fun h8 => ?_)
                · rw [if_pos h8] at hV
                  refine i_const C dX1_isCurve_70 ?_
                  subst hV
                  exact rt_z C hr hk dX1_isCurve_71 (Or.inl rfl) rfl
                · rw [if_neg h8] at hV
                  refine i_const C dX1_isCurve_66 ?_
                  refine lv_goto (tgt := 71) C.1 C.2.1 dX1_isCurve_67 (by decide) ?_
                  subst hV
                  exact rt_z C hr hk dX1_isCurve_71 (Or.inr rfl) rfl
              · rw [if_pos (show p ≤ b by omega)] at hV
                refine i_const C dX1_isCurve_39 ?_
                subst hV
                exact rt_z C hr hk dX1_isCurve_40 (Or.inl rfl) rfl
      · rw [if_pos (show k = 0 by omega)] at hV
        refine i_const C dX1_isCurve_19 ?_
        subst hV
        exact rt_z C hr hk dX1_isCurve_20 (Or.inl rfl) rfl
