/-! The class: pure functions of ints. By wip/whole/tools/gen1.py. -/
theorem sq_b {x p : Int} (h0 : 0 ≤ x) (h1 : x < p) (hp : p ≤ 1100) : 0 ≤ x * x ∧ x * x ≤ 1208900 := by
  refine ⟨Int.mul_nonneg h0 h0, ?_⟩
  have := Int.mul_le_mul (show x ≤ 1099 by omega) (show x ≤ 1099 by omega) h0 (by omega)
  omega
theorem mu_b {x y : Int} (h0 : 0 ≤ x) (h1 : x ≤ 1099) (k0 : 0 ≤ y) (k1 : y ≤ 1099) : 0 ≤ x * y ∧ x * y ≤ 1208900 := by
  refine ⟨Int.mul_nonneg h0 k0, ?_⟩
  have := Int.mul_le_mul h1 k1 k0 (by omega)
  omega
theorem em_b (a : Int) {d : Int} (hd : 0 < d) : 0 ≤ a % d ∧ a % d < d := ⟨Int.emod_nonneg a (by omega), Int.emod_lt_of_pos a hd⟩
set_option maxRecDepth 100000 in
set_option maxHeartbeats 4000000 in
theorem c_X1_cubic (l : Launch) (p a b x : Int) (hp : 5 ≤ p ∧ p ≤ 1021) (ha : 0 ≤ a ∧ a < p) (hb : 0 ≤ b ∧ b < p) (hx0 : 0 ≤ x ∧ x < p) : Met l yX1_cubic (Cond.code yX1_cubic cX1_cubic 4 (some .int) :: AW) { frames := 0, cells := 0, slots := 0, locals := 0 } (PcN [.int (ii p), .int (ii a), .int (ii b), .int (ii x)]) (QcV (some (.int (ii (((x * x + a) % p * x + b) % p))))) 0 0 (fun _ => False) := by
  refine mt_pure (by decide +kernel) (Nat.le_of_ble_eq_true rfl) ?_
  intro P0 E0 S0 M0 A0 B0 T0 K0 C hN hr hk ls hl
  have hl : lv_has ls 4 [(0, .int (ii p)), (1, .int (ii a)), (2, .int (ii b)), (3, .int (ii x))] := hl
  have q1 := sq_b hx0.1 hx0.2 (by omega)
  have q2 := em_b (x * x + a) (show 0 < p by omega)
  have q4 := mu_b q2.1 (by omega) hx0.1 (by omega)
  refine lv_iload_n C.1 C.2.1 dX1_cubic_0 rfl (lv_at hl 3 rfl) ?_
  refine lv_iload_n C.1 C.2.1 dX1_cubic_1 rfl (lv_at hl 3 rfl) ?_
  refine i_mul C dX1_cubic_2 ?_
  refine lv_iload_n C.1 C.2.1 dX1_cubic_3 rfl (lv_at hl 1 rfl) ?_
  refine i_add C dX1_cubic_4 ?_
  refine lv_iload_n C.1 C.2.1 dX1_cubic_5 rfl (lv_at hl 0 rfl) ?_
  refine i_rem C dX1_cubic_6 ⟨by omega, by omega⟩ ⟨by omega, by omega⟩ ?_
  refine lv_iload_n C.1 C.2.1 dX1_cubic_7 rfl (lv_at hl 3 rfl) ?_
  refine i_mul C dX1_cubic_8 ?_
  refine lv_iload_n C.1 C.2.1 dX1_cubic_9 rfl (lv_at hl 2 rfl) ?_
  refine i_add C dX1_cubic_10 ?_
  refine lv_iload_n C.1 C.2.1 dX1_cubic_11 rfl (lv_at hl 0 rfl) ?_
  refine i_rem C dX1_cubic_12 ⟨by omega, by omega⟩ ⟨by omega, by omega⟩ ?_
  exact rt_i C hr hk dX1_cubic_13 rfl
set_option maxRecDepth 100000 in
set_option maxHeartbeats 4000000 in
theorem c_X1_pointAt (l : Launch) (x y : Int) : Met l yX1_pointAt (Cond.code yX1_pointAt cX1_pointAt 2 (some .int) :: AW) { frames := 0, cells := 0, slots := 0, locals := 0 } (PcN [.int (ii x), .int (ii y)]) (QcV (some (.int (ii (x * 65536 + y))))) 0 0 (fun _ => False) := by
  refine mt_pure (by decide +kernel) (Nat.le_of_ble_eq_true rfl) ?_
  intro P0 E0 S0 M0 A0 B0 T0 K0 C hN hr hk ls hl
  have hl : lv_has ls 2 [(0, .int (ii x)), (1, .int (ii y))] := hl
  refine lv_iload_n C.1 C.2.1 dX1_pointAt_0 rfl (lv_at hl 0 rfl) ?_
  refine i_ldc (n := 65536) C dX1_pointAt_1 aw_k_X1_154 (by decide +kernel) ?_
  refine i_mul C dX1_pointAt_3 ?_
  refine lv_iload_n C.1 C.2.1 dX1_pointAt_4 rfl (lv_at hl 1 rfl) ?_
  refine i_add C dX1_pointAt_5 ?_
  exact rt_i C hr hk dX1_pointAt_6 rfl
theorem ii_shr16 {x y : Int} (hx : 0 ≤ x ∧ x < 32768) (hy : 0 ≤ y ∧ y < 65536) : ii (x * 65536 + y) >>> (ii 16 &&& 31) = ii x := by
  obtain ⟨a, rfl⟩ := Int.eq_ofNat_of_zero_le hx.1
  obtain ⟨b, rfl⟩ := Int.eq_ofNat_of_zero_le hy.1
  have e : (a : Int) * 65536 + b = ((a * 65536 + b : Nat) : Int) := by omega
  rw [e, ii_nI, pk_shrN (by omega) _ 16 (by decide +kernel), ii_nI]
  congr 1
  omega
theorem ii_and16 {x y : Int} (hx : 0 ≤ x ∧ x < 32768) (hy : 0 ≤ y ∧ y < 65536) : ii (x * 65536 + y) &&& ii 65535 = ii y := by
  obtain ⟨a, rfl⟩ := Int.eq_ofNat_of_zero_le hx.1
  obtain ⟨b, rfl⟩ := Int.eq_ofNat_of_zero_le hy.1
  have e : (a : Int) * 65536 + b = ((a * 65536 + b : Nat) : Int) := by omega
  rw [e, ii_nI, pk_andN (by omega) 16 (by decide +kernel), ii_nI]
  congr 1
  omega
set_option maxRecDepth 100000 in
set_option maxHeartbeats 4000000 in
theorem c_X1_xOf (l : Launch) (x y : Int) (hx : 0 ≤ x ∧ x < 32768) (hy : 0 ≤ y ∧ y < 65536) : Met l yX1_xOf (Cond.code yX1_xOf cX1_xOf 1 (some .int) :: AW) { frames := 0, cells := 0, slots := 0, locals := 0 } (PcN [.int (ii (x * 65536 + y))]) (QcV (some (.int (ii x)))) 0 0 (fun _ => False) := by
  refine mt_pure (by decide +kernel) (Nat.le_of_ble_eq_true rfl) ?_
  intro P0 E0 S0 M0 A0 B0 T0 K0 C hN hr hk ls hl
  have hl : lv_has ls 1 [(0, .int (ii (x * 65536 + y)))] := hl
  refine lv_iload_n C.1 C.2.1 dX1_xOf_0 rfl (lv_at hl 0 rfl) ?_
  refine i_bipush C dX1_xOf_1 (by decide +kernel) ?_
  refine lv_ishr C.1 C.2.1 dX1_xOf_3 ?_
  rw [ii_shr16 hx hy]
  exact rt_i C hr hk dX1_xOf_4 rfl
set_option maxRecDepth 100000 in
set_option maxHeartbeats 4000000 in
theorem c_X1_yOf (l : Launch) (x y : Int) (hx : 0 ≤ x ∧ x < 32768) (hy : 0 ≤ y ∧ y < 65536) : Met l yX1_yOf (Cond.code yX1_yOf cX1_yOf 1 (some .int) :: AW) { frames := 0, cells := 0, slots := 0, locals := 0 } (PcN [.int (ii (x * 65536 + y))]) (QcV (some (.int (ii y)))) 0 0 (fun _ => False) := by
  refine mt_pure (by decide +kernel) (Nat.le_of_ble_eq_true rfl) ?_
  intro P0 E0 S0 M0 A0 B0 T0 K0 C hN hr hk ls hl
  have hl : lv_has ls 1 [(0, .int (ii (x * 65536 + y)))] := hl
  refine lv_iload_n C.1 C.2.1 dX1_yOf_0 rfl (lv_at hl 0 rfl) ?_
  refine i_ldc (n := 65535) C dX1_yOf_1 aw_k_X1_155 (by decide +kernel) ?_
  refine lv_iand C.1 C.2.1 dX1_yOf_3 ?_
  rw [ii_and16 hx hy]
  exact rt_i C hr hk dX1_yOf_4 rfl
set_option maxRecDepth 100000 in
set_option maxHeartbeats 4000000 in
theorem c_floorModI (l : Launch) (x y : Int) (hx : rg x) (hy : 0 < y ∧ y < 2147483648) : Met l yJM_floorModI (Cond.code yJM_floorModI cJM_floorModI 3 (some .int) :: AW) { frames := 0, cells := 0, slots := 0, locals := 0 } (PcN [.int (ii x), .int (ii y)]) (QcV (some (.int (ii (x % y))))) 0 0 (fun _ => False) := by
  refine mt_pureF (by decide +kernel) (Nat.le_of_ble_eq_true rfl) ?_
  intro P0 E0 S0 M0 A0 B0 T0 K0 C hN hr hk ls hl
  have hl : lv_has ls 3 [(0, .int (ii x)), (1, .int (ii y))] := hl
  refine lv_iload_n C.1 C.2.1 dJM_floorModI_0 rfl (lv_at hl 0 rfl) ?_
  refine lv_iload_n C.1 C.2.1 dJM_floorModI_1 rfl (lv_at hl 1 rfl) ?_
  refine i_remT C dJM_floorModI_2 hx hy ?_
  refine lv_istore_n C.1 C.2.1 dJM_floorModI_3 rfl hl (by decide) rfl (fun ls hl => ?_)
  have hl : lv_has ls 3 [(2, .int (ii (x.tmod y))), (0, .int (ii x)), (1, .int (ii y))] := hl
  refine lv_iload_n C.1 C.2.1 dJM_floorModI_4 rfl (lv_at hl 1 rfl) ?_
  refine lv_iload_n C.1 C.2.1 dJM_floorModI_5 rfl (lv_at hl 2 rfl) ?_
  refine lv_ixor C.1 C.2.1 dJM_floorModI_6 ?_
  have q := tmod_emod (a := x) hy.1
  have z := Int.tmod_nonneg (a := x) y
  have z2 := Int.lt_tmod_of_pos x hy.1
  have z3 := Int.tmod_lt_of_pos x hy.1
  have z4 : x < 0 → x.tmod y ≤ 0 := fun h => by rw [show x = -(-x) by omega, Int.neg_tmod]; have := Int.tmod_nonneg (a := -x) y (by omega); omega
  refine lv_if_ge (tgt := 18) C.1 C.2.1 dJM_floorModI_7 (by decide) (fun hc => ?_) (fun hc => ?_)
  · rw [ii_xor hx ⟨by omega, by omega⟩] at hc
    refine lv_iload_n C.1 C.2.1 dJM_floorModI_18 rfl (lv_at hl 0 rfl) ?_
    exact rt_i C hr hk dJM_floorModI_19 (by rw [q, if_neg (by omega)])
  · rw [ii_xor hx ⟨by omega, by omega⟩] at hc
    refine lv_iload_n C.1 C.2.1 dJM_floorModI_10 rfl (lv_at hl 0 rfl) ?_
    refine i_if_eq (tgt := 18) C dJM_floorModI_11 (by decide) ⟨by omega, by omega⟩ (fun hd => ?_) (fun hd => ?_)
    · refine lv_iload_n C.1 C.2.1 dJM_floorModI_18 rfl (lv_at hl 0 rfl) ?_
      exact rt_i C hr hk dJM_floorModI_19 (by rw [q, if_neg (by omega)])
    · refine lv_iload_n C.1 C.2.1 dJM_floorModI_14 rfl (lv_at hl 0 rfl) ?_
      refine lv_iload_n C.1 C.2.1 dJM_floorModI_15 rfl (lv_at hl 2 rfl) ?_
      refine i_add C dJM_floorModI_16 ?_
      exact rt_i C hr hk dJM_floorModI_17 (by rw [q, if_pos (by omega)])
