/-! The class: loops over ints. By wip/whole/tools/gen2.py. -/
/-- square and multiply, as the class does -/
def pwF (q : Nat) : Nat → Nat → Nat → Nat → Nat
  | 0, r, _, _ => r
  | f + 1, r, s, e => if e = 0 then r else pwF q f (if e % 2 = 1 then r * s % q else r) (s * s % q) (e / 2)
theorem ii_and1 {e : Nat} (h : e < 2147483648) : ii (e : Int) &&& ii 1 = ii ((e % 2 : Nat) : Int) := by
  rw [ii_nI, ii_nI, pk_andN (k := 1) (by omega) (by decide +kernel)]
theorem ii_shr1 {e : Nat} (h : e < 2147483648) : ii (e : Int) >>> (ii 1 &&& 31) = ii ((e / 2 : Nat) : Int) := by
  rw [ii_nI, ii_nI, pk_shrN (k := 1) (by omega) _ (by decide +kernel)]
theorem nmul_b {x y : Nat} (h1 : x ≤ 1100) (k1 : y ≤ 1100) : x * y ≤ 1210000 := Nat.mul_le_mul h1 k1
set_option maxRecDepth 100000 in
set_option maxHeartbeats 4000000 in
theorem c_X1_inverse (l : Launch) (a q : Nat) (ha : a < q) (hq : 2 ≤ q ∧ q ≤ 1100) : Met l yX1_inverse (Cond.code yX1_inverse cX1_inverse 5 (some .int) :: AW) { frames := 0, cells := 0, slots := 0, locals := 0 } (PcN [.int (ii (a : Int)), .int (ii (q : Int))]) (QcV (some (.int (ii (pwF q 11 1 a (q - 2) : Nat))))) 0 0 (fun _ => False) := by
  refine mt_pure (by decide +kernel) (Nat.le_of_ble_eq_true rfl) ?_
  intro P0 E0 S0 M0 A0 B0 T0 K0 C hN hr hk ls hl
  have hl : lv_has ls 5 [(0, .int (ii (a : Int))), (1, .int (ii (q : Int)))] := hl
  generalize hV : pwF q 11 1 a (q - 2) = V
  have loop : ∀ (f : Nat) (ls : Array Slot) (r t e : Nat), r < q → t < q → e < 2 ^ f → e ≤ 1100 → pwF q f r t e = V → lv_has ls 5 [(0, .int (ii (a : Int))), (1, .int (ii (q : Int))), (2, .int (ii (r : Int))), (3, .int (ii (t : Int))), (4, .int (ii (e : Int)))] → W P0 l E0 ({ frames := 0, cells := 0, slots := 0, locals := 0 } : Room) S0 M0 A0 B0 T0 K0 S0.heap [] 0 0 (MQ B0 (QcV (some (.int (ii (V : Nat))))) A0 S0 0 0 (fun _ => False)) (F0 M0 9 ls []) := by
    intro f
    induction f with
    | zero =>
      intro ls r t e hr1 ht he he2 hV hl
      have he0 : e = 0 := by simpa using he
      have hV : r = V := hV
      refine lv_iload C.1 C.2.1 dX1_inverse_9 (lv_at hl 4 rfl) ?_
      refine i_if_le (tgt := 43) C dX1_inverse_11 (by decide) ⟨by omega, by omega⟩ (fun hc => ?_) (fun hc => ?_)
      · refine lv_iload_n C.1 C.2.1 dX1_inverse_43 rfl (lv_at hl 2 rfl) ?_
        rw [hV]
        exact rt_i C hr hk dX1_inverse_44 rfl
      · omega
    | succ f ih =>
      intro ls r t e hr1 ht he he2 hV hl
      have hV : (if e = 0 then r else pwF q f (if e % 2 = 1 then r * t % q else r) (t * t % q) (e / 2)) = V := hV
      have m1 := nmul_b (show r ≤ 1100 by omega) (show t ≤ 1100 by omega)
      have m2 := nmul_b (show t ≤ 1100 by omega) (show t ≤ 1100 by omega)
      have m3 := Nat.mod_lt (r * t) (show 0 < q by omega)
      have m4 := Nat.mod_lt (t * t) (show 0 < q by omega)
      have m5 : e / 2 < 2 ^ f := by rw [Nat.pow_succ] at he; omega
      refine lv_iload C.1 C.2.1 dX1_inverse_9 (lv_at hl 4 rfl) ?_
      refine i_if_le (tgt := 43) C dX1_inverse_11 (by decide) ⟨by omega, by omega⟩ (fun hc => ?_) (fun hc => ?_)
      · rw [if_pos (show e = 0 by omega)] at hV
        refine lv_iload_n C.1 C.2.1 dX1_inverse_43 rfl (lv_at hl 2 rfl) ?_
        rw [hV]
        exact rt_i C hr hk dX1_inverse_44 rfl
      · rw [if_neg (show ¬ e = 0 by omega)] at hV
        refine lv_iload C.1 C.2.1 dX1_inverse_14 (lv_at hl 4 rfl) ?_
        refine i_const C dX1_inverse_16 ?_
        refine lv_iand C.1 C.2.1 dX1_inverse_17 ?_
        rw [ii_and1 (by omega)]
        refine i_const C dX1_inverse_18 ?_
        refine i_icmp_ne (tgt := 28) C dX1_inverse_19 (by decide) ⟨by omega, by omega⟩ ⟨by omega, by omega⟩ (fun hd => ?_) (fun hd => ?_)
        · rw [if_neg (show ¬ e % 2 = 1 by omega)] at hV
          refine lv_iload_n C.1 C.2.1 dX1_inverse_28 rfl (lv_at hl 3 rfl) ?_
          refine lv_iload_n C.1 C.2.1 dX1_inverse_29 rfl (lv_at hl 3 rfl) ?_
          refine i_mul C dX1_inverse_30 ?_
          refine lv_iload_n C.1 C.2.1 dX1_inverse_31 rfl (lv_at hl 1 rfl) ?_
          refine i_rem C dX1_inverse_32 ⟨by omega, by omega⟩ ⟨by omega, by omega⟩ ?_
          refine i_top (b := ((t * t % q : Nat) : Int)) rfl ?_
          refine lv_istore_n C.1 C.2.1 dX1_inverse_33 rfl hl (by decide) rfl (fun ls hl => ?_)
          have hl : lv_has ls 5 [(3, .int (ii ((t * t % q : Nat) : Int))), (0, .int (ii (a : Int))), (1, .int (ii (q : Int))), (2, .int (ii (r : Int))), (4, .int (ii (e : Int)))] := hl
          refine lv_iload C.1 C.2.1 dX1_inverse_34 (lv_at hl 4 rfl) ?_
          refine i_const C dX1_inverse_36 ?_
          refine lv_ishr C.1 C.2.1 dX1_inverse_37 ?_
          rw [ii_shr1 (by omega)]
          refine lv_istore C.1 C.2.1 dX1_inverse_38 hl (by decide) rfl (fun ls hl => ?_)
          have hl : lv_has ls 5 [(4, .int (ii ((e / 2 : Nat) : Int))), (3, .int (ii ((t * t % q : Nat) : Int))), (0, .int (ii (a : Int))), (1, .int (ii (q : Int))), (2, .int (ii (r : Int)))] := hl
          refine lv_goto (tgt := 9) C.1 C.2.1 dX1_inverse_40 (by decide) ?_
          exact ih ls _ _ _ hr1 m4 m5 (by omega) hV (lv_sub (l' := [(0, .int (ii (a : Int))), (1, .int (ii (q : Int))), (2, .int (ii (r : Int))), (3, .int (ii ((t * t % q : Nat) : Int))), (4, .int (ii ((e / 2 : Nat) : Int)))]) hl [2, 3, 4, 1, 0] rfl)
        · rw [if_pos (show e % 2 = 1 by omega)] at hV
          refine lv_iload_n C.1 C.2.1 dX1_inverse_22 rfl (lv_at hl 2 rfl) ?_
          refine lv_iload_n C.1 C.2.1 dX1_inverse_23 rfl (lv_at hl 3 rfl) ?_
          refine i_mul C dX1_inverse_24 ?_
          refine lv_iload_n C.1 C.2.1 dX1_inverse_25 rfl (lv_at hl 1 rfl) ?_
          refine i_rem C dX1_inverse_26 ⟨by omega, by omega⟩ ⟨by omega, by omega⟩ ?_
          refine i_top (b := ((r * t % q : Nat) : Int)) rfl ?_
          refine lv_istore_n C.1 C.2.1 dX1_inverse_27 rfl hl (by decide) rfl (fun ls hl => ?_)
          have hl : lv_has ls 5 [(2, .int (ii ((r * t % q : Nat) : Int))), (0, .int (ii (a : Int))), (1, .int (ii (q : Int))), (3, .int (ii (t : Int))), (4, .int (ii (e : Int)))] := hl
          refine lv_iload_n C.1 C.2.1 dX1_inverse_28 rfl (lv_at hl 3 rfl) ?_
          refine lv_iload_n C.1 C.2.1 dX1_inverse_29 rfl (lv_at hl 3 rfl) ?_
          refine i_mul C dX1_inverse_30 ?_
          refine lv_iload_n C.1 C.2.1 dX1_inverse_31 rfl (lv_at hl 2 rfl) ?_
          refine i_rem C dX1_inverse_32 ⟨by omega, by omega⟩ ⟨by omega, by omega⟩ ?_
          refine i_top (b := ((t * t % q : Nat) : Int)) rfl ?_
          refine lv_istore_n C.1 C.2.1 dX1_inverse_33 rfl hl (by decide) rfl (fun ls hl => ?_)
          have hl : lv_has ls 5 [(3, .int (ii ((t * t % q : Nat) : Int))), (2, .int (ii ((r * t % q : Nat) : Int))), (0, .int (ii (a : Int))), (1, .int (ii (q : Int))), (4, .int (ii (e : Int)))] := hl
          refine lv_iload C.1 C.2.1 dX1_inverse_34 (lv_at hl 4 rfl) ?_
          refine i_const C dX1_inverse_36 ?_
          refine lv_ishr C.1 C.2.1 dX1_inverse_37 ?_
          rw [ii_shr1 (by omega)]
          refine lv_istore C.1 C.2.1 dX1_inverse_38 hl (by decide) rfl (fun ls hl => ?_)
          have hl : lv_has ls 5 [(4, .int (ii ((e / 2 : Nat) : Int))), (3, .int (ii ((t * t % q : Nat) : Int))), (2, .int (ii ((r * t % q : Nat) : Int))), (0, .int (ii (a : Int))), (1, .int (ii (q : Int)))] := hl
          refine lv_goto (tgt := 9) C.1 C.2.1 dX1_inverse_40 (by decide) ?_
          exact ih ls _ _ _ m3 m4 m5 (by omega) hV (lv_sub (l' := [(0, .int (ii (a : Int))), (1, .int (ii (q : Int))), (2, .int (ii ((r * t % q : Nat) : Int))), (3, .int (ii ((t * t % q : Nat) : Int))), (4, .int (ii ((e / 2 : Nat) : Int)))]) hl [3, 4, 2, 1, 0] rfl)
  refine i_const C dX1_inverse_0 ?_
  refine lv_istore_n C.1 C.2.1 dX1_inverse_1 rfl hl (by decide) rfl (fun ls hl => ?_)
  have hl : lv_has ls 5 [(2, .int (ii 1)), (0, .int (ii (a : Int))), (1, .int (ii (q : Int)))] := hl
  refine lv_iload_n C.1 C.2.1 dX1_inverse_2 rfl (lv_at hl 1 rfl) ?_
  refine lv_istore_n C.1 C.2.1 dX1_inverse_3 rfl hl (by decide) rfl (fun ls hl => ?_)
  have hl : lv_has ls 5 [(3, .int (ii (a : Int))), (2, .int (ii 1)), (0, .int (ii (a : Int))), (1, .int (ii (q : Int)))] := hl
  refine lv_iload_n C.1 C.2.1 dX1_inverse_4 rfl (lv_at hl 3 rfl) ?_
  refine i_const C dX1_inverse_5 ?_
  refine i_sub C dX1_inverse_6 ?_
  refine i_top (b := ((q - 2 : Nat) : Int)) (by omega) ?_
  refine lv_istore C.1 C.2.1 dX1_inverse_7 hl (by decide) rfl (fun ls hl => ?_)
  have hl : lv_has ls 5 [(4, .int (ii ((q - 2 : Nat) : Int))), (3, .int (ii (a : Int))), (2, .int (ii 1)), (0, .int (ii (a : Int))), (1, .int (ii (q : Int)))] := hl
  exact loop 11 ls 1 a (q - 2) (by omega) ha (by omega) (by omega) hV (lv_sub (l' := [(0, .int (ii (a : Int))), (1, .int (ii (q : Int))), (2, .int (ii 1)), (3, .int (ii (a : Int))), (4, .int (ii ((q - 2 : Nat) : Int)))]) hl [3, 4, 2, 1, 0] rfl)
theorem pwF_lt {q : Nat} (hq : 1 < q) : ∀ (f r s e : Nat), r < q → s < q → pwF q f r s e < q
  | 0, r, s, e, hr, _ => hr
  | f + 1, r, s, e, hr, hs => by
    show (if e = 0 then r else pwF q f (if e % 2 = 1 then r * s % q else r) (s * s % q) (e / 2)) < q
    split
    · exact hr
    · refine pwF_lt hq f _ _ _ ?_ (Nat.mod_lt _ (by omega))
      split
      · exact Nat.mod_lt _ (by omega)
      · exact hr
set_option maxRecDepth 100000 in
set_option maxHeartbeats 4000000 in
theorem c_X1_quotient (l : Launch) (x y : Int) (q : Nat) (hx : rg x) (hy : rg y) (hq : 2 ≤ q ∧ q ≤ 1100) : Met l yX1_quotient (Cond.code yX1_quotient cX1_quotient 3 (some .int) :: AW) ({ frames := 1, cells := 0, slots := 0, locals := 24 } : Room) (PcN [.int (ii x), .int (ii y), .int (ii (q : Int))]) (QcV (some (.int (ii ((x % q * (pwF q 11 1 (y % q).toNat (q - 2) : Nat)) % q))))) 0 0 (fun _ => False) := by
  refine mt_pure (by decide +kernel) (Nat.le_of_ble_eq_true rfl) ?_
  intro P0 E0 S0 M0 A0 B0 T0 K0 C hN hr hk ls hl
  have hl : lv_has ls 3 [(0, .int (ii x)), (1, .int (ii y)), (2, .int (ii (q : Int)))] := hl
  have q1 := em_b x (show (0 : Int) < q by omega)
  have q2 := em_b y (show (0 : Int) < q by omega)
  refine lv_iload_n C.1 C.2.1 dX1_quotient_0 rfl (lv_at hl 0 rfl) ?_
  refine lv_iload_n C.1 C.2.1 dX1_quotient_1 rfl (lv_at hl 2 rfl) ?_
  refine ca_S (As := [.int (ii x), .int (ii (q : Int))]) (rest := []) C (c_floorModI l x (q : Int) hx ⟨by omega, by omega⟩) (pcn_pre _ hN) aw_b_JM_floorModI aw_m_X1_161 aw_s_JM_floorModI aw_i_JM ⟨rfl, rfl⟩ 2 (by decide +kernel) rfl ⟨by decide, by decide⟩ hl.1 rfl (Nat.le_of_ble_eq_true rfl) dX1_quotient_2 ⟨by decide, by decide⟩ ?_
  refine lv_iload_n C.1 C.2.1 dX1_quotient_5 rfl (lv_at hl 1 rfl) ?_
  refine lv_iload_n C.1 C.2.1 dX1_quotient_6 rfl (lv_at hl 2 rfl) ?_
  refine ca_S (As := [.int (ii y), .int (ii (q : Int))]) (rest := [.int (ii (x % (q : Int)))]) C (c_floorModI l y (q : Int) hy ⟨by omega, by omega⟩) (pcn_pre _ hN) aw_b_JM_floorModI aw_m_X1_161 aw_s_JM_floorModI aw_i_JM ⟨rfl, rfl⟩ 2 (by decide +kernel) rfl ⟨by decide, by decide⟩ hl.1 rfl (Nat.le_of_ble_eq_true rfl) dX1_quotient_7 ⟨by decide, by decide⟩ ?_
  refine i_top (b := (((y % (q : Int)).toNat : Nat) : Int)) (by omega) ?_
  refine lv_iload_n C.1 C.2.1 dX1_quotient_10 rfl (lv_at hl 2 rfl) ?_
  refine ca_S (As := [.int (ii (((y % (q : Int)).toNat : Nat) : Int)), .int (ii (q : Int))]) (rest := [.int (ii (x % (q : Int)))]) C (c_X1_inverse l (y % (q : Int)).toNat q (by omega) hq) (pcn_pre _ hN) aw_b_X1_inverse aw_m_X1_166 aw_s_X1_inverse aw_i_X1 ⟨rfl, rfl⟩ 2 (by decide +kernel) rfl ⟨by decide, by decide⟩ hl.1 rfl (Nat.le_of_ble_eq_true rfl) dX1_quotient_11 ⟨by decide, by decide⟩ ?_
  have q3 := pwF_lt (q := q) (by omega) 11 1 (y % (q : Int)).toNat (q - 2) (by omega) (by omega)
  generalize pwF q 11 1 (y % (q : Int)).toNat (q - 2) = k at q3 ⊢
  have q4 := mu_b q1.1 (show x % (q : Int) ≤ 1099 by omega) (show (0 : Int) ≤ (k : Int) by omega) (show (k : Int) ≤ 1099 by omega)
  refine i_mul C dX1_quotient_14 ?_
  refine lv_iload_n C.1 C.2.1 dX1_quotient_15 rfl (lv_at hl 2 rfl) ?_
  refine i_rem C dX1_quotient_16 ⟨by omega, by omega⟩ ⟨by omega, by omega⟩ ?_
  exact rt_i C hr hk dX1_quotient_17 rfl
