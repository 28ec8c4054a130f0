/-! The reference: what reads its tables. By wip/whole/tools/gen14.py. -/
def fdF (tx ty : Nat → Nat) (n : Nat) (x y : Int) : Nat → Nat → Nat → Nat
  | 0, _, at1 => at1
  | f + 1, i, at1 => if n ≤ i then at1 else fdF tx ty n x y f (i + 1) (if (tx i : Int) = x then (if (ty i : Int) = y then i else at1) else at1)
theorem fdF_s (tx ty : Nat → Nat) (n : Nat) (x y : Int) (f i at1 : Nat) : fdF tx ty n x y (f + 1) i at1 = if n ≤ i then at1 else fdF tx ty n x y f (i + 1) (if (tx i : Int) = x then (if (ty i : Int) = y then i else at1) else at1) := rfl
theorem fdF_0 (tx ty : Nat → Nat) (n : Nat) (x y : Int) (i at1 : Nat) : fdF tx ty n x y 0 i at1 = at1 := rfl
set_option maxRecDepth 100000 in
set_option maxHeartbeats 1000000 in
theorem c_X2_find (l : Launch) (D : va_G) (hm : Nat) (p a b : Int) (n : Nat) (key dr th : Int) (hX hY hR hO : Nat) (sx sy dk dv : Int32) (cX cY : ClassId) (tx ty : Nat → Nat) (hT : ∀ j, tx j ≤ 1020 ∧ ty j ≤ 1020) (hn : n ≤ 1100) (x y : Int) (hx1 : rg x) (hy1 : rg y) : Met l yX2_find (Cond.code yX2_find cX2_find 5 (some .int) :: AW) ({ frames := 0, cells := 0, slots := 0, locals := 0 } : Room) (PcW D [(hm, .inr (2, MO p a b n key dr th hX hY hR hO sx sy dk dv)), (hX, .inl (cX, 1100, .inl (fun j => ii ((tx j : Nat) : Int)))), (hY, .inl (cY, 1100, .inl (fun j => ii ((ty j : Nat) : Int))))] [(cX, .int), (cY, .int)] [.ref hm, .int (ii x), .int (ii y)]) (QcV (some (.int (ii ((fdF tx ty n x y 1100 1 0 : Nat) : Int))))) 0 0 (fun _ => False) := by
  refine mt_W (by decide +kernel) (Nat.le_of_ble_eq_true rfl) ?_
  intro P0 E0 S0 M0 A0 B0 T0 K0 C hN hP hK hr hk ls hl
  have hl : lv_has ls 5 [(0, .ref hm), (1, .int (ii x)), (2, .int (ii y))] := hl
  generalize hV : fdF tx ty n x y 1100 1 0 = V
  have loop : ∀ (f : Nat) (ls : Array Slot) (i k : Nat), i + f = 1101 → k ≤ 1100 → fdF tx ty n x y f i k = V → lv_has ls 5 [(0, .ref hm), (1, .int (ii x)), (2, .int (ii y)), (3, .int (ii (k : Int))), (4, .int (ii (i : Int)))] → W P0 l E0 ({ frames := 0, cells := 0, slots := 0, locals := 0 } : Room) S0 M0 A0 B0 T0 K0 S0.heap [] 0 0 (MQ B0 (QcV (some (.int (ii (V : Nat))))) A0 S0 0 0 (fun _ => False)) (F0 M0 5 ls []) := by
    intro f
    induction f with
    | zero =>
    intro ls i k hf hk1 hV hl
    rw [fdF_0] at hV
    refine lv_iload C.1 C.2.1 dX2_find_5 (lv_at hl 4 rfl) ?_
    refine lv_aload_n C.1 C.2.1 dX2_find_7 rfl (lv_at hl 0 rfl) ?_
    refine gf C hK hP 0 rfl rfl aw_uX2 3 (by decide) aw_f_X2_65 rfl dX2_find_8 ?_
    refine i_icmp_ge (tgt := 49) C dX2_find_11 (by decide) ⟨by omega, by omega⟩ ⟨by omega, by omega⟩ (fun h1 => ?_) (fun h1 => ?_)
    · refine lv_iload_n C.1 C.2.1 dX2_find_49 rfl (lv_at hl 3 rfl) ?_
      exact rt_i C hr hk dX2_find_50 (by subst hV; rfl)
    · omega
    | succ f ih =>
    intro ls i k hf hk1 hV hl
    rw [fdF_s] at hV
    have b1 := hT i
    refine lv_iload C.1 C.2.1 dX2_find_5 (lv_at hl 4 rfl) ?_
    refine lv_aload_n C.1 C.2.1 dX2_find_7 rfl (lv_at hl 0 rfl) ?_
    refine gf C hK hP 0 rfl rfl aw_uX2 3 (by decide) aw_f_X2_65 rfl dX2_find_8 ?_
    refine i_icmp_ge (tgt := 49) C dX2_find_11 (by decide) ⟨by omega, by omega⟩ ⟨by omega, by omega⟩ (fun h1 => ?_) (fun h1 => ?_)
    · rw [if_pos (show n ≤ i by omega)] at hV
      refine lv_iload_n C.1 C.2.1 dX2_find_49 rfl (lv_at hl 3 rfl) ?_
      exact rt_i C hr hk dX2_find_50 (by subst hV; rfl)
    · rw [if_neg (show ¬ n ≤ i by omega)] at hV
      refine lv_aload_n C.1 C.2.1 dX2_find_14 rfl (lv_at hl 0 rfl) ?_
      refine gf C hK hP 0 rfl rfl aw_uX2 7 (by decide) aw_f_X2_7 rfl dX2_find_15 ?_
      refine lv_iload C.1 C.2.1 dX2_find_18 (lv_at hl 4 rfl) ?_
      refine i_ald C hK hP 1 0 rfl rfl i (by omega) (by omega) (by omega) dX2_find_20 ?_
      refine lv_iload_n C.1 C.2.1 dX2_find_21 rfl (lv_at hl 1 rfl) ?_
      refine i_icmp_ne (tgt := 41) C dX2_find_22 (by decide) ⟨by omega, by omega⟩ ⟨by omega, by omega⟩ (fun h2 => ?_) (fun h2 => ?_)
      · rw [if_neg h2] at hV
        refine lv_iload_n C.1 C.2.1 dX2_find_41 rfl (lv_at hl 3 rfl) ?_
        refine lv_istore_n C.1 C.2.1 dX2_find_42 rfl hl (by decide) rfl (fun ls hl => ?_)
        have hl : lv_has ls 5 [(3, .int (ii (k : Int))), (0, .ref hm), (1, .int (ii x)), (2, .int (ii y)), (4, .int (ii (i : Int)))] := hl
        refine lv_iinc C.1 C.2.1 dX2_find_43 hl (k := 4) rfl (ii_add (i : Int) 1) (by decide) rfl (fun ls hl => ?_)
        have hl : lv_has ls 5 [(4, .int (ii ((i : Int) + 1))), (3, .int (ii (k : Int))), (0, .ref hm), (1, .int (ii x)), (2, .int (ii y))] := hl
        refine lv_goto (tgt := 5) C.1 C.2.1 dX2_find_46 (by decide) ?_
        exact ih ls (i + 1) k (by omega) (by omega) hV (lv_sub (l' := [(0, .ref hm), (1, .int (ii x)), (2, .int (ii y)), (3, .int (ii (k : Int))), (4, .int (ii ((i : Int) + 1)))]) hl [2, 3, 4, 1, 0] rfl)
      · rw [if_pos (Classical.not_not.mp h2)] at hV
        refine lv_aload_n C.1 C.2.1 dX2_find_25 rfl (lv_at hl 0 rfl) ?_
        refine gf C hK hP 0 rfl rfl aw_uX2 8 (by decide) aw_f_X2_13 rfl dX2_find_26 ?_
        refine lv_iload C.1 C.2.1 dX2_find_29 (lv_at hl 4 rfl) ?_
        refine i_ald C hK hP 2 1 rfl rfl i (by omega) (by omega) (by omega) dX2_find_31 ?_
        refine lv_iload_n C.1 C.2.1 dX2_find_32 rfl (lv_at hl 2 rfl) ?_
        refine i_icmp_ne (tgt := 41) C dX2_find_33 (by decide) ⟨by omega, by omega⟩ ⟨by omega, by omega⟩ (fun h3 => ?_) (fun h3 => ?_)
        · rw [if_neg h3] at hV
          refine lv_iload_n C.1 C.2.1 dX2_find_41 rfl (lv_at hl 3 rfl) ?_
          refine lv_istore_n C.1 C.2.1 dX2_find_42 rfl hl (by decide) rfl (fun ls hl => ?_)
          have hl : lv_has ls 5 [(3, .int (ii (k : Int))), (0, .ref hm), (1, .int (ii x)), (2, .int (ii y)), (4, .int (ii (i : Int)))] := hl
          refine lv_iinc C.1 C.2.1 dX2_find_43 hl (k := 4) rfl (ii_add (i : Int) 1) (by decide) rfl (fun ls hl => ?_)
          have hl : lv_has ls 5 [(4, .int (ii ((i : Int) + 1))), (3, .int (ii (k : Int))), (0, .ref hm), (1, .int (ii x)), (2, .int (ii y))] := hl
          refine lv_goto (tgt := 5) C.1 C.2.1 dX2_find_46 (by decide) ?_
          exact ih ls (i + 1) k (by omega) (by omega) hV (lv_sub (l' := [(0, .ref hm), (1, .int (ii x)), (2, .int (ii y)), (3, .int (ii (k : Int))), (4, .int (ii ((i : Int) + 1)))]) hl [2, 3, 4, 1, 0] rfl)
        · rw [if_pos (Classical.not_not.mp h3)] at hV
          refine lv_iload C.1 C.2.1 dX2_find_36 (lv_at hl 4 rfl) ?_
          refine lv_goto (tgt := 42) C.1 C.2.1 dX2_find_38 (by decide) ?_
          refine lv_istore_n C.1 C.2.1 dX2_find_42 rfl hl (by decide) rfl (fun ls hl => ?_)
          have hl : lv_has ls 5 [(3, .int (ii (i : Int))), (0, .ref hm), (1, .int (ii x)), (2, .int (ii y)), (4, .int (ii (i : Int)))] := hl
          refine lv_iinc C.1 C.2.1 dX2_find_43 hl (k := 4) rfl (ii_add (i : Int) 1) (by decide) rfl (fun ls hl => ?_)
          have hl : lv_has ls 5 [(4, .int (ii ((i : Int) + 1))), (3, .int (ii (i : Int))), (0, .ref hm), (1, .int (ii x)), (2, .int (ii y))] := hl
          refine lv_goto (tgt := 5) C.1 C.2.1 dX2_find_46 (by decide) ?_
          exact ih ls (i + 1) i (by omega) (by omega) hV (lv_sub (l' := [(0, .ref hm), (1, .int (ii x)), (2, .int (ii y)), (3, .int (ii (i : Int))), (4, .int (ii ((i : Int) + 1)))]) hl [2, 3, 4, 1, 0] rfl)
  refine i_const C dX2_find_0 ?_
  refine lv_istore_n C.1 C.2.1 dX2_find_1 rfl hl (by decide) rfl (fun ls hl => ?_)
  have hl : lv_has ls 5 [(3, .int (ii 0)), (0, .ref hm), (1, .int (ii x)), (2, .int (ii y))] := hl
  refine i_const C dX2_find_2 ?_
  refine lv_istore C.1 C.2.1 dX2_find_3 hl (by decide) rfl (fun ls hl => ?_)
  have hl : lv_has ls 5 [(4, .int (ii 1)), (3, .int (ii 0)), (0, .ref hm), (1, .int (ii x)), (2, .int (ii y))] := hl
  exact loop 1100 ls 1 0 (by omega) (by omega) hV (lv_sub (l' := [(0, .ref hm), (1, .int (ii x)), (2, .int (ii y)), (3, .int (ii 0)), (4, .int (ii 1))]) hl [2, 3, 4, 1, 0] rfl)
def boF (tx ty : Nat → Nat) (i : Nat) (k : Int) : Int := if i = 0 then 0 else if k = 0 then 17179869184 + (tx i : Int) * 65536 + (ty i : Int) else (2 + (ty i : Int) % 2) * 65536 + (tx i : Int)
theorem boF_b {tx ty : Nat → Nat} (hT : ∀ j, tx j ≤ 1020 ∧ ty j ≤ 1020) (i : Nat) (k : Int) : 0 ≤ boF tx ty i k ∧ boF tx ty i k < 18000000000 := by
  unfold boF
  have := hT i
  repeat' split
  all_goals omega
set_option maxRecDepth 100000 in
set_option maxHeartbeats 1000000 in
theorem c_X2_bytesOf (l : Launch) (D : va_G) (hm : Nat) (p a b : Int) (n : Nat) (key dr th : Int) (hX hY hR hO : Nat) (sx sy dk dv : Int32) (cX cY : ClassId) (tx ty : Nat → Nat) (hT : ∀ j, tx j ≤ 1020 ∧ ty j ≤ 1020) (hn : n ≤ 1100) (i : Nat) (hi : i < 1100) (k : Int) (hk1 : k = 0 ∨ k = 1) : Met l yX2_bytesOf (Cond.code yX2_bytesOf cX2_bytesOf 3 (some .long) :: AW) ({ frames := 0, cells := 0, slots := 0, locals := 0 } : Room) (PcW D [(hm, .inr (2, MO p a b n key dr th hX hY hR hO sx sy dk dv)), (hX, .inl (cX, 1100, .inl (fun j => ii ((tx j : Nat) : Int)))), (hY, .inl (cY, 1100, .inl (fun j => ii ((ty j : Nat) : Int))))] [(cX, .int), (cY, .int)] [.ref hm, .int (ii (i : Int)), .int (ii k)]) (QcV (some (.long (li (boF tx ty i k))))) 0 0 (fun _ => False) := by
  refine mt_W (by decide +kernel) (Nat.le_of_ble_eq_true rfl) ?_
  intro P0 E0 S0 M0 A0 B0 T0 K0 C hN hP hK hr hk ls hl
  have hl : lv_has ls 3 [(0, .ref hm), (1, .int (ii (i : Int))), (2, .int (ii k))] := hl
  generalize hV : boF tx ty i k = V
  unfold boF at hV
  have b1 := hT i
  refine lv_iload_n C.1 C.2.1 dX2_bytesOf_0 rfl (lv_at hl 1 rfl) ?_
  refine i_if_ne (tgt := 6) C dX2_bytesOf_1 (by decide) ⟨by omega, by omega⟩ (fun h1 => ?_) (fun h1 => ?_)
  · rw [if_neg (show ¬ i = 0 by omega)] at hV
    refine lv_iload_n C.1 C.2.1 dX2_bytesOf_6 rfl (lv_at hl 2 rfl) ?_
    refine i_if_eq (tgt := 36) C dX2_bytesOf_7 (by decide) ⟨by omega, by omega⟩ (fun h2 => ?_) (fun h2 => ?_)
    · rw [if_pos h2] at hV
      refine l_ldc2 (n := 17179869184) C dX2_bytesOf_36 aw_k_X2_92 (by decide +kernel) ?_
      refine lv_aload_n C.1 C.2.1 dX2_bytesOf_39 rfl (lv_at hl 0 rfl) ?_
      refine gf C hK hP 0 rfl rfl aw_uX2 7 (by decide) aw_f_X2_7 rfl dX2_bytesOf_40 ?_
      refine lv_iload_n C.1 C.2.1 dX2_bytesOf_43 rfl (lv_at hl 1 rfl) ?_
      refine i_ald C hK hP 1 0 rfl rfl i (by omega) (by omega) (by omega) dX2_bytesOf_44 ?_
      refine l_i2l C dX2_bytesOf_45 ⟨by omega, by omega⟩ ?_
      refine l_ldc2 (n := 65536) C dX2_bytesOf_46 aw_k_X2_90 (by decide +kernel) ?_
      refine l_mul C dX2_bytesOf_49 ?_
      refine l_add C dX2_bytesOf_50 ?_
      refine lv_aload_n C.1 C.2.1 dX2_bytesOf_51 rfl (lv_at hl 0 rfl) ?_
      refine gf C hK hP 0 rfl rfl aw_uX2 8 (by decide) aw_f_X2_13 rfl dX2_bytesOf_52 ?_
      refine lv_iload_n C.1 C.2.1 dX2_bytesOf_55 rfl (lv_at hl 1 rfl) ?_
      refine i_ald C hK hP 2 1 rfl rfl i (by omega) (by omega) (by omega) dX2_bytesOf_56 ?_
      refine l_i2l C dX2_bytesOf_57 ⟨by omega, by omega⟩ ?_
      refine l_add C dX2_bytesOf_58 ?_
      exact rt_l C hr hk dX2_bytesOf_59 (by rw [← hV])
    · rw [if_neg h2] at hV
      refine l_ldc2 (n := 2) C dX2_bytesOf_10 aw_k_X2_88 (by decide +kernel) ?_
      refine lv_aload_n C.1 C.2.1 dX2_bytesOf_13 rfl (lv_at hl 0 rfl) ?_
      refine gf C hK hP 0 rfl rfl aw_uX2 8 (by decide) aw_f_X2_13 rfl dX2_bytesOf_14 ?_
      refine lv_iload_n C.1 C.2.1 dX2_bytesOf_17 rfl (lv_at hl 1 rfl) ?_
      refine i_ald C hK hP 2 1 rfl rfl i (by omega) (by omega) (by omega) dX2_bytesOf_18 ?_
      refine i_const C dX2_bytesOf_19 ?_
      refine i_rem C dX2_bytesOf_20 ⟨by omega, by omega⟩ ⟨by omega, by omega⟩ ?_
      refine l_i2l C dX2_bytesOf_21 ⟨by omega, by omega⟩ ?_
      refine l_add C dX2_bytesOf_22 ?_
      refine l_ldc2 (n := 65536) C dX2_bytesOf_23 aw_k_X2_90 (by decide +kernel) ?_
      refine l_mul C dX2_bytesOf_26 ?_
      refine lv_aload_n C.1 C.2.1 dX2_bytesOf_27 rfl (lv_at hl 0 rfl) ?_
      refine gf C hK hP 0 rfl rfl aw_uX2 7 (by decide) aw_f_X2_7 rfl dX2_bytesOf_28 ?_
      refine lv_iload_n C.1 C.2.1 dX2_bytesOf_31 rfl (lv_at hl 1 rfl) ?_
      refine i_ald C hK hP 1 0 rfl rfl i (by omega) (by omega) (by omega) dX2_bytesOf_32 ?_
      refine l_i2l C dX2_bytesOf_33 ⟨by omega, by omega⟩ ?_
      refine l_add C dX2_bytesOf_34 ?_
      exact rt_l C hr hk dX2_bytesOf_35 (by rw [← hV])
  · rw [if_pos (show i = 0 by omega)] at hV
    refine l_const0 C dX2_bytesOf_4 ?_
    exact rt_l C hr hk dX2_bytesOf_5 (by subst hV; rfl)
def rdF (tx ty : Nat → Nat) (n : Nat) (k z : Int) : Nat → Nat → Int → Int
  | 0, _, at1 => at1
  | f + 1, i, at1 => if n ≤ i then at1 else rdF tx ty n k z f (i + 1) (if (k = 3 ∧ boF tx ty i 1 = z) ∨ (k = 5 ∧ boF tx ty i 0 = z) then (i : Int) else at1)
theorem rdF_s (tx ty : Nat → Nat) (n : Nat) (k z : Int) (f i : Nat) (at1 : Int) : rdF tx ty n k z (f + 1) i at1 = if n ≤ i then at1 else rdF tx ty n k z f (i + 1) (if (k = 3 ∧ boF tx ty i 1 = z) ∨ (k = 5 ∧ boF tx ty i 0 = z) then (i : Int) else at1) := rfl
theorem rdF_0 (tx ty : Nat → Nat) (n : Nat) (k z : Int) (i : Nat) (at1 : Int) : rdF tx ty n k z 0 i at1 = at1 := rfl
def reF (tx ty : Nat → Nat) (n : Nat) (k z : Int) : Int := if k = 1 then (if z = 0 then 0 else -1) else rdF tx ty n k z 1100 1 (-1)
set_option maxRecDepth 100000 in
set_option maxHeartbeats 1000000 in
theorem c_X2_read (l : Launch) (D : va_G) (hm : Nat) (p a b : Int) (n : Nat) (key dr th : Int) (hX hY hR hO : Nat) (sx sy dk dv : Int32) (cX cY : ClassId) (tx ty : Nat → Nat) (hT : ∀ j, tx j ≤ 1020 ∧ ty j ≤ 1020) (hn : n ≤ 1100) (k z : Int) (hk1 : rg k) (hz : rl z) : Met l yX2_read (Cond.code yX2_read cX2_read 7 (some .int) :: AW) ({ frames := 1, cells := 0, slots := 0, locals := 24 } : Room) (PcW D [(hm, .inr (2, MO p a b n key dr th hX hY hR hO sx sy dk dv)), (hX, .inl (cX, 1100, .inl (fun j => ii ((tx j : Nat) : Int)))), (hY, .inl (cY, 1100, .inl (fun j => ii ((ty j : Nat) : Int))))] [(cX, .int), (cY, .int)] [.ref hm, .int (ii k), .long (li z)]) (QcV (some (.int (ii (reF tx ty n k z))))) 0 0 (fun _ => False) := by
  refine mt_W (by decide +kernel) (Nat.le_of_ble_eq_true rfl) ?_
  intro P0 E0 S0 M0 A0 B0 T0 K0 C hN hP hK hr hk ls hl
  have hl : lv_has ls 7 [(0, .ref hm), (1, .int (ii k)), (2, .long (li z))] := hl
  generalize hV : reF tx ty n k z = V
  unfold reF at hV
  have loop : ∀ (f : Nat) (ls : Array Slot) (i : Nat) (u : Int), 1 ≤ i → i + f = 1101 → (-1 ≤ u ∧ u ≤ 1100) → rdF tx ty n k z f i u = V → lv_has ls 7 [(0, .ref hm), (1, .int (ii k)), (2, .long (li z)), (4, .int (ii u)), (5, .int (ii (i : Int)))] → W P0 l E0 ({ frames := 1, cells := 0, slots := 0, locals := 24 } : Room) S0 M0 A0 B0 T0 K0 S0.heap [] 0 0 (MQ B0 (QcV (some (.int (ii V)))) A0 S0 0 0 (fun _ => False)) (F0 M0 23 ls []) := by
    intro f
    induction f with
    | zero =>
    intro ls i u h1i hf hu hV hl
    rw [rdF_0] at hV
    refine lv_iload C.1 C.2.1 dX2_read_23 (lv_at hl 4 rfl) ?_
    refine lv_aload_n C.1 C.2.1 dX2_read_25 rfl (lv_at hl 0 rfl) ?_
    refine gf C hK hP 0 rfl rfl aw_uX2 3 (by decide) aw_f_X2_65 rfl dX2_read_26 ?_
    refine i_icmp_ge (tgt := 93) C dX2_read_29 (by decide) ⟨by omega, by omega⟩ ⟨by omega, by omega⟩ (fun h1 => ?_) (fun h1 => ?_)
    · refine lv_iload C.1 C.2.1 dX2_read_93 (lv_at hl 3 rfl) ?_
      exact rt_i C hr hk dX2_read_95 (by subst hV; rfl)
    · omega
    | succ f ih =>
    intro ls i u h1i hf hu hV hl
    rw [rdF_s] at hV
    have b1 := boF_b hT i 1
    have b0 := boF_b hT i 0
    refine lv_iload C.1 C.2.1 dX2_read_23 (lv_at hl 4 rfl) ?_
    refine lv_aload_n C.1 C.2.1 dX2_read_25 rfl (lv_at hl 0 rfl) ?_
    refine gf C hK hP 0 rfl rfl aw_uX2 3 (by decide) aw_f_X2_65 rfl dX2_read_26 ?_
    refine i_icmp_ge (tgt := 93) C dX2_read_29 (by decide) ⟨by omega, by omega⟩ ⟨by omega, by omega⟩ (fun h1 => ?_) (fun h1 => ?_)
    · rw [if_pos (show n ≤ i by omega)] at hV
      refine lv_iload C.1 C.2.1 dX2_read_93 (lv_at hl 3 rfl) ?_
      exact rt_i C hr hk dX2_read_95 (by subst hV; rfl)
    · rw [if_neg (show ¬ n ≤ i by omega)] at hV
      refine lv_iload_n C.1 C.2.1 dX2_read_32 rfl (lv_at hl 1 rfl) ?_
      refine i_const C dX2_read_33 ?_
      refine i_icmp_ne (tgt := 49) C dX2_read_34 (by decide) ⟨by omega, by omega⟩ ⟨by omega, by omega⟩ (fun h2 => ?_) (fun h2 => ?_)
      · refine lv_iload_n C.1 C.2.1 dX2_read_49 rfl (lv_at hl 1 rfl) ?_
        refine i_const C dX2_read_50 ?_
        refine i_icmp_ne (tgt := 70) C dX2_read_51 (by decide) ⟨by omega, by omega⟩ ⟨by omega, by omega⟩ (fun h4 => ?_) (fun h4 => ?_)
        · rw [if_neg (show ¬ ((k = 3 ∧ boF tx ty i 1 = z) ∨ (k = 5 ∧ boF tx ty i 0 = z)) by omega)] at hV
          refine i_const C dX2_read_70 ?_
          refine lv_istore C.1 C.2.1 dX2_read_71 hl (by decide) rfl (fun ls hl => ?_)
          have hl : lv_has ls 7 [(6, .int (ii 0)), (0, .ref hm), (1, .int (ii k)), (2, .long (li z)), (4, .int (ii u)), (5, .int (ii (i : Int)))] := hl
          refine lv_iload C.1 C.2.1 dX2_read_73 (lv_at hl 0 rfl) ?_
          refine i_if_eq (tgt := 83) C dX2_read_75 (by decide) ⟨by omega, by omega⟩ (fun h9 => ?_) (fun h9 => ?_)
          · refine lv_iload C.1 C.2.1 dX2_read_83 (lv_at hl 4 rfl) ?_
            refine lv_istore C.1 C.2.1 dX2_read_85 hl (by decide) rfl (fun ls hl => ?_)
            have hl : lv_has ls 7 [(4, .int (ii u)), (6, .int (ii 0)), (0, .ref hm), (1, .int (ii k)), (2, .long (li z)), (5, .int (ii (i : Int)))] := hl
            refine lv_iinc C.1 C.2.1 dX2_read_87 hl (k := 5) rfl (ii_add (i : Int) 1) (by decide) rfl (fun ls hl => ?_)
            have hl : lv_has ls 7 [(5, .int (ii ((i : Int) + 1))), (4, .int (ii u)), (6, .int (ii 0)), (0, .ref hm), (1, .int (ii k)), (2, .long (li z))] := hl
            refine lv_goto (tgt := 23) C.1 C.2.1 dX2_read_90 (by decide) ?_
            exact ih ls (i + 1) u (by omega) (by omega) (by omega) hV (lv_sub (l' := [(0, .ref hm), (1, .int (ii k)), (2, .long (li z)), (4, .int (ii u)), (5, .int (ii ((i : Int) + 1)))]) hl [3, 4, 5, 1, 0] rfl)
          · omega
        · refine lv_aload_n C.1 C.2.1 dX2_read_54 rfl (lv_at hl 0 rfl) ?_
          refine lv_iload C.1 C.2.1 dX2_read_55 (lv_at hl 4 rfl) ?_
          refine i_const C dX2_read_57 ?_
          refine ca_V (As := [.int (ii (i : Int)), .int (ii 0)]) (rest := []) C (c_X2_bytesOf l D hm p a b n key dr th hX hY hR hO sx sy dk dv cX cY tx ty hT hn i (by omega) 0 (by omega)) (pcw_preV [.int (ii (i : Int)), .int (ii 0)] hN hP hK 0 (ci := 2) rfl rfl) aw_b_X2_bytesOf aw_m_X2_94 aw_v_X2_bytesOf aw_i_X2 aw_e_X2_bytesOf ⟨rfl, rfl⟩ 2 (by decide +kernel) rfl ⟨by decide, by decide⟩ hl.1 rfl (Nat.le_of_ble_eq_true rfl) dX2_read_58 ⟨by decide, by decide⟩ ?_
          refine lv_lload_n C.1 C.2.1 dX2_read_61 rfl (lv_at hl 2 rfl) ?_
          refine l_cmp C dX2_read_62 ⟨by omega, by omega⟩ ⟨by omega, by omega⟩ ?_
          have cb62 := cmI_b (boF tx ty i 0) z
          have ce62 := cmI_eq (a := boF tx ty i 0) (b := z)
          have cl62 := cmI_lt (a := boF tx ty i 0) (b := z)
          refine i_if_ne (tgt := 70) C dX2_read_63 (by decide) ⟨by omega, by omega⟩ (fun h5 => ?_) (fun h5 => ?_)
          · rw [if_neg (show ¬ ((k = 3 ∧ boF tx ty i 1 = z) ∨ (k = 5 ∧ boF tx ty i 0 = z)) by omega)] at hV
            refine i_const C dX2_read_70 ?_
            refine lv_istore C.1 C.2.1 dX2_read_71 hl (by decide) rfl (fun ls hl => ?_)
            have hl : lv_has ls 7 [(6, .int (ii 0)), (0, .ref hm), (1, .int (ii k)), (2, .long (li z)), (4, .int (ii u)), (5, .int (ii (i : Int)))] := hl
            refine lv_iload C.1 C.2.1 dX2_read_73 (lv_at hl 0 rfl) ?_
            refine i_if_eq (tgt := 83) C dX2_read_75 (by decide) ⟨by omega, by omega⟩ (fun h9 => ?_) (fun h9 => ?_)
            · refine lv_iload C.1 C.2.1 dX2_read_83 (lv_at hl 4 rfl) ?_
              refine lv_istore C.1 C.2.1 dX2_read_85 hl (by decide) rfl (fun ls hl => ?_)
              have hl : lv_has ls 7 [(4, .int (ii u)), (6, .int (ii 0)), (0, .ref hm), (1, .int (ii k)), (2, .long (li z)), (5, .int (ii (i : Int)))] := hl
              refine lv_iinc C.1 C.2.1 dX2_read_87 hl (k := 5) rfl (ii_add (i : Int) 1) (by decide) rfl (fun ls hl => ?_)
              have hl : lv_has ls 7 [(5, .int (ii ((i : Int) + 1))), (4, .int (ii u)), (6, .int (ii 0)), (0, .ref hm), (1, .int (ii k)), (2, .long (li z))] := hl
              refine lv_goto (tgt := 23) C.1 C.2.1 dX2_read_90 (by decide) ?_
              exact ih ls (i + 1) u (by omega) (by omega) (by omega) hV (lv_sub (l' := [(0, .ref hm), (1, .int (ii k)), (2, .long (li z)), (4, .int (ii u)), (5, .int (ii ((i : Int) + 1)))]) hl [3, 4, 5, 1, 0] rfl)
            · omega
          · rw [if_pos (show (k = 3 ∧ boF tx ty i 1 = z) ∨ (k = 5 ∧ boF tx ty i 0 = z) by omega)] at hV
            refine i_const C dX2_read_66 ?_
            refine lv_goto (tgt := 71) C.1 C.2.1 dX2_read_67 (by decide) ?_
            refine lv_istore C.1 C.2.1 dX2_read_71 hl (by decide) rfl (fun ls hl => ?_)
            have hl : lv_has ls 7 [(6, .int (ii 1)), (0, .ref hm), (1, .int (ii k)), (2, .long (li z)), (4, .int (ii u)), (5, .int (ii (i : Int)))] := hl
            refine lv_iload C.1 C.2.1 dX2_read_73 (lv_at hl 0 rfl) ?_
            refine i_if_eq (tgt := 83) C dX2_read_75 (by decide) ⟨by omega, by omega⟩ (fun h9 => ?_) (fun h9 => ?_)
            · omega
            · refine lv_iload C.1 C.2.1 dX2_read_78 (lv_at hl 5 rfl) ?_
              refine lv_goto (tgt := 85) C.1 C.2.1 dX2_read_80 (by decide) ?_
              refine lv_istore C.1 C.2.1 dX2_read_85 hl (by decide) rfl (fun ls hl => ?_)
              have hl : lv_has ls 7 [(4, .int (ii (i : Int))), (6, .int (ii 1)), (0, .ref hm), (1, .int (ii k)), (2, .long (li z)), (5, .int (ii (i : Int)))] := hl
              refine lv_iinc C.1 C.2.1 dX2_read_87 hl (k := 5) rfl (ii_add (i : Int) 1) (by decide) rfl (fun ls hl => ?_)
              have hl : lv_has ls 7 [(5, .int (ii ((i : Int) + 1))), (4, .int (ii (i : Int))), (6, .int (ii 1)), (0, .ref hm), (1, .int (ii k)), (2, .long (li z))] := hl
              refine lv_goto (tgt := 23) C.1 C.2.1 dX2_read_90 (by decide) ?_
              exact ih ls (i + 1) (i : Int) (by omega) (by omega) (by omega) hV (lv_sub (l' := [(0, .ref hm), (1, .int (ii k)), (2, .long (li z)), (4, .int (ii (i : Int))), (5, .int (ii ((i : Int) + 1)))]) hl [3, 4, 5, 1, 0] rfl)
      · refine lv_aload_n C.1 C.2.1 dX2_read_37 rfl (lv_at hl 0 rfl) ?_
        refine lv_iload C.1 C.2.1 dX2_read_38 (lv_at hl 4 rfl) ?_
        refine i_const C dX2_read_40 ?_
        refine ca_V (As := [.int (ii (i : Int)), .int (ii 1)]) (rest := []) C (c_X2_bytesOf l D hm p a b n key dr th hX hY hR hO sx sy dk dv cX cY tx ty hT hn i (by omega) 1 (by omega)) (pcw_preV [.int (ii (i : Int)), .int (ii 1)] hN hP hK 0 (ci := 2) rfl rfl) aw_b_X2_bytesOf aw_m_X2_94 aw_v_X2_bytesOf aw_i_X2 aw_e_X2_bytesOf ⟨rfl, rfl⟩ 2 (by decide +kernel) rfl ⟨by decide, by decide⟩ hl.1 rfl (Nat.le_of_ble_eq_true rfl) dX2_read_41 ⟨by decide, by decide⟩ ?_
        refine lv_lload_n C.1 C.2.1 dX2_read_44 rfl (lv_at hl 2 rfl) ?_
        refine l_cmp C dX2_read_45 ⟨by omega, by omega⟩ ⟨by omega, by omega⟩ ?_
        have cb45 := cmI_b (boF tx ty i 1) z
        have ce45 := cmI_eq (a := boF tx ty i 1) (b := z)
        have cl45 := cmI_lt (a := boF tx ty i 1) (b := z)
        refine i_if_eq (tgt := 66) C dX2_read_46 (by decide) ⟨by omega, by omega⟩ (fun h3 => ?_) (fun h3 => ?_)
        · rw [if_pos (show (k = 3 ∧ boF tx ty i 1 = z) ∨ (k = 5 ∧ boF tx ty i 0 = z) by omega)] at hV
          refine i_const C dX2_read_66 ?_
          refine lv_goto (tgt := 71) C.1 C.2.1 dX2_read_67 (by decide) ?_
          refine lv_istore C.1 C.2.1 dX2_read_71 hl (by decide) rfl (fun ls hl => ?_)
          have hl : lv_has ls 7 [(6, .int (ii 1)), (0, .ref hm), (1, .int (ii k)), (2, .long (li z)), (4, .int (ii u)), (5, .int (ii (i : Int)))] := hl
          refine lv_iload C.1 C.2.1 dX2_read_73 (lv_at hl 0 rfl) ?_
          refine i_if_eq (tgt := 83) C dX2_read_75 (by decide) ⟨by omega, by omega⟩ (fun h9 => ?_) (fun h9 => ?_)
          · omega
          · refine lv_iload C.1 C.2.1 dX2_read_78 (lv_at hl 5 rfl) ?_
            refine lv_goto (tgt := 85) C.1 C.2.1 dX2_read_80 (by decide) ?_
            refine lv_istore C.1 C.2.1 dX2_read_85 hl (by decide) rfl (fun ls hl => ?_)
            have hl : lv_has ls 7 [(4, .int (ii (i : Int))), (6, .int (ii 1)), (0, .ref hm), (1, .int (ii k)), (2, .long (li z)), (5, .int (ii (i : Int)))] := hl
            refine lv_iinc C.1 C.2.1 dX2_read_87 hl (k := 5) rfl (ii_add (i : Int) 1) (by decide) rfl (fun ls hl => ?_)
            have hl : lv_has ls 7 [(5, .int (ii ((i : Int) + 1))), (4, .int (ii (i : Int))), (6, .int (ii 1)), (0, .ref hm), (1, .int (ii k)), (2, .long (li z))] := hl
            refine lv_goto (tgt := 23) C.1 C.2.1 dX2_read_90 (by decide) ?_
            exact ih ls (i + 1) (i : Int) (by omega) (by omega) (by omega) hV (lv_sub (l' := [(0, .ref hm), (1, .int (ii k)), (2, .long (li z)), (4, .int (ii (i : Int))), (5, .int (ii ((i : Int) + 1)))]) hl [3, 4, 5, 1, 0] rfl)
        · refine lv_iload_n C.1 C.2.1 dX2_read_49 rfl (lv_at hl 1 rfl) ?_
          refine i_const C dX2_read_50 ?_
          refine i_icmp_ne (tgt := 70) C dX2_read_51 (by decide) ⟨by omega, by omega⟩ ⟨by omega, by omega⟩ (fun h4 => ?_) (fun h4 => ?_)
          · rw [if_neg (show ¬ ((k = 3 ∧ boF tx ty i 1 = z) ∨ (k = 5 ∧ boF tx ty i 0 = z)) by omega)] at hV
            refine i_const C dX2_read_70 ?_
            refine lv_istore C.1 C.2.1 dX2_read_71 hl (by decide) rfl (fun ls hl => ?_)
            have hl : lv_has ls 7 [(6, .int (ii 0)), (0, .ref hm), (1, .int (ii k)), (2, .long (li z)), (4, .int (ii u)), (5, .int (ii (i : Int)))] := hl
            refine lv_iload C.1 C.2.1 dX2_read_73 (lv_at hl 0 rfl) ?_
            refine i_if_eq (tgt := 83) C dX2_read_75 (by decide) ⟨by omega, by omega⟩ (fun h9 => ?_) (fun h9 => ?_)
            · refine lv_iload C.1 C.2.1 dX2_read_83 (lv_at hl 4 rfl) ?_
              refine lv_istore C.1 C.2.1 dX2_read_85 hl (by decide) rfl (fun ls hl => ?_)
              have hl : lv_has ls 7 [(4, .int (ii u)), (6, .int (ii 0)), (0, .ref hm), (1, .int (ii k)), (2, .long (li z)), (5, .int (ii (i : Int)))] := hl
              refine lv_iinc C.1 C.2.1 dX2_read_87 hl (k := 5) rfl (ii_add (i : Int) 1) (by decide) rfl (fun ls hl => ?_)
              have hl : lv_has ls 7 [(5, .int (ii ((i : Int) + 1))), (4, .int (ii u)), (6, .int (ii 0)), (0, .ref hm), (1, .int (ii k)), (2, .long (li z))] := hl
              refine lv_goto (tgt := 23) C.1 C.2.1 dX2_read_90 (by decide) ?_
              exact ih ls (i + 1) u (by omega) (by omega) (by omega) hV (lv_sub (l' := [(0, .ref hm), (1, .int (ii k)), (2, .long (li z)), (4, .int (ii u)), (5, .int (ii ((i : Int) + 1)))]) hl [3, 4, 5, 1, 0] rfl)
            · omega
          · refine lv_aload_n C.1 C.2.1 dX2_read_54 rfl (lv_at hl 0 rfl) ?_
            refine lv_iload C.1 C.2.1 dX2_read_55 (lv_at hl 4 rfl) ?_
            refine i_const C dX2_read_57 ?_
            refine ca_V (As := [.int (ii (i : Int)), .int (ii 0)]) (rest := []) C (c_X2_bytesOf l D hm p a b n key dr th hX hY hR hO sx sy dk dv cX cY tx ty hT hn i (by omega) 0 (by omega)) (pcw_preV [.int (ii (i : Int)), .int (ii 0)] hN hP hK 0 (ci := 2) rfl rfl) aw_b_X2_bytesOf aw_m_X2_94 aw_v_X2_bytesOf aw_i_X2 aw_e_X2_bytesOf ⟨rfl, rfl⟩ 2 (by decide +kernel) rfl ⟨by decide, by decide⟩ hl.1 rfl (Nat.le_of_ble_eq_true rfl) dX2_read_58 ⟨by decide, by decide⟩ ?_
            refine lv_lload_n C.1 C.2.1 dX2_read_61 rfl (lv_at hl 2 rfl) ?_
            refine l_cmp C dX2_read_62 ⟨by omega, by omega⟩ ⟨by omega, by omega⟩ ?_
            have cb62 := cmI_b (boF tx ty i 0) z
            have ce62 := cmI_eq (a := boF tx ty i 0) (b := z)
            have cl62 := cmI_lt (a := boF tx ty i 0) (b := z)
            refine i_if_ne (tgt := 70) C dX2_read_63 (by decide) ⟨by omega, by omega⟩ (fun h5 => ?_) (fun h5 => ?_)
            · rw [if_neg (show ¬ ((k = 3 ∧ boF tx ty i 1 = z) ∨ (k = 5 ∧ boF tx ty i 0 = z)) by omega)] at hV
              refine i_const C dX2_read_70 ?_
              refine lv_istore C.1 C.2.1 dX2_read_71 hl (by decide) rfl (fun ls hl => ?_)
              have hl : lv_has ls 7 [(6, .int (ii 0)), (0, .ref hm), (1, .int (ii k)), (2, .long (li z)), (4, .int (ii u)), (5, .int (ii (i : Int)))] := hl
              refine lv_iload C.1 C.2.1 dX2_read_73 (lv_at hl 0 rfl) ?_
              refine i_if_eq (tgt := 83) C dX2_read_75 (by decide) ⟨by omega, by omega⟩ (fun h9 => ?_) (fun h9 => ?_)
              · refine lv_iload C.1 C.2.1 dX2_read_83 (lv_at hl 4 rfl) ?_
                refine lv_istore C.1 C.2.1 dX2_read_85 hl (by decide) rfl (fun ls hl => ?_)
                have hl : lv_has ls 7 [(4, .int (ii u)), (6, .int (ii 0)), (0, .ref hm), (1, .int (ii k)), (2, .long (li z)), (5, .int (ii (i : Int)))] := hl
                refine lv_iinc C.1 C.2.1 dX2_read_87 hl (k := 5) rfl (ii_add (i : Int) 1) (by decide) rfl (fun ls hl => ?_)
                have hl : lv_has ls 7 [(5, .int (ii ((i : Int) + 1))), (4, .int (ii u)), (6, .int (ii 0)), (0, .ref hm), (1, .int (ii k)), (2, .long (li z))] := hl
                refine lv_goto (tgt := 23) C.1 C.2.1 dX2_read_90 (by decide) ?_
                exact ih ls (i + 1) u (by omega) (by omega) (by omega) hV (lv_sub (l' := [(0, .ref hm), (1, .int (ii k)), (2, .long (li z)), (4, .int (ii u)), (5, .int (ii ((i : Int) + 1)))]) hl [3, 4, 5, 1, 0] rfl)
              · omega
            · rw [if_pos (show (k = 3 ∧ boF tx ty i 1 = z) ∨ (k = 5 ∧ boF tx ty i 0 = z) by omega)] at hV
              refine i_const C dX2_read_66 ?_
              refine lv_goto (tgt := 71) C.1 C.2.1 dX2_read_67 (by decide) ?_
              refine lv_istore C.1 C.2.1 dX2_read_71 hl (by decide) rfl (fun ls hl => ?_)
              have hl : lv_has ls 7 [(6, .int (ii 1)), (0, .ref hm), (1, .int (ii k)), (2, .long (li z)), (4, .int (ii u)), (5, .int (ii (i : Int)))] := hl
              refine lv_iload C.1 C.2.1 dX2_read_73 (lv_at hl 0 rfl) ?_
              refine i_if_eq (tgt := 83) C dX2_read_75 (by decide) ⟨by omega, by omega⟩ (fun h9 => ?_) (fun h9 => ?_)
              · omega
              · refine lv_iload C.1 C.2.1 dX2_read_78 (lv_at hl 5 rfl) ?_
                refine lv_goto (tgt := 85) C.1 C.2.1 dX2_read_80 (by decide) ?_
                refine lv_istore C.1 C.2.1 dX2_read_85 hl (by decide) rfl (fun ls hl => ?_)
                have hl : lv_has ls 7 [(4, .int (ii (i : Int))), (6, .int (ii 1)), (0, .ref hm), (1, .int (ii k)), (2, .long (li z)), (5, .int (ii (i : Int)))] := hl
                refine lv_iinc C.1 C.2.1 dX2_read_87 hl (k := 5) rfl (ii_add (i : Int) 1) (by decide) rfl (fun ls hl => ?_)
                have hl : lv_has ls 7 [(5, .int (ii ((i : Int) + 1))), (4, .int (ii (i : Int))), (6, .int (ii 1)), (0, .ref hm), (1, .int (ii k)), (2, .long (li z))] := hl
                refine lv_goto (tgt := 23) C.1 C.2.1 dX2_read_90 (by decide) ?_
                exact ih ls (i + 1) (i : Int) (by omega) (by omega) (by omega) hV (lv_sub (l' := [(0, .ref hm), (1, .int (ii k)), (2, .long (li z)), (4, .int (ii (i : Int))), (5, .int (ii ((i : Int) + 1)))]) hl [3, 4, 5, 1, 0] rfl)
  refine lv_iload_n C.1 C.2.1 dX2_read_0 rfl (lv_at hl 1 rfl) ?_
  refine i_const C dX2_read_1 ?_
  refine i_icmp_ne (tgt := 17) C dX2_read_2 (by decide) ⟨by omega, by omega⟩ ⟨by omega, by omega⟩ (fun h1 => ?_) (fun h1 => ?_)
  · rw [if_neg h1] at hV
    refine i_const C dX2_read_17 ?_
    refine lv_istore C.1 C.2.1 dX2_read_18 hl (by decide) rfl (fun ls hl => ?_)
    have hl : lv_has ls 7 [(4, .int (ii (-1))), (0, .ref hm), (1, .int (ii k)), (2, .long (li z))] := hl
    refine i_const C dX2_read_20 ?_
    refine lv_istore C.1 C.2.1 dX2_read_21 hl (by decide) rfl (fun ls hl => ?_)
    have hl : lv_has ls 7 [(5, .int (ii 1)), (4, .int (ii (-1))), (0, .ref hm), (1, .int (ii k)), (2, .long (li z))] := hl
    exact loop 1100 ls 1 (-1) (by omega) (by omega) (by omega) hV (lv_sub (l' := [(0, .ref hm), (1, .int (ii k)), (2, .long (li z)), (4, .int (ii (-1))), (5, .int (ii 1))]) hl [2, 3, 4, 1, 0] rfl)
  · rw [if_pos (Classical.not_not.mp h1)] at hV
    refine lv_lload_n C.1 C.2.1 dX2_read_5 rfl (lv_at hl 2 rfl) ?_
    refine l_const0 C dX2_read_6 ?_
    refine l_cmp C dX2_read_7 ⟨by omega, by omega⟩ ⟨by omega, by omega⟩ ?_
    have cb7 := cmI_b z 0
    have ce7 := cmI_eq (a := z) (b := 0)
    have cl7 := cmI_lt (a := z) (b := 0)
    refine i_if_ne (tgt := 15) C dX2_read_8 (by decide) ⟨by omega, by omega⟩ (fun h2 => ?_) (fun h2 => ?_)
    · rw [if_neg (show ¬ z = 0 by omega)] at hV
      refine i_const C dX2_read_15 ?_
      exact rt_i C hr hk dX2_read_16 (by subst hV; rfl)
    · rw [if_pos (show z = 0 by omega)] at hV
      refine i_const C dX2_read_11 ?_
      refine lv_goto (tgt := 16) C.1 C.2.1 dX2_read_12 (by decide) ?_
      exact rt_i C hr hk dX2_read_16 (by subst hV; rfl)
def mfF (tx : Nat → Nat) (n : Nat) (q z r s : Int) : Int := if q ≤ 0 then 0 else if r < 1 then 0 else if (n : Int) ≤ r then 0 else if s < 1 then 0 else if (n : Int) ≤ s then 0 else
  if (z % (n : Int) * ((ivF s.toNat n 1100 1 : Nat) : Int) + r * ((ivF s.toNat n 1100 1 : Nat) : Int) % (n : Int) * q) % (n : Int) = 0 then 0
  else if ((tx ((z % (n : Int) * ((ivF s.toNat n 1100 1 : Nat) : Int) + r * ((ivF s.toNat n 1100 1 : Nat) : Int) % (n : Int) * q) % (n : Int)).toNat : Nat) : Int) % (n : Int) = r then 1 else 0
theorem ivF_b (v m : Nat) : ∀ (f t : Nat), ivF v m f t ≤ m
  | 0, _ => Nat.zero_le _
  | f + 1, t => by
    rw [ivF_s]
    split
    · omega
    · split
      · omega
      · exact ivF_b v m f (t + 1)
set_option maxRecDepth 100000 in
set_option maxHeartbeats 1000000 in
theorem c_X2_fits (l : Launch) (D : va_G) (hm : Nat) (p a b : Int) (n : Nat) (key dr th : Int) (hX hY hR hO : Nat) (sx sy dk dv : Int32) (cX cY : ClassId) (tx ty : Nat → Nat) (hT : ∀ j, tx j ≤ 1020 ∧ ty j ≤ 1020) (hn : n ≤ 1100) (q z r s : Int) (hq : -1 ≤ q ∧ q ≤ 1099) (hz : rl z) (hr1 : rg r) (hs1 : rg s) : Met l yX2_fits (Cond.code yX2_fits cX2_fits 8 (some .boolean) :: AW) ({ frames := 1, cells := 0, slots := 0, locals := 26 } : Room) (PcW D [(hm, .inr (2, MO p a b n key dr th hX hY hR hO sx sy dk dv)), (hX, .inl (cX, 1100, .inl (fun j => ii ((tx j : Nat) : Int)))), (hY, .inl (cY, 1100, .inl (fun j => ii ((ty j : Nat) : Int))))] [(cX, .int), (cY, .int)] [.ref hm, .int (ii q), .long (li z), .int (ii r), .int (ii s)]) (QcV (some (.int (ii (mfF tx n q z r s))))) 0 0 (fun _ => False) := by
  refine mt_W (by decide +kernel) (Nat.le_of_ble_eq_true rfl) ?_
  intro P0 E0 S0 M0 A0 B0 T0 K0 C hN hP hK hr hk ls hl
  have hl : lv_has ls 8 [(0, .ref hm), (1, .int (ii q)), (2, .long (li z)), (4, .int (ii r)), (5, .int (ii s))] := hl
  generalize hV : mfF tx n q z r s = V
  unfold mfF at hV
  refine lv_iload_n C.1 C.2.1 dX2_fits_0 rfl (lv_at hl 1 rfl) ?_
  refine i_if_le (tgt := 34) C dX2_fits_1 (by decide) ⟨by omega, by omega⟩ (fun h1 => ?_) (fun h1 => ?_)
  · rw [if_pos h1] at hV
    refine i_const C dX2_fits_34 ?_
    subst hV
    exact rt_z C hr hk dX2_fits_35 (Or.inl rfl) rfl
  · rw [if_neg h1] at hV
    refine lv_iload C.1 C.2.1 dX2_fits_4 (lv_at hl 3 rfl) ?_
    refine i_const C dX2_fits_6 ?_
    refine i_icmp_lt (tgt := 34) C dX2_fits_7 (by decide) ⟨by omega, by omega⟩ ⟨by omega, by omega⟩ (fun h2 => ?_) (fun h2 => ?_)
    · rw [if_pos h2] at hV
      refine i_const C dX2_fits_34 ?_
      subst hV
      exact rt_z C hr hk dX2_fits_35 (Or.inl rfl) rfl
    · rw [if_neg h2] at hV
      refine lv_iload C.1 C.2.1 dX2_fits_10 (lv_at hl 3 rfl) ?_
      refine lv_aload_n C.1 C.2.1 dX2_fits_12 rfl (lv_at hl 0 rfl) ?_
      refine gf C hK hP 0 rfl rfl aw_uX2 3 (by decide) aw_f_X2_65 rfl dX2_fits_13 ?_
      refine i_icmp_ge (tgt := 34) C dX2_fits_16 (by decide) ⟨by omega, by omega⟩ ⟨by omega, by omega⟩ (fun h3 => ?_) (fun h3 => ?_)
      · rw [if_pos h3] at hV
        refine i_const C dX2_fits_34 ?_
        subst hV
        exact rt_z C hr hk dX2_fits_35 (Or.inl rfl) rfl
      · rw [if_neg h3] at hV
        refine lv_iload C.1 C.2.1 dX2_fits_19 (lv_at hl 4 rfl) ?_
        refine i_const C dX2_fits_21 ?_
        refine i_icmp_lt (tgt := 34) C dX2_fits_22 (by decide) ⟨by omega, by omega⟩ ⟨by omega, by omega⟩ (fun h4 => ?_) (fun h4 => ?_)
        · rw [if_pos h4] at hV
          refine i_const C dX2_fits_34 ?_
          subst hV
          exact rt_z C hr hk dX2_fits_35 (Or.inl rfl) rfl
        · rw [if_neg h4] at hV
          refine lv_iload C.1 C.2.1 dX2_fits_25 (lv_at hl 4 rfl) ?_
          refine lv_aload_n C.1 C.2.1 dX2_fits_27 rfl (lv_at hl 0 rfl) ?_
          refine gf C hK hP 0 rfl rfl aw_uX2 3 (by decide) aw_f_X2_65 rfl dX2_fits_28 ?_
          refine i_icmp_lt (tgt := 36) C dX2_fits_31 (by decide) ⟨by omega, by omega⟩ ⟨by omega, by omega⟩ (fun h5 => ?_) (fun h5 => ?_)
          · rw [if_neg (show ¬ (n : Int) ≤ s by omega)] at hV
            refine lv_aload_n C.1 C.2.1 dX2_fits_36 rfl (lv_at hl 0 rfl) ?_
            refine lv_iload C.1 C.2.1 dX2_fits_37 (lv_at hl 4 rfl) ?_
            refine i_top (b := ((s.toNat : Nat) : Int)) (by omega) ?_
            refine lv_aload_n C.1 C.2.1 dX2_fits_39 rfl (lv_at hl 0 rfl) ?_
            refine gf C hK hP 0 rfl rfl aw_uX2 3 (by decide) aw_f_X2_65 rfl dX2_fits_40 ?_
            refine ca_V (As := [.int (ii ((s.toNat : Nat) : Int)), .int (ii (n : Int))]) (rest := []) C (c_X2_inverse l D hm s.toNat n (by omega) (by omega)) (pcw_preV0 [.int (ii ((s.toNat : Nat) : Int)), .int (ii (n : Int))] hN hP hK 0 (ci := 2) rfl rfl) aw_b_X2_inverse aw_m_X2_44 aw_v_X2_inverse aw_i_X2 aw_e_X2_inverse ⟨rfl, rfl⟩ 2 (by decide +kernel) rfl ⟨by decide, by decide⟩ hl.1 rfl (Nat.le_of_ble_eq_true rfl) dX2_fits_43 ⟨by decide, by decide⟩ ?_
            have v1 := ivF_b s.toNat n 1100 1
            generalize ivF s.toNat n 1100 1 = t at v1 hV ⊢
            have v2 := em_b z (show (0 : Int) < n by omega)
            refine lv_istore C.1 C.2.1 dX2_fits_46 hl (by decide) rfl (fun ls hl => ?_)
            have hl : lv_has ls 8 [(6, .int (ii (t : Int))), (0, .ref hm), (1, .int (ii q)), (2, .long (li z)), (4, .int (ii r)), (5, .int (ii s))] := hl
            refine lv_aload_n C.1 C.2.1 dX2_fits_48 rfl (lv_at hl 1 rfl) ?_
            refine lv_lload_n C.1 C.2.1 dX2_fits_49 rfl (lv_at hl 3 rfl) ?_
            refine ca_V (As := [.long (li z)]) (rest := []) C (c_X2_modulo l D hm p a b n key dr th hX hY hR hO sx sy dk dv (by omega) z hz) (pcw_preV [.long (li z)] hN (hP.sub (ws' := [(hm, .inr (2, MO p a b n key dr th hX hY hR hO sx sy dk dv))]) [0] rfl) (hK.sub (tys' := []) [] rfl) 0 (ci := 2) rfl rfl) aw_b_X2_modulo aw_m_X2_84 aw_v_X2_modulo aw_i_X2 aw_e_X2_modulo ⟨rfl, rfl⟩ 1 (by decide +kernel) rfl ⟨by decide, by decide⟩ hl.1 rfl (Nat.le_of_ble_eq_true rfl) dX2_fits_50 ⟨by decide, by decide⟩ ?_
            have bm : ∀ u v : Int, 0 ≤ u ∧ u ≤ 1100 → 0 ≤ v ∧ v ≤ 1100 → 0 ≤ u * v ∧ u * v ≤ 1210000 := fun u v h1 h2 => ⟨Int.mul_nonneg h1.1 h2.1, Int.mul_le_mul h1.2 h2.2 h2.1 (by omega)⟩
            have v3 := bm (z % (n : Int)) (t : Int) (by omega) (by omega)
            have v4 := bm r (t : Int) (by omega) (by omega)
            have v5 := em_b (r * (t : Int)) (show (0 : Int) < n by omega)
            have v6 := bm (r * (t : Int) % (n : Int)) q (by omega) (by omega)
            have v7 := em_b (z % (n : Int) * (t : Int) + r * (t : Int) % (n : Int) * q) (show (0 : Int) < n by omega)
            refine lv_iload C.1 C.2.1 dX2_fits_53 (lv_at hl 0 rfl) ?_
            refine i_mul C dX2_fits_55 ?_
            refine lv_iload C.1 C.2.1 dX2_fits_56 (lv_at hl 4 rfl) ?_
            refine lv_iload C.1 C.2.1 dX2_fits_58 (lv_at hl 0 rfl) ?_
            refine i_mul C dX2_fits_60 ?_
            refine lv_aload_n C.1 C.2.1 dX2_fits_61 rfl (lv_at hl 1 rfl) ?_
            refine gf C hK hP 0 rfl rfl aw_uX2 3 (by decide) aw_f_X2_65 rfl dX2_fits_62 ?_
            refine i_rem C dX2_fits_65 ⟨by omega, by omega⟩ ⟨by omega, by omega⟩ ?_
            refine lv_iload_n C.1 C.2.1 dX2_fits_66 rfl (lv_at hl 2 rfl) ?_
            refine i_mul C dX2_fits_67 ?_
            refine i_add C dX2_fits_68 ?_
            refine lv_aload_n C.1 C.2.1 dX2_fits_69 rfl (lv_at hl 1 rfl) ?_
            refine gf C hK hP 0 rfl rfl aw_uX2 3 (by decide) aw_f_X2_65 rfl dX2_fits_70 ?_
            refine i_rem C dX2_fits_73 ⟨by omega, by omega⟩ ⟨by omega, by omega⟩ ?_
            generalize (z % (n : Int) * (t : Int) + r * (t : Int) % (n : Int) * q) % (n : Int) = j at v7 hV ⊢
            refine lv_istore C.1 C.2.1 dX2_fits_74 hl (by decide) rfl (fun ls hl => ?_)
            have hl : lv_has ls 8 [(7, .int (ii j)), (6, .int (ii (t : Int))), (0, .ref hm), (1, .int (ii q)), (2, .long (li z)), (4, .int (ii r)), (5, .int (ii s))] := hl
            refine lv_iload C.1 C.2.1 dX2_fits_76 (lv_at hl 0 rfl) ?_
            refine i_if_eq (tgt := 102) C dX2_fits_78 (by decide) ⟨by omega, by omega⟩ (fun h6 => ?_) (fun h6 => ?_)
            · rw [if_pos h6] at hV
              refine i_const C dX2_fits_102 ?_
              subst hV
              exact rt_z C hr hk dX2_fits_103 (Or.inl rfl) rfl
            · rw [if_neg h6] at hV
              have b1 := hT j.toNat
              have b2 := em_b ((tx j.toNat : Nat) : Int) (show (0 : Int) < n by omega)
              refine lv_aload_n C.1 C.2.1 dX2_fits_81 rfl (lv_at hl 2 rfl) ?_
              refine gf C hK hP 0 rfl rfl aw_uX2 7 (by decide) aw_f_X2_7 rfl dX2_fits_82 ?_
              refine lv_iload C.1 C.2.1 dX2_fits_85 (lv_at hl 0 rfl) ?_
              refine i_ald C hK hP 1 0 rfl rfl j.toNat (by omega) (by omega) (by omega) dX2_fits_87 ?_
              refine lv_aload_n C.1 C.2.1 dX2_fits_88 rfl (lv_at hl 2 rfl) ?_
              refine gf C hK hP 0 rfl rfl aw_uX2 3 (by decide) aw_f_X2_65 rfl dX2_fits_89 ?_
              refine i_rem C dX2_fits_92 ⟨by omega, by omega⟩ ⟨by omega, by omega⟩ ?_
              refine lv_iload C.1 C.2.1 dX2_fits_93 (lv_at hl 5 rfl) ?_
              refine i_icmp_ne (tgt := 102) C dX2_fits_95 (by decide) ⟨by omega, by omega⟩ ⟨by omega, by omega⟩ (fun h7 => ?_) (fun h7 => ?_)
              · rw [if_neg h7] at hV
                refine i_const C dX2_fits_102 ?_
                subst hV
                exact rt_z C hr hk dX2_fits_103 (Or.inl rfl) rfl
              · rw [if_pos (Classical.not_not.mp h7)] at hV
                refine i_const C dX2_fits_98 ?_
                refine lv_goto (tgt := 103) C.1 C.2.1 dX2_fits_99 (by decide) ?_
                subst hV
                exact rt_z C hr hk dX2_fits_103 (Or.inr rfl) rfl
          · rw [if_pos (show (n : Int) ≤ s by omega)] at hV
            refine i_const C dX2_fits_34 ?_
            subst hV
            exact rt_z C hr hk dX2_fits_35 (Or.inl rfl) rfl
