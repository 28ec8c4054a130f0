/-! Curve: multiples, residues, bytes. By wip/whole/tools/gen5.py. -/
def muF (p a : Nat) : Nat → Option (Nat × Nat) → Option (Nat × Nat) → Nat → Option (Nat × Nat)
  | 0, R, _, _ => R
  | f + 1, R, B, e => if e = 0 then R else muF p a f (if e % 2 = 1 then plF p a R B else R) (plF p a B B) (e / 2)
theorem muF_sm {p a : Nat} (hp : 0 < p) : ∀ (f : Nat) (R B : Option (Nat × Nat)) (e : Nat), sm2 p R → sm2 p B → sm2 p (muF p a f R B e)
  | 0, R, B, e, hR, _ => hR
  | f + 1, R, B, e, hR, hB => by
    show sm2 p (if e = 0 then R else muF p a f (if e % 2 = 1 then plF p a R B else R) (plF p a B B) (e / 2))
    split
    · exact hR
    · refine muF_sm hp f _ _ _ ?_ (plF_sm hp hB hB)
      split
      · exact plF_sm hp hR hB
      · exact hR
set_option maxRecDepth 100000 in
set_option maxHeartbeats 4000000 in
theorem c_X0_multiple (l : Launch) (D : va_G) (h0 p a b n : Nat) (g : Int) (hp : 5 ≤ p ∧ p ≤ 1021) (ha : a < p) (hb : b < p) (hn : 0 < n ∧ n ≤ 1100) (k : Int) (hk0 : rg k) (P : Option (Nat × Nat)) (hP0 : sm2 p P) : Met l yX0_multiple (Cond.code yX0_multiple cX0_multiple 6 (some .int) :: AW) ({ frames := 4, cells := 0, slots := 0, locals := 96 } : Room) (PcW D [(h0, .inr (0, [.int (ii (p : Int)), .int (ii (a : Int)), .int (ii (b : Int)), .int (ii (n : Int)), .int (ii g)]))] [] [.ref h0, .int (ii k), .int (ii (ecd P))]) (QcV (some (.int (ii (ecd (muF p a 11 none P (k % (n : Int)).toNat)))))) 0 0 (fun _ => False) := by
  refine mt_W (by decide +kernel) (Nat.le_of_ble_eq_true rfl) ?_
  intro P0 E0 S0 M0 A0 B0 T0 K0 C hN hP hK hr hk ls hl
  have hl : lv_has ls 6 [(0, .ref h0), (1, .int (ii k)), (2, .int (ii (ecd P)))] := hl
  have bP := ecd_b hp.2 hP0
  generalize hV : ecd (muF p a 11 none P (k % (n : Int)).toNat) = V
  have loop : ∀ (f : Nat) (ls : Array Slot) (R B : Option (Nat × Nat)) (e : Nat), sm2 p R → sm2 p B → e < 2 ^ f → e ≤ 1100 → ecd (muF p a f R B e) = V → lv_has ls 6 [(0, .ref h0), (1, .int (ii k)), (2, .int (ii (ecd P))), (3, .int (ii (ecd R))), (4, .int (ii (ecd B))), (5, .int (ii (e : Int)))] → W P0 l E0 ({ frames := 4, cells := 0, slots := 0, locals := 96 } : Room) S0 M0 A0 B0 T0 K0 S0.heap [] 0 0 (MQ B0 (QcV (some (.int (ii V)))) A0 S0 0 0 (fun _ => False)) (F0 M0 15 ls []) := by
    intro f
    induction f with
    | zero =>
    intro ls R B e hR hB he he2 hV hl
    have he0 : e = 0 := by simpa using he
    have hV : ecd R = V := hV
    have bR := ecd_b hp.2 hR
    refine lv_iload C.1 C.2.1 dX0_multiple_15 (lv_at hl 5 rfl) ?_
    refine i_if_le (tgt := 55) C dX0_multiple_17 (by decide) ⟨by omega, by omega⟩ (fun h1 => ?_) (fun h1 => ?_)
    · refine lv_iload_n C.1 C.2.1 dX0_multiple_55 rfl (lv_at hl 3 rfl) ?_
      exact rt_i C hr hk dX0_multiple_56 (by rw [hV])
    · omega
    | succ f ih =>
    intro ls R B e hR hB he he2 hV hl
    have hV : ecd (if e = 0 then R else muF p a f (if e % 2 = 1 then plF p a R B else R) (plF p a B B) (e / 2)) = V := hV
    have bR := ecd_b hp.2 hR
    have bB := ecd_b hp.2 hB
    have sRB := plF_sm (a := a) (show 0 < p by omega) hR hB
    have sBB := plF_sm (a := a) (show 0 < p by omega) hB hB
    have m5 : e / 2 < 2 ^ f := by rw [Nat.pow_succ] at he; omega
    refine lv_iload C.1 C.2.1 dX0_multiple_15 (lv_at hl 5 rfl) ?_
    refine i_if_le (tgt := 55) C dX0_multiple_17 (by decide) ⟨by omega, by omega⟩ (fun h1 => ?_) (fun h1 => ?_)
    · rw [if_pos (show e = 0 by omega)] at hV
      refine lv_iload_n C.1 C.2.1 dX0_multiple_55 rfl (lv_at hl 3 rfl) ?_
      exact rt_i C hr hk dX0_multiple_56 (by rw [hV])
    · rw [if_neg (show ¬ e = 0 by omega)] at hV
      refine lv_iload C.1 C.2.1 dX0_multiple_20 (lv_at hl 5 rfl) ?_
      refine i_const C dX0_multiple_22 ?_
      refine lv_iand C.1 C.2.1 dX0_multiple_23 ?_
      rw [ii_and1 (by omega)]
      refine i_const C dX0_multiple_24 ?_
      refine i_icmp_ne (tgt := 36) C dX0_multiple_25 (by decide) ⟨by omega, by omega⟩ ⟨by omega, by omega⟩ (fun h2 => ?_) (fun h2 => ?_)
      · rw [if_neg (show ¬ e % 2 = 1 by omega)] at hV
        refine lv_aload_n C.1 C.2.1 dX0_multiple_36 rfl (lv_at hl 0 rfl) ?_
        refine lv_iload C.1 C.2.1 dX0_multiple_37 (lv_at hl 4 rfl) ?_
        refine lv_iload C.1 C.2.1 dX0_multiple_39 (lv_at hl 4 rfl) ?_
        refine ca_V (As := [.int (ii (ecd B)), .int (ii (ecd B))]) (rest := []) C (c_X0_plus l D h0 p a b n g hp ha hb B B hB hB) (pcw_preV [.int (ii (ecd B)), .int (ii (ecd B))] hN hP hK 0 (ci := 0) rfl rfl) aw_b_X0_plus aw_m_X0_63 aw_v_X0_plus aw_i_X0 aw_e_X0_plus ⟨rfl, rfl⟩ 2 (by decide +kernel) rfl ⟨by decide, by decide⟩ hl.1 rfl (Nat.le_of_ble_eq_true rfl) dX0_multiple_41 ⟨by decide, by decide⟩ ?_
        refine lv_istore C.1 C.2.1 dX0_multiple_44 hl (by decide) rfl (fun ls hl => ?_)
        have hl : lv_has ls 6 [(4, .int (ii (ecd (plF p a B B)))), (0, .ref h0), (1, .int (ii k)), (2, .int (ii (ecd P))), (3, .int (ii (ecd R))), (5, .int (ii (e : Int)))] := hl
        refine lv_iload C.1 C.2.1 dX0_multiple_46 (lv_at hl 5 rfl) ?_
        refine i_const C dX0_multiple_48 ?_
        refine lv_ishr C.1 C.2.1 dX0_multiple_49 ?_
        rw [ii_shr1 (by omega)]
        refine lv_istore C.1 C.2.1 dX0_multiple_50 hl (by decide) rfl (fun ls hl => ?_)
        have hl : lv_has ls 6 [(5, .int (ii ((e / 2 : Nat) : Int))), (4, .int (ii (ecd (plF p a B B)))), (0, .ref h0), (1, .int (ii k)), (2, .int (ii (ecd P))), (3, .int (ii (ecd R)))] := hl
        refine lv_goto (tgt := 15) C.1 C.2.1 dX0_multiple_52 (by decide) ?_
        exact ih ls _ _ _ hR sBB m5 (by omega) hV (lv_sub (l' := [(0, .ref h0), (1, .int (ii k)), (2, .int (ii (ecd P))), (3, .int (ii (ecd R))), (4, .int (ii (ecd (plF p a B B)))), (5, .int (ii ((e / 2 : Nat) : Int)))]) hl [2, 3, 4, 5, 1, 0] rfl)
      · rw [if_pos (show e % 2 = 1 by omega)] at hV
        refine lv_aload_n C.1 C.2.1 dX0_multiple_28 rfl (lv_at hl 0 rfl) ?_
        refine lv_iload_n C.1 C.2.1 dX0_multiple_29 rfl (lv_at hl 3 rfl) ?_
        refine lv_iload C.1 C.2.1 dX0_multiple_30 (lv_at hl 4 rfl) ?_
        refine ca_V (As := [.int (ii (ecd R)), .int (ii (ecd B))]) (rest := []) C (c_X0_plus l D h0 p a b n g hp ha hb R B hR hB) (pcw_preV [.int (ii (ecd R)), .int (ii (ecd B))] hN hP hK 0 (ci := 0) rfl rfl) aw_b_X0_plus aw_m_X0_63 aw_v_X0_plus aw_i_X0 aw_e_X0_plus ⟨rfl, rfl⟩ 2 (by decide +kernel) rfl ⟨by decide, by decide⟩ hl.1 rfl (Nat.le_of_ble_eq_true rfl) dX0_multiple_32 ⟨by decide, by decide⟩ ?_
        refine lv_istore_n C.1 C.2.1 dX0_multiple_35 rfl hl (by decide) rfl (fun ls hl => ?_)
        have hl : lv_has ls 6 [(3, .int (ii (ecd (plF p a R B)))), (0, .ref h0), (1, .int (ii k)), (2, .int (ii (ecd P))), (4, .int (ii (ecd B))), (5, .int (ii (e : Int)))] := hl
        refine lv_aload_n C.1 C.2.1 dX0_multiple_36 rfl (lv_at hl 1 rfl) ?_
        refine lv_iload C.1 C.2.1 dX0_multiple_37 (lv_at hl 4 rfl) ?_
        refine lv_iload C.1 C.2.1 dX0_multiple_39 (lv_at hl 4 rfl) ?_
        refine ca_V (As := [.int (ii (ecd B)), .int (ii (ecd B))]) (rest := []) C (c_X0_plus l D h0 p a b n g hp ha hb B B hB hB) (pcw_preV [.int (ii (ecd B)), .int (ii (ecd B))] hN hP hK 0 (ci := 0) rfl rfl) aw_b_X0_plus aw_m_X0_63 aw_v_X0_plus aw_i_X0 aw_e_X0_plus ⟨rfl, rfl⟩ 2 (by decide +kernel) rfl ⟨by decide, by decide⟩ hl.1 rfl (Nat.le_of_ble_eq_true rfl) dX0_multiple_41 ⟨by decide, by decide⟩ ?_
        refine lv_istore C.1 C.2.1 dX0_multiple_44 hl (by decide) rfl (fun ls hl => ?_)
        have hl : lv_has ls 6 [(4, .int (ii (ecd (plF p a B B)))), (3, .int (ii (ecd (plF p a R B)))), (0, .ref h0), (1, .int (ii k)), (2, .int (ii (ecd P))), (5, .int (ii (e : Int)))] := hl
        refine lv_iload C.1 C.2.1 dX0_multiple_46 (lv_at hl 5 rfl) ?_
        refine i_const C dX0_multiple_48 ?_
        refine lv_ishr C.1 C.2.1 dX0_multiple_49 ?_
        rw [ii_shr1 (by omega)]
        refine lv_istore C.1 C.2.1 dX0_multiple_50 hl (by decide) rfl (fun ls hl => ?_)
        have hl : lv_has ls 6 [(5, .int (ii ((e / 2 : Nat) : Int))), (4, .int (ii (ecd (plF p a B B)))), (3, .int (ii (ecd (plF p a R B)))), (0, .ref h0), (1, .int (ii k)), (2, .int (ii (ecd P)))] := hl
        refine lv_goto (tgt := 15) C.1 C.2.1 dX0_multiple_52 (by decide) ?_
        exact ih ls _ _ _ sRB sBB m5 (by omega) hV (lv_sub (l' := [(0, .ref h0), (1, .int (ii k)), (2, .int (ii (ecd P))), (3, .int (ii (ecd (plF p a R B)))), (4, .int (ii (ecd (plF p a B B)))), (5, .int (ii ((e / 2 : Nat) : Int)))]) hl [3, 4, 5, 2, 1, 0] rfl)
  refine i_const C dX0_multiple_0 ?_
  refine lv_istore_n C.1 C.2.1 dX0_multiple_1 rfl hl (by decide) rfl (fun ls hl => ?_)
  have hl : lv_has ls 6 [(3, .int (ii (-1))), (0, .ref h0), (1, .int (ii k)), (2, .int (ii (ecd P)))] := hl
  refine lv_iload_n C.1 C.2.1 dX0_multiple_2 rfl (lv_at hl 3 rfl) ?_
  refine lv_istore C.1 C.2.1 dX0_multiple_3 hl (by decide) rfl (fun ls hl => ?_)
  have hl : lv_has ls 6 [(4, .int (ii (ecd P))), (3, .int (ii (-1))), (0, .ref h0), (1, .int (ii k)), (2, .int (ii (ecd P)))] := hl
  refine lv_iload_n C.1 C.2.1 dX0_multiple_5 rfl (lv_at hl 3 rfl) ?_
  refine lv_aload_n C.1 C.2.1 dX0_multiple_6 rfl (lv_at hl 2 rfl) ?_
  refine gf C hK hP 0 rfl rfl aw_uX0 3 (by decide) aw_f_X0_21 rfl dX0_multiple_7 ?_
  refine ca_S (As := [.int (ii k), .int (ii (n : Int))]) (rest := []) C (c_floorModI l k (n : Int) hk0 ⟨by omega, by omega⟩) (pcn_pre _ hN) aw_b_JM_floorModI aw_m_X0_58 aw_s_JM_floorModI aw_i_JM ⟨rfl, rfl⟩ 2 (by decide +kernel) rfl ⟨by decide, by decide⟩ hl.1 rfl (Nat.le_of_ble_eq_true rfl) dX0_multiple_10 ⟨by decide, by decide⟩ ?_
  have q1 := em_b k (show (0 : Int) < n by omega)
  refine i_top (b := (((k % (n : Int)).toNat : Nat) : Int)) (by omega) ?_
  refine lv_istore C.1 C.2.1 dX0_multiple_13 hl (by decide) rfl (fun ls hl => ?_)
  have hl : lv_has ls 6 [(5, .int (ii (((k % (n : Int)).toNat : Nat) : Int))), (4, .int (ii (ecd P))), (3, .int (ii (-1))), (0, .ref h0), (1, .int (ii k)), (2, .int (ii (ecd P)))] := hl
  exact loop 11 ls none P _ (sm2_none p) hP0 (by omega) (by omega) hV (lv_sub (l' := [(0, .ref h0), (1, .int (ii k)), (2, .int (ii (ecd P))), (3, .int (ii (-1))), (4, .int (ii (ecd P))), (5, .int (ii (((k % (n : Int)).toNat : Nat) : Int)))]) hl [3, 4, 5, 2, 1, 0] rfl)
set_option maxRecDepth 100000 in
set_option maxHeartbeats 4000000 in
theorem c_floorModJ (l : Launch) (x y : Int) (hx : rl x) (hy : 0 < y ∧ y < 9223372036854775808) : Met l yJM_floorModJ (Cond.code yJM_floorModJ cJM_floorModJ 6 (some .long) :: AW) { frames := 0, cells := 0, slots := 0, locals := 0 } (PcN [.long (li x), .long (li y)]) (QcV (some (.long (li (x % y))))) 0 0 (fun _ => False) := by
  refine mt_pureF (by decide +kernel) (Nat.le_of_ble_eq_true rfl) ?_
  intro P0 E0 S0 M0 A0 B0 T0 K0 C hN hr hk ls hl
  have hl : lv_has ls 6 [(0, .long (li x)), (2, .long (li y))] := hl
  have q := tmod_emod (a := x) hy.1
  have z := Int.tmod_nonneg (a := x) y
  have z2 := Int.lt_tmod_of_pos x hy.1
  have z3 := Int.tmod_lt_of_pos x hy.1
  have z4 : x < 0 → x.tmod y ≤ 0 := fun h => by rw [show x = -(-x) by omega, Int.neg_tmod]; have := Int.tmod_nonneg (a := -x) y (by omega); omega
  obtain ⟨k, hk1, ex, hs⟩ := li_xor hx (show rl y from ⟨by omega, by omega⟩)
  refine lv_lload_n C.1 C.2.1 dJM_floorModJ_0 rfl (lv_at hl 0 rfl) ?_
  refine lv_lload_n C.1 C.2.1 dJM_floorModJ_1 rfl (lv_at hl 1 rfl) ?_
  refine l_remT C dJM_floorModJ_2 hx hy ?_
  refine lv_lstore C.1 C.2.1 dJM_floorModJ_3 hl (by decide) rfl (fun ls hl => ?_)
  have hl : lv_has ls 6 [(4, .long (li (x.tmod y))), (0, .long (li x)), (2, .long (li y))] := hl
  refine lv_lload_n C.1 C.2.1 dJM_floorModJ_5 rfl (lv_at hl 1 rfl) ?_
  refine lv_lload_n C.1 C.2.1 dJM_floorModJ_6 rfl (lv_at hl 2 rfl) ?_
  refine lv_lxor C.1 C.2.1 dJM_floorModJ_7 ?_
  rw [ex]
  refine l_const0 C dJM_floorModJ_8 ?_
  refine l_cmp C dJM_floorModJ_9 ⟨by omega, by omega⟩ ⟨by omega, by omega⟩ ?_
  have cb9 := cmI_b k 0
  have ce9 := cmI_eq (a := k) (b := 0)
  have cl9 := cmI_lt (a := k) (b := 0)
  refine i_if_ge (tgt := 25) C dJM_floorModJ_10 (by decide) ⟨by omega, by omega⟩ (fun h1 => ?_) (fun h1 => ?_)
  · refine lv_lload C.1 C.2.1 dJM_floorModJ_25 (lv_at hl 0 rfl) ?_
    exact rt_l C hr hk dJM_floorModJ_27 (by rw [q, if_neg (by omega)])
  · refine lv_lload C.1 C.2.1 dJM_floorModJ_13 (lv_at hl 0 rfl) ?_
    refine l_const0 C dJM_floorModJ_15 ?_
    refine l_cmp C dJM_floorModJ_16 ⟨by omega, by omega⟩ ⟨by omega, by omega⟩ ?_
    have cb16 := cmI_b (x.tmod y) 0
    have ce16 := cmI_eq (a := x.tmod y) (b := 0)
    have cl16 := cmI_lt (a := x.tmod y) (b := 0)
    refine i_if_eq (tgt := 25) C dJM_floorModJ_17 (by decide) ⟨by omega, by omega⟩ (fun h2 => ?_) (fun h2 => ?_)
    · refine lv_lload C.1 C.2.1 dJM_floorModJ_25 (lv_at hl 0 rfl) ?_
      exact rt_l C hr hk dJM_floorModJ_27 (by rw [q, if_neg (by omega)])
    · refine lv_lload C.1 C.2.1 dJM_floorModJ_20 (lv_at hl 0 rfl) ?_
      refine lv_lload_n C.1 C.2.1 dJM_floorModJ_22 rfl (lv_at hl 2 rfl) ?_
      refine l_add C dJM_floorModJ_23 ?_
      exact rt_l C hr hk dJM_floorModJ_24 (by rw [q, if_pos (by omega)])
set_option maxRecDepth 100000 in
set_option maxHeartbeats 4000000 in
theorem c_X0_messageResidue (l : Launch) (D : va_G) (h0 p a b n : Nat) (g : Int) (hn : 0 < n ∧ n ≤ 1100) (z : Int) (hz : rl z) : Met l yX0_messageResidue (Cond.code yX0_messageResidue cX0_messageResidue 3 (some .int) :: AW) ({ frames := 1, cells := 0, slots := 0, locals := 25 } : Room) (PcW D [(h0, .inr (0, [.int (ii (p : Int)), .int (ii (a : Int)), .int (ii (b : Int)), .int (ii (n : Int)), .int (ii g)]))] [] [.ref h0, .long (li z)]) (QcV (some (.int (ii (z % (n : Int)))))) 0 0 (fun _ => False) := by
  refine mt_W (by decide +kernel) (Nat.le_of_ble_eq_true rfl) ?_
  intro P0 E0 S0 M0 A0 B0 T0 K0 C hN hP hK hr hk ls hl
  have hl : lv_has ls 3 [(0, .ref h0), (1, .long (li z))] := hl
  have q1 := em_b z (show (0 : Int) < n by omega)
  refine lv_lload_n C.1 C.2.1 dX0_messageResidue_0 rfl (lv_at hl 1 rfl) ?_
  refine lv_aload_n C.1 C.2.1 dX0_messageResidue_1 rfl (lv_at hl 0 rfl) ?_
  refine gf C hK hP 0 rfl rfl aw_uX0 3 (by decide) aw_f_X0_21 rfl dX0_messageResidue_2 ?_
  refine l_i2l C dX0_messageResidue_5 ⟨by omega, by omega⟩ ?_
  refine ca_S (As := [.long (li z), .long (li (n : Int))]) (rest := []) C (c_floorModJ l z (n : Int) hz ⟨by omega, by omega⟩) (pcn_pre _ hN) aw_b_JM_floorModJ aw_m_X0_42 aw_s_JM_floorModJ aw_i_JM ⟨rfl, rfl⟩ 2 (by decide +kernel) rfl ⟨by decide, by decide⟩ hl.1 rfl (Nat.le_of_ble_eq_true rfl) dX0_messageResidue_6 ⟨by decide, by decide⟩ ?_
  refine l_l2i C dX0_messageResidue_9 ⟨by omega, by omega⟩ ?_
  exact rt_i C hr hk dX0_messageResidue_10 rfl
def dmF (n : Nat) : Nat → Nat → Nat
  | 0, m => m
  | f + 1, m => if n ≤ m then m else dmF n f (m * 2 + 1)
set_option maxRecDepth 100000 in
set_option maxHeartbeats 4000000 in
theorem c_X0_drawMask (l : Launch) (D : va_G) (h0 p a b n : Nat) (g : Int) (hn : 0 < n ∧ n ≤ 1100) : Met l yX0_drawMask (Cond.code yX0_drawMask cX0_drawMask 3 (some .int) :: AW) ({ frames := 0, cells := 0, slots := 0, locals := 0 } : Room) (PcW D [(h0, .inr (0, [.int (ii (p : Int)), .int (ii (a : Int)), .int (ii (b : Int)), .int (ii (n : Int)), .int (ii g)]))] [] [.ref h0]) (QcV (some (.int (ii (dmF n 30 1 : Nat))))) 0 0 (fun _ => False) := by
  refine mt_W (by decide +kernel) (Nat.le_of_ble_eq_true rfl) ?_
  intro P0 E0 S0 M0 A0 B0 T0 K0 C hN hP hK hr hk ls hl
  have hl : lv_has ls 3 [(0, .ref h0)] := hl
  generalize hV : dmF n 30 1 = V
  have loop : ∀ (f : Nat) (ls : Array Slot) (m t : Nat), t + f = 31 → m ≤ 2300 → dmF n f m = V → lv_has ls 3 [(0, .ref h0), (1, .int (ii (m : Int))), (2, .int (ii (t : Int)))] → W P0 l E0 ({ frames := 0, cells := 0, slots := 0, locals := 0 } : Room) S0 M0 A0 B0 T0 K0 S0.heap [] 0 0 (MQ B0 (QcV (some (.int (ii (V : Nat))))) A0 S0 0 0 (fun _ => False)) (F0 M0 4 ls []) := by
    intro f
    induction f with
    | zero =>
    intro ls m t ht hm hV hl
    have hV : m = V := hV
    refine lv_iload_n C.1 C.2.1 dX0_drawMask_4 rfl (lv_at hl 2 rfl) ?_
    refine i_bipush C dX0_drawMask_5 (by decide +kernel) ?_
    refine i_icmp_ge (tgt := 30) C dX0_drawMask_7 (by decide) ⟨by omega, by omega⟩ ⟨by omega, by omega⟩ (fun h1 => ?_) (fun h1 => ?_)
    · refine lv_iload_n C.1 C.2.1 dX0_drawMask_30 rfl (lv_at hl 1 rfl) ?_
      exact rt_i C hr hk dX0_drawMask_31 (by rw [hV])
    · omega
    | succ f ih =>
    intro ls m t ht hm hV hl
    have hV : (if n ≤ m then m else dmF n f (m * 2 + 1)) = V := hV
    refine lv_iload_n C.1 C.2.1 dX0_drawMask_4 rfl (lv_at hl 2 rfl) ?_
    refine i_bipush C dX0_drawMask_5 (by decide +kernel) ?_
    refine i_icmp_ge (tgt := 30) C dX0_drawMask_7 (by decide) ⟨by omega, by omega⟩ ⟨by omega, by omega⟩ (fun h1 => ?_) (fun h1 => ?_)
    · omega
    · refine lv_iload_n C.1 C.2.1 dX0_drawMask_10 rfl (lv_at hl 1 rfl) ?_
      refine lv_aload_n C.1 C.2.1 dX0_drawMask_11 rfl (lv_at hl 0 rfl) ?_
      refine gf C hK hP 0 rfl rfl aw_uX0 3 (by decide) aw_f_X0_21 rfl dX0_drawMask_12 ?_
      refine i_icmp_ge (tgt := 30) C dX0_drawMask_15 (by decide) ⟨by omega, by omega⟩ ⟨by omega, by omega⟩ (fun h2 => ?_) (fun h2 => ?_)
      · rw [if_pos (show n ≤ m by omega)] at hV
        refine lv_iload_n C.1 C.2.1 dX0_drawMask_30 rfl (lv_at hl 1 rfl) ?_
        exact rt_i C hr hk dX0_drawMask_31 (by rw [hV])
      · rw [if_neg (show ¬ n ≤ m by omega)] at hV
        refine lv_iload_n C.1 C.2.1 dX0_drawMask_18 rfl (lv_at hl 1 rfl) ?_
        refine i_const C dX0_drawMask_19 ?_
        refine i_mul C dX0_drawMask_20 ?_
        refine i_const C dX0_drawMask_21 ?_
        refine i_add C dX0_drawMask_22 ?_
        refine i_top (b := ((m * 2 + 1 : Nat) : Int)) rfl ?_
        refine lv_istore_n C.1 C.2.1 dX0_drawMask_23 rfl hl (by decide) rfl (fun ls hl => ?_)
        have hl : lv_has ls 3 [(1, .int (ii ((m * 2 + 1 : Nat) : Int))), (0, .ref h0), (2, .int (ii (t : Int)))] := hl
        refine lv_iinc C.1 C.2.1 dX0_drawMask_24 hl (k := 2) rfl (ii_add (t : Int) 1) (by decide) rfl (fun ls hl => ?_)
        have hl : lv_has ls 3 [(2, .int (ii ((t : Int) + 1))), (1, .int (ii ((m * 2 + 1 : Nat) : Int))), (0, .ref h0)] := hl
        refine lv_goto (tgt := 4) C.1 C.2.1 dX0_drawMask_27 (by decide) ?_
        exact ih ls _ (t + 1) (by omega) (by omega) hV (lv_sub (l' := [(0, .ref h0), (1, .int (ii ((m * 2 + 1 : Nat) : Int))), (2, .int (ii ((t : Int) + 1)))]) hl [2, 1, 0] rfl)
  refine i_const C dX0_drawMask_0 ?_
  refine lv_istore_n C.1 C.2.1 dX0_drawMask_1 rfl hl (by decide) rfl (fun ls hl => ?_)
  have hl : lv_has ls 3 [(1, .int (ii 1)), (0, .ref h0)] := hl
  refine i_const C dX0_drawMask_2 ?_
  refine lv_istore_n C.1 C.2.1 dX0_drawMask_3 rfl hl (by decide) rfl (fun ls hl => ?_)
  have hl : lv_has ls 3 [(2, .int (ii 1)), (1, .int (ii 1)), (0, .ref h0)] := hl
  exact loop 30 ls 1 1 (by omega) (by omega) hV (lv_sub (l' := [(0, .ref h0), (1, .int (ii 1)), (2, .int (ii 1))]) hl [2, 1, 0] rfl)
set_option maxRecDepth 100000 in
set_option maxHeartbeats 4000000 in
theorem c_X1_shortNumber (l : Launch) (x y : Nat) (hx : x < 1021) (hy : y < 1021) : Met l yX1_shortNumber (Cond.code yX1_shortNumber cX1_shortNumber 1 (some .long) :: AW) ({ frames := 1, cells := 0, slots := 0, locals := 24 } : Room) (PcN [.int (ii ((x : Int) * 65536 + (y : Int)))]) (QcV (some (.long (li ((2 + (y : Int) % 2) * 65536 + x))))) 0 0 (fun _ => False) := by
  refine mt_pure (by decide +kernel) (Nat.le_of_ble_eq_true rfl) ?_
  intro P0 E0 S0 M0 A0 B0 T0 K0 C hN hr hk ls hl
  have hl : lv_has ls 1 [(0, .int (ii ((x : Int) * 65536 + (y : Int))))] := hl
  refine i_const C dX1_shortNumber_0 ?_
  refine lv_iload_n C.1 C.2.1 dX1_shortNumber_1 rfl (lv_at hl 0 rfl) ?_
  refine ca_S (As := [.int (ii ((x : Int) * 65536 + (y : Int)))]) (rest := [.int (ii 2)]) C (c_X1_yOf l (x : Int) (y : Int) ⟨by omega, by omega⟩ ⟨by omega, by omega⟩) (pcn_pre _ hN) aw_b_X1_yOf aw_m_X1_93 aw_s_X1_yOf aw_i_X1 ⟨rfl, rfl⟩ 1 (by decide +kernel) rfl ⟨by decide, by decide⟩ hl.1 rfl (Nat.le_of_ble_eq_true rfl) dX1_shortNumber_2 ⟨by decide, by decide⟩ ?_
  refine i_const C dX1_shortNumber_5 ?_
  refine i_rem C dX1_shortNumber_6 ⟨by omega, by omega⟩ ⟨by omega, by omega⟩ ?_
  refine i_add C dX1_shortNumber_7 ?_
  refine l_i2l C dX1_shortNumber_8 ⟨by omega, by omega⟩ ?_
  refine l_ldc2 (n := 65536) C dX1_shortNumber_9 aw_k_X1_156 (by decide +kernel) ?_
  refine l_mul C dX1_shortNumber_12 ?_
  refine lv_iload_n C.1 C.2.1 dX1_shortNumber_13 rfl (lv_at hl 0 rfl) ?_
  refine ca_S (As := [.int (ii ((x : Int) * 65536 + (y : Int)))]) (rest := [.long (li ((2 + ((y : Int) % 2)) * 65536))]) C (c_X1_xOf l (x : Int) (y : Int) ⟨by omega, by omega⟩ ⟨by omega, by omega⟩) (pcn_pre _ hN) aw_b_X1_xOf aw_m_X1_89 aw_s_X1_xOf aw_i_X1 ⟨rfl, rfl⟩ 1 (by decide +kernel) rfl ⟨by decide, by decide⟩ hl.1 rfl (Nat.le_of_ble_eq_true rfl) dX1_shortNumber_14 ⟨by decide, by decide⟩ ?_
  refine l_i2l C dX1_shortNumber_17 ⟨by omega, by omega⟩ ?_
  refine l_add C dX1_shortNumber_18 ?_
  exact rt_l C hr hk dX1_shortNumber_19 rfl
set_option maxRecDepth 100000 in
set_option maxHeartbeats 4000000 in
theorem c_X1_plainNumber (l : Launch) (k : Int) (hk0 : rg k) : Met l yX1_plainNumber (Cond.code yX1_plainNumber cX1_plainNumber 1 (some .long) :: AW) { frames := 0, cells := 0, slots := 0, locals := 0 } (PcN [.int (ii k)]) (QcV (some (.long (li (17179869184 + k))))) 0 0 (fun _ => False) := by
  refine mt_pure (by decide +kernel) (Nat.le_of_ble_eq_true rfl) ?_
  intro P0 E0 S0 M0 A0 B0 T0 K0 C hN hr hk ls hl
  have hl : lv_has ls 1 [(0, .int (ii k))] := hl
  refine l_ldc2 (n := 17179869184) C dX1_plainNumber_0 aw_k_X1_158 (by decide +kernel) ?_
  refine lv_iload_n C.1 C.2.1 dX1_plainNumber_3 rfl (lv_at hl 0 rfl) ?_
  refine l_i2l C dX1_plainNumber_4 ⟨by omega, by omega⟩ ?_
  refine l_add C dX1_plainNumber_5 ?_
  exact rt_l C hr hk dX1_plainNumber_6 rfl
def mxW (u v : Int32) : Int32 := (u ^^^ v) * ii 668265261 + u
def mxF (u v : Int32) : Int32 := mxW u v + (mxW u v <<< (ii 7 &&& 31) ||| ((mxW u v).toUInt32 >>> ((ii 25).toUInt32 &&& Int32.toUInt32 31)).toInt32)
theorem rt_r {p : Program} {l : Launch} {e : Env} {R : Room} {s : State} {m : MethodId} {args : Array Value} {below : List Frame} {meth : Method} {c : Code} {cc : ByteArray} {nL pc : Nat} {own : String} {ls : Array Slot} (C : Cx p m c cc nL s args own) (hr : meth.sig.returnType = some .int) (hk : meth.locks = false) {x v : Int32} (hdg : decode cc pc = .ok (.ireturn, 1)) (hv : x = v) : W p l e R s m args below meth c s.heap [] 0 0 (MQ below (QcV (some (.int v))) args s 0 0 (fun _ => False)) (F0 m pc ls [.int x]) := by
  subst hv
  exact W.iret C.1 C.2.1 hr (fun t ht _ => ⟨rfl, ht⟩) (fun q h => by cases h) hdg hk
set_option maxRecDepth 100000 in
set_option maxHeartbeats 4000000 in
theorem c_X1_mix (l : Launch) (u v : Int32) : Met l yX1_mix (Cond.code yX1_mix cX1_mix 3 (some .int) :: AW) { frames := 0, cells := 0, slots := 0, locals := 0 } (PcN [.int u, .int v]) (QcV (some (.int (mxF u v)))) 0 0 (fun _ => False) := by
  refine mt_pure (by decide +kernel) (Nat.le_of_ble_eq_true rfl) ?_
  intro P0 E0 S0 M0 A0 B0 T0 K0 C hN hr hk ls hl
  have hl : lv_has ls 3 [(0, .int u), (1, .int v)] := hl
  refine lv_iload_n C.1 C.2.1 dX1_mix_0 rfl (lv_at hl 0 rfl) ?_
  refine lv_iload_n C.1 C.2.1 dX1_mix_1 rfl (lv_at hl 1 rfl) ?_
  refine lv_ixor C.1 C.2.1 dX1_mix_2 ?_
  refine i_ldc (n := 668265261) C dX1_mix_3 aw_k_X1_160 (by decide +kernel) ?_
  refine lv_imul C.1 C.2.1 dX1_mix_5 ?_
  refine lv_iload_n C.1 C.2.1 dX1_mix_6 rfl (lv_at hl 0 rfl) ?_
  refine lv_iadd C.1 C.2.1 dX1_mix_7 ?_
  refine lv_istore_n C.1 C.2.1 dX1_mix_8 rfl hl (by decide) rfl (fun ls hl => ?_)
  have hl : lv_has ls 3 [(2, .int (((u ^^^ v) * (ii 668265261)) + u)), (0, .int u), (1, .int v)] := hl
  refine lv_iload_n C.1 C.2.1 dX1_mix_9 rfl (lv_at hl 0 rfl) ?_
  refine lv_iload_n C.1 C.2.1 dX1_mix_10 rfl (lv_at hl 0 rfl) ?_
  refine i_bipush C dX1_mix_11 (by decide +kernel) ?_
  refine lv_ishl C.1 C.2.1 dX1_mix_13 ?_
  refine lv_iload_n C.1 C.2.1 dX1_mix_14 rfl (lv_at hl 0 rfl) ?_
  refine i_bipush C dX1_mix_15 (by decide +kernel) ?_
  refine lv_iushr C.1 C.2.1 dX1_mix_17 rfl ?_
  refine lv_ior C.1 C.2.1 dX1_mix_18 ?_
  refine lv_iadd C.1 C.2.1 dX1_mix_19 ?_
  exact rt_r C hr hk dX1_mix_20 rfl
