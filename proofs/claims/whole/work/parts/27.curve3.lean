/-! Curve: reading bytes, signatures. By wip/whole/tools/gen6.py. -/
def psF (p a b : Nat) (z : Int) : Int := if z / 65536 = 2 ∨ z / 65536 = 3 then (if z % 65536 < p then (if lrF p (cub p a b (z % 65536).toNat) 1100 0 = -1 then -2 else (z % 65536) * 65536 + (if lrF p (cub p a b (z % 65536).toNat) 1100 0 % 2 = z / 65536 - 2 then lrF p (cub p a b (z % 65536).toNat) 1100 0 else p - lrF p (cub p a b (z % 65536).toNat) 1100 0)) else -2) else -2
set_option maxRecDepth 100000 in
set_option maxHeartbeats 4000000 in
theorem c_X0_pointOfShort (l : Launch) (D : va_G) (h0 p a b n : Nat) (g : Int) (hp : 5 ≤ p ∧ p ≤ 1021) (ha : a < p) (hb : b < p) (z : Int) (hz : rl z) : Met l yX0_pointOfShort (Cond.code yX0_pointOfShort cX0_pointOfShort 7 (some .int) :: AW) ({ frames := 1, cells := 0, slots := 0, locals := 24 } : Room) (PcW D [(h0, .inr (0, [.int (ii (p : Int)), .int (ii (a : Int)), .int (ii (b : Int)), .int (ii (n : Int)), .int (ii g)]))] [] [.ref h0, .long (li z)]) (QcV (some (.int (ii (psF p a b z))))) 0 0 (fun _ => False) := by
  refine mt_W (by decide +kernel) (Nat.le_of_ble_eq_true rfl) ?_
  intro P0 E0 S0 M0 A0 B0 T0 K0 C hN hP hK hr hk ls hl
  have hl : lv_has ls 7 [(0, .ref h0), (1, .long (li z))] := hl
  generalize hV : psF p a b z = V
  unfold psF at hV
  obtain ⟨x, hx⟩ := Int.eq_ofNat_of_zero_le (show 0 ≤ z % 65536 by omega)
  rw [hx, Int.toNat_natCast] at hV
  have f1 := Int.ediv_le_self 65536 (show 0 ≤ (if 0 ≤ z then z else 0) by split <;> omega)
  have f2 : -140737488355328 ≤ z / 65536 ∧ z / 65536 < 140737488355328 := by omega
  generalize hq : z / 65536 = q at f2 hV
  refine lv_lload_n C.1 C.2.1 dX0_pointOfShort_0 rfl (lv_at hl 1 rfl) ?_
  refine i_bipush C dX0_pointOfShort_1 (by decide +kernel) ?_
  refine l_shr C 16 dX0_pointOfShort_3 ⟨by omega, by omega⟩ (by decide +kernel) ?_
  refine l_top (b := z / 65536) (by rfl) ?_
  rw [hq]
  refine lv_lstore_n C.1 C.2.1 dX0_pointOfShort_4 rfl hl (by decide) rfl (fun ls hl => ?_)
  have hl : lv_has ls 7 [(3, .long (li q)), (0, .ref h0), (1, .long (li z))] := hl
  refine lv_lload_n C.1 C.2.1 dX0_pointOfShort_5 rfl (lv_at hl 2 rfl) ?_
  refine l_ldc2 (n := 65535) C dX0_pointOfShort_6 aw_k_X0_73 (by decide +kernel) ?_
  refine l_and16 C dX0_pointOfShort_9 ?_
  refine l_l2i C dX0_pointOfShort_10 ⟨by omega, by omega⟩ ?_
  refine i_top (b := (x : Int)) hx ?_
  refine lv_istore C.1 C.2.1 dX0_pointOfShort_11 hl (by decide) rfl (fun ls hl => ?_)
  have hl : lv_has ls 7 [(5, .int (ii (x : Int))), (3, .long (li q)), (0, .ref h0), (1, .long (li z))] := hl
  refine lv_lload_n C.1 C.2.1 dX0_pointOfShort_13 rfl (lv_at hl 1 rfl) ?_
  refine l_ldc2 (n := 2) C dX0_pointOfShort_14 aw_k_X0_75 (by decide +kernel) ?_
  refine l_cmp C dX0_pointOfShort_17 ⟨by omega, by omega⟩ ⟨by omega, by omega⟩ ?_
  have cb17 := cmI_b q 2
  have ce17 := cmI_eq (a := q) (b := 2)
  have cl17 := cmI_lt (a := q) (b := 2)
  refine i_if_eq (tgt := 29) C dX0_pointOfShort_18 (by decide) ⟨by omega, by omega⟩ (fun h1 => ?_) (fun h1 => ?_)
  · have hq3 : q = 2 ∨ q = 3 := by omega
    rw [if_pos hq3] at hV
    refine lv_iload C.1 C.2.1 dX0_pointOfShort_29 (lv_at hl 0 rfl) ?_
    refine lv_aload_n C.1 C.2.1 dX0_pointOfShort_31 rfl (lv_at hl 2 rfl) ?_
    refine gf C hK hP 0 rfl rfl aw_uX0 0 (by decide) aw_f_X0_9 rfl dX0_pointOfShort_32 ?_
    refine i_icmp_lt (tgt := 41) C dX0_pointOfShort_35 (by decide) ⟨by omega, by omega⟩ ⟨by omega, by omega⟩ (fun h3 => ?_) (fun h3 => ?_)
    · rw [if_pos (show (x : Int) < p by omega)] at hV
      have m1 : cub p a b x < p := Nat.mod_lt _ (by omega)
      have m2 := lrF_b (p := p) (cub p a b x) 1100 0
      refine lv_aload_n C.1 C.2.1 dX0_pointOfShort_41 rfl (lv_at hl 2 rfl) ?_
      refine gf C hK hP 0 rfl rfl aw_uX0 0 (by decide) aw_f_X0_9 rfl dX0_pointOfShort_42 ?_
      refine lv_aload_n C.1 C.2.1 dX0_pointOfShort_45 rfl (lv_at hl 2 rfl) ?_
      refine gf C hK hP 0 rfl rfl aw_uX0 1 (by decide) aw_f_X0_15 rfl dX0_pointOfShort_46 ?_
      refine lv_aload_n C.1 C.2.1 dX0_pointOfShort_49 rfl (lv_at hl 2 rfl) ?_
      refine gf C hK hP 0 rfl rfl aw_uX0 2 (by decide) aw_f_X0_18 rfl dX0_pointOfShort_50 ?_
      refine lv_iload C.1 C.2.1 dX0_pointOfShort_53 (lv_at hl 0 rfl) ?_
      refine ca_SN (As := [.int (ii (p : Int)), .int (ii (a : Int)), .int (ii (b : Int)), .int (ii (x : Int))]) (rest := []) C (c_X1_cubic l (p : Int) (a : Int) (b : Int) (x : Int) (by omega) (by omega) (by omega) (by omega)) hN (pcn_pre _ hN) aw_b_X1_cubic nw_X0_31 aw_s_X1_cubic aw_i_X1 ⟨rfl, rfl⟩ 4 (by decide +kernel) rfl ⟨by decide, by decide⟩ hl.1 rfl (Nat.le_of_ble_eq_true rfl) dX0_pointOfShort_55 ⟨by decide, by decide⟩ ?_
      refine i_top (b := ((cub p a b x : Nat) : Int)) rfl ?_
      refine lv_aload_n C.1 C.2.1 dX0_pointOfShort_58 rfl (lv_at hl 2 rfl) ?_
      refine gf C hK hP 0 rfl rfl aw_uX0 0 (by decide) aw_f_X0_9 rfl dX0_pointOfShort_59 ?_
      refine ca_S (As := [.int (ii ((cub p a b x : Nat) : Int)), .int (ii (p : Int))]) (rest := []) C (c_X0_lesserRoot l (cub p a b x) p m1 hp) (pcn_pre _ hN) aw_b_X0_lesserRoot aw_m_X0_35 aw_s_X0_lesserRoot aw_i_X0 ⟨rfl, rfl⟩ 2 (by decide +kernel) rfl ⟨by decide, by decide⟩ hl.1 rfl (Nat.le_of_ble_eq_true rfl) dX0_pointOfShort_62 ⟨by decide, by decide⟩ ?_
      generalize lrF p (cub p a b x) 1100 0 = y at m2 hV ⊢
      refine lv_istore C.1 C.2.1 dX0_pointOfShort_65 hl (by decide) rfl (fun ls hl => ?_)
      have hl : lv_has ls 7 [(6, .int (ii y)), (5, .int (ii (x : Int))), (3, .long (li q)), (0, .ref h0), (1, .long (li z))] := hl
      refine lv_iload C.1 C.2.1 dX0_pointOfShort_67 (lv_at hl 0 rfl) ?_
      refine i_const C dX0_pointOfShort_69 ?_
      refine i_icmp_ne (tgt := 76) C dX0_pointOfShort_70 (by decide) ⟨by omega, by omega⟩ ⟨by omega, by omega⟩ (fun h4 => ?_) (fun h4 => ?_)
      · rw [if_neg h4] at hV
        refine lv_iload C.1 C.2.1 dX0_pointOfShort_76 (lv_at hl 1 rfl) ?_
        refine lv_iload C.1 C.2.1 dX0_pointOfShort_78 (lv_at hl 0 rfl) ?_
        refine i_const C dX0_pointOfShort_80 ?_
        refine i_rem C dX0_pointOfShort_81 ⟨by omega, by omega⟩ ⟨by omega, by omega⟩ ?_
        refine l_i2l C dX0_pointOfShort_82 ⟨by omega, by omega⟩ ?_
        refine lv_lload_n C.1 C.2.1 dX0_pointOfShort_83 rfl (lv_at hl 2 rfl) ?_
        refine l_ldc2 (n := 2) C dX0_pointOfShort_84 aw_k_X0_75 (by decide +kernel) ?_
        refine l_sub C dX0_pointOfShort_87 ?_
        refine l_cmp C dX0_pointOfShort_88 ⟨by omega, by omega⟩ ⟨by omega, by omega⟩ ?_
        have cb88 := cmI_b (y % 2) (q - 2)
        have ce88 := cmI_eq (a := y % 2) (b := q - 2)
        have cl88 := cmI_lt (a := y % 2) (b := q - 2)
        refine i_if_ne (tgt := 97) C dX0_pointOfShort_89 (by decide) ⟨by omega, by omega⟩ (fun h5 => ?_) (fun h5 => ?_)
        · rw [if_neg (show ¬ y % 2 = q - 2 by omega)] at hV
          refine lv_aload_n C.1 C.2.1 dX0_pointOfShort_97 rfl (lv_at hl 3 rfl) ?_
          refine gf C hK hP 0 rfl rfl aw_uX0 0 (by decide) aw_f_X0_9 rfl dX0_pointOfShort_98 ?_
          refine lv_iload C.1 C.2.1 dX0_pointOfShort_101 (lv_at hl 0 rfl) ?_
          refine i_sub C dX0_pointOfShort_103 ?_
          refine ca_SN (As := [.int (ii (x : Int)), .int (ii ((p : Int) - y))]) (rest := []) C (c_X1_pointAt l (x : Int) ((p : Int) - y)) hN (pcn_pre _ hN) aw_b_X1_pointAt nw_X0_39 aw_s_X1_pointAt aw_i_X1 ⟨rfl, rfl⟩ 2 (by decide +kernel) rfl ⟨by decide, by decide⟩ hl.1 rfl (Nat.le_of_ble_eq_true rfl) dX0_pointOfShort_104 ⟨by decide, by decide⟩ ?_
          exact rt_i C hr hk dX0_pointOfShort_107 (by rw [← hV])
        · rw [if_pos (show y % 2 = q - 2 by omega)] at hV
          refine lv_iload C.1 C.2.1 dX0_pointOfShort_92 (lv_at hl 0 rfl) ?_
          refine lv_goto (tgt := 104) C.1 C.2.1 dX0_pointOfShort_94 (by decide) ?_
          refine ca_SN (As := [.int (ii (x : Int)), .int (ii y)]) (rest := []) C (c_X1_pointAt l (x : Int) y) hN (pcn_pre _ hN) aw_b_X1_pointAt nw_X0_39 aw_s_X1_pointAt aw_i_X1 ⟨rfl, rfl⟩ 2 (by decide +kernel) rfl ⟨by decide, by decide⟩ hl.1 rfl (Nat.le_of_ble_eq_true rfl) dX0_pointOfShort_104 ⟨by decide, by decide⟩ ?_
          exact rt_i C hr hk dX0_pointOfShort_107 (by rw [← hV])
      · rw [if_pos (show y = -1 by omega)] at hV
        refine i_bipush C dX0_pointOfShort_73 (by decide +kernel) ?_
        exact rt_i C hr hk dX0_pointOfShort_75 (by rw [← hV])
    · rw [if_neg (show ¬ (x : Int) < p by omega)] at hV
      refine i_bipush C dX0_pointOfShort_38 (by decide +kernel) ?_
      exact rt_i C hr hk dX0_pointOfShort_40 (by rw [← hV])
  · refine lv_lload_n C.1 C.2.1 dX0_pointOfShort_21 rfl (lv_at hl 1 rfl) ?_
    refine l_ldc2 (n := 3) C dX0_pointOfShort_22 aw_k_X0_77 (by decide +kernel) ?_
    refine l_cmp C dX0_pointOfShort_25 ⟨by omega, by omega⟩ ⟨by omega, by omega⟩ ?_
    have cb25 := cmI_b q 3
    have ce25 := cmI_eq (a := q) (b := 3)
    have cl25 := cmI_lt (a := q) (b := 3)
    refine i_if_ne (tgt := 38) C dX0_pointOfShort_26 (by decide) ⟨by omega, by omega⟩ (fun h2 => ?_) (fun h2 => ?_)
    · rw [if_neg (show ¬ (q = 2 ∨ q = 3) by omega)] at hV
      refine i_bipush C dX0_pointOfShort_38 (by decide +kernel) ?_
      exact rt_i C hr hk dX0_pointOfShort_40 (by rw [← hV])
    · have hq3 : q = 2 ∨ q = 3 := by omega
      rw [if_pos hq3] at hV
      refine lv_iload C.1 C.2.1 dX0_pointOfShort_29 (lv_at hl 0 rfl) ?_
      refine lv_aload_n C.1 C.2.1 dX0_pointOfShort_31 rfl (lv_at hl 2 rfl) ?_
      refine gf C hK hP 0 rfl rfl aw_uX0 0 (by decide) aw_f_X0_9 rfl dX0_pointOfShort_32 ?_
      refine i_icmp_lt (tgt := 41) C dX0_pointOfShort_35 (by decide) ⟨by omega, by omega⟩ ⟨by omega, by omega⟩ (fun h3 => ?_) (fun h3 => ?_)
      · rw [if_pos (show (x : Int) < p by omega)] at hV
        have m1 : cub p a b x < p := Nat.mod_lt _ (by omega)
        have m2 := lrF_b (p := p) (cub p a b x) 1100 0
        refine lv_aload_n C.1 C.2.1 dX0_pointOfShort_41 rfl (lv_at hl 2 rfl) ?_
        refine gf C hK hP 0 rfl rfl aw_uX0 0 (by decide) aw_f_X0_9 rfl dX0_pointOfShort_42 ?_
        refine lv_aload_n C.1 C.2.1 dX0_pointOfShort_45 rfl (lv_at hl 2 rfl) ?_
        refine gf C hK hP 0 rfl rfl aw_uX0 1 (by decide) aw_f_X0_15 rfl dX0_pointOfShort_46 ?_
        refine lv_aload_n C.1 C.2.1 dX0_pointOfShort_49 rfl (lv_at hl 2 rfl) ?_
        refine gf C hK hP 0 rfl rfl aw_uX0 2 (by decide) aw_f_X0_18 rfl dX0_pointOfShort_50 ?_
        refine lv_iload C.1 C.2.1 dX0_pointOfShort_53 (lv_at hl 0 rfl) ?_
        refine ca_SN (As := [.int (ii (p : Int)), .int (ii (a : Int)), .int (ii (b : Int)), .int (ii (x : Int))]) (rest := []) C (c_X1_cubic l (p : Int) (a : Int) (b : Int) (x : Int) (by omega) (by omega) (by omega) (by omega)) hN (pcn_pre _ hN) aw_b_X1_cubic nw_X0_31 aw_s_X1_cubic aw_i_X1 ⟨rfl, rfl⟩ 4 (by decide +kernel) rfl ⟨by decide, by decide⟩ hl.1 rfl (Nat.le_of_ble_eq_true rfl) dX0_pointOfShort_55 ⟨by decide, by decide⟩ ?_
        refine i_top (b := ((cub p a b x : Nat) : Int)) rfl ?_
        refine lv_aload_n C.1 C.2.1 dX0_pointOfShort_58 rfl (lv_at hl 2 rfl) ?_
        refine gf C hK hP 0 rfl rfl aw_uX0 0 (by decide) aw_f_X0_9 rfl dX0_pointOfShort_59 ?_
        refine ca_S (As := [.int (ii ((cub p a b x : Nat) : Int)), .int (ii (p : Int))]) (rest := []) C (c_X0_lesserRoot l (cub p a b x) p m1 hp) (pcn_pre _ hN) aw_b_X0_lesserRoot aw_m_X0_35 aw_s_X0_lesserRoot aw_i_X0 ⟨rfl, rfl⟩ 2 (by decide +kernel) rfl ⟨by decide, by decide⟩ hl.1 rfl (Nat.le_of_ble_eq_true rfl) dX0_pointOfShort_62 ⟨by decide, by decide⟩ ?_
        generalize lrF p (cub p a b x) 1100 0 = y at m2 hV ⊢
        refine lv_istore C.1 C.2.1 dX0_pointOfShort_65 hl (by decide) rfl (fun ls hl => ?_)
        have hl : lv_has ls 7 [(6, .int (ii y)), (5, .int (ii (x : Int))), (3, .long (li q)), (0, .ref h0), (1, .long (li z))] := hl
        refine lv_iload C.1 C.2.1 dX0_pointOfShort_67 (lv_at hl 0 rfl) ?_
        refine i_const C dX0_pointOfShort_69 ?_
        refine i_icmp_ne (tgt := 76) C dX0_pointOfShort_70 (by decide) ⟨by omega, by omega⟩ ⟨by omega, by omega⟩ (fun h4 => ?_) (fun h4 => ?_)
        · rw [if_neg h4] at hV
          refine lv_iload C.1 C.2.1 dX0_pointOfShort_76 (lv_at hl 1 rfl) ?_
          refine lv_iload C.1 C.2.1 dX0_pointOfShort_78 (lv_at hl 0 rfl) ?_
          refine i_const C dX0_pointOfShort_80 ?_
          refine i_rem C dX0_pointOfShort_81 ⟨by omega, by omega⟩ ⟨by omega, by omega⟩ ?_
          refine l_i2l C dX0_pointOfShort_82 ⟨by omega, by omega⟩ ?_
          refine lv_lload_n C.1 C.2.1 dX0_pointOfShort_83 rfl (lv_at hl 2 rfl) ?_
          refine l_ldc2 (n := 2) C dX0_pointOfShort_84 aw_k_X0_75 (by decide +kernel) ?_
          refine l_sub C dX0_pointOfShort_87 ?_
          refine l_cmp C dX0_pointOfShort_88 ⟨by omega, by omega⟩ ⟨by omega, by omega⟩ ?_
          have cb88 := cmI_b (y % 2) (q - 2)
          have ce88 := cmI_eq (a := y % 2) (b := q - 2)
          have cl88 := cmI_lt (a := y % 2) (b := q - 2)
          refine i_if_ne (tgt := 97) C dX0_pointOfShort_89 (by decide) ⟨by omega, by omega⟩ (fun h5 => ?_) (fun h5 => ?_)
          · rw [if_neg (show ¬ y % 2 = q - 2 by omega)] at hV
            refine lv_aload_n C.1 C.2.1 dX0_pointOfShort_97 rfl (lv_at hl 3 rfl) ?_
            refine gf C hK hP 0 rfl rfl aw_uX0 0 (by decide) aw_f_X0_9 rfl dX0_pointOfShort_98 ?_
            refine lv_iload C.1 C.2.1 dX0_pointOfShort_101 (lv_at hl 0 rfl) ?_
            refine i_sub C dX0_pointOfShort_103 ?_
            refine ca_SN (As := [.int (ii (x : Int)), .int (ii ((p : Int) - y))]) (rest := []) C (c_X1_pointAt l (x : Int) ((p : Int) - y)) hN (pcn_pre _ hN) aw_b_X1_pointAt nw_X0_39 aw_s_X1_pointAt aw_i_X1 ⟨rfl, rfl⟩ 2 (by decide +kernel) rfl ⟨by decide, by decide⟩ hl.1 rfl (Nat.le_of_ble_eq_true rfl) dX0_pointOfShort_104 ⟨by decide, by decide⟩ ?_
            exact rt_i C hr hk dX0_pointOfShort_107 (by rw [← hV])
          · rw [if_pos (show y % 2 = q - 2 by omega)] at hV
            refine lv_iload C.1 C.2.1 dX0_pointOfShort_92 (lv_at hl 0 rfl) ?_
            refine lv_goto (tgt := 104) C.1 C.2.1 dX0_pointOfShort_94 (by decide) ?_
            refine ca_SN (As := [.int (ii (x : Int)), .int (ii y)]) (rest := []) C (c_X1_pointAt l (x : Int) y) hN (pcn_pre _ hN) aw_b_X1_pointAt nw_X0_39 aw_s_X1_pointAt aw_i_X1 ⟨rfl, rfl⟩ 2 (by decide +kernel) rfl ⟨by decide, by decide⟩ hl.1 rfl (Nat.le_of_ble_eq_true rfl) dX0_pointOfShort_104 ⟨by decide, by decide⟩ ?_
            exact rt_i C hr hk dX0_pointOfShort_107 (by rw [← hV])
        · rw [if_pos (show y = -1 by omega)] at hV
          refine i_bipush C dX0_pointOfShort_73 (by decide +kernel) ?_
          exact rt_i C hr hk dX0_pointOfShort_75 (by rw [← hV])
      · rw [if_neg (show ¬ (x : Int) < p by omega)] at hV
        refine i_bipush C dX0_pointOfShort_38 (by decide +kernel) ?_
        exact rt_i C hr hk dX0_pointOfShort_40 (by rw [← hV])
def ppF (p a b : Nat) (z : Int) : Int := if z / 4294967296 = 4 then (if hoF p a b (z / 65536 % 65536) (z % 65536) = 0 then -2 else (z / 65536 % 65536) * 65536 + z % 65536) else -2
theorem hoF_b (p a b : Nat) (x y : Int) : hoF p a b x y = 0 ∨ hoF p a b x y = 1 := by
  unfold hoF
  repeat' split
  all_goals first | exact Or.inl rfl | exact Or.inr rfl
theorem unF_b (n : Nat) (k : Int) : unF n k = 0 ∨ unF n k = 1 := by
  unfold unF
  repeat' split
  all_goals first | exact Or.inl rfl | exact Or.inr rfl
set_option maxRecDepth 100000 in
set_option maxHeartbeats 4000000 in
theorem c_X0_pointOfPlain (l : Launch) (D : va_G) (h0 p a b n : Nat) (g : Int) (hp : 5 ≤ p ∧ p ≤ 1021) (ha : a < p) (hb : b < p) (z : Int) (hz : rl z) : Met l yX0_pointOfPlain (Cond.code yX0_pointOfPlain cX0_pointOfPlain 5 (some .int) :: AW) ({ frames := 2, cells := 0, slots := 0, locals := 46 } : Room) (PcW D [(h0, .inr (0, [.int (ii (p : Int)), .int (ii (a : Int)), .int (ii (b : Int)), .int (ii (n : Int)), .int (ii g)]))] [] [.ref h0, .long (li z)]) (QcV (some (.int (ii (ppF p a b z))))) 0 0 (fun _ => False) := by
  refine mt_W (by decide +kernel) (Nat.le_of_ble_eq_true rfl) ?_
  intro P0 E0 S0 M0 A0 B0 T0 K0 C hN hP hK hr hk ls hl
  have hl : lv_has ls 5 [(0, .ref h0), (1, .long (li z))] := hl
  generalize hV : ppF p a b z = V
  unfold ppF at hV
  have f1 : 0 ≤ z / 65536 % 65536 ∧ z / 65536 % 65536 < 65536 := by omega
  have f2 : 0 ≤ z % 65536 ∧ z % 65536 < 65536 := by omega
  have f3 : -2147483648 ≤ z / 4294967296 ∧ z / 4294967296 < 2147483648 := by omega
  have f4 := hoF_b p a b (z / 65536 % 65536) (z % 65536)
  refine lv_lload_n C.1 C.2.1 dX0_pointOfPlain_0 rfl (lv_at hl 1 rfl) ?_
  refine i_bipush C dX0_pointOfPlain_1 (by decide +kernel) ?_
  refine l_shr C 16 dX0_pointOfPlain_3 ⟨by omega, by omega⟩ (by decide +kernel) ?_
  refine l_top (b := z / 65536) (by rfl) ?_
  refine l_ldc2 (n := 65535) C dX0_pointOfPlain_4 aw_k_X0_73 (by decide +kernel) ?_
  refine l_and16 C dX0_pointOfPlain_7 ?_
  refine l_l2i C dX0_pointOfPlain_8 ⟨by omega, by omega⟩ ?_
  refine lv_istore_n C.1 C.2.1 dX0_pointOfPlain_9 rfl hl (by decide) rfl (fun ls hl => ?_)
  have hl : lv_has ls 5 [(3, .int (ii ((z / 65536) % 65536))), (0, .ref h0), (1, .long (li z))] := hl
  refine lv_lload_n C.1 C.2.1 dX0_pointOfPlain_10 rfl (lv_at hl 2 rfl) ?_
  refine l_ldc2 (n := 65535) C dX0_pointOfPlain_11 aw_k_X0_73 (by decide +kernel) ?_
  refine l_and16 C dX0_pointOfPlain_14 ?_
  refine l_l2i C dX0_pointOfPlain_15 ⟨by omega, by omega⟩ ?_
  refine lv_istore C.1 C.2.1 dX0_pointOfPlain_16 hl (by decide) rfl (fun ls hl => ?_)
  have hl : lv_has ls 5 [(4, .int (ii (z % 65536))), (3, .int (ii ((z / 65536) % 65536))), (0, .ref h0), (1, .long (li z))] := hl
  refine lv_lload_n C.1 C.2.1 dX0_pointOfPlain_18 rfl (lv_at hl 3 rfl) ?_
  refine i_bipush C dX0_pointOfPlain_19 (by decide +kernel) ?_
  refine l_shr C 32 dX0_pointOfPlain_21 ⟨by omega, by omega⟩ (by decide +kernel) ?_
  refine l_top (b := z / 4294967296) (by rfl) ?_
  refine l_ldc2 (n := 4) C dX0_pointOfPlain_22 aw_k_X0_79 (by decide +kernel) ?_
  refine l_cmp C dX0_pointOfPlain_25 ⟨by omega, by omega⟩ ⟨by omega, by omega⟩ ?_
  have cb25 := cmI_b (z / 4294967296) 4
  have ce25 := cmI_eq (a := z / 4294967296) (b := 4)
  have cl25 := cmI_lt (a := z / 4294967296) (b := 4)
  refine i_if_ne (tgt := 48) C dX0_pointOfPlain_26 (by decide) ⟨by omega, by omega⟩ (fun h1 => ?_) (fun h1 => ?_)
  · rw [if_neg (show ¬ z / 4294967296 = 4 by omega)] at hV
    refine i_bipush C dX0_pointOfPlain_48 (by decide +kernel) ?_
    exact rt_i C hr hk dX0_pointOfPlain_50 (by rw [← hV])
  · rw [if_pos (show z / 4294967296 = 4 by omega)] at hV
    refine lv_aload_n C.1 C.2.1 dX0_pointOfPlain_29 rfl (lv_at hl 2 rfl) ?_
    refine lv_iload_n C.1 C.2.1 dX0_pointOfPlain_30 rfl (lv_at hl 1 rfl) ?_
    refine lv_iload C.1 C.2.1 dX0_pointOfPlain_31 (lv_at hl 0 rfl) ?_
    refine ca_V (As := [.int (ii ((z / 65536) % 65536)), .int (ii (z % 65536))]) (rest := []) C (c_X0_holds l D h0 p a b n g hp ha hb (z / 65536 % 65536) (z % 65536) ⟨by omega, by omega⟩ ⟨by omega, by omega⟩) (pcw_preV [.int (ii ((z / 65536) % 65536)), .int (ii (z % 65536))] hN hP hK 0 (ci := 0) rfl rfl) aw_b_X0_holds aw_m_X0_81 aw_v_X0_holds aw_i_X0 aw_e_X0_holds ⟨rfl, rfl⟩ 2 (by decide +kernel) rfl ⟨by decide, by decide⟩ hl.1 rfl (Nat.le_of_ble_eq_true rfl) dX0_pointOfPlain_33 ⟨by decide, by decide⟩ ?_
    generalize hoF p a b (z / 65536 % 65536) (z % 65536) = k at f4 hV ⊢
    refine i_if_eq (tgt := 48) C dX0_pointOfPlain_36 (by decide) ⟨by omega, by omega⟩ (fun h2 => ?_) (fun h2 => ?_)
    · rw [if_pos h2] at hV
      refine i_bipush C dX0_pointOfPlain_48 (by decide +kernel) ?_
      exact rt_i C hr hk dX0_pointOfPlain_50 (by rw [← hV])
    · rw [if_neg h2] at hV
      refine lv_iload_n C.1 C.2.1 dX0_pointOfPlain_39 rfl (lv_at hl 1 rfl) ?_
      refine lv_iload C.1 C.2.1 dX0_pointOfPlain_40 (lv_at hl 0 rfl) ?_
      refine ca_SN (As := [.int (ii ((z / 65536) % 65536)), .int (ii (z % 65536))]) (rest := []) C (c_X1_pointAt l (z / 65536 % 65536) (z % 65536)) hN (pcn_pre _ hN) aw_b_X1_pointAt nw_X0_39 aw_s_X1_pointAt aw_i_X1 ⟨rfl, rfl⟩ 2 (by decide +kernel) rfl ⟨by decide, by decide⟩ hl.1 rfl (Nat.le_of_ble_eq_true rfl) dX0_pointOfPlain_42 ⟨by decide, by decide⟩ ?_
      refine lv_goto (tgt := 50) C.1 C.2.1 dX0_pointOfPlain_45 (by decide) ?_
      exact rt_i C hr hk dX0_pointOfPlain_50 (by rw [← hV])
def pbF (p a b : Nat) (k z : Int) : Int := if k = 1 then (if z = 0 then -1 else -2) else if k = 3 then psF p a b z else if k = 5 then ppF p a b z else -2
set_option maxRecDepth 100000 in
set_option maxHeartbeats 4000000 in
theorem c_X0_pointOfBytes (l : Launch) (D : va_G) (h0 p a b n : Nat) (g : Int) (hp : 5 ≤ p ∧ p ≤ 1021) (ha : a < p) (hb : b < p) (k z : Int) (hk0 : rg k) (hz : rl z) : Met l yX0_pointOfBytes (Cond.code yX0_pointOfBytes cX0_pointOfBytes 4 (some .int) :: AW) ({ frames := 3, cells := 0, slots := 0, locals := 70 } : Room) (PcW D [(h0, .inr (0, [.int (ii (p : Int)), .int (ii (a : Int)), .int (ii (b : Int)), .int (ii (n : Int)), .int (ii g)]))] [] [.ref h0, .int (ii k), .long (li z)]) (QcV (some (.int (ii (pbF p a b k z))))) 0 0 (fun _ => False) := by
  refine mt_W (by decide +kernel) (Nat.le_of_ble_eq_true rfl) ?_
  intro P0 E0 S0 M0 A0 B0 T0 K0 C hN hP hK hr hk ls hl
  have hl : lv_has ls 4 [(0, .ref h0), (1, .int (ii k)), (2, .long (li z))] := hl
  generalize hV : pbF p a b k z = V
  unfold pbF at hV
  refine lv_iload_n C.1 C.2.1 dX0_pointOfBytes_0 rfl (lv_at hl 1 rfl) ?_
  refine i_const C dX0_pointOfBytes_1 ?_
  refine i_icmp_ne (tgt := 18) C dX0_pointOfBytes_2 (by decide) ⟨by omega, by omega⟩ ⟨by omega, by omega⟩ (fun h1 => ?_) (fun h1 => ?_)
  · rw [if_neg h1] at hV
    refine lv_iload_n C.1 C.2.1 dX0_pointOfBytes_18 rfl (lv_at hl 1 rfl) ?_
    refine i_const C dX0_pointOfBytes_19 ?_
    refine i_icmp_ne (tgt := 29) C dX0_pointOfBytes_20 (by decide) ⟨by omega, by omega⟩ ⟨by omega, by omega⟩ (fun h2 => ?_) (fun h2 => ?_)
    · rw [if_neg h2] at hV
      refine lv_iload_n C.1 C.2.1 dX0_pointOfBytes_29 rfl (lv_at hl 1 rfl) ?_
      refine i_const C dX0_pointOfBytes_30 ?_
      refine i_icmp_ne (tgt := 42) C dX0_pointOfBytes_31 (by decide) ⟨by omega, by omega⟩ ⟨by omega, by omega⟩ (fun h3 => ?_) (fun h3 => ?_)
      · rw [if_neg h3] at hV
        refine i_bipush C dX0_pointOfBytes_42 (by decide +kernel) ?_
        exact rt_i C hr hk dX0_pointOfBytes_44 (by rw [← hV])
      · rw [if_pos (Classical.not_not.mp h3)] at hV
        refine lv_aload_n C.1 C.2.1 dX0_pointOfBytes_34 rfl (lv_at hl 0 rfl) ?_
        refine lv_lload_n C.1 C.2.1 dX0_pointOfBytes_35 rfl (lv_at hl 2 rfl) ?_
        refine ca_V (As := [.long (li z)]) (rest := []) C (c_X0_pointOfPlain l D h0 p a b n g hp ha hb z hz) (pcw_preV [.long (li z)] hN hP hK 0 (ci := 0) rfl rfl) aw_b_X0_pointOfPlain aw_m_X0_70 aw_v_X0_pointOfPlain aw_i_X0 aw_e_X0_pointOfPlain ⟨rfl, rfl⟩ 1 (by decide +kernel) rfl ⟨by decide, by decide⟩ hl.1 rfl (Nat.le_of_ble_eq_true rfl) dX0_pointOfBytes_36 ⟨by decide, by decide⟩ ?_
        refine lv_goto (tgt := 44) C.1 C.2.1 dX0_pointOfBytes_39 (by decide) ?_
        exact rt_i C hr hk dX0_pointOfBytes_44 (by rw [← hV])
    · rw [if_pos (Classical.not_not.mp h2)] at hV
      refine lv_aload_n C.1 C.2.1 dX0_pointOfBytes_23 rfl (lv_at hl 0 rfl) ?_
      refine lv_lload_n C.1 C.2.1 dX0_pointOfBytes_24 rfl (lv_at hl 2 rfl) ?_
      refine ca_V (As := [.long (li z)]) (rest := []) C (c_X0_pointOfShort l D h0 p a b n g hp ha hb z hz) (pcw_preV [.long (li z)] hN hP hK 0 (ci := 0) rfl rfl) aw_b_X0_pointOfShort aw_m_X0_66 aw_v_X0_pointOfShort aw_i_X0 aw_e_X0_pointOfShort ⟨rfl, rfl⟩ 1 (by decide +kernel) rfl ⟨by decide, by decide⟩ hl.1 rfl (Nat.le_of_ble_eq_true rfl) dX0_pointOfBytes_25 ⟨by decide, by decide⟩ ?_
      exact rt_i C hr hk dX0_pointOfBytes_28 (by rw [← hV])
  · rw [if_pos (Classical.not_not.mp h1)] at hV
    refine lv_lload_n C.1 C.2.1 dX0_pointOfBytes_5 rfl (lv_at hl 2 rfl) ?_
    refine l_const0 C dX0_pointOfBytes_6 ?_
    refine l_cmp C dX0_pointOfBytes_7 ⟨by omega, by omega⟩ ⟨by omega, by omega⟩ ?_
    have cb7 := cmI_b z 0
    have ce7 := cmI_eq (a := z) (b := 0)
    have cl7 := cmI_lt (a := z) (b := 0)
    refine i_if_ne (tgt := 15) C dX0_pointOfBytes_8 (by decide) ⟨by omega, by omega⟩ (fun h2 => ?_) (fun h2 => ?_)
    · rw [if_neg (show ¬ z = 0 by omega)] at hV
      refine i_bipush C dX0_pointOfBytes_15 (by decide +kernel) ?_
      exact rt_i C hr hk dX0_pointOfBytes_17 (by rw [← hV])
    · rw [if_pos (show z = 0 by omega)] at hV
      refine i_const C dX0_pointOfBytes_11 ?_
      refine lv_goto (tgt := 17) C.1 C.2.1 dX0_pointOfBytes_12 (by decide) ?_
      exact rt_i C hr hk dX0_pointOfBytes_17 (by rw [← hV])
def sgF (n x : Nat) (k e d : Int) : Int := if unF n k = 0 then 0 else if ((x % n : Nat) : Int) = 0 then 0 else if qtF (e + ((x % n : Nat) : Int) * d) k n = 0 then 0 else ((x % n : Nat) : Int) * 65536 + qtF (e + ((x % n : Nat) : Int) * d) k n
set_option maxRecDepth 100000 in
set_option maxHeartbeats 4000000 in
theorem c_X0_signatureFrom (l : Launch) (D : va_G) (h0 p a b n : Nat) (G : Option (Nat × Nat)) (hp : 5 ≤ p ∧ p ≤ 1021) (ha : a < p) (hb : b < p) (hn : 2 ≤ n ∧ n ≤ 1100) (hG : sm2 p G) (k e d : Int) (hk0 : rg k) (he0 : 0 ≤ e ∧ e ≤ 1099) (hd0 : 0 ≤ d ∧ d ≤ 1099) (x y : Nat) (hR : unF n k ≠ 0 → muF p a 11 none G (k % (n : Int)).toNat = some (x, y)) (hx0 : x < p) (hy0 : y < p) : Met l yX0_signatureFrom (Cond.code yX0_signatureFrom cX0_signatureFrom 6 (some .long) :: AW) ({ frames := 5, cells := 0, slots := 0, locals := 130 } : Room) (PcW D [(h0, .inr (0, [.int (ii (p : Int)), .int (ii (a : Int)), .int (ii (b : Int)), .int (ii (n : Int)), .int (ii (ecd G))]))] [] [.ref h0, .int (ii k), .int (ii e), .int (ii d)]) (QcV (some (.long (li (sgF n x k e d))))) 0 0 (fun _ => False) := by
  refine mt_W (by decide +kernel) (Nat.le_of_ble_eq_true rfl) ?_
  intro P0 E0 S0 M0 A0 B0 T0 K0 C hN hP hK hr hk ls hl
  have hl : lv_has ls 6 [(0, .ref h0), (1, .int (ii k)), (2, .int (ii e)), (3, .int (ii d))] := hl
  generalize hV : sgF n x k e d = V
  unfold sgF at hV
  have u1 := unF_b n k
  refine lv_aload_n C.1 C.2.1 dX0_signatureFrom_0 rfl (lv_at hl 0 rfl) ?_
  refine lv_iload_n C.1 C.2.1 dX0_signatureFrom_1 rfl (lv_at hl 1 rfl) ?_
  refine ca_V (As := [.int (ii k)]) (rest := []) C (c_X0_isUnit l D h0 p a b n (ecd G) (by omega) k hk0) (pcw_preV [.int (ii k)] hN hP hK 0 (ci := 0) rfl rfl) aw_b_X0_isUnit aw_m_X0_85 aw_v_X0_isUnit aw_i_X0 aw_e_X0_isUnit ⟨rfl, rfl⟩ 1 (by decide +kernel) rfl ⟨by decide, by decide⟩ hl.1 rfl (Nat.le_of_ble_eq_true rfl) dX0_signatureFrom_2 ⟨by decide, by decide⟩ ?_
  generalize unF n k = j at u1 hV hR ⊢
  refine i_if_ne (tgt := 10) C dX0_signatureFrom_5 (by decide) ⟨by omega, by omega⟩ (fun h1 => ?_) (fun h1 => ?_)
  · rw [if_neg h1] at hV
    have hR := hR h1
    refine lv_aload_n C.1 C.2.1 dX0_signatureFrom_10 rfl (lv_at hl 0 rfl) ?_
    refine lv_iload_n C.1 C.2.1 dX0_signatureFrom_11 rfl (lv_at hl 1 rfl) ?_
    refine lv_aload_n C.1 C.2.1 dX0_signatureFrom_12 rfl (lv_at hl 0 rfl) ?_
    refine gf C hK hP 0 rfl rfl aw_uX0 4 (by decide) aw_f_X0_28 rfl dX0_signatureFrom_13 ?_
    refine ca_V (As := [.int (ii k), .int (ii (ecd G))]) (rest := []) C (c_X0_multiple l D h0 p a b n (ecd G) hp ha hb (by omega) k hk0 G hG) (pcw_preV [.int (ii k), .int (ii (ecd G))] hN hP hK 0 (ci := 0) rfl rfl) aw_b_X0_multiple aw_m_X0_89 aw_v_X0_multiple aw_i_X0 aw_e_X0_multiple ⟨rfl, rfl⟩ 2 (by decide +kernel) rfl ⟨by decide, by decide⟩ hl.1 rfl (Nat.le_of_ble_eq_true rfl) dX0_signatureFrom_16 ⟨by decide, by decide⟩ ?_
    rw [hR]
    refine ca_SN (As := [.int (ii ((x : Int) * 65536 + (y : Int)))]) (rest := []) C (c_X1_xOf l (x : Int) (y : Int) ⟨by omega, by omega⟩ ⟨by omega, by omega⟩) hN (pcn_pre _ hN) aw_b_X1_xOf nw_X0_48 aw_s_X1_xOf aw_i_X1 ⟨rfl, rfl⟩ 1 (by decide +kernel) rfl ⟨by decide, by decide⟩ hl.1 rfl (Nat.le_of_ble_eq_true rfl) dX0_signatureFrom_19 ⟨by decide, by decide⟩ ?_
    refine lv_aload_n C.1 C.2.1 dX0_signatureFrom_22 rfl (lv_at hl 0 rfl) ?_
    refine gf C hK hP 0 rfl rfl aw_uX0 3 (by decide) aw_f_X0_21 rfl dX0_signatureFrom_23 ?_
    refine i_rem C dX0_signatureFrom_26 ⟨by omega, by omega⟩ ⟨by omega, by omega⟩ ?_
    refine i_top (b := ((x % n : Nat) : Int)) rfl ?_
    have r1 := Nat.mod_lt x (show 0 < n by omega)
    generalize x % n = r at r1 hV ⊢
    have r2 := mu_b (show (0 : Int) ≤ (r : Int) by omega) (show (r : Int) ≤ 1099 by omega) hd0.1 hd0.2
    refine lv_istore C.1 C.2.1 dX0_signatureFrom_27 hl (by decide) rfl (fun ls hl => ?_)
    have hl : lv_has ls 6 [(4, .int (ii (r : Int))), (0, .ref h0), (1, .int (ii k)), (2, .int (ii e)), (3, .int (ii d))] := hl
    refine lv_iload_n C.1 C.2.1 dX0_signatureFrom_29 rfl (lv_at hl 3 rfl) ?_
    refine lv_iload C.1 C.2.1 dX0_signatureFrom_30 (lv_at hl 0 rfl) ?_
    refine lv_iload_n C.1 C.2.1 dX0_signatureFrom_32 rfl (lv_at hl 4 rfl) ?_
    refine i_mul C dX0_signatureFrom_33 ?_
    refine i_add C dX0_signatureFrom_34 ?_
    refine lv_iload_n C.1 C.2.1 dX0_signatureFrom_35 rfl (lv_at hl 2 rfl) ?_
    refine lv_aload_n C.1 C.2.1 dX0_signatureFrom_36 rfl (lv_at hl 1 rfl) ?_
    refine gf C hK hP 0 rfl rfl aw_uX0 3 (by decide) aw_f_X0_21 rfl dX0_signatureFrom_37 ?_
    have r3 := qtF_b (e + (r : Int) * d) k (show 0 < n by omega)
    refine ca_SN (As := [.int (ii (e + ((r : Int) * d))), .int (ii k), .int (ii (n : Int))]) (rest := []) C (c_X1_quotient l (e + (r : Int) * d) k n ⟨by omega, by omega⟩ hk0 ⟨by omega, by omega⟩) hN (pcn_pre _ hN) aw_b_X1_quotient nw_X0_60 aw_s_X1_quotient aw_i_X1 ⟨rfl, rfl⟩ 3 (by decide +kernel) rfl ⟨by decide, by decide⟩ hl.1 rfl (Nat.le_of_ble_eq_true rfl) dX0_signatureFrom_40 ⟨by decide, by decide⟩ ?_
    refine i_top (b := qtF (e + (r : Int) * d) k n) rfl ?_
    generalize qtF (e + (r : Int) * d) k n = s at r3 hV ⊢
    refine lv_istore C.1 C.2.1 dX0_signatureFrom_43 hl (by decide) rfl (fun ls hl => ?_)
    have hl : lv_has ls 6 [(5, .int (ii s)), (4, .int (ii (r : Int))), (0, .ref h0), (1, .int (ii k)), (2, .int (ii e)), (3, .int (ii d))] := hl
    refine lv_iload C.1 C.2.1 dX0_signatureFrom_45 (lv_at hl 1 rfl) ?_
    refine i_if_eq (tgt := 55) C dX0_signatureFrom_47 (by decide) ⟨by omega, by omega⟩ (fun h2 => ?_) (fun h2 => ?_)
    · rw [if_pos (show (r : Int) = 0 by omega)] at hV
      refine l_const0 C dX0_signatureFrom_55 ?_
      refine lv_goto (tgt := 70) C.1 C.2.1 dX0_signatureFrom_56 (by decide) ?_
      exact rt_l C hr hk dX0_signatureFrom_70 (by rw [← hV])
    · rw [if_neg (show ¬ (r : Int) = 0 by omega)] at hV
      refine lv_iload C.1 C.2.1 dX0_signatureFrom_50 (lv_at hl 0 rfl) ?_
      refine i_if_ne (tgt := 59) C dX0_signatureFrom_52 (by decide) ⟨by omega, by omega⟩ (fun h3 => ?_) (fun h3 => ?_)
      · rw [if_neg h3] at hV
        refine lv_iload C.1 C.2.1 dX0_signatureFrom_59 (lv_at hl 1 rfl) ?_
        refine l_i2l C dX0_signatureFrom_61 ⟨by omega, by omega⟩ ?_
        refine l_ldc2 (n := 65536) C dX0_signatureFrom_62 aw_k_X0_92 (by decide +kernel) ?_
        refine l_mul C dX0_signatureFrom_65 ?_
        refine lv_iload C.1 C.2.1 dX0_signatureFrom_66 (lv_at hl 0 rfl) ?_
        refine l_i2l C dX0_signatureFrom_68 ⟨by omega, by omega⟩ ?_
        refine l_add C dX0_signatureFrom_69 ?_
        exact rt_l C hr hk dX0_signatureFrom_70 (by rw [← hV])
      · rw [if_pos (Classical.not_not.mp h3)] at hV
        refine l_const0 C dX0_signatureFrom_55 ?_
        refine lv_goto (tgt := 70) C.1 C.2.1 dX0_signatureFrom_56 (by decide) ?_
        exact rt_l C hr hk dX0_signatureFrom_70 (by rw [← hV])
  · rw [if_pos (show j = 0 by omega)] at hV
    refine l_const0 C dX0_signatureFrom_8 ?_
    exact rt_l C hr hk dX0_signatureFrom_9 (by rw [← hV])
def fiF (p a n : Nat) (G P : Option (Nat × Nat)) (z r s : Int) : Int :=
  if ecd P = -1 then 0 else if unF n r = 0 then 0 else if unF n s = 0 then 0 else
    if ecd (plF p a (muF p a 11 none G (z % (n : Int) * (pwF n 11 1 s.toNat (n - 2) : Nat) % (n : Int) % (n : Int)).toNat) (muF p a 11 none P (r * (pwF n 11 1 s.toNat (n - 2) : Nat) % (n : Int) % (n : Int)).toNat)) = -1 then 0
    else if ((((plF p a (muF p a 11 none G (z % (n : Int) * (pwF n 11 1 s.toNat (n - 2) : Nat) % (n : Int) % (n : Int)).toNat) (muF p a 11 none P (r * (pwF n 11 1 s.toNat (n - 2) : Nat) % (n : Int) % (n : Int)).toNat)).getD (0, 0)).1 % n : Nat) : Int) = r then 1 else 0
theorem unF_1 {n : Nat} {k : Int} (h : unF n k ≠ 0) : 1 ≤ k ∧ k < n := by
  unfold unF at h
  split at h
  · exact absurd rfl h
  · split at h
    · exact absurd rfl h
    · omega
set_option maxRecDepth 100000 in
set_option maxHeartbeats 4000000 in
theorem c_X0_fits (l : Launch) (D : va_G) (h0 p a b n : Nat) (G : Option (Nat × Nat)) (hp : 5 ≤ p ∧ p ≤ 1021) (ha : a < p) (hb : b < p) (hn : 2 ≤ n ∧ n ≤ 1100) (hG : sm2 p G) (P : Option (Nat × Nat)) (hP0 : sm2 p P) (z r s : Int) (hz : rl z) (hr0 : rg r) (hs0 : rg s) : Met l yX0_fits (Cond.code yX0_fits cX0_fits 9 (some .boolean) :: AW) ({ frames := 5, cells := 0, slots := 0, locals := 130 } : Room) (PcW D [(h0, .inr (0, [.int (ii (p : Int)), .int (ii (a : Int)), .int (ii (b : Int)), .int (ii (n : Int)), .int (ii (ecd G))]))] [] [.ref h0, .int (ii (ecd P)), .long (li z), .int (ii r), .int (ii s)]) (QcV (some (.int (ii (fiF p a n G P z r s))))) 0 0 (fun _ => False) := by
  refine mt_W (by decide +kernel) (Nat.le_of_ble_eq_true rfl) ?_
  intro P0 E0 S0 M0 A0 B0 T0 K0 C hN hP hK hr hk ls hl
  have hl : lv_has ls 9 [(0, .ref h0), (1, .int (ii (ecd P))), (2, .long (li z)), (4, .int (ii r)), (5, .int (ii s))] := hl
  generalize hV : fiF p a n G P z r s = V
  unfold fiF at hV
  have bP := ecd_b hp.2 hP0
  have u1 := unF_b n r
  have u2 := unF_b n s
  have u3 := unF_1 (n := n) (k := r)
  have u4 := unF_1 (n := n) (k := s)
  refine lv_iload_n C.1 C.2.1 dX0_fits_0 rfl (lv_at hl 1 rfl) ?_
  refine i_const C dX0_fits_1 ?_
  refine i_icmp_eq (tgt := 23) C dX0_fits_2 (by decide) ⟨by omega, by omega⟩ ⟨by omega, by omega⟩ (fun h1 => ?_) (fun h1 => ?_)
  · rw [if_pos h1] at hV
    refine i_const C dX0_fits_23 ?_
    subst hV
    exact rt_z C hr hk dX0_fits_24 (Or.inl rfl) rfl
  · rw [if_neg h1] at hV
    refine lv_aload_n C.1 C.2.1 dX0_fits_5 rfl (lv_at hl 0 rfl) ?_
    refine lv_iload C.1 C.2.1 dX0_fits_6 (lv_at hl 3 rfl) ?_
    refine ca_V (As := [.int (ii r)]) (rest := []) C (c_X0_isUnit l D h0 p a b n (ecd G) (by omega) r hr0) (pcw_preV [.int (ii r)] hN hP hK 0 (ci := 0) rfl rfl) aw_b_X0_isUnit aw_m_X0_85 aw_v_X0_isUnit aw_i_X0 aw_e_X0_isUnit ⟨rfl, rfl⟩ 1 (by decide +kernel) rfl ⟨by decide, by decide⟩ hl.1 rfl (Nat.le_of_ble_eq_true rfl) dX0_fits_8 ⟨by decide, by decide⟩ ?_
    generalize unF n r = j1 at u1 u3 hV ⊢
    refine i_if_eq (tgt := 23) C dX0_fits_11 (by decide) ⟨by omega, by omega⟩ (fun h2 => ?_) (fun h2 => ?_)
    · rw [if_pos h2] at hV
      refine i_const C dX0_fits_23 ?_
      subst hV
      exact rt_z C hr hk dX0_fits_24 (Or.inl rfl) rfl
    · rw [if_neg h2] at hV
      have u3 := u3 h2
      refine lv_aload_n C.1 C.2.1 dX0_fits_14 rfl (lv_at hl 0 rfl) ?_
      refine lv_iload C.1 C.2.1 dX0_fits_15 (lv_at hl 4 rfl) ?_
      refine ca_V (As := [.int (ii s)]) (rest := []) C (c_X0_isUnit l D h0 p a b n (ecd G) (by omega) s hs0) (pcw_preV [.int (ii s)] hN hP hK 0 (ci := 0) rfl rfl) aw_b_X0_isUnit aw_m_X0_85 aw_v_X0_isUnit aw_i_X0 aw_e_X0_isUnit ⟨rfl, rfl⟩ 1 (by decide +kernel) rfl ⟨by decide, by decide⟩ hl.1 rfl (Nat.le_of_ble_eq_true rfl) dX0_fits_17 ⟨by decide, by decide⟩ ?_
      generalize unF n s = j2 at u2 u4 hV ⊢
      refine i_if_ne (tgt := 25) C dX0_fits_20 (by decide) ⟨by omega, by omega⟩ (fun h3 => ?_) (fun h3 => ?_)
      · rw [if_neg h3] at hV
        have u4 := u4 h3
        refine lv_iload C.1 C.2.1 dX0_fits_25 (lv_at hl 4 rfl) ?_
        refine i_top (b := ((s.toNat : Nat) : Int)) (by omega) ?_
        refine lv_aload_n C.1 C.2.1 dX0_fits_27 rfl (lv_at hl 0 rfl) ?_
        refine gf C hK hP 0 rfl rfl aw_uX0 3 (by decide) aw_f_X0_21 rfl dX0_fits_28 ?_
        refine ca_SN (As := [.int (ii ((s.toNat : Nat) : Int)), .int (ii (n : Int))]) (rest := []) C (c_X1_inverse l s.toNat n (by omega) (by omega)) hN (pcn_pre _ hN) aw_b_X1_inverse nw_X0_94 aw_s_X1_inverse aw_i_X1 ⟨rfl, rfl⟩ 2 (by decide +kernel) rfl ⟨by decide, by decide⟩ hl.1 rfl (Nat.le_of_ble_eq_true rfl) dX0_fits_31 ⟨by decide, by decide⟩ ?_
        have v1 := pwF_lt (q := n) (by omega) 11 1 s.toNat (n - 2) (by omega) (by omega)
        generalize pwF n 11 1 s.toNat (n - 2) = t at v1 hV ⊢
        have v2 := em_b z (show (0 : Int) < n by omega)
        refine lv_istore C.1 C.2.1 dX0_fits_34 hl (by decide) rfl (fun ls hl => ?_)
        have hl : lv_has ls 9 [(6, .int (ii (t : Int))), (0, .ref h0), (1, .int (ii (ecd P))), (2, .long (li z)), (4, .int (ii r)), (5, .int (ii s))] := hl
        refine lv_aload_n C.1 C.2.1 dX0_fits_36 rfl (lv_at hl 1 rfl) ?_
        refine lv_aload_n C.1 C.2.1 dX0_fits_37 rfl (lv_at hl 1 rfl) ?_
        refine lv_lload_n C.1 C.2.1 dX0_fits_38 rfl (lv_at hl 3 rfl) ?_
        refine ca_V (As := [.long (li z)]) (rest := [.ref h0]) C (c_X0_messageResidue l D h0 p a b n (ecd G) (by omega) z hz) (pcw_preV [.long (li z)] hN hP hK 0 (ci := 0) rfl rfl) aw_b_X0_messageResidue aw_m_X0_97 aw_v_X0_messageResidue aw_i_X0 aw_e_X0_messageResidue ⟨rfl, rfl⟩ 1 (by decide +kernel) rfl ⟨by decide, by decide⟩ hl.1 rfl (Nat.le_of_ble_eq_true rfl) dX0_fits_39 ⟨by decide, by decide⟩ ?_
        have v3 := mu_b v2.1 (show z % (n : Int) ≤ 1099 by omega) (show (0 : Int) ≤ (t : Int) by omega) (show (t : Int) ≤ 1099 by omega)
        have v4 := mu_b (show 0 ≤ r by omega) (show r ≤ 1099 by omega) (show (0 : Int) ≤ (t : Int) by omega) (show (t : Int) ≤ 1099 by omega)
        have v5 := em_b (z % (n : Int) * (t : Int)) (show (0 : Int) < n by omega)
        have v6 := em_b (r * (t : Int)) (show (0 : Int) < n by omega)
        refine lv_iload C.1 C.2.1 dX0_fits_42 (lv_at hl 0 rfl) ?_
        refine i_mul C dX0_fits_44 ?_
        refine lv_aload_n C.1 C.2.1 dX0_fits_45 rfl (lv_at hl 1 rfl) ?_
        refine gf C hK hP 0 rfl rfl aw_uX0 3 (by decide) aw_f_X0_21 rfl dX0_fits_46 ?_
        refine i_rem C dX0_fits_49 ⟨by omega, by omega⟩ ⟨by omega, by omega⟩ ?_
        refine lv_aload_n C.1 C.2.1 dX0_fits_50 rfl (lv_at hl 1 rfl) ?_
        refine gf C hK hP 0 rfl rfl aw_uX0 4 (by decide) aw_f_X0_28 rfl dX0_fits_51 ?_
        refine ca_V (As := [.int (ii (((z % (n : Int)) * (t : Int)) % (n : Int))), .int (ii (ecd G))]) (rest := []) C (c_X0_multiple l D h0 p a b n (ecd G) hp ha hb (by omega) (z % (n : Int) * (t : Int) % (n : Int)) ⟨by omega, by omega⟩ G hG) (pcw_preV [.int (ii (((z % (n : Int)) * (t : Int)) % (n : Int))), .int (ii (ecd G))] hN hP hK 0 (ci := 0) rfl rfl) aw_b_X0_multiple aw_m_X0_89 aw_v_X0_multiple aw_i_X0 aw_e_X0_multiple ⟨rfl, rfl⟩ 2 (by decide +kernel) rfl ⟨by decide, by decide⟩ hl.1 rfl (Nat.le_of_ble_eq_true rfl) dX0_fits_54 ⟨by decide, by decide⟩ ?_
        have w1 := muF_sm (a := a) (show 0 < p by omega) 11 none G (z % (n : Int) * (t : Int) % (n : Int) % (n : Int)).toNat (sm2_none p) hG
        generalize muF p a 11 none G (z % (n : Int) * (t : Int) % (n : Int) % (n : Int)).toNat = A at w1 hV ⊢
        refine lv_istore C.1 C.2.1 dX0_fits_57 hl (by decide) rfl (fun ls hl => ?_)
        have hl : lv_has ls 9 [(7, .int (ii (ecd A))), (6, .int (ii (t : Int))), (0, .ref h0), (1, .int (ii (ecd P))), (2, .long (li z)), (4, .int (ii r)), (5, .int (ii s))] := hl
        refine lv_aload_n C.1 C.2.1 dX0_fits_59 rfl (lv_at hl 2 rfl) ?_
        refine lv_iload C.1 C.2.1 dX0_fits_60 (lv_at hl 0 rfl) ?_
        refine lv_aload_n C.1 C.2.1 dX0_fits_62 rfl (lv_at hl 2 rfl) ?_
        refine lv_iload C.1 C.2.1 dX0_fits_63 (lv_at hl 5 rfl) ?_
        refine lv_iload C.1 C.2.1 dX0_fits_65 (lv_at hl 1 rfl) ?_
        refine i_mul C dX0_fits_67 ?_
        refine lv_aload_n C.1 C.2.1 dX0_fits_68 rfl (lv_at hl 2 rfl) ?_
        refine gf C hK hP 0 rfl rfl aw_uX0 3 (by decide) aw_f_X0_21 rfl dX0_fits_69 ?_
        refine i_rem C dX0_fits_72 ⟨by omega, by omega⟩ ⟨by omega, by omega⟩ ?_
        refine lv_iload_n C.1 C.2.1 dX0_fits_73 rfl (lv_at hl 3 rfl) ?_
        refine ca_V (As := [.int (ii ((r * (t : Int)) % (n : Int))), .int (ii (ecd P))]) (rest := [.int (ii (ecd A)), .ref h0]) C (c_X0_multiple l D h0 p a b n (ecd G) hp ha hb (by omega) (r * (t : Int) % (n : Int)) ⟨by omega, by omega⟩ P hP0) (pcw_preV [.int (ii ((r * (t : Int)) % (n : Int))), .int (ii (ecd P))] hN hP hK 0 (ci := 0) rfl rfl) aw_b_X0_multiple aw_m_X0_89 aw_v_X0_multiple aw_i_X0 aw_e_X0_multiple ⟨rfl, rfl⟩ 2 (by decide +kernel) rfl ⟨by decide, by decide⟩ hl.1 rfl (Nat.le_of_ble_eq_true rfl) dX0_fits_74 ⟨by decide, by decide⟩ ?_
        have w2 := muF_sm (a := a) (show 0 < p by omega) 11 none P (r * (t : Int) % (n : Int) % (n : Int)).toNat (sm2_none p) hP0
        generalize muF p a 11 none P (r * (t : Int) % (n : Int) % (n : Int)).toNat = B at w2 hV ⊢
        refine ca_V (As := [.int (ii (ecd A)), .int (ii (ecd B))]) (rest := []) C (c_X0_plus l D h0 p a b n (ecd G) hp ha hb A B w1 w2) (pcw_preV [.int (ii (ecd A)), .int (ii (ecd B))] hN hP hK 0 (ci := 0) rfl rfl) aw_b_X0_plus aw_m_X0_63 aw_v_X0_plus aw_i_X0 aw_e_X0_plus ⟨rfl, rfl⟩ 2 (by decide +kernel) rfl ⟨by decide, by decide⟩ hl.1 rfl (Nat.le_of_ble_eq_true rfl) dX0_fits_77 ⟨by decide, by decide⟩ ?_
        have w3 := plF_sm (a := a) (show 0 < p by omega) w1 w2
        generalize plF p a A B = F at w3 hV ⊢
        have w4 := ecd_b hp.2 w3
        refine lv_istore C.1 C.2.1 dX0_fits_80 hl (by decide) rfl (fun ls hl => ?_)
        have hl : lv_has ls 9 [(8, .int (ii (ecd F))), (7, .int (ii (ecd A))), (6, .int (ii (t : Int))), (0, .ref h0), (1, .int (ii (ecd P))), (2, .long (li z)), (4, .int (ii r)), (5, .int (ii s))] := hl
        refine lv_iload C.1 C.2.1 dX0_fits_82 (lv_at hl 0 rfl) ?_
        refine i_const C dX0_fits_84 ?_
        refine i_icmp_eq (tgt := 107) C dX0_fits_85 (by decide) ⟨by omega, by omega⟩ ⟨by omega, by omega⟩ (fun h4 => ?_) (fun h4 => ?_)
        · rw [if_pos h4] at hV
          refine i_const C dX0_fits_107 ?_
          subst hV
          exact rt_z C hr hk dX0_fits_108 (Or.inl rfl) rfl
        · rw [if_neg h4] at hV
          rcases F with _ | ⟨x, y⟩
          · exact absurd rfl h4
          · obtain ⟨x0, y0⟩ := w3 x y rfl
            have hl : lv_has ls 9 [(8, .int (ii ((x : Int) * 65536 + (y : Int)))), (7, .int (ii (ecd A))), (6, .int (ii (t : Int))), (0, .ref h0), (1, .int (ii (ecd P))), (2, .long (li z)), (4, .int (ii r)), (5, .int (ii s))] := hl
            have hV : (if ((x % n : Nat) : Int) = r then (1 : Int) else 0) = V := hV
            have x1 := Nat.mod_lt x (show 0 < n by omega)
            refine lv_iload C.1 C.2.1 dX0_fits_88 (lv_at hl 0 rfl) ?_
            refine ca_SN (As := [.int (ii ((x : Int) * 65536 + (y : Int)))]) (rest := []) C (c_X1_xOf l (x : Int) (y : Int) ⟨by omega, by omega⟩ ⟨by omega, by omega⟩) hN (pcn_pre _ hN) aw_b_X1_xOf nw_X0_48 aw_s_X1_xOf aw_i_X1 ⟨rfl, rfl⟩ 1 (by decide +kernel) rfl ⟨by decide, by decide⟩ hl.1 rfl (Nat.le_of_ble_eq_true rfl) dX0_fits_90 ⟨by decide, by decide⟩ ?_
            refine lv_aload_n C.1 C.2.1 dX0_fits_93 rfl (lv_at hl 3 rfl) ?_
            refine gf C hK hP 0 rfl rfl aw_uX0 3 (by decide) aw_f_X0_21 rfl dX0_fits_94 ?_
            refine i_rem C dX0_fits_97 ⟨by omega, by omega⟩ ⟨by omega, by omega⟩ ?_
            refine i_top (b := ((x % n : Nat) : Int)) rfl ?_
            refine lv_iload C.1 C.2.1 dX0_fits_98 (lv_at hl 6 rfl) ?_
            refine i_icmp_ne (tgt := 107) C dX0_fits_100 (by decide) ⟨by omega, by omega⟩ ⟨by omega, by omega⟩ (fun h5 => ?_) (fun h5 => ?_)
            · rw [if_neg h5] at hV
              refine i_const C dX0_fits_107 ?_
              subst hV
              exact rt_z C hr hk dX0_fits_108 (Or.inl rfl) rfl
            · rw [if_pos (Classical.not_not.mp h5)] at hV
              refine i_const C dX0_fits_103 ?_
              refine lv_goto (tgt := 108) C.1 C.2.1 dX0_fits_104 (by decide) ?_
              subst hV
              exact rt_z C hr hk dX0_fits_108 (Or.inr rfl) rfl
      · rw [if_pos (Classical.not_not.mp h3)] at hV
        refine i_const C dX0_fits_23 ?_
        subst hV
        exact rt_z C hr hk dX0_fits_24 (Or.inl rfl) rfl
