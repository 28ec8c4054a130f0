/-! The class: x, y, code, verify, accepts. By wip/whole/tools/gen8.py. -/
def pxF (P : Option (Nat × Nat)) : Int := match P with
  | none => -1
  | some q => (q.1 : Int)
def pyF (P : Option (Nat × Nat)) : Int := match P with
  | none => -1
  | some q => (q.2 : Int)
def cdF (P : Option (Nat × Nat)) (b : Bool) : Int := match P with
  | none => 0
  | some q => if b then (2 + (q.2 : Int) % 2) * 65536 + (q.1 : Int) else 17179869184 + ((q.1 : Int) * 65536 + (q.2 : Int))
theorem fiF_b (p a n : Nat) (G P : Option (Nat × Nat)) (z r s : Int) : fiF p a n G P z r s = 0 ∨ fiF p a n G P z r s = 1 := by
  unfold fiF
  repeat' split
  all_goals first | exact Or.inl rfl | exact Or.inr rfl
/-- a point out of its int -/
def ofC (k : Int) : Option (Nat × Nat) := if k < 0 then none else some ((k / 65536).toNat, (k % 65536).toNat)
theorem ofC_of {x y : Nat} (hy : y < 65536) : ofC ((x : Int) * 65536 + y) = some (x, y) := by
  unfold ofC
  rw [if_neg (by omega)]
  have e1 : (((x : Int) * 65536 + y) / 65536).toNat = x := by omega
  have e2 : (((x : Int) * 65536 + y) % 65536).toNat = y := by omega
  rw [e1, e2]
theorem lrF_hit {p v : Nat} : ∀ (f y : Nat), lrF p v f y ≠ -1 → ∃ t : Nat, lrF p v f y = t ∧ t * t % p = v
  | 0, _, h => absurd rfl h
  | f + 1, y, h => by
    rw [lrF_s] at h ⊢
    split at h
    · exact absurd rfl h
    · rw [if_neg (by assumption)]
      split at h
      · rw [if_pos (by assumption)]
        exact ⟨y, rfl, by assumption⟩
      · rw [if_neg (by assumption)]
        exact lrF_hit f (y + 1) h
/-- what was read is a point of the curve, or nothing -/
theorem pbF_pt {p a b : Nat} (hp : 5 ≤ p ∧ p ≤ 1021) (h0 : ∀ x, x < p → cub p a b x ≠ 0) (k z : Int) (h : pbF p a b k z ≠ -2) : ecd (ofC (pbF p a b k z)) = pbF p a b k z ∧ sm2 p (ofC (pbF p a b k z)) := by
  have fin : ∀ x y : Nat, x < p → y < p → ∀ v : Int, v = (x : Int) * 65536 + y → ecd (ofC v) = v ∧ sm2 p (ofC v) := by
    intro x y hx hy v hv
    subst hv
    rw [ofC_of (by omega)]
    exact ⟨rfl, fun u w e => by cases e; exact ⟨hx, hy⟩⟩
  unfold pbF at h ⊢
  split at h
  · rw [if_pos (by assumption)]
    split at h
    · rw [if_pos (by assumption)]
      exact ⟨rfl, sm2_none p⟩
    · exact absurd rfl h
  · rw [if_neg (by assumption)]
    split at h
    · rw [if_pos (by assumption)]
      unfold psF at h ⊢
      obtain ⟨x, hx⟩ := Int.eq_ofNat_of_zero_le (show 0 ≤ z % 65536 by omega)
      rw [hx, Int.toNat_natCast] at h ⊢
      split at h
      · rw [if_pos (by assumption)]
        split at h
        · rename_i hxp
          rw [if_pos hxp]
          split at h
          · exact absurd rfl h
          · rename_i hl
            rw [if_neg hl]
            obtain ⟨t, e, ht⟩ := lrF_hit 1100 0 hl
            have b1 := lrF_b (p := p) (cub p a b x) 1100 0
            have t0 : t ≠ 0 := by
              intro z0
              subst z0
              exact h0 x (by omega) (by rw [← ht]; simp)
            rw [e] at b1 ⊢
            split
            · exact fin x t (by omega) (by omega) _ rfl
            · refine fin x (p - t) (by omega) (by omega) _ ?_
              omega
        · exact absurd rfl h
      · exact absurd rfl h
    · rw [if_neg (by assumption)]
      split at h
      · rw [if_pos (by assumption)]
        unfold ppF at h ⊢
        split at h
        · rw [if_pos (by assumption)]
          split at h
          · exact absurd rfl h
          · rename_i hh
            rw [if_neg hh]
            unfold hoF at hh
            have q1 : z / 65536 % 65536 < p ∧ z % 65536 < p := by
              split at hh
              · exact absurd rfl hh
              · split at hh
                · exact absurd rfl hh
                · split at hh
                  · exact absurd rfl hh
                  · split at hh
                    · exact absurd rfl hh
                    · omega
            refine fin (z / 65536 % 65536).toNat (z % 65536).toNat (by omega) (by omega) _ ?_
            omega
        · exact absurd rfl h
      · exact absurd rfl h
set_option maxRecDepth 100000 in
set_option maxHeartbeats 4000000 in
theorem c_X1_x (l : Launch) (hL : l.stackTraces = false) (D : va_G) (z0 : Nat) (hx hr0 hq0 : Nat) (tk : Value) (sec dr : Int) (cI : ClassId) (P : Nat → Option (Nat × Nat)) (hPs : ∀ j, sm2 1021 (P j)) (r : Int) (hr1 : rg r) : vx_Met l yX1_x (Cond.code yX1_x cX1_x 2 (some .int) :: AW) ({ frames := 7, cells := 1, slots := 6, locals := 130 } : Room) (PcX D z0 [(hx, .inr (1, [.ref hr0, .ref hq0, tk, .int (ii sec), .int (ii dr)])), (hr0, .inl (cI, 4, .inl (fun j => ii (ecd (P j)))))] [(cI, .int)] [.ref hx, .int (ii r)]) (QcP (some (.int (ii (pxF (P r.toNat))))) (okr r)) (XcP "java/lang/IndexOutOfBoundsException" (¬ okr r)) 1 6 (fun _ => False) := by
  refine mt_X (by decide +kernel) (Nat.le_of_ble_eq_true rfl) ?_
  intro P0 E0 S0 M0 A0 B0 T0 K0 C hN hZ hP hK hr hk hex ls hl
  have hl : lv_has ls 2 [(0, .ref hx), (1, .int (ii r))] := hl
  refine lv_iload_n C.1 C.2.1 dX1_x_0 rfl (lv_at hl 1 rfl) ?_
  refine cx_S (As := [.int (ii r)]) (rest := []) C (c_check l hL D z0 r hr1) (pcx_pre _ hN hZ (hP.sub (ws' := []) [] rfl) (hK.sub (tys' := []) [] rfl)) aw_b_X1_checkRegister aw_m_X1_66 aw_s_X1_checkRegister aw_i_X1 ⟨rfl, rfl⟩ 1 (by decide +kernel) rfl ⟨by decide, by decide⟩ hl.1 rfl (Nat.le_of_ble_eq_true rfl) dX1_x_1 ⟨by decide, by decide⟩ (fun hw H1 q9 ce z1 z2 z3 z4 z5 => ?_) (fun ho => ?_)
  · exact ox_P hex hk z3 z4 z5 rfl hw z1 z2 (fun q h => by cases h) (by decide) (by decide)
  unfold okr at ho
  have bP := ecd_b (Nat.le_refl 1021) (hPs r.toNat)
  refine lv_aload_n C.1 C.2.1 dX1_x_4 rfl (lv_at hl 0 rfl) ?_
  refine gf C hK hP 0 rfl rfl aw_uX1 0 (by decide) aw_f_X1_9 rfl dX1_x_5 ?_
  refine lv_iload_n C.1 C.2.1 dX1_x_8 rfl (lv_at hl 1 rfl) ?_
  refine i_ald C hK hP 1 0 rfl rfl r.toNat (by omega) (by omega) (by omega) dX1_x_9 ?_
  refine i_const C dX1_x_10 ?_
  refine i_icmp_ne (tgt := 18) C dX1_x_11 (by decide) ⟨by omega, by omega⟩ ⟨by omega, by omega⟩ (fun h1 => ?_) (fun h1 => ?_)
  · refine lv_aload_n C.1 C.2.1 dX1_x_18 rfl (lv_at hl 0 rfl) ?_
    refine gf C hK hP 0 rfl rfl aw_uX1 0 (by decide) aw_f_X1_9 rfl dX1_x_19 ?_
    refine lv_iload_n C.1 C.2.1 dX1_x_22 rfl (lv_at hl 1 rfl) ?_
    refine i_ald C hK hP 1 0 rfl rfl r.toNat (by omega) (by omega) (by omega) dX1_x_23 ?_
    rcases hq : P r.toNat with _ | ⟨x, y⟩
    · rw [hq] at h1
      exact absurd rfl h1
    · obtain ⟨x0, y0⟩ := hPs r.toNat x y hq
      refine ca_S (As := [.int (ii ((x : Int) * 65536 + (y : Int)))]) (rest := []) C (c_X1_xOf l (x : Int) (y : Int) ⟨by omega, by omega⟩ ⟨by omega, by omega⟩) (pcn_pre _ hN) aw_b_X1_xOf aw_m_X1_89 aw_s_X1_xOf aw_i_X1 ⟨rfl, rfl⟩ 1 (by decide +kernel) rfl ⟨by decide, by decide⟩ hl.1 rfl (Nat.le_of_ble_eq_true rfl) dX1_x_24 ⟨by decide, by decide⟩ ?_
      exact px_i C hr hk ho dX1_x_27 rfl (by decide) (by decide)
  · have hq : P r.toNat = none := by
      rcases hq : P r.toNat with _ | ⟨x, y⟩
      · rfl
      · rw [hq] at h1
        have h1 := Classical.not_not.mp h1
        have h1 : (x : Int) * 65536 + (y : Int) = -1 := h1
        omega
    rw [hq]
    refine i_const C dX1_x_14 ?_
    refine lv_goto (tgt := 27) C.1 C.2.1 dX1_x_15 (by decide) ?_
    exact px_i C hr hk ho dX1_x_27 rfl (by decide) (by decide)
set_option maxRecDepth 100000 in
set_option maxHeartbeats 4000000 in
theorem c_X1_y (l : Launch) (hL : l.stackTraces = false) (D : va_G) (z0 : Nat) (hx hr0 hq0 : Nat) (tk : Value) (sec dr : Int) (cI : ClassId) (P : Nat → Option (Nat × Nat)) (hPs : ∀ j, sm2 1021 (P j)) (r : Int) (hr1 : rg r) : vx_Met l yX1_y (Cond.code yX1_y cX1_y 2 (some .int) :: AW) ({ frames := 7, cells := 1, slots := 6, locals := 130 } : Room) (PcX D z0 [(hx, .inr (1, [.ref hr0, .ref hq0, tk, .int (ii sec), .int (ii dr)])), (hr0, .inl (cI, 4, .inl (fun j => ii (ecd (P j)))))] [(cI, .int)] [.ref hx, .int (ii r)]) (QcP (some (.int (ii (pyF (P r.toNat))))) (okr r)) (XcP "java/lang/IndexOutOfBoundsException" (¬ okr r)) 1 6 (fun _ => False) := by
  refine mt_X (by decide +kernel) (Nat.le_of_ble_eq_true rfl) ?_
  intro P0 E0 S0 M0 A0 B0 T0 K0 C hN hZ hP hK hr hk hex ls hl
  have hl : lv_has ls 2 [(0, .ref hx), (1, .int (ii r))] := hl
  refine lv_iload_n C.1 C.2.1 dX1_y_0 rfl (lv_at hl 1 rfl) ?_
  refine cx_S (As := [.int (ii r)]) (rest := []) C (c_check l hL D z0 r hr1) (pcx_pre _ hN hZ (hP.sub (ws' := []) [] rfl) (hK.sub (tys' := []) [] rfl)) aw_b_X1_checkRegister aw_m_X1_66 aw_s_X1_checkRegister aw_i_X1 ⟨rfl, rfl⟩ 1 (by decide +kernel) rfl ⟨by decide, by decide⟩ hl.1 rfl (Nat.le_of_ble_eq_true rfl) dX1_y_1 ⟨by decide, by decide⟩ (fun hw H1 q9 ce z1 z2 z3 z4 z5 => ?_) (fun ho => ?_)
  · exact ox_P hex hk z3 z4 z5 rfl hw z1 z2 (fun q h => by cases h) (by decide) (by decide)
  unfold okr at ho
  have bP := ecd_b (Nat.le_refl 1021) (hPs r.toNat)
  refine lv_aload_n C.1 C.2.1 dX1_y_4 rfl (lv_at hl 0 rfl) ?_
  refine gf C hK hP 0 rfl rfl aw_uX1 0 (by decide) aw_f_X1_9 rfl dX1_y_5 ?_
  refine lv_iload_n C.1 C.2.1 dX1_y_8 rfl (lv_at hl 1 rfl) ?_
  refine i_ald C hK hP 1 0 rfl rfl r.toNat (by omega) (by omega) (by omega) dX1_y_9 ?_
  refine i_const C dX1_y_10 ?_
  refine i_icmp_ne (tgt := 18) C dX1_y_11 (by decide) ⟨by omega, by omega⟩ ⟨by omega, by omega⟩ (fun h1 => ?_) (fun h1 => ?_)
  · refine lv_aload_n C.1 C.2.1 dX1_y_18 rfl (lv_at hl 0 rfl) ?_
    refine gf C hK hP 0 rfl rfl aw_uX1 0 (by decide) aw_f_X1_9 rfl dX1_y_19 ?_
    refine lv_iload_n C.1 C.2.1 dX1_y_22 rfl (lv_at hl 1 rfl) ?_
    refine i_ald C hK hP 1 0 rfl rfl r.toNat (by omega) (by omega) (by omega) dX1_y_23 ?_
    rcases hq : P r.toNat with _ | ⟨x, y⟩
    · rw [hq] at h1
      exact absurd rfl h1
    · obtain ⟨x0, y0⟩ := hPs r.toNat x y hq
      refine ca_S (As := [.int (ii ((x : Int) * 65536 + (y : Int)))]) (rest := []) C (c_X1_yOf l (x : Int) (y : Int) ⟨by omega, by omega⟩ ⟨by omega, by omega⟩) (pcn_pre _ hN) aw_b_X1_yOf aw_m_X1_93 aw_s_X1_yOf aw_i_X1 ⟨rfl, rfl⟩ 1 (by decide +kernel) rfl ⟨by decide, by decide⟩ hl.1 rfl (Nat.le_of_ble_eq_true rfl) dX1_y_24 ⟨by decide, by decide⟩ ?_
      exact px_i C hr hk ho dX1_y_27 rfl (by decide) (by decide)
  · have hq : P r.toNat = none := by
      rcases hq : P r.toNat with _ | ⟨x, y⟩
      · rfl
      · rw [hq] at h1
        have h1 := Classical.not_not.mp h1
        have h1 : (x : Int) * 65536 + (y : Int) = -1 := h1
        omega
    rw [hq]
    refine i_const C dX1_y_14 ?_
    refine lv_goto (tgt := 27) C.1 C.2.1 dX1_y_15 (by decide) ?_
    exact px_i C hr hk ho dX1_y_27 rfl (by decide) (by decide)
set_option maxRecDepth 100000 in
set_option maxHeartbeats 4000000 in
theorem c_X1_code (l : Launch) (hL : l.stackTraces = false) (D : va_G) (z0 : Nat) (hx hr0 hq0 : Nat) (tk : Value) (sec dr : Int) (cI : ClassId) (P : Nat → Option (Nat × Nat)) (hPs : ∀ j, sm2 1021 (P j)) (r : Int) (hr1 : rg r) (k : Int) (hk1 : k = 0 ∨ k = 1) : vx_Met l yX1_code (Cond.code yX1_code cX1_code 4 (some .long) :: AW) ({ frames := 7, cells := 1, slots := 6, locals := 130 } : Room) (PcX D z0 [(hx, .inr (1, [.ref hr0, .ref hq0, tk, .int (ii sec), .int (ii dr)])), (hr0, .inl (cI, 4, .inl (fun j => ii (ecd (P j)))))] [(cI, .int)] [.ref hx, .int (ii r), .int (ii k)]) (QcP (some (.long (li (cdF (P r.toNat) (decide (k = 1)))))) (okr r)) (XcP "java/lang/IndexOutOfBoundsException" (¬ okr r)) 1 6 (fun _ => False) := by
  refine mt_X (by decide +kernel) (Nat.le_of_ble_eq_true rfl) ?_
  intro P0 E0 S0 M0 A0 B0 T0 K0 C hN hZ hP hK hr hk hex ls hl
  have hl : lv_has ls 4 [(0, .ref hx), (1, .int (ii r)), (2, .int (ii k))] := hl
  refine lv_iload_n C.1 C.2.1 dX1_code_0 rfl (lv_at hl 1 rfl) ?_
  refine cx_S (As := [.int (ii r)]) (rest := []) C (c_check l hL D z0 r hr1) (pcx_pre _ hN hZ (hP.sub (ws' := []) [] rfl) (hK.sub (tys' := []) [] rfl)) aw_b_X1_checkRegister aw_m_X1_66 aw_s_X1_checkRegister aw_i_X1 ⟨rfl, rfl⟩ 1 (by decide +kernel) rfl ⟨by decide, by decide⟩ hl.1 rfl (Nat.le_of_ble_eq_true rfl) dX1_code_1 ⟨by decide, by decide⟩ (fun hw H1 q9 ce z1 z2 z3 z4 z5 => ?_) (fun ho => ?_)
  · exact ox_P hex hk z3 z4 z5 rfl hw z1 z2 (fun q h => by cases h) (by decide) (by decide)
  unfold okr at ho
  have bP := ecd_b (Nat.le_refl 1021) (hPs r.toNat)
  refine lv_aload_n C.1 C.2.1 dX1_code_4 rfl (lv_at hl 0 rfl) ?_
  refine gf C hK hP 0 rfl rfl aw_uX1 0 (by decide) aw_f_X1_9 rfl dX1_code_5 ?_
  refine lv_iload_n C.1 C.2.1 dX1_code_8 rfl (lv_at hl 1 rfl) ?_
  refine i_ald C hK hP 1 0 rfl rfl r.toNat (by omega) (by omega) (by omega) dX1_code_9 ?_
  refine lv_istore_n C.1 C.2.1 dX1_code_10 rfl hl (by decide) rfl (fun ls hl => ?_)
  have hl : lv_has ls 4 [(3, .int (ii (ecd (P r.toNat)))), (0, .ref hx), (1, .int (ii r)), (2, .int (ii k))] := hl
  refine lv_iload_n C.1 C.2.1 dX1_code_11 rfl (lv_at hl 0 rfl) ?_
  refine i_const C dX1_code_12 ?_
  refine i_icmp_ne (tgt := 18) C dX1_code_13 (by decide) ⟨by omega, by omega⟩ ⟨by omega, by omega⟩ (fun h1 => ?_) (fun h1 => ?_)
  · rcases hq : P r.toNat with _ | ⟨x, y⟩
    · rw [hq] at h1
      exact absurd rfl h1
    · obtain ⟨x0, y0⟩ := hPs r.toNat x y hq
      rw [hq] at hl
      have hl : lv_has ls 4 [(3, .int (ii ((x : Int) * 65536 + (y : Int)))), (0, .ref hx), (1, .int (ii r)), (2, .int (ii k))] := hl
      refine lv_iload_n C.1 C.2.1 dX1_code_18 rfl (lv_at hl 3 rfl) ?_
      refine i_if_eq (tgt := 29) C dX1_code_19 (by decide) ⟨by omega, by omega⟩ (fun h2 => ?_) (fun h2 => ?_)
      · have e : decide (k = 1) = false := by rw [decide_eq_false_iff_not]; omega
        rw [e]
        refine lv_iload_n C.1 C.2.1 dX1_code_29 rfl (lv_at hl 0 rfl) ?_
        refine ca_S (As := [.int (ii ((x : Int) * 65536 + (y : Int)))]) (rest := []) C (c_X1_plainNumber l ((x : Int) * 65536 + (y : Int)) ⟨by omega, by omega⟩) (pcn_pre _ hN) aw_b_X1_plainNumber aw_m_X1_100 aw_s_X1_plainNumber aw_i_X1 ⟨rfl, rfl⟩ 1 (by decide +kernel) rfl ⟨by decide, by decide⟩ hl.1 rfl (Nat.le_of_ble_eq_true rfl) dX1_code_30 ⟨by decide, by decide⟩ ?_
        exact px_l C hr hk ho dX1_code_33 rfl (by decide) (by decide)
      · have e : decide (k = 1) = true := by rw [decide_eq_true_iff]; omega
        rw [e]
        refine lv_iload_n C.1 C.2.1 dX1_code_22 rfl (lv_at hl 0 rfl) ?_
        refine ca_S (As := [.int (ii ((x : Int) * 65536 + (y : Int)))]) (rest := []) C (c_X1_shortNumber l x y x0 y0) (pcn_pre _ hN) aw_b_X1_shortNumber aw_m_X1_96 aw_s_X1_shortNumber aw_i_X1 ⟨rfl, rfl⟩ 1 (by decide +kernel) rfl ⟨by decide, by decide⟩ hl.1 rfl (Nat.le_of_ble_eq_true rfl) dX1_code_23 ⟨by decide, by decide⟩ ?_
        refine lv_goto (tgt := 33) C.1 C.2.1 dX1_code_26 (by decide) ?_
        exact px_l C hr hk ho dX1_code_33 rfl (by decide) (by decide)
  · have hq : P r.toNat = none := by
      rcases hq : P r.toNat with _ | ⟨x, y⟩
      · rfl
      · rw [hq] at h1
        have h1 := Classical.not_not.mp h1
        have h1 : (x : Int) * 65536 + (y : Int) = -1 := h1
        omega
    rw [hq]
    refine l_const0 C dX1_code_16 ?_
    exact px_l C hr hk ho dX1_code_17 rfl (by decide) (by decide)
set_option maxRecDepth 100000 in
set_option maxHeartbeats 4000000 in
theorem c_X1_verify (l : Launch) (hL : l.stackTraces = false) (D : va_G) (z0 : Nat) (hx hr0 hq0 hc : Nat) (sec dr : Int) (cI : ClassId) (P : Nat → Option (Nat × Nat)) (p a b n : Nat) (G : Option (Nat × Nat)) (hp : 5 ≤ p ∧ p ≤ 1021) (ha : a < p) (hb : b < p) (hn : 2 ≤ n ∧ n ≤ 1100) (hG : sm2 p G) (hPs : ∀ j, sm2 p (P j)) (q : Int) (hq1 : rg q) (z r s : Int) (hz : rl z) (hr1 : rg r) (hs1 : rg s) : vx_Met l yX1_verify (Cond.code yX1_verify cX1_verify 7 (some .boolean) :: AW) ({ frames := 7, cells := 1, slots := 6, locals := 160 } : Room) (PcX D z0 [(hx, .inr (1, [.ref hr0, .ref hq0, .ref hc, .int (ii sec), .int (ii dr)])), (hr0, .inl (cI, 4, .inl (fun j => ii (ecd (P j))))), (hc, .inr (0, [.int (ii (p : Int)), .int (ii (a : Int)), .int (ii (b : Int)), .int (ii (n : Int)), .int (ii (ecd G))]))] [(cI, .int)] [.ref hx, .int (ii q), .long (li z), .int (ii r), .int (ii s)]) (QcP (some (.int (ii (fiF p a n G (P q.toNat) z r s)))) (okr q)) (XcP "java/lang/IndexOutOfBoundsException" (¬ okr q)) 1 6 (fun _ => False) := by
  refine mt_X (by decide +kernel) (Nat.le_of_ble_eq_true rfl) ?_
  intro P0 E0 S0 M0 A0 B0 T0 K0 C hN hZ hP hK hr hk hex ls hl
  have hl : lv_has ls 7 [(0, .ref hx), (1, .int (ii q)), (2, .long (li z)), (4, .int (ii r)), (5, .int (ii s))] := hl
  refine lv_aload_n C.1 C.2.1 dX1_verify_0 rfl (lv_at hl 0 rfl) ?_
  refine ca_V (As := []) (rest := []) C (c_taken_c l D hx hr0 hq0 hc sec dr) (pcw_preV [] hN (hP.sub (ws' := [(hx, .inr (1, [.ref hr0, .ref hq0, .ref hc, .int (ii sec), .int (ii dr)]))]) [0] rfl) (hK.sub (tys' := []) [] rfl) 0 (ci := 1) rfl rfl) aw_b_X1_takenCurve aw_m_X1_62 aw_v_X1_takenCurve aw_i_X1 aw_e_X1_takenCurve ⟨rfl, rfl⟩ 0 (by decide +kernel) rfl ⟨by decide, by decide⟩ hl.1 rfl (Nat.le_of_ble_eq_true rfl) dX1_verify_1 ⟨by decide, by decide⟩ ?_
  refine lv_astore C.1 C.2.1 dX1_verify_4 hl (by decide) rfl (fun ls hl => ?_)
  have hl : lv_has ls 7 [(6, .ref hc), (0, .ref hx), (1, .int (ii q)), (2, .long (li z)), (4, .int (ii r)), (5, .int (ii s))] := hl
  refine lv_iload_n C.1 C.2.1 dX1_verify_6 rfl (lv_at hl 2 rfl) ?_
  refine cx_S (As := [.int (ii q)]) (rest := []) C (c_check l hL D z0 q hq1) (pcx_pre _ hN hZ (hP.sub (ws' := []) [] rfl) (hK.sub (tys' := []) [] rfl)) aw_b_X1_checkRegister aw_m_X1_66 aw_s_X1_checkRegister aw_i_X1 ⟨rfl, rfl⟩ 1 (by decide +kernel) rfl ⟨by decide, by decide⟩ hl.1 rfl (Nat.le_of_ble_eq_true rfl) dX1_verify_7 ⟨by decide, by decide⟩ (fun hw H1 q9 ce z1 z2 z3 z4 z5 => ?_) (fun ho => ?_)
  · exact ox_P hex hk z3 z4 z5 rfl hw z1 z2 (fun q h => by cases h) (by decide) (by decide)
  unfold okr at ho
  refine lv_aload C.1 C.2.1 dX1_verify_10 (lv_at hl 0 rfl) ?_
  refine lv_aload_n C.1 C.2.1 dX1_verify_12 rfl (lv_at hl 1 rfl) ?_
  refine gf C hK hP 0 rfl rfl aw_uX1 0 (by decide) aw_f_X1_9 rfl dX1_verify_13 ?_
  refine lv_iload_n C.1 C.2.1 dX1_verify_16 rfl (lv_at hl 2 rfl) ?_
  refine i_ald C hK hP 1 0 rfl rfl q.toNat (by omega) (by omega) (by omega) dX1_verify_17 ?_
  refine lv_lload_n C.1 C.2.1 dX1_verify_18 rfl (lv_at hl 3 rfl) ?_
  refine lv_iload C.1 C.2.1 dX1_verify_19 (lv_at hl 4 rfl) ?_
  refine lv_iload C.1 C.2.1 dX1_verify_21 (lv_at hl 5 rfl) ?_
  refine ca_V (As := [.int (ii (ecd (P q.toNat))), .long (li z), .int (ii r), .int (ii s)]) (rest := []) C (c_X0_fits l D hc p a b n G hp ha hb hn hG (P q.toNat) (hPs q.toNat) z r s hz hr1 hs1) (pcw_preV [.int (ii (ecd (P q.toNat))), .long (li z), .int (ii r), .int (ii s)] hN (hP.sub (ws' := [(hc, .inr (0, [.int (ii (p : Int)), .int (ii (a : Int)), .int (ii (b : Int)), .int (ii (n : Int)), .int (ii (ecd G))]))]) [2] rfl) (hK.sub (tys' := []) [] rfl) 0 (ci := 0) rfl rfl) aw_b_X0_fits aw_m_X1_139 aw_v_X0_fits aw_i_X0 aw_e_X0_fits ⟨rfl, rfl⟩ 4 (by decide +kernel) rfl ⟨by decide, by decide⟩ hl.1 rfl (Nat.le_of_ble_eq_true rfl) dX1_verify_23 ⟨by decide, by decide⟩ ?_
  exact px_z C hr hk ho dX1_verify_26 (fiF_b _ _ _ _ _ _ _ _) rfl (by decide) (by decide)
def acF (p a b n : Nat) (G : Option (Nat × Nat)) (k m z r s : Int) : Int := if pbF p a b k m = -2 then 0 else fiF p a n G (ofC (pbF p a b k m)) z r s
set_option maxRecDepth 100000 in
set_option maxHeartbeats 4000000 in
theorem c_X1_accepts (l : Launch) (hL : l.stackTraces = false) (D : va_G) (z0 : Nat) (hx hr0 hq0 hc : Nat) (sec dr : Int) (cI : ClassId) (P : Nat → Option (Nat × Nat)) (p a b n : Nat) (G : Option (Nat × Nat)) (hp : 5 ≤ p ∧ p ≤ 1021) (ha : a < p) (hb : b < p) (hn : 2 ≤ n ∧ n ≤ 1100) (hG : sm2 p G) (h0 : ∀ x, x < p → cub p a b x ≠ 0) (k m z r s : Int) (hk1 : rg k) (hm : rl m) (hz : rl z) (hr1 : rg r) (hs1 : rg s) : vx_Met l yX1_accepts (Cond.code yX1_accepts cX1_accepts 10 (some .boolean) :: AW) ({ frames := 7, cells := 1, slots := 6, locals := 160 } : Room) (PcX D z0 [(hx, .inr (1, [.ref hr0, .ref hq0, .ref hc, .int (ii sec), .int (ii dr)])), (hr0, .inl (cI, 4, .inl (fun j => ii (ecd (P j))))), (hc, .inr (0, [.int (ii (p : Int)), .int (ii (a : Int)), .int (ii (b : Int)), .int (ii (n : Int)), .int (ii (ecd G))]))] [(cI, .int)] [.ref hx, .int (ii k), .long (li m), .long (li z), .int (ii r), .int (ii s)]) (QcP (some (.int (ii (acF p a b n G k m z r s)))) True) (XcP "java/lang/IllegalStateException" False) 1 6 (fun _ => False) := by
  refine mt_X (by decide +kernel) (Nat.le_of_ble_eq_true rfl) ?_
  intro P0 E0 S0 M0 A0 B0 T0 K0 C hN hZ hP hK hr hk hex ls hl
  have hl : lv_has ls 10 [(0, .ref hx), (1, .int (ii k)), (2, .long (li m)), (4, .long (li z)), (6, .int (ii r)), (7, .int (ii s))] := hl
  generalize hV : acF p a b n G k m z r s = V
  unfold acF at hV
  have pt := pbF_pt hp h0 k m
  refine lv_aload_n C.1 C.2.1 dX1_accepts_0 rfl (lv_at hl 0 rfl) ?_
  refine ca_V (As := []) (rest := []) C (c_taken_c l D hx hr0 hq0 hc sec dr) (pcw_preV [] hN (hP.sub (ws' := [(hx, .inr (1, [.ref hr0, .ref hq0, .ref hc, .int (ii sec), .int (ii dr)]))]) [0] rfl) (hK.sub (tys' := []) [] rfl) 0 (ci := 1) rfl rfl) aw_b_X1_takenCurve aw_m_X1_62 aw_v_X1_takenCurve aw_i_X1 aw_e_X1_takenCurve ⟨rfl, rfl⟩ 0 (by decide +kernel) rfl ⟨by decide, by decide⟩ hl.1 rfl (Nat.le_of_ble_eq_true rfl) dX1_accepts_1 ⟨by decide, by decide⟩ ?_
  refine lv_astore C.1 C.2.1 dX1_accepts_4 hl (by decide) rfl (fun ls hl => ?_)
  have hl : lv_has ls 10 [(8, .ref hc), (0, .ref hx), (1, .int (ii k)), (2, .long (li m)), (4, .long (li z)), (6, .int (ii r)), (7, .int (ii s))] := hl
  refine lv_aload C.1 C.2.1 dX1_accepts_6 (lv_at hl 0 rfl) ?_
  refine lv_iload_n C.1 C.2.1 dX1_accepts_8 rfl (lv_at hl 2 rfl) ?_
  refine lv_lload_n C.1 C.2.1 dX1_accepts_9 rfl (lv_at hl 3 rfl) ?_
  refine ca_V (As := [.int (ii k), .long (li m)]) (rest := []) C (c_X0_pointOfBytes l D hc p a b n (ecd G) hp ha hb k m hk1 hm) (pcw_preV [.int (ii k), .long (li m)] hN (hP.sub (ws' := [(hc, .inr (0, [.int (ii (p : Int)), .int (ii (a : Int)), .int (ii (b : Int)), .int (ii (n : Int)), .int (ii (ecd G))]))]) [2] rfl) (hK.sub (tys' := []) [] rfl) 0 (ci := 0) rfl rfl) aw_b_X0_pointOfBytes aw_m_X1_103 aw_v_X0_pointOfBytes aw_i_X0 aw_e_X0_pointOfBytes ⟨rfl, rfl⟩ 2 (by decide +kernel) rfl ⟨by decide, by decide⟩ hl.1 rfl (Nat.le_of_ble_eq_true rfl) dX1_accepts_10 ⟨by decide, by decide⟩ ?_
  have bd : -2 ≤ pbF p a b k m ∧ pbF p a b k m ≤ 66912255 := by
    by_cases q : pbF p a b k m = -2
    · omega
    · obtain ⟨e1, e2⟩ := pt q
      have := ecd_b hp.2 e2
      omega
  generalize pbF p a b k m = u at pt hV bd ⊢
  refine lv_istore C.1 C.2.1 dX1_accepts_13 hl (by decide) rfl (fun ls hl => ?_)
  have hl : lv_has ls 10 [(9, .int (ii u)), (8, .ref hc), (0, .ref hx), (1, .int (ii k)), (2, .long (li m)), (4, .long (li z)), (6, .int (ii r)), (7, .int (ii s))] := hl
  refine lv_iload C.1 C.2.1 dX1_accepts_15 (lv_at hl 0 rfl) ?_
  refine i_bipush C dX1_accepts_17 (by decide +kernel) ?_
  refine i_icmp_eq (tgt := 42) C dX1_accepts_19 (by decide) ⟨by omega, by omega⟩ ⟨by omega, by omega⟩ (fun h1 => ?_) (fun h1 => ?_)
  · rw [if_pos h1] at hV
    refine i_const C dX1_accepts_42 ?_
    subst hV
    exact px_z C hr hk trivial dX1_accepts_43 (Or.inl rfl) rfl (by decide) (by decide)
  · rw [if_neg h1] at hV
    obtain ⟨e1, e2⟩ := pt h1
    have fb := fiF_b p a n G (ofC u) z r s
    refine lv_aload C.1 C.2.1 dX1_accepts_22 (lv_at hl 1 rfl) ?_
    refine lv_iload C.1 C.2.1 dX1_accepts_24 (lv_at hl 0 rfl) ?_
    refine i_top (b := ecd (ofC u)) e1.symm ?_
    refine lv_lload C.1 C.2.1 dX1_accepts_26 (lv_at hl 5 rfl) ?_
    refine lv_iload C.1 C.2.1 dX1_accepts_28 (lv_at hl 6 rfl) ?_
    refine lv_iload C.1 C.2.1 dX1_accepts_30 (lv_at hl 7 rfl) ?_
    refine ca_V (As := [.int (ii (ecd (ofC u))), .long (li z), .int (ii r), .int (ii s)]) (rest := []) C (c_X0_fits l D hc p a b n G hp ha hb hn hG (ofC u) e2 z r s hz hr1 hs1) (pcw_preV [.int (ii (ecd (ofC u))), .long (li z), .int (ii r), .int (ii s)] hN (hP.sub (ws' := [(hc, .inr (0, [.int (ii (p : Int)), .int (ii (a : Int)), .int (ii (b : Int)), .int (ii (n : Int)), .int (ii (ecd G))]))]) [2] rfl) (hK.sub (tys' := []) [] rfl) 0 (ci := 0) rfl rfl) aw_b_X0_fits aw_m_X1_139 aw_v_X0_fits aw_i_X0 aw_e_X0_fits ⟨rfl, rfl⟩ 4 (by decide +kernel) rfl ⟨by decide, by decide⟩ hl.1 rfl (Nat.le_of_ble_eq_true rfl) dX1_accepts_32 ⟨by decide, by decide⟩ ?_
    generalize fiF p a n G (ofC u) z r s = j at fb hV ⊢
    refine i_if_eq (tgt := 42) C dX1_accepts_35 (by decide) ⟨by omega, by omega⟩ (fun h2 => ?_) (fun h2 => ?_)
    · have hV : 0 = V := by omega
      refine i_const C dX1_accepts_42 ?_
      subst hV
      exact px_z C hr hk trivial dX1_accepts_43 (Or.inl rfl) rfl (by decide) (by decide)
    · have hV : 1 = V := by omega
      refine i_const C dX1_accepts_38 ?_
      refine lv_goto (tgt := 43) C.1 C.2.1 dX1_accepts_39 (by decide) ?_
      subst hV
      exact px_z C hr hk trivial dX1_accepts_43 (Or.inr rfl) rfl (by decide) (by decide)
