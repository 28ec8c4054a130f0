/-! The class: what reads, and what throws. By wip/whole/tools/gen7.py. -/
theorem tw_iob : ∀ w ∈ thW 145 149 "java/lang/IndexOutOfBoundsException", w ∈ lw_tbl ∧ (goodWord w = true ∨ nwS w = true) := by decide +kernel
theorem tw_ise : ∀ w ∈ thW 114 118 "java/lang/IllegalStateException", w ∈ lw_tbl ∧ (goodWord w = true ∨ nwS w = true) := by decide +kernel
theorem tw_iae : ∀ w ∈ thW 37 41 "java/lang/IllegalArgumentException", w ∈ lw_tbl ∧ (goodWord w = true ∨ nwS w = true) := by decide +kernel
theorem tw_are : ∀ w ∈ thW 134 138 "java/lang/ArithmeticException", w ∈ lw_tbl ∧ (goodWord w = true ∨ nwS w = true) := by decide +kernel
def okr (r : Int) : Prop := 0 ≤ r ∧ r < 4
set_option maxRecDepth 100000 in
set_option maxHeartbeats 4000000 in
theorem c_check (l : Launch) (hL : l.stackTraces = false) (D : va_G) (z0 : Nat) (r : Int) (hr0 : rg r) : vx_Met l yX1_checkRegister (Cond.code yX1_checkRegister cX1_checkRegister 1 none :: AW) ({ frames := 6, cells := 1, slots := 6, locals := 100 } : Room) (PcX D z0 [] [] [.int (ii r)]) (QcP none (okr r)) (XcP "java/lang/IndexOutOfBoundsException" (¬ okr r)) 1 6 (fun _ => False) := by
  refine mt_X (by decide +kernel) (Nat.le_of_ble_eq_true rfl) ?_
  intro P0 E0 S0 M0 A0 B0 T0 K0 C hN hZ hP hK hr hk hex ls hl
  have hl : lv_has ls 1 [(0, .int (ii r))] := hl
  unfold okr
  refine lv_iload_n C.1 C.2.1 dX1_checkRegister_0 rfl (lv_at hl 0 rfl) ?_
  refine i_if_lt (tgt := 9) C dX1_checkRegister_1 (by decide) ⟨by omega, by omega⟩ (fun h1 => ?_) (fun h1 => ?_)
  · exact th_S (z0 := z0) C hL hN hZ va_S.rf (text := "no such register") (by decide +kernel) (by decide +kernel) tw_iob hl.1 dX1_checkRegister_9 dX1_checkRegister_12 dX1_checkRegister_13 dX1_checkRegister_15 dX1_checkRegister_18 hex ⟨by decide, by decide, by decide, by decide⟩ (Nat.le_of_ble_eq_true rfl) hk (fun t _ z1 z2 => ⟨rfl, by omega, z1, z2⟩) (fun q h => by cases h) (by decide) (by decide)
  · refine lv_iload_n C.1 C.2.1 dX1_checkRegister_4 rfl (lv_at hl 0 rfl) ?_
    refine i_const C dX1_checkRegister_5 ?_
    refine i_icmp_lt (tgt := 19) C dX1_checkRegister_6 (by decide) ⟨by omega, by omega⟩ ⟨by omega, by omega⟩ (fun h2 => ?_) (fun h2 => ?_)
    · exact px_v C hr hk (by omega) dX1_checkRegister_19 (by decide) (by decide)
    · exact th_S (z0 := z0) C hL hN hZ va_S.rf (text := "no such register") (by decide +kernel) (by decide +kernel) tw_iob hl.1 dX1_checkRegister_9 dX1_checkRegister_12 dX1_checkRegister_13 dX1_checkRegister_15 dX1_checkRegister_18 hex ⟨by decide, by decide, by decide, by decide⟩ (Nat.le_of_ble_eq_true rfl) hk (fun t _ z1 z2 => ⟨rfl, by omega, z1, z2⟩) (fun q h => by cases h) (by decide) (by decide)
set_option maxRecDepth 100000 in
set_option maxHeartbeats 4000000 in
theorem c_taken_n (l : Launch) (hL : l.stackTraces = false) (D : va_G) (z0 : Nat) (hx hr0 hq0 : Nat) (sec dr : Int) : vx_Met l yX1_takenCurve (Cond.code yX1_takenCurve cX1_takenCurve 1 (some (.object "PrimeCurveSigner$Curve")) :: AW) ({ frames := 6, cells := 1, slots := 6, locals := 100 } : Room) (PcX D z0 [(hx, .inr (1, [.ref hr0, .ref hq0, .null, .int (ii sec), .int (ii dr)]))] [] [.ref hx]) (QcP none False) (XcP "java/lang/IllegalStateException" True) 1 6 (fun _ => False) := by
  refine mt_X (by decide +kernel) (Nat.le_of_ble_eq_true rfl) ?_
  intro P0 E0 S0 M0 A0 B0 T0 K0 C hN hZ hP hK hr hk hex ls hl
  have hl : lv_has ls 1 [(0, .ref hx)] := hl
  refine lv_aload_n C.1 C.2.1 dX1_takenCurve_0 rfl (lv_at hl 0 rfl) ?_
  refine gf C hK hP 0 rfl rfl aw_uX1 2 (by decide) aw_f_X1_22 rfl dX1_takenCurve_1 ?_
  refine lv_ifnonnullN C.1 C.2.1 dX1_takenCurve_4 ?_
  exact th_S (z0 := z0) C hL hN hZ va_S.rf (text := "no curve was taken yet") (by decide +kernel) (by decide +kernel) tw_ise hl.1 dX1_takenCurve_7 dX1_takenCurve_10 dX1_takenCurve_11 dX1_takenCurve_13 dX1_takenCurve_16 hex ⟨by decide, by decide, by decide, by decide⟩ (Nat.le_of_ble_eq_true rfl) hk (fun t _ z1 z2 => ⟨rfl, trivial, z1, z2⟩) (fun q h => by cases h) (by decide) (by decide)
set_option maxRecDepth 100000 in
set_option maxHeartbeats 4000000 in
theorem c_taken_c (l : Launch) (D : va_G) (hx hr0 hq0 hc : Nat) (sec dr : Int) : Met l yX1_takenCurve (Cond.code yX1_takenCurve cX1_takenCurve 1 (some (.object "PrimeCurveSigner$Curve")) :: AW) ({ frames := 0, cells := 0, slots := 0, locals := 0 } : Room) (PcW D [(hx, .inr (1, [.ref hr0, .ref hq0, .ref hc, .int (ii sec), .int (ii dr)]))] [] [.ref hx]) (QcV (some (.ref hc))) 0 0 (fun _ => False) := by
  refine mt_W (by decide +kernel) (Nat.le_of_ble_eq_true rfl) ?_
  intro P0 E0 S0 M0 A0 B0 T0 K0 C hN hP hK hr hk ls hl
  have hl : lv_has ls 1 [(0, .ref hx)] := hl
  refine lv_aload_n C.1 C.2.1 dX1_takenCurve_0 rfl (lv_at hl 0 rfl) ?_
  refine gf C hK hP 0 rfl rfl aw_uX1 2 (by decide) aw_f_X1_22 rfl dX1_takenCurve_1 ?_
  refine lv_ifnonnull (tgt := 17) C.1 C.2.1 dX1_takenCurve_4 (by decide) ?_
  refine lv_aload_n C.1 C.2.1 dX1_takenCurve_17 rfl (lv_at hl 0 rfl) ?_
  refine gf C hK hP 0 rfl rfl aw_uX1 2 (by decide) aw_f_X1_22 rfl dX1_takenCurve_18 ?_
  exact rt_a C hr ⟨_, rfl⟩ hk dX1_takenCurve_21 rfl
set_option maxRecDepth 100000 in
set_option maxHeartbeats 4000000 in
theorem c_X1_load_n (l : Launch) (hL : l.stackTraces = false) (D : va_G) (z0 : Nat) (hx hr0 hq0 : Nat) (sec dr : Int) (x1 x2 x3 : Int32) : vx_Met l yX1_load (Cond.code yX1_load cX1_load 5 none :: AW) ({ frames := 7, cells := 1, slots := 6, locals := 130 } : Room) (PcX D z0 [(hx, .inr (1, [.ref hr0, .ref hq0, .null, .int (ii sec), .int (ii dr)]))] [] [.ref hx, .int x1, .int x2, .int x3]) (QcP none False) (XcP "java/lang/IllegalStateException" True) 1 6 (fun _ => False) := by
  refine mt_X (by decide +kernel) (Nat.le_of_ble_eq_true rfl) ?_
  intro P0 E0 S0 M0 A0 B0 T0 K0 C hN hZ hP hK hr hk hex ls hl
  have hl : lv_has ls 5 [(0, .ref hx), (1, .int x1), (2, .int x2), (3, .int x3)] := hl
  refine lv_aload_n C.1 C.2.1 dX1_load_0 rfl (lv_at hl 0 rfl) ?_
  refine cx_V (As := []) (rest := []) C (c_taken_n l hL D z0 hx hr0 hq0 sec dr) (pcx_preV [] hN hZ hP hK 0 (ci := 1) rfl rfl) aw_b_X1_takenCurve aw_m_X1_62 aw_v_X1_takenCurve aw_i_X1 aw_e_X1_takenCurve ⟨rfl, rfl⟩ 0 (by decide +kernel) rfl ⟨by decide, by decide⟩ hl.1 rfl (Nat.le_of_ble_eq_true rfl) dX1_load_1 ⟨by decide, by decide⟩ (fun _ H1 q9 ce z1 z2 z3 z4 z5 => ?_) (fun h => h.elim)
  exact ox_P hex hk z3 z4 z5 rfl trivial z1 z2 (fun q h => by cases h) (by decide) (by decide)
set_option maxRecDepth 100000 in
set_option maxHeartbeats 4000000 in
theorem c_X1_base_n (l : Launch) (hL : l.stackTraces = false) (D : va_G) (z0 : Nat) (hx hr0 hq0 : Nat) (sec dr : Int) (x1 : Int32) : vx_Met l yX1_base (Cond.code yX1_base cX1_base 3 none :: AW) ({ frames := 7, cells := 1, slots := 6, locals := 130 } : Room) (PcX D z0 [(hx, .inr (1, [.ref hr0, .ref hq0, .null, .int (ii sec), .int (ii dr)]))] [] [.ref hx, .int x1]) (QcP none False) (XcP "java/lang/IllegalStateException" True) 1 6 (fun _ => False) := by
  refine mt_X (by decide +kernel) (Nat.le_of_ble_eq_true rfl) ?_
  intro P0 E0 S0 M0 A0 B0 T0 K0 C hN hZ hP hK hr hk hex ls hl
  have hl : lv_has ls 3 [(0, .ref hx), (1, .int x1)] := hl
  refine lv_aload_n C.1 C.2.1 dX1_base_0 rfl (lv_at hl 0 rfl) ?_
  refine cx_V (As := []) (rest := []) C (c_taken_n l hL D z0 hx hr0 hq0 sec dr) (pcx_preV [] hN hZ hP hK 0 (ci := 1) rfl rfl) aw_b_X1_takenCurve aw_m_X1_62 aw_v_X1_takenCurve aw_i_X1 aw_e_X1_takenCurve ⟨rfl, rfl⟩ 0 (by decide +kernel) rfl ⟨by decide, by decide⟩ hl.1 rfl (Nat.le_of_ble_eq_true rfl) dX1_base_1 ⟨by decide, by decide⟩ (fun _ H1 q9 ce z1 z2 z3 z4 z5 => ?_) (fun h => h.elim)
  exact ox_P hex hk z3 z4 z5 rfl trivial z1 z2 (fun q h => by cases h) (by decide) (by decide)
set_option maxRecDepth 100000 in
set_option maxHeartbeats 4000000 in
theorem c_X1_sum_n (l : Launch) (hL : l.stackTraces = false) (D : va_G) (z0 : Nat) (hx hr0 hq0 : Nat) (sec dr : Int) (x1 x2 x3 : Int32) : vx_Met l yX1_sum (Cond.code yX1_sum cX1_sum 5 none :: AW) ({ frames := 7, cells := 1, slots := 6, locals := 130 } : Room) (PcX D z0 [(hx, .inr (1, [.ref hr0, .ref hq0, .null, .int (ii sec), .int (ii dr)]))] [] [.ref hx, .int x1, .int x2, .int x3]) (QcP none False) (XcP "java/lang/IllegalStateException" True) 1 6 (fun _ => False) := by
  refine mt_X (by decide +kernel) (Nat.le_of_ble_eq_true rfl) ?_
  intro P0 E0 S0 M0 A0 B0 T0 K0 C hN hZ hP hK hr hk hex ls hl
  have hl : lv_has ls 5 [(0, .ref hx), (1, .int x1), (2, .int x2), (3, .int x3)] := hl
  refine lv_aload_n C.1 C.2.1 dX1_sum_0 rfl (lv_at hl 0 rfl) ?_
  refine cx_V (As := []) (rest := []) C (c_taken_n l hL D z0 hx hr0 hq0 sec dr) (pcx_preV [] hN hZ hP hK 0 (ci := 1) rfl rfl) aw_b_X1_takenCurve aw_m_X1_62 aw_v_X1_takenCurve aw_i_X1 aw_e_X1_takenCurve ⟨rfl, rfl⟩ 0 (by decide +kernel) rfl ⟨by decide, by decide⟩ hl.1 rfl (Nat.le_of_ble_eq_true rfl) dX1_sum_1 ⟨by decide, by decide⟩ (fun _ H1 q9 ce z1 z2 z3 z4 z5 => ?_) (fun h => h.elim)
  exact ox_P hex hk z3 z4 z5 rfl trivial z1 z2 (fun q h => by cases h) (by decide) (by decide)
set_option maxRecDepth 100000 in
set_option maxHeartbeats 4000000 in
theorem c_X1_times_n (l : Launch) (hL : l.stackTraces = false) (D : va_G) (z0 : Nat) (hx hr0 hq0 : Nat) (sec dr : Int) (x1 x2 x3 : Int32) : vx_Met l yX1_times (Cond.code yX1_times cX1_times 5 none :: AW) ({ frames := 7, cells := 1, slots := 6, locals := 130 } : Room) (PcX D z0 [(hx, .inr (1, [.ref hr0, .ref hq0, .null, .int (ii sec), .int (ii dr)]))] [] [.ref hx, .int x1, .int x2, .int x3]) (QcP none False) (XcP "java/lang/IllegalStateException" True) 1 6 (fun _ => False) := by
  refine mt_X (by decide +kernel) (Nat.le_of_ble_eq_true rfl) ?_
  intro P0 E0 S0 M0 A0 B0 T0 K0 C hN hZ hP hK hr hk hex ls hl
  have hl : lv_has ls 5 [(0, .ref hx), (1, .int x1), (2, .int x2), (3, .int x3)] := hl
  refine lv_aload_n C.1 C.2.1 dX1_times_0 rfl (lv_at hl 0 rfl) ?_
  refine cx_V (As := []) (rest := []) C (c_taken_n l hL D z0 hx hr0 hq0 sec dr) (pcx_preV [] hN hZ hP hK 0 (ci := 1) rfl rfl) aw_b_X1_takenCurve aw_m_X1_62 aw_v_X1_takenCurve aw_i_X1 aw_e_X1_takenCurve ⟨rfl, rfl⟩ 0 (by decide +kernel) rfl ⟨by decide, by decide⟩ hl.1 rfl (Nat.le_of_ble_eq_true rfl) dX1_times_1 ⟨by decide, by decide⟩ (fun _ H1 q9 ce z1 z2 z3 z4 z5 => ?_) (fun h => h.elim)
  exact ox_P hex hk z3 z4 z5 rfl trivial z1 z2 (fun q h => by cases h) (by decide) (by decide)
set_option maxRecDepth 100000 in
set_option maxHeartbeats 4000000 in
theorem c_X1_decode_n (l : Launch) (hL : l.stackTraces = false) (D : va_G) (z0 : Nat) (hx hr0 hq0 : Nat) (sec dr : Int) (x1 x2 : Int32) (y1 : Int64) : vx_Met l yX1_decode (Cond.code yX1_decode cX1_decode 7 none :: AW) ({ frames := 7, cells := 1, slots := 6, locals := 130 } : Room) (PcX D z0 [(hx, .inr (1, [.ref hr0, .ref hq0, .null, .int (ii sec), .int (ii dr)]))] [] [.ref hx, .int x1, .int x2, .long y1]) (QcP none False) (XcP "java/lang/IllegalStateException" True) 1 6 (fun _ => False) := by
  refine mt_X (by decide +kernel) (Nat.le_of_ble_eq_true rfl) ?_
  intro P0 E0 S0 M0 A0 B0 T0 K0 C hN hZ hP hK hr hk hex ls hl
  have hl : lv_has ls 7 [(0, .ref hx), (1, .int x1), (2, .int x2), (3, .long y1)] := hl
  refine lv_aload_n C.1 C.2.1 dX1_decode_0 rfl (lv_at hl 0 rfl) ?_
  refine cx_V (As := []) (rest := []) C (c_taken_n l hL D z0 hx hr0 hq0 sec dr) (pcx_preV [] hN hZ hP hK 0 (ci := 1) rfl rfl) aw_b_X1_takenCurve aw_m_X1_62 aw_v_X1_takenCurve aw_i_X1 aw_e_X1_takenCurve ⟨rfl, rfl⟩ 0 (by decide +kernel) rfl ⟨by decide, by decide⟩ hl.1 rfl (Nat.le_of_ble_eq_true rfl) dX1_decode_1 ⟨by decide, by decide⟩ (fun _ H1 q9 ce z1 z2 z3 z4 z5 => ?_) (fun h => h.elim)
  exact ox_P hex hk z3 z4 z5 rfl trivial z1 z2 (fun q h => by cases h) (by decide) (by decide)
set_option maxRecDepth 100000 in
set_option maxHeartbeats 4000000 in
theorem c_X1_key_n (l : Launch) (hL : l.stackTraces = false) (D : va_G) (z0 : Nat) (hx hr0 hq0 : Nat) (sec dr : Int) (x1 x2 : Int32) : vx_Met l yX1_key (Cond.code yX1_key cX1_key 4 none :: AW) ({ frames := 7, cells := 1, slots := 6, locals := 130 } : Room) (PcX D z0 [(hx, .inr (1, [.ref hr0, .ref hq0, .null, .int (ii sec), .int (ii dr)]))] [] [.ref hx, .int x1, .int x2]) (QcP none False) (XcP "java/lang/IllegalStateException" True) 1 6 (fun _ => False) := by
  refine mt_X (by decide +kernel) (Nat.le_of_ble_eq_true rfl) ?_
  intro P0 E0 S0 M0 A0 B0 T0 K0 C hN hZ hP hK hr hk hex ls hl
  have hl : lv_has ls 4 [(0, .ref hx), (1, .int x1), (2, .int x2)] := hl
  refine lv_aload_n C.1 C.2.1 dX1_key_0 rfl (lv_at hl 0 rfl) ?_
  refine cx_V (As := []) (rest := []) C (c_taken_n l hL D z0 hx hr0 hq0 sec dr) (pcx_preV [] hN hZ hP hK 0 (ci := 1) rfl rfl) aw_b_X1_takenCurve aw_m_X1_62 aw_v_X1_takenCurve aw_i_X1 aw_e_X1_takenCurve ⟨rfl, rfl⟩ 0 (by decide +kernel) rfl ⟨by decide, by decide⟩ hl.1 rfl (Nat.le_of_ble_eq_true rfl) dX1_key_1 ⟨by decide, by decide⟩ (fun _ H1 q9 ce z1 z2 z3 z4 z5 => ?_) (fun h => h.elim)
  exact ox_P hex hk z3 z4 z5 rfl trivial z1 z2 (fun q h => by cases h) (by decide) (by decide)
set_option maxRecDepth 100000 in
set_option maxHeartbeats 4000000 in
theorem c_X1_sign_n (l : Launch) (hL : l.stackTraces = false) (D : va_G) (z0 : Nat) (hx hr0 hq0 : Nat) (sec dr : Int) (y1 : Int64) : vx_Met l yX1_sign (Cond.code yX1_sign cX1_sign 11 (some .long) :: AW) ({ frames := 7, cells := 1, slots := 6, locals := 130 } : Room) (PcX D z0 [(hx, .inr (1, [.ref hr0, .ref hq0, .null, .int (ii sec), .int (ii dr)]))] [] [.ref hx, .long y1]) (QcP none False) (XcP "java/lang/IllegalStateException" True) 1 6 (fun _ => False) := by
  refine mt_X (by decide +kernel) (Nat.le_of_ble_eq_true rfl) ?_
  intro P0 E0 S0 M0 A0 B0 T0 K0 C hN hZ hP hK hr hk hex ls hl
  have hl : lv_has ls 11 [(0, .ref hx), (1, .long y1)] := hl
  refine lv_aload_n C.1 C.2.1 dX1_sign_0 rfl (lv_at hl 0 rfl) ?_
  refine cx_V (As := []) (rest := []) C (c_taken_n l hL D z0 hx hr0 hq0 sec dr) (pcx_preV [] hN hZ hP hK 0 (ci := 1) rfl rfl) aw_b_X1_takenCurve aw_m_X1_62 aw_v_X1_takenCurve aw_i_X1 aw_e_X1_takenCurve ⟨rfl, rfl⟩ 0 (by decide +kernel) rfl ⟨by decide, by decide⟩ hl.1 rfl (Nat.le_of_ble_eq_true rfl) dX1_sign_1 ⟨by decide, by decide⟩ (fun _ H1 q9 ce z1 z2 z3 z4 z5 => ?_) (fun h => h.elim)
  exact ox_P hex hk z3 z4 z5 rfl trivial z1 z2 (fun q h => by cases h) (by decide) (by decide)
set_option maxRecDepth 100000 in
set_option maxHeartbeats 4000000 in
theorem c_X1_verify_n (l : Launch) (hL : l.stackTraces = false) (D : va_G) (z0 : Nat) (hx hr0 hq0 : Nat) (sec dr : Int) (x1 x2 x3 : Int32) (y1 : Int64) : vx_Met l yX1_verify (Cond.code yX1_verify cX1_verify 7 (some .boolean) :: AW) ({ frames := 7, cells := 1, slots := 6, locals := 130 } : Room) (PcX D z0 [(hx, .inr (1, [.ref hr0, .ref hq0, .null, .int (ii sec), .int (ii dr)]))] [] [.ref hx, .int x1, .long y1, .int x2, .int x3]) (QcP none False) (XcP "java/lang/IllegalStateException" True) 1 6 (fun _ => False) := by
  refine mt_X (by decide +kernel) (Nat.le_of_ble_eq_true rfl) ?_
  intro P0 E0 S0 M0 A0 B0 T0 K0 C hN hZ hP hK hr hk hex ls hl
  have hl : lv_has ls 7 [(0, .ref hx), (1, .int x1), (2, .long y1), (4, .int x2), (5, .int x3)] := hl
  refine lv_aload_n C.1 C.2.1 dX1_verify_0 rfl (lv_at hl 0 rfl) ?_
  refine cx_V (As := []) (rest := []) C (c_taken_n l hL D z0 hx hr0 hq0 sec dr) (pcx_preV [] hN hZ hP hK 0 (ci := 1) rfl rfl) aw_b_X1_takenCurve aw_m_X1_62 aw_v_X1_takenCurve aw_i_X1 aw_e_X1_takenCurve ⟨rfl, rfl⟩ 0 (by decide +kernel) rfl ⟨by decide, by decide⟩ hl.1 rfl (Nat.le_of_ble_eq_true rfl) dX1_verify_1 ⟨by decide, by decide⟩ (fun _ H1 q9 ce z1 z2 z3 z4 z5 => ?_) (fun h => h.elim)
  exact ox_P hex hk z3 z4 z5 rfl trivial z1 z2 (fun q h => by cases h) (by decide) (by decide)
set_option maxRecDepth 100000 in
set_option maxHeartbeats 4000000 in
theorem c_X1_accepts_n (l : Launch) (hL : l.stackTraces = false) (D : va_G) (z0 : Nat) (hx hr0 hq0 : Nat) (sec dr : Int) (x1 x2 x3 : Int32) (y1 y2 : Int64) : vx_Met l yX1_accepts (Cond.code yX1_accepts cX1_accepts 10 (some .boolean) :: AW) ({ frames := 7, cells := 1, slots := 6, locals := 130 } : Room) (PcX D z0 [(hx, .inr (1, [.ref hr0, .ref hq0, .null, .int (ii sec), .int (ii dr)]))] [] [.ref hx, .int x1, .long y1, .long y2, .int x2, .int x3]) (QcP none False) (XcP "java/lang/IllegalStateException" True) 1 6 (fun _ => False) := by
  refine mt_X (by decide +kernel) (Nat.le_of_ble_eq_true rfl) ?_
  intro P0 E0 S0 M0 A0 B0 T0 K0 C hN hZ hP hK hr hk hex ls hl
  have hl : lv_has ls 10 [(0, .ref hx), (1, .int x1), (2, .long y1), (4, .long y2), (6, .int x2), (7, .int x3)] := hl
  refine lv_aload_n C.1 C.2.1 dX1_accepts_0 rfl (lv_at hl 0 rfl) ?_
  refine cx_V (As := []) (rest := []) C (c_taken_n l hL D z0 hx hr0 hq0 sec dr) (pcx_preV [] hN hZ hP hK 0 (ci := 1) rfl rfl) aw_b_X1_takenCurve aw_m_X1_62 aw_v_X1_takenCurve aw_i_X1 aw_e_X1_takenCurve ⟨rfl, rfl⟩ 0 (by decide +kernel) rfl ⟨by decide, by decide⟩ hl.1 rfl (Nat.le_of_ble_eq_true rfl) dX1_accepts_1 ⟨by decide, by decide⟩ (fun _ H1 q9 ce z1 z2 z3 z4 z5 => ?_) (fun h => h.elim)
  exact ox_P hex hk z3 z4 z5 rfl trivial z1 z2 (fun q h => by cases h) (by decide) (by decide)
set_option maxRecDepth 100000 in
set_option maxHeartbeats 4000000 in
theorem c_order_n (l : Launch) (D : va_G) (hx hr0 hq0 : Nat) (sec dr : Int) : Met l yX1_order (Cond.code yX1_order cX1_order 1 (some .int) :: AW) ({ frames := 0, cells := 0, slots := 0, locals := 0 } : Room) (PcW D [(hx, .inr (1, [.ref hr0, .ref hq0, .null, .int (ii sec), .int (ii dr)]))] [] [.ref hx]) (QcV (some (.int (ii 0)))) 0 0 (fun _ => False) := by
  refine mt_W (by decide +kernel) (Nat.le_of_ble_eq_true rfl) ?_
  intro P0 E0 S0 M0 A0 B0 T0 K0 C hN hP hK hr hk ls hl
  have hl : lv_has ls 1 [(0, .ref hx)] := hl
  refine lv_aload_n C.1 C.2.1 dX1_order_0 rfl (lv_at hl 0 rfl) ?_
  refine gf C hK hP 0 rfl rfl aw_uX1 2 (by decide) aw_f_X1_22 rfl dX1_order_1 ?_
  refine lv_ifnonnullN C.1 C.2.1 dX1_order_4 ?_
  refine i_const C dX1_order_7 ?_
  refine lv_goto (tgt := 18) C.1 C.2.1 dX1_order_8 (by decide) ?_
  exact rt_i C hr hk dX1_order_18 rfl
set_option maxRecDepth 100000 in
set_option maxHeartbeats 4000000 in
theorem c_order_c (l : Launch) (D : va_G) (hx hr0 hq0 hc : Nat) (sec dr : Int) (p a b n : Nat) (g : Int) : Met l yX1_order (Cond.code yX1_order cX1_order 1 (some .int) :: AW) ({ frames := 0, cells := 0, slots := 0, locals := 0 } : Room) (PcW D [(hx, .inr (1, [.ref hr0, .ref hq0, .ref hc, .int (ii sec), .int (ii dr)])), (hc, .inr (0, [.int (ii (p : Int)), .int (ii (a : Int)), .int (ii (b : Int)), .int (ii (n : Int)), .int (ii g)]))] [] [.ref hx]) (QcV (some (.int (ii (n : Int))))) 0 0 (fun _ => False) := by
  refine mt_W (by decide +kernel) (Nat.le_of_ble_eq_true rfl) ?_
  intro P0 E0 S0 M0 A0 B0 T0 K0 C hN hP hK hr hk ls hl
  have hl : lv_has ls 1 [(0, .ref hx)] := hl
  refine lv_aload_n C.1 C.2.1 dX1_order_0 rfl (lv_at hl 0 rfl) ?_
  refine gf C hK hP 0 rfl rfl aw_uX1 2 (by decide) aw_f_X1_22 rfl dX1_order_1 ?_
  refine lv_ifnonnull (tgt := 11) C.1 C.2.1 dX1_order_4 (by decide) ?_
  refine lv_aload_n C.1 C.2.1 dX1_order_11 rfl (lv_at hl 0 rfl) ?_
  refine gf C hK hP 0 rfl rfl aw_uX1 2 (by decide) aw_f_X1_22 rfl dX1_order_12 ?_
  refine gf C hK hP 1 rfl rfl aw_uX0 3 (by decide) aw_f_X1_59 rfl dX1_order_15 ?_
  exact rt_i C hr hk dX1_order_18 rfl
set_option maxRecDepth 100000 in
set_option maxHeartbeats 4000000 in
theorem c_draws_n (l : Launch) (D : va_G) (hx hr0 hq0 : Nat) (sec dr : Int) : Met l yX1_draws (Cond.code yX1_draws cX1_draws 1 (some .int) :: AW) ({ frames := 0, cells := 0, slots := 0, locals := 0 } : Room) (PcW D [(hx, .inr (1, [.ref hr0, .ref hq0, .null, .int (ii sec), .int (ii dr)]))] [] [.ref hx]) (QcV (some (.int (ii dr)))) 0 0 (fun _ => False) := by
  refine mt_W (by decide +kernel) (Nat.le_of_ble_eq_true rfl) ?_
  intro P0 E0 S0 M0 A0 B0 T0 K0 C hN hP hK hr hk ls hl
  have hl : lv_has ls 1 [(0, .ref hx)] := hl
  refine lv_aload_n C.1 C.2.1 dX1_draws_0 rfl (lv_at hl 0 rfl) ?_
  refine gf C hK hP 0 rfl rfl aw_uX1 4 (by decide) aw_f_X1_30 rfl dX1_draws_1 ?_
  exact rt_i C hr hk dX1_draws_4 rfl
set_option maxRecDepth 100000 in
set_option maxHeartbeats 4000000 in
theorem c_draws_c (l : Launch) (D : va_G) (hx hr0 hq0 hc : Nat) (sec dr : Int) : Met l yX1_draws (Cond.code yX1_draws cX1_draws 1 (some .int) :: AW) ({ frames := 0, cells := 0, slots := 0, locals := 0 } : Room) (PcW D [(hx, .inr (1, [.ref hr0, .ref hq0, .ref hc, .int (ii sec), .int (ii dr)]))] [] [.ref hx]) (QcV (some (.int (ii dr)))) 0 0 (fun _ => False) := by
  refine mt_W (by decide +kernel) (Nat.le_of_ble_eq_true rfl) ?_
  intro P0 E0 S0 M0 A0 B0 T0 K0 C hN hP hK hr hk ls hl
  have hl : lv_has ls 1 [(0, .ref hx)] := hl
  refine lv_aload_n C.1 C.2.1 dX1_draws_0 rfl (lv_at hl 0 rfl) ?_
  refine gf C hK hP 0 rfl rfl aw_uX1 4 (by decide) aw_f_X1_30 rfl dX1_draws_1 ?_
  exact rt_i C hr hk dX1_draws_4 rfl
