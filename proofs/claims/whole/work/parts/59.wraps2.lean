/-! The law: its methods around x, y, code, sign, verify, accepts. By wip/whole/tools/gen21.py. -/
set_option maxRecDepth 100000 in
set_option maxHeartbeats 4000000 in
theorem wL_x (l : Launch) (hL : l.stackTraces = false) (D : va_G) (z0 sz : Nat) (hx hr0 hq0 : Nat) (cI cQ : ClassId) (n p a b gx gy : Nat) (sec dr : Int) (ix tx ty : Nat → Nat) (kw : va_W) (hR : KR hx hr0 hq0 cI cQ n p a b gx gy sec dr ix tx ty kw) (ho : Nat) (cL : ClassId) (f : Nat → Int64) (r : Int) (hr1 : rg r) : vx_Met l yL_x (Cond.codeWith yL_x cL_x 4 (some .int) [(0, 9, 12, 21)] :: AW) ({ frames := 8, cells := 1, slots := 6, locals := 220 } : Room) (PcH D z0 sz (KO ho cL f :: kw) [(cI, .int), (cQ, .int), (cL, .long)] [.ref hx, .int (ii r), .ref ho]) (QcM (some (.int (ii (gdF (nrF r) 0 0)))) True (fun t => ∃ (kw1 : va_W) (f1 : Nat → Int64), KR hx hr0 hq0 cI cQ n p a b gx gy sec dr ix tx ty kw1 ∧ (gdF (nrF r) 0 0 = 0 → f1 0 = (ii (rvF tx ix r)).toInt64) ∧ Wd D (KO ho cL f1 :: kw1) [(cI, .int), (cQ, .int), (cL, .long)] (va_A (KO ho cL f :: kw) sz) t) (va_A (KO ho cL f :: kw) sz)) (XcM (fun _ => False) (fun _ => False) (va_A (KO ho cL f :: kw) sz)) 1 6 (va_A (KO ho cL f :: kw) sz) := by
  rcases hR with ⟨rfl, rfl, hi0, gq, rfl⟩ | ⟨hT, hc, gq, rfl⟩
  · refine mt_H (by decide +kernel) (Nat.le_of_ble_eq_true rfl) ?_
    intro P0 E0 S0 M0 A0 B0 T0 K0 C hN hZ hsz hz hP hK hD hAz hA hr hk htb hXc ls hl
    have hl : lv_has ls 4 [(0, .ref hx), (1, .int (ii r)), (2, .ref ho)] := hl
    generalize hAe : va_A [KO ho cL f, KX hx hr0 hq0 .null 0 dr, KP hr0 cI (fun _ => none), KQ hq0 cQ gq] sz = A at hD hAz hA ⊢
    have hS : va_S A S0.heap S0.heap [] := va_S.rf
    refine lv_aload_n C.1 C.2.1 dL_x_0 rfl (lv_at hl 2 rfl) ?_
    refine i_const C dL_x_1 ?_
    refine lv_aload_n C.1 C.2.1 dL_x_2 rfl (lv_at hl 0 rfl) ?_
    refine lv_iload_n C.1 C.2.1 dL_x_3 rfl (lv_at hl 1 rfl) ?_
    refine cx_V (As := [.int (ii r)]) (rest := [.int (ii 0), .ref ho]) C (c_X1_x l hL D z0 hx hr0 hq0 .null 0 dr cI (fun _ => none) (fun j => sm2_none 1021) r hr1) (pcx_preV _ hN hZ (hP.sub (ws' := [KX hx hr0 hq0 .null 0 dr, KP hr0 cI (fun _ => none)]) [1, 2] rfl) (hK.sub (tys' := [(cI, .int)]) [0] rfl) 0 (ci := 1) rfl rfl) aw_b_X1_x aw_m_L_33 aw_v_X1_x aw_i_X1 aw_e_X1_x ⟨rfl, rfl⟩ 1 (by decide +kernel) rfl ⟨by decide, by decide⟩ hl.1 rfl (Nat.le_of_ble_eq_true rfl) dL_x_4 ⟨by decide, by decide⟩ (fun hw H1 q9 ce z1 z2 z3 z4 z5 => ?_) (fun hok => ?_)
    · have hS := hS.on z1 z2
      have hP := hP.on z2
      rw [gd_i _ (nr_1 hw)]
      refine vx_catch (own := RL) (name := "java/lang/IndexOutOfBoundsException") (E := "java/lang/IndexOutOfBoundsException") C.2.2.2.1 [] ⟨0, 9, 12, 21⟩ [] htb (fun z hz => nomatch hz) (by decide) (by decide) (C.2.2.2.2 _ aw_c_L_21) (hXc.go (q := ("java/lang/IndexOutOfBoundsException", "java/lang/IndexOutOfBoundsException")) (by decide +kernel)) z3 z4 z5 ?_
      refine lv_astore_n C.1 C.2.1 dL_x_12 rfl hl (by decide) rfl (fun ls hl => ?_)
      have hl : lv_has ls 4 [(3, .ref q9), (0, .ref hx), (1, .int (ii r)), (2, .ref ho)] := hl
      refine i_const C dL_x_13 ?_
      exact py_i C hr hk hS trivial (fun t ht hvm => ⟨_, f, Or.inl ⟨rfl, rfl, hi0, gq, rfl⟩, (fun z => absurd z (by decide)), ⟨by rw [ht]; exact hP, va_K.moved hvm hK, hD⟩⟩) dL_x_14 rfl (by decide) (by decide)
    · have e9 : rvF tx ix r = -1 := by unfold rvF; rw [if_pos (nr_0 hok), hi0]; rfl
      refine lv_i2l C.1 C.2.1 dL_x_7 rfl ?_
      refine l_ast0 C hK hP hD hS 0 2 rfl rfl dL_x_8 (fun H2 locs2 f1 hf1 hP hD hS => ?_)
      have hP : va_P D clX [KO ho cL f1, KX hx hr0 hq0 .null 0 dr, KP hr0 cI (fun _ => none), KQ hq0 cQ gq] H2 := hP
      have hD : va_D A [KO ho cL f1, KX hx hr0 hq0 .null 0 dr, KP hr0 cI (fun _ => none), KQ hq0 cQ gq] := hD
      rw [nr_0 hok]
      refine lv_goto (tgt := 15) C.1 C.2.1 dL_x_9 (by decide) ?_
      refine i_const C dL_x_15 ?_
      exact py_i C hr hk hS trivial (fun t ht hvm => ⟨_, f1, Or.inl ⟨rfl, rfl, hi0, gq, rfl⟩, (fun _ => by rw [hf1, e9]; rfl), ⟨by rw [ht]; exact hP, va_K.moved hvm hK, hD⟩⟩) dL_x_16 rfl (by decide) (by decide)
  · refine mt_H (by decide +kernel) (Nat.le_of_ble_eq_true rfl) ?_
    intro P0 E0 S0 M0 A0 B0 T0 K0 C hN hZ hsz hz hP hK hD hAz hA hr hk htb hXc ls hl
    have hl : lv_has ls 4 [(0, .ref hx), (1, .int (ii r)), (2, .ref ho)] := hl
    generalize hAe : va_A [KO ho cL f, KX hx hr0 hq0 (.ref hc) sec dr, KP hr0 cI (fun j => tbN p a gx gy (ix j)), KQ hq0 cQ gq, KC hc p a b n (some (gx, gy))] sz = A at hD hAz hA ⊢
    have hS : va_S A S0.heap S0.heap [] := va_S.rf
    refine lv_aload_n C.1 C.2.1 dL_x_0 rfl (lv_at hl 2 rfl) ?_
    refine i_const C dL_x_1 ?_
    refine lv_aload_n C.1 C.2.1 dL_x_2 rfl (lv_at hl 0 rfl) ?_
    refine lv_iload_n C.1 C.2.1 dL_x_3 rfl (lv_at hl 1 rfl) ?_
    refine cx_V (As := [.int (ii r)]) (rest := [.int (ii 0), .ref ho]) C (c_X1_x l hL D z0 hx hr0 hq0 (.ref hc) sec dr cI (fun j => tbN p a gx gy (ix j)) (fun j x y e => by have := hT.sm (ix j) x y e; have := hT.p5; omega) r hr1) (pcx_preV _ hN hZ (hP.sub (ws' := [KX hx hr0 hq0 (.ref hc) sec dr, KP hr0 cI (fun j => tbN p a gx gy (ix j))]) [1, 2] rfl) (hK.sub (tys' := [(cI, .int)]) [0] rfl) 0 (ci := 1) rfl rfl) aw_b_X1_x aw_m_L_33 aw_v_X1_x aw_i_X1 aw_e_X1_x ⟨rfl, rfl⟩ 1 (by decide +kernel) rfl ⟨by decide, by decide⟩ hl.1 rfl (Nat.le_of_ble_eq_true rfl) dL_x_4 ⟨by decide, by decide⟩ (fun hw H1 q9 ce z1 z2 z3 z4 z5 => ?_) (fun hok => ?_)
    · have hS := hS.on z1 z2
      have hP := hP.on z2
      rw [gd_i _ (nr_1 hw)]
      refine vx_catch (own := RL) (name := "java/lang/IndexOutOfBoundsException") (E := "java/lang/IndexOutOfBoundsException") C.2.2.2.1 [] ⟨0, 9, 12, 21⟩ [] htb (fun z hz => nomatch hz) (by decide) (by decide) (C.2.2.2.2 _ aw_c_L_21) (hXc.go (q := ("java/lang/IndexOutOfBoundsException", "java/lang/IndexOutOfBoundsException")) (by decide +kernel)) z3 z4 z5 ?_
      refine lv_astore_n C.1 C.2.1 dL_x_12 rfl hl (by decide) rfl (fun ls hl => ?_)
      have hl : lv_has ls 4 [(3, .ref q9), (0, .ref hx), (1, .int (ii r)), (2, .ref ho)] := hl
      refine i_const C dL_x_13 ?_
      exact py_i C hr hk hS trivial (fun t ht hvm => ⟨_, f, Or.inr ⟨hT, hc, gq, rfl⟩, (fun z => absurd z (by decide)), ⟨by rw [ht]; exact hP, va_K.moved hvm hK, hD⟩⟩) dL_x_14 rfl (by decide) (by decide)
    · rw [hT.x hok]
      refine lv_i2l C.1 C.2.1 dL_x_7 rfl ?_
      refine l_ast0 C hK hP hD hS 0 2 rfl rfl dL_x_8 (fun H2 locs2 f1 hf1 hP hD hS => ?_)
      have hP : va_P D clX [KO ho cL f1, KX hx hr0 hq0 (.ref hc) sec dr, KP hr0 cI (fun j => tbN p a gx gy (ix j)), KQ hq0 cQ gq, KC hc p a b n (some (gx, gy))] H2 := hP
      have hD : va_D A [KO ho cL f1, KX hx hr0 hq0 (.ref hc) sec dr, KP hr0 cI (fun j => tbN p a gx gy (ix j)), KQ hq0 cQ gq, KC hc p a b n (some (gx, gy))] := hD
      rw [nr_0 hok]
      refine lv_goto (tgt := 15) C.1 C.2.1 dL_x_9 (by decide) ?_
      refine i_const C dL_x_15 ?_
      exact py_i C hr hk hS trivial (fun t ht hvm => ⟨_, f1, Or.inr ⟨hT, hc, gq, rfl⟩, (fun _ => hf1), ⟨by rw [ht]; exact hP, va_K.moved hvm hK, hD⟩⟩) dL_x_16 rfl (by decide) (by decide)
set_option maxRecDepth 100000 in
set_option maxHeartbeats 4000000 in
theorem wL_y (l : Launch) (hL : l.stackTraces = false) (D : va_G) (z0 sz : Nat) (hx hr0 hq0 : Nat) (cI cQ : ClassId) (n p a b gx gy : Nat) (sec dr : Int) (ix tx ty : Nat → Nat) (kw : va_W) (hR : KR hx hr0 hq0 cI cQ n p a b gx gy sec dr ix tx ty kw) (ho : Nat) (cL : ClassId) (f : Nat → Int64) (r : Int) (hr1 : rg r) : vx_Met l yL_y (Cond.codeWith yL_y cL_y 4 (some .int) [(0, 9, 12, 21)] :: AW) ({ frames := 8, cells := 1, slots := 6, locals := 220 } : Room) (PcH D z0 sz (KO ho cL f :: kw) [(cI, .int), (cQ, .int), (cL, .long)] [.ref hx, .int (ii r), .ref ho]) (QcM (some (.int (ii (gdF (nrF r) 0 0)))) True (fun t => ∃ (kw1 : va_W) (f1 : Nat → Int64), KR hx hr0 hq0 cI cQ n p a b gx gy sec dr ix tx ty kw1 ∧ (gdF (nrF r) 0 0 = 0 → f1 0 = (ii (rvF ty ix r)).toInt64) ∧ Wd D (KO ho cL f1 :: kw1) [(cI, .int), (cQ, .int), (cL, .long)] (va_A (KO ho cL f :: kw) sz) t) (va_A (KO ho cL f :: kw) sz)) (XcM (fun _ => False) (fun _ => False) (va_A (KO ho cL f :: kw) sz)) 1 6 (va_A (KO ho cL f :: kw) sz) := by
  rcases hR with ⟨rfl, rfl, hi0, gq, rfl⟩ | ⟨hT, hc, gq, rfl⟩
  · refine mt_H (by decide +kernel) (Nat.le_of_ble_eq_true rfl) ?_
    intro P0 E0 S0 M0 A0 B0 T0 K0 C hN hZ hsz hz hP hK hD hAz hA hr hk htb hXc ls hl
    have hl : lv_has ls 4 [(0, .ref hx), (1, .int (ii r)), (2, .ref ho)] := hl
    generalize hAe : va_A [KO ho cL f, KX hx hr0 hq0 .null 0 dr, KP hr0 cI (fun _ => none), KQ hq0 cQ gq] sz = A at hD hAz hA ⊢
    have hS : va_S A S0.heap S0.heap [] := va_S.rf
    refine lv_aload_n C.1 C.2.1 dL_y_0 rfl (lv_at hl 2 rfl) ?_
    refine i_const C dL_y_1 ?_
    refine lv_aload_n C.1 C.2.1 dL_y_2 rfl (lv_at hl 0 rfl) ?_
    refine lv_iload_n C.1 C.2.1 dL_y_3 rfl (lv_at hl 1 rfl) ?_
    refine cx_V (As := [.int (ii r)]) (rest := [.int (ii 0), .ref ho]) C (c_X1_y l hL D z0 hx hr0 hq0 .null 0 dr cI (fun _ => none) (fun j => sm2_none 1021) r hr1) (pcx_preV _ hN hZ (hP.sub (ws' := [KX hx hr0 hq0 .null 0 dr, KP hr0 cI (fun _ => none)]) [1, 2] rfl) (hK.sub (tys' := [(cI, .int)]) [0] rfl) 0 (ci := 1) rfl rfl) aw_b_X1_y aw_m_L_37 aw_v_X1_y aw_i_X1 aw_e_X1_y ⟨rfl, rfl⟩ 1 (by decide +kernel) rfl ⟨by decide, by decide⟩ hl.1 rfl (Nat.le_of_ble_eq_true rfl) dL_y_4 ⟨by decide, by decide⟩ (fun hw H1 q9 ce z1 z2 z3 z4 z5 => ?_) (fun hok => ?_)
    · have hS := hS.on z1 z2
      have hP := hP.on z2
      rw [gd_i _ (nr_1 hw)]
      refine vx_catch (own := RL) (name := "java/lang/IndexOutOfBoundsException") (E := "java/lang/IndexOutOfBoundsException") C.2.2.2.1 [] ⟨0, 9, 12, 21⟩ [] htb (fun z hz => nomatch hz) (by decide) (by decide) (C.2.2.2.2 _ aw_c_L_21) (hXc.go (q := ("java/lang/IndexOutOfBoundsException", "java/lang/IndexOutOfBoundsException")) (by decide +kernel)) z3 z4 z5 ?_
      refine lv_astore_n C.1 C.2.1 dL_y_12 rfl hl (by decide) rfl (fun ls hl => ?_)
      have hl : lv_has ls 4 [(3, .ref q9), (0, .ref hx), (1, .int (ii r)), (2, .ref ho)] := hl
      refine i_const C dL_y_13 ?_
      exact py_i C hr hk hS trivial (fun t ht hvm => ⟨_, f, Or.inl ⟨rfl, rfl, hi0, gq, rfl⟩, (fun z => absurd z (by decide)), ⟨by rw [ht]; exact hP, va_K.moved hvm hK, hD⟩⟩) dL_y_14 rfl (by decide) (by decide)
    · have e9 : rvF ty ix r = -1 := by unfold rvF; rw [if_pos (nr_0 hok), hi0]; rfl
      refine lv_i2l C.1 C.2.1 dL_y_7 rfl ?_
      refine l_ast0 C hK hP hD hS 0 2 rfl rfl dL_y_8 (fun H2 locs2 f1 hf1 hP hD hS => ?_)
      have hP : va_P D clX [KO ho cL f1, KX hx hr0 hq0 .null 0 dr, KP hr0 cI (fun _ => none), KQ hq0 cQ gq] H2 := hP
      have hD : va_D A [KO ho cL f1, KX hx hr0 hq0 .null 0 dr, KP hr0 cI (fun _ => none), KQ hq0 cQ gq] := hD
      rw [nr_0 hok]
      refine lv_goto (tgt := 15) C.1 C.2.1 dL_y_9 (by decide) ?_
      refine i_const C dL_y_15 ?_
      exact py_i C hr hk hS trivial (fun t ht hvm => ⟨_, f1, Or.inl ⟨rfl, rfl, hi0, gq, rfl⟩, (fun _ => by rw [hf1, e9]; rfl), ⟨by rw [ht]; exact hP, va_K.moved hvm hK, hD⟩⟩) dL_y_16 rfl (by decide) (by decide)
  · refine mt_H (by decide +kernel) (Nat.le_of_ble_eq_true rfl) ?_
    intro P0 E0 S0 M0 A0 B0 T0 K0 C hN hZ hsz hz hP hK hD hAz hA hr hk htb hXc ls hl
    have hl : lv_has ls 4 [(0, .ref hx), (1, .int (ii r)), (2, .ref ho)] := hl
    generalize hAe : va_A [KO ho cL f, KX hx hr0 hq0 (.ref hc) sec dr, KP hr0 cI (fun j => tbN p a gx gy (ix j)), KQ hq0 cQ gq, KC hc p a b n (some (gx, gy))] sz = A at hD hAz hA ⊢
    have hS : va_S A S0.heap S0.heap [] := va_S.rf
    refine lv_aload_n C.1 C.2.1 dL_y_0 rfl (lv_at hl 2 rfl) ?_
    refine i_const C dL_y_1 ?_
    refine lv_aload_n C.1 C.2.1 dL_y_2 rfl (lv_at hl 0 rfl) ?_
    refine lv_iload_n C.1 C.2.1 dL_y_3 rfl (lv_at hl 1 rfl) ?_
    refine cx_V (As := [.int (ii r)]) (rest := [.int (ii 0), .ref ho]) C (c_X1_y l hL D z0 hx hr0 hq0 (.ref hc) sec dr cI (fun j => tbN p a gx gy (ix j)) (fun j x y e => by have := hT.sm (ix j) x y e; have := hT.p5; omega) r hr1) (pcx_preV _ hN hZ (hP.sub (ws' := [KX hx hr0 hq0 (.ref hc) sec dr, KP hr0 cI (fun j => tbN p a gx gy (ix j))]) [1, 2] rfl) (hK.sub (tys' := [(cI, .int)]) [0] rfl) 0 (ci := 1) rfl rfl) aw_b_X1_y aw_m_L_37 aw_v_X1_y aw_i_X1 aw_e_X1_y ⟨rfl, rfl⟩ 1 (by decide +kernel) rfl ⟨by decide, by decide⟩ hl.1 rfl (Nat.le_of_ble_eq_true rfl) dL_y_4 ⟨by decide, by decide⟩ (fun hw H1 q9 ce z1 z2 z3 z4 z5 => ?_) (fun hok => ?_)
    · have hS := hS.on z1 z2
      have hP := hP.on z2
      rw [gd_i _ (nr_1 hw)]
      refine vx_catch (own := RL) (name := "java/lang/IndexOutOfBoundsException") (E := "java/lang/IndexOutOfBoundsException") C.2.2.2.1 [] ⟨0, 9, 12, 21⟩ [] htb (fun z hz => nomatch hz) (by decide) (by decide) (C.2.2.2.2 _ aw_c_L_21) (hXc.go (q := ("java/lang/IndexOutOfBoundsException", "java/lang/IndexOutOfBoundsException")) (by decide +kernel)) z3 z4 z5 ?_
      refine lv_astore_n C.1 C.2.1 dL_y_12 rfl hl (by decide) rfl (fun ls hl => ?_)
      have hl : lv_has ls 4 [(3, .ref q9), (0, .ref hx), (1, .int (ii r)), (2, .ref ho)] := hl
      refine i_const C dL_y_13 ?_
      exact py_i C hr hk hS trivial (fun t ht hvm => ⟨_, f, Or.inr ⟨hT, hc, gq, rfl⟩, (fun z => absurd z (by decide)), ⟨by rw [ht]; exact hP, va_K.moved hvm hK, hD⟩⟩) dL_y_14 rfl (by decide) (by decide)
    · rw [hT.y hok]
      refine lv_i2l C.1 C.2.1 dL_y_7 rfl ?_
      refine l_ast0 C hK hP hD hS 0 2 rfl rfl dL_y_8 (fun H2 locs2 f1 hf1 hP hD hS => ?_)
      have hP : va_P D clX [KO ho cL f1, KX hx hr0 hq0 (.ref hc) sec dr, KP hr0 cI (fun j => tbN p a gx gy (ix j)), KQ hq0 cQ gq, KC hc p a b n (some (gx, gy))] H2 := hP
      have hD : va_D A [KO ho cL f1, KX hx hr0 hq0 (.ref hc) sec dr, KP hr0 cI (fun j => tbN p a gx gy (ix j)), KQ hq0 cQ gq, KC hc p a b n (some (gx, gy))] := hD
      rw [nr_0 hok]
      refine lv_goto (tgt := 15) C.1 C.2.1 dL_y_9 (by decide) ?_
      refine i_const C dL_y_15 ?_
      exact py_i C hr hk hS trivial (fun t ht hvm => ⟨_, f1, Or.inr ⟨hT, hc, gq, rfl⟩, (fun _ => hf1), ⟨by rw [ht]; exact hP, va_K.moved hvm hK, hD⟩⟩) dL_y_16 rfl (by decide) (by decide)
set_option maxRecDepth 100000 in
set_option maxHeartbeats 4000000 in
theorem wL_code (l : Launch) (hL : l.stackTraces = false) (D : va_G) (z0 sz : Nat) (hx hr0 hq0 : Nat) (cI cQ : ClassId) (n p a b gx gy : Nat) (sec dr : Int) (ix tx ty : Nat → Nat) (kw : va_W) (hR : KR hx hr0 hq0 cI cQ n p a b gx gy sec dr ix tx ty kw) (ho : Nat) (cL : ClassId) (f : Nat → Int64) (r k : Int) (hr1 : rg r) (hk1 : k = 0 ∨ k = 1) : vx_Met l yL_code (Cond.codeWith yL_code cL_code 5 (some .int) [(0, 9, 12, 21)] :: AW) ({ frames := 8, cells := 1, slots := 6, locals := 220 } : Room) (PcH D z0 sz (KO ho cL f :: kw) [(cI, .int), (cQ, .int), (cL, .long)] [.ref hx, .int (ii r), .int (ii k), .ref ho]) (QcM (some (.int (ii (gdF (nrF r) 0 0)))) True (fun t => ∃ (kw1 : va_W) (f1 : Nat → Int64), KR hx hr0 hq0 cI cQ n p a b gx gy sec dr ix tx ty kw1 ∧ (gdF (nrF r) 0 0 = 0 → f1 0 = li (rcF tx ty ix r k)) ∧ Wd D (KO ho cL f1 :: kw1) [(cI, .int), (cQ, .int), (cL, .long)] (va_A (KO ho cL f :: kw) sz) t) (va_A (KO ho cL f :: kw) sz)) (XcM (fun _ => False) (fun _ => False) (va_A (KO ho cL f :: kw) sz)) 1 6 (va_A (KO ho cL f :: kw) sz) := by
  rcases hR with ⟨rfl, rfl, hi0, gq, rfl⟩ | ⟨hT, hc, gq, rfl⟩
  · refine mt_H (by decide +kernel) (Nat.le_of_ble_eq_true rfl) ?_
    intro P0 E0 S0 M0 A0 B0 T0 K0 C hN hZ hsz hz hP hK hD hAz hA hr hk htb hXc ls hl
    have hl : lv_has ls 5 [(0, .ref hx), (1, .int (ii r)), (2, .int (ii k)), (3, .ref ho)] := hl
    generalize hAe : va_A [KO ho cL f, KX hx hr0 hq0 .null 0 dr, KP hr0 cI (fun _ => none), KQ hq0 cQ gq] sz = A at hD hAz hA ⊢
    have hS : va_S A S0.heap S0.heap [] := va_S.rf
    refine lv_aload_n C.1 C.2.1 dL_code_0 rfl (lv_at hl 3 rfl) ?_
    refine i_const C dL_code_1 ?_
    refine lv_aload_n C.1 C.2.1 dL_code_2 rfl (lv_at hl 0 rfl) ?_
    refine lv_iload_n C.1 C.2.1 dL_code_3 rfl (lv_at hl 1 rfl) ?_
    refine lv_iload_n C.1 C.2.1 dL_code_4 rfl (lv_at hl 2 rfl) ?_
    refine cx_V (As := [.int (ii r), .int (ii k)]) (rest := [.int (ii 0), .ref ho]) C (c_X1_code l hL D z0 hx hr0 hq0 .null 0 dr cI (fun _ => none) (fun j => sm2_none 1021) r hr1 k hk1) (pcx_preV _ hN hZ (hP.sub (ws' := [KX hx hr0 hq0 .null 0 dr, KP hr0 cI (fun _ => none)]) [1, 2] rfl) (hK.sub (tys' := [(cI, .int)]) [0] rfl) 0 (ci := 1) rfl rfl) aw_b_X1_code aw_m_L_40 aw_v_X1_code aw_i_X1 aw_e_X1_code ⟨rfl, rfl⟩ 2 (by decide +kernel) rfl ⟨by decide, by decide⟩ hl.1 rfl (Nat.le_of_ble_eq_true rfl) dL_code_5 ⟨by decide, by decide⟩ (fun hw H1 q9 ce z1 z2 z3 z4 z5 => ?_) (fun hok => ?_)
    · have hS := hS.on z1 z2
      have hP := hP.on z2
      rw [gd_i _ (nr_1 hw)]
      refine vx_catch (own := RL) (name := "java/lang/IndexOutOfBoundsException") (E := "java/lang/IndexOutOfBoundsException") C.2.2.2.1 [] ⟨0, 9, 12, 21⟩ [] htb (fun z hz => nomatch hz) (by decide) (by decide) (C.2.2.2.2 _ aw_c_L_21) (hXc.go (q := ("java/lang/IndexOutOfBoundsException", "java/lang/IndexOutOfBoundsException")) (by decide +kernel)) z3 z4 z5 ?_
      refine lv_astore C.1 C.2.1 dL_code_12 hl (by decide) rfl (fun ls hl => ?_)
      have hl : lv_has ls 5 [(4, .ref q9), (0, .ref hx), (1, .int (ii r)), (2, .int (ii k)), (3, .ref ho)] := hl
      refine i_const C dL_code_14 ?_
      exact py_i C hr hk hS trivial (fun t ht hvm => ⟨_, f, Or.inl ⟨rfl, rfl, hi0, gq, rfl⟩, (fun z => absurd z (by decide)), ⟨by rw [ht]; exact hP, va_K.moved hvm hK, hD⟩⟩) dL_code_15 rfl (by decide) (by decide)
    · have e9 : rcF tx ty ix r k = 0 := by unfold rcF; rw [if_pos (nr_0 hok), hi0]; rfl
      refine l_ast0 C hK hP hD hS 0 2 rfl rfl dL_code_8 (fun H2 locs2 f1 hf1 hP hD hS => ?_)
      have hP : va_P D clX [KO ho cL f1, KX hx hr0 hq0 .null 0 dr, KP hr0 cI (fun _ => none), KQ hq0 cQ gq] H2 := hP
      have hD : va_D A [KO ho cL f1, KX hx hr0 hq0 .null 0 dr, KP hr0 cI (fun _ => none), KQ hq0 cQ gq] := hD
      rw [nr_0 hok]
      refine lv_goto (tgt := 16) C.1 C.2.1 dL_code_9 (by decide) ?_
      refine i_const C dL_code_16 ?_
      exact py_i C hr hk hS trivial (fun t ht hvm => ⟨_, f1, Or.inl ⟨rfl, rfl, hi0, gq, rfl⟩, (fun _ => by rw [hf1, e9]; rfl), ⟨by rw [ht]; exact hP, va_K.moved hvm hK, hD⟩⟩) dL_code_17 rfl (by decide) (by decide)
  · refine mt_H (by decide +kernel) (Nat.le_of_ble_eq_true rfl) ?_
    intro P0 E0 S0 M0 A0 B0 T0 K0 C hN hZ hsz hz hP hK hD hAz hA hr hk htb hXc ls hl
    have hl : lv_has ls 5 [(0, .ref hx), (1, .int (ii r)), (2, .int (ii k)), (3, .ref ho)] := hl
    generalize hAe : va_A [KO ho cL f, KX hx hr0 hq0 (.ref hc) sec dr, KP hr0 cI (fun j => tbN p a gx gy (ix j)), KQ hq0 cQ gq, KC hc p a b n (some (gx, gy))] sz = A at hD hAz hA ⊢
    have hS : va_S A S0.heap S0.heap [] := va_S.rf
    refine lv_aload_n C.1 C.2.1 dL_code_0 rfl (lv_at hl 3 rfl) ?_
    refine i_const C dL_code_1 ?_
    refine lv_aload_n C.1 C.2.1 dL_code_2 rfl (lv_at hl 0 rfl) ?_
    refine lv_iload_n C.1 C.2.1 dL_code_3 rfl (lv_at hl 1 rfl) ?_
    refine lv_iload_n C.1 C.2.1 dL_code_4 rfl (lv_at hl 2 rfl) ?_
    refine cx_V (As := [.int (ii r), .int (ii k)]) (rest := [.int (ii 0), .ref ho]) C (c_X1_code l hL D z0 hx hr0 hq0 (.ref hc) sec dr cI (fun j => tbN p a gx gy (ix j)) (fun j x y e => by have := hT.sm (ix j) x y e; have := hT.p5; omega) r hr1 k hk1) (pcx_preV _ hN hZ (hP.sub (ws' := [KX hx hr0 hq0 (.ref hc) sec dr, KP hr0 cI (fun j => tbN p a gx gy (ix j))]) [1, 2] rfl) (hK.sub (tys' := [(cI, .int)]) [0] rfl) 0 (ci := 1) rfl rfl) aw_b_X1_code aw_m_L_40 aw_v_X1_code aw_i_X1 aw_e_X1_code ⟨rfl, rfl⟩ 2 (by decide +kernel) rfl ⟨by decide, by decide⟩ hl.1 rfl (Nat.le_of_ble_eq_true rfl) dL_code_5 ⟨by decide, by decide⟩ (fun hw H1 q9 ce z1 z2 z3 z4 z5 => ?_) (fun hok => ?_)
    · have hS := hS.on z1 z2
      have hP := hP.on z2
      rw [gd_i _ (nr_1 hw)]
      refine vx_catch (own := RL) (name := "java/lang/IndexOutOfBoundsException") (E := "java/lang/IndexOutOfBoundsException") C.2.2.2.1 [] ⟨0, 9, 12, 21⟩ [] htb (fun z hz => nomatch hz) (by decide) (by decide) (C.2.2.2.2 _ aw_c_L_21) (hXc.go (q := ("java/lang/IndexOutOfBoundsException", "java/lang/IndexOutOfBoundsException")) (by decide +kernel)) z3 z4 z5 ?_
      refine lv_astore C.1 C.2.1 dL_code_12 hl (by decide) rfl (fun ls hl => ?_)
      have hl : lv_has ls 5 [(4, .ref q9), (0, .ref hx), (1, .int (ii r)), (2, .int (ii k)), (3, .ref ho)] := hl
      refine i_const C dL_code_14 ?_
      exact py_i C hr hk hS trivial (fun t ht hvm => ⟨_, f, Or.inr ⟨hT, hc, gq, rfl⟩, (fun z => absurd z (by decide)), ⟨by rw [ht]; exact hP, va_K.moved hvm hK, hD⟩⟩) dL_code_15 rfl (by decide) (by decide)
    · rw [hT.code hok hk1]
      refine l_ast0 C hK hP hD hS 0 2 rfl rfl dL_code_8 (fun H2 locs2 f1 hf1 hP hD hS => ?_)
      have hP : va_P D clX [KO ho cL f1, KX hx hr0 hq0 (.ref hc) sec dr, KP hr0 cI (fun j => tbN p a gx gy (ix j)), KQ hq0 cQ gq, KC hc p a b n (some (gx, gy))] H2 := hP
      have hD : va_D A [KO ho cL f1, KX hx hr0 hq0 (.ref hc) sec dr, KP hr0 cI (fun j => tbN p a gx gy (ix j)), KQ hq0 cQ gq, KC hc p a b n (some (gx, gy))] := hD
      rw [nr_0 hok]
      refine lv_goto (tgt := 16) C.1 C.2.1 dL_code_9 (by decide) ?_
      refine i_const C dL_code_16 ?_
      exact py_i C hr hk hS trivial (fun t ht hvm => ⟨_, f1, Or.inr ⟨hT, hc, gq, rfl⟩, (fun _ => hf1), ⟨by rw [ht]; exact hP, va_K.moved hvm hK, hD⟩⟩) dL_code_17 rfl (by decide) (by decide)
set_option maxRecDepth 100000 in
set_option maxHeartbeats 4000000 in
theorem wL_sign (l : Launch) (hL : l.stackTraces = false) (D : va_G) (z0 sz : Nat) (hx hr0 hq0 : Nat) (cI cQ : ClassId) (n p a b gx gy : Nat) (sec dr : Int) (ix tx ty : Nat → Nat) (kw : va_W) (hR : KR hx hr0 hq0 cI cQ n p a b gx gy sec dr ix tx ty kw) (ho : Nat) (cL : ClassId) (f : Nat → Int64) (z : Int) (hz1 : rl z) (V : Option (Nat × Int)) (hV : n ≠ 0 → soF (fun k => sg2 n (tx k.toNat) k (z % (n : Int)) sec) (ii ((dmF n 30 1 : Nat) : Int)) 24 1 (st1 (z % (n : Int)) sec) (vl1 (z % (n : Int)) sec) = V) : vx_Met l yL_sign (Cond.codeWith yL_sign cL_sign 5 (some .int) [(0, 8, 11, 19), (0, 8, 15, 56)] :: AW) ({ frames := 8, cells := 1, slots := 6, locals := 230 } : Room) (PcH D z0 sz (KO ho cL f :: kw) [(cI, .int), (cQ, .int), (cL, .long)] [.ref hx, .long (li z), .ref ho]) (QcM (some (.int (ii (thS n sec V)))) True (fun t => ∃ (kw1 : va_W) (f1 : Nat → Int64), KR hx hr0 hq0 cI cQ n p a b gx gy sec (drS n sec dr V) ix tx ty kw1 ∧ (thS n sec V = 0 → f1 0 = li (rvS n sec V)) ∧ Wd D (KO ho cL f1 :: kw1) [(cI, .int), (cQ, .int), (cL, .long)] (va_A (KO ho cL f :: kw) sz) t) (va_A (KO ho cL f :: kw) sz)) (XcM (fun _ => False) (fun _ => False) (va_A (KO ho cL f :: kw) sz)) 1 6 (va_A (KO ho cL f :: kw) sz) := by
  rcases hR with ⟨rfl, rfl, hi0, gq, rfl⟩ | ⟨hT, hc, gq, rfl⟩
  · have hTH : thS 0 0 V = 1 := rfl
    have hDR : drS 0 0 dr V = dr := rfl
    rw [hTH, hDR]
    refine mt_H (by decide +kernel) (Nat.le_of_ble_eq_true rfl) ?_
    intro P0 E0 S0 M0 A0 B0 T0 K0 C hN hZ hsz hz hP hK hD hAz hA hr hk htb hXc ls hl
    have hl : lv_has ls 5 [(0, .ref hx), (1, .long (li z)), (3, .ref ho)] := hl
    generalize hAe : va_A [KO ho cL f, KX hx hr0 hq0 .null 0 dr, KP hr0 cI (fun _ => none), KQ hq0 cQ gq] sz = A at hD hAz hA ⊢
    have hS : va_S A S0.heap S0.heap [] := va_S.rf
    refine lv_aload_n C.1 C.2.1 dL_sign_0 rfl (lv_at hl 2 rfl) ?_
    refine i_const C dL_sign_1 ?_
    refine lv_aload_n C.1 C.2.1 dL_sign_2 rfl (lv_at hl 0 rfl) ?_
    refine lv_lload_n C.1 C.2.1 dL_sign_3 rfl (lv_at hl 1 rfl) ?_
    refine cx_V (As := [.long (li z)]) (rest := [.int (ii 0), .ref ho]) C (c_X1_sign_n l hL D z0 hx hr0 hq0 0 dr (li z)) (pcx_preV _ hN hZ (hP.sub (ws' := [KX hx hr0 hq0 .null 0 dr]) [1] rfl) (hK.sub (tys' := []) [] rfl) 0 (ci := 1) rfl rfl) aw_b_X1_sign aw_m_L_52 aw_v_X1_sign aw_i_X1 aw_e_X1_sign ⟨rfl, rfl⟩ 1 (by decide +kernel) rfl ⟨by decide, by decide⟩ hl.1 rfl (Nat.le_of_ble_eq_true rfl) dL_sign_4 ⟨by decide, by decide⟩ (fun hw H1 q9 ce z1 z2 z3 z4 z5 => ?_) (fun h => h.elim)
    have hS := hS.on z1 z2
    have hP := hP.on z2
    refine vx_catch (own := RL) (name := "java/lang/IllegalStateException") (E := "java/lang/IllegalStateException") C.2.2.2.1 [] ⟨0, 8, 11, 19⟩ [⟨0, 8, 15, 56⟩] htb (fun z hz => nomatch hz) (by decide) (by decide) (C.2.2.2.2 _ aw_c_L_19) (hXc.go (q := ("java/lang/IllegalStateException", "java/lang/IllegalStateException")) (by decide +kernel)) z3 z4 z5 ?_
    refine lv_astore C.1 C.2.1 dL_sign_11 hl (by decide) rfl (fun ls hl => ?_)
    have hl : lv_has ls 5 [(4, .ref q9), (0, .ref hx), (1, .long (li z)), (3, .ref ho)] := hl
    refine i_const C dL_sign_13 ?_
    exact py_i C hr hk hS trivial (fun t ht hvm => ⟨_, f, Or.inl ⟨rfl, rfl, hi0, gq, rfl⟩, (fun z => absurd z (by decide)), ⟨by rw [ht]; exact hP, va_K.moved hvm hK, hD⟩⟩) dL_sign_14 rfl (by decide) (by decide)
  · have n3 := hT.n3
    have hVV := hV (by omega)
    refine mt_H (by decide +kernel) (Nat.le_of_ble_eq_true rfl) ?_
    intro P0 E0 S0 M0 A0 B0 T0 K0 C hN hZ hsz hz hP hK hD hAz hA hr hk htb hXc ls hl
    have hl : lv_has ls 5 [(0, .ref hx), (1, .long (li z)), (3, .ref ho)] := hl
    generalize hAe : va_A [KO ho cL f, KX hx hr0 hq0 (.ref hc) sec dr, KP hr0 cI (fun j => tbN p a gx gy (ix j)), KQ hq0 cQ gq, KC hc p a b n (some (gx, gy))] sz = A at hD hAz hA ⊢
    have hS : va_S A S0.heap S0.heap [] := va_S.rf
    refine lv_aload_n C.1 C.2.1 dL_sign_0 rfl (lv_at hl 2 rfl) ?_
    refine i_const C dL_sign_1 ?_
    refine lv_aload_n C.1 C.2.1 dL_sign_2 rfl (lv_at hl 0 rfl) ?_
    refine lv_lload_n C.1 C.2.1 dL_sign_3 rfl (lv_at hl 1 rfl) ?_
    have hFc := va_free (wc := [KX hx hr0 hq0 (.ref hc) sec dr, KC hc p a b n (some (gx, gy))]) hD hS hA [1, 4] rfl
    refine cy_V (As := [.long (li z)]) (rest := [.int (ii 0), .ref ho]) C (c_X1_sign l hL D z0 _ hx hr0 hq0 hc sec dr p a b n (some (gx, gy)) hT.p5 hT.la hT.lb hT.n2 hT.sG (sgX n gx gy tx ty) hT.sgM hT.sgB (by have := hT.2.2.2.2.1; have := hT.2.2.1; omega) z hz1 V (by rw [hT.sgV]; exact hVV)) (pcm_preV _ hN (Zs.on hZ hS hAz) (by have := hS.1; omega) (hP.sub (ws' := [KX hx hr0 hq0 (.ref hc) sec dr, KC hc p a b n (some (gx, gy))]) [1, 4] rfl) (hK.sub (tys' := []) [] rfl) ((hD.sub (ws' := [KX hx hr0 hq0 (.ref hc) sec dr, KC hc p a b n (some (gx, gy))]) [1, 4] (by decide) rfl).weaken (fun _ _ _ h => hAz _ h)) 0 (ci := 1) rfl rfl) hS hFc aw_b_X1_sign aw_m_L_52 aw_v_X1_sign aw_i_X1 aw_e_X1_sign ⟨rfl, rfl⟩ 1 (by decide +kernel) rfl ⟨by decide, by decide⟩ hl.1 rfl (Nat.le_of_ble_eq_true rfl) dL_sign_4 ⟨by decide, by decide⟩ (fun E t H1 locs1 q9 ce ht hvm hw hB jz1 jk1 hS z3 z4 z5 => ?_) (fun t H1 locs1 ht hvm hok hB jz1 jk1 hS => ?_)
    · obtain ⟨hP1, hK1, hD1⟩ := hB
      rw [ht] at hP1
      obtain ⟨hP, hD⟩ := va_join (wr := [KO ho cL f, KP hr0 cI (fun j => tbN p a gx gy (ix j)), KQ hq0 cQ gq]) (w1 := [KX hx hr0 hq0 (.ref hc) sec dr, KC hc p a b n (some (gx, gy))]) hP hD [1, 4] [0, 2, 3] rfl rfl (by decide) (by decide) jk1 hFc hP1 hD1
      have hP := hP.sub (ws' := [KO ho cL f, KX hx hr0 hq0 (.ref hc) sec dr, KP hr0 cI (fun j => tbN p a gx gy (ix j)), KQ hq0 cQ gq, KC hc p a b n (some (gx, gy))]) [0, 3, 1, 2, 4] rfl
      have hD := hD.sub (ws' := [KO ho cL f, KX hx hr0 hq0 (.ref hc) sec dr, KP hr0 cI (fun j => tbN p a gx gy (ix j)), KQ hq0 cQ gq, KC hc p a b n (some (gx, gy))]) [0, 3, 1, 2, 4] (by decide) rfl
      rcases hw with ⟨rfl, hw⟩ | ⟨rfl, hw⟩
      · have hTH : thS n sec V = 1 := by unfold thS; rw [if_neg (by omega), if_pos hw]
        have hDR : drS n sec dr V = dr := by unfold drS; rw [if_neg (by omega), if_pos hw]
        rw [hTH, hDR]
        refine vx_catch (own := RL) (name := "java/lang/IllegalStateException") (E := "java/lang/IllegalStateException") C.2.2.2.1 [] ⟨0, 8, 11, 19⟩ [⟨0, 8, 15, 56⟩] htb (fun z hz => nomatch hz) (by decide) (by decide) (C.2.2.2.2 _ aw_c_L_19) (hXc.go (q := ("java/lang/IllegalStateException", "java/lang/IllegalStateException")) (by decide +kernel)) z3 z4 z5 ?_
        refine lv_astore C.1 C.2.1 dL_sign_11 hl (by decide) rfl (fun ls hl => ?_)
        have hl : lv_has ls 5 [(4, .ref q9), (0, .ref hx), (1, .long (li z)), (3, .ref ho)] := hl
        refine i_const C dL_sign_13 ?_
        exact py_i C hr hk hS trivial (fun t ht hvm => ⟨_, f, Or.inr ⟨hT, hc, gq, rfl⟩, (fun z => absurd z (by decide)), ⟨by rw [ht]; exact hP, va_K.moved hvm hK, hD⟩⟩) dL_sign_14 rfl (by decide) (by decide)
      · have hTH : thS n sec V = 2 := by unfold thS; rw [if_neg (by omega), if_neg hw.1, if_pos hw.2]
        have hDR : drS n sec dr V = dr := by unfold drS; rw [if_neg (by omega), if_neg hw.1, if_pos hw.2]
        rw [hTH, hDR]
        refine vx_catch (own := RL) (name := "java/lang/ArithmeticException") (E := "java/lang/ArithmeticException") C.2.2.2.1 [⟨0, 8, 11, 19⟩] ⟨0, 8, 15, 56⟩ [] htb (fun z hz => by cases List.mem_singleton.mp hz; exact Or.inr ⟨by decide, "java/lang/IllegalStateException", C.2.2.2.2 _ aw_c_L_19, hXc.2 ("java/lang/ArithmeticException", "java/lang/IllegalStateException") (by decide +kernel)⟩) (by decide) (by decide) (C.2.2.2.2 _ aw_c_L_56) (hXc.go (q := ("java/lang/ArithmeticException", "java/lang/ArithmeticException")) (by decide +kernel)) z3 z4 z5 ?_
        refine lv_astore C.1 C.2.1 dL_sign_15 hl (by decide) rfl (fun ls hl => ?_)
        have hl : lv_has ls 5 [(4, .ref q9), (0, .ref hx), (1, .long (li z)), (3, .ref ho)] := hl
        refine i_const C dL_sign_17 ?_
        exact py_i C hr hk hS trivial (fun t ht hvm => ⟨_, f, Or.inr ⟨hT, hc, gq, rfl⟩, (fun z => absurd z (by decide)), ⟨by rw [ht]; exact hP, va_K.moved hvm hK, hD⟩⟩) dL_sign_18 rfl (by decide) (by decide)
    · have hTH : thS n sec V = 0 := by unfold thS; rw [if_neg (by omega), if_neg hok.1, if_neg hok.2]
      have hDR : drS n sec dr V = ((V.getD (0, 0)).1 : Int) := by unfold drS; rw [if_neg (by omega), if_neg hok.1, if_neg hok.2]
      have hRV : rvS n sec V = (V.getD (0, 0)).2 := by unfold rvS; rw [if_neg (by omega), if_neg hok.1]
      rw [hTH, hDR, hRV]
      obtain ⟨hP1, hK1, hD1⟩ := hB
      rw [ht] at hP1
      obtain ⟨hP, hD⟩ := va_join (wr := [KO ho cL f, KP hr0 cI (fun j => tbN p a gx gy (ix j)), KQ hq0 cQ gq]) (w1 := [KX hx hr0 hq0 (.ref hc) sec ((V.getD (0, 0)).1 : Int), KC hc p a b n (some (gx, gy))]) hP hD [1, 4] [0, 2, 3] rfl rfl (by decide) (by decide) jk1 hFc hP1 hD1
      have hP := hP.sub (ws' := [KO ho cL f, KX hx hr0 hq0 (.ref hc) sec ((V.getD (0, 0)).1 : Int), KP hr0 cI (fun j => tbN p a gx gy (ix j)), KQ hq0 cQ gq, KC hc p a b n (some (gx, gy))]) [0, 3, 1, 2, 4] rfl
      have hD := hD.sub (ws' := [KO ho cL f, KX hx hr0 hq0 (.ref hc) sec ((V.getD (0, 0)).1 : Int), KP hr0 cI (fun j => tbN p a gx gy (ix j)), KQ hq0 cQ gq, KC hc p a b n (some (gx, gy))]) [0, 3, 1, 2, 4] (by decide) rfl
      refine l_ast0 C hK hP hD hS 0 2 rfl rfl dL_sign_7 (fun H2 locs2 f1 hf1 hP hD hS => ?_)
      have hP : va_P D clX [KO ho cL f1, KX hx hr0 hq0 (.ref hc) sec ((V.getD (0, 0)).1 : Int), KP hr0 cI (fun j => tbN p a gx gy (ix j)), KQ hq0 cQ gq, KC hc p a b n (some (gx, gy))] H2 := hP
      have hD : va_D A [KO ho cL f1, KX hx hr0 hq0 (.ref hc) sec ((V.getD (0, 0)).1 : Int), KP hr0 cI (fun j => tbN p a gx gy (ix j)), KQ hq0 cQ gq, KC hc p a b n (some (gx, gy))] := hD
      refine lv_goto (tgt := 19) C.1 C.2.1 dL_sign_8 (by decide) ?_
      refine i_const C dL_sign_19 ?_
      exact py_i C hr hk hS trivial (fun t ht hvm => ⟨_, f1, Or.inr ⟨hT, hc, gq, rfl⟩, (fun _ => hf1), ⟨by rw [ht]; exact hP, va_K.moved hvm hK, hD⟩⟩) dL_sign_20 rfl (by decide) (by decide)
set_option maxRecDepth 100000 in
set_option maxHeartbeats 4000000 in
theorem wL_verify (l : Launch) (hL : l.stackTraces = false) (D : va_G) (z0 sz : Nat) (hx hr0 hq0 : Nat) (cI cQ : ClassId) (n p a b gx gy : Nat) (sec dr : Int) (ix tx ty : Nat → Nat) (kw : va_W) (hR : KR hx hr0 hq0 cI cQ n p a b gx gy sec dr ix tx ty kw) (ho : Nat) (cL : ClassId) (f : Nat → Int64) (q z r s : Int) (hq1 : rg q) (hz1 : rl z) (hr1 : rg r) (hs1 : rg s) : vx_Met l yL_verify (Cond.codeWith yL_verify cL_verify 8 (some .int) [(0, 22, 25, 19), (0, 22, 29, 21)] :: AW) ({ frames := 8, cells := 1, slots := 6, locals := 220 } : Room) (PcH D z0 sz (KO ho cL f :: kw) [(cI, .int), (cQ, .int), (cL, .long)] [.ref hx, .int (ii q), .long (li z), .int (ii r), .int (ii s), .ref ho]) (QcM (some (.int (ii (gdF (zb n) (nrF q) 0)))) True (fun t => ∃ (kw1 : va_W) (f1 : Nat → Int64), KR hx hr0 hq0 cI cQ n p a b gx gy sec dr ix tx ty kw1 ∧ (gdF (zb n) (nrF q) 0 = 0 → f1 0 = li (veF tx ix n q z r s)) ∧ Wd D (KO ho cL f1 :: kw1) [(cI, .int), (cQ, .int), (cL, .long)] (va_A (KO ho cL f :: kw) sz) t) (va_A (KO ho cL f :: kw) sz)) (XcM (fun _ => False) (fun _ => False) (va_A (KO ho cL f :: kw) sz)) 1 6 (va_A (KO ho cL f :: kw) sz) := by
  rcases hR with ⟨rfl, rfl, hi0, gq, rfl⟩ | ⟨hT, hc, gq, rfl⟩
  · have hTH : gdF (zb 0) (nrF q) 0 = 1 := rfl
    rw [hTH]
    refine mt_H (by decide +kernel) (Nat.le_of_ble_eq_true rfl) ?_
    intro P0 E0 S0 M0 A0 B0 T0 K0 C hN hZ hsz hz hP hK hD hAz hA hr hk htb hXc ls hl
    have hl : lv_has ls 8 [(0, .ref hx), (1, .int (ii q)), (2, .long (li z)), (4, .int (ii r)), (5, .int (ii s)), (6, .ref ho)] := hl
    generalize hAe : va_A [KO ho cL f, KX hx hr0 hq0 .null 0 dr, KP hr0 cI (fun _ => none), KQ hq0 cQ gq] sz = A at hD hAz hA ⊢
    have hS : va_S A S0.heap S0.heap [] := va_S.rf
    refine lv_aload C.1 C.2.1 dL_verify_0 (lv_at hl 5 rfl) ?_
    refine i_const C dL_verify_2 ?_
    refine lv_aload_n C.1 C.2.1 dL_verify_3 rfl (lv_at hl 0 rfl) ?_
    refine lv_iload_n C.1 C.2.1 dL_verify_4 rfl (lv_at hl 1 rfl) ?_
    refine lv_lload_n C.1 C.2.1 dL_verify_5 rfl (lv_at hl 2 rfl) ?_
    refine lv_iload C.1 C.2.1 dL_verify_6 (lv_at hl 3 rfl) ?_
    refine lv_iload C.1 C.2.1 dL_verify_8 (lv_at hl 4 rfl) ?_
    refine cx_V (As := [.int (ii q), .long (li z), .int (ii r), .int (ii s)]) (rest := [.int (ii 0), .ref ho]) C (c_X1_verify_n l hL D z0 hx hr0 hq0 0 dr (ii q) (ii r) (ii s) (li z)) (pcx_preV _ hN hZ (hP.sub (ws' := [KX hx hr0 hq0 .null 0 dr]) [1] rfl) (hK.sub (tys' := []) [] rfl) 0 (ci := 1) rfl rfl) aw_b_X1_verify aw_m_L_58 aw_v_X1_verify aw_i_X1 aw_e_X1_verify ⟨rfl, rfl⟩ 4 (by decide +kernel) rfl ⟨by decide, by decide⟩ hl.1 rfl (Nat.le_of_ble_eq_true rfl) dL_verify_10 ⟨by decide, by decide⟩ (fun hw H1 q9 ce z1 z2 z3 z4 z5 => ?_) (fun h => h.elim)
    have hS := hS.on z1 z2
    have hP := hP.on z2
    refine vx_catch (own := RL) (name := "java/lang/IllegalStateException") (E := "java/lang/IllegalStateException") C.2.2.2.1 [] ⟨0, 22, 25, 19⟩ [⟨0, 22, 29, 21⟩] htb (fun z hz => nomatch hz) (by decide) (by decide) (C.2.2.2.2 _ aw_c_L_19) (hXc.go (q := ("java/lang/IllegalStateException", "java/lang/IllegalStateException")) (by decide +kernel)) z3 z4 z5 ?_
    refine lv_astore C.1 C.2.1 dL_verify_25 hl (by decide) rfl (fun ls hl => ?_)
    have hl : lv_has ls 8 [(7, .ref q9), (0, .ref hx), (1, .int (ii q)), (2, .long (li z)), (4, .int (ii r)), (5, .int (ii s)), (6, .ref ho)] := hl
    refine i_const C dL_verify_27 ?_
    exact py_i C hr hk hS trivial (fun t ht hvm => ⟨_, f, Or.inl ⟨rfl, rfl, hi0, gq, rfl⟩, (fun z => absurd z (by decide)), ⟨by rw [ht]; exact hP, va_K.moved hvm hK, hD⟩⟩) dL_verify_28 rfl (by decide) (by decide)
  · rw [hT.zn]
    refine mt_H (by decide +kernel) (Nat.le_of_ble_eq_true rfl) ?_
    intro P0 E0 S0 M0 A0 B0 T0 K0 C hN hZ hsz hz hP hK hD hAz hA hr hk htb hXc ls hl
    have hl : lv_has ls 8 [(0, .ref hx), (1, .int (ii q)), (2, .long (li z)), (4, .int (ii r)), (5, .int (ii s)), (6, .ref ho)] := hl
    generalize hAe : va_A [KO ho cL f, KX hx hr0 hq0 (.ref hc) sec dr, KP hr0 cI (fun j => tbN p a gx gy (ix j)), KQ hq0 cQ gq, KC hc p a b n (some (gx, gy))] sz = A at hD hAz hA ⊢
    have hS : va_S A S0.heap S0.heap [] := va_S.rf
    refine lv_aload C.1 C.2.1 dL_verify_0 (lv_at hl 5 rfl) ?_
    refine i_const C dL_verify_2 ?_
    refine lv_aload_n C.1 C.2.1 dL_verify_3 rfl (lv_at hl 0 rfl) ?_
    refine lv_iload_n C.1 C.2.1 dL_verify_4 rfl (lv_at hl 1 rfl) ?_
    refine lv_lload_n C.1 C.2.1 dL_verify_5 rfl (lv_at hl 2 rfl) ?_
    refine lv_iload C.1 C.2.1 dL_verify_6 (lv_at hl 3 rfl) ?_
    refine lv_iload C.1 C.2.1 dL_verify_8 (lv_at hl 4 rfl) ?_
    refine cx_V (As := [.int (ii q), .long (li z), .int (ii r), .int (ii s)]) (rest := [.int (ii 0), .ref ho]) C (c_X1_verify l hL D z0 hx hr0 hq0 hc sec dr cI (fun j => tbN p a gx gy (ix j)) p a b n (some (gx, gy)) hT.p5 hT.la hT.lb hT.n2 hT.sG (fun j => hT.sm _) q hq1 z r s hz1 hr1 hs1) (pcx_preV _ hN hZ (hP.sub (ws' := [KX hx hr0 hq0 (.ref hc) sec dr, KP hr0 cI (fun j => tbN p a gx gy (ix j)), KC hc p a b n (some (gx, gy))]) [1, 2, 4] rfl) (hK.sub (tys' := [(cI, .int)]) [0] rfl) 0 (ci := 1) rfl rfl) aw_b_X1_verify aw_m_L_58 aw_v_X1_verify aw_i_X1 aw_e_X1_verify ⟨rfl, rfl⟩ 4 (by decide +kernel) rfl ⟨by decide, by decide⟩ hl.1 rfl (Nat.le_of_ble_eq_true rfl) dL_verify_10 ⟨by decide, by decide⟩ (fun hw H1 q9 ce z1 z2 z3 z4 z5 => ?_) (fun hok => ?_)
    · have hS := hS.on z1 z2
      have hP := hP.on z2
      rw [gd_2 (nr_1 hw)]
      refine vx_catch (own := RL) (name := "java/lang/IndexOutOfBoundsException") (E := "java/lang/IndexOutOfBoundsException") C.2.2.2.1 [⟨0, 22, 25, 19⟩] ⟨0, 22, 29, 21⟩ [] htb (fun z hz => by cases List.mem_singleton.mp hz; exact Or.inr ⟨by decide, "java/lang/IllegalStateException", C.2.2.2.2 _ aw_c_L_19, hXc.2 ("java/lang/IndexOutOfBoundsException", "java/lang/IllegalStateException") (by decide +kernel)⟩) (by decide) (by decide) (C.2.2.2.2 _ aw_c_L_21) (hXc.go (q := ("java/lang/IndexOutOfBoundsException", "java/lang/IndexOutOfBoundsException")) (by decide +kernel)) z3 z4 z5 ?_
      refine lv_astore C.1 C.2.1 dL_verify_29 hl (by decide) rfl (fun ls hl => ?_)
      have hl : lv_has ls 8 [(7, .ref q9), (0, .ref hx), (1, .int (ii q)), (2, .long (li z)), (4, .int (ii r)), (5, .int (ii s)), (6, .ref ho)] := hl
      refine i_const C dL_verify_31 ?_
      exact py_i C hr hk hS trivial (fun t ht hvm => ⟨_, f, Or.inr ⟨hT, hc, gq, rfl⟩, (fun z => absurd z (by decide)), ⟨by rw [ht]; exact hP, va_K.moved hvm hK, hD⟩⟩) dL_verify_32 rfl (by decide) (by decide)
    · have e9 : veF tx ix n q z r s = mfF tx n ((ix q.toNat : Nat) : Int) z r s := if_pos (by rw [hT.zn]; exact gd_0 (nr_0 hok) rfl)
      rw [gd_0 (nr_0 hok) rfl, hT.verify]
      have hbb := mfF_b tx n ((ix q.toNat : Nat) : Int) z r s
      refine i_if_eq (tgt := 20) C dL_verify_13 (by decide) ⟨by omega, by omega⟩ (fun hb => ?_) (fun hb => ?_)
      · refine l_const0 C dL_verify_20 ?_
        refine l_ast0 C hK hP hD hS 0 2 rfl rfl dL_verify_21 (fun H2 locs2 f1 hf1 hP hD hS => ?_)
        have hP : va_P D clX [KO ho cL f1, KX hx hr0 hq0 (.ref hc) sec dr, KP hr0 cI (fun j => tbN p a gx gy (ix j)), KQ hq0 cQ gq, KC hc p a b n (some (gx, gy))] H2 := hP
        have hD : va_D A [KO ho cL f1, KX hx hr0 hq0 (.ref hc) sec dr, KP hr0 cI (fun j => tbN p a gx gy (ix j)), KQ hq0 cQ gq, KC hc p a b n (some (gx, gy))] := hD
        refine lv_goto (tgt := 33) C.1 C.2.1 dL_verify_22 (by decide) ?_
        refine i_const C dL_verify_33 ?_
        exact py_i C hr hk hS trivial (fun t ht hvm => ⟨_, f1, Or.inr ⟨hT, hc, gq, rfl⟩, (fun _ => by rw [hf1, e9, hb]), ⟨by rw [ht]; exact hP, va_K.moved hvm hK, hD⟩⟩) dL_verify_34 rfl (by decide) (by decide)
      · refine l_const1 C dL_verify_16 ?_
        refine lv_goto (tgt := 21) C.1 C.2.1 dL_verify_17 (by decide) ?_
        refine l_ast0 C hK hP hD hS 0 2 rfl rfl dL_verify_21 (fun H2 locs2 f1 hf1 hP hD hS => ?_)
        have hP : va_P D clX [KO ho cL f1, KX hx hr0 hq0 (.ref hc) sec dr, KP hr0 cI (fun j => tbN p a gx gy (ix j)), KQ hq0 cQ gq, KC hc p a b n (some (gx, gy))] H2 := hP
        have hD : va_D A [KO ho cL f1, KX hx hr0 hq0 (.ref hc) sec dr, KP hr0 cI (fun j => tbN p a gx gy (ix j)), KQ hq0 cQ gq, KC hc p a b n (some (gx, gy))] := hD
        refine lv_goto (tgt := 33) C.1 C.2.1 dL_verify_22 (by decide) ?_
        refine i_const C dL_verify_33 ?_
        exact py_i C hr hk hS trivial (fun t ht hvm => ⟨_, f1, Or.inr ⟨hT, hc, gq, rfl⟩, (fun _ => by rw [hf1, e9, show mfF tx n ((ix q.toNat : Nat) : Int) z r s = 1 from hbb.resolve_left hb]), ⟨by rw [ht]; exact hP, va_K.moved hvm hK, hD⟩⟩) dL_verify_34 rfl (by decide) (by decide)
set_option maxRecDepth 100000 in
set_option maxHeartbeats 4000000 in
theorem wL_accepts (l : Launch) (hL : l.stackTraces = false) (D : va_G) (z0 sz : Nat) (hx hr0 hq0 : Nat) (cI cQ : ClassId) (n p a b gx gy : Nat) (sec dr : Int) (ix tx ty : Nat → Nat) (kw : va_W) (hR : KR hx hr0 hq0 cI cQ n p a b gx gy sec dr ix tx ty kw) (ho : Nat) (cL : ClassId) (f : Nat → Int64) (k y z r s : Int) (hk1 : rg k) (hy1 : rl y) (hz1 : rl z) (hr1 : rg r) (hs1 : rg s) : vx_Met l yL_accepts (Cond.codeWith yL_accepts cL_accepts 10 (some .int) [(0, 24, 27, 19)] :: AW) ({ frames := 8, cells := 1, slots := 6, locals := 220 } : Room) (PcH D z0 sz (KO ho cL f :: kw) [(cI, .int), (cQ, .int), (cL, .long)] [.ref hx, .int (ii k), .long (li y), .long (li z), .int (ii r), .int (ii s), .ref ho]) (QcM (some (.int (ii (gdF (zb n) 0 0)))) True (fun t => ∃ (kw1 : va_W) (f1 : Nat → Int64), KR hx hr0 hq0 cI cQ n p a b gx gy sec dr ix tx ty kw1 ∧ (gdF (zb n) 0 0 = 0 → f1 0 = li (vaF tx ty n k y z r s)) ∧ Wd D (KO ho cL f1 :: kw1) [(cI, .int), (cQ, .int), (cL, .long)] (va_A (KO ho cL f :: kw) sz) t) (va_A (KO ho cL f :: kw) sz)) (XcM (fun _ => False) (fun _ => False) (va_A (KO ho cL f :: kw) sz)) 1 6 (va_A (KO ho cL f :: kw) sz) := by
  rcases hR with ⟨rfl, rfl, hi0, gq, rfl⟩ | ⟨hT, hc, gq, rfl⟩
  · have hTH : gdF (zb 0) 0 0 = 1 := rfl
    rw [hTH]
    refine mt_H (by decide +kernel) (Nat.le_of_ble_eq_true rfl) ?_
    intro P0 E0 S0 M0 A0 B0 T0 K0 C hN hZ hsz hz hP hK hD hAz hA hr hk htb hXc ls hl
    have hl : lv_has ls 10 [(0, .ref hx), (1, .int (ii k)), (2, .long (li y)), (4, .long (li z)), (6, .int (ii r)), (7, .int (ii s)), (8, .ref ho)] := hl
    generalize hAe : va_A [KO ho cL f, KX hx hr0 hq0 .null 0 dr, KP hr0 cI (fun _ => none), KQ hq0 cQ gq] sz = A at hD hAz hA ⊢
    have hS : va_S A S0.heap S0.heap [] := va_S.rf
    refine lv_aload C.1 C.2.1 dL_accepts_0 (lv_at hl 6 rfl) ?_
    refine i_const C dL_accepts_2 ?_
    refine lv_aload_n C.1 C.2.1 dL_accepts_3 rfl (lv_at hl 0 rfl) ?_
    refine lv_iload_n C.1 C.2.1 dL_accepts_4 rfl (lv_at hl 1 rfl) ?_
    refine lv_lload_n C.1 C.2.1 dL_accepts_5 rfl (lv_at hl 2 rfl) ?_
    refine lv_lload C.1 C.2.1 dL_accepts_6 (lv_at hl 3 rfl) ?_
    refine lv_iload C.1 C.2.1 dL_accepts_8 (lv_at hl 4 rfl) ?_
    refine lv_iload C.1 C.2.1 dL_accepts_10 (lv_at hl 5 rfl) ?_
    refine cx_V (As := [.int (ii k), .long (li y), .long (li z), .int (ii r), .int (ii s)]) (rest := [.int (ii 0), .ref ho]) C (c_X1_accepts_n l hL D z0 hx hr0 hq0 0 dr (ii k) (ii r) (ii s) (li y) (li z)) (pcx_preV _ hN hZ (hP.sub (ws' := [KX hx hr0 hq0 .null 0 dr]) [1] rfl) (hK.sub (tys' := []) [] rfl) 0 (ci := 1) rfl rfl) aw_b_X1_accepts aw_m_L_62 aw_v_X1_accepts aw_i_X1 aw_e_X1_accepts ⟨rfl, rfl⟩ 5 (by decide +kernel) rfl ⟨by decide, by decide⟩ hl.1 rfl (Nat.le_of_ble_eq_true rfl) dL_accepts_12 ⟨by decide, by decide⟩ (fun hw H1 q9 ce z1 z2 z3 z4 z5 => ?_) (fun h => h.elim)
    have hS := hS.on z1 z2
    have hP := hP.on z2
    refine vx_catch (own := RL) (name := "java/lang/IllegalStateException") (E := "java/lang/IllegalStateException") C.2.2.2.1 [] ⟨0, 24, 27, 19⟩ [] htb (fun z hz => nomatch hz) (by decide) (by decide) (C.2.2.2.2 _ aw_c_L_19) (hXc.go (q := ("java/lang/IllegalStateException", "java/lang/IllegalStateException")) (by decide +kernel)) z3 z4 z5 ?_
    refine lv_astore C.1 C.2.1 dL_accepts_27 hl (by decide) rfl (fun ls hl => ?_)
    have hl : lv_has ls 10 [(9, .ref q9), (0, .ref hx), (1, .int (ii k)), (2, .long (li y)), (4, .long (li z)), (6, .int (ii r)), (7, .int (ii s)), (8, .ref ho)] := hl
    refine i_const C dL_accepts_29 ?_
    exact py_i C hr hk hS trivial (fun t ht hvm => ⟨_, f, Or.inl ⟨rfl, rfl, hi0, gq, rfl⟩, (fun z => absurd z (by decide)), ⟨by rw [ht]; exact hP, va_K.moved hvm hK, hD⟩⟩) dL_accepts_30 rfl (by decide) (by decide)
  · rw [hT.zn]
    refine mt_H (by decide +kernel) (Nat.le_of_ble_eq_true rfl) ?_
    intro P0 E0 S0 M0 A0 B0 T0 K0 C hN hZ hsz hz hP hK hD hAz hA hr hk htb hXc ls hl
    have hl : lv_has ls 10 [(0, .ref hx), (1, .int (ii k)), (2, .long (li y)), (4, .long (li z)), (6, .int (ii r)), (7, .int (ii s)), (8, .ref ho)] := hl
    generalize hAe : va_A [KO ho cL f, KX hx hr0 hq0 (.ref hc) sec dr, KP hr0 cI (fun j => tbN p a gx gy (ix j)), KQ hq0 cQ gq, KC hc p a b n (some (gx, gy))] sz = A at hD hAz hA ⊢
    have hS : va_S A S0.heap S0.heap [] := va_S.rf
    refine lv_aload C.1 C.2.1 dL_accepts_0 (lv_at hl 6 rfl) ?_
    refine i_const C dL_accepts_2 ?_
    refine lv_aload_n C.1 C.2.1 dL_accepts_3 rfl (lv_at hl 0 rfl) ?_
    refine lv_iload_n C.1 C.2.1 dL_accepts_4 rfl (lv_at hl 1 rfl) ?_
    refine lv_lload_n C.1 C.2.1 dL_accepts_5 rfl (lv_at hl 2 rfl) ?_
    refine lv_lload C.1 C.2.1 dL_accepts_6 (lv_at hl 3 rfl) ?_
    refine lv_iload C.1 C.2.1 dL_accepts_8 (lv_at hl 4 rfl) ?_
    refine lv_iload C.1 C.2.1 dL_accepts_10 (lv_at hl 5 rfl) ?_
    refine cx_V (As := [.int (ii k), .long (li y), .long (li z), .int (ii r), .int (ii s)]) (rest := [.int (ii 0), .ref ho]) C (c_X1_accepts l hL D z0 hx hr0 hq0 hc sec dr cI (fun j => tbN p a gx gy (ix j)) p a b n (some (gx, gy)) hT.p5 hT.la hT.lb hT.n2 hT.sG hT.cub0 k y z r s hk1 hy1 hz1 hr1 hs1) (pcx_preV _ hN hZ (hP.sub (ws' := [KX hx hr0 hq0 (.ref hc) sec dr, KP hr0 cI (fun j => tbN p a gx gy (ix j)), KC hc p a b n (some (gx, gy))]) [1, 2, 4] rfl) (hK.sub (tys' := [(cI, .int)]) [0] rfl) 0 (ci := 1) rfl rfl) aw_b_X1_accepts aw_m_L_62 aw_v_X1_accepts aw_i_X1 aw_e_X1_accepts ⟨rfl, rfl⟩ 5 (by decide +kernel) rfl ⟨by decide, by decide⟩ hl.1 rfl (Nat.le_of_ble_eq_true rfl) dL_accepts_12 ⟨by decide, by decide⟩ (fun h => h.elim) (fun hok => ?_)
    have e9 : vaF tx ty n k y z r s = mfF tx n (reF tx ty n k y) z r s := if_pos (by rw [hT.zn]; rfl)
    rw [hT.acc]
    have hbb := mfF_b tx n (reF tx ty n k y) z r s
    refine i_if_eq (tgt := 22) C dL_accepts_15 (by decide) ⟨by omega, by omega⟩ (fun hb => ?_) (fun hb => ?_)
    · refine l_const0 C dL_accepts_22 ?_
      refine l_ast0 C hK hP hD hS 0 2 rfl rfl dL_accepts_23 (fun H2 locs2 f1 hf1 hP hD hS => ?_)
      have hP : va_P D clX [KO ho cL f1, KX hx hr0 hq0 (.ref hc) sec dr, KP hr0 cI (fun j => tbN p a gx gy (ix j)), KQ hq0 cQ gq, KC hc p a b n (some (gx, gy))] H2 := hP
      have hD : va_D A [KO ho cL f1, KX hx hr0 hq0 (.ref hc) sec dr, KP hr0 cI (fun j => tbN p a gx gy (ix j)), KQ hq0 cQ gq, KC hc p a b n (some (gx, gy))] := hD
      refine lv_goto (tgt := 31) C.1 C.2.1 dL_accepts_24 (by decide) ?_
      refine i_const C dL_accepts_31 ?_
      exact py_i C hr hk hS trivial (fun t ht hvm => ⟨_, f1, Or.inr ⟨hT, hc, gq, rfl⟩, (fun _ => by rw [hf1, e9, hb]), ⟨by rw [ht]; exact hP, va_K.moved hvm hK, hD⟩⟩) dL_accepts_32 rfl (by decide) (by decide)
    · refine l_const1 C dL_accepts_18 ?_
      refine lv_goto (tgt := 23) C.1 C.2.1 dL_accepts_19 (by decide) ?_
      refine l_ast0 C hK hP hD hS 0 2 rfl rfl dL_accepts_23 (fun H2 locs2 f1 hf1 hP hD hS => ?_)
      have hP : va_P D clX [KO ho cL f1, KX hx hr0 hq0 (.ref hc) sec dr, KP hr0 cI (fun j => tbN p a gx gy (ix j)), KQ hq0 cQ gq, KC hc p a b n (some (gx, gy))] H2 := hP
      have hD : va_D A [KO ho cL f1, KX hx hr0 hq0 (.ref hc) sec dr, KP hr0 cI (fun j => tbN p a gx gy (ix j)), KQ hq0 cQ gq, KC hc p a b n (some (gx, gy))] := hD
      refine lv_goto (tgt := 31) C.1 C.2.1 dL_accepts_24 (by decide) ?_
      refine i_const C dL_accepts_31 ?_
      exact py_i C hr hk hS trivial (fun t ht hvm => ⟨_, f1, Or.inr ⟨hT, hc, gq, rfl⟩, (fun _ => by rw [hf1, e9, show mfF tx n (reF tx ty n k y) z r s = 1 from hbb.resolve_left hb]), ⟨by rw [ht]; exact hP, va_K.moved hvm hK, hD⟩⟩) dL_accepts_32 rfl (by decide) (by decide)
