/-! The class: its constructor. By wip/whole/tools/gen11.py. -/
set_option maxRecDepth 100000 in
set_option maxHeartbeats 600000 in
theorem c_X1_init (l : Launch) (D : va_G) (z0 sz : Nat) (hx : Nat) : Met l yX1_init (Cond.code yX1_init cX1_init 1 none :: AW) ({ frames := 1, cells := 2, slots := 1025, locals := 40 } : Room) (PcM D z0 sz [(hx, .inr (1, [.null, .null, .null, .int 0, .int 0]))] [] [.ref hx]) (QcM none True (fun t => ∃ (hr0 hq0 : Nat) (cI cQ : ClassId), Wd D [(hx, .inr (1, [.ref hr0, .ref hq0, .null, .int (ii 0), .int (ii 0)])), (hr0, .inl (cI, 4, .inl (fun _ => ii (-1)))), (hq0, .inl (cQ, 1021, .inl (fun _ => 0)))] [(cI, .int), (cQ, .int)] (va_A [(hx, .inr (1, [.null, .null, .null, .int 0, .int 0]))] sz) t) (va_A [(hx, .inr (1, [.null, .null, .null, .int 0, .int 0]))] sz)) 2 1025 (va_A [(hx, .inr (1, [.null, .null, .null, .int 0, .int 0]))] sz) := by
  refine mt_N (by decide +kernel) (Nat.le_of_ble_eq_true rfl) ?_
  intro P0 E0 S0 M0 A0 B0 T0 K0 C hN hZ hsz hz hP hK hD hAz hA hr hk hin ls hl
  have hl : lv_has ls 1 [(0, .ref hx)] := hl
  generalize hAe : va_A [(hx, .inr (1, [.null, .null, .null, .int 0, .int 0]))] sz = A at hD hAz hA ⊢
  have hS : va_S A S0.heap S0.heap [] := va_S.rf
  refine lv_aload_n C.1 C.2.1 dX1_init_0 rfl (lv_at hl 0 rfl) ?_
  refine o_init C aw_m_X1_1 hl.1 dX1_init_1 ⟨by decide, by decide⟩ ?_
  refine lv_aload_n C.1 C.2.1 dX1_init_4 rfl (lv_at hl 0 rfl) ?_
  refine i_const C dX1_init_5 ?_
  refine va_newa (atype := .int) C.1 C.2.1 (C.2.2.2.2 _ aw_a_int) rfl hK hP hD hS hA (a0 := (4, .inl (fun _ => 0))) (N' := 4) (fun cA => rfl) (by decide +kernel) (by decide +kernel) (Nat.le_of_ble_eq_true rfl) (Nat.le_of_ble_eq_true rfl) (Nat.le_of_ble_eq_true rfl) dX1_init_6 (fun hr0 cI H1 hK hP hD hS => ?_)
  have hP : va_P D clX [(hx, .inr (1, [.null, .null, .null, .int 0, .int 0])), (hr0, .inl (cI, 4, .inl (fun _ => 0)))] H1 := hP
  have hD : va_D A [(hx, .inr (1, [.null, .null, .null, .int 0, .int 0])), (hr0, .inl (cI, 4, .inl (fun _ => 0)))] := hD
  have hK : va_K D clX [(cI, .int)] S0 := hK
  refine p_ff C hK hP hD hS 0 rfl rfl aw_uX1 tyX1 tyX1_ok nmX1 0 (by decide) aw_f_X1_9 rfl (hin rfl) rfl rfl rfl (Nat.le_of_ble_eq_true rfl) dX1_init_8 (fun H1 locs1 hP hD hS => ?_)
  have hP : va_P D clX [(hx, .inr (1, [.ref hr0, .null, .null, .int 0, .int 0])), (hr0, .inl (cI, 4, .inl (fun _ => 0)))] H1 := hP
  have hD : va_D A [(hx, .inr (1, [.ref hr0, .null, .null, .int 0, .int 0])), (hr0, .inl (cI, 4, .inl (fun _ => 0)))] := hD
  refine lv_aload_n C.1 C.2.1 dX1_init_11 rfl (lv_at hl 0 rfl) ?_
  refine i_sipush C dX1_init_12 (by decide +kernel) ?_
  refine va_newa (atype := .int) C.1 C.2.1 (C.2.2.2.2 _ aw_a_int) rfl hK hP hD hS hA (a0 := (1021, .inl (fun _ => 0))) (N' := 1021) (fun cA => rfl) (by decide +kernel) (by decide +kernel) (Nat.le_of_ble_eq_true rfl) (Nat.le_of_ble_eq_true rfl) (Nat.le_of_ble_eq_true rfl) dX1_init_15 (fun hq0 cQ H1 hK hP hD hS => ?_)
  have hP : va_P D clX [(hx, .inr (1, [.ref hr0, .null, .null, .int 0, .int 0])), (hr0, .inl (cI, 4, .inl (fun _ => 0))), (hq0, .inl (cQ, 1021, .inl (fun _ => 0)))] H1 := hP
  have hD : va_D A [(hx, .inr (1, [.ref hr0, .null, .null, .int 0, .int 0])), (hr0, .inl (cI, 4, .inl (fun _ => 0))), (hq0, .inl (cQ, 1021, .inl (fun _ => 0)))] := hD
  have hK : va_K D clX [(cI, .int), (cQ, .int)] S0 := hK
  refine p_ff C hK hP hD hS 0 rfl rfl aw_uX1 tyX1 tyX1_ok nmX1 1 (by decide) aw_f_X1_13 rfl (hin rfl) rfl rfl rfl (Nat.le_of_ble_eq_true rfl) dX1_init_17 (fun H1 locs1 hP hD hS => ?_)
  have hP : va_P D clX [(hx, .inr (1, [.ref hr0, .ref hq0, .null, .int 0, .int 0])), (hr0, .inl (cI, 4, .inl (fun _ => 0))), (hq0, .inl (cQ, 1021, .inl (fun _ => 0)))] H1 := hP
  have hD : va_D A [(hx, .inr (1, [.ref hr0, .ref hq0, .null, .int 0, .int 0])), (hr0, .inl (cI, 4, .inl (fun _ => 0))), (hq0, .inl (cQ, 1021, .inl (fun _ => 0)))] := hD
  refine lv_aload_n C.1 C.2.1 dX1_init_20 rfl (lv_at hl 0 rfl) ?_
  refine gf C hK hP 0 rfl rfl aw_uX1 0 (by decide) aw_f_X1_9 rfl dX1_init_21 ?_
  refine i_const C dX1_init_24 ?_
  have hFc := va_free (wc := [(hr0, .inl (cI, 4, .inl (fun _ => 0)))]) hD hS hA [1] rfl
  refine cn_S (As := [.ref hr0, .int (ii (-1))]) (rest := []) C (c_fill l D z0 H1.size hr0 4 cI (fun _ => 0) (ii (-1)) (by omega)) (pcm_pre _ hN (Zs.on hZ hS hAz) (by have := hS.1; omega) (hP.sub (ws' := [(hr0, .inl (cI, 4, .inl (fun _ => 0)))]) [1] rfl) (hK.sub (tys' := [(cI, .int)]) [0] rfl) ((hD.sub (ws' := [(hr0, .inl (cI, 4, .inl (fun _ => 0)))]) [1] (by decide) rfl).weaken (fun _ _ _ h => hAz _ h))) hS hFc aw_b_JA_fill aw_m_X1_16 aw_s_JA_fill aw_i_JA ⟨rfl, rfl⟩ 2 (by decide +kernel) rfl ⟨by decide, by decide⟩ hl.1 rfl (Nat.le_of_ble_eq_true rfl) dX1_init_25 ⟨Nat.le_of_ble_eq_true rfl, Nat.le_of_ble_eq_true rfl⟩ (fun t H1 locs1 ht hvm _ hB hz1 hk1 hS => ?_)
  obtain ⟨hP1, hK1, hD1⟩ := hB
  rw [ht] at hP1
  obtain ⟨hP, hD⟩ := va_join (wr := [(hx, .inr (1, [.ref hr0, .ref hq0, .null, .int 0, .int 0])), (hq0, .inl (cQ, 1021, .inl (fun _ => 0)))]) (w1 := [(hr0, .inl (cI, 4, .inl (fun _ => ii (-1))))]) hP hD [1] [0, 2] rfl rfl (by decide) (by decide) hk1 hFc hP1 hD1
  have hP : va_P D clX [(hx, .inr (1, [.ref hr0, .ref hq0, .null, .int 0, .int 0])), (hq0, .inl (cQ, 1021, .inl (fun _ => 0))), (hr0, .inl (cI, 4, .inl (fun _ => ii (-1))))] H1 := hP
  have hD : va_D A [(hx, .inr (1, [.ref hr0, .ref hq0, .null, .int 0, .int 0])), (hq0, .inl (cQ, 1021, .inl (fun _ => 0))), (hr0, .inl (cI, 4, .inl (fun _ => ii (-1))))] := hD
  refine lv_aload_n C.1 C.2.1 dX1_init_28 rfl (lv_at hl 0 rfl) ?_
  refine lv_null C.1 C.2.1 dX1_init_29 ?_
  refine p_f C hK hP hD hS 0 rfl rfl aw_uX1 tyX1 tyX1_ok nmX1 2 (by decide) aw_f_X1_22 rfl rfl rfl (Nat.le_of_ble_eq_true rfl) dX1_init_30 (fun H1 locs1 hP hD hS => ?_)
  have hP : va_P D clX [(hx, .inr (1, [.ref hr0, .ref hq0, .null, .int 0, .int 0])), (hq0, .inl (cQ, 1021, .inl (fun _ => 0))), (hr0, .inl (cI, 4, .inl (fun _ => ii (-1))))] H1 := hP
  have hD : va_D A [(hx, .inr (1, [.ref hr0, .ref hq0, .null, .int 0, .int 0])), (hq0, .inl (cQ, 1021, .inl (fun _ => 0))), (hr0, .inl (cI, 4, .inl (fun _ => ii (-1))))] := hD
  refine lv_aload_n C.1 C.2.1 dX1_init_33 rfl (lv_at hl 0 rfl) ?_
  refine i_const C dX1_init_34 ?_
  refine p_f C hK hP hD hS 0 rfl rfl aw_uX1 tyX1 tyX1_ok nmX1 3 (by decide) aw_f_X1_26 rfl rfl rfl (Nat.le_of_ble_eq_true rfl) dX1_init_35 (fun H1 locs1 hP hD hS => ?_)
  have hP : va_P D clX [(hx, .inr (1, [.ref hr0, .ref hq0, .null, .int (ii 0), .int 0])), (hq0, .inl (cQ, 1021, .inl (fun _ => 0))), (hr0, .inl (cI, 4, .inl (fun _ => ii (-1))))] H1 := hP
  have hD : va_D A [(hx, .inr (1, [.ref hr0, .ref hq0, .null, .int (ii 0), .int 0])), (hq0, .inl (cQ, 1021, .inl (fun _ => 0))), (hr0, .inl (cI, 4, .inl (fun _ => ii (-1))))] := hD
  refine lv_aload_n C.1 C.2.1 dX1_init_38 rfl (lv_at hl 0 rfl) ?_
  refine i_const C dX1_init_39 ?_
  refine p_f C hK hP hD hS 0 rfl rfl aw_uX1 tyX1 tyX1_ok nmX1 4 (by decide) aw_f_X1_30 rfl rfl rfl (Nat.le_of_ble_eq_true rfl) dX1_init_40 (fun H1 locs1 hP hD hS => ?_)
  have hP : va_P D clX [(hx, .inr (1, [.ref hr0, .ref hq0, .null, .int (ii 0), .int (ii 0)])), (hq0, .inl (cQ, 1021, .inl (fun _ => 0))), (hr0, .inl (cI, 4, .inl (fun _ => ii (-1))))] H1 := hP
  have hD : va_D A [(hx, .inr (1, [.ref hr0, .ref hq0, .null, .int (ii 0), .int (ii 0)])), (hq0, .inl (cQ, 1021, .inl (fun _ => 0))), (hr0, .inl (cI, 4, .inl (fun _ => ii (-1))))] := hD
  have hP := hP.sub (ws' := [(hx, .inr (1, [.ref hr0, .ref hq0, .null, .int (ii 0), .int (ii 0)])), (hr0, .inl (cI, 4, .inl (fun _ => ii (-1)))), (hq0, .inl (cQ, 1021, .inl (fun _ => 0)))]) [0, 2, 1] rfl
  have hD := hD.sub (ws' := [(hx, .inr (1, [.ref hr0, .ref hq0, .null, .int (ii 0), .int (ii 0)])), (hr0, .inl (cI, 4, .inl (fun _ => ii (-1)))), (hq0, .inl (cQ, 1021, .inl (fun _ => 0)))]) [0, 2, 1] (by decide) rfl
  exact pz_v C hr hk hS trivial (fun t ht hvm => ⟨hr0, hq0, cI, cQ, by rw [ht]; exact hP, va_K.moved hvm hK, hD⟩) dX1_init_43 (Nat.le_of_ble_eq_true rfl) (Nat.le_of_ble_eq_true rfl)
