/-! The class: constructors, curve. By wip/whole/tools/gen11.py. -/
set_option maxRecDepth 100000 in
set_option maxHeartbeats 4000000 in
theorem c_X0_init (l : Launch) (D : va_G) (z0 sz : Nat) (h0 p a b n : Nat) (hp : 5 ≤ p ∧ p ≤ 1021) (ha : a < p) (hb : b < p) : Met l yX0_init (Cond.code yX0_init cX0_init 5 none :: AW) ({ frames := 2, cells := 0, slots := 0, locals := 60 } : Room) (PcM D z0 sz [(h0, .inr (0, [.int 0, .int 0, .int 0, .int 0, .int 0]))] [] [.ref h0, .int (ii (p : Int)), .int (ii (a : Int)), .int (ii (b : Int)), .int (ii (n : Int))]) (QcM none True (Wd D [(h0, .inr (0, [.int (ii (p : Int)), .int (ii (a : Int)), .int (ii (b : Int)), .int (ii (n : Int)), .int (ii (lpF p a b 1100 0))]))] [] (va_A [(h0, .inr (0, [.int 0, .int 0, .int 0, .int 0, .int 0]))] sz)) (va_A [(h0, .inr (0, [.int 0, .int 0, .int 0, .int 0, .int 0]))] sz)) 0 0 (va_A [(h0, .inr (0, [.int 0, .int 0, .int 0, .int 0, .int 0]))] sz) := by
  refine mt_N (by decide +kernel) (Nat.le_of_ble_eq_true rfl) ?_
  intro P0 E0 S0 M0 A0 B0 T0 K0 C hN hZ hsz hz hP hK hD hAz hA hr hk hin ls hl
  have hl : lv_has ls 5 [(0, .ref h0), (1, .int (ii (p : Int))), (2, .int (ii (a : Int))), (3, .int (ii (b : Int))), (4, .int (ii (n : Int)))] := hl
  generalize hAe : va_A [(h0, .inr (0, [.int 0, .int 0, .int 0, .int 0, .int 0]))] sz = A at hD hAz hA ⊢
  have hS : va_S A S0.heap S0.heap [] := va_S.rf
  refine lv_aload_n C.1 C.2.1 dX0_init_0 rfl (lv_at hl 0 rfl) ?_
  refine o_init C aw_m_X0_3 hl.1 dX0_init_1 ⟨by decide, by decide⟩ ?_
  refine lv_aload_n C.1 C.2.1 dX0_init_4 rfl (lv_at hl 0 rfl) ?_
  refine lv_iload_n C.1 C.2.1 dX0_init_5 rfl (lv_at hl 1 rfl) ?_
  refine p_ff C hK hP hD hS 0 rfl rfl aw_uX0 tyX0 tyX0_ok nmX0 0 (by decide) aw_f_X0_9 rfl (hin rfl) rfl rfl rfl (Nat.le_of_ble_eq_true rfl) dX0_init_6 (fun H1 locs1 hP hD hS => ?_)
  have hP : va_P D clX [(h0, .inr (0, [.int (ii (p : Int)), .int 0, .int 0, .int 0, .int 0]))] H1 := hP
  have hD : va_D A [(h0, .inr (0, [.int (ii (p : Int)), .int 0, .int 0, .int 0, .int 0]))] := hD
  refine lv_aload_n C.1 C.2.1 dX0_init_9 rfl (lv_at hl 0 rfl) ?_
  refine lv_iload_n C.1 C.2.1 dX0_init_10 rfl (lv_at hl 2 rfl) ?_
  refine p_ff C hK hP hD hS 0 rfl rfl aw_uX0 tyX0 tyX0_ok nmX0 1 (by decide) aw_f_X0_15 rfl (hin rfl) rfl rfl rfl (Nat.le_of_ble_eq_true rfl) dX0_init_11 (fun H1 locs1 hP hD hS => ?_)
  have hP : va_P D clX [(h0, .inr (0, [.int (ii (p : Int)), .int (ii (a : Int)), .int 0, .int 0, .int 0]))] H1 := hP
  have hD : va_D A [(h0, .inr (0, [.int (ii (p : Int)), .int (ii (a : Int)), .int 0, .int 0, .int 0]))] := hD
  refine lv_aload_n C.1 C.2.1 dX0_init_14 rfl (lv_at hl 0 rfl) ?_
  refine lv_iload_n C.1 C.2.1 dX0_init_15 rfl (lv_at hl 3 rfl) ?_
  refine p_ff C hK hP hD hS 0 rfl rfl aw_uX0 tyX0 tyX0_ok nmX0 2 (by decide) aw_f_X0_18 rfl (hin rfl) rfl rfl rfl (Nat.le_of_ble_eq_true rfl) dX0_init_16 (fun H1 locs1 hP hD hS => ?_)
  have hP : va_P D clX [(h0, .inr (0, [.int (ii (p : Int)), .int (ii (a : Int)), .int (ii (b : Int)), .int 0, .int 0]))] H1 := hP
  have hD : va_D A [(h0, .inr (0, [.int (ii (p : Int)), .int (ii (a : Int)), .int (ii (b : Int)), .int 0, .int 0]))] := hD
  refine lv_aload_n C.1 C.2.1 dX0_init_19 rfl (lv_at hl 0 rfl) ?_
  refine lv_iload C.1 C.2.1 dX0_init_20 (lv_at hl 4 rfl) ?_
  refine p_ff C hK hP hD hS 0 rfl rfl aw_uX0 tyX0 tyX0_ok nmX0 3 (by decide) aw_f_X0_21 rfl (hin rfl) rfl rfl rfl (Nat.le_of_ble_eq_true rfl) dX0_init_22 (fun H1 locs1 hP hD hS => ?_)
  have hP : va_P D clX [(h0, .inr (0, [.int (ii (p : Int)), .int (ii (a : Int)), .int (ii (b : Int)), .int (ii (n : Int)), .int 0]))] H1 := hP
  have hD : va_D A [(h0, .inr (0, [.int (ii (p : Int)), .int (ii (a : Int)), .int (ii (b : Int)), .int (ii (n : Int)), .int 0]))] := hD
  refine lv_aload_n C.1 C.2.1 dX0_init_25 rfl (lv_at hl 0 rfl) ?_
  refine lv_iload_n C.1 C.2.1 dX0_init_26 rfl (lv_at hl 1 rfl) ?_
  refine lv_iload_n C.1 C.2.1 dX0_init_27 rfl (lv_at hl 2 rfl) ?_
  refine lv_iload_n C.1 C.2.1 dX0_init_28 rfl (lv_at hl 3 rfl) ?_
  refine ca_S (As := [.int (ii (p : Int)), .int (ii (a : Int)), .int (ii (b : Int))]) (rest := [.ref h0]) C (c_X0_leastPoint l p a b hp ha hb) (pcn_pre _ hN) aw_b_X0_leastPoint aw_m_X0_24 aw_s_X0_leastPoint aw_i_X0 ⟨rfl, rfl⟩ 3 (by decide +kernel) rfl ⟨by decide, by decide⟩ hl.1 rfl (Nat.le_of_ble_eq_true rfl) dX0_init_29 ⟨by decide, by decide⟩ ?_
  refine p_ff C hK hP hD hS 0 rfl rfl aw_uX0 tyX0 tyX0_ok nmX0 4 (by decide) aw_f_X0_28 rfl (hin rfl) rfl rfl rfl (Nat.le_of_ble_eq_true rfl) dX0_init_32 (fun H1 locs1 hP hD hS => ?_)
  have hP : va_P D clX [(h0, .inr (0, [.int (ii (p : Int)), .int (ii (a : Int)), .int (ii (b : Int)), .int (ii (n : Int)), .int (ii (lpF p a b 1100 0))]))] H1 := hP
  have hD : va_D A [(h0, .inr (0, [.int (ii (p : Int)), .int (ii (a : Int)), .int (ii (b : Int)), .int (ii (n : Int)), .int (ii (lpF p a b 1100 0))]))] := hD
  exact pz_v C hr hk hS trivial (fun t ht hvm => ⟨by rw [ht]; exact hP, va_K.moved hvm hK, hD⟩) dX0_init_35 (by decide) (by decide)
theorem icF_1 {p a b : Int} (h : icF p a b ≠ 0) : 5 ≤ p ∧ p ≤ 1021 ∧ 0 ≤ a ∧ a < p ∧ 0 ≤ b ∧ b < p ∧ prF p.toNat 1100 2 ≠ 0 ∧ (4 * (a * a % p * a % p) + 27 * (b * b % p)) % p ≠ 0 := by
  unfold icF at h
  split at h
  · exact absurd rfl h
  · split at h
    · exact absurd rfl h
    · split at h
      · exact absurd rfl h
      · split at h
        · exact absurd rfl h
        · split at h
          · exact absurd rfl h
          · split at h
            · exact absurd rfl h
            · split at h
              · exact absurd rfl h
              · split at h
                · exact absurd rfl h
                · refine ⟨by omega, by omega, by omega, by omega, by omega, by omega, by assumption, by assumption⟩
theorem icF_b (p a b : Int) : icF p a b = 0 ∨ icF p a b = 1 := by
  unfold icF
  repeat' split
  all_goals first | exact Or.inl rfl | exact Or.inr rfl
/-- the curve is taken -/
def tkF (p a b : Int) : Prop := icF p a b ≠ 0 ∧ 2 < cnt p.toNat a.toNat b.toNat ∧ prF (cnt p.toNat a.toNat b.toNat) 1100 2 ≠ 0
set_option maxRecDepth 100000 in
set_option maxHeartbeats 4000000 in
theorem c_X1_curve (l : Launch) (hL : l.stackTraces = false) (D : va_G) (z0 sz : Nat) (hx hr0 hq0 : Nat) (tk : Value) (sec dr : Int) (cI cQ : ClassId) (fr fq : Nat → Int32) (p a b : Int) (hp1 : rg p) (ha1 : rg a) (hb1 : rg b) : vx_Met l yX1_curve (Cond.code yX1_curve cX1_curve 5 (some .int) :: AW) ({ frames := 7, cells := 3, slots := 20, locals := 130 } : Room) (PcM D z0 sz [(hx, .inr (1, [.ref hr0, .ref hq0, tk, .int (ii sec), .int (ii dr)])), (hr0, .inl (cI, 4, .inl fr)), (hq0, .inl (cQ, 1021, .inl fq))] [(cI, .int), (cQ, .int)] [.ref hx, .int (ii p), .int (ii a), .int (ii b)]) (QcM (some (.int (ii ((cnt p.toNat a.toNat b.toNat : Nat) : Int)))) (tkF p a b) (fun t => ∃ (hc : Nat) (gq : Nat → Int32), Wd D [(hx, .inr (1, [.ref hr0, .ref hq0, .ref hc, .int (ii 0), .int (ii dr)])), (hr0, .inl (cI, 4, .inl (fun _ => ii (-1)))), (hq0, .inl (cQ, 1021, .inl gq)), (hc, .inr (0, [.int (ii ((p.toNat : Nat) : Int)), .int (ii ((a.toNat : Nat) : Int)), .int (ii ((b.toNat : Nat) : Int)), .int (ii ((cnt p.toNat a.toNat b.toNat : Nat) : Int)), .int (ii (lpF p.toNat a.toNat b.toNat 1100 0))]))] [(cI, .int), (cQ, .int)] (va_A [(hx, .inr (1, [.ref hr0, .ref hq0, tk, .int (ii sec), .int (ii dr)])), (hr0, .inl (cI, 4, .inl fr)), (hq0, .inl (cQ, 1021, .inl fq))] sz) t) (va_A [(hx, .inr (1, [.ref hr0, .ref hq0, tk, .int (ii sec), .int (ii dr)])), (hr0, .inl (cI, 4, .inl fr)), (hq0, .inl (cQ, 1021, .inl fq))] sz)) (XcM (fun E => E = "java/lang/IllegalArgumentException" ∧ ¬ tkF p a b) (fun t => ∃ gq : Nat → Int32, Wd D [(hx, .inr (1, [.ref hr0, .ref hq0, tk, .int (ii sec), .int (ii dr)])), (hr0, .inl (cI, 4, .inl fr)), (hq0, .inl (cQ, 1021, .inl gq))] [(cI, .int), (cQ, .int)] (va_A [(hx, .inr (1, [.ref hr0, .ref hq0, tk, .int (ii sec), .int (ii dr)])), (hr0, .inl (cI, 4, .inl fr)), (hq0, .inl (cQ, 1021, .inl fq))] sz) t) (va_A [(hx, .inr (1, [.ref hr0, .ref hq0, tk, .int (ii sec), .int (ii dr)])), (hr0, .inl (cI, 4, .inl fr)), (hq0, .inl (cQ, 1021, .inl fq))] sz)) 3 20 (va_A [(hx, .inr (1, [.ref hr0, .ref hq0, tk, .int (ii sec), .int (ii dr)])), (hr0, .inl (cI, 4, .inl fr)), (hq0, .inl (cQ, 1021, .inl fq))] sz) := by
  refine mt_M (by decide +kernel) (Nat.le_of_ble_eq_true rfl) ?_
  intro P0 E0 S0 M0 A0 B0 T0 K0 C hN hZ hsz hz hP hK hD hAz hA hr hk hex hin ls hl
  have hl : lv_has ls 5 [(0, .ref hx), (1, .int (ii p)), (2, .int (ii a)), (3, .int (ii b))] := hl
  generalize hAe : va_A [(hx, .inr (1, [.ref hr0, .ref hq0, tk, .int (ii sec), .int (ii dr)])), (hr0, .inl (cI, 4, .inl fr)), (hq0, .inl (cQ, 1021, .inl fq))] sz = A at hD hAz hA ⊢
  have hS : va_S A S0.heap S0.heap [] := va_S.rf
  unfold tkF
  have i1 := icF_b p a b
  have i2 := icF_1 (p := p) (a := a) (b := b)
  refine lv_iload_n C.1 C.2.1 dX1_curve_0 rfl (lv_at hl 1 rfl) ?_
  refine lv_iload_n C.1 C.2.1 dX1_curve_1 rfl (lv_at hl 2 rfl) ?_
  refine lv_iload_n C.1 C.2.1 dX1_curve_2 rfl (lv_at hl 3 rfl) ?_
  refine ca_S (As := [.int (ii p), .int (ii a), .int (ii b)]) (rest := []) C (c_X1_isCurve l p a b hp1 ha1 hb1) (pcn_pre _ hN) aw_b_X1_isCurve aw_m_X1_33 aw_s_X1_isCurve aw_i_X1 ⟨rfl, rfl⟩ 3 (by decide +kernel) rfl ⟨by decide, by decide⟩ hl.1 rfl (Nat.le_of_ble_eq_true rfl) dX1_curve_3 ⟨by decide, by decide⟩ ?_
  generalize icF p a b = j at i1 i2 ⊢
  refine i_if_ne (tgt := 19) C dX1_curve_6 (by decide) ⟨by omega, by omega⟩ (fun h1 => ?_) (fun h1 => ?_)
  · obtain ⟨i3, i4, i5, i6, i7, i8, i9, i10⟩ := i2 h1
    obtain ⟨P, rfl⟩ := Int.eq_ofNat_of_zero_le (show 0 ≤ p by omega)
    obtain ⟨A1, rfl⟩ := Int.eq_ofNat_of_zero_le i5
    obtain ⟨B1, rfl⟩ := Int.eq_ofNat_of_zero_le i7
    rw [Int.toNat_natCast, Int.toNat_natCast, Int.toNat_natCast]
    have c1 := cs_le P A1 B1 P
    have c2 := Nat.mul_le_mul (show P ≤ 1021 by omega) (show P ≤ 1021 by omega)
    rw [cs_cnt] at c1
    refine lv_aload_n C.1 C.2.1 dX1_curve_19 rfl (lv_at hl 0 rfl) ?_
    refine lv_iload_n C.1 C.2.1 dX1_curve_20 rfl (lv_at hl 1 rfl) ?_
    refine lv_iload_n C.1 C.2.1 dX1_curve_21 rfl (lv_at hl 2 rfl) ?_
    refine lv_iload_n C.1 C.2.1 dX1_curve_22 rfl (lv_at hl 3 rfl) ?_
    have hFc := va_free (wc := [(hx, .inr (1, [.ref hr0, .ref hq0, tk, .int (ii sec), .int (ii dr)])), (hq0, .inl (cQ, 1021, .inl fq))]) hD hS hA [0, 2] rfl
    refine cn_V (As := [.int (ii (P : Int)), .int (ii (A1 : Int)), .int (ii (B1 : Int))]) (rest := []) C (c_X1_countPoints l D z0 S0.heap.size hx hr0 hq0 tk sec dr cQ fq P A1 B1 (by omega) (by omega) (by omega)) (pcm_preV _ hN hZ (by omega) (hP.sub (ws' := [(hx, .inr (1, [.ref hr0, .ref hq0, tk, .int (ii sec), .int (ii dr)])), (hq0, .inl (cQ, 1021, .inl fq))]) [0, 2] rfl) (hK.sub (tys' := [(cQ, .int)]) [1] rfl) ((hD.sub (ws' := [(hx, .inr (1, [.ref hr0, .ref hq0, tk, .int (ii sec), .int (ii dr)])), (hq0, .inl (cQ, 1021, .inl fq))]) [0, 2] (by decide) rfl).weaken (fun _ _ _ h => hAz _ h)) 0 (ci := 1) rfl rfl) hS hFc aw_b_X1_countPoints aw_m_X1_44 aw_v_X1_countPoints aw_i_X1 aw_e_X1_countPoints ⟨rfl, rfl⟩ 3 (by decide +kernel) rfl ⟨by decide, by decide⟩ hl.1 rfl (Nat.le_of_ble_eq_true rfl) dX1_curve_23 ⟨by decide, by decide⟩ (fun t H1 locs1 ht hvm _ hB hz1 hk1 hS => ?_)
    obtain ⟨hP1, hK1, hD1⟩ := hB
    rw [ht] at hP1
    obtain ⟨hP, hD⟩ := va_join (wr := [(hr0, .inl (cI, 4, .inl fr))]) (w1 := [(hx, .inr (1, [.ref hr0, .ref hq0, tk, .int (ii sec), .int (ii dr)])), (hq0, .inl (cQ, 1021, .inl (fun v => ii ((rc P P v : Nat) : Int))))]) hP hD [0, 2] [1] rfl rfl (by decide) (by decide) hk1 hFc hP1 hD1
    have hP := hP.sub (ws' := [(hx, .inr (1, [.ref hr0, .ref hq0, tk, .int (ii sec), .int (ii dr)])), (hr0, .inl (cI, 4, .inl fr)), (hq0, .inl (cQ, 1021, .inl (fun v => ii ((rc P P v : Nat) : Int))))]) [1, 0, 2] rfl
    have hD := hD.sub (ws' := [(hx, .inr (1, [.ref hr0, .ref hq0, tk, .int (ii sec), .int (ii dr)])), (hr0, .inl (cI, 4, .inl fr)), (hq0, .inl (cQ, 1021, .inl (fun v => ii ((rc P P v : Nat) : Int))))]) [1, 0, 2] (by decide) rfl
    generalize cnt P A1 B1 = n at c1 ⊢
    refine lv_istore C.1 C.2.1 dX1_curve_26 hl (by decide) rfl (fun ls hl => ?_)
    have hl : lv_has ls 5 [(4, .int (ii (n : Int))), (0, .ref hx), (1, .int (ii (P : Int))), (2, .int (ii (A1 : Int))), (3, .int (ii (B1 : Int)))] := hl
    refine lv_iload C.1 C.2.1 dX1_curve_28 (lv_at hl 0 rfl) ?_
    refine i_const C dX1_curve_30 ?_
    refine i_icmp_le (tgt := 42) C dX1_curve_31 (by decide) ⟨by omega, by omega⟩ ⟨by omega, by omega⟩ (fun h2 => ?_) (fun h2 => ?_)
    · refine th_S (z0 := z0) C hL hN hZ (va_S.mono hS hAz) (text := "the order is no prime greater than 2") (by decide +kernel) (by decide +kernel) tw_iae hl.1 dX1_curve_42 dX1_curve_45 dX1_curve_46 dX1_curve_48 dX1_curve_51 hex ⟨by decide, by decide, by decide, by decide⟩ (Nat.le_of_ble_eq_true rfl) hk (fun t hvm z1 z2 => ⟨⟨rfl, fun z => absurd z.2.1 (by omega)⟩, ⟨(fun v => ii ((rc P P v : Nat) : Int)), hP.on z2, va_K.moved hvm hK, hD⟩, Nat.le_trans hS.1 z1, fun q h1 h2 => (z2 q (Nat.lt_of_lt_of_le h1 hS.1)).trans (hS.2.1 q h1 h2)⟩) hS.2.2 (by decide) (by decide)
    · have p1 := prF_b n 1100 2
      refine lv_iload C.1 C.2.1 dX1_curve_34 (lv_at hl 0 rfl) ?_
      refine ca_S (As := [.int (ii (n : Int))]) (rest := []) C (c_X1_isPrime l n (by omega)) (pcn_pre _ hN) aw_b_X1_isPrime aw_m_X1_48 aw_s_X1_isPrime aw_i_X1 ⟨rfl, rfl⟩ 1 (by decide +kernel) rfl ⟨by decide, by decide⟩ hl.1 rfl (Nat.le_of_ble_eq_true rfl) dX1_curve_36 ⟨by decide, by decide⟩ ?_
      generalize prF n 1100 2 = k at p1 ⊢
      refine i_if_ne (tgt := 52) C dX1_curve_39 (by decide) ⟨by omega, by omega⟩ (fun h3 => ?_) (fun h3 => ?_)
      · refine lv_aload_n C.1 C.2.1 dX1_curve_52 rfl (lv_at hl 1 rfl) ?_
        refine va_new (ci := 0) (fs := [.int 0, .int 0, .int 0, .int 0, .int 0]) C.1 C.2.1 C.2.2.2.2 aw_uX0 tyX0 tyX0_ok C.2.2.2.1 (C.2.2.2.2 _ aw_c_X1_54) (C.2.2.2.2 _ aw_n_X0) (C.2.2.2.2 _ aw_i_X0) hK hP hD hS hA rfl (fun j hj => by rcases (show j = 0 ∨ j = 1 ∨ j = 2 ∨ j = 3 ∨ j = 4 by omega) with rfl | rfl | rfl | rfl | rfl <;> rfl) (by decide) (by decide) dX1_curve_53 (fun hc H2 hP hD hS => ?_)
        have hP : va_P D clX [(hx, .inr (1, [.ref hr0, .ref hq0, tk, .int (ii sec), .int (ii dr)])), (hr0, .inl (cI, 4, .inl fr)), (hq0, .inl (cQ, 1021, .inl (fun v => ii ((rc P P v : Nat) : Int)))), (hc, .inr (0, [.int 0, .int 0, .int 0, .int 0, .int 0]))] H2 := hP
        have hD : va_D A [(hx, .inr (1, [.ref hr0, .ref hq0, tk, .int (ii sec), .int (ii dr)])), (hr0, .inl (cI, 4, .inl fr)), (hq0, .inl (cQ, 1021, .inl (fun v => ii ((rc P P v : Nat) : Int)))), (hc, .inr (0, [.int 0, .int 0, .int 0, .int 0, .int 0]))] := hD
        refine lv_dup C.1 C.2.1 dX1_curve_56 rfl ?_
        refine lv_iload_n C.1 C.2.1 dX1_curve_57 rfl (lv_at hl 2 rfl) ?_
        refine lv_iload_n C.1 C.2.1 dX1_curve_58 rfl (lv_at hl 3 rfl) ?_
        refine lv_iload_n C.1 C.2.1 dX1_curve_59 rfl (lv_at hl 4 rfl) ?_
        refine lv_iload C.1 C.2.1 dX1_curve_60 (lv_at hl 0 rfl) ?_
        have hFc := va_free (wc := [(hc, .inr (0, [.int 0, .int 0, .int 0, .int 0, .int 0]))]) hD hS hA [3] rfl
        refine cn_I (As := [.int (ii (P : Int)), .int (ii (A1 : Int)), .int (ii (B1 : Int)), .int (ii (n : Int))]) (rest := [.ref hc, .ref hx]) C (c_X0_init l D z0 H2.size hc P A1 B1 n (by omega) (by omega) (by omega)) (pcm_pre _ hN (Zs.on hZ hS hAz) (by have := hS.1; omega) (hP.sub (ws' := [(hc, .inr (0, [.int 0, .int 0, .int 0, .int 0, .int 0]))]) [3] rfl) (hK.sub (tys' := []) [] rfl) ((hD.sub (ws' := [(hc, .inr (0, [.int 0, .int 0, .int 0, .int 0, .int 0]))]) [3] (by decide) rfl).weaken (fun _ _ _ h => hAz _ h))) hS hFc aw_b_X0_init aw_m_X1_56 aw_v_X0_init aw_i_X0 rfl ⟨rfl, rfl⟩ 4 (by decide +kernel) rfl ⟨by decide, by decide⟩ hl.1 rfl (Nat.le_of_ble_eq_true rfl) dX1_curve_62 ⟨by decide, by decide⟩ (fun t H3 locs3 ht hvm _ hB hz1 hk1 hS => ?_)
        obtain ⟨hP1, hK1, hD1⟩ := hB
        rw [ht] at hP1
        obtain ⟨hP, hD⟩ := va_join (wr := [(hx, .inr (1, [.ref hr0, .ref hq0, tk, .int (ii sec), .int (ii dr)])), (hr0, .inl (cI, 4, .inl fr)), (hq0, .inl (cQ, 1021, .inl (fun v => ii ((rc P P v : Nat) : Int))))]) (w1 := [(hc, .inr (0, [.int (ii (P : Int)), .int (ii (A1 : Int)), .int (ii (B1 : Int)), .int (ii (n : Int)), .int (ii (lpF P A1 B1 1100 0))]))]) hP hD [3] [0, 1, 2] rfl rfl (by decide) (by decide) hk1 hFc hP1 hD1
        have hP : va_P D clX [(hx, .inr (1, [.ref hr0, .ref hq0, tk, .int (ii sec), .int (ii dr)])), (hr0, .inl (cI, 4, .inl fr)), (hq0, .inl (cQ, 1021, .inl (fun v => ii ((rc P P v : Nat) : Int)))), (hc, .inr (0, [.int (ii (P : Int)), .int (ii (A1 : Int)), .int (ii (B1 : Int)), .int (ii (n : Int)), .int (ii (lpF P A1 B1 1100 0))]))] H3 := hP
        have hD : va_D A [(hx, .inr (1, [.ref hr0, .ref hq0, tk, .int (ii sec), .int (ii dr)])), (hr0, .inl (cI, 4, .inl fr)), (hq0, .inl (cQ, 1021, .inl (fun v => ii ((rc P P v : Nat) : Int)))), (hc, .inr (0, [.int (ii (P : Int)), .int (ii (A1 : Int)), .int (ii (B1 : Int)), .int (ii (n : Int)), .int (ii (lpF P A1 B1 1100 0))]))] := hD
        refine p_f C hK hP hD hS 0 rfl rfl aw_uX1 tyX1 tyX1_ok nmX1 2 (by decide) aw_f_X1_22 rfl rfl rfl (Nat.le_of_ble_eq_true rfl) dX1_curve_65 (fun H1 locs1 hP hD hS => ?_)
        have hP : va_P D clX [(hx, .inr (1, [.ref hr0, .ref hq0, .ref hc, .int (ii sec), .int (ii dr)])), (hr0, .inl (cI, 4, .inl fr)), (hq0, .inl (cQ, 1021, .inl (fun v => ii ((rc P P v : Nat) : Int)))), (hc, .inr (0, [.int (ii (P : Int)), .int (ii (A1 : Int)), .int (ii (B1 : Int)), .int (ii (n : Int)), .int (ii (lpF P A1 B1 1100 0))]))] H1 := hP
        have hD : va_D A [(hx, .inr (1, [.ref hr0, .ref hq0, .ref hc, .int (ii sec), .int (ii dr)])), (hr0, .inl (cI, 4, .inl fr)), (hq0, .inl (cQ, 1021, .inl (fun v => ii ((rc P P v : Nat) : Int)))), (hc, .inr (0, [.int (ii (P : Int)), .int (ii (A1 : Int)), .int (ii (B1 : Int)), .int (ii (n : Int)), .int (ii (lpF P A1 B1 1100 0))]))] := hD
        refine lv_aload_n C.1 C.2.1 dX1_curve_68 rfl (lv_at hl 1 rfl) ?_
        refine gf C hK hP 0 rfl rfl aw_uX1 0 (by decide) aw_f_X1_9 rfl dX1_curve_69 ?_
        refine i_const C dX1_curve_72 ?_
        have hFc := va_free (wc := [(hr0, .inl (cI, 4, .inl fr))]) hD hS hA [1] rfl
        refine cn_S (As := [.ref hr0, .int (ii (-1))]) (rest := []) C (c_fill l D z0 H1.size hr0 4 cI fr (ii (-1)) (by omega)) (pcm_pre _ hN (Zs.on hZ hS hAz) (by have := hS.1; omega) (hP.sub (ws' := [(hr0, .inl (cI, 4, .inl fr))]) [1] rfl) (hK.sub (tys' := [(cI, .int)]) [0] rfl) ((hD.sub (ws' := [(hr0, .inl (cI, 4, .inl fr))]) [1] (by decide) rfl).weaken (fun _ _ _ h => hAz _ h))) hS hFc aw_b_JA_fill aw_m_X1_16 aw_s_JA_fill aw_i_JA ⟨rfl, rfl⟩ 2 (by decide +kernel) rfl ⟨by decide, by decide⟩ hl.1 rfl (Nat.le_of_ble_eq_true rfl) dX1_curve_73 ⟨by decide, by decide⟩ (fun t H1 locs1 ht hvm _ hB hz1 hk1 hS => ?_)
        obtain ⟨hP1, hK1, hD1⟩ := hB
        rw [ht] at hP1
        obtain ⟨hP, hD⟩ := va_join (wr := [(hx, .inr (1, [.ref hr0, .ref hq0, .ref hc, .int (ii sec), .int (ii dr)])), (hq0, .inl (cQ, 1021, .inl (fun v => ii ((rc P P v : Nat) : Int)))), (hc, .inr (0, [.int (ii (P : Int)), .int (ii (A1 : Int)), .int (ii (B1 : Int)), .int (ii (n : Int)), .int (ii (lpF P A1 B1 1100 0))]))]) (w1 := [(hr0, .inl (cI, 4, .inl (fun _ => ii (-1))))]) hP hD [1] [0, 2, 3] rfl rfl (by decide) (by decide) hk1 hFc hP1 hD1
        have hP : va_P D clX [(hx, .inr (1, [.ref hr0, .ref hq0, .ref hc, .int (ii sec), .int (ii dr)])), (hq0, .inl (cQ, 1021, .inl (fun v => ii ((rc P P v : Nat) : Int)))), (hc, .inr (0, [.int (ii (P : Int)), .int (ii (A1 : Int)), .int (ii (B1 : Int)), .int (ii (n : Int)), .int (ii (lpF P A1 B1 1100 0))])), (hr0, .inl (cI, 4, .inl (fun _ => ii (-1))))] H1 := hP
        have hD : va_D A [(hx, .inr (1, [.ref hr0, .ref hq0, .ref hc, .int (ii sec), .int (ii dr)])), (hq0, .inl (cQ, 1021, .inl (fun v => ii ((rc P P v : Nat) : Int)))), (hc, .inr (0, [.int (ii (P : Int)), .int (ii (A1 : Int)), .int (ii (B1 : Int)), .int (ii (n : Int)), .int (ii (lpF P A1 B1 1100 0))])), (hr0, .inl (cI, 4, .inl (fun _ => ii (-1))))] := hD
        have hP := hP.sub (ws' := [(hx, .inr (1, [.ref hr0, .ref hq0, .ref hc, .int (ii sec), .int (ii dr)])), (hr0, .inl (cI, 4, .inl (fun _ => ii (-1)))), (hq0, .inl (cQ, 1021, .inl (fun v => ii ((rc P P v : Nat) : Int)))), (hc, .inr (0, [.int (ii (P : Int)), .int (ii (A1 : Int)), .int (ii (B1 : Int)), .int (ii (n : Int)), .int (ii (lpF P A1 B1 1100 0))]))]) [0, 3, 1, 2] rfl
        have hD := hD.sub (ws' := [(hx, .inr (1, [.ref hr0, .ref hq0, .ref hc, .int (ii sec), .int (ii dr)])), (hr0, .inl (cI, 4, .inl (fun _ => ii (-1)))), (hq0, .inl (cQ, 1021, .inl (fun v => ii ((rc P P v : Nat) : Int)))), (hc, .inr (0, [.int (ii (P : Int)), .int (ii (A1 : Int)), .int (ii (B1 : Int)), .int (ii (n : Int)), .int (ii (lpF P A1 B1 1100 0))]))]) [0, 3, 1, 2] (by decide) rfl
        refine lv_aload_n C.1 C.2.1 dX1_curve_76 rfl (lv_at hl 1 rfl) ?_
        refine i_const C dX1_curve_77 ?_
        refine p_f C hK hP hD hS 0 rfl rfl aw_uX1 tyX1 tyX1_ok nmX1 3 (by decide) aw_f_X1_26 rfl rfl rfl (Nat.le_of_ble_eq_true rfl) dX1_curve_78 (fun H1 locs1 hP hD hS => ?_)
        have hP : va_P D clX [(hx, .inr (1, [.ref hr0, .ref hq0, .ref hc, .int (ii 0), .int (ii dr)])), (hr0, .inl (cI, 4, .inl (fun _ => ii (-1)))), (hq0, .inl (cQ, 1021, .inl (fun v => ii ((rc P P v : Nat) : Int)))), (hc, .inr (0, [.int (ii (P : Int)), .int (ii (A1 : Int)), .int (ii (B1 : Int)), .int (ii (n : Int)), .int (ii (lpF P A1 B1 1100 0))]))] H1 := hP
        have hD : va_D A [(hx, .inr (1, [.ref hr0, .ref hq0, .ref hc, .int (ii 0), .int (ii dr)])), (hr0, .inl (cI, 4, .inl (fun _ => ii (-1)))), (hq0, .inl (cQ, 1021, .inl (fun v => ii ((rc P P v : Nat) : Int)))), (hc, .inr (0, [.int (ii (P : Int)), .int (ii (A1 : Int)), .int (ii (B1 : Int)), .int (ii (n : Int)), .int (ii (lpF P A1 B1 1100 0))]))] := hD
        refine lv_iload C.1 C.2.1 dX1_curve_81 (lv_at hl 0 rfl) ?_
        exact py_i C hr hk hS ⟨h1, by omega, by omega⟩ (fun t ht hvm => ⟨hc, (fun v => ii ((rc P P v : Nat) : Int)), by rw [ht]; exact hP, va_K.moved hvm hK, hD⟩) dX1_curve_83 rfl (by decide) (by decide)
      · refine th_S (z0 := z0) C hL hN hZ (va_S.mono hS hAz) (text := "the order is no prime greater than 2") (by decide +kernel) (by decide +kernel) tw_iae hl.1 dX1_curve_42 dX1_curve_45 dX1_curve_46 dX1_curve_48 dX1_curve_51 hex ⟨by decide, by decide, by decide, by decide⟩ (Nat.le_of_ble_eq_true rfl) hk (fun t hvm z1 z2 => ⟨⟨rfl, fun z => z.2.2 (by omega)⟩, ⟨(fun v => ii ((rc P P v : Nat) : Int)), hP.on z2, va_K.moved hvm hK, hD⟩, Nat.le_trans hS.1 z1, fun q h1 h2 => (z2 q (Nat.lt_of_lt_of_le h1 hS.1)).trans (hS.2.1 q h1 h2)⟩) hS.2.2 (by decide) (by decide)
  · refine th_S (z0 := z0) C hL hN hZ (va_S.mono hS hAz) (text := "no curve") (by decide +kernel) (by decide +kernel) tw_iae hl.1 dX1_curve_9 dX1_curve_12 dX1_curve_13 dX1_curve_15 dX1_curve_18 hex ⟨by decide, by decide, by decide, by decide⟩ (Nat.le_of_ble_eq_true rfl) hk (fun t hvm z1 z2 => ⟨⟨rfl, fun z => h1 z.1⟩, ⟨fq, hP.on z2, va_K.moved hvm hK, hD⟩, Nat.le_trans hS.1 z1, fun q h1 h2 => (z2 q (Nat.lt_of_lt_of_le h1 hS.1)).trans (hS.2.1 q h1 h2)⟩) hS.2.2 (by decide) (by decide)
