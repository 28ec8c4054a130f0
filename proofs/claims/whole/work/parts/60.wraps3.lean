/-! The law: its method around curve. By wip/whole/tools/gen21.py. -/
set_option maxRecDepth 100000 in
set_option maxHeartbeats 4000000 in
theorem wL_curve (l : Launch) (hL : l.stackTraces = false) (D : va_G) (z0 sz : Nat) (hx hr0 hq0 : Nat) (cI cQ : ClassId) (n p a b gx gy : Nat) (sec dr : Int) (ix tx ty : Nat → Nat) (kw : va_W) (hR : KR hx hr0 hq0 cI cQ n p a b gx gy sec dr ix tx ty kw) (ho : Nat) (cL : ClassId) (f : Nat → Int64) (pp aa bb : Int) (hp1 : rg pp) (ha1 : rg aa) (hb1 : rg bb) : vx_Met l yL_curve (Cond.codeWith yL_curve cL_curve 6 (some .int) [(0, 12, 15, 13)] :: AW) ({ frames := 8, cells := 3, slots := 20, locals := 220 } : Room) (PcH D z0 sz (KO ho cL f :: kw) [(cI, .int), (cQ, .int), (cL, .long)] [.ref hx, .int (ii pp), .int (ii aa), .int (ii bb), .ref ho]) (QcM (some (.int (ii (if cvF pp aa bb = 0 then 0 else 1)))) True (fun t => ∃ (kw1 : va_W) (f1 : Nat → Int64), (cvF pp aa bb = 0 → KR hx hr0 hq0 cI cQ (coF pp aa bb) pp.toNat aa.toNat bb.toNat (bxF pp.toNat aa.toNat bb.toNat) (byF pp.toNat aa.toNat bb.toNat) 0 dr (fun _ => 0) (tbX (fun j => (tpF pp.toNat aa.toNat (bxF pp.toNat aa.toNat bb.toNat) (byF pp.toNat aa.toNat bb.toNat) j).1) tx (coF pp aa bb)) (tbX (fun j => (tpF pp.toNat aa.toNat (bxF pp.toNat aa.toNat bb.toNat) (byF pp.toNat aa.toNat bb.toNat) j).2) ty (coF pp aa bb)) kw1 ∧ f1 0 = (ii ((coF pp aa bb : Nat) : Int)).toInt64) ∧ (cvF pp aa bb ≠ 0 → KR hx hr0 hq0 cI cQ n p a b gx gy sec dr ix tx ty kw1) ∧ Wd D (KO ho cL f1 :: kw1) [(cI, .int), (cQ, .int), (cL, .long)] (va_A (KO ho cL f :: kw) sz) t) (va_A (KO ho cL f :: kw) sz)) (XcM (fun _ => False) (fun _ => False) (va_A (KO ho cL f :: kw) sz)) 3 20 (va_A (KO ho cL f :: kw) sz) := by
  rcases hR with ⟨rfl, rfl, hi0, gq, rfl⟩ | ⟨hT, hc, gq, rfl⟩
  · refine mt_H (by decide +kernel) (Nat.le_of_ble_eq_true rfl) ?_
    intro P0 E0 S0 M0 A0 B0 T0 K0 C hN hZ hsz hz hP hK hD hAz hA hr hk htb hXc ls hl
    have hl : lv_has ls 6 [(0, .ref hx), (1, .int (ii pp)), (2, .int (ii aa)), (3, .int (ii bb)), (4, .ref ho)] := hl
    generalize hAe : va_A [KO ho cL f, KX hx hr0 hq0 .null 0 dr, KP hr0 cI (fun _ => none), KQ hq0 cQ gq] sz = A at hD hAz hA ⊢
    have hS : va_S A S0.heap S0.heap [] := va_S.rf
    refine lv_aload C.1 C.2.1 dL_curve_0 (lv_at hl 4 rfl) ?_
    refine i_const C dL_curve_2 ?_
    refine lv_aload_n C.1 C.2.1 dL_curve_3 rfl (lv_at hl 0 rfl) ?_
    refine lv_iload_n C.1 C.2.1 dL_curve_4 rfl (lv_at hl 1 rfl) ?_
    refine lv_iload_n C.1 C.2.1 dL_curve_5 rfl (lv_at hl 2 rfl) ?_
    refine lv_iload_n C.1 C.2.1 dL_curve_6 rfl (lv_at hl 3 rfl) ?_
    have hFc := va_free (wc := [KX hx hr0 hq0 .null 0 dr, KP hr0 cI (fun _ => none), KQ hq0 cQ gq]) hD hS hA [1, 2, 3] rfl
    refine cy_V (As := [.int (ii pp), .int (ii aa), .int (ii bb)]) (rest := [.int (ii 0), .ref ho]) C (c_X1_curve l hL D z0 _ hx hr0 hq0 .null 0 dr cI cQ (fun _ => ii (ecd none)) gq pp aa bb hp1 ha1 hb1) (pcm_preV _ hN (Zs.on hZ hS hAz) (by have := hS.1; omega) (hP.sub (ws' := [KX hx hr0 hq0 .null 0 dr, KP hr0 cI (fun _ => none), KQ hq0 cQ gq]) [1, 2, 3] rfl) (hK.sub (tys' := [(cI, .int), (cQ, .int)]) [0, 1] rfl) ((hD.sub (ws' := [KX hx hr0 hq0 .null 0 dr, KP hr0 cI (fun _ => none), KQ hq0 cQ gq]) [1, 2, 3] (by decide) rfl).weaken (fun _ _ _ h => hAz _ h)) 0 (ci := 1) rfl rfl) hS hFc aw_b_X1_curve aw_m_L_7 aw_v_X1_curve aw_i_X1 aw_e_X1_curve ⟨rfl, rfl⟩ 3 (by decide +kernel) rfl ⟨by decide, by decide⟩ hl.1 rfl (Nat.le_of_ble_eq_true rfl) dL_curve_7 ⟨by decide, by decide⟩ (fun E t H1 locs1 q9 ce ht hvm hw hB jz1 jk1 hS z3 z4 z5 => ?_) (fun t H1 locs1 ht hvm hok hB jz1 jk1 hS => ?_)
    · obtain ⟨rfl, hw⟩ := hw
      have hcv : cvF pp aa bb ≠ 0 := fun z => hw ((tk_cv pp aa bb).mpr z)
      rw [if_neg hcv]
      obtain ⟨gq1, hP1, hK1, hD1⟩ := hB
      rw [ht] at hP1
      obtain ⟨hP, hD⟩ := va_join (wr := [KO ho cL f]) (w1 := [KX hx hr0 hq0 .null 0 dr, KP hr0 cI (fun _ => none), KQ hq0 cQ gq1]) hP hD [1, 2, 3] [0] rfl rfl (by decide) (by decide) jk1 hFc hP1 hD1
      have hP := hP.sub (ws' := [KO ho cL f, KX hx hr0 hq0 .null 0 dr, KP hr0 cI (fun _ => none), KQ hq0 cQ gq1]) [0, 1, 2, 3] rfl
      have hD := hD.sub (ws' := [KO ho cL f, KX hx hr0 hq0 .null 0 dr, KP hr0 cI (fun _ => none), KQ hq0 cQ gq1]) [0, 1, 2, 3] (by decide) rfl
      refine vx_catch (own := RL) (name := "java/lang/IllegalArgumentException") (E := "java/lang/IllegalArgumentException") C.2.2.2.1 [] ⟨0, 12, 15, 13⟩ [] htb (fun z hz => nomatch hz) (by decide) (by decide) (C.2.2.2.2 _ aw_c_L_13) (hXc.go (q := ("java/lang/IllegalArgumentException", "java/lang/IllegalArgumentException")) (by decide +kernel)) z3 z4 z5 ?_
      refine lv_astore C.1 C.2.1 dL_curve_15 hl (by decide) rfl (fun ls hl => ?_)
      have hl : lv_has ls 6 [(5, .ref q9), (0, .ref hx), (1, .int (ii pp)), (2, .int (ii aa)), (3, .int (ii bb)), (4, .ref ho)] := hl
      refine i_const C dL_curve_17 ?_
      exact py_i C hr hk hS trivial (fun t ht hvm => ⟨_, f, (fun z => absurd z hcv), (fun _ => Or.inl ⟨rfl, rfl, hi0, gq1, rfl⟩), ⟨by rw [ht]; exact hP, va_K.moved hvm hK, hD⟩⟩) dL_curve_18 rfl (by decide) (by decide)
    · obtain ⟨hcv, hco, hlp, hTn⟩ := tk_new hok tx ty
      rw [if_pos hcv]
      obtain ⟨hc1, gq1, hP1, hK1, hD1⟩ := hB
      rw [hlp] at hP1 hD1
      have em : (fun _ : Nat => ii (-1)) = fun j => ii (ecd (tbN pp.toNat aa.toNat (bxF pp.toNat aa.toNat bb.toNat) (byF pp.toNat aa.toNat bb.toNat) ((fun _ => 0) j))) := by funext j; rw [tbN_0]; rfl
      rw [em] at hP1 hD1
      rw [← hco] at hP1 hD1 hTn
      rw [ht] at hP1
      obtain ⟨hP, hD⟩ := va_join (wr := [KO ho cL f]) (w1 := [KX hx hr0 hq0 (.ref hc1) 0 dr, KP hr0 cI (fun j => tbN pp.toNat aa.toNat (bxF pp.toNat aa.toNat bb.toNat) (byF pp.toNat aa.toNat bb.toNat) ((fun _ => 0) j)), KQ hq0 cQ gq1, KC hc1 pp.toNat aa.toNat bb.toNat (coF pp aa bb) (some ((bxF pp.toNat aa.toNat bb.toNat), (byF pp.toNat aa.toNat bb.toNat)))]) hP hD [1, 2, 3] [0] rfl rfl (by decide) (by decide) jk1 hFc hP1 hD1
      have hP := hP.sub (ws' := [KO ho cL f, KX hx hr0 hq0 (.ref hc1) 0 dr, KP hr0 cI (fun j => tbN pp.toNat aa.toNat (bxF pp.toNat aa.toNat bb.toNat) (byF pp.toNat aa.toNat bb.toNat) ((fun _ => 0) j)), KQ hq0 cQ gq1, KC hc1 pp.toNat aa.toNat bb.toNat (coF pp aa bb) (some ((bxF pp.toNat aa.toNat bb.toNat), (byF pp.toNat aa.toNat bb.toNat)))]) [0, 1, 2, 3, 4] rfl
      have hD := hD.sub (ws' := [KO ho cL f, KX hx hr0 hq0 (.ref hc1) 0 dr, KP hr0 cI (fun j => tbN pp.toNat aa.toNat (bxF pp.toNat aa.toNat bb.toNat) (byF pp.toNat aa.toNat bb.toNat) ((fun _ => 0) j)), KQ hq0 cQ gq1, KC hc1 pp.toNat aa.toNat bb.toNat (coF pp aa bb) (some ((bxF pp.toNat aa.toNat bb.toNat), (byF pp.toNat aa.toNat bb.toNat)))]) [0, 1, 2, 3, 4] (by decide) rfl
      rw [← hco]
      refine lv_i2l C.1 C.2.1 dL_curve_10 rfl ?_
      refine l_ast0 C hK hP hD hS 0 2 rfl rfl dL_curve_11 (fun H2 locs2 f1 hf1 hP hD hS => ?_)
      have hP : va_P D clX [KO ho cL f1, KX hx hr0 hq0 (.ref hc1) 0 dr, KP hr0 cI (fun j => tbN pp.toNat aa.toNat (bxF pp.toNat aa.toNat bb.toNat) (byF pp.toNat aa.toNat bb.toNat) ((fun _ => 0) j)), KQ hq0 cQ gq1, KC hc1 pp.toNat aa.toNat bb.toNat (coF pp aa bb) (some ((bxF pp.toNat aa.toNat bb.toNat), (byF pp.toNat aa.toNat bb.toNat)))] H2 := hP
      have hD : va_D A [KO ho cL f1, KX hx hr0 hq0 (.ref hc1) 0 dr, KP hr0 cI (fun j => tbN pp.toNat aa.toNat (bxF pp.toNat aa.toNat bb.toNat) (byF pp.toNat aa.toNat bb.toNat) ((fun _ => 0) j)), KQ hq0 cQ gq1, KC hc1 pp.toNat aa.toNat bb.toNat (coF pp aa bb) (some ((bxF pp.toNat aa.toNat bb.toNat), (byF pp.toNat aa.toNat bb.toNat)))] := hD
      refine lv_goto (tgt := 19) C.1 C.2.1 dL_curve_12 (by decide) ?_
      refine i_const C dL_curve_19 ?_
      exact py_i C hr hk hS trivial (fun t ht hvm => ⟨_, f1, (fun _ => ⟨Or.inr ⟨hTn, hc1, gq1, rfl⟩, hf1⟩), (fun z => absurd hcv z), ⟨by rw [ht]; exact hP, va_K.moved hvm hK, hD⟩⟩) dL_curve_20 rfl (by decide) (by decide)
  · refine mt_H (by decide +kernel) (Nat.le_of_ble_eq_true rfl) ?_
    intro P0 E0 S0 M0 A0 B0 T0 K0 C hN hZ hsz hz hP hK hD hAz hA hr hk htb hXc ls hl
    have hl : lv_has ls 6 [(0, .ref hx), (1, .int (ii pp)), (2, .int (ii aa)), (3, .int (ii bb)), (4, .ref ho)] := hl
    generalize hAe : va_A [KO ho cL f, KX hx hr0 hq0 (.ref hc) sec dr, KP hr0 cI (fun j => tbN p a gx gy (ix j)), KQ hq0 cQ gq, KC hc p a b n (some (gx, gy))] sz = A at hD hAz hA ⊢
    have hS : va_S A S0.heap S0.heap [] := va_S.rf
    refine lv_aload C.1 C.2.1 dL_curve_0 (lv_at hl 4 rfl) ?_
    refine i_const C dL_curve_2 ?_
    refine lv_aload_n C.1 C.2.1 dL_curve_3 rfl (lv_at hl 0 rfl) ?_
    refine lv_iload_n C.1 C.2.1 dL_curve_4 rfl (lv_at hl 1 rfl) ?_
    refine lv_iload_n C.1 C.2.1 dL_curve_5 rfl (lv_at hl 2 rfl) ?_
    refine lv_iload_n C.1 C.2.1 dL_curve_6 rfl (lv_at hl 3 rfl) ?_
    have hFc := va_free (wc := [KX hx hr0 hq0 (.ref hc) sec dr, KP hr0 cI (fun j => tbN p a gx gy (ix j)), KQ hq0 cQ gq]) hD hS hA [1, 2, 3] rfl
    refine cy_V (As := [.int (ii pp), .int (ii aa), .int (ii bb)]) (rest := [.int (ii 0), .ref ho]) C (c_X1_curve l hL D z0 _ hx hr0 hq0 (.ref hc) sec dr cI cQ (fun j => ii (ecd (tbN p a gx gy (ix j)))) gq pp aa bb hp1 ha1 hb1) (pcm_preV _ hN (Zs.on hZ hS hAz) (by have := hS.1; omega) (hP.sub (ws' := [KX hx hr0 hq0 (.ref hc) sec dr, KP hr0 cI (fun j => tbN p a gx gy (ix j)), KQ hq0 cQ gq]) [1, 2, 3] rfl) (hK.sub (tys' := [(cI, .int), (cQ, .int)]) [0, 1] rfl) ((hD.sub (ws' := [KX hx hr0 hq0 (.ref hc) sec dr, KP hr0 cI (fun j => tbN p a gx gy (ix j)), KQ hq0 cQ gq]) [1, 2, 3] (by decide) rfl).weaken (fun _ _ _ h => hAz _ h)) 0 (ci := 1) rfl rfl) hS hFc aw_b_X1_curve aw_m_L_7 aw_v_X1_curve aw_i_X1 aw_e_X1_curve ⟨rfl, rfl⟩ 3 (by decide +kernel) rfl ⟨by decide, by decide⟩ hl.1 rfl (Nat.le_of_ble_eq_true rfl) dL_curve_7 ⟨by decide, by decide⟩ (fun E t H1 locs1 q9 ce ht hvm hw hB jz1 jk1 hS z3 z4 z5 => ?_) (fun t H1 locs1 ht hvm hok hB jz1 jk1 hS => ?_)
    · obtain ⟨rfl, hw⟩ := hw
      have hcv : cvF pp aa bb ≠ 0 := fun z => hw ((tk_cv pp aa bb).mpr z)
      rw [if_neg hcv]
      obtain ⟨gq1, hP1, hK1, hD1⟩ := hB
      rw [ht] at hP1
      obtain ⟨hP, hD⟩ := va_join (wr := [KO ho cL f, KC hc p a b n (some (gx, gy))]) (w1 := [KX hx hr0 hq0 (.ref hc) sec dr, KP hr0 cI (fun j => tbN p a gx gy (ix j)), KQ hq0 cQ gq1]) hP hD [1, 2, 3] [0, 4] rfl rfl (by decide) (by decide) jk1 hFc hP1 hD1
      have hP := hP.sub (ws' := [KO ho cL f, KX hx hr0 hq0 (.ref hc) sec dr, KP hr0 cI (fun j => tbN p a gx gy (ix j)), KQ hq0 cQ gq1, KC hc p a b n (some (gx, gy))]) [0, 2, 3, 4, 1] rfl
      have hD := hD.sub (ws' := [KO ho cL f, KX hx hr0 hq0 (.ref hc) sec dr, KP hr0 cI (fun j => tbN p a gx gy (ix j)), KQ hq0 cQ gq1, KC hc p a b n (some (gx, gy))]) [0, 2, 3, 4, 1] (by decide) rfl
      refine vx_catch (own := RL) (name := "java/lang/IllegalArgumentException") (E := "java/lang/IllegalArgumentException") C.2.2.2.1 [] ⟨0, 12, 15, 13⟩ [] htb (fun z hz => nomatch hz) (by decide) (by decide) (C.2.2.2.2 _ aw_c_L_13) (hXc.go (q := ("java/lang/IllegalArgumentException", "java/lang/IllegalArgumentException")) (by decide +kernel)) z3 z4 z5 ?_
      refine lv_astore C.1 C.2.1 dL_curve_15 hl (by decide) rfl (fun ls hl => ?_)
      have hl : lv_has ls 6 [(5, .ref q9), (0, .ref hx), (1, .int (ii pp)), (2, .int (ii aa)), (3, .int (ii bb)), (4, .ref ho)] := hl
      refine i_const C dL_curve_17 ?_
      exact py_i C hr hk hS trivial (fun t ht hvm => ⟨_, f, (fun z => absurd z hcv), (fun _ => Or.inr ⟨hT, hc, gq1, rfl⟩), ⟨by rw [ht]; exact hP, va_K.moved hvm hK, hD⟩⟩) dL_curve_18 rfl (by decide) (by decide)
    · obtain ⟨hcv, hco, hlp, hTn⟩ := tk_new hok tx ty
      rw [if_pos hcv]
      obtain ⟨hc1, gq1, hP1, hK1, hD1⟩ := hB
      rw [hlp] at hP1 hD1
      have em : (fun _ : Nat => ii (-1)) = fun j => ii (ecd (tbN pp.toNat aa.toNat (bxF pp.toNat aa.toNat bb.toNat) (byF pp.toNat aa.toNat bb.toNat) ((fun _ => 0) j))) := by funext j; rw [tbN_0]; rfl
      rw [em] at hP1 hD1
      rw [← hco] at hP1 hD1 hTn
      rw [ht] at hP1
      obtain ⟨hP, hD⟩ := va_join (wr := [KO ho cL f, KC hc p a b n (some (gx, gy))]) (w1 := [KX hx hr0 hq0 (.ref hc1) 0 dr, KP hr0 cI (fun j => tbN pp.toNat aa.toNat (bxF pp.toNat aa.toNat bb.toNat) (byF pp.toNat aa.toNat bb.toNat) ((fun _ => 0) j)), KQ hq0 cQ gq1, KC hc1 pp.toNat aa.toNat bb.toNat (coF pp aa bb) (some ((bxF pp.toNat aa.toNat bb.toNat), (byF pp.toNat aa.toNat bb.toNat)))]) hP hD [1, 2, 3] [0, 4] rfl rfl (by decide) (by decide) jk1 hFc hP1 hD1
      have hP := hP.sub (ws' := [KO ho cL f, KX hx hr0 hq0 (.ref hc1) 0 dr, KP hr0 cI (fun j => tbN pp.toNat aa.toNat (bxF pp.toNat aa.toNat bb.toNat) (byF pp.toNat aa.toNat bb.toNat) ((fun _ => 0) j)), KQ hq0 cQ gq1, KC hc1 pp.toNat aa.toNat bb.toNat (coF pp aa bb) (some ((bxF pp.toNat aa.toNat bb.toNat), (byF pp.toNat aa.toNat bb.toNat)))]) [0, 2, 3, 4, 5] rfl
      have hD := hD.sub (ws' := [KO ho cL f, KX hx hr0 hq0 (.ref hc1) 0 dr, KP hr0 cI (fun j => tbN pp.toNat aa.toNat (bxF pp.toNat aa.toNat bb.toNat) (byF pp.toNat aa.toNat bb.toNat) ((fun _ => 0) j)), KQ hq0 cQ gq1, KC hc1 pp.toNat aa.toNat bb.toNat (coF pp aa bb) (some ((bxF pp.toNat aa.toNat bb.toNat), (byF pp.toNat aa.toNat bb.toNat)))]) [0, 2, 3, 4, 5] (by decide) rfl
      rw [← hco]
      refine lv_i2l C.1 C.2.1 dL_curve_10 rfl ?_
      refine l_ast0 C hK hP hD hS 0 2 rfl rfl dL_curve_11 (fun H2 locs2 f1 hf1 hP hD hS => ?_)
      have hP : va_P D clX [KO ho cL f1, KX hx hr0 hq0 (.ref hc1) 0 dr, KP hr0 cI (fun j => tbN pp.toNat aa.toNat (bxF pp.toNat aa.toNat bb.toNat) (byF pp.toNat aa.toNat bb.toNat) ((fun _ => 0) j)), KQ hq0 cQ gq1, KC hc1 pp.toNat aa.toNat bb.toNat (coF pp aa bb) (some ((bxF pp.toNat aa.toNat bb.toNat), (byF pp.toNat aa.toNat bb.toNat)))] H2 := hP
      have hD : va_D A [KO ho cL f1, KX hx hr0 hq0 (.ref hc1) 0 dr, KP hr0 cI (fun j => tbN pp.toNat aa.toNat (bxF pp.toNat aa.toNat bb.toNat) (byF pp.toNat aa.toNat bb.toNat) ((fun _ => 0) j)), KQ hq0 cQ gq1, KC hc1 pp.toNat aa.toNat bb.toNat (coF pp aa bb) (some ((bxF pp.toNat aa.toNat bb.toNat), (byF pp.toNat aa.toNat bb.toNat)))] := hD
      refine lv_goto (tgt := 19) C.1 C.2.1 dL_curve_12 (by decide) ?_
      refine i_const C dL_curve_19 ?_
      exact py_i C hr hk hS trivial (fun t ht hvm => ⟨_, f1, (fun _ => ⟨Or.inr ⟨hTn, hc1, gq1, rfl⟩, hf1⟩), (fun z => absurd hcv z), ⟨by rw [ht]; exact hP, va_K.moved hvm hK, hD⟩⟩) dL_curve_20 rfl (by decide) (by decide)
