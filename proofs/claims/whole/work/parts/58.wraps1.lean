/-! The law: its methods around load, base, sum, times, decode, key. By wip/whole/tools/gen21.py. -/
set_option maxRecDepth 100000 in
set_option maxHeartbeats 4000000 in
theorem wL_load (l : Launch) (hL : l.stackTraces = false) (D : va_G) (z0 sz : Nat) (hx hr0 hq0 : Nat) (cI cQ : ClassId) (n p a b gx gy : Nat) (sec dr : Int) (ix tx ty : Nat → Nat) (kw : va_W) (hR : KR hx hr0 hq0 cI cQ n p a b gx gy sec dr ix tx ty kw) (r x y : Int) (hr1 : rg r) (hx1 : rg x) (hy1 : rg y) : vx_Met l yL_load (Cond.codeWith yL_load cL_load 5 (some .int) [(0, 7, 10, 19), (0, 7, 14, 21), (0, 7, 18, 13)] :: AW) ({ frames := 8, cells := 2, slots := 12, locals := 220 } : Room) (PcH D z0 sz kw [(cI, .int), (cQ, .int)] [.ref hx, .int (ii r), .int (ii x), .int (ii y)]) (QcM (some (.int (ii (gdF (zb n) (nrF r) (zb (fdF tx ty n x y 1100 1 0)))))) True (fun t => ∃ kw1, KR hx hr0 hq0 cI cQ n p a b gx gy sec dr (if gdF (zb n) (nrF r) (zb (fdF tx ty n x y 1100 1 0)) = 0 then va_up ix r.toNat (fdF tx ty n x y 1100 1 0) else ix) tx ty kw1 ∧ Wd D kw1 [(cI, .int), (cQ, .int)] (va_A kw sz) t) (va_A kw sz)) (XcM (fun _ => False) (fun _ => False) (va_A kw sz)) 2 12 (va_A kw sz) := by
  rcases hR with ⟨rfl, rfl, hi0, gq, rfl⟩ | ⟨hT, hc, gq, rfl⟩
  · have hTH : gdF (zb 0) (nrF r) (zb (fdF tx ty 0 x y 1100 1 0)) = 1 := rfl
    rw [hTH]
    rw [if_neg (show ¬ (1 : Int) = 0 by decide)]
    refine mt_H (by decide +kernel) (Nat.le_of_ble_eq_true rfl) ?_
    intro P0 E0 S0 M0 A0 B0 T0 K0 C hN hZ hsz hz hP hK hD hAz hA hr hk htb hXc ls hl
    have hl : lv_has ls 5 [(0, .ref hx), (1, .int (ii r)), (2, .int (ii x)), (3, .int (ii y))] := hl
    generalize hAe : va_A [KX hx hr0 hq0 .null 0 dr, KP hr0 cI (fun _ => none), KQ hq0 cQ gq] sz = A at hD hAz hA ⊢
    have hS : va_S A S0.heap S0.heap [] := va_S.rf
    refine lv_aload_n C.1 C.2.1 dL_load_0 rfl (lv_at hl 0 rfl) ?_
    refine lv_iload_n C.1 C.2.1 dL_load_1 rfl (lv_at hl 1 rfl) ?_
    refine lv_iload_n C.1 C.2.1 dL_load_2 rfl (lv_at hl 2 rfl) ?_
    refine lv_iload_n C.1 C.2.1 dL_load_3 rfl (lv_at hl 3 rfl) ?_
    refine cx_V (As := [.int (ii r), .int (ii x), .int (ii y)]) (rest := []) C (c_X1_load_n l hL D z0 hx hr0 hq0 0 dr (ii r) (ii x) (ii y)) (pcx_preV _ hN hZ (hP.sub (ws' := [KX hx hr0 hq0 .null 0 dr]) [0] rfl) (hK.sub (tys' := []) [] rfl) 0 (ci := 1) rfl rfl) aw_b_X1_load aw_m_L_15 aw_v_X1_load aw_i_X1 aw_e_X1_load ⟨rfl, rfl⟩ 3 (by decide +kernel) rfl ⟨by decide, by decide⟩ hl.1 rfl (Nat.le_of_ble_eq_true rfl) dL_load_4 ⟨by decide, by decide⟩ (fun hw H1 q9 ce z1 z2 z3 z4 z5 => ?_) (fun h => h.elim)
    have hS := hS.on z1 z2
    have hP := hP.on z2
    refine vx_catch (own := RL) (name := "java/lang/IllegalStateException") (E := "java/lang/IllegalStateException") C.2.2.2.1 [] ⟨0, 7, 10, 19⟩ [⟨0, 7, 14, 21⟩, ⟨0, 7, 18, 13⟩] htb (fun z hz => nomatch hz) (by decide) (by decide) (C.2.2.2.2 _ aw_c_L_19) (hXc.go (q := ("java/lang/IllegalStateException", "java/lang/IllegalStateException")) (by decide +kernel)) z3 z4 z5 ?_
    refine lv_astore C.1 C.2.1 dL_load_10 hl (by decide) rfl (fun ls hl => ?_)
    have hl : lv_has ls 5 [(4, .ref q9), (0, .ref hx), (1, .int (ii r)), (2, .int (ii x)), (3, .int (ii y))] := hl
    refine i_const C dL_load_12 ?_
    exact py_i C hr hk hS trivial (fun t ht hvm => ⟨_, Or.inl ⟨rfl, rfl, hi0, gq, rfl⟩, ⟨by rw [ht]; exact hP, va_K.moved hvm hK, hD⟩⟩) dL_load_13 rfl (by decide) (by decide)
  · rw [hT.zn]
    refine mt_H (by decide +kernel) (Nat.le_of_ble_eq_true rfl) ?_
    intro P0 E0 S0 M0 A0 B0 T0 K0 C hN hZ hsz hz hP hK hD hAz hA hr hk htb hXc ls hl
    have hl : lv_has ls 5 [(0, .ref hx), (1, .int (ii r)), (2, .int (ii x)), (3, .int (ii y))] := hl
    generalize hAe : va_A [KX hx hr0 hq0 (.ref hc) sec dr, KP hr0 cI (fun j => tbN p a gx gy (ix j)), KQ hq0 cQ gq, KC hc p a b n (some (gx, gy))] sz = A at hD hAz hA ⊢
    have hS : va_S A S0.heap S0.heap [] := va_S.rf
    refine lv_aload_n C.1 C.2.1 dL_load_0 rfl (lv_at hl 0 rfl) ?_
    refine lv_iload_n C.1 C.2.1 dL_load_1 rfl (lv_at hl 1 rfl) ?_
    refine lv_iload_n C.1 C.2.1 dL_load_2 rfl (lv_at hl 2 rfl) ?_
    refine lv_iload_n C.1 C.2.1 dL_load_3 rfl (lv_at hl 3 rfl) ?_
    have hFc := va_free (wc := [KX hx hr0 hq0 (.ref hc) sec dr, KP hr0 cI (fun j => tbN p a gx gy (ix j)), KC hc p a b n (some (gx, gy))]) hD hS hA [0, 1, 3] rfl
    refine cy_V (As := [.int (ii r), .int (ii x), .int (ii y)]) (rest := []) C (c_X1_load l hL D z0 _ p a b n (some (gx, gy)) hT.p5 hT.la hT.lb hT.n2 hT.sG hx hr0 hq0 hc sec dr cI (fun j => tbN p a gx gy (ix j)) (fun j => hT.sm _) r x y hr1 hx1 hy1) (pcm_preV _ hN (Zs.on hZ hS hAz) (by have := hS.1; omega) (hP.sub (ws' := [KX hx hr0 hq0 (.ref hc) sec dr, KP hr0 cI (fun j => tbN p a gx gy (ix j)), KC hc p a b n (some (gx, gy))]) [0, 1, 3] rfl) (hK.sub (tys' := [(cI, .int)]) [0] rfl) ((hD.sub (ws' := [KX hx hr0 hq0 (.ref hc) sec dr, KP hr0 cI (fun j => tbN p a gx gy (ix j)), KC hc p a b n (some (gx, gy))]) [0, 1, 3] (by decide) rfl).weaken (fun _ _ _ h => hAz _ h)) 0 (ci := 1) rfl rfl) hS hFc aw_b_X1_load aw_m_L_15 aw_v_X1_load aw_i_X1 aw_e_X1_load ⟨rfl, rfl⟩ 3 (by decide +kernel) rfl ⟨by decide, by decide⟩ hl.1 rfl (Nat.le_of_ble_eq_true rfl) dL_load_4 ⟨by decide, by decide⟩ (fun E t H1 locs1 q9 ce ht hvm hw hB jz1 jk1 hS z3 z4 z5 => ?_) (fun t H1 locs1 ht hvm hok hB jz1 jk1 hS => ?_)
    · obtain ⟨hP1, hK1, hD1⟩ := hB
      rw [ht] at hP1
      obtain ⟨hP, hD⟩ := va_join (wr := [KQ hq0 cQ gq]) (w1 := [KX hx hr0 hq0 (.ref hc) sec dr, KP hr0 cI (fun j => tbN p a gx gy (ix j)), KC hc p a b n (some (gx, gy))]) hP hD [0, 1, 3] [2] rfl rfl (by decide) (by decide) jk1 hFc hP1 hD1
      have hP := hP.sub (ws' := [KX hx hr0 hq0 (.ref hc) sec dr, KP hr0 cI (fun j => tbN p a gx gy (ix j)), KQ hq0 cQ gq, KC hc p a b n (some (gx, gy))]) [1, 2, 0, 3] rfl
      have hD := hD.sub (ws' := [KX hx hr0 hq0 (.ref hc) sec dr, KP hr0 cI (fun j => tbN p a gx gy (ix j)), KQ hq0 cQ gq, KC hc p a b n (some (gx, gy))]) [1, 2, 0, 3] (by decide) rfl
      rcases hw with ⟨rfl, hw⟩ | ⟨rfl, hw⟩
      · rw [gd_2 (nr_1 hw), if_neg (by decide)]
        refine vx_catch (own := RL) (name := "java/lang/IndexOutOfBoundsException") (E := "java/lang/IndexOutOfBoundsException") C.2.2.2.1 [⟨0, 7, 10, 19⟩] ⟨0, 7, 14, 21⟩ [⟨0, 7, 18, 13⟩] htb (fun z hz => by cases List.mem_singleton.mp hz; exact Or.inr ⟨by decide, "java/lang/IllegalStateException", C.2.2.2.2 _ aw_c_L_19, hXc.2 ("java/lang/IndexOutOfBoundsException", "java/lang/IllegalStateException") (by decide +kernel)⟩) (by decide) (by decide) (C.2.2.2.2 _ aw_c_L_21) (hXc.go (q := ("java/lang/IndexOutOfBoundsException", "java/lang/IndexOutOfBoundsException")) (by decide +kernel)) z3 z4 z5 ?_
        refine lv_astore C.1 C.2.1 dL_load_14 hl (by decide) rfl (fun ls hl => ?_)
        have hl : lv_has ls 5 [(4, .ref q9), (0, .ref hx), (1, .int (ii r)), (2, .int (ii x)), (3, .int (ii y))] := hl
        refine i_const C dL_load_16 ?_
        exact py_i C hr hk hS trivial (fun t ht hvm => ⟨_, Or.inr ⟨hT, hc, gq, rfl⟩, ⟨by rw [ht]; exact hP, va_K.moved hvm hK, hD⟩⟩) dL_load_17 rfl (by decide) (by decide)
      · rw [gd_3 (nr_0 hw.1) ((hT.load x y).1.mp hw.2), if_neg (by decide)]
        refine vx_catch (own := RL) (name := "java/lang/IllegalArgumentException") (E := "java/lang/IllegalArgumentException") C.2.2.2.1 [⟨0, 7, 10, 19⟩, ⟨0, 7, 14, 21⟩] ⟨0, 7, 18, 13⟩ [] htb (fun z hz => (List.mem_cons.mp hz).elim (fun e => by cases e; exact Or.inr ⟨by decide, "java/lang/IllegalStateException", C.2.2.2.2 _ aw_c_L_19, hXc.2 ("java/lang/IllegalArgumentException", "java/lang/IllegalStateException") (by decide +kernel)⟩) (fun hz => by cases List.mem_singleton.mp hz; exact Or.inr ⟨by decide, "java/lang/IndexOutOfBoundsException", C.2.2.2.2 _ aw_c_L_21, hXc.2 ("java/lang/IllegalArgumentException", "java/lang/IndexOutOfBoundsException") (by decide +kernel)⟩)) (by decide) (by decide) (C.2.2.2.2 _ aw_c_L_13) (hXc.go (q := ("java/lang/IllegalArgumentException", "java/lang/IllegalArgumentException")) (by decide +kernel)) z3 z4 z5 ?_
        refine lv_astore C.1 C.2.1 dL_load_18 hl (by decide) rfl (fun ls hl => ?_)
        have hl : lv_has ls 5 [(4, .ref q9), (0, .ref hx), (1, .int (ii r)), (2, .int (ii x)), (3, .int (ii y))] := hl
        refine i_const C dL_load_20 ?_
        exact py_i C hr hk hS trivial (fun t ht hvm => ⟨_, Or.inr ⟨hT, hc, gq, rfl⟩, ⟨by rw [ht]; exact hP, va_K.moved hvm hK, hD⟩⟩) dL_load_21 rfl (by decide) (by decide)
    · have e := (hT.load x y).2.2 hok.2
      have z9 : zb (fdF tx ty n x y 1100 1 0) = 0 := (zb_b _).resolve_right fun z => hok.2 ((hT.load x y).1.mpr z)
      rw [gd_0 (nr_0 hok.1) z9, if_pos rfl]
      obtain ⟨hP1, hK1, hD1⟩ := hB
      rw [up_tb e] at hP1 hD1
      rw [ht] at hP1
      obtain ⟨hP, hD⟩ := va_join (wr := [KQ hq0 cQ gq]) (w1 := [KX hx hr0 hq0 (.ref hc) sec dr, KP hr0 cI (fun j => tbN p a gx gy (va_up ix r.toNat (fdF tx ty n x y 1100 1 0) j)), KC hc p a b n (some (gx, gy))]) hP hD [0, 1, 3] [2] rfl rfl (by decide) (by decide) jk1 hFc hP1 hD1
      have hP := hP.sub (ws' := [KX hx hr0 hq0 (.ref hc) sec dr, KP hr0 cI (fun j => tbN p a gx gy (va_up ix r.toNat (fdF tx ty n x y 1100 1 0) j)), KQ hq0 cQ gq, KC hc p a b n (some (gx, gy))]) [1, 2, 0, 3] rfl
      have hD := hD.sub (ws' := [KX hx hr0 hq0 (.ref hc) sec dr, KP hr0 cI (fun j => tbN p a gx gy (va_up ix r.toNat (fdF tx ty n x y 1100 1 0) j)), KQ hq0 cQ gq, KC hc p a b n (some (gx, gy))]) [1, 2, 0, 3] (by decide) rfl
      refine lv_goto (tgt := 22) C.1 C.2.1 dL_load_7 (by decide) ?_
      refine i_const C dL_load_22 ?_
      exact py_i C hr hk hS trivial (fun t ht hvm => ⟨_, Or.inr ⟨hT.up _ (hT.load x y).2.1, hc, gq, rfl⟩, ⟨by rw [ht]; exact hP, va_K.moved hvm hK, hD⟩⟩) dL_load_23 rfl (by decide) (by decide)
set_option maxRecDepth 100000 in
set_option maxHeartbeats 4000000 in
theorem wL_base (l : Launch) (hL : l.stackTraces = false) (D : va_G) (z0 sz : Nat) (hx hr0 hq0 : Nat) (cI cQ : ClassId) (n p a b gx gy : Nat) (sec dr : Int) (ix tx ty : Nat → Nat) (kw : va_W) (hR : KR hx hr0 hq0 cI cQ n p a b gx gy sec dr ix tx ty kw) (r : Int) (hr1 : rg r) : vx_Met l yL_base (Cond.codeWith yL_base cL_base 3 (some .int) [(0, 5, 8, 19), (0, 5, 11, 21)] :: AW) ({ frames := 8, cells := 1, slots := 6, locals := 220 } : Room) (PcH D z0 sz kw [(cI, .int), (cQ, .int)] [.ref hx, .int (ii r)]) (QcM (some (.int (ii (gdF (zb n) (nrF r) 0)))) True (fun t => ∃ kw1, KR hx hr0 hq0 cI cQ n p a b gx gy sec dr (if gdF (zb n) (nrF r) 0 = 0 then va_up ix r.toNat 1 else ix) tx ty kw1 ∧ Wd D kw1 [(cI, .int), (cQ, .int)] (va_A kw sz) t) (va_A kw sz)) (XcM (fun _ => False) (fun _ => False) (va_A kw sz)) 1 6 (va_A kw sz) := by
  rcases hR with ⟨rfl, rfl, hi0, gq, rfl⟩ | ⟨hT, hc, gq, rfl⟩
  · have hTH : gdF (zb 0) (nrF r) 0 = 1 := rfl
    rw [hTH]
    rw [if_neg (show ¬ (1 : Int) = 0 by decide)]
    refine mt_H (by decide +kernel) (Nat.le_of_ble_eq_true rfl) ?_
    intro P0 E0 S0 M0 A0 B0 T0 K0 C hN hZ hsz hz hP hK hD hAz hA hr hk htb hXc ls hl
    have hl : lv_has ls 3 [(0, .ref hx), (1, .int (ii r))] := hl
    generalize hAe : va_A [KX hx hr0 hq0 .null 0 dr, KP hr0 cI (fun _ => none), KQ hq0 cQ gq] sz = A at hD hAz hA ⊢
    have hS : va_S A S0.heap S0.heap [] := va_S.rf
    refine lv_aload_n C.1 C.2.1 dL_base_0 rfl (lv_at hl 0 rfl) ?_
    refine lv_iload_n C.1 C.2.1 dL_base_1 rfl (lv_at hl 1 rfl) ?_
    refine cx_V (As := [.int (ii r)]) (rest := []) C (c_X1_base_n l hL D z0 hx hr0 hq0 0 dr (ii r)) (pcx_preV _ hN hZ (hP.sub (ws' := [KX hx hr0 hq0 .null 0 dr]) [0] rfl) (hK.sub (tys' := []) [] rfl) 0 (ci := 1) rfl rfl) aw_b_X1_base aw_m_L_23 aw_v_X1_base aw_i_X1 aw_e_X1_base ⟨rfl, rfl⟩ 1 (by decide +kernel) rfl ⟨by decide, by decide⟩ hl.1 rfl (Nat.le_of_ble_eq_true rfl) dL_base_2 ⟨by decide, by decide⟩ (fun hw H1 q9 ce z1 z2 z3 z4 z5 => ?_) (fun h => h.elim)
    have hS := hS.on z1 z2
    have hP := hP.on z2
    refine vx_catch (own := RL) (name := "java/lang/IllegalStateException") (E := "java/lang/IllegalStateException") C.2.2.2.1 [] ⟨0, 5, 8, 19⟩ [⟨0, 5, 11, 21⟩] htb (fun z hz => nomatch hz) (by decide) (by decide) (C.2.2.2.2 _ aw_c_L_19) (hXc.go (q := ("java/lang/IllegalStateException", "java/lang/IllegalStateException")) (by decide +kernel)) z3 z4 z5 ?_
    refine lv_astore_n C.1 C.2.1 dL_base_8 rfl hl (by decide) rfl (fun ls hl => ?_)
    have hl : lv_has ls 3 [(2, .ref q9), (0, .ref hx), (1, .int (ii r))] := hl
    refine i_const C dL_base_9 ?_
    exact py_i C hr hk hS trivial (fun t ht hvm => ⟨_, Or.inl ⟨rfl, rfl, hi0, gq, rfl⟩, ⟨by rw [ht]; exact hP, va_K.moved hvm hK, hD⟩⟩) dL_base_10 rfl (by decide) (by decide)
  · rw [hT.zn]
    refine mt_H (by decide +kernel) (Nat.le_of_ble_eq_true rfl) ?_
    intro P0 E0 S0 M0 A0 B0 T0 K0 C hN hZ hsz hz hP hK hD hAz hA hr hk htb hXc ls hl
    have hl : lv_has ls 3 [(0, .ref hx), (1, .int (ii r))] := hl
    generalize hAe : va_A [KX hx hr0 hq0 (.ref hc) sec dr, KP hr0 cI (fun j => tbN p a gx gy (ix j)), KQ hq0 cQ gq, KC hc p a b n (some (gx, gy))] sz = A at hD hAz hA ⊢
    have hS : va_S A S0.heap S0.heap [] := va_S.rf
    refine lv_aload_n C.1 C.2.1 dL_base_0 rfl (lv_at hl 0 rfl) ?_
    refine lv_iload_n C.1 C.2.1 dL_base_1 rfl (lv_at hl 1 rfl) ?_
    have hFc := va_free (wc := [KX hx hr0 hq0 (.ref hc) sec dr, KP hr0 cI (fun j => tbN p a gx gy (ix j)), KC hc p a b n (some (gx, gy))]) hD hS hA [0, 1, 3] rfl
    refine cy_V (As := [.int (ii r)]) (rest := []) C (c_X1_base l hL D z0 _ p a b n (some (gx, gy)) hT.p5 hT.la hT.lb hT.n2 hT.sG hx hr0 hq0 hc sec dr cI (fun j => tbN p a gx gy (ix j)) (fun j => hT.sm _) r hr1) (pcm_preV _ hN (Zs.on hZ hS hAz) (by have := hS.1; omega) (hP.sub (ws' := [KX hx hr0 hq0 (.ref hc) sec dr, KP hr0 cI (fun j => tbN p a gx gy (ix j)), KC hc p a b n (some (gx, gy))]) [0, 1, 3] rfl) (hK.sub (tys' := [(cI, .int)]) [0] rfl) ((hD.sub (ws' := [KX hx hr0 hq0 (.ref hc) sec dr, KP hr0 cI (fun j => tbN p a gx gy (ix j)), KC hc p a b n (some (gx, gy))]) [0, 1, 3] (by decide) rfl).weaken (fun _ _ _ h => hAz _ h)) 0 (ci := 1) rfl rfl) hS hFc aw_b_X1_base aw_m_L_23 aw_v_X1_base aw_i_X1 aw_e_X1_base ⟨rfl, rfl⟩ 1 (by decide +kernel) rfl ⟨by decide, by decide⟩ hl.1 rfl (Nat.le_of_ble_eq_true rfl) dL_base_2 ⟨by decide, by decide⟩ (fun E t H1 locs1 q9 ce ht hvm hw hB jz1 jk1 hS z3 z4 z5 => ?_) (fun t H1 locs1 ht hvm hok hB jz1 jk1 hS => ?_)
    · obtain ⟨hP1, hK1, hD1⟩ := hB
      rw [ht] at hP1
      obtain ⟨hP, hD⟩ := va_join (wr := [KQ hq0 cQ gq]) (w1 := [KX hx hr0 hq0 (.ref hc) sec dr, KP hr0 cI (fun j => tbN p a gx gy (ix j)), KC hc p a b n (some (gx, gy))]) hP hD [0, 1, 3] [2] rfl rfl (by decide) (by decide) jk1 hFc hP1 hD1
      have hP := hP.sub (ws' := [KX hx hr0 hq0 (.ref hc) sec dr, KP hr0 cI (fun j => tbN p a gx gy (ix j)), KQ hq0 cQ gq, KC hc p a b n (some (gx, gy))]) [1, 2, 0, 3] rfl
      have hD := hD.sub (ws' := [KX hx hr0 hq0 (.ref hc) sec dr, KP hr0 cI (fun j => tbN p a gx gy (ix j)), KQ hq0 cQ gq, KC hc p a b n (some (gx, gy))]) [1, 2, 0, 3] (by decide) rfl
      rcases hw with ⟨rfl, hw⟩
      rw [gd_2 (nr_1 hw), if_neg (by decide)]
      refine vx_catch (own := RL) (name := "java/lang/IndexOutOfBoundsException") (E := "java/lang/IndexOutOfBoundsException") C.2.2.2.1 [⟨0, 5, 8, 19⟩] ⟨0, 5, 11, 21⟩ [] htb (fun z hz => by cases List.mem_singleton.mp hz; exact Or.inr ⟨by decide, "java/lang/IllegalStateException", C.2.2.2.2 _ aw_c_L_19, hXc.2 ("java/lang/IndexOutOfBoundsException", "java/lang/IllegalStateException") (by decide +kernel)⟩) (by decide) (by decide) (C.2.2.2.2 _ aw_c_L_21) (hXc.go (q := ("java/lang/IndexOutOfBoundsException", "java/lang/IndexOutOfBoundsException")) (by decide +kernel)) z3 z4 z5 ?_
      refine lv_astore_n C.1 C.2.1 dL_base_11 rfl hl (by decide) rfl (fun ls hl => ?_)
      have hl : lv_has ls 3 [(2, .ref q9), (0, .ref hx), (1, .int (ii r))] := hl
      refine i_const C dL_base_12 ?_
      exact py_i C hr hk hS trivial (fun t ht hvm => ⟨_, Or.inr ⟨hT, hc, gq, rfl⟩, ⟨by rw [ht]; exact hP, va_K.moved hvm hK, hD⟩⟩) dL_base_13 rfl (by decide) (by decide)
    · rw [gd_0 (nr_0 hok) rfl, if_pos rfl]
      obtain ⟨hP1, hK1, hD1⟩ := hB
      rw [up_tb hT.one] at hP1 hD1
      rw [ht] at hP1
      obtain ⟨hP, hD⟩ := va_join (wr := [KQ hq0 cQ gq]) (w1 := [KX hx hr0 hq0 (.ref hc) sec dr, KP hr0 cI (fun j => tbN p a gx gy (va_up ix r.toNat 1 j)), KC hc p a b n (some (gx, gy))]) hP hD [0, 1, 3] [2] rfl rfl (by decide) (by decide) jk1 hFc hP1 hD1
      have hP := hP.sub (ws' := [KX hx hr0 hq0 (.ref hc) sec dr, KP hr0 cI (fun j => tbN p a gx gy (va_up ix r.toNat 1 j)), KQ hq0 cQ gq, KC hc p a b n (some (gx, gy))]) [1, 2, 0, 3] rfl
      have hD := hD.sub (ws' := [KX hx hr0 hq0 (.ref hc) sec dr, KP hr0 cI (fun j => tbN p a gx gy (va_up ix r.toNat 1 j)), KQ hq0 cQ gq, KC hc p a b n (some (gx, gy))]) [1, 2, 0, 3] (by decide) rfl
      refine lv_goto (tgt := 14) C.1 C.2.1 dL_base_5 (by decide) ?_
      refine i_const C dL_base_14 ?_
      exact py_i C hr hk hS trivial (fun t ht hvm => ⟨_, Or.inr ⟨hT.up _ (by have := hT.n3; omega), hc, gq, rfl⟩, ⟨by rw [ht]; exact hP, va_K.moved hvm hK, hD⟩⟩) dL_base_15 rfl (by decide) (by decide)
set_option maxRecDepth 100000 in
set_option maxHeartbeats 4000000 in
theorem wL_sum (l : Launch) (hL : l.stackTraces = false) (D : va_G) (z0 sz : Nat) (hx hr0 hq0 : Nat) (cI cQ : ClassId) (n p a b gx gy : Nat) (sec dr : Int) (ix tx ty : Nat → Nat) (kw : va_W) (hR : KR hx hr0 hq0 cI cQ n p a b gx gy sec dr ix tx ty kw) (d u v : Int) (hd1 : rg d) (hu1 : rg u) (hv1 : rg v) : vx_Met l yL_sum (Cond.codeWith yL_sum cL_sum 5 (some .int) [(0, 7, 10, 19), (0, 7, 14, 21)] :: AW) ({ frames := 8, cells := 3, slots := 18, locals := 220 } : Room) (PcH D z0 sz kw [(cI, .int), (cQ, .int)] [.ref hx, .int (ii d), .int (ii u), .int (ii v)]) (QcM (some (.int (ii (gdF (zb n) (or3 (nrF d) (nrF u) (nrF v)) 0)))) True (fun t => ∃ kw1, KR hx hr0 hq0 cI cQ n p a b gx gy sec dr (if gdF (zb n) (or3 (nrF d) (nrF u) (nrF v)) 0 = 0 then va_up ix d.toNat ((ix u.toNat + ix v.toNat) % n) else ix) tx ty kw1 ∧ Wd D kw1 [(cI, .int), (cQ, .int)] (va_A kw sz) t) (va_A kw sz)) (XcM (fun _ => False) (fun _ => False) (va_A kw sz)) 3 18 (va_A kw sz) := by
  rcases hR with ⟨rfl, rfl, hi0, gq, rfl⟩ | ⟨hT, hc, gq, rfl⟩
  · have hTH : gdF (zb 0) (or3 (nrF d) (nrF u) (nrF v)) 0 = 1 := rfl
    rw [hTH]
    rw [if_neg (show ¬ (1 : Int) = 0 by decide)]
    refine mt_H (by decide +kernel) (Nat.le_of_ble_eq_true rfl) ?_
    intro P0 E0 S0 M0 A0 B0 T0 K0 C hN hZ hsz hz hP hK hD hAz hA hr hk htb hXc ls hl
    have hl : lv_has ls 5 [(0, .ref hx), (1, .int (ii d)), (2, .int (ii u)), (3, .int (ii v))] := hl
    generalize hAe : va_A [KX hx hr0 hq0 .null 0 dr, KP hr0 cI (fun _ => none), KQ hq0 cQ gq] sz = A at hD hAz hA ⊢
    have hS : va_S A S0.heap S0.heap [] := va_S.rf
    refine lv_aload_n C.1 C.2.1 dL_sum_0 rfl (lv_at hl 0 rfl) ?_
    refine lv_iload_n C.1 C.2.1 dL_sum_1 rfl (lv_at hl 1 rfl) ?_
    refine lv_iload_n C.1 C.2.1 dL_sum_2 rfl (lv_at hl 2 rfl) ?_
    refine lv_iload_n C.1 C.2.1 dL_sum_3 rfl (lv_at hl 3 rfl) ?_
    refine cx_V (As := [.int (ii d), .int (ii u), .int (ii v)]) (rest := []) C (c_X1_sum_n l hL D z0 hx hr0 hq0 0 dr (ii d) (ii u) (ii v)) (pcx_preV _ hN hZ (hP.sub (ws' := [KX hx hr0 hq0 .null 0 dr]) [0] rfl) (hK.sub (tys' := []) [] rfl) 0 (ci := 1) rfl rfl) aw_b_X1_sum aw_m_L_27 aw_v_X1_sum aw_i_X1 aw_e_X1_sum ⟨rfl, rfl⟩ 3 (by decide +kernel) rfl ⟨by decide, by decide⟩ hl.1 rfl (Nat.le_of_ble_eq_true rfl) dL_sum_4 ⟨by decide, by decide⟩ (fun hw H1 q9 ce z1 z2 z3 z4 z5 => ?_) (fun h => h.elim)
    have hS := hS.on z1 z2
    have hP := hP.on z2
    refine vx_catch (own := RL) (name := "java/lang/IllegalStateException") (E := "java/lang/IllegalStateException") C.2.2.2.1 [] ⟨0, 7, 10, 19⟩ [⟨0, 7, 14, 21⟩] htb (fun z hz => nomatch hz) (by decide) (by decide) (C.2.2.2.2 _ aw_c_L_19) (hXc.go (q := ("java/lang/IllegalStateException", "java/lang/IllegalStateException")) (by decide +kernel)) z3 z4 z5 ?_
    refine lv_astore C.1 C.2.1 dL_sum_10 hl (by decide) rfl (fun ls hl => ?_)
    have hl : lv_has ls 5 [(4, .ref q9), (0, .ref hx), (1, .int (ii d)), (2, .int (ii u)), (3, .int (ii v))] := hl
    refine i_const C dL_sum_12 ?_
    exact py_i C hr hk hS trivial (fun t ht hvm => ⟨_, Or.inl ⟨rfl, rfl, hi0, gq, rfl⟩, ⟨by rw [ht]; exact hP, va_K.moved hvm hK, hD⟩⟩) dL_sum_13 rfl (by decide) (by decide)
  · rw [hT.zn]
    refine mt_H (by decide +kernel) (Nat.le_of_ble_eq_true rfl) ?_
    intro P0 E0 S0 M0 A0 B0 T0 K0 C hN hZ hsz hz hP hK hD hAz hA hr hk htb hXc ls hl
    have hl : lv_has ls 5 [(0, .ref hx), (1, .int (ii d)), (2, .int (ii u)), (3, .int (ii v))] := hl
    generalize hAe : va_A [KX hx hr0 hq0 (.ref hc) sec dr, KP hr0 cI (fun j => tbN p a gx gy (ix j)), KQ hq0 cQ gq, KC hc p a b n (some (gx, gy))] sz = A at hD hAz hA ⊢
    have hS : va_S A S0.heap S0.heap [] := va_S.rf
    refine lv_aload_n C.1 C.2.1 dL_sum_0 rfl (lv_at hl 0 rfl) ?_
    refine lv_iload_n C.1 C.2.1 dL_sum_1 rfl (lv_at hl 1 rfl) ?_
    refine lv_iload_n C.1 C.2.1 dL_sum_2 rfl (lv_at hl 2 rfl) ?_
    refine lv_iload_n C.1 C.2.1 dL_sum_3 rfl (lv_at hl 3 rfl) ?_
    have hFc := va_free (wc := [KX hx hr0 hq0 (.ref hc) sec dr, KP hr0 cI (fun j => tbN p a gx gy (ix j)), KC hc p a b n (some (gx, gy))]) hD hS hA [0, 1, 3] rfl
    refine cy_V (As := [.int (ii d), .int (ii u), .int (ii v)]) (rest := []) C (c_X1_sum l hL D z0 _ p a b n (some (gx, gy)) hT.p5 hT.la hT.lb hT.n2 hT.sG hx hr0 hq0 hc sec dr cI (fun j => tbN p a gx gy (ix j)) (fun j => hT.sm _) d u v hd1 hu1 hv1) (pcm_preV _ hN (Zs.on hZ hS hAz) (by have := hS.1; omega) (hP.sub (ws' := [KX hx hr0 hq0 (.ref hc) sec dr, KP hr0 cI (fun j => tbN p a gx gy (ix j)), KC hc p a b n (some (gx, gy))]) [0, 1, 3] rfl) (hK.sub (tys' := [(cI, .int)]) [0] rfl) ((hD.sub (ws' := [KX hx hr0 hq0 (.ref hc) sec dr, KP hr0 cI (fun j => tbN p a gx gy (ix j)), KC hc p a b n (some (gx, gy))]) [0, 1, 3] (by decide) rfl).weaken (fun _ _ _ h => hAz _ h)) 0 (ci := 1) rfl rfl) hS hFc aw_b_X1_sum aw_m_L_27 aw_v_X1_sum aw_i_X1 aw_e_X1_sum ⟨rfl, rfl⟩ 3 (by decide +kernel) rfl ⟨by decide, by decide⟩ hl.1 rfl (Nat.le_of_ble_eq_true rfl) dL_sum_4 ⟨by decide, by decide⟩ (fun E t H1 locs1 q9 ce ht hvm hw hB jz1 jk1 hS z3 z4 z5 => ?_) (fun t H1 locs1 ht hvm hok hB jz1 jk1 hS => ?_)
    · obtain ⟨hP1, hK1, hD1⟩ := hB
      rw [ht] at hP1
      obtain ⟨hP, hD⟩ := va_join (wr := [KQ hq0 cQ gq]) (w1 := [KX hx hr0 hq0 (.ref hc) sec dr, KP hr0 cI (fun j => tbN p a gx gy (ix j)), KC hc p a b n (some (gx, gy))]) hP hD [0, 1, 3] [2] rfl rfl (by decide) (by decide) jk1 hFc hP1 hD1
      have hP := hP.sub (ws' := [KX hx hr0 hq0 (.ref hc) sec dr, KP hr0 cI (fun j => tbN p a gx gy (ix j)), KQ hq0 cQ gq, KC hc p a b n (some (gx, gy))]) [1, 2, 0, 3] rfl
      have hD := hD.sub (ws' := [KX hx hr0 hq0 (.ref hc) sec dr, KP hr0 cI (fun j => tbN p a gx gy (ix j)), KQ hq0 cQ gq, KC hc p a b n (some (gx, gy))]) [1, 2, 0, 3] (by decide) rfl
      rcases hw with ⟨rfl, hw⟩
      rw [gd_2 (or_1 (nrF_b d) (nrF_b u) (nrF_b v) fun z => hw ⟨nrF_0.mp z.1, nrF_0.mp z.2.1, nrF_0.mp z.2.2⟩), if_neg (by decide)]
      refine vx_catch (own := RL) (name := "java/lang/IndexOutOfBoundsException") (E := "java/lang/IndexOutOfBoundsException") C.2.2.2.1 [⟨0, 7, 10, 19⟩] ⟨0, 7, 14, 21⟩ [] htb (fun z hz => by cases List.mem_singleton.mp hz; exact Or.inr ⟨by decide, "java/lang/IllegalStateException", C.2.2.2.2 _ aw_c_L_19, hXc.2 ("java/lang/IndexOutOfBoundsException", "java/lang/IllegalStateException") (by decide +kernel)⟩) (by decide) (by decide) (C.2.2.2.2 _ aw_c_L_21) (hXc.go (q := ("java/lang/IndexOutOfBoundsException", "java/lang/IndexOutOfBoundsException")) (by decide +kernel)) z3 z4 z5 ?_
      refine lv_astore C.1 C.2.1 dL_sum_14 hl (by decide) rfl (fun ls hl => ?_)
      have hl : lv_has ls 5 [(4, .ref q9), (0, .ref hx), (1, .int (ii d)), (2, .int (ii u)), (3, .int (ii v))] := hl
      refine i_const C dL_sum_16 ?_
      exact py_i C hr hk hS trivial (fun t ht hvm => ⟨_, Or.inr ⟨hT, hc, gq, rfl⟩, ⟨by rw [ht]; exact hP, va_K.moved hvm hK, hD⟩⟩) dL_sum_17 rfl (by decide) (by decide)
    · rw [gd_0 (or3_0.mpr ⟨nr_0 hok.1, nr_0 hok.2.1, nr_0 hok.2.2⟩) rfl, if_pos rfl]
      obtain ⟨hP1, hK1, hD1⟩ := hB
      rw [up_tb (hT.sum _ _).symm] at hP1 hD1
      rw [ht] at hP1
      obtain ⟨hP, hD⟩ := va_join (wr := [KQ hq0 cQ gq]) (w1 := [KX hx hr0 hq0 (.ref hc) sec dr, KP hr0 cI (fun j => tbN p a gx gy (va_up ix d.toNat ((ix u.toNat + ix v.toNat) % n) j)), KC hc p a b n (some (gx, gy))]) hP hD [0, 1, 3] [2] rfl rfl (by decide) (by decide) jk1 hFc hP1 hD1
      have hP := hP.sub (ws' := [KX hx hr0 hq0 (.ref hc) sec dr, KP hr0 cI (fun j => tbN p a gx gy (va_up ix d.toNat ((ix u.toNat + ix v.toNat) % n) j)), KQ hq0 cQ gq, KC hc p a b n (some (gx, gy))]) [1, 2, 0, 3] rfl
      have hD := hD.sub (ws' := [KX hx hr0 hq0 (.ref hc) sec dr, KP hr0 cI (fun j => tbN p a gx gy (va_up ix d.toNat ((ix u.toNat + ix v.toNat) % n) j)), KQ hq0 cQ gq, KC hc p a b n (some (gx, gy))]) [1, 2, 0, 3] (by decide) rfl
      refine lv_goto (tgt := 18) C.1 C.2.1 dL_sum_7 (by decide) ?_
      refine i_const C dL_sum_18 ?_
      exact py_i C hr hk hS trivial (fun t ht hvm => ⟨_, Or.inr ⟨hT.up _ (Nat.mod_lt _ (by have := hT.n3; omega)), hc, gq, rfl⟩, ⟨by rw [ht]; exact hP, va_K.moved hvm hK, hD⟩⟩) dL_sum_19 rfl (by decide) (by decide)
set_option maxRecDepth 100000 in
set_option maxHeartbeats 4000000 in
theorem wL_times (l : Launch) (hL : l.stackTraces = false) (D : va_G) (z0 sz : Nat) (hx hr0 hq0 : Nat) (cI cQ : ClassId) (n p a b gx gy : Nat) (sec dr : Int) (ix tx ty : Nat → Nat) (kw : va_W) (hR : KR hx hr0 hq0 cI cQ n p a b gx gy sec dr ix tx ty kw) (d k u : Int) (hd1 : rg d) (hk1 : rg k) (hu1 : rg u) : vx_Met l yL_times (Cond.codeWith yL_times cL_times 5 (some .int) [(0, 7, 10, 19), (0, 7, 14, 21)] :: AW) ({ frames := 8, cells := 2, slots := 12, locals := 220 } : Room) (PcH D z0 sz kw [(cI, .int), (cQ, .int)] [.ref hx, .int (ii d), .int (ii k), .int (ii u)]) (QcM (some (.int (ii (gdF (zb n) (or3 (nrF d) (nrF u) 0) 0)))) True (fun t => ∃ kw1, KR hx hr0 hq0 cI cQ n p a b gx gy sec dr (if gdF (zb n) (or3 (nrF d) (nrF u) 0) 0 = 0 then va_up ix d.toNat ((k % (n : Int)).toNat * ix u.toNat % n) else ix) tx ty kw1 ∧ Wd D kw1 [(cI, .int), (cQ, .int)] (va_A kw sz) t) (va_A kw sz)) (XcM (fun _ => False) (fun _ => False) (va_A kw sz)) 2 12 (va_A kw sz) := by
  rcases hR with ⟨rfl, rfl, hi0, gq, rfl⟩ | ⟨hT, hc, gq, rfl⟩
  · have hTH : gdF (zb 0) (or3 (nrF d) (nrF u) 0) 0 = 1 := rfl
    rw [hTH]
    rw [if_neg (show ¬ (1 : Int) = 0 by decide)]
    refine mt_H (by decide +kernel) (Nat.le_of_ble_eq_true rfl) ?_
    intro P0 E0 S0 M0 A0 B0 T0 K0 C hN hZ hsz hz hP hK hD hAz hA hr hk htb hXc ls hl
    have hl : lv_has ls 5 [(0, .ref hx), (1, .int (ii d)), (2, .int (ii k)), (3, .int (ii u))] := hl
    generalize hAe : va_A [KX hx hr0 hq0 .null 0 dr, KP hr0 cI (fun _ => none), KQ hq0 cQ gq] sz = A at hD hAz hA ⊢
    have hS : va_S A S0.heap S0.heap [] := va_S.rf
    refine lv_aload_n C.1 C.2.1 dL_times_0 rfl (lv_at hl 0 rfl) ?_
    refine lv_iload_n C.1 C.2.1 dL_times_1 rfl (lv_at hl 1 rfl) ?_
    refine lv_iload_n C.1 C.2.1 dL_times_2 rfl (lv_at hl 2 rfl) ?_
    refine lv_iload_n C.1 C.2.1 dL_times_3 rfl (lv_at hl 3 rfl) ?_
    refine cx_V (As := [.int (ii d), .int (ii k), .int (ii u)]) (rest := []) C (c_X1_times_n l hL D z0 hx hr0 hq0 0 dr (ii d) (ii k) (ii u)) (pcx_preV _ hN hZ (hP.sub (ws' := [KX hx hr0 hq0 .null 0 dr]) [0] rfl) (hK.sub (tys' := []) [] rfl) 0 (ci := 1) rfl rfl) aw_b_X1_times aw_m_L_30 aw_v_X1_times aw_i_X1 aw_e_X1_times ⟨rfl, rfl⟩ 3 (by decide +kernel) rfl ⟨by decide, by decide⟩ hl.1 rfl (Nat.le_of_ble_eq_true rfl) dL_times_4 ⟨by decide, by decide⟩ (fun hw H1 q9 ce z1 z2 z3 z4 z5 => ?_) (fun h => h.elim)
    have hS := hS.on z1 z2
    have hP := hP.on z2
    refine vx_catch (own := RL) (name := "java/lang/IllegalStateException") (E := "java/lang/IllegalStateException") C.2.2.2.1 [] ⟨0, 7, 10, 19⟩ [⟨0, 7, 14, 21⟩] htb (fun z hz => nomatch hz) (by decide) (by decide) (C.2.2.2.2 _ aw_c_L_19) (hXc.go (q := ("java/lang/IllegalStateException", "java/lang/IllegalStateException")) (by decide +kernel)) z3 z4 z5 ?_
    refine lv_astore C.1 C.2.1 dL_times_10 hl (by decide) rfl (fun ls hl => ?_)
    have hl : lv_has ls 5 [(4, .ref q9), (0, .ref hx), (1, .int (ii d)), (2, .int (ii k)), (3, .int (ii u))] := hl
    refine i_const C dL_times_12 ?_
    exact py_i C hr hk hS trivial (fun t ht hvm => ⟨_, Or.inl ⟨rfl, rfl, hi0, gq, rfl⟩, ⟨by rw [ht]; exact hP, va_K.moved hvm hK, hD⟩⟩) dL_times_13 rfl (by decide) (by decide)
  · rw [hT.zn]
    refine mt_H (by decide +kernel) (Nat.le_of_ble_eq_true rfl) ?_
    intro P0 E0 S0 M0 A0 B0 T0 K0 C hN hZ hsz hz hP hK hD hAz hA hr hk htb hXc ls hl
    have hl : lv_has ls 5 [(0, .ref hx), (1, .int (ii d)), (2, .int (ii k)), (3, .int (ii u))] := hl
    generalize hAe : va_A [KX hx hr0 hq0 (.ref hc) sec dr, KP hr0 cI (fun j => tbN p a gx gy (ix j)), KQ hq0 cQ gq, KC hc p a b n (some (gx, gy))] sz = A at hD hAz hA ⊢
    have hS : va_S A S0.heap S0.heap [] := va_S.rf
    refine lv_aload_n C.1 C.2.1 dL_times_0 rfl (lv_at hl 0 rfl) ?_
    refine lv_iload_n C.1 C.2.1 dL_times_1 rfl (lv_at hl 1 rfl) ?_
    refine lv_iload_n C.1 C.2.1 dL_times_2 rfl (lv_at hl 2 rfl) ?_
    refine lv_iload_n C.1 C.2.1 dL_times_3 rfl (lv_at hl 3 rfl) ?_
    have hFc := va_free (wc := [KX hx hr0 hq0 (.ref hc) sec dr, KP hr0 cI (fun j => tbN p a gx gy (ix j)), KC hc p a b n (some (gx, gy))]) hD hS hA [0, 1, 3] rfl
    refine cy_V (As := [.int (ii d), .int (ii k), .int (ii u)]) (rest := []) C (c_X1_times l hL D z0 _ p a b n (some (gx, gy)) hT.p5 hT.la hT.lb hT.n2 hT.sG hx hr0 hq0 hc sec dr cI (fun j => tbN p a gx gy (ix j)) (fun j => hT.sm _) d k u hd1 hk1 hu1) (pcm_preV _ hN (Zs.on hZ hS hAz) (by have := hS.1; omega) (hP.sub (ws' := [KX hx hr0 hq0 (.ref hc) sec dr, KP hr0 cI (fun j => tbN p a gx gy (ix j)), KC hc p a b n (some (gx, gy))]) [0, 1, 3] rfl) (hK.sub (tys' := [(cI, .int)]) [0] rfl) ((hD.sub (ws' := [KX hx hr0 hq0 (.ref hc) sec dr, KP hr0 cI (fun j => tbN p a gx gy (ix j)), KC hc p a b n (some (gx, gy))]) [0, 1, 3] (by decide) rfl).weaken (fun _ _ _ h => hAz _ h)) 0 (ci := 1) rfl rfl) hS hFc aw_b_X1_times aw_m_L_30 aw_v_X1_times aw_i_X1 aw_e_X1_times ⟨rfl, rfl⟩ 3 (by decide +kernel) rfl ⟨by decide, by decide⟩ hl.1 rfl (Nat.le_of_ble_eq_true rfl) dL_times_4 ⟨by decide, by decide⟩ (fun E t H1 locs1 q9 ce ht hvm hw hB jz1 jk1 hS z3 z4 z5 => ?_) (fun t H1 locs1 ht hvm hok hB jz1 jk1 hS => ?_)
    · obtain ⟨hP1, hK1, hD1⟩ := hB
      rw [ht] at hP1
      obtain ⟨hP, hD⟩ := va_join (wr := [KQ hq0 cQ gq]) (w1 := [KX hx hr0 hq0 (.ref hc) sec dr, KP hr0 cI (fun j => tbN p a gx gy (ix j)), KC hc p a b n (some (gx, gy))]) hP hD [0, 1, 3] [2] rfl rfl (by decide) (by decide) jk1 hFc hP1 hD1
      have hP := hP.sub (ws' := [KX hx hr0 hq0 (.ref hc) sec dr, KP hr0 cI (fun j => tbN p a gx gy (ix j)), KQ hq0 cQ gq, KC hc p a b n (some (gx, gy))]) [1, 2, 0, 3] rfl
      have hD := hD.sub (ws' := [KX hx hr0 hq0 (.ref hc) sec dr, KP hr0 cI (fun j => tbN p a gx gy (ix j)), KQ hq0 cQ gq, KC hc p a b n (some (gx, gy))]) [1, 2, 0, 3] (by decide) rfl
      rcases hw with ⟨rfl, hw⟩
      rw [gd_2 (or_1 (nrF_b d) (nrF_b u) (Or.inl rfl) fun z => hw ⟨nrF_0.mp z.1, nrF_0.mp z.2.1⟩), if_neg (by decide)]
      refine vx_catch (own := RL) (name := "java/lang/IndexOutOfBoundsException") (E := "java/lang/IndexOutOfBoundsException") C.2.2.2.1 [⟨0, 7, 10, 19⟩] ⟨0, 7, 14, 21⟩ [] htb (fun z hz => by cases List.mem_singleton.mp hz; exact Or.inr ⟨by decide, "java/lang/IllegalStateException", C.2.2.2.2 _ aw_c_L_19, hXc.2 ("java/lang/IndexOutOfBoundsException", "java/lang/IllegalStateException") (by decide +kernel)⟩) (by decide) (by decide) (C.2.2.2.2 _ aw_c_L_21) (hXc.go (q := ("java/lang/IndexOutOfBoundsException", "java/lang/IndexOutOfBoundsException")) (by decide +kernel)) z3 z4 z5 ?_
      refine lv_astore C.1 C.2.1 dL_times_14 hl (by decide) rfl (fun ls hl => ?_)
      have hl : lv_has ls 5 [(4, .ref q9), (0, .ref hx), (1, .int (ii d)), (2, .int (ii k)), (3, .int (ii u))] := hl
      refine i_const C dL_times_16 ?_
      exact py_i C hr hk hS trivial (fun t ht hvm => ⟨_, Or.inr ⟨hT, hc, gq, rfl⟩, ⟨by rw [ht]; exact hP, va_K.moved hvm hK, hD⟩⟩) dL_times_17 rfl (by decide) (by decide)
    · rw [gd_0 (or3_0.mpr ⟨nr_0 hok.1, nr_0 hok.2, rfl⟩) rfl, if_pos rfl]
      obtain ⟨hP1, hK1, hD1⟩ := hB
      rw [up_tb (hT.times _ _).symm] at hP1 hD1
      rw [ht] at hP1
      obtain ⟨hP, hD⟩ := va_join (wr := [KQ hq0 cQ gq]) (w1 := [KX hx hr0 hq0 (.ref hc) sec dr, KP hr0 cI (fun j => tbN p a gx gy (va_up ix d.toNat ((k % (n : Int)).toNat * ix u.toNat % n) j)), KC hc p a b n (some (gx, gy))]) hP hD [0, 1, 3] [2] rfl rfl (by decide) (by decide) jk1 hFc hP1 hD1
      have hP := hP.sub (ws' := [KX hx hr0 hq0 (.ref hc) sec dr, KP hr0 cI (fun j => tbN p a gx gy (va_up ix d.toNat ((k % (n : Int)).toNat * ix u.toNat % n) j)), KQ hq0 cQ gq, KC hc p a b n (some (gx, gy))]) [1, 2, 0, 3] rfl
      have hD := hD.sub (ws' := [KX hx hr0 hq0 (.ref hc) sec dr, KP hr0 cI (fun j => tbN p a gx gy (va_up ix d.toNat ((k % (n : Int)).toNat * ix u.toNat % n) j)), KQ hq0 cQ gq, KC hc p a b n (some (gx, gy))]) [1, 2, 0, 3] (by decide) rfl
      refine lv_goto (tgt := 18) C.1 C.2.1 dL_times_7 (by decide) ?_
      refine i_const C dL_times_18 ?_
      exact py_i C hr hk hS trivial (fun t ht hvm => ⟨_, Or.inr ⟨hT.up _ (Nat.mod_lt _ (by have := hT.n3; omega)), hc, gq, rfl⟩, ⟨by rw [ht]; exact hP, va_K.moved hvm hK, hD⟩⟩) dL_times_19 rfl (by decide) (by decide)
set_option maxRecDepth 100000 in
set_option maxHeartbeats 4000000 in
theorem wL_decode (l : Launch) (hL : l.stackTraces = false) (D : va_G) (z0 sz : Nat) (hx hr0 hq0 : Nat) (cI cQ : ClassId) (n p a b gx gy : Nat) (sec dr : Int) (ix tx ty : Nat → Nat) (kw : va_W) (hR : KR hx hr0 hq0 cI cQ n p a b gx gy sec dr ix tx ty kw) (d k z : Int) (hd1 : rg d) (hk1 : rg k) (hz1 : rl z) : vx_Met l yL_decode (Cond.codeWith yL_decode cL_decode 6 (some .int) [(0, 7, 10, 19), (0, 7, 14, 21), (0, 7, 18, 13)] :: AW) ({ frames := 8, cells := 2, slots := 12, locals := 220 } : Room) (PcH D z0 sz kw [(cI, .int), (cQ, .int)] [.ref hx, .int (ii d), .int (ii k), .long (li z)]) (QcM (some (.int (ii (gdF (zb n) (nrF d) (ng1 (reF tx ty n k z)))))) True (fun t => ∃ kw1, KR hx hr0 hq0 cI cQ n p a b gx gy sec dr (if gdF (zb n) (nrF d) (ng1 (reF tx ty n k z)) = 0 then va_up ix d.toNat (reF tx ty n k z).toNat else ix) tx ty kw1 ∧ Wd D kw1 [(cI, .int), (cQ, .int)] (va_A kw sz) t) (va_A kw sz)) (XcM (fun _ => False) (fun _ => False) (va_A kw sz)) 2 12 (va_A kw sz) := by
  rcases hR with ⟨rfl, rfl, hi0, gq, rfl⟩ | ⟨hT, hc, gq, rfl⟩
  · have hTH : gdF (zb 0) (nrF d) (ng1 (reF tx ty 0 k z)) = 1 := rfl
    rw [hTH]
    rw [if_neg (show ¬ (1 : Int) = 0 by decide)]
    refine mt_H (by decide +kernel) (Nat.le_of_ble_eq_true rfl) ?_
    intro P0 E0 S0 M0 A0 B0 T0 K0 C hN hZ hsz hz hP hK hD hAz hA hr hk htb hXc ls hl
    have hl : lv_has ls 6 [(0, .ref hx), (1, .int (ii d)), (2, .int (ii k)), (3, .long (li z))] := hl
    generalize hAe : va_A [KX hx hr0 hq0 .null 0 dr, KP hr0 cI (fun _ => none), KQ hq0 cQ gq] sz = A at hD hAz hA ⊢
    have hS : va_S A S0.heap S0.heap [] := va_S.rf
    refine lv_aload_n C.1 C.2.1 dL_decode_0 rfl (lv_at hl 0 rfl) ?_
    refine lv_iload_n C.1 C.2.1 dL_decode_1 rfl (lv_at hl 1 rfl) ?_
    refine lv_iload_n C.1 C.2.1 dL_decode_2 rfl (lv_at hl 2 rfl) ?_
    refine lv_lload_n C.1 C.2.1 dL_decode_3 rfl (lv_at hl 3 rfl) ?_
    refine cx_V (As := [.int (ii d), .int (ii k), .long (li z)]) (rest := []) C (c_X1_decode_n l hL D z0 hx hr0 hq0 0 dr (ii d) (ii k) (li z)) (pcx_preV _ hN hZ (hP.sub (ws' := [KX hx hr0 hq0 .null 0 dr]) [0] rfl) (hK.sub (tys' := []) [] rfl) 0 (ci := 1) rfl rfl) aw_b_X1_decode aw_m_L_44 aw_v_X1_decode aw_i_X1 aw_e_X1_decode ⟨rfl, rfl⟩ 3 (by decide +kernel) rfl ⟨by decide, by decide⟩ hl.1 rfl (Nat.le_of_ble_eq_true rfl) dL_decode_4 ⟨by decide, by decide⟩ (fun hw H1 q9 ce z1 z2 z3 z4 z5 => ?_) (fun h => h.elim)
    have hS := hS.on z1 z2
    have hP := hP.on z2
    refine vx_catch (own := RL) (name := "java/lang/IllegalStateException") (E := "java/lang/IllegalStateException") C.2.2.2.1 [] ⟨0, 7, 10, 19⟩ [⟨0, 7, 14, 21⟩, ⟨0, 7, 18, 13⟩] htb (fun z hz => nomatch hz) (by decide) (by decide) (C.2.2.2.2 _ aw_c_L_19) (hXc.go (q := ("java/lang/IllegalStateException", "java/lang/IllegalStateException")) (by decide +kernel)) z3 z4 z5 ?_
    refine lv_astore C.1 C.2.1 dL_decode_10 hl (by decide) rfl (fun ls hl => ?_)
    have hl : lv_has ls 6 [(5, .ref q9), (0, .ref hx), (1, .int (ii d)), (2, .int (ii k)), (3, .long (li z))] := hl
    refine i_const C dL_decode_12 ?_
    exact py_i C hr hk hS trivial (fun t ht hvm => ⟨_, Or.inl ⟨rfl, rfl, hi0, gq, rfl⟩, ⟨by rw [ht]; exact hP, va_K.moved hvm hK, hD⟩⟩) dL_decode_13 rfl (by decide) (by decide)
  · rw [hT.zn]
    refine mt_H (by decide +kernel) (Nat.le_of_ble_eq_true rfl) ?_
    intro P0 E0 S0 M0 A0 B0 T0 K0 C hN hZ hsz hz hP hK hD hAz hA hr hk htb hXc ls hl
    have hl : lv_has ls 6 [(0, .ref hx), (1, .int (ii d)), (2, .int (ii k)), (3, .long (li z))] := hl
    generalize hAe : va_A [KX hx hr0 hq0 (.ref hc) sec dr, KP hr0 cI (fun j => tbN p a gx gy (ix j)), KQ hq0 cQ gq, KC hc p a b n (some (gx, gy))] sz = A at hD hAz hA ⊢
    have hS : va_S A S0.heap S0.heap [] := va_S.rf
    refine lv_aload_n C.1 C.2.1 dL_decode_0 rfl (lv_at hl 0 rfl) ?_
    refine lv_iload_n C.1 C.2.1 dL_decode_1 rfl (lv_at hl 1 rfl) ?_
    refine lv_iload_n C.1 C.2.1 dL_decode_2 rfl (lv_at hl 2 rfl) ?_
    refine lv_lload_n C.1 C.2.1 dL_decode_3 rfl (lv_at hl 3 rfl) ?_
    have hFc := va_free (wc := [KX hx hr0 hq0 (.ref hc) sec dr, KP hr0 cI (fun j => tbN p a gx gy (ix j)), KC hc p a b n (some (gx, gy))]) hD hS hA [0, 1, 3] rfl
    refine cy_V (As := [.int (ii d), .int (ii k), .long (li z)]) (rest := []) C (c_X1_decode l hL D z0 _ p a b n (some (gx, gy)) hT.p5 hT.la hT.lb hT.n2 hT.sG hx hr0 hq0 hc sec dr cI (fun j => tbN p a gx gy (ix j)) (fun j => hT.sm _) hT.cub0 d k z hd1 hk1 hz1) (pcm_preV _ hN (Zs.on hZ hS hAz) (by have := hS.1; omega) (hP.sub (ws' := [KX hx hr0 hq0 (.ref hc) sec dr, KP hr0 cI (fun j => tbN p a gx gy (ix j)), KC hc p a b n (some (gx, gy))]) [0, 1, 3] rfl) (hK.sub (tys' := [(cI, .int)]) [0] rfl) ((hD.sub (ws' := [KX hx hr0 hq0 (.ref hc) sec dr, KP hr0 cI (fun j => tbN p a gx gy (ix j)), KC hc p a b n (some (gx, gy))]) [0, 1, 3] (by decide) rfl).weaken (fun _ _ _ h => hAz _ h)) 0 (ci := 1) rfl rfl) hS hFc aw_b_X1_decode aw_m_L_44 aw_v_X1_decode aw_i_X1 aw_e_X1_decode ⟨rfl, rfl⟩ 3 (by decide +kernel) rfl ⟨by decide, by decide⟩ hl.1 rfl (Nat.le_of_ble_eq_true rfl) dL_decode_4 ⟨by decide, by decide⟩ (fun E t H1 locs1 q9 ce ht hvm hw hB jz1 jk1 hS z3 z4 z5 => ?_) (fun t H1 locs1 ht hvm hok hB jz1 jk1 hS => ?_)
    · obtain ⟨hP1, hK1, hD1⟩ := hB
      rw [ht] at hP1
      obtain ⟨hP, hD⟩ := va_join (wr := [KQ hq0 cQ gq]) (w1 := [KX hx hr0 hq0 (.ref hc) sec dr, KP hr0 cI (fun j => tbN p a gx gy (ix j)), KC hc p a b n (some (gx, gy))]) hP hD [0, 1, 3] [2] rfl rfl (by decide) (by decide) jk1 hFc hP1 hD1
      have hP := hP.sub (ws' := [KX hx hr0 hq0 (.ref hc) sec dr, KP hr0 cI (fun j => tbN p a gx gy (ix j)), KQ hq0 cQ gq, KC hc p a b n (some (gx, gy))]) [1, 2, 0, 3] rfl
      have hD := hD.sub (ws' := [KX hx hr0 hq0 (.ref hc) sec dr, KP hr0 cI (fun j => tbN p a gx gy (ix j)), KQ hq0 cQ gq, KC hc p a b n (some (gx, gy))]) [1, 2, 0, 3] (by decide) rfl
      rcases hw with ⟨rfl, hw⟩ | ⟨rfl, hw⟩
      · rw [gd_2 (nr_1 hw), if_neg (by decide)]
        refine vx_catch (own := RL) (name := "java/lang/IndexOutOfBoundsException") (E := "java/lang/IndexOutOfBoundsException") C.2.2.2.1 [⟨0, 7, 10, 19⟩] ⟨0, 7, 14, 21⟩ [⟨0, 7, 18, 13⟩] htb (fun z hz => by cases List.mem_singleton.mp hz; exact Or.inr ⟨by decide, "java/lang/IllegalStateException", C.2.2.2.2 _ aw_c_L_19, hXc.2 ("java/lang/IndexOutOfBoundsException", "java/lang/IllegalStateException") (by decide +kernel)⟩) (by decide) (by decide) (C.2.2.2.2 _ aw_c_L_21) (hXc.go (q := ("java/lang/IndexOutOfBoundsException", "java/lang/IndexOutOfBoundsException")) (by decide +kernel)) z3 z4 z5 ?_
        refine lv_astore C.1 C.2.1 dL_decode_14 hl (by decide) rfl (fun ls hl => ?_)
        have hl : lv_has ls 6 [(5, .ref q9), (0, .ref hx), (1, .int (ii d)), (2, .int (ii k)), (3, .long (li z))] := hl
        refine i_const C dL_decode_16 ?_
        exact py_i C hr hk hS trivial (fun t ht hvm => ⟨_, Or.inr ⟨hT, hc, gq, rfl⟩, ⟨by rw [ht]; exact hP, va_K.moved hvm hK, hD⟩⟩) dL_decode_17 rfl (by decide) (by decide)
      · rw [gd_3 (nr_0 hw.1) ((hT.decode k z).1.mp hw.2), if_neg (by decide)]
        refine vx_catch (own := RL) (name := "java/lang/IllegalArgumentException") (E := "java/lang/IllegalArgumentException") C.2.2.2.1 [⟨0, 7, 10, 19⟩, ⟨0, 7, 14, 21⟩] ⟨0, 7, 18, 13⟩ [] htb (fun z hz => (List.mem_cons.mp hz).elim (fun e => by cases e; exact Or.inr ⟨by decide, "java/lang/IllegalStateException", C.2.2.2.2 _ aw_c_L_19, hXc.2 ("java/lang/IllegalArgumentException", "java/lang/IllegalStateException") (by decide +kernel)⟩) (fun hz => by cases List.mem_singleton.mp hz; exact Or.inr ⟨by decide, "java/lang/IndexOutOfBoundsException", C.2.2.2.2 _ aw_c_L_21, hXc.2 ("java/lang/IllegalArgumentException", "java/lang/IndexOutOfBoundsException") (by decide +kernel)⟩)) (by decide) (by decide) (C.2.2.2.2 _ aw_c_L_13) (hXc.go (q := ("java/lang/IllegalArgumentException", "java/lang/IllegalArgumentException")) (by decide +kernel)) z3 z4 z5 ?_
        refine lv_astore C.1 C.2.1 dL_decode_18 hl (by decide) rfl (fun ls hl => ?_)
        have hl : lv_has ls 6 [(5, .ref q9), (0, .ref hx), (1, .int (ii d)), (2, .int (ii k)), (3, .long (li z))] := hl
        refine i_const C dL_decode_20 ?_
        exact py_i C hr hk hS trivial (fun t ht hvm => ⟨_, Or.inr ⟨hT, hc, gq, rfl⟩, ⟨by rw [ht]; exact hP, va_K.moved hvm hK, hD⟩⟩) dL_decode_21 rfl (by decide) (by decide)
    · have e := ((hT.decode k z).2.2 hok.2).symm
      have z9 : ng1 (reF tx ty n k z) = 0 := (ng1_b _).resolve_right fun z8 => hok.2 ((hT.decode k z).1.mpr z8)
      rw [gd_0 (nr_0 hok.1) z9, if_pos rfl]
      obtain ⟨hP1, hK1, hD1⟩ := hB
      rw [up_tb e] at hP1 hD1
      rw [ht] at hP1
      obtain ⟨hP, hD⟩ := va_join (wr := [KQ hq0 cQ gq]) (w1 := [KX hx hr0 hq0 (.ref hc) sec dr, KP hr0 cI (fun j => tbN p a gx gy (va_up ix d.toNat (reF tx ty n k z).toNat j)), KC hc p a b n (some (gx, gy))]) hP hD [0, 1, 3] [2] rfl rfl (by decide) (by decide) jk1 hFc hP1 hD1
      have hP := hP.sub (ws' := [KX hx hr0 hq0 (.ref hc) sec dr, KP hr0 cI (fun j => tbN p a gx gy (va_up ix d.toNat (reF tx ty n k z).toNat j)), KQ hq0 cQ gq, KC hc p a b n (some (gx, gy))]) [1, 2, 0, 3] rfl
      have hD := hD.sub (ws' := [KX hx hr0 hq0 (.ref hc) sec dr, KP hr0 cI (fun j => tbN p a gx gy (va_up ix d.toNat (reF tx ty n k z).toNat j)), KQ hq0 cQ gq, KC hc p a b n (some (gx, gy))]) [1, 2, 0, 3] (by decide) rfl
      refine lv_goto (tgt := 22) C.1 C.2.1 dL_decode_7 (by decide) ?_
      refine i_const C dL_decode_22 ?_
      exact py_i C hr hk hS trivial (fun t ht hvm => ⟨_, Or.inr ⟨hT.up _ (hT.decode k z).2.1, hc, gq, rfl⟩, ⟨by rw [ht]; exact hP, va_K.moved hvm hK, hD⟩⟩) dL_decode_23 rfl (by decide) (by decide)
set_option maxRecDepth 100000 in
set_option maxHeartbeats 4000000 in
theorem wL_key (l : Launch) (hL : l.stackTraces = false) (D : va_G) (z0 sz : Nat) (hx hr0 hq0 : Nat) (cI cQ : ClassId) (n p a b gx gy : Nat) (sec dr : Int) (ix tx ty : Nat → Nat) (kw : va_W) (hR : KR hx hr0 hq0 cI cQ n p a b gx gy sec dr ix tx ty kw) (r d : Int) (hr1 : rg r) (hd1 : rg d) : vx_Met l yL_key (Cond.codeWith yL_key cL_key 4 (some .int) [(0, 6, 9, 19), (0, 6, 12, 21), (0, 6, 15, 13)] :: AW) ({ frames := 8, cells := 2, slots := 12, locals := 220 } : Room) (PcH D z0 sz kw [(cI, .int), (cQ, .int)] [.ref hx, .int (ii r), .int (ii d)]) (QcM (some (.int (ii (gdF (zb n) (nrF r) (kyF n d))))) True (fun t => ∃ kw1, KR hx hr0 hq0 cI cQ n p a b gx gy (if gdF (zb n) (nrF r) (kyF n d) = 0 then d else sec) dr (if gdF (zb n) (nrF r) (kyF n d) = 0 then va_up ix r.toNat d.toNat else ix) tx ty kw1 ∧ Wd D kw1 [(cI, .int), (cQ, .int)] (va_A kw sz) t) (va_A kw sz)) (XcM (fun _ => False) (fun _ => False) (va_A kw sz)) 2 12 (va_A kw sz) := by
  rcases hR with ⟨rfl, rfl, hi0, gq, rfl⟩ | ⟨hT, hc, gq, rfl⟩
  · have hTH : gdF (zb 0) (nrF r) (kyF 0 d) = 1 := rfl
    rw [hTH]
    rw [if_neg (show ¬ (1 : Int) = 0 by decide)]
    rw [if_neg (show ¬ (1 : Int) = 0 by decide)]
    refine mt_H (by decide +kernel) (Nat.le_of_ble_eq_true rfl) ?_
    intro P0 E0 S0 M0 A0 B0 T0 K0 C hN hZ hsz hz hP hK hD hAz hA hr hk htb hXc ls hl
    have hl : lv_has ls 4 [(0, .ref hx), (1, .int (ii r)), (2, .int (ii d))] := hl
    generalize hAe : va_A [KX hx hr0 hq0 .null 0 dr, KP hr0 cI (fun _ => none), KQ hq0 cQ gq] sz = A at hD hAz hA ⊢
    have hS : va_S A S0.heap S0.heap [] := va_S.rf
    refine lv_aload_n C.1 C.2.1 dL_key_0 rfl (lv_at hl 0 rfl) ?_
    refine lv_iload_n C.1 C.2.1 dL_key_1 rfl (lv_at hl 1 rfl) ?_
    refine lv_iload_n C.1 C.2.1 dL_key_2 rfl (lv_at hl 2 rfl) ?_
    refine cx_V (As := [.int (ii r), .int (ii d)]) (rest := []) C (c_X1_key_n l hL D z0 hx hr0 hq0 0 dr (ii r) (ii d)) (pcx_preV _ hN hZ (hP.sub (ws' := [KX hx hr0 hq0 .null 0 dr]) [0] rfl) (hK.sub (tys' := []) [] rfl) 0 (ci := 1) rfl rfl) aw_b_X1_key aw_m_L_48 aw_v_X1_key aw_i_X1 aw_e_X1_key ⟨rfl, rfl⟩ 2 (by decide +kernel) rfl ⟨by decide, by decide⟩ hl.1 rfl (Nat.le_of_ble_eq_true rfl) dL_key_3 ⟨by decide, by decide⟩ (fun hw H1 q9 ce z1 z2 z3 z4 z5 => ?_) (fun h => h.elim)
    have hS := hS.on z1 z2
    have hP := hP.on z2
    refine vx_catch (own := RL) (name := "java/lang/IllegalStateException") (E := "java/lang/IllegalStateException") C.2.2.2.1 [] ⟨0, 6, 9, 19⟩ [⟨0, 6, 12, 21⟩, ⟨0, 6, 15, 13⟩] htb (fun z hz => nomatch hz) (by decide) (by decide) (C.2.2.2.2 _ aw_c_L_19) (hXc.go (q := ("java/lang/IllegalStateException", "java/lang/IllegalStateException")) (by decide +kernel)) z3 z4 z5 ?_
    refine lv_astore_n C.1 C.2.1 dL_key_9 rfl hl (by decide) rfl (fun ls hl => ?_)
    have hl : lv_has ls 4 [(3, .ref q9), (0, .ref hx), (1, .int (ii r)), (2, .int (ii d))] := hl
    refine i_const C dL_key_10 ?_
    exact py_i C hr hk hS trivial (fun t ht hvm => ⟨_, Or.inl ⟨rfl, rfl, hi0, gq, rfl⟩, ⟨by rw [ht]; exact hP, va_K.moved hvm hK, hD⟩⟩) dL_key_11 rfl (by decide) (by decide)
  · rw [hT.zn]
    refine mt_H (by decide +kernel) (Nat.le_of_ble_eq_true rfl) ?_
    intro P0 E0 S0 M0 A0 B0 T0 K0 C hN hZ hsz hz hP hK hD hAz hA hr hk htb hXc ls hl
    have hl : lv_has ls 4 [(0, .ref hx), (1, .int (ii r)), (2, .int (ii d))] := hl
    generalize hAe : va_A [KX hx hr0 hq0 (.ref hc) sec dr, KP hr0 cI (fun j => tbN p a gx gy (ix j)), KQ hq0 cQ gq, KC hc p a b n (some (gx, gy))] sz = A at hD hAz hA ⊢
    have hS : va_S A S0.heap S0.heap [] := va_S.rf
    refine lv_aload_n C.1 C.2.1 dL_key_0 rfl (lv_at hl 0 rfl) ?_
    refine lv_iload_n C.1 C.2.1 dL_key_1 rfl (lv_at hl 1 rfl) ?_
    refine lv_iload_n C.1 C.2.1 dL_key_2 rfl (lv_at hl 2 rfl) ?_
    have hFc := va_free (wc := [KX hx hr0 hq0 (.ref hc) sec dr, KP hr0 cI (fun j => tbN p a gx gy (ix j)), KC hc p a b n (some (gx, gy))]) hD hS hA [0, 1, 3] rfl
    refine cy_V (As := [.int (ii r), .int (ii d)]) (rest := []) C (c_X1_key l hL D z0 _ p a b n (some (gx, gy)) hT.p5 hT.la hT.lb hT.n2 hT.sG hx hr0 hq0 hc sec dr cI (fun j => tbN p a gx gy (ix j)) (fun j => hT.sm _) r d hr1 hd1) (pcm_preV _ hN (Zs.on hZ hS hAz) (by have := hS.1; omega) (hP.sub (ws' := [KX hx hr0 hq0 (.ref hc) sec dr, KP hr0 cI (fun j => tbN p a gx gy (ix j)), KC hc p a b n (some (gx, gy))]) [0, 1, 3] rfl) (hK.sub (tys' := [(cI, .int)]) [0] rfl) ((hD.sub (ws' := [KX hx hr0 hq0 (.ref hc) sec dr, KP hr0 cI (fun j => tbN p a gx gy (ix j)), KC hc p a b n (some (gx, gy))]) [0, 1, 3] (by decide) rfl).weaken (fun _ _ _ h => hAz _ h)) 0 (ci := 1) rfl rfl) hS hFc aw_b_X1_key aw_m_L_48 aw_v_X1_key aw_i_X1 aw_e_X1_key ⟨rfl, rfl⟩ 2 (by decide +kernel) rfl ⟨by decide, by decide⟩ hl.1 rfl (Nat.le_of_ble_eq_true rfl) dL_key_3 ⟨by decide, by decide⟩ (fun E t H1 locs1 q9 ce ht hvm hw hB jz1 jk1 hS z3 z4 z5 => ?_) (fun t H1 locs1 ht hvm hok hB jz1 jk1 hS => ?_)
    · obtain ⟨hP1, hK1, hD1⟩ := hB
      rw [ht] at hP1
      obtain ⟨hP, hD⟩ := va_join (wr := [KQ hq0 cQ gq]) (w1 := [KX hx hr0 hq0 (.ref hc) sec dr, KP hr0 cI (fun j => tbN p a gx gy (ix j)), KC hc p a b n (some (gx, gy))]) hP hD [0, 1, 3] [2] rfl rfl (by decide) (by decide) jk1 hFc hP1 hD1
      have hP := hP.sub (ws' := [KX hx hr0 hq0 (.ref hc) sec dr, KP hr0 cI (fun j => tbN p a gx gy (ix j)), KQ hq0 cQ gq, KC hc p a b n (some (gx, gy))]) [1, 2, 0, 3] rfl
      have hD := hD.sub (ws' := [KX hx hr0 hq0 (.ref hc) sec dr, KP hr0 cI (fun j => tbN p a gx gy (ix j)), KQ hq0 cQ gq, KC hc p a b n (some (gx, gy))]) [1, 2, 0, 3] (by decide) rfl
      rcases hw with ⟨rfl, hw⟩ | ⟨rfl, hw⟩
      · rw [gd_2 (nr_1 hw), if_neg (by decide), if_neg (by decide)]
        refine vx_catch (own := RL) (name := "java/lang/IndexOutOfBoundsException") (E := "java/lang/IndexOutOfBoundsException") C.2.2.2.1 [⟨0, 6, 9, 19⟩] ⟨0, 6, 12, 21⟩ [⟨0, 6, 15, 13⟩] htb (fun z hz => by cases List.mem_singleton.mp hz; exact Or.inr ⟨by decide, "java/lang/IllegalStateException", C.2.2.2.2 _ aw_c_L_19, hXc.2 ("java/lang/IndexOutOfBoundsException", "java/lang/IllegalStateException") (by decide +kernel)⟩) (by decide) (by decide) (C.2.2.2.2 _ aw_c_L_21) (hXc.go (q := ("java/lang/IndexOutOfBoundsException", "java/lang/IndexOutOfBoundsException")) (by decide +kernel)) z3 z4 z5 ?_
        refine lv_astore_n C.1 C.2.1 dL_key_12 rfl hl (by decide) rfl (fun ls hl => ?_)
        have hl : lv_has ls 4 [(3, .ref q9), (0, .ref hx), (1, .int (ii r)), (2, .int (ii d))] := hl
        refine i_const C dL_key_13 ?_
        exact py_i C hr hk hS trivial (fun t ht hvm => ⟨_, Or.inr ⟨hT, hc, gq, rfl⟩, ⟨by rw [ht]; exact hP, va_K.moved hvm hK, hD⟩⟩) dL_key_14 rfl (by decide) (by decide)
      · rw [gd_3 (nr_0 hw.1) (un_ky.mp hw.2), if_neg (by decide), if_neg (by decide)]
        refine vx_catch (own := RL) (name := "java/lang/IllegalArgumentException") (E := "java/lang/IllegalArgumentException") C.2.2.2.1 [⟨0, 6, 9, 19⟩, ⟨0, 6, 12, 21⟩] ⟨0, 6, 15, 13⟩ [] htb (fun z hz => (List.mem_cons.mp hz).elim (fun e => by cases e; exact Or.inr ⟨by decide, "java/lang/IllegalStateException", C.2.2.2.2 _ aw_c_L_19, hXc.2 ("java/lang/IllegalArgumentException", "java/lang/IllegalStateException") (by decide +kernel)⟩) (fun hz => by cases List.mem_singleton.mp hz; exact Or.inr ⟨by decide, "java/lang/IndexOutOfBoundsException", C.2.2.2.2 _ aw_c_L_21, hXc.2 ("java/lang/IllegalArgumentException", "java/lang/IndexOutOfBoundsException") (by decide +kernel)⟩)) (by decide) (by decide) (C.2.2.2.2 _ aw_c_L_13) (hXc.go (q := ("java/lang/IllegalArgumentException", "java/lang/IllegalArgumentException")) (by decide +kernel)) z3 z4 z5 ?_
        refine lv_astore_n C.1 C.2.1 dL_key_15 rfl hl (by decide) rfl (fun ls hl => ?_)
        have hl : lv_has ls 4 [(3, .ref q9), (0, .ref hx), (1, .int (ii r)), (2, .int (ii d))] := hl
        refine i_const C dL_key_16 ?_
        exact py_i C hr hk hS trivial (fun t ht hvm => ⟨_, Or.inr ⟨hT, hc, gq, rfl⟩, ⟨by rw [ht]; exact hP, va_K.moved hvm hK, hD⟩⟩) dL_key_17 rfl (by decide) (by decide)
    · have z9 : kyF n d = 0 := (kyF_b n d).resolve_right fun z8 => hok.2 (un_ky.mpr z8)
      have kd := kyF_0.mp z9
      rw [gd_0 (nr_0 hok.1) z9, if_pos rfl, if_pos rfl]
      obtain ⟨hP1, hK1, hD1⟩ := hB
      rw [up_tb (hT.key kd).1.symm] at hP1 hD1
      rw [ht] at hP1
      obtain ⟨hP, hD⟩ := va_join (wr := [KQ hq0 cQ gq]) (w1 := [KX hx hr0 hq0 (.ref hc) d dr, KP hr0 cI (fun j => tbN p a gx gy (va_up ix r.toNat d.toNat j)), KC hc p a b n (some (gx, gy))]) hP hD [0, 1, 3] [2] rfl rfl (by decide) (by decide) jk1 hFc hP1 hD1
      have hP := hP.sub (ws' := [KX hx hr0 hq0 (.ref hc) d dr, KP hr0 cI (fun j => tbN p a gx gy (va_up ix r.toNat d.toNat j)), KQ hq0 cQ gq, KC hc p a b n (some (gx, gy))]) [1, 2, 0, 3] rfl
      have hD := hD.sub (ws' := [KX hx hr0 hq0 (.ref hc) d dr, KP hr0 cI (fun j => tbN p a gx gy (va_up ix r.toNat d.toNat j)), KQ hq0 cQ gq, KC hc p a b n (some (gx, gy))]) [1, 2, 0, 3] (by decide) rfl
      refine lv_goto (tgt := 18) C.1 C.2.1 dL_key_6 (by decide) ?_
      refine i_const C dL_key_18 ?_
      exact py_i C hr hk hS trivial (fun t ht hvm => ⟨_, Or.inr ⟨⟨hT.1, hT.2.1, hT.2.2.1, (hT.up r.toNat (hT.key kd).2).2.2.2.1, ⟨by omega, kd.2⟩, hT.2.2.2.2.2⟩, hc, gq, rfl⟩, ⟨by rw [ht]; exact hP, va_K.moved hvm hK, hD⟩⟩) dL_key_19 rfl (by decide) (by decide)
