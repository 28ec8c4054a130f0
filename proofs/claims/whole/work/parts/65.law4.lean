/-! The law: x, y, code, sign, verify, accepts. By wip/whole/tools/gen25.py. -/
section Lw
variable {p : Program} {l : Launch} {e : Env} {s : State} {m : MethodId} {below : List Frame} {meth : Method} {c : Code} {b L : Nat} {xs : Nat → Int32} {D : va_G} {hx hr0 hq0 : Nat} {cI cQ : ClassId} {hm hX hY hR hO : Nat} {cX cY cR cO : ClassId} {ho : Nat} {cL : ClassId} {Q : State → Prop}
set_option maxRecDepth 100000 in
set_option maxHeartbeats 4000000 in
theorem lw_x (hC : LwC p l s m c b L xs) (hK : va_K D clX [(cI, .int), (cQ, .int), (cX, .int), (cY, .int), (cR, .int), (cO, .int), (cL, .long)] s) {H : Heap} (hI : LI D s.heap.size hx hr0 hq0 cI cQ hm hX hY hR hO cX cY cR cO ho cL H) (hS : va_S (AZ s.heap.size) s.heap H []) {i : Nat} (hi : i + 8 ≤ L) {cells slots : Nat} (hcs : cells + 3 ≤ room_1.cells ∧ slots + 20 ≤ room_1.slots) {ls : Array Slot} (hl : lv_has ls 8 [(4, .int (ii (i : Int))), (3, .ref ho), (2, .ref hm), (1, .ref hx), (0, .ref b)])
    (kk : ∀ (H1 : Heap) (ls : Array Slot), LI D s.heap.size hx hr0 hq0 cI cQ hm hX hY hR hO cX cY cR cO ho cL H1 → va_S (AZ s.heap.size) s.heap H1 [] → lv_has ls 8 [(4, .int (ii (i : Int))), (3, .ref ho), (2, .ref hm), (1, .ref hx), (0, .ref b)] → W p l e room_1 s m #[Value.ref b] below meth c H1 [] (cells + 3) (slots + 20) Q (F0 m 1170 ls [])) : W p l e room_1 s m #[Value.ref b] below meth c H [] cells slots Q (F0 m 425 ls []) := by
  obtain ⟨hL, C, hN, hXc, hZ, hV, hb, hLn⟩ := hC
  obtain ⟨n, p0, a0, b0, gx, gy, sec, dr, th, ix, tx, ty, kw, mw, f, hKR, hMR, hP, hD⟩ := hI
  have hix := hKR.ixle
  have hnn := hKR.nle
  have hsec := hKR.secle
  refine lv_aload_n C.1 C.2.1 dL_law_425 rfl (lv_at hl 3 rfl) ?_
  refine lv_aload_n C.1 C.2.1 dL_law_426 rfl (lv_at hl 4 rfl) ?_
  refine lv_iload C.1 C.2.1 dL_law_427 (lv_at hl 0 rfl) ?_
  refine i_const C dL_law_429 ?_
  refine i_add C dL_law_430 ?_
  refine s_ald C hV hb (Nat.not_le.mpr hb) hS (i + 1) (by omega) (by omega) (by omega) dL_law_431 ?_
  refine lv_aload_n C.1 C.2.1 dL_law_432 rfl (lv_at hl 1 rfl) ?_
  have hfr := fr_sub (w0 := []) (w1 := (KO ho cL f :: kw)) (w2 := mw) hP hD
  have hFc := fr_free (w0 := []) (w1 := (KO ho cL f :: kw)) (w2 := mw) hS.1 hD
  refine lc_S (As := [.ref hx, .int (ii ((xs (i + 1)).toInt)), .ref ho]) (rest := []) C (wL_x l hL D s.heap.size _ hx hr0 hq0 cI cQ n p0 a0 b0 gx gy sec dr ix tx ty kw hKR ho cL f _ (rg_self _)) (pch_pre _ hXc (pcm_pre _ hN (Zs.on hZ hS (fun _ h => h)) hS.1 hfr.1 (hK.sub (tys' := [(cI, .int), (cQ, .int), (cL, .long)]) [0, 1, 6] rfl) hfr.2)) hS hFc aw_h_L_x aw_m_L_98 aw_s_L_x aw_i_L ⟨rfl, rfl⟩ 3 (by decide +kernel) rfl ⟨by decide, by decide⟩ hl.1 rfl (Nat.le_of_ble_eq_true rfl) dL_law_433 ⟨by omega, by omega⟩ (fun t H1 locs1 ht hvm _ hB jz1 jk1 hS => ?_)
  obtain ⟨kw1, f1, hKR, hf1, hP1, hK1, hD1⟩ := hB
  rw [ht] at hP1
  obtain ⟨hP, hD⟩ := fr_mid (w0 := []) (w1 := (KO ho cL f :: kw)) (w2 := mw) (w3 := (KO ho cL f1 :: kw1)) hP hD jz1 jk1 hFc hP1 hD1
  refine w_drop hS.2.2 ?_
  have hS := (⟨hS.1, hS.2.1, fun _ h => nomatch h⟩ : va_S (AZ s.heap.size) s.heap H1 [])
  refine lv_istore C.1 C.2.1 dL_law_436 hl (by decide) rfl (fun ls hl => ?_)
  have hl : lv_has ls 8 [(5, .int (ii (gdF (nrF (xs (i + 1)).toInt) 0 0))), (4, .int (ii (i : Int))), (3, .ref ho), (2, .ref hm), (1, .ref hx), (0, .ref b)] := hl
  refine lv_aload_n C.1 C.2.1 dL_law_438 rfl (lv_at hl 3 rfl) ?_
  refine lv_aload_n C.1 C.2.1 dL_law_439 rfl (lv_at hl 5 rfl) ?_
  refine lv_iload C.1 C.2.1 dL_law_440 (lv_at hl 1 rfl) ?_
  refine i_const C dL_law_442 ?_
  refine i_add C dL_law_443 ?_
  refine s_ald C hV hb (Nat.not_le.mpr hb) hS (i + 1) (by omega) (by omega) (by omega) dL_law_444 ?_
  obtain ⟨hT, p1, a1, b1, sx, sy, dk, dv, g, rfl⟩ := hMR
  have hfr := fr_sub (w0 := (KO ho cL f1 :: kw1)) (w1 := [(hm, .inr (2, MO p1 a1 b1 n sec dr th hX hY hR hO sx sy dk dv)), MX hX cX tx, MX hY cY ty, MI hR cR ix]) (w2 := [MG hO cO g]) hP hD
  have hFc := fr_free (w0 := (KO ho cL f1 :: kw1)) (w1 := [(hm, .inr (2, MO p1 a1 b1 n sec dr th hX hY hR hO sx sy dk dv)), MX hX cX tx, MX hY cY ty, MI hR cR ix]) (w2 := [MG hO cO g]) hS.1 hD
  refine cn_V (As := [.int (ii ((xs (i + 1)).toInt))]) (rest := []) C (c_X2_x l D s.heap.size _ hm p1 a1 b1 n sec dr th hX hY hR hO sx sy dk dv cX cY cR tx ty ix hT hix hnn _ (rg_self _)) (pcm_preV _ hN (Zs.on hZ hS (fun _ h => h)) hS.1 hfr.1 (hK.sub (tys' := [(cX, .int), (cY, .int), (cR, .int)]) [2, 3, 4] rfl) hfr.2 0 (ci := 2) rfl rfl) hS hFc aw_b_X2_x aw_m_L_101 aw_v_X2_x aw_i_X2 aw_e_X2_x ⟨rfl, rfl⟩ 1 (by decide +kernel) rfl ⟨by decide, by decide⟩ hl.1 rfl (Nat.le_of_ble_eq_true rfl) dL_law_445 ⟨by omega, by omega⟩ (fun t H1 locs1 ht hvm _ hB jz1 jk1 hS => ?_)
  obtain ⟨hP1, hK1, hD1⟩ := hB
  rw [ht] at hP1
  obtain ⟨hP, hD⟩ := fr_mid (w0 := (KO ho cL f1 :: kw1)) (w1 := [(hm, .inr (2, MO p1 a1 b1 n sec dr th hX hY hR hO sx sy dk dv)), MX hX cX tx, MX hY cY ty, MI hR cR ix]) (w2 := [MG hO cO g]) (w3 := [(hm, .inr (2, MO p1 a1 b1 n sec dr (gdF (nrF (xs (i + 1)).toInt) 0 0) hX hY hR hO sx sy dk dv)), MX hX cX tx, MX hY cY ty, MI hR cR ix]) hP hD jz1 jk1 hFc hP1 hD1
  refine w_drop hS.2.2 ?_
  have hS := (⟨hS.1, hS.2.1, fun _ h => nomatch h⟩ : va_S (AZ s.heap.size) s.heap H1 [])
  refine lv_istore C.1 C.2.1 dL_law_448 hl (by decide) rfl (fun ls hl => ?_)
  have hl : lv_has ls 8 [(6, .int (ii (rvF tx ix (xs (i + 1)).toInt))), (5, .int (ii (gdF (nrF (xs (i + 1)).toInt) 0 0))), (4, .int (ii (i : Int))), (3, .ref ho), (2, .ref hm), (1, .ref hx), (0, .ref b)] := hl
  refine lv_aload_n C.1 C.2.1 dL_law_450 rfl (lv_at hl 4 rfl) ?_
  refine ca_V (As := []) (rest := []) C (c_X2_thrown l D hm p1 a1 b1 n sec dr (gdF (nrF (xs (i + 1)).toInt) 0 0) hX hY hR hO sx sy dk dv) (pcw_preV [] hN (fr_sub (w0 := (KO ho cL f1 :: kw1)) (w1 := [(hm, .inr (2, MO p1 a1 b1 n sec dr (gdF (nrF (xs (i + 1)).toInt) 0 0) hX hY hR hO sx sy dk dv))]) (w2 := [MX hX cX tx, MX hY cY ty, MI hR cR ix, MG hO cO g]) hP hD).1 (hK.sub (tys' := []) [] rfl) 0 (ci := 2) rfl rfl) aw_b_X2_thrown aw_m_L_76 aw_v_X2_thrown aw_i_X2 aw_e_X2_thrown ⟨rfl, rfl⟩ 0 (by decide +kernel) rfl ⟨by decide, by decide⟩ hl.1 rfl (Nat.le_of_ble_eq_true rfl) dL_law_451 ⟨by omega, by omega⟩ ?_
  refine lv_iload C.1 C.2.1 dL_law_454 (lv_at hl 1 rfl) ?_
  refine ic_eq (tgt := 461) C dL_law_456 (by decide) ?_
  refine lv_iload C.1 C.2.1 dL_law_461 (lv_at hl 1 rfl) ?_
  have gb := gdF_b (nrF (xs (i + 1)).toInt) 0 0
  refine i_if_ne (tgt := 478) C dL_law_463 (by decide) ⟨by omega, by omega⟩ (fun hk0 => ?_) (fun hk0 => ?_)
  · refine lv_goto (tgt := 1170) C.1 C.2.1 dL_law_478 (by decide) ?_
    refine W.widen (k := cells + 3) (n := slots + 20) (by omega) (by omega) ?_
    exact kk _ ls ⟨n, p0, a0, b0, gx, gy, sec, (dr), (gdF (nrF (xs (i + 1)).toInt) 0 0), ix, tx, ty, kw1, _, f1, hKR, ⟨hT, p1, a1, b1, sx, sy, dk, dv, g, rfl⟩, hP, hD⟩ hS (lv_sub (l' := [(4, .int (ii (i : Int))), (3, .ref ho), (2, .ref hm), (1, .ref hx), (0, .ref b)]) hl [2, 3, 4, 5, 6] rfl)
  · refine lv_aload_n C.1 C.2.1 dL_law_466 rfl (lv_at hl 3 rfl) ?_
    refine i_const C dL_law_467 ?_
    refine l_ald0 C hK hP 0 6 rfl rfl dL_law_468 ?_
    rw [hf1 (Classical.not_not.mp hk0)]
    refine lv_iload C.1 C.2.1 dL_law_469 (lv_at hl 0 rfl) ?_
    refine lv_i2l C.1 C.2.1 dL_law_471 rfl ?_
    refine l_cmpS C dL_law_472 ?_
    refine i_if_eq (tgt := 478) C dL_law_473 (by decide) ⟨by omega, by omega⟩ (fun _ => ?_) (fun z => absurd rfl z)
    refine lv_goto (tgt := 1170) C.1 C.2.1 dL_law_478 (by decide) ?_
    refine W.widen (k := cells + 3) (n := slots + 20) (by omega) (by omega) ?_
    exact kk _ ls ⟨n, p0, a0, b0, gx, gy, sec, (dr), (gdF (nrF (xs (i + 1)).toInt) 0 0), ix, tx, ty, kw1, _, f1, hKR, ⟨hT, p1, a1, b1, sx, sy, dk, dv, g, rfl⟩, hP, hD⟩ hS (lv_sub (l' := [(4, .int (ii (i : Int))), (3, .ref ho), (2, .ref hm), (1, .ref hx), (0, .ref b)]) hl [2, 3, 4, 5, 6] rfl)
set_option maxRecDepth 100000 in
set_option maxHeartbeats 4000000 in
theorem lw_y (hC : LwC p l s m c b L xs) (hK : va_K D clX [(cI, .int), (cQ, .int), (cX, .int), (cY, .int), (cR, .int), (cO, .int), (cL, .long)] s) {H : Heap} (hI : LI D s.heap.size hx hr0 hq0 cI cQ hm hX hY hR hO cX cY cR cO ho cL H) (hS : va_S (AZ s.heap.size) s.heap H []) {i : Nat} (hi : i + 8 ≤ L) {cells slots : Nat} (hcs : cells + 3 ≤ room_1.cells ∧ slots + 20 ≤ room_1.slots) {ls : Array Slot} (hl : lv_has ls 8 [(4, .int (ii (i : Int))), (3, .ref ho), (2, .ref hm), (1, .ref hx), (0, .ref b)])
    (kk : ∀ (H1 : Heap) (ls : Array Slot), LI D s.heap.size hx hr0 hq0 cI cQ hm hX hY hR hO cX cY cR cO ho cL H1 → va_S (AZ s.heap.size) s.heap H1 [] → lv_has ls 8 [(4, .int (ii (i : Int))), (3, .ref ho), (2, .ref hm), (1, .ref hx), (0, .ref b)] → W p l e room_1 s m #[Value.ref b] below meth c H1 [] (cells + 3) (slots + 20) Q (F0 m 1170 ls [])) : W p l e room_1 s m #[Value.ref b] below meth c H [] cells slots Q (F0 m 481 ls []) := by
  obtain ⟨hL, C, hN, hXc, hZ, hV, hb, hLn⟩ := hC
  obtain ⟨n, p0, a0, b0, gx, gy, sec, dr, th, ix, tx, ty, kw, mw, f, hKR, hMR, hP, hD⟩ := hI
  have hix := hKR.ixle
  have hnn := hKR.nle
  have hsec := hKR.secle
  refine lv_aload_n C.1 C.2.1 dL_law_481 rfl (lv_at hl 3 rfl) ?_
  refine lv_aload_n C.1 C.2.1 dL_law_482 rfl (lv_at hl 4 rfl) ?_
  refine lv_iload C.1 C.2.1 dL_law_483 (lv_at hl 0 rfl) ?_
  refine i_const C dL_law_485 ?_
  refine i_add C dL_law_486 ?_
  refine s_ald C hV hb (Nat.not_le.mpr hb) hS (i + 1) (by omega) (by omega) (by omega) dL_law_487 ?_
  refine lv_aload_n C.1 C.2.1 dL_law_488 rfl (lv_at hl 1 rfl) ?_
  have hfr := fr_sub (w0 := []) (w1 := (KO ho cL f :: kw)) (w2 := mw) hP hD
  have hFc := fr_free (w0 := []) (w1 := (KO ho cL f :: kw)) (w2 := mw) hS.1 hD
  refine lc_S (As := [.ref hx, .int (ii ((xs (i + 1)).toInt)), .ref ho]) (rest := []) C (wL_y l hL D s.heap.size _ hx hr0 hq0 cI cQ n p0 a0 b0 gx gy sec dr ix tx ty kw hKR ho cL f _ (rg_self _)) (pch_pre _ hXc (pcm_pre _ hN (Zs.on hZ hS (fun _ h => h)) hS.1 hfr.1 (hK.sub (tys' := [(cI, .int), (cQ, .int), (cL, .long)]) [0, 1, 6] rfl) hfr.2)) hS hFc aw_h_L_y aw_m_L_102 aw_s_L_y aw_i_L ⟨rfl, rfl⟩ 3 (by decide +kernel) rfl ⟨by decide, by decide⟩ hl.1 rfl (Nat.le_of_ble_eq_true rfl) dL_law_489 ⟨by omega, by omega⟩ (fun t H1 locs1 ht hvm _ hB jz1 jk1 hS => ?_)
  obtain ⟨kw1, f1, hKR, hf1, hP1, hK1, hD1⟩ := hB
  rw [ht] at hP1
  obtain ⟨hP, hD⟩ := fr_mid (w0 := []) (w1 := (KO ho cL f :: kw)) (w2 := mw) (w3 := (KO ho cL f1 :: kw1)) hP hD jz1 jk1 hFc hP1 hD1
  refine w_drop hS.2.2 ?_
  have hS := (⟨hS.1, hS.2.1, fun _ h => nomatch h⟩ : va_S (AZ s.heap.size) s.heap H1 [])
  refine lv_istore C.1 C.2.1 dL_law_492 hl (by decide) rfl (fun ls hl => ?_)
  have hl : lv_has ls 8 [(5, .int (ii (gdF (nrF (xs (i + 1)).toInt) 0 0))), (4, .int (ii (i : Int))), (3, .ref ho), (2, .ref hm), (1, .ref hx), (0, .ref b)] := hl
  refine lv_aload_n C.1 C.2.1 dL_law_494 rfl (lv_at hl 3 rfl) ?_
  refine lv_aload_n C.1 C.2.1 dL_law_495 rfl (lv_at hl 5 rfl) ?_
  refine lv_iload C.1 C.2.1 dL_law_496 (lv_at hl 1 rfl) ?_
  refine i_const C dL_law_498 ?_
  refine i_add C dL_law_499 ?_
  refine s_ald C hV hb (Nat.not_le.mpr hb) hS (i + 1) (by omega) (by omega) (by omega) dL_law_500 ?_
  obtain ⟨hT, p1, a1, b1, sx, sy, dk, dv, g, rfl⟩ := hMR
  have hfr := fr_sub (w0 := (KO ho cL f1 :: kw1)) (w1 := [(hm, .inr (2, MO p1 a1 b1 n sec dr th hX hY hR hO sx sy dk dv)), MX hX cX tx, MX hY cY ty, MI hR cR ix]) (w2 := [MG hO cO g]) hP hD
  have hFc := fr_free (w0 := (KO ho cL f1 :: kw1)) (w1 := [(hm, .inr (2, MO p1 a1 b1 n sec dr th hX hY hR hO sx sy dk dv)), MX hX cX tx, MX hY cY ty, MI hR cR ix]) (w2 := [MG hO cO g]) hS.1 hD
  refine cn_V (As := [.int (ii ((xs (i + 1)).toInt))]) (rest := []) C (c_X2_y l D s.heap.size _ hm p1 a1 b1 n sec dr th hX hY hR hO sx sy dk dv cX cY cR tx ty ix hT hix hnn _ (rg_self _)) (pcm_preV _ hN (Zs.on hZ hS (fun _ h => h)) hS.1 hfr.1 (hK.sub (tys' := [(cX, .int), (cY, .int), (cR, .int)]) [2, 3, 4] rfl) hfr.2 0 (ci := 2) rfl rfl) hS hFc aw_b_X2_y aw_m_L_104 aw_v_X2_y aw_i_X2 aw_e_X2_y ⟨rfl, rfl⟩ 1 (by decide +kernel) rfl ⟨by decide, by decide⟩ hl.1 rfl (Nat.le_of_ble_eq_true rfl) dL_law_501 ⟨by omega, by omega⟩ (fun t H1 locs1 ht hvm _ hB jz1 jk1 hS => ?_)
  obtain ⟨hP1, hK1, hD1⟩ := hB
  rw [ht] at hP1
  obtain ⟨hP, hD⟩ := fr_mid (w0 := (KO ho cL f1 :: kw1)) (w1 := [(hm, .inr (2, MO p1 a1 b1 n sec dr th hX hY hR hO sx sy dk dv)), MX hX cX tx, MX hY cY ty, MI hR cR ix]) (w2 := [MG hO cO g]) (w3 := [(hm, .inr (2, MO p1 a1 b1 n sec dr (gdF (nrF (xs (i + 1)).toInt) 0 0) hX hY hR hO sx sy dk dv)), MX hX cX tx, MX hY cY ty, MI hR cR ix]) hP hD jz1 jk1 hFc hP1 hD1
  refine w_drop hS.2.2 ?_
  have hS := (⟨hS.1, hS.2.1, fun _ h => nomatch h⟩ : va_S (AZ s.heap.size) s.heap H1 [])
  refine lv_istore C.1 C.2.1 dL_law_504 hl (by decide) rfl (fun ls hl => ?_)
  have hl : lv_has ls 8 [(6, .int (ii (rvF ty ix (xs (i + 1)).toInt))), (5, .int (ii (gdF (nrF (xs (i + 1)).toInt) 0 0))), (4, .int (ii (i : Int))), (3, .ref ho), (2, .ref hm), (1, .ref hx), (0, .ref b)] := hl
  refine lv_aload_n C.1 C.2.1 dL_law_506 rfl (lv_at hl 4 rfl) ?_
  refine ca_V (As := []) (rest := []) C (c_X2_thrown l D hm p1 a1 b1 n sec dr (gdF (nrF (xs (i + 1)).toInt) 0 0) hX hY hR hO sx sy dk dv) (pcw_preV [] hN (fr_sub (w0 := (KO ho cL f1 :: kw1)) (w1 := [(hm, .inr (2, MO p1 a1 b1 n sec dr (gdF (nrF (xs (i + 1)).toInt) 0 0) hX hY hR hO sx sy dk dv))]) (w2 := [MX hX cX tx, MX hY cY ty, MI hR cR ix, MG hO cO g]) hP hD).1 (hK.sub (tys' := []) [] rfl) 0 (ci := 2) rfl rfl) aw_b_X2_thrown aw_m_L_76 aw_v_X2_thrown aw_i_X2 aw_e_X2_thrown ⟨rfl, rfl⟩ 0 (by decide +kernel) rfl ⟨by decide, by decide⟩ hl.1 rfl (Nat.le_of_ble_eq_true rfl) dL_law_507 ⟨by omega, by omega⟩ ?_
  refine lv_iload C.1 C.2.1 dL_law_510 (lv_at hl 1 rfl) ?_
  refine ic_eq (tgt := 517) C dL_law_512 (by decide) ?_
  refine lv_iload C.1 C.2.1 dL_law_517 (lv_at hl 1 rfl) ?_
  have gb := gdF_b (nrF (xs (i + 1)).toInt) 0 0
  refine i_if_ne (tgt := 534) C dL_law_519 (by decide) ⟨by omega, by omega⟩ (fun hk0 => ?_) (fun hk0 => ?_)
  · refine lv_goto (tgt := 1170) C.1 C.2.1 dL_law_534 (by decide) ?_
    refine W.widen (k := cells + 3) (n := slots + 20) (by omega) (by omega) ?_
    exact kk _ ls ⟨n, p0, a0, b0, gx, gy, sec, (dr), (gdF (nrF (xs (i + 1)).toInt) 0 0), ix, tx, ty, kw1, _, f1, hKR, ⟨hT, p1, a1, b1, sx, sy, dk, dv, g, rfl⟩, hP, hD⟩ hS (lv_sub (l' := [(4, .int (ii (i : Int))), (3, .ref ho), (2, .ref hm), (1, .ref hx), (0, .ref b)]) hl [2, 3, 4, 5, 6] rfl)
  · refine lv_aload_n C.1 C.2.1 dL_law_522 rfl (lv_at hl 3 rfl) ?_
    refine i_const C dL_law_523 ?_
    refine l_ald0 C hK hP 0 6 rfl rfl dL_law_524 ?_
    rw [hf1 (Classical.not_not.mp hk0)]
    refine lv_iload C.1 C.2.1 dL_law_525 (lv_at hl 0 rfl) ?_
    refine lv_i2l C.1 C.2.1 dL_law_527 rfl ?_
    refine l_cmpS C dL_law_528 ?_
    refine i_if_eq (tgt := 534) C dL_law_529 (by decide) ⟨by omega, by omega⟩ (fun _ => ?_) (fun z => absurd rfl z)
    refine lv_goto (tgt := 1170) C.1 C.2.1 dL_law_534 (by decide) ?_
    refine W.widen (k := cells + 3) (n := slots + 20) (by omega) (by omega) ?_
    exact kk _ ls ⟨n, p0, a0, b0, gx, gy, sec, (dr), (gdF (nrF (xs (i + 1)).toInt) 0 0), ix, tx, ty, kw1, _, f1, hKR, ⟨hT, p1, a1, b1, sx, sy, dk, dv, g, rfl⟩, hP, hD⟩ hS (lv_sub (l' := [(4, .int (ii (i : Int))), (3, .ref ho), (2, .ref hm), (1, .ref hx), (0, .ref b)]) hl [2, 3, 4, 5, 6] rfl)
set_option maxRecDepth 100000 in
set_option maxHeartbeats 4000000 in
theorem lw_code (hC : LwC p l s m c b L xs) (hK : va_K D clX [(cI, .int), (cQ, .int), (cX, .int), (cY, .int), (cR, .int), (cO, .int), (cL, .long)] s) {H : Heap} (hI : LI D s.heap.size hx hr0 hq0 cI cQ hm hX hY hR hO cX cY cR cO ho cL H) (hS : va_S (AZ s.heap.size) s.heap H []) {i : Nat} (hi : i + 8 ≤ L) {cells slots : Nat} (hcs : cells + 3 ≤ room_1.cells ∧ slots + 20 ≤ room_1.slots) {ls : Array Slot} (hl : lv_has ls 8 [(4, .int (ii (i : Int))), (3, .ref ho), (2, .ref hm), (1, .ref hx), (0, .ref b)])
    (kk : ∀ (H1 : Heap) (ls : Array Slot), LI D s.heap.size hx hr0 hq0 cI cQ hm hX hY hR hO cX cY cR cO ho cL H1 → va_S (AZ s.heap.size) s.heap H1 [] → lv_has ls 8 [(4, .int (ii (i : Int))), (3, .ref ho), (2, .ref hm), (1, .ref hx), (0, .ref b)] → W p l e room_1 s m #[Value.ref b] below meth c H1 [] (cells + 3) (slots + 20) Q (F0 m 1170 ls [])) : W p l e room_1 s m #[Value.ref b] below meth c H [] cells slots Q (F0 m 537 ls []) := by
  obtain ⟨hL, C, hN, hXc, hZ, hV, hb, hLn⟩ := hC
  obtain ⟨n, p0, a0, b0, gx, gy, sec, dr, th, ix, tx, ty, kw, mw, f, hKR, hMR, hP, hD⟩ := hI
  have hix := hKR.ixle
  have hnn := hKR.nle
  have hsec := hKR.secle
  refine lv_aload_n C.1 C.2.1 dL_law_537 rfl (lv_at hl 3 rfl) ?_
  refine lv_aload_n C.1 C.2.1 dL_law_538 rfl (lv_at hl 4 rfl) ?_
  refine lv_iload C.1 C.2.1 dL_law_539 (lv_at hl 0 rfl) ?_
  refine i_const C dL_law_541 ?_
  refine i_add C dL_law_542 ?_
  refine s_ald C hV hb (Nat.not_le.mpr hb) hS (i + 1) (by omega) (by omega) (by omega) dL_law_543 ?_
  refine lv_aload_n C.1 C.2.1 dL_law_544 rfl (lv_at hl 4 rfl) ?_
  refine lv_iload C.1 C.2.1 dL_law_545 (lv_at hl 0 rfl) ?_
  refine i_const C dL_law_547 ?_
  refine i_add C dL_law_548 ?_
  refine s_ald C hV hb (Nat.not_le.mpr hb) hS (i + 2) (by omega) (by omega) (by omega) dL_law_549 ?_
  refine i_if_eq (tgt := 557) C dL_law_550 (by decide) (rg_self _) (fun hbq => ?_) (fun hbq => ?_)
  · refine i_const C dL_law_557 ?_
    refine lv_aload_n C.1 C.2.1 dL_law_558 rfl (lv_at hl 1 rfl) ?_
    have hfr := fr_sub (w0 := []) (w1 := (KO ho cL f :: kw)) (w2 := mw) hP hD
    have hFc := fr_free (w0 := []) (w1 := (KO ho cL f :: kw)) (w2 := mw) hS.1 hD
    refine lc_S (As := [.ref hx, .int (ii ((xs (i + 1)).toInt)), .int (ii 0), .ref ho]) (rest := []) C (wL_code l hL D s.heap.size _ hx hr0 hq0 cI cQ n p0 a0 b0 gx gy sec dr ix tx ty kw hKR ho cL f _ 0 (rg_self _) (by omega)) (pch_pre _ hXc (pcm_pre _ hN (Zs.on hZ hS (fun _ h => h)) hS.1 hfr.1 (hK.sub (tys' := [(cI, .int), (cQ, .int), (cL, .long)]) [0, 1, 6] rfl) hfr.2)) hS hFc aw_h_L_code aw_m_L_105 aw_s_L_code aw_i_L ⟨rfl, rfl⟩ 4 (by decide +kernel) rfl ⟨by decide, by decide⟩ hl.1 rfl (Nat.le_of_ble_eq_true rfl) dL_law_559 ⟨by omega, by omega⟩ (fun t H1 locs1 ht hvm _ hB jz1 jk1 hS => ?_)
    obtain ⟨kw1, f1, hKR, hf1, hP1, hK1, hD1⟩ := hB
    rw [ht] at hP1
    obtain ⟨hP, hD⟩ := fr_mid (w0 := []) (w1 := (KO ho cL f :: kw)) (w2 := mw) (w3 := (KO ho cL f1 :: kw1)) hP hD jz1 jk1 hFc hP1 hD1
    refine w_drop hS.2.2 ?_
    have hS := (⟨hS.1, hS.2.1, fun _ h => nomatch h⟩ : va_S (AZ s.heap.size) s.heap H1 [])
    refine lv_istore C.1 C.2.1 dL_law_562 hl (by decide) rfl (fun ls hl => ?_)
    have hl : lv_has ls 8 [(5, .int (ii (gdF (nrF (xs (i + 1)).toInt) 0 0))), (4, .int (ii (i : Int))), (3, .ref ho), (2, .ref hm), (1, .ref hx), (0, .ref b)] := hl
    refine lv_aload_n C.1 C.2.1 dL_law_564 rfl (lv_at hl 3 rfl) ?_
    refine lv_aload_n C.1 C.2.1 dL_law_565 rfl (lv_at hl 5 rfl) ?_
    refine lv_iload C.1 C.2.1 dL_law_566 (lv_at hl 1 rfl) ?_
    refine i_const C dL_law_568 ?_
    refine i_add C dL_law_569 ?_
    refine s_ald C hV hb (Nat.not_le.mpr hb) hS (i + 1) (by omega) (by omega) (by omega) dL_law_570 ?_
    refine lv_aload_n C.1 C.2.1 dL_law_571 rfl (lv_at hl 5 rfl) ?_
    refine lv_iload C.1 C.2.1 dL_law_572 (lv_at hl 1 rfl) ?_
    refine i_const C dL_law_574 ?_
    refine i_add C dL_law_575 ?_
    refine s_ald C hV hb (Nat.not_le.mpr hb) hS (i + 2) (by omega) (by omega) (by omega) dL_law_576 ?_
    obtain ⟨hT, p1, a1, b1, sx, sy, dk, dv, g, rfl⟩ := hMR
    refine i_if_eq (tgt := 584) C dL_law_577 (by decide) (rg_self _) (fun hbr => ?_) (fun hbr => ?_)
    · refine i_const C dL_law_584 ?_
      have hfr := fr_sub (w0 := (KO ho cL f1 :: kw1)) (w1 := [(hm, .inr (2, MO p1 a1 b1 n sec dr th hX hY hR hO sx sy dk dv)), MX hX cX tx, MX hY cY ty, MI hR cR ix]) (w2 := [MG hO cO g]) hP hD
      have hFc := fr_free (w0 := (KO ho cL f1 :: kw1)) (w1 := [(hm, .inr (2, MO p1 a1 b1 n sec dr th hX hY hR hO sx sy dk dv)), MX hX cX tx, MX hY cY ty, MI hR cR ix]) (w2 := [MG hO cO g]) hS.1 hD
      refine cn_V (As := [.int (ii ((xs (i + 1)).toInt)), .int (ii 0)]) (rest := []) C (c_X2_code l D s.heap.size _ hm p1 a1 b1 n sec dr th hX hY hR hO sx sy dk dv cX cY cR tx ty ix hT hix hnn _ 0 (rg_self _) (by omega)) (pcm_preV _ hN (Zs.on hZ hS (fun _ h => h)) hS.1 hfr.1 (hK.sub (tys' := [(cX, .int), (cY, .int), (cR, .int)]) [2, 3, 4] rfl) hfr.2 0 (ci := 2) rfl rfl) hS hFc aw_b_X2_code aw_m_L_108 aw_v_X2_code aw_i_X2 aw_e_X2_code ⟨rfl, rfl⟩ 2 (by decide +kernel) rfl ⟨by decide, by decide⟩ hl.1 rfl (Nat.le_of_ble_eq_true rfl) dL_law_585 ⟨by omega, by omega⟩ (fun t H1 locs1 ht hvm _ hB jz1 jk1 hS => ?_)
      obtain ⟨hP1, hK1, hD1⟩ := hB
      rw [ht] at hP1
      obtain ⟨hP, hD⟩ := fr_mid (w0 := (KO ho cL f1 :: kw1)) (w1 := [(hm, .inr (2, MO p1 a1 b1 n sec dr th hX hY hR hO sx sy dk dv)), MX hX cX tx, MX hY cY ty, MI hR cR ix]) (w2 := [MG hO cO g]) (w3 := [(hm, .inr (2, MO p1 a1 b1 n sec dr (gdF (nrF (xs (i + 1)).toInt) 0 0) hX hY hR hO sx sy dk dv)), MX hX cX tx, MX hY cY ty, MI hR cR ix]) hP hD jz1 jk1 hFc hP1 hD1
      refine w_drop hS.2.2 ?_
      have hS := (⟨hS.1, hS.2.1, fun _ h => nomatch h⟩ : va_S (AZ s.heap.size) s.heap H1 [])
      refine lv_lstore C.1 C.2.1 dL_law_588 hl (by decide) rfl (fun ls hl => ?_)
      have hl : lv_has ls 8 [(6, .long (li (rcF tx ty ix (xs (i + 1)).toInt 0))), (5, .int (ii (gdF (nrF (xs (i + 1)).toInt) 0 0))), (4, .int (ii (i : Int))), (3, .ref ho), (2, .ref hm), (1, .ref hx), (0, .ref b)] := hl
      refine lv_aload_n C.1 C.2.1 dL_law_590 rfl (lv_at hl 4 rfl) ?_
      refine ca_V (As := []) (rest := []) C (c_X2_thrown l D hm p1 a1 b1 n sec dr (gdF (nrF (xs (i + 1)).toInt) 0 0) hX hY hR hO sx sy dk dv) (pcw_preV [] hN (fr_sub (w0 := (KO ho cL f1 :: kw1)) (w1 := [(hm, .inr (2, MO p1 a1 b1 n sec dr (gdF (nrF (xs (i + 1)).toInt) 0 0) hX hY hR hO sx sy dk dv))]) (w2 := [MX hX cX tx, MX hY cY ty, MI hR cR ix, MG hO cO g]) hP hD).1 (hK.sub (tys' := []) [] rfl) 0 (ci := 2) rfl rfl) aw_b_X2_thrown aw_m_L_76 aw_v_X2_thrown aw_i_X2 aw_e_X2_thrown ⟨rfl, rfl⟩ 0 (by decide +kernel) rfl ⟨by decide, by decide⟩ hl.1 rfl (Nat.le_of_ble_eq_true rfl) dL_law_591 ⟨by omega, by omega⟩ ?_
      refine lv_iload C.1 C.2.1 dL_law_594 (lv_at hl 1 rfl) ?_
      refine ic_eq (tgt := 601) C dL_law_596 (by decide) ?_
      refine lv_iload C.1 C.2.1 dL_law_601 (lv_at hl 1 rfl) ?_
      have gb := gdF_b (nrF (xs (i + 1)).toInt) 0 0
      refine i_if_ne (tgt := 617) C dL_law_603 (by decide) ⟨by omega, by omega⟩ (fun hk0 => ?_) (fun hk0 => ?_)
      · refine lv_goto (tgt := 1170) C.1 C.2.1 dL_law_617 (by decide) ?_
        refine W.widen (k := cells + 3) (n := slots + 20) (by omega) (by omega) ?_
        exact kk _ ls ⟨n, p0, a0, b0, gx, gy, sec, dr, (gdF (nrF (xs (i + 1)).toInt) 0 0), ix, tx, ty, kw1, _, f1, hKR, ⟨hT, p1, a1, b1, sx, sy, dk, dv, g, rfl⟩, hP, hD⟩ hS (lv_sub (l' := [(4, .int (ii (i : Int))), (3, .ref ho), (2, .ref hm), (1, .ref hx), (0, .ref b)]) hl [2, 3, 4, 5, 6] rfl)
      · refine lv_aload_n C.1 C.2.1 dL_law_606 rfl (lv_at hl 3 rfl) ?_
        refine i_const C dL_law_607 ?_
        refine l_ald0 C hK hP 0 6 rfl rfl dL_law_608 ?_
        rw [hf1 (Classical.not_not.mp hk0)]
        refine lv_lload C.1 C.2.1 dL_law_609 (lv_at hl 0 rfl) ?_
        refine l_cmpS C dL_law_611 ?_
        refine i_if_eq (tgt := 617) C dL_law_612 (by decide) ⟨by omega, by omega⟩ (fun _ => ?_) (fun z => absurd rfl z)
        refine lv_goto (tgt := 1170) C.1 C.2.1 dL_law_617 (by decide) ?_
        refine W.widen (k := cells + 3) (n := slots + 20) (by omega) (by omega) ?_
        exact kk _ ls ⟨n, p0, a0, b0, gx, gy, sec, dr, (gdF (nrF (xs (i + 1)).toInt) 0 0), ix, tx, ty, kw1, _, f1, hKR, ⟨hT, p1, a1, b1, sx, sy, dk, dv, g, rfl⟩, hP, hD⟩ hS (lv_sub (l' := [(4, .int (ii (i : Int))), (3, .ref ho), (2, .ref hm), (1, .ref hx), (0, .ref b)]) hl [2, 3, 4, 5, 6] rfl)
    · exact absurd hbq hbr
  · refine i_const C dL_law_553 ?_
    refine lv_goto (tgt := 558) C.1 C.2.1 dL_law_554 (by decide) ?_
    refine lv_aload_n C.1 C.2.1 dL_law_558 rfl (lv_at hl 1 rfl) ?_
    have hfr := fr_sub (w0 := []) (w1 := (KO ho cL f :: kw)) (w2 := mw) hP hD
    have hFc := fr_free (w0 := []) (w1 := (KO ho cL f :: kw)) (w2 := mw) hS.1 hD
    refine lc_S (As := [.ref hx, .int (ii ((xs (i + 1)).toInt)), .int (ii 1), .ref ho]) (rest := []) C (wL_code l hL D s.heap.size _ hx hr0 hq0 cI cQ n p0 a0 b0 gx gy sec dr ix tx ty kw hKR ho cL f _ 1 (rg_self _) (by omega)) (pch_pre _ hXc (pcm_pre _ hN (Zs.on hZ hS (fun _ h => h)) hS.1 hfr.1 (hK.sub (tys' := [(cI, .int), (cQ, .int), (cL, .long)]) [0, 1, 6] rfl) hfr.2)) hS hFc aw_h_L_code aw_m_L_105 aw_s_L_code aw_i_L ⟨rfl, rfl⟩ 4 (by decide +kernel) rfl ⟨by decide, by decide⟩ hl.1 rfl (Nat.le_of_ble_eq_true rfl) dL_law_559 ⟨by omega, by omega⟩ (fun t H1 locs1 ht hvm _ hB jz1 jk1 hS => ?_)
    obtain ⟨kw1, f1, hKR, hf1, hP1, hK1, hD1⟩ := hB
    rw [ht] at hP1
    obtain ⟨hP, hD⟩ := fr_mid (w0 := []) (w1 := (KO ho cL f :: kw)) (w2 := mw) (w3 := (KO ho cL f1 :: kw1)) hP hD jz1 jk1 hFc hP1 hD1
    refine w_drop hS.2.2 ?_
    have hS := (⟨hS.1, hS.2.1, fun _ h => nomatch h⟩ : va_S (AZ s.heap.size) s.heap H1 [])
    refine lv_istore C.1 C.2.1 dL_law_562 hl (by decide) rfl (fun ls hl => ?_)
    have hl : lv_has ls 8 [(5, .int (ii (gdF (nrF (xs (i + 1)).toInt) 0 0))), (4, .int (ii (i : Int))), (3, .ref ho), (2, .ref hm), (1, .ref hx), (0, .ref b)] := hl
    refine lv_aload_n C.1 C.2.1 dL_law_564 rfl (lv_at hl 3 rfl) ?_
    refine lv_aload_n C.1 C.2.1 dL_law_565 rfl (lv_at hl 5 rfl) ?_
    refine lv_iload C.1 C.2.1 dL_law_566 (lv_at hl 1 rfl) ?_
    refine i_const C dL_law_568 ?_
    refine i_add C dL_law_569 ?_
    refine s_ald C hV hb (Nat.not_le.mpr hb) hS (i + 1) (by omega) (by omega) (by omega) dL_law_570 ?_
    refine lv_aload_n C.1 C.2.1 dL_law_571 rfl (lv_at hl 5 rfl) ?_
    refine lv_iload C.1 C.2.1 dL_law_572 (lv_at hl 1 rfl) ?_
    refine i_const C dL_law_574 ?_
    refine i_add C dL_law_575 ?_
    refine s_ald C hV hb (Nat.not_le.mpr hb) hS (i + 2) (by omega) (by omega) (by omega) dL_law_576 ?_
    obtain ⟨hT, p1, a1, b1, sx, sy, dk, dv, g, rfl⟩ := hMR
    refine i_if_eq (tgt := 584) C dL_law_577 (by decide) (rg_self _) (fun hbr => ?_) (fun hbr => ?_)
    · exact absurd hbr hbq
    · refine i_const C dL_law_580 ?_
      refine lv_goto (tgt := 585) C.1 C.2.1 dL_law_581 (by decide) ?_
      have hfr := fr_sub (w0 := (KO ho cL f1 :: kw1)) (w1 := [(hm, .inr (2, MO p1 a1 b1 n sec dr th hX hY hR hO sx sy dk dv)), MX hX cX tx, MX hY cY ty, MI hR cR ix]) (w2 := [MG hO cO g]) hP hD
      have hFc := fr_free (w0 := (KO ho cL f1 :: kw1)) (w1 := [(hm, .inr (2, MO p1 a1 b1 n sec dr th hX hY hR hO sx sy dk dv)), MX hX cX tx, MX hY cY ty, MI hR cR ix]) (w2 := [MG hO cO g]) hS.1 hD
      refine cn_V (As := [.int (ii ((xs (i + 1)).toInt)), .int (ii 1)]) (rest := []) C (c_X2_code l D s.heap.size _ hm p1 a1 b1 n sec dr th hX hY hR hO sx sy dk dv cX cY cR tx ty ix hT hix hnn _ 1 (rg_self _) (by omega)) (pcm_preV _ hN (Zs.on hZ hS (fun _ h => h)) hS.1 hfr.1 (hK.sub (tys' := [(cX, .int), (cY, .int), (cR, .int)]) [2, 3, 4] rfl) hfr.2 0 (ci := 2) rfl rfl) hS hFc aw_b_X2_code aw_m_L_108 aw_v_X2_code aw_i_X2 aw_e_X2_code ⟨rfl, rfl⟩ 2 (by decide +kernel) rfl ⟨by decide, by decide⟩ hl.1 rfl (Nat.le_of_ble_eq_true rfl) dL_law_585 ⟨by omega, by omega⟩ (fun t H1 locs1 ht hvm _ hB jz1 jk1 hS => ?_)
      obtain ⟨hP1, hK1, hD1⟩ := hB
      rw [ht] at hP1
      obtain ⟨hP, hD⟩ := fr_mid (w0 := (KO ho cL f1 :: kw1)) (w1 := [(hm, .inr (2, MO p1 a1 b1 n sec dr th hX hY hR hO sx sy dk dv)), MX hX cX tx, MX hY cY ty, MI hR cR ix]) (w2 := [MG hO cO g]) (w3 := [(hm, .inr (2, MO p1 a1 b1 n sec dr (gdF (nrF (xs (i + 1)).toInt) 0 0) hX hY hR hO sx sy dk dv)), MX hX cX tx, MX hY cY ty, MI hR cR ix]) hP hD jz1 jk1 hFc hP1 hD1
      refine w_drop hS.2.2 ?_
      have hS := (⟨hS.1, hS.2.1, fun _ h => nomatch h⟩ : va_S (AZ s.heap.size) s.heap H1 [])
      refine lv_lstore C.1 C.2.1 dL_law_588 hl (by decide) rfl (fun ls hl => ?_)
      have hl : lv_has ls 8 [(6, .long (li (rcF tx ty ix (xs (i + 1)).toInt 1))), (5, .int (ii (gdF (nrF (xs (i + 1)).toInt) 0 0))), (4, .int (ii (i : Int))), (3, .ref ho), (2, .ref hm), (1, .ref hx), (0, .ref b)] := hl
      refine lv_aload_n C.1 C.2.1 dL_law_590 rfl (lv_at hl 4 rfl) ?_
      refine ca_V (As := []) (rest := []) C (c_X2_thrown l D hm p1 a1 b1 n sec dr (gdF (nrF (xs (i + 1)).toInt) 0 0) hX hY hR hO sx sy dk dv) (pcw_preV [] hN (fr_sub (w0 := (KO ho cL f1 :: kw1)) (w1 := [(hm, .inr (2, MO p1 a1 b1 n sec dr (gdF (nrF (xs (i + 1)).toInt) 0 0) hX hY hR hO sx sy dk dv))]) (w2 := [MX hX cX tx, MX hY cY ty, MI hR cR ix, MG hO cO g]) hP hD).1 (hK.sub (tys' := []) [] rfl) 0 (ci := 2) rfl rfl) aw_b_X2_thrown aw_m_L_76 aw_v_X2_thrown aw_i_X2 aw_e_X2_thrown ⟨rfl, rfl⟩ 0 (by decide +kernel) rfl ⟨by decide, by decide⟩ hl.1 rfl (Nat.le_of_ble_eq_true rfl) dL_law_591 ⟨by omega, by omega⟩ ?_
      refine lv_iload C.1 C.2.1 dL_law_594 (lv_at hl 1 rfl) ?_
      refine ic_eq (tgt := 601) C dL_law_596 (by decide) ?_
      refine lv_iload C.1 C.2.1 dL_law_601 (lv_at hl 1 rfl) ?_
      have gb := gdF_b (nrF (xs (i + 1)).toInt) 0 0
      refine i_if_ne (tgt := 617) C dL_law_603 (by decide) ⟨by omega, by omega⟩ (fun hk0 => ?_) (fun hk0 => ?_)
      · refine lv_goto (tgt := 1170) C.1 C.2.1 dL_law_617 (by decide) ?_
        refine W.widen (k := cells + 3) (n := slots + 20) (by omega) (by omega) ?_
        exact kk _ ls ⟨n, p0, a0, b0, gx, gy, sec, dr, (gdF (nrF (xs (i + 1)).toInt) 0 0), ix, tx, ty, kw1, _, f1, hKR, ⟨hT, p1, a1, b1, sx, sy, dk, dv, g, rfl⟩, hP, hD⟩ hS (lv_sub (l' := [(4, .int (ii (i : Int))), (3, .ref ho), (2, .ref hm), (1, .ref hx), (0, .ref b)]) hl [2, 3, 4, 5, 6] rfl)
      · refine lv_aload_n C.1 C.2.1 dL_law_606 rfl (lv_at hl 3 rfl) ?_
        refine i_const C dL_law_607 ?_
        refine l_ald0 C hK hP 0 6 rfl rfl dL_law_608 ?_
        rw [hf1 (Classical.not_not.mp hk0)]
        refine lv_lload C.1 C.2.1 dL_law_609 (lv_at hl 0 rfl) ?_
        refine l_cmpS C dL_law_611 ?_
        refine i_if_eq (tgt := 617) C dL_law_612 (by decide) ⟨by omega, by omega⟩ (fun _ => ?_) (fun z => absurd rfl z)
        refine lv_goto (tgt := 1170) C.1 C.2.1 dL_law_617 (by decide) ?_
        refine W.widen (k := cells + 3) (n := slots + 20) (by omega) (by omega) ?_
        exact kk _ ls ⟨n, p0, a0, b0, gx, gy, sec, dr, (gdF (nrF (xs (i + 1)).toInt) 0 0), ix, tx, ty, kw1, _, f1, hKR, ⟨hT, p1, a1, b1, sx, sy, dk, dv, g, rfl⟩, hP, hD⟩ hS (lv_sub (l' := [(4, .int (ii (i : Int))), (3, .ref ho), (2, .ref hm), (1, .ref hx), (0, .ref b)]) hl [2, 3, 4, 5, 6] rfl)
set_option maxRecDepth 100000 in
set_option maxHeartbeats 4000000 in
theorem lw_sign (hC : LwC p l s m c b L xs) (hK : va_K D clX [(cI, .int), (cQ, .int), (cX, .int), (cY, .int), (cR, .int), (cO, .int), (cL, .long)] s) {H : Heap} (hI : LI D s.heap.size hx hr0 hq0 cI cQ hm hX hY hR hO cX cY cR cO ho cL H) (hS : va_S (AZ s.heap.size) s.heap H []) {i : Nat} (hi : i + 8 ≤ L) {cells slots : Nat} (hcs : cells + 3 ≤ room_1.cells ∧ slots + 20 ≤ room_1.slots) {ls : Array Slot} (hl : lv_has ls 8 [(4, .int (ii (i : Int))), (3, .ref ho), (2, .ref hm), (1, .ref hx), (0, .ref b)])
    (kk : ∀ (H1 : Heap) (ls : Array Slot), LI D s.heap.size hx hr0 hq0 cI cQ hm hX hY hR hO cX cY cR cO ho cL H1 → va_S (AZ s.heap.size) s.heap H1 [] → lv_has ls 8 [(4, .int (ii (i : Int))), (3, .ref ho), (2, .ref hm), (1, .ref hx), (0, .ref b)] → W p l e room_1 s m #[Value.ref b] below meth c H1 [] (cells + 3) (slots + 20) Q (F0 m 1170 ls [])) : W p l e room_1 s m #[Value.ref b] below meth c H [] cells slots Q (F0 m 760 ls []) := by
  obtain ⟨hL, C, hN, hXc, hZ, hV, hb, hLn⟩ := hC
  obtain ⟨n, p0, a0, b0, gx, gy, sec, dr, th, ix, tx, ty, kw, mw, f, hKR, hMR, hP, hD⟩ := hI
  have hix := hKR.ixle
  have hnn := hKR.nle
  have hsec := hKR.secle
  refine lv_aload_n C.1 C.2.1 dL_law_760 rfl (lv_at hl 3 rfl) ?_
  refine lv_aload_n C.1 C.2.1 dL_law_761 rfl (lv_at hl 4 rfl) ?_
  refine lv_iload C.1 C.2.1 dL_law_762 (lv_at hl 0 rfl) ?_
  refine i_const C dL_law_764 ?_
  refine i_add C dL_law_765 ?_
  refine s_ald C hV hb (Nat.not_le.mpr hb) hS (i + 1) (by omega) (by omega) (by omega) dL_law_766 ?_
  refine lv_i2l C.1 C.2.1 dL_law_767 rfl ?_
  refine i_bipush C dL_law_768 (by decide +kernel) ?_
  refine lv_lshl C.1 C.2.1 dL_law_770 rfl ?_
  refine lv_aload_n C.1 C.2.1 dL_law_771 rfl (lv_at hl 4 rfl) ?_
  refine lv_iload C.1 C.2.1 dL_law_772 (lv_at hl 0 rfl) ?_
  refine i_const C dL_law_774 ?_
  refine i_add C dL_law_775 ?_
  refine s_ald C hV hb (Nat.not_le.mpr hb) hS (i + 2) (by omega) (by omega) (by omega) dL_law_776 ?_
  refine lv_i2l C.1 C.2.1 dL_law_777 rfl ?_
  refine l_ldc2 (n := 4294967295) C dL_law_778 aw_k_L_109 (by decide +kernel) ?_
  refine lv_land C.1 C.2.1 dL_law_781 ?_
  refine lv_lor C.1 C.2.1 dL_law_782 ?_
  obtain ⟨z1, hz1, ez1⟩ := li_of (((ii ((xs (i + 1)).toInt)).toInt64 <<< ((ii 32).toInt64 &&& 63)) ||| (((ii ((xs (i + 2)).toInt)).toInt64) &&& li 4294967295))
  rw [ez1]
  refine lv_aload_n C.1 C.2.1 dL_law_783 rfl (lv_at hl 1 rfl) ?_
  obtain ⟨V, hV0⟩ : ∃ V, soF (fun k => sg2 n (tx k.toNat) k (z1 % (n : Int)) sec) (ii ((dmF n 30 1 : Nat) : Int)) 24 1 (st1 (z1 % (n : Int)) sec) (vl1 (z1 % (n : Int)) sec) = V := ⟨_, rfl⟩
  have hfr := fr_sub (w0 := []) (w1 := (KO ho cL f :: kw)) (w2 := mw) hP hD
  have hFc := fr_free (w0 := []) (w1 := (KO ho cL f :: kw)) (w2 := mw) hS.1 hD
  refine lc_S (As := [.ref hx, .long (li z1), .ref ho]) (rest := []) C (wL_sign l hL D s.heap.size _ hx hr0 hq0 cI cQ n p0 a0 b0 gx gy sec dr ix tx ty kw hKR ho cL f _ hz1 V (fun _ => hV0)) (pch_pre _ hXc (pcm_pre _ hN (Zs.on hZ hS (fun _ h => h)) hS.1 hfr.1 (hK.sub (tys' := [(cI, .int), (cQ, .int), (cL, .long)]) [0, 1, 6] rfl) hfr.2)) hS hFc aw_h_L_sign aw_m_L_119 aw_s_L_sign aw_i_L ⟨rfl, rfl⟩ 3 (by decide +kernel) rfl ⟨by decide, by decide⟩ hl.1 rfl (Nat.le_of_ble_eq_true rfl) dL_law_784 ⟨by omega, by omega⟩ (fun t H1 locs1 ht hvm _ hB jz1 jk1 hS => ?_)
  obtain ⟨kw1, f1, hKR, hf1, hP1, hK1, hD1⟩ := hB
  rw [ht] at hP1
  obtain ⟨hP, hD⟩ := fr_mid (w0 := []) (w1 := (KO ho cL f :: kw)) (w2 := mw) (w3 := (KO ho cL f1 :: kw1)) hP hD jz1 jk1 hFc hP1 hD1
  refine w_drop hS.2.2 ?_
  have hS := (⟨hS.1, hS.2.1, fun _ h => nomatch h⟩ : va_S (AZ s.heap.size) s.heap H1 [])
  refine lv_istore C.1 C.2.1 dL_law_787 hl (by decide) rfl (fun ls hl => ?_)
  have hl : lv_has ls 8 [(5, .int (ii (thS n sec V))), (4, .int (ii (i : Int))), (3, .ref ho), (2, .ref hm), (1, .ref hx), (0, .ref b)] := hl
  refine lv_aload_n C.1 C.2.1 dL_law_789 rfl (lv_at hl 3 rfl) ?_
  refine lv_aload_n C.1 C.2.1 dL_law_790 rfl (lv_at hl 5 rfl) ?_
  refine lv_iload C.1 C.2.1 dL_law_791 (lv_at hl 1 rfl) ?_
  refine i_const C dL_law_793 ?_
  refine i_add C dL_law_794 ?_
  refine s_ald C hV hb (Nat.not_le.mpr hb) hS (i + 1) (by omega) (by omega) (by omega) dL_law_795 ?_
  refine lv_i2l C.1 C.2.1 dL_law_796 rfl ?_
  refine i_bipush C dL_law_797 (by decide +kernel) ?_
  refine lv_lshl C.1 C.2.1 dL_law_799 rfl ?_
  refine lv_aload_n C.1 C.2.1 dL_law_800 rfl (lv_at hl 5 rfl) ?_
  refine lv_iload C.1 C.2.1 dL_law_801 (lv_at hl 1 rfl) ?_
  refine i_const C dL_law_803 ?_
  refine i_add C dL_law_804 ?_
  refine s_ald C hV hb (Nat.not_le.mpr hb) hS (i + 2) (by omega) (by omega) (by omega) dL_law_805 ?_
  refine lv_i2l C.1 C.2.1 dL_law_806 rfl ?_
  refine l_ldc2 (n := 4294967295) C dL_law_807 aw_k_L_109 (by decide +kernel) ?_
  refine lv_land C.1 C.2.1 dL_law_810 ?_
  refine lv_lor C.1 C.2.1 dL_law_811 ?_
  rw [ez1]
  obtain ⟨hT, p1, a1, b1, sx, sy, dk, dv, g, rfl⟩ := hMR
  have hfr := fr_sub (w0 := (KO ho cL f1 :: kw1)) (w1 := [(hm, .inr (2, MO p1 a1 b1 n sec dr th hX hY hR hO sx sy dk dv)), MX hX cX tx, MX hY cY ty, MI hR cR ix]) (w2 := [MG hO cO g]) hP hD
  have hFc := fr_free (w0 := (KO ho cL f1 :: kw1)) (w1 := [(hm, .inr (2, MO p1 a1 b1 n sec dr th hX hY hR hO sx sy dk dv)), MX hX cX tx, MX hY cY ty, MI hR cR ix]) (w2 := [MG hO cO g]) hS.1 hD
  refine cn_V (As := [.long (li z1)]) (rest := []) C (c_X2_sign l D s.heap.size _ hm p1 a1 b1 n sec dr th hX hY hR hO sx sy dk dv cX cY cR tx ty ix hT hix hnn hsec _ hz1 V (fun _ => hV0)) (pcm_preV _ hN (Zs.on hZ hS (fun _ h => h)) hS.1 hfr.1 (hK.sub (tys' := [(cX, .int), (cY, .int), (cR, .int)]) [2, 3, 4] rfl) hfr.2 0 (ci := 2) rfl rfl) hS hFc aw_b_X2_sign aw_m_L_122 aw_v_X2_sign aw_i_X2 aw_e_X2_sign ⟨rfl, rfl⟩ 1 (by decide +kernel) rfl ⟨by decide, by decide⟩ hl.1 rfl (Nat.le_of_ble_eq_true rfl) dL_law_812 ⟨by omega, by omega⟩ (fun t H1 locs1 ht hvm _ hB jz1 jk1 hS => ?_)
  obtain ⟨dk1, dv1, hP1, hK1, hD1⟩ := hB
  rw [ht] at hP1
  obtain ⟨hP, hD⟩ := fr_mid (w0 := (KO ho cL f1 :: kw1)) (w1 := [(hm, .inr (2, MO p1 a1 b1 n sec dr th hX hY hR hO sx sy dk dv)), MX hX cX tx, MX hY cY ty, MI hR cR ix]) (w2 := [MG hO cO g]) (w3 := [(hm, .inr (2, MO p1 a1 b1 n sec (drS n sec dr V) (thS n sec V) hX hY hR hO sx sy dk1 dv1)), MX hX cX tx, MX hY cY ty, MI hR cR ix]) hP hD jz1 jk1 hFc hP1 hD1
  refine w_drop hS.2.2 ?_
  have hS := (⟨hS.1, hS.2.1, fun _ h => nomatch h⟩ : va_S (AZ s.heap.size) s.heap H1 [])
  refine lv_lstore C.1 C.2.1 dL_law_815 hl (by decide) rfl (fun ls hl => ?_)
  have hl : lv_has ls 8 [(6, .long (li (rvS n sec V))), (5, .int (ii (thS n sec V))), (4, .int (ii (i : Int))), (3, .ref ho), (2, .ref hm), (1, .ref hx), (0, .ref b)] := hl
  refine lv_aload_n C.1 C.2.1 dL_law_817 rfl (lv_at hl 4 rfl) ?_
  refine ca_V (As := []) (rest := []) C (c_X2_thrown l D hm p1 a1 b1 n sec (drS n sec dr V) (thS n sec V) hX hY hR hO sx sy dk1 dv1) (pcw_preV [] hN (fr_sub (w0 := (KO ho cL f1 :: kw1)) (w1 := [(hm, .inr (2, MO p1 a1 b1 n sec (drS n sec dr V) (thS n sec V) hX hY hR hO sx sy dk1 dv1))]) (w2 := [MX hX cX tx, MX hY cY ty, MI hR cR ix, MG hO cO g]) hP hD).1 (hK.sub (tys' := []) [] rfl) 0 (ci := 2) rfl rfl) aw_b_X2_thrown aw_m_L_76 aw_v_X2_thrown aw_i_X2 aw_e_X2_thrown ⟨rfl, rfl⟩ 0 (by decide +kernel) rfl ⟨by decide, by decide⟩ hl.1 rfl (Nat.le_of_ble_eq_true rfl) dL_law_818 ⟨by omega, by omega⟩ ?_
  refine lv_iload C.1 C.2.1 dL_law_821 (lv_at hl 1 rfl) ?_
  refine ic_eq (tgt := 828) C dL_law_823 (by decide) ?_
  refine lv_iload C.1 C.2.1 dL_law_828 (lv_at hl 1 rfl) ?_
  have gb := thS_b n sec V
  refine i_if_ne (tgt := 844) C dL_law_830 (by decide) ⟨by omega, by omega⟩ (fun hk0 => ?_) (fun hk0 => ?_)
  · refine lv_goto (tgt := 1170) C.1 C.2.1 dL_law_844 (by decide) ?_
    refine W.widen (k := cells + 3) (n := slots + 20) (by omega) (by omega) ?_
    exact kk _ ls ⟨n, p0, a0, b0, gx, gy, sec, (drS n sec dr V), (thS n sec V), ix, tx, ty, kw1, _, f1, hKR, ⟨hT, p1, a1, b1, sx, sy, dk1, dv1, g, rfl⟩, hP, hD⟩ hS (lv_sub (l' := [(4, .int (ii (i : Int))), (3, .ref ho), (2, .ref hm), (1, .ref hx), (0, .ref b)]) hl [2, 3, 4, 5, 6] rfl)
  · refine lv_aload_n C.1 C.2.1 dL_law_833 rfl (lv_at hl 3 rfl) ?_
    refine i_const C dL_law_834 ?_
    refine l_ald0 C hK hP 0 6 rfl rfl dL_law_835 ?_
    rw [hf1 (Classical.not_not.mp hk0)]
    refine lv_lload C.1 C.2.1 dL_law_836 (lv_at hl 0 rfl) ?_
    refine l_cmpS C dL_law_838 ?_
    refine i_if_eq (tgt := 844) C dL_law_839 (by decide) ⟨by omega, by omega⟩ (fun _ => ?_) (fun z => absurd rfl z)
    refine lv_goto (tgt := 1170) C.1 C.2.1 dL_law_844 (by decide) ?_
    refine W.widen (k := cells + 3) (n := slots + 20) (by omega) (by omega) ?_
    exact kk _ ls ⟨n, p0, a0, b0, gx, gy, sec, (drS n sec dr V), (thS n sec V), ix, tx, ty, kw1, _, f1, hKR, ⟨hT, p1, a1, b1, sx, sy, dk1, dv1, g, rfl⟩, hP, hD⟩ hS (lv_sub (l' := [(4, .int (ii (i : Int))), (3, .ref ho), (2, .ref hm), (1, .ref hx), (0, .ref b)]) hl [2, 3, 4, 5, 6] rfl)
set_option maxRecDepth 100000 in
set_option maxHeartbeats 4000000 in
theorem lw_verify (hC : LwC p l s m c b L xs) (hK : va_K D clX [(cI, .int), (cQ, .int), (cX, .int), (cY, .int), (cR, .int), (cO, .int), (cL, .long)] s) {H : Heap} (hI : LI D s.heap.size hx hr0 hq0 cI cQ hm hX hY hR hO cX cY cR cO ho cL H) (hS : va_S (AZ s.heap.size) s.heap H []) {i : Nat} (hi : i + 8 ≤ L) {cells slots : Nat} (hcs : cells + 3 ≤ room_1.cells ∧ slots + 20 ≤ room_1.slots) {ls : Array Slot} (hl : lv_has ls 8 [(4, .int (ii (i : Int))), (3, .ref ho), (2, .ref hm), (1, .ref hx), (0, .ref b)])
    (kk : ∀ (H1 : Heap) (ls : Array Slot), LI D s.heap.size hx hr0 hq0 cI cQ hm hX hY hR hO cX cY cR cO ho cL H1 → va_S (AZ s.heap.size) s.heap H1 [] → lv_has ls 8 [(4, .int (ii (i : Int))), (3, .ref ho), (2, .ref hm), (1, .ref hx), (0, .ref b)] → W p l e room_1 s m #[Value.ref b] below meth c H1 [] (cells + 3) (slots + 20) Q (F0 m 1170 ls [])) : W p l e room_1 s m #[Value.ref b] below meth c H [] cells slots Q (F0 m 860 ls []) := by
  obtain ⟨hL, C, hN, hXc, hZ, hV, hb, hLn⟩ := hC
  obtain ⟨n, p0, a0, b0, gx, gy, sec, dr, th, ix, tx, ty, kw, mw, f, hKR, hMR, hP, hD⟩ := hI
  have hix := hKR.ixle
  have hnn := hKR.nle
  have hsec := hKR.secle
  refine lv_aload_n C.1 C.2.1 dL_law_860 rfl (lv_at hl 3 rfl) ?_
  refine lv_aload_n C.1 C.2.1 dL_law_861 rfl (lv_at hl 4 rfl) ?_
  refine lv_iload C.1 C.2.1 dL_law_862 (lv_at hl 0 rfl) ?_
  refine i_const C dL_law_864 ?_
  refine i_add C dL_law_865 ?_
  refine s_ald C hV hb (Nat.not_le.mpr hb) hS (i + 1) (by omega) (by omega) (by omega) dL_law_866 ?_
  refine lv_aload_n C.1 C.2.1 dL_law_867 rfl (lv_at hl 4 rfl) ?_
  refine lv_iload C.1 C.2.1 dL_law_868 (lv_at hl 0 rfl) ?_
  refine i_const C dL_law_870 ?_
  refine i_add C dL_law_871 ?_
  refine s_ald C hV hb (Nat.not_le.mpr hb) hS (i + 2) (by omega) (by omega) (by omega) dL_law_872 ?_
  refine lv_i2l C.1 C.2.1 dL_law_873 rfl ?_
  refine i_bipush C dL_law_874 (by decide +kernel) ?_
  refine lv_lshl C.1 C.2.1 dL_law_876 rfl ?_
  refine lv_aload_n C.1 C.2.1 dL_law_877 rfl (lv_at hl 4 rfl) ?_
  refine lv_iload C.1 C.2.1 dL_law_878 (lv_at hl 0 rfl) ?_
  refine i_const C dL_law_880 ?_
  refine i_add C dL_law_881 ?_
  refine s_ald C hV hb (Nat.not_le.mpr hb) hS (i + 3) (by omega) (by omega) (by omega) dL_law_882 ?_
  refine lv_i2l C.1 C.2.1 dL_law_883 rfl ?_
  refine l_ldc2 (n := 4294967295) C dL_law_884 aw_k_L_109 (by decide +kernel) ?_
  refine lv_land C.1 C.2.1 dL_law_887 ?_
  refine lv_lor C.1 C.2.1 dL_law_888 ?_
  obtain ⟨z1, hz1, ez1⟩ := li_of (((ii ((xs (i + 2)).toInt)).toInt64 <<< ((ii 32).toInt64 &&& 63)) ||| (((ii ((xs (i + 3)).toInt)).toInt64) &&& li 4294967295))
  rw [ez1]
  refine lv_aload_n C.1 C.2.1 dL_law_889 rfl (lv_at hl 4 rfl) ?_
  refine lv_iload C.1 C.2.1 dL_law_890 (lv_at hl 0 rfl) ?_
  refine i_const C dL_law_892 ?_
  refine i_add C dL_law_893 ?_
  refine s_ald C hV hb (Nat.not_le.mpr hb) hS (i + 4) (by omega) (by omega) (by omega) dL_law_894 ?_
  refine lv_aload_n C.1 C.2.1 dL_law_895 rfl (lv_at hl 4 rfl) ?_
  refine lv_iload C.1 C.2.1 dL_law_896 (lv_at hl 0 rfl) ?_
  refine i_const C dL_law_898 ?_
  refine i_add C dL_law_899 ?_
  refine s_ald C hV hb (Nat.not_le.mpr hb) hS (i + 5) (by omega) (by omega) (by omega) dL_law_900 ?_
  refine lv_aload_n C.1 C.2.1 dL_law_901 rfl (lv_at hl 1 rfl) ?_
  have hfr := fr_sub (w0 := []) (w1 := (KO ho cL f :: kw)) (w2 := mw) hP hD
  have hFc := fr_free (w0 := []) (w1 := (KO ho cL f :: kw)) (w2 := mw) hS.1 hD
  refine lc_S (As := [.ref hx, .int (ii ((xs (i + 1)).toInt)), .long (li z1), .int (ii ((xs (i + 4)).toInt)), .int (ii ((xs (i + 5)).toInt)), .ref ho]) (rest := []) C (wL_verify l hL D s.heap.size _ hx hr0 hq0 cI cQ n p0 a0 b0 gx gy sec dr ix tx ty kw hKR ho cL f _ _ _ _ (rg_self _) hz1 (rg_self _) (rg_self _)) (pch_pre _ hXc (pcm_pre _ hN (Zs.on hZ hS (fun _ h => h)) hS.1 hfr.1 (hK.sub (tys' := [(cI, .int), (cQ, .int), (cL, .long)]) [0, 1, 6] rfl) hfr.2)) hS hFc aw_h_L_verify aw_m_L_127 aw_s_L_verify aw_i_L ⟨rfl, rfl⟩ 6 (by decide +kernel) rfl ⟨by decide, by decide⟩ hl.1 rfl (Nat.le_of_ble_eq_true rfl) dL_law_902 ⟨by omega, by omega⟩ (fun t H1 locs1 ht hvm _ hB jz1 jk1 hS => ?_)
  obtain ⟨kw1, f1, hKR, hf1, hP1, hK1, hD1⟩ := hB
  rw [ht] at hP1
  obtain ⟨hP, hD⟩ := fr_mid (w0 := []) (w1 := (KO ho cL f :: kw)) (w2 := mw) (w3 := (KO ho cL f1 :: kw1)) hP hD jz1 jk1 hFc hP1 hD1
  refine w_drop hS.2.2 ?_
  have hS := (⟨hS.1, hS.2.1, fun _ h => nomatch h⟩ : va_S (AZ s.heap.size) s.heap H1 [])
  refine lv_istore C.1 C.2.1 dL_law_905 hl (by decide) rfl (fun ls hl => ?_)
  have hl : lv_has ls 8 [(5, .int (ii (gdF (zb n) (nrF (xs (i + 1)).toInt) 0))), (4, .int (ii (i : Int))), (3, .ref ho), (2, .ref hm), (1, .ref hx), (0, .ref b)] := hl
  refine lv_aload_n C.1 C.2.1 dL_law_907 rfl (lv_at hl 3 rfl) ?_
  refine lv_aload_n C.1 C.2.1 dL_law_908 rfl (lv_at hl 5 rfl) ?_
  refine lv_iload C.1 C.2.1 dL_law_909 (lv_at hl 1 rfl) ?_
  refine i_const C dL_law_911 ?_
  refine i_add C dL_law_912 ?_
  refine s_ald C hV hb (Nat.not_le.mpr hb) hS (i + 1) (by omega) (by omega) (by omega) dL_law_913 ?_
  refine lv_aload_n C.1 C.2.1 dL_law_914 rfl (lv_at hl 5 rfl) ?_
  refine lv_iload C.1 C.2.1 dL_law_915 (lv_at hl 1 rfl) ?_
  refine i_const C dL_law_917 ?_
  refine i_add C dL_law_918 ?_
  refine s_ald C hV hb (Nat.not_le.mpr hb) hS (i + 2) (by omega) (by omega) (by omega) dL_law_919 ?_
  refine lv_i2l C.1 C.2.1 dL_law_920 rfl ?_
  refine i_bipush C dL_law_921 (by decide +kernel) ?_
  refine lv_lshl C.1 C.2.1 dL_law_923 rfl ?_
  refine lv_aload_n C.1 C.2.1 dL_law_924 rfl (lv_at hl 5 rfl) ?_
  refine lv_iload C.1 C.2.1 dL_law_925 (lv_at hl 1 rfl) ?_
  refine i_const C dL_law_927 ?_
  refine i_add C dL_law_928 ?_
  refine s_ald C hV hb (Nat.not_le.mpr hb) hS (i + 3) (by omega) (by omega) (by omega) dL_law_929 ?_
  refine lv_i2l C.1 C.2.1 dL_law_930 rfl ?_
  refine l_ldc2 (n := 4294967295) C dL_law_931 aw_k_L_109 (by decide +kernel) ?_
  refine lv_land C.1 C.2.1 dL_law_934 ?_
  refine lv_lor C.1 C.2.1 dL_law_935 ?_
  rw [ez1]
  refine lv_aload_n C.1 C.2.1 dL_law_936 rfl (lv_at hl 5 rfl) ?_
  refine lv_iload C.1 C.2.1 dL_law_937 (lv_at hl 1 rfl) ?_
  refine i_const C dL_law_939 ?_
  refine i_add C dL_law_940 ?_
  refine s_ald C hV hb (Nat.not_le.mpr hb) hS (i + 4) (by omega) (by omega) (by omega) dL_law_941 ?_
  refine lv_aload_n C.1 C.2.1 dL_law_942 rfl (lv_at hl 5 rfl) ?_
  refine lv_iload C.1 C.2.1 dL_law_943 (lv_at hl 1 rfl) ?_
  refine i_const C dL_law_945 ?_
  refine i_add C dL_law_946 ?_
  refine s_ald C hV hb (Nat.not_le.mpr hb) hS (i + 5) (by omega) (by omega) (by omega) dL_law_947 ?_
  obtain ⟨hT, p1, a1, b1, sx, sy, dk, dv, g, rfl⟩ := hMR
  have hfr := fr_sub (w0 := (KO ho cL f1 :: kw1)) (w1 := [(hm, .inr (2, MO p1 a1 b1 n sec dr th hX hY hR hO sx sy dk dv)), MX hX cX tx, MX hY cY ty, MI hR cR ix]) (w2 := [MG hO cO g]) hP hD
  have hFc := fr_free (w0 := (KO ho cL f1 :: kw1)) (w1 := [(hm, .inr (2, MO p1 a1 b1 n sec dr th hX hY hR hO sx sy dk dv)), MX hX cX tx, MX hY cY ty, MI hR cR ix]) (w2 := [MG hO cO g]) hS.1 hD
  refine cn_V (As := [.int (ii ((xs (i + 1)).toInt)), .long (li z1), .int (ii ((xs (i + 4)).toInt)), .int (ii ((xs (i + 5)).toInt))]) (rest := []) C (c_X2_verify l D s.heap.size _ hm p1 a1 b1 n sec dr th hX hY hR hO sx sy dk dv cX cY cR tx ty ix hT hix hnn _ _ _ _ (rg_self _) hz1 (rg_self _) (rg_self _)) (pcm_preV _ hN (Zs.on hZ hS (fun _ h => h)) hS.1 hfr.1 (hK.sub (tys' := [(cX, .int), (cY, .int), (cR, .int)]) [2, 3, 4] rfl) hfr.2 0 (ci := 2) rfl rfl) hS hFc aw_b_X2_verify aw_m_L_130 aw_v_X2_verify aw_i_X2 aw_e_X2_verify ⟨rfl, rfl⟩ 4 (by decide +kernel) rfl ⟨by decide, by decide⟩ hl.1 rfl (Nat.le_of_ble_eq_true rfl) dL_law_948 ⟨by omega, by omega⟩ (fun t H1 locs1 ht hvm _ hB jz1 jk1 hS => ?_)
  obtain ⟨hP1, hK1, hD1⟩ := hB
  rw [ht] at hP1
  obtain ⟨hP, hD⟩ := fr_mid (w0 := (KO ho cL f1 :: kw1)) (w1 := [(hm, .inr (2, MO p1 a1 b1 n sec dr th hX hY hR hO sx sy dk dv)), MX hX cX tx, MX hY cY ty, MI hR cR ix]) (w2 := [MG hO cO g]) (w3 := [(hm, .inr (2, MO p1 a1 b1 n sec dr (gdF (zb n) (nrF (xs (i + 1)).toInt) 0) hX hY hR hO sx sy dk dv)), MX hX cX tx, MX hY cY ty, MI hR cR ix]) hP hD jz1 jk1 hFc hP1 hD1
  refine w_drop hS.2.2 ?_
  have hS := (⟨hS.1, hS.2.1, fun _ h => nomatch h⟩ : va_S (AZ s.heap.size) s.heap H1 [])
  refine lv_istore C.1 C.2.1 dL_law_951 hl (by decide) rfl (fun ls hl => ?_)
  have hl : lv_has ls 8 [(6, .int (ii (veF tx ix n (xs (i + 1)).toInt z1 (xs (i + 4)).toInt (xs (i + 5)).toInt))), (5, .int (ii (gdF (zb n) (nrF (xs (i + 1)).toInt) 0))), (4, .int (ii (i : Int))), (3, .ref ho), (2, .ref hm), (1, .ref hx), (0, .ref b)] := hl
  refine lv_aload_n C.1 C.2.1 dL_law_953 rfl (lv_at hl 4 rfl) ?_
  refine ca_V (As := []) (rest := []) C (c_X2_thrown l D hm p1 a1 b1 n sec dr (gdF (zb n) (nrF (xs (i + 1)).toInt) 0) hX hY hR hO sx sy dk dv) (pcw_preV [] hN (fr_sub (w0 := (KO ho cL f1 :: kw1)) (w1 := [(hm, .inr (2, MO p1 a1 b1 n sec dr (gdF (zb n) (nrF (xs (i + 1)).toInt) 0) hX hY hR hO sx sy dk dv))]) (w2 := [MX hX cX tx, MX hY cY ty, MI hR cR ix, MG hO cO g]) hP hD).1 (hK.sub (tys' := []) [] rfl) 0 (ci := 2) rfl rfl) aw_b_X2_thrown aw_m_L_76 aw_v_X2_thrown aw_i_X2 aw_e_X2_thrown ⟨rfl, rfl⟩ 0 (by decide +kernel) rfl ⟨by decide, by decide⟩ hl.1 rfl (Nat.le_of_ble_eq_true rfl) dL_law_954 ⟨by omega, by omega⟩ ?_
  refine lv_iload C.1 C.2.1 dL_law_957 (lv_at hl 1 rfl) ?_
  refine ic_eq (tgt := 964) C dL_law_959 (by decide) ?_
  refine lv_iload C.1 C.2.1 dL_law_964 (lv_at hl 1 rfl) ?_
  have hbb : veF tx ix n (xs (i + 1)).toInt z1 (xs (i + 4)).toInt (xs (i + 5)).toInt = 0 ∨ veF tx ix n (xs (i + 1)).toInt z1 (xs (i + 4)).toInt (xs (i + 5)).toInt = 1 := by first | exact veb _ _ _ _ _ _ _ | exact vab _ _ _ _ _ _ _ _
  have gb := gdF_b (zb n) (nrF (xs (i + 1)).toInt) 0
  refine i_if_ne (tgt := 988) C dL_law_966 (by decide) ⟨by omega, by omega⟩ (fun hk0 => ?_) (fun hk0 => ?_)
  · refine lv_goto (tgt := 1170) C.1 C.2.1 dL_law_988 (by decide) ?_
    refine W.widen (k := cells + 3) (n := slots + 20) (by omega) (by omega) ?_
    exact kk _ ls ⟨n, p0, a0, b0, gx, gy, sec, (dr), (gdF (zb n) (nrF (xs (i + 1)).toInt) 0), ix, tx, ty, kw1, _, f1, hKR, ⟨hT, p1, a1, b1, sx, sy, dk, dv, g, rfl⟩, hP, hD⟩ hS (lv_sub (l' := [(4, .int (ii (i : Int))), (3, .ref ho), (2, .ref hm), (1, .ref hx), (0, .ref b)]) hl [2, 3, 4, 5, 6] rfl)
  · refine lv_aload_n C.1 C.2.1 dL_law_969 rfl (lv_at hl 3 rfl) ?_
    refine i_const C dL_law_970 ?_
    refine l_ald0 C hK hP 0 6 rfl rfl dL_law_971 ?_
    rw [hf1 (Classical.not_not.mp hk0)]
    refine lv_iload C.1 C.2.1 dL_law_972 (lv_at hl 0 rfl) ?_
    refine i_if_eq (tgt := 981) C dL_law_974 (by decide) ⟨by omega, by omega⟩ (fun hb0 => ?_) (fun hb0 => ?_)
    · rw [hb0]
      refine l_const0 C dL_law_981 ?_
      refine l_cmpS C dL_law_982 ?_
      refine i_if_eq (tgt := 988) C dL_law_983 (by decide) ⟨by omega, by omega⟩ (fun _ => ?_) (fun z => absurd rfl z)
      refine lv_goto (tgt := 1170) C.1 C.2.1 dL_law_988 (by decide) ?_
      refine W.widen (k := cells + 3) (n := slots + 20) (by omega) (by omega) ?_
      exact kk _ ls ⟨n, p0, a0, b0, gx, gy, sec, (dr), (gdF (zb n) (nrF (xs (i + 1)).toInt) 0), ix, tx, ty, kw1, _, f1, hKR, ⟨hT, p1, a1, b1, sx, sy, dk, dv, g, rfl⟩, hP, hD⟩ hS (lv_sub (l' := [(4, .int (ii (i : Int))), (3, .ref ho), (2, .ref hm), (1, .ref hx), (0, .ref b)]) hl [2, 3, 4, 5, 6] rfl)
    · rw [show veF tx ix n (xs (i + 1)).toInt z1 (xs (i + 4)).toInt (xs (i + 5)).toInt = 1 from hbb.resolve_left hb0]
      refine l_const1 C dL_law_977 ?_
      refine lv_goto (tgt := 982) C.1 C.2.1 dL_law_978 (by decide) ?_
      refine l_cmpS C dL_law_982 ?_
      refine i_if_eq (tgt := 988) C dL_law_983 (by decide) ⟨by omega, by omega⟩ (fun _ => ?_) (fun z => absurd rfl z)
      refine lv_goto (tgt := 1170) C.1 C.2.1 dL_law_988 (by decide) ?_
      refine W.widen (k := cells + 3) (n := slots + 20) (by omega) (by omega) ?_
      exact kk _ ls ⟨n, p0, a0, b0, gx, gy, sec, (dr), (gdF (zb n) (nrF (xs (i + 1)).toInt) 0), ix, tx, ty, kw1, _, f1, hKR, ⟨hT, p1, a1, b1, sx, sy, dk, dv, g, rfl⟩, hP, hD⟩ hS (lv_sub (l' := [(4, .int (ii (i : Int))), (3, .ref ho), (2, .ref hm), (1, .ref hx), (0, .ref b)]) hl [2, 3, 4, 5, 6] rfl)
set_option maxRecDepth 100000 in
set_option maxHeartbeats 4000000 in
theorem lw_accepts (hC : LwC p l s m c b L xs) (hK : va_K D clX [(cI, .int), (cQ, .int), (cX, .int), (cY, .int), (cR, .int), (cO, .int), (cL, .long)] s) {H : Heap} (hI : LI D s.heap.size hx hr0 hq0 cI cQ hm hX hY hR hO cX cY cR cO ho cL H) (hS : va_S (AZ s.heap.size) s.heap H []) {i : Nat} (hi : i + 8 ≤ L) {cells slots : Nat} (hcs : cells + 3 ≤ room_1.cells ∧ slots + 20 ≤ room_1.slots) {ls : Array Slot} (hl : lv_has ls 8 [(4, .int (ii (i : Int))), (3, .ref ho), (2, .ref hm), (1, .ref hx), (0, .ref b)])
    (kk : ∀ (H1 : Heap) (ls : Array Slot), LI D s.heap.size hx hr0 hq0 cI cQ hm hX hY hR hO cX cY cR cO ho cL H1 → va_S (AZ s.heap.size) s.heap H1 [] → lv_has ls 8 [(4, .int (ii (i : Int))), (3, .ref ho), (2, .ref hm), (1, .ref hx), (0, .ref b)] → W p l e room_1 s m #[Value.ref b] below meth c H1 [] (cells + 3) (slots + 20) Q (F0 m 1170 ls [])) : W p l e room_1 s m #[Value.ref b] below meth c H [] cells slots Q (F0 m 991 ls []) := by
  obtain ⟨hL, C, hN, hXc, hZ, hV, hb, hLn⟩ := hC
  obtain ⟨n, p0, a0, b0, gx, gy, sec, dr, th, ix, tx, ty, kw, mw, f, hKR, hMR, hP, hD⟩ := hI
  have hix := hKR.ixle
  have hnn := hKR.nle
  have hsec := hKR.secle
  refine lv_aload_n C.1 C.2.1 dL_law_991 rfl (lv_at hl 3 rfl) ?_
  refine lv_aload_n C.1 C.2.1 dL_law_992 rfl (lv_at hl 4 rfl) ?_
  refine lv_iload C.1 C.2.1 dL_law_993 (lv_at hl 0 rfl) ?_
  refine i_const C dL_law_995 ?_
  refine i_add C dL_law_996 ?_
  refine s_ald C hV hb (Nat.not_le.mpr hb) hS (i + 1) (by omega) (by omega) (by omega) dL_law_997 ?_
  refine lv_aload_n C.1 C.2.1 dL_law_998 rfl (lv_at hl 4 rfl) ?_
  refine lv_iload C.1 C.2.1 dL_law_999 (lv_at hl 0 rfl) ?_
  refine i_const C dL_law_1001 ?_
  refine i_add C dL_law_1002 ?_
  refine s_ald C hV hb (Nat.not_le.mpr hb) hS (i + 2) (by omega) (by omega) (by omega) dL_law_1003 ?_
  refine lv_i2l C.1 C.2.1 dL_law_1004 rfl ?_
  refine i_bipush C dL_law_1005 (by decide +kernel) ?_
  refine lv_lshl C.1 C.2.1 dL_law_1007 rfl ?_
  refine lv_aload_n C.1 C.2.1 dL_law_1008 rfl (lv_at hl 4 rfl) ?_
  refine lv_iload C.1 C.2.1 dL_law_1009 (lv_at hl 0 rfl) ?_
  refine i_const C dL_law_1011 ?_
  refine i_add C dL_law_1012 ?_
  refine s_ald C hV hb (Nat.not_le.mpr hb) hS (i + 3) (by omega) (by omega) (by omega) dL_law_1013 ?_
  refine lv_i2l C.1 C.2.1 dL_law_1014 rfl ?_
  refine l_ldc2 (n := 4294967295) C dL_law_1015 aw_k_L_109 (by decide +kernel) ?_
  refine lv_land C.1 C.2.1 dL_law_1018 ?_
  refine lv_lor C.1 C.2.1 dL_law_1019 ?_
  obtain ⟨z1, hz1, ez1⟩ := li_of (((ii ((xs (i + 2)).toInt)).toInt64 <<< ((ii 32).toInt64 &&& 63)) ||| (((ii ((xs (i + 3)).toInt)).toInt64) &&& li 4294967295))
  rw [ez1]
  refine lv_aload_n C.1 C.2.1 dL_law_1020 rfl (lv_at hl 4 rfl) ?_
  refine lv_iload C.1 C.2.1 dL_law_1021 (lv_at hl 0 rfl) ?_
  refine i_const C dL_law_1023 ?_
  refine i_add C dL_law_1024 ?_
  refine s_ald C hV hb (Nat.not_le.mpr hb) hS (i + 4) (by omega) (by omega) (by omega) dL_law_1025 ?_
  refine lv_i2l C.1 C.2.1 dL_law_1026 rfl ?_
  refine i_bipush C dL_law_1027 (by decide +kernel) ?_
  refine lv_lshl C.1 C.2.1 dL_law_1029 rfl ?_
  refine lv_aload_n C.1 C.2.1 dL_law_1030 rfl (lv_at hl 4 rfl) ?_
  refine lv_iload C.1 C.2.1 dL_law_1031 (lv_at hl 0 rfl) ?_
  refine i_const C dL_law_1033 ?_
  refine i_add C dL_law_1034 ?_
  refine s_ald C hV hb (Nat.not_le.mpr hb) hS (i + 5) (by omega) (by omega) (by omega) dL_law_1035 ?_
  refine lv_i2l C.1 C.2.1 dL_law_1036 rfl ?_
  refine l_ldc2 (n := 4294967295) C dL_law_1037 aw_k_L_109 (by decide +kernel) ?_
  refine lv_land C.1 C.2.1 dL_law_1040 ?_
  refine lv_lor C.1 C.2.1 dL_law_1041 ?_
  obtain ⟨z2, hz2, ez2⟩ := li_of (((ii ((xs (i + 4)).toInt)).toInt64 <<< ((ii 32).toInt64 &&& 63)) ||| (((ii ((xs (i + 5)).toInt)).toInt64) &&& li 4294967295))
  rw [ez2]
  refine lv_aload_n C.1 C.2.1 dL_law_1042 rfl (lv_at hl 4 rfl) ?_
  refine lv_iload C.1 C.2.1 dL_law_1043 (lv_at hl 0 rfl) ?_
  refine i_bipush C dL_law_1045 (by decide +kernel) ?_
  refine i_add C dL_law_1047 ?_
  refine s_ald C hV hb (Nat.not_le.mpr hb) hS (i + 6) (by omega) (by omega) (by omega) dL_law_1048 ?_
  refine lv_aload_n C.1 C.2.1 dL_law_1049 rfl (lv_at hl 4 rfl) ?_
  refine lv_iload C.1 C.2.1 dL_law_1050 (lv_at hl 0 rfl) ?_
  refine i_bipush C dL_law_1052 (by decide +kernel) ?_
  refine i_add C dL_law_1054 ?_
  refine s_ald C hV hb (Nat.not_le.mpr hb) hS (i + 7) (by omega) (by omega) (by omega) dL_law_1055 ?_
  refine lv_aload_n C.1 C.2.1 dL_law_1056 rfl (lv_at hl 1 rfl) ?_
  have hfr := fr_sub (w0 := []) (w1 := (KO ho cL f :: kw)) (w2 := mw) hP hD
  have hFc := fr_free (w0 := []) (w1 := (KO ho cL f :: kw)) (w2 := mw) hS.1 hD
  refine lc_S (As := [.ref hx, .int (ii ((xs (i + 1)).toInt)), .long (li z1), .long (li z2), .int (ii ((xs (i + 6)).toInt)), .int (ii ((xs (i + 7)).toInt)), .ref ho]) (rest := []) C (wL_accepts l hL D s.heap.size _ hx hr0 hq0 cI cQ n p0 a0 b0 gx gy sec dr ix tx ty kw hKR ho cL f _ _ _ _ _ (rg_self _) hz1 hz2 (rg_self _) (rg_self _)) (pch_pre _ hXc (pcm_pre _ hN (Zs.on hZ hS (fun _ h => h)) hS.1 hfr.1 (hK.sub (tys' := [(cI, .int), (cQ, .int), (cL, .long)]) [0, 1, 6] rfl) hfr.2)) hS hFc aw_h_L_accepts aw_m_L_131 aw_s_L_accepts aw_i_L ⟨rfl, rfl⟩ 7 (by decide +kernel) rfl ⟨by decide, by decide⟩ hl.1 rfl (Nat.le_of_ble_eq_true rfl) dL_law_1057 ⟨by omega, by omega⟩ (fun t H1 locs1 ht hvm _ hB jz1 jk1 hS => ?_)
  obtain ⟨kw1, f1, hKR, hf1, hP1, hK1, hD1⟩ := hB
  rw [ht] at hP1
  obtain ⟨hP, hD⟩ := fr_mid (w0 := []) (w1 := (KO ho cL f :: kw)) (w2 := mw) (w3 := (KO ho cL f1 :: kw1)) hP hD jz1 jk1 hFc hP1 hD1
  refine w_drop hS.2.2 ?_
  have hS := (⟨hS.1, hS.2.1, fun _ h => nomatch h⟩ : va_S (AZ s.heap.size) s.heap H1 [])
  refine lv_istore C.1 C.2.1 dL_law_1060 hl (by decide) rfl (fun ls hl => ?_)
  have hl : lv_has ls 8 [(5, .int (ii (gdF (zb n) 0 0))), (4, .int (ii (i : Int))), (3, .ref ho), (2, .ref hm), (1, .ref hx), (0, .ref b)] := hl
  refine lv_aload_n C.1 C.2.1 dL_law_1062 rfl (lv_at hl 3 rfl) ?_
  refine lv_aload_n C.1 C.2.1 dL_law_1063 rfl (lv_at hl 5 rfl) ?_
  refine lv_iload C.1 C.2.1 dL_law_1064 (lv_at hl 1 rfl) ?_
  refine i_const C dL_law_1066 ?_
  refine i_add C dL_law_1067 ?_
  refine s_ald C hV hb (Nat.not_le.mpr hb) hS (i + 1) (by omega) (by omega) (by omega) dL_law_1068 ?_
  refine lv_aload_n C.1 C.2.1 dL_law_1069 rfl (lv_at hl 5 rfl) ?_
  refine lv_iload C.1 C.2.1 dL_law_1070 (lv_at hl 1 rfl) ?_
  refine i_const C dL_law_1072 ?_
  refine i_add C dL_law_1073 ?_
  refine s_ald C hV hb (Nat.not_le.mpr hb) hS (i + 2) (by omega) (by omega) (by omega) dL_law_1074 ?_
  refine lv_i2l C.1 C.2.1 dL_law_1075 rfl ?_
  refine i_bipush C dL_law_1076 (by decide +kernel) ?_
  refine lv_lshl C.1 C.2.1 dL_law_1078 rfl ?_
  refine lv_aload_n C.1 C.2.1 dL_law_1079 rfl (lv_at hl 5 rfl) ?_
  refine lv_iload C.1 C.2.1 dL_law_1080 (lv_at hl 1 rfl) ?_
  refine i_const C dL_law_1082 ?_
  refine i_add C dL_law_1083 ?_
  refine s_ald C hV hb (Nat.not_le.mpr hb) hS (i + 3) (by omega) (by omega) (by omega) dL_law_1084 ?_
  refine lv_i2l C.1 C.2.1 dL_law_1085 rfl ?_
  refine l_ldc2 (n := 4294967295) C dL_law_1086 aw_k_L_109 (by decide +kernel) ?_
  refine lv_land C.1 C.2.1 dL_law_1089 ?_
  refine lv_lor C.1 C.2.1 dL_law_1090 ?_
  rw [ez1]
  refine lv_aload_n C.1 C.2.1 dL_law_1091 rfl (lv_at hl 5 rfl) ?_
  refine lv_iload C.1 C.2.1 dL_law_1092 (lv_at hl 1 rfl) ?_
  refine i_const C dL_law_1094 ?_
  refine i_add C dL_law_1095 ?_
  refine s_ald C hV hb (Nat.not_le.mpr hb) hS (i + 4) (by omega) (by omega) (by omega) dL_law_1096 ?_
  refine lv_i2l C.1 C.2.1 dL_law_1097 rfl ?_
  refine i_bipush C dL_law_1098 (by decide +kernel) ?_
  refine lv_lshl C.1 C.2.1 dL_law_1100 rfl ?_
  refine lv_aload_n C.1 C.2.1 dL_law_1101 rfl (lv_at hl 5 rfl) ?_
  refine lv_iload C.1 C.2.1 dL_law_1102 (lv_at hl 1 rfl) ?_
  refine i_const C dL_law_1104 ?_
  refine i_add C dL_law_1105 ?_
  refine s_ald C hV hb (Nat.not_le.mpr hb) hS (i + 5) (by omega) (by omega) (by omega) dL_law_1106 ?_
  refine lv_i2l C.1 C.2.1 dL_law_1107 rfl ?_
  refine l_ldc2 (n := 4294967295) C dL_law_1108 aw_k_L_109 (by decide +kernel) ?_
  refine lv_land C.1 C.2.1 dL_law_1111 ?_
  refine lv_lor C.1 C.2.1 dL_law_1112 ?_
  rw [ez2]
  refine lv_aload_n C.1 C.2.1 dL_law_1113 rfl (lv_at hl 5 rfl) ?_
  refine lv_iload C.1 C.2.1 dL_law_1114 (lv_at hl 1 rfl) ?_
  refine i_bipush C dL_law_1116 (by decide +kernel) ?_
  refine i_add C dL_law_1118 ?_
  refine s_ald C hV hb (Nat.not_le.mpr hb) hS (i + 6) (by omega) (by omega) (by omega) dL_law_1119 ?_
  refine lv_aload_n C.1 C.2.1 dL_law_1120 rfl (lv_at hl 5 rfl) ?_
  refine lv_iload C.1 C.2.1 dL_law_1121 (lv_at hl 1 rfl) ?_
  refine i_bipush C dL_law_1123 (by decide +kernel) ?_
  refine i_add C dL_law_1125 ?_
  refine s_ald C hV hb (Nat.not_le.mpr hb) hS (i + 7) (by omega) (by omega) (by omega) dL_law_1126 ?_
  obtain ⟨hT, p1, a1, b1, sx, sy, dk, dv, g, rfl⟩ := hMR
  have hfr := fr_sub (w0 := (KO ho cL f1 :: kw1)) (w1 := [(hm, .inr (2, MO p1 a1 b1 n sec dr th hX hY hR hO sx sy dk dv)), MX hX cX tx, MX hY cY ty, MI hR cR ix]) (w2 := [MG hO cO g]) hP hD
  have hFc := fr_free (w0 := (KO ho cL f1 :: kw1)) (w1 := [(hm, .inr (2, MO p1 a1 b1 n sec dr th hX hY hR hO sx sy dk dv)), MX hX cX tx, MX hY cY ty, MI hR cR ix]) (w2 := [MG hO cO g]) hS.1 hD
  refine cn_V (As := [.int (ii ((xs (i + 1)).toInt)), .long (li z1), .long (li z2), .int (ii ((xs (i + 6)).toInt)), .int (ii ((xs (i + 7)).toInt))]) (rest := []) C (c_X2_accepts l D s.heap.size _ hm p1 a1 b1 n sec dr th hX hY hR hO sx sy dk dv cX cY cR tx ty ix hT hix hnn _ _ _ _ _ (rg_self _) hz1 hz2 (rg_self _) (rg_self _)) (pcm_preV _ hN (Zs.on hZ hS (fun _ h => h)) hS.1 hfr.1 (hK.sub (tys' := [(cX, .int), (cY, .int), (cR, .int)]) [2, 3, 4] rfl) hfr.2 0 (ci := 2) rfl rfl) hS hFc aw_b_X2_accepts aw_m_L_134 aw_v_X2_accepts aw_i_X2 aw_e_X2_accepts ⟨rfl, rfl⟩ 5 (by decide +kernel) rfl ⟨by decide, by decide⟩ hl.1 rfl (Nat.le_of_ble_eq_true rfl) dL_law_1127 ⟨by omega, by omega⟩ (fun t H1 locs1 ht hvm _ hB jz1 jk1 hS => ?_)
  obtain ⟨hP1, hK1, hD1⟩ := hB
  rw [ht] at hP1
  obtain ⟨hP, hD⟩ := fr_mid (w0 := (KO ho cL f1 :: kw1)) (w1 := [(hm, .inr (2, MO p1 a1 b1 n sec dr th hX hY hR hO sx sy dk dv)), MX hX cX tx, MX hY cY ty, MI hR cR ix]) (w2 := [MG hO cO g]) (w3 := [(hm, .inr (2, MO p1 a1 b1 n sec dr (gdF (zb n) 0 0) hX hY hR hO sx sy dk dv)), MX hX cX tx, MX hY cY ty, MI hR cR ix]) hP hD jz1 jk1 hFc hP1 hD1
  refine w_drop hS.2.2 ?_
  have hS := (⟨hS.1, hS.2.1, fun _ h => nomatch h⟩ : va_S (AZ s.heap.size) s.heap H1 [])
  refine lv_istore C.1 C.2.1 dL_law_1130 hl (by decide) rfl (fun ls hl => ?_)
  have hl : lv_has ls 8 [(6, .int (ii (vaF tx ty n (xs (i + 1)).toInt z1 z2 (xs (i + 6)).toInt (xs (i + 7)).toInt))), (5, .int (ii (gdF (zb n) 0 0))), (4, .int (ii (i : Int))), (3, .ref ho), (2, .ref hm), (1, .ref hx), (0, .ref b)] := hl
  refine lv_aload_n C.1 C.2.1 dL_law_1132 rfl (lv_at hl 4 rfl) ?_
  refine ca_V (As := []) (rest := []) C (c_X2_thrown l D hm p1 a1 b1 n sec dr (gdF (zb n) 0 0) hX hY hR hO sx sy dk dv) (pcw_preV [] hN (fr_sub (w0 := (KO ho cL f1 :: kw1)) (w1 := [(hm, .inr (2, MO p1 a1 b1 n sec dr (gdF (zb n) 0 0) hX hY hR hO sx sy dk dv))]) (w2 := [MX hX cX tx, MX hY cY ty, MI hR cR ix, MG hO cO g]) hP hD).1 (hK.sub (tys' := []) [] rfl) 0 (ci := 2) rfl rfl) aw_b_X2_thrown aw_m_L_76 aw_v_X2_thrown aw_i_X2 aw_e_X2_thrown ⟨rfl, rfl⟩ 0 (by decide +kernel) rfl ⟨by decide, by decide⟩ hl.1 rfl (Nat.le_of_ble_eq_true rfl) dL_law_1133 ⟨by omega, by omega⟩ ?_
  refine lv_iload C.1 C.2.1 dL_law_1136 (lv_at hl 1 rfl) ?_
  refine ic_eq (tgt := 1143) C dL_law_1138 (by decide) ?_
  refine lv_iload C.1 C.2.1 dL_law_1143 (lv_at hl 1 rfl) ?_
  have hbb : vaF tx ty n (xs (i + 1)).toInt z1 z2 (xs (i + 6)).toInt (xs (i + 7)).toInt = 0 ∨ vaF tx ty n (xs (i + 1)).toInt z1 z2 (xs (i + 6)).toInt (xs (i + 7)).toInt = 1 := by first | exact veb _ _ _ _ _ _ _ | exact vab _ _ _ _ _ _ _ _
  have gb := gdF_b (zb n) 0 0
  refine i_if_ne (tgt := 1167) C dL_law_1145 (by decide) ⟨by omega, by omega⟩ (fun hk0 => ?_) (fun hk0 => ?_)
  · refine lv_goto (tgt := 1170) C.1 C.2.1 dL_law_1167 (by decide) ?_
    refine W.widen (k := cells + 3) (n := slots + 20) (by omega) (by omega) ?_
    exact kk _ ls ⟨n, p0, a0, b0, gx, gy, sec, (dr), (gdF (zb n) 0 0), ix, tx, ty, kw1, _, f1, hKR, ⟨hT, p1, a1, b1, sx, sy, dk, dv, g, rfl⟩, hP, hD⟩ hS (lv_sub (l' := [(4, .int (ii (i : Int))), (3, .ref ho), (2, .ref hm), (1, .ref hx), (0, .ref b)]) hl [2, 3, 4, 5, 6] rfl)
  · refine lv_aload_n C.1 C.2.1 dL_law_1148 rfl (lv_at hl 3 rfl) ?_
    refine i_const C dL_law_1149 ?_
    refine l_ald0 C hK hP 0 6 rfl rfl dL_law_1150 ?_
    rw [hf1 (Classical.not_not.mp hk0)]
    refine lv_iload C.1 C.2.1 dL_law_1151 (lv_at hl 0 rfl) ?_
    refine i_if_eq (tgt := 1160) C dL_law_1153 (by decide) ⟨by omega, by omega⟩ (fun hb0 => ?_) (fun hb0 => ?_)
    · rw [hb0]
      refine l_const0 C dL_law_1160 ?_
      refine l_cmpS C dL_law_1161 ?_
      refine i_if_eq (tgt := 1167) C dL_law_1162 (by decide) ⟨by omega, by omega⟩ (fun _ => ?_) (fun z => absurd rfl z)
      refine lv_goto (tgt := 1170) C.1 C.2.1 dL_law_1167 (by decide) ?_
      refine W.widen (k := cells + 3) (n := slots + 20) (by omega) (by omega) ?_
      exact kk _ ls ⟨n, p0, a0, b0, gx, gy, sec, (dr), (gdF (zb n) 0 0), ix, tx, ty, kw1, _, f1, hKR, ⟨hT, p1, a1, b1, sx, sy, dk, dv, g, rfl⟩, hP, hD⟩ hS (lv_sub (l' := [(4, .int (ii (i : Int))), (3, .ref ho), (2, .ref hm), (1, .ref hx), (0, .ref b)]) hl [2, 3, 4, 5, 6] rfl)
    · rw [show vaF tx ty n (xs (i + 1)).toInt z1 z2 (xs (i + 6)).toInt (xs (i + 7)).toInt = 1 from hbb.resolve_left hb0]
      refine l_const1 C dL_law_1156 ?_
      refine lv_goto (tgt := 1161) C.1 C.2.1 dL_law_1157 (by decide) ?_
      refine l_cmpS C dL_law_1161 ?_
      refine i_if_eq (tgt := 1167) C dL_law_1162 (by decide) ⟨by omega, by omega⟩ (fun _ => ?_) (fun z => absurd rfl z)
      refine lv_goto (tgt := 1170) C.1 C.2.1 dL_law_1167 (by decide) ?_
      refine W.widen (k := cells + 3) (n := slots + 20) (by omega) (by omega) ?_
      exact kk _ ls ⟨n, p0, a0, b0, gx, gy, sec, (dr), (gdF (zb n) 0 0), ix, tx, ty, kw1, _, f1, hKR, ⟨hT, p1, a1, b1, sx, sy, dk, dv, g, rfl⟩, hP, hD⟩ hS (lv_sub (l' := [(4, .int (ii (i : Int))), (3, .ref ho), (2, .ref hm), (1, .ref hx), (0, .ref b)]) hl [2, 3, 4, 5, 6] rfl)
end Lw
