/-! The law: base, order, draws. By wip/whole/tools/gen25.py. -/
section Lw
variable {p : Program} {l : Launch} {e : Env} {s : State} {m : MethodId} {below : List Frame} {meth : Method} {c : Code} {b L : Nat} {xs : Nat → Int32} {D : va_G} {hx hr0 hq0 : Nat} {cI cQ : ClassId} {hm hX hY hR hO : Nat} {cX cY cR cO : ClassId} {ho : Nat} {cL : ClassId} {Q : State → Prop}
set_option maxRecDepth 100000 in
set_option maxHeartbeats 4000000 in
theorem lw_base (hC : LwC p l s m c b L xs) (hK : va_K D clX [(cI, .int), (cQ, .int), (cX, .int), (cY, .int), (cR, .int), (cO, .int), (cL, .long)] s) {H : Heap} (hI : LI D s.heap.size hx hr0 hq0 cI cQ hm hX hY hR hO cX cY cR cO ho cL H) (hS : va_S (AZ s.heap.size) s.heap H []) {i : Nat} (hi : i + 8 ≤ L) {cells slots : Nat} (hcs : cells + 3 ≤ room_1.cells ∧ slots + 20 ≤ room_1.slots) {ls : Array Slot} (hl : lv_has ls 8 [(4, .int (ii (i : Int))), (3, .ref ho), (2, .ref hm), (1, .ref hx), (0, .ref b)])
    (kk : ∀ (H1 : Heap) (ls : Array Slot), LI D s.heap.size hx hr0 hq0 cI cQ hm hX hY hR hO cX cY cR cO ho cL H1 → va_S (AZ s.heap.size) s.heap H1 [] → lv_has ls 8 [(4, .int (ii (i : Int))), (3, .ref ho), (2, .ref hm), (1, .ref hx), (0, .ref b)] → W p l e room_1 s m #[Value.ref b] below meth c H1 [] (cells + 3) (slots + 20) Q (F0 m 1170 ls [])) : W p l e room_1 s m #[Value.ref b] below meth c H [] cells slots Q (F0 m 269 ls []) := by
  obtain ⟨hL, C, hN, hXc, hZ, hV, hb, hLn⟩ := hC
  obtain ⟨n, p0, a0, b0, gx, gy, sec, dr, th, ix, tx, ty, kw, mw, f, hKR, hMR, hP, hD⟩ := hI
  have hix := hKR.ixle
  have hnn := hKR.nle
  have hsec := hKR.secle
  refine lv_aload_n C.1 C.2.1 dL_law_269 rfl (lv_at hl 3 rfl) ?_
  refine lv_aload_n C.1 C.2.1 dL_law_270 rfl (lv_at hl 4 rfl) ?_
  refine lv_iload C.1 C.2.1 dL_law_271 (lv_at hl 0 rfl) ?_
  refine i_const C dL_law_273 ?_
  refine i_add C dL_law_274 ?_
  refine s_ald C hV hb (Nat.not_le.mpr hb) hS (i + 1) (by omega) (by omega) (by omega) dL_law_275 ?_
  have hfr := fr_sub (w0 := [KO ho cL f]) (w1 := kw) (w2 := mw) hP hD
  have hFc := fr_free (w0 := [KO ho cL f]) (w1 := kw) (w2 := mw) hS.1 hD
  refine lc_S (As := [.ref hx, .int (ii ((xs (i + 1)).toInt))]) (rest := []) C (wL_base l hL D s.heap.size _ hx hr0 hq0 cI cQ n p0 a0 b0 gx gy sec dr ix tx ty kw hKR _ (rg_self _)) (pch_pre _ hXc (pcm_pre _ hN (Zs.on hZ hS (fun _ h => h)) hS.1 hfr.1 (hK.sub (tys' := [(cI, .int), (cQ, .int)]) [0, 1] rfl) hfr.2)) hS hFc aw_h_L_base aw_m_L_88 aw_s_L_base aw_i_L ⟨rfl, rfl⟩ 2 (by decide +kernel) rfl ⟨by decide, by decide⟩ hl.1 rfl (Nat.le_of_ble_eq_true rfl) dL_law_276 ⟨by omega, by omega⟩ (fun t H1 locs1 ht hvm _ hB jz1 jk1 hS => ?_)
  obtain ⟨kw1, hKR, hP1, hK1, hD1⟩ := hB
  rw [ht] at hP1
  obtain ⟨hP, hD⟩ := fr_mid (w0 := [KO ho cL f]) (w1 := kw) (w2 := mw) (w3 := kw1) hP hD jz1 jk1 hFc hP1 hD1
  refine w_drop hS.2.2 ?_
  have hS := (⟨hS.1, hS.2.1, fun _ h => nomatch h⟩ : va_S (AZ s.heap.size) s.heap H1 [])
  refine lv_istore C.1 C.2.1 dL_law_279 hl (by decide) rfl (fun ls hl => ?_)
  have hl : lv_has ls 8 [(5, .int (ii (gdF (zb n) (nrF (xs (i + 1)).toInt) 0))), (4, .int (ii (i : Int))), (3, .ref ho), (2, .ref hm), (1, .ref hx), (0, .ref b)] := hl
  refine lv_aload_n C.1 C.2.1 dL_law_281 rfl (lv_at hl 3 rfl) ?_
  refine lv_aload_n C.1 C.2.1 dL_law_282 rfl (lv_at hl 5 rfl) ?_
  refine lv_iload C.1 C.2.1 dL_law_283 (lv_at hl 1 rfl) ?_
  refine i_const C dL_law_285 ?_
  refine i_add C dL_law_286 ?_
  refine s_ald C hV hb (Nat.not_le.mpr hb) hS (i + 1) (by omega) (by omega) (by omega) dL_law_287 ?_
  obtain ⟨hT, p1, a1, b1, sx, sy, dk, dv, g, rfl⟩ := hMR
  have hPn : va_P D clX ((KO ho cL f :: kw1) ++ ([(hm, .inr (2, MO p1 a1 b1 n sec dr th hX hY hR hO sx sy dk dv)), MX hX cX tx, MX hY cY ty, MI hR cR ix, MG hO cO g] ++ [])) H1 := hP
  have hDn : va_D (AZ s.heap.size) ((KO ho cL f :: kw1) ++ ([(hm, .inr (2, MO p1 a1 b1 n sec dr th hX hY hR hO sx sy dk dv)), MX hX cX tx, MX hY cY ty, MI hR cR ix, MG hO cO g] ++ [])) := hD
  obtain ⟨hP2, hD2⟩ := fr_sub (w0 := (KO ho cL f :: kw1)) (w1 := [(hm, .inr (2, MO p1 a1 b1 n sec dr th hX hY hR hO sx sy dk dv)), MX hX cX tx, MX hY cY ty, MI hR cR ix, MG hO cO g]) (w2 := []) hPn hDn
  have hFr := fr_free (w0 := (KO ho cL f :: kw1)) (w1 := [(hm, .inr (2, MO p1 a1 b1 n sec dr th hX hY hR hO sx sy dk dv)), MX hX cX tx, MX hY cY ty, MI hR cR ix, MG hO cO g]) (w2 := []) hS.1 hDn
  have hfr := And.intro (hP2.sub (ws' := [(hm, .inr (2, MO p1 a1 b1 n sec dr th hX hY hR hO sx sy dk dv)), MI hR cR ix]) [0, 3] rfl) (hD2.sub (ws' := [(hm, .inr (2, MO p1 a1 b1 n sec dr th hX hY hR hO sx sy dk dv)), MI hR cR ix]) [0, 3] (by decide) rfl)
  have hsub : ∀ q, va_A [(hm, .inr (2, MO p1 a1 b1 n sec dr th hX hY hR hO sx sy dk dv)), MI hR cR ix] H1.size q → va_A [(hm, .inr (2, MO p1 a1 b1 n sec dr th hX hY hR hO sx sy dk dv)), MX hX cX tx, MX hY cY ty, MI hR cR ix, MG hO cO g] H1.size q := va_free (A0 := va_A [(hm, .inr (2, MO p1 a1 b1 n sec dr th hX hY hR hO sx sy dk dv)), MX hX cX tx, MX hY cY ty, MI hR cR ix, MG hO cO g] H1.size) (H0 := H1) (H := H1) (locs := []) (wc := [(hm, .inr (2, MO p1 a1 b1 n sec dr th hX hY hR hO sx sy dk dv)), MI hR cR ix]) hD2.self va_S.rf (fun _ h => Or.inr h) [0, 3] rfl
  refine cn_V (As := [.int (ii ((xs (i + 1)).toInt))]) (rest := []) C (c_X2_base l D s.heap.size _ hm p1 a1 b1 n sec dr th hX hY hR hO sx sy dk dv cR ix hnn _ (rg_self _)) (pcm_preV _ hN (Zs.on hZ hS (fun _ h => h)) hS.1 hfr.1 (hK.sub (tys' := [(cR, .int)]) [4] rfl) hfr.2 0 (ci := 2) rfl rfl) hS (fun q h => hFr q (hsub q h)) aw_b_X2_base aw_m_L_91 aw_v_X2_base aw_i_X2 aw_e_X2_base ⟨rfl, rfl⟩ 1 (by decide +kernel) rfl ⟨by decide, by decide⟩ hl.1 rfl (Nat.le_of_ble_eq_true rfl) dL_law_288 ⟨by omega, by omega⟩ (fun t H2 locs1 ht hvm _ hB jz1 jk1 hS => ?_)
  obtain ⟨hP1, hK1, hD1⟩ := hB
  rw [ht] at hP1
  obtain ⟨hP3, hD3⟩ := va_join (wr := [MX hX cX tx, MX hY cY ty, MG hO cO g]) (w1 := [(hm, .inr (2, MO p1 a1 b1 n sec dr (gdF (zb n) (nrF (xs (i + 1)).toInt) 0) hX hY hR hO sx sy dk dv)), MI hR cR (if gdF (zb n) (nrF (xs (i + 1)).toInt) 0 = 0 then va_up ix (xs (i + 1)).toInt.toNat 1 else ix)]) hP2 (hD2.self (sz := H1.size)) [0, 3] [1, 2, 4] rfl rfl (by decide) (by decide) jk1 hsub hP1 hD1
  have hP3 := hP3.sub (ws' := [(hm, .inr (2, MO p1 a1 b1 n sec dr (gdF (zb n) (nrF (xs (i + 1)).toInt) 0) hX hY hR hO sx sy dk dv)), MX hX cX tx, MX hY cY ty, MI hR cR (if gdF (zb n) (nrF (xs (i + 1)).toInt) 0 = 0 then va_up ix (xs (i + 1)).toInt.toNat 1 else ix), MG hO cO g]) [3, 0, 1, 4, 2] rfl
  have hD3 := hD3.sub (ws' := [(hm, .inr (2, MO p1 a1 b1 n sec dr (gdF (zb n) (nrF (xs (i + 1)).toInt) 0) hX hY hR hO sx sy dk dv)), MX hX cX tx, MX hY cY ty, MI hR cR (if gdF (zb n) (nrF (xs (i + 1)).toInt) 0 = 0 then va_up ix (xs (i + 1)).toInt.toNat 1 else ix), MG hO cO g]) [3, 0, 1, 4, 2] (by decide) rfl
  obtain ⟨hP, hD⟩ := fr_mid (w0 := (KO ho cL f :: kw1)) (w1 := [(hm, .inr (2, MO p1 a1 b1 n sec dr th hX hY hR hO sx sy dk dv)), MX hX cX tx, MX hY cY ty, MI hR cR ix, MG hO cO g]) (w2 := []) (w3 := [(hm, .inr (2, MO p1 a1 b1 n sec dr (gdF (zb n) (nrF (xs (i + 1)).toInt) 0) hX hY hR hO sx sy dk dv)), MX hX cX tx, MX hY cY ty, MI hR cR (if gdF (zb n) (nrF (xs (i + 1)).toInt) 0 = 0 then va_up ix (xs (i + 1)).toInt.toNat 1 else ix), MG hO cO g]) hPn hDn jz1 (fun q h1 h2 => jk1 q h1 (fun z => h2 (hsub q z))) hFr hP3 hD3
  have hP : va_P D clX ((KO ho cL f :: kw1) ++ [(hm, .inr (2, MO p1 a1 b1 n sec dr (gdF (zb n) (nrF (xs (i + 1)).toInt) 0) hX hY hR hO sx sy dk dv)), MX hX cX tx, MX hY cY ty, MI hR cR (if gdF (zb n) (nrF (xs (i + 1)).toInt) 0 = 0 then va_up ix (xs (i + 1)).toInt.toNat 1 else ix), MG hO cO g]) H2 := hP
  have hD : va_D (AZ s.heap.size) ((KO ho cL f :: kw1) ++ [(hm, .inr (2, MO p1 a1 b1 n sec dr (gdF (zb n) (nrF (xs (i + 1)).toInt) 0) hX hY hR hO sx sy dk dv)), MX hX cX tx, MX hY cY ty, MI hR cR (if gdF (zb n) (nrF (xs (i + 1)).toInt) 0 = 0 then va_up ix (xs (i + 1)).toInt.toNat 1 else ix), MG hO cO g]) := hD
  refine w_drop hS.2.2 ?_
  have hS := (⟨hS.1, hS.2.1, fun _ h => nomatch h⟩ : va_S (AZ s.heap.size) s.heap H2 [])
  refine lv_aload_n C.1 C.2.1 dL_law_291 rfl (lv_at hl 3 rfl) ?_
  refine ca_V (As := []) (rest := []) C (c_X2_thrown l D hm p1 a1 b1 n sec dr (gdF (zb n) (nrF (xs (i + 1)).toInt) 0) hX hY hR hO sx sy dk dv) (pcw_preV [] hN (fr_sub (w0 := (KO ho cL f :: kw1)) (w1 := [(hm, .inr (2, MO p1 a1 b1 n sec dr (gdF (zb n) (nrF (xs (i + 1)).toInt) 0) hX hY hR hO sx sy dk dv))]) (w2 := [MX hX cX tx, MX hY cY ty, MI hR cR (if gdF (zb n) (nrF (xs (i + 1)).toInt) 0 = 0 then va_up ix (xs (i + 1)).toInt.toNat 1 else ix), MG hO cO g]) hP hD).1 (hK.sub (tys' := []) [] rfl) 0 (ci := 2) rfl rfl) aw_b_X2_thrown aw_m_L_76 aw_v_X2_thrown aw_i_X2 aw_e_X2_thrown ⟨rfl, rfl⟩ 0 (by decide +kernel) rfl ⟨by decide, by decide⟩ hl.1 rfl (Nat.le_of_ble_eq_true rfl) dL_law_292 ⟨by omega, by omega⟩ ?_
  refine lv_iload C.1 C.2.1 dL_law_295 (lv_at hl 0 rfl) ?_
  refine ic_eq (tgt := 302) C dL_law_297 (by decide) ?_
  refine lv_goto (tgt := 1170) C.1 C.2.1 dL_law_302 (by decide) ?_
  refine W.widen (k := cells + 3) (n := slots + 20) (by omega) (by omega) ?_
  exact kk _ ls ⟨n, p0, a0, b0, gx, gy, sec, dr, (gdF (zb n) (nrF (xs (i + 1)).toInt) 0), (if gdF (zb n) (nrF (xs (i + 1)).toInt) 0 = 0 then va_up ix (xs (i + 1)).toInt.toNat 1 else ix), tx, ty, kw1, _, f, hKR, ⟨hT, p1, a1, b1, sx, sy, dk, dv, g, rfl⟩, hP, hD⟩ hS (lv_sub (l' := [(4, .int (ii (i : Int))), (3, .ref ho), (2, .ref hm), (1, .ref hx), (0, .ref b)]) hl [1, 2, 3, 4, 5] rfl)
set_option maxRecDepth 100000 in
set_option maxHeartbeats 4000000 in
theorem lw_order (hC : LwC p l s m c b L xs) (hK : va_K D clX [(cI, .int), (cQ, .int), (cX, .int), (cY, .int), (cR, .int), (cO, .int), (cL, .long)] s) {H : Heap} (hI : LI D s.heap.size hx hr0 hq0 cI cQ hm hX hY hR hO cX cY cR cO ho cL H) (hS : va_S (AZ s.heap.size) s.heap H []) {i : Nat} (hi : i + 8 ≤ L) {cells slots : Nat} (hcs : cells + 3 ≤ room_1.cells ∧ slots + 20 ≤ room_1.slots) {ls : Array Slot} (hl : lv_has ls 8 [(4, .int (ii (i : Int))), (3, .ref ho), (2, .ref hm), (1, .ref hx), (0, .ref b)])
    (kk : ∀ (H1 : Heap) (ls : Array Slot), LI D s.heap.size hx hr0 hq0 cI cQ hm hX hY hR hO cX cY cR cO ho cL H1 → va_S (AZ s.heap.size) s.heap H1 [] → lv_has ls 8 [(4, .int (ii (i : Int))), (3, .ref ho), (2, .ref hm), (1, .ref hx), (0, .ref b)] → W p l e room_1 s m #[Value.ref b] below meth c H1 [] (cells + 3) (slots + 20) Q (F0 m 1170 ls [])) : W p l e room_1 s m #[Value.ref b] below meth c H [] cells slots Q (F0 m 196 ls []) := by
  obtain ⟨hL, C, hN, hXc, hZ, hV, hb, hLn⟩ := hC
  obtain ⟨n, p0, a0, b0, gx, gy, sec, dr, th, ix, tx, ty, kw, mw, f, hKR, hMR, hP, hD⟩ := hI
  have hix := hKR.ixle
  have hnn := hKR.nle
  have hsec := hKR.secle
  have hKR0 := hKR
  rcases hKR0 with ⟨rfl, rfl, hi0, gq, rfl⟩ | ⟨hTk, hc, gq, rfl⟩
  · refine lv_aload_n C.1 C.2.1 dL_law_196 rfl (lv_at hl 3 rfl) ?_
    have hq := (fr_sub (w0 := [KO ho cL f]) (w1 := [KX hx hr0 hq0 .null 0 dr, KP hr0 cI (fun _ => none), KQ hq0 cQ gq]) (w2 := mw) hP hD).1
    refine ca_V (As := []) (rest := []) C (c_order_n l D hx hr0 hq0 0 dr) (pcw_preV [] hN (hq.sub (ws' := [KX hx hr0 hq0 .null 0 dr]) [0] rfl) (hK.sub (tys' := []) [] rfl) 0 (ci := 1) rfl rfl) aw_b_X1_order aw_m_L_80 aw_v_X1_order aw_i_X1 aw_e_X1_order ⟨rfl, rfl⟩ 0 (by decide +kernel) rfl ⟨by decide, by decide⟩ hl.1 rfl (Nat.le_of_ble_eq_true rfl) dL_law_197 ⟨by omega, by omega⟩ ?_
    refine lv_aload_n C.1 C.2.1 dL_law_200 rfl (lv_at hl 2 rfl) ?_
    obtain ⟨hT, p1, a1, b1, sx, sy, dk, dv, g, rfl⟩ := hMR
    have hfr := fr_sub (w0 := (KO ho cL f :: [KX hx hr0 hq0 .null 0 dr, KP hr0 cI (fun _ => none), KQ hq0 cQ gq])) (w1 := [(hm, .inr (2, MO p1 a1 b1 0 0 dr th hX hY hR hO sx sy dk dv))]) (w2 := [MX hX cX tx, MX hY cY ty, MI hR cR ix, MG hO cO g]) hP hD
    have hFc := fr_free (w0 := (KO ho cL f :: [KX hx hr0 hq0 .null 0 dr, KP hr0 cI (fun _ => none), KQ hq0 cQ gq])) (w1 := [(hm, .inr (2, MO p1 a1 b1 0 0 dr th hX hY hR hO sx sy dk dv))]) (w2 := [MX hX cX tx, MX hY cY ty, MI hR cR ix, MG hO cO g]) hS.1 hD
    refine cn_V (As := []) (rest := [.int (ii 0)]) C (c_X2_order l D s.heap.size _ hm p1 a1 b1 0 0 dr th hX hY hR hO sx sy dk dv) (pcm_preV _ hN (Zs.on hZ hS (fun _ h => h)) hS.1 hfr.1 (hK.sub (tys' := []) [] rfl) hfr.2 0 (ci := 2) rfl rfl) hS hFc aw_b_X2_order aw_m_L_83 aw_v_X2_order aw_i_X2 aw_e_X2_order ⟨rfl, rfl⟩ 0 (by decide +kernel) rfl ⟨by decide, by decide⟩ hl.1 rfl (Nat.le_of_ble_eq_true rfl) dL_law_201 ⟨by omega, by omega⟩ (fun t H1 locs1 ht hvm _ hB jz1 jk1 hS => ?_)
    obtain ⟨hP1, hK1, hD1⟩ := hB
    rw [ht] at hP1
    obtain ⟨hP, hD⟩ := fr_mid (w0 := (KO ho cL f :: [KX hx hr0 hq0 .null 0 dr, KP hr0 cI (fun _ => none), KQ hq0 cQ gq])) (w1 := [(hm, .inr (2, MO p1 a1 b1 0 0 dr th hX hY hR hO sx sy dk dv))]) (w2 := [MX hX cX tx, MX hY cY ty, MI hR cR ix, MG hO cO g]) (w3 := [(hm, .inr (2, MO p1 a1 b1 0 0 dr 0 hX hY hR hO sx sy dk dv))]) hP hD jz1 jk1 hFc hP1 hD1
    refine w_drop hS.2.2 ?_
    have hS := (⟨hS.1, hS.2.1, fun _ h => nomatch h⟩ : va_S (AZ s.heap.size) s.heap H1 [])
    refine ic_eq (tgt := 1170) C dL_law_204 (by decide) ?_
    refine W.widen (k := cells + 3) (n := slots + 20) (by omega) (by omega) ?_
    exact kk _ ls ⟨0, p0, a0, b0, gx, gy, 0, dr, 0, ix, tx, ty, _, _, f, hKR, ⟨hT, p1, a1, b1, sx, sy, dk, dv, g, rfl⟩, hP, hD⟩ hS (lv_sub (l' := [(4, .int (ii (i : Int))), (3, .ref ho), (2, .ref hm), (1, .ref hx), (0, .ref b)]) hl [0, 1, 2, 3, 4] rfl)
  · refine lv_aload_n C.1 C.2.1 dL_law_196 rfl (lv_at hl 3 rfl) ?_
    have hq := (fr_sub (w0 := [KO ho cL f]) (w1 := [KX hx hr0 hq0 (.ref hc) sec dr, KP hr0 cI (fun j => tbN p0 a0 gx gy (ix j)), KQ hq0 cQ gq, KC hc p0 a0 b0 n (some (gx, gy))]) (w2 := mw) hP hD).1
    refine ca_V (As := []) (rest := []) C (c_order_c l D hx hr0 hq0 hc sec dr p0 a0 b0 n (ecd (some (gx, gy)))) (pcw_preV [] hN (hq.sub (ws' := [KX hx hr0 hq0 (.ref hc) sec dr, KC hc p0 a0 b0 n (some (gx, gy))]) [0, 3] rfl) (hK.sub (tys' := []) [] rfl) 0 (ci := 1) rfl rfl) aw_b_X1_order aw_m_L_80 aw_v_X1_order aw_i_X1 aw_e_X1_order ⟨rfl, rfl⟩ 0 (by decide +kernel) rfl ⟨by decide, by decide⟩ hl.1 rfl (Nat.le_of_ble_eq_true rfl) dL_law_197 ⟨by omega, by omega⟩ ?_
    refine lv_aload_n C.1 C.2.1 dL_law_200 rfl (lv_at hl 2 rfl) ?_
    obtain ⟨hT, p1, a1, b1, sx, sy, dk, dv, g, rfl⟩ := hMR
    have hfr := fr_sub (w0 := (KO ho cL f :: [KX hx hr0 hq0 (.ref hc) sec dr, KP hr0 cI (fun j => tbN p0 a0 gx gy (ix j)), KQ hq0 cQ gq, KC hc p0 a0 b0 n (some (gx, gy))])) (w1 := [(hm, .inr (2, MO p1 a1 b1 n sec dr th hX hY hR hO sx sy dk dv))]) (w2 := [MX hX cX tx, MX hY cY ty, MI hR cR ix, MG hO cO g]) hP hD
    have hFc := fr_free (w0 := (KO ho cL f :: [KX hx hr0 hq0 (.ref hc) sec dr, KP hr0 cI (fun j => tbN p0 a0 gx gy (ix j)), KQ hq0 cQ gq, KC hc p0 a0 b0 n (some (gx, gy))])) (w1 := [(hm, .inr (2, MO p1 a1 b1 n sec dr th hX hY hR hO sx sy dk dv))]) (w2 := [MX hX cX tx, MX hY cY ty, MI hR cR ix, MG hO cO g]) hS.1 hD
    refine cn_V (As := []) (rest := [.int (ii (n : Int))]) C (c_X2_order l D s.heap.size _ hm p1 a1 b1 n sec dr th hX hY hR hO sx sy dk dv) (pcm_preV _ hN (Zs.on hZ hS (fun _ h => h)) hS.1 hfr.1 (hK.sub (tys' := []) [] rfl) hfr.2 0 (ci := 2) rfl rfl) hS hFc aw_b_X2_order aw_m_L_83 aw_v_X2_order aw_i_X2 aw_e_X2_order ⟨rfl, rfl⟩ 0 (by decide +kernel) rfl ⟨by decide, by decide⟩ hl.1 rfl (Nat.le_of_ble_eq_true rfl) dL_law_201 ⟨by omega, by omega⟩ (fun t H1 locs1 ht hvm _ hB jz1 jk1 hS => ?_)
    obtain ⟨hP1, hK1, hD1⟩ := hB
    rw [ht] at hP1
    obtain ⟨hP, hD⟩ := fr_mid (w0 := (KO ho cL f :: [KX hx hr0 hq0 (.ref hc) sec dr, KP hr0 cI (fun j => tbN p0 a0 gx gy (ix j)), KQ hq0 cQ gq, KC hc p0 a0 b0 n (some (gx, gy))])) (w1 := [(hm, .inr (2, MO p1 a1 b1 n sec dr th hX hY hR hO sx sy dk dv))]) (w2 := [MX hX cX tx, MX hY cY ty, MI hR cR ix, MG hO cO g]) (w3 := [(hm, .inr (2, MO p1 a1 b1 n sec dr 0 hX hY hR hO sx sy dk dv))]) hP hD jz1 jk1 hFc hP1 hD1
    refine w_drop hS.2.2 ?_
    have hS := (⟨hS.1, hS.2.1, fun _ h => nomatch h⟩ : va_S (AZ s.heap.size) s.heap H1 [])
    refine ic_eq (tgt := 1170) C dL_law_204 (by decide) ?_
    refine W.widen (k := cells + 3) (n := slots + 20) (by omega) (by omega) ?_
    exact kk _ ls ⟨n, p0, a0, b0, gx, gy, sec, dr, 0, ix, tx, ty, _, _, f, hKR, ⟨hT, p1, a1, b1, sx, sy, dk, dv, g, rfl⟩, hP, hD⟩ hS (lv_sub (l' := [(4, .int (ii (i : Int))), (3, .ref ho), (2, .ref hm), (1, .ref hx), (0, .ref b)]) hl [0, 1, 2, 3, 4] rfl)
set_option maxRecDepth 100000 in
set_option maxHeartbeats 4000000 in
theorem lw_draws (hC : LwC p l s m c b L xs) (hK : va_K D clX [(cI, .int), (cQ, .int), (cX, .int), (cY, .int), (cR, .int), (cO, .int), (cL, .long)] s) {H : Heap} (hI : LI D s.heap.size hx hr0 hq0 cI cQ hm hX hY hR hO cX cY cR cO ho cL H) (hS : va_S (AZ s.heap.size) s.heap H []) {i : Nat} (hi : i + 8 ≤ L) {cells slots : Nat} (hcs : cells + 3 ≤ room_1.cells ∧ slots + 20 ≤ room_1.slots) {ls : Array Slot} (hl : lv_has ls 8 [(4, .int (ii (i : Int))), (3, .ref ho), (2, .ref hm), (1, .ref hx), (0, .ref b)])
    (kk : ∀ (H1 : Heap) (ls : Array Slot), LI D s.heap.size hx hr0 hq0 cI cQ hm hX hY hR hO cX cY cR cO ho cL H1 → va_S (AZ s.heap.size) s.heap H1 [] → lv_has ls 8 [(4, .int (ii (i : Int))), (3, .ref ho), (2, .ref hm), (1, .ref hx), (0, .ref b)] → W p l e room_1 s m #[Value.ref b] below meth c H1 [] (cells + 3) (slots + 20) Q (F0 m 1170 ls [])) : W p l e room_1 s m #[Value.ref b] below meth c H [] cells slots Q (F0 m 847 ls []) := by
  obtain ⟨hL, C, hN, hXc, hZ, hV, hb, hLn⟩ := hC
  obtain ⟨n, p0, a0, b0, gx, gy, sec, dr, th, ix, tx, ty, kw, mw, f, hKR, hMR, hP, hD⟩ := hI
  have hix := hKR.ixle
  have hnn := hKR.nle
  have hsec := hKR.secle
  have hKR0 := hKR
  rcases hKR0 with ⟨rfl, rfl, hi0, gq, rfl⟩ | ⟨hTk, hc, gq, rfl⟩
  · refine lv_aload_n C.1 C.2.1 dL_law_847 rfl (lv_at hl 3 rfl) ?_
    have hq := (fr_sub (w0 := [KO ho cL f]) (w1 := [KX hx hr0 hq0 .null 0 dr, KP hr0 cI (fun _ => none), KQ hq0 cQ gq]) (w2 := mw) hP hD).1
    refine ca_V (As := []) (rest := []) C (c_draws_n l D hx hr0 hq0 0 dr) (pcw_preV [] hN (hq.sub (ws' := [KX hx hr0 hq0 .null 0 dr]) [0] rfl) (hK.sub (tys' := []) [] rfl) 0 (ci := 1) rfl rfl) aw_b_X1_draws aw_m_L_123 aw_v_X1_draws aw_i_X1 aw_e_X1_draws ⟨rfl, rfl⟩ 0 (by decide +kernel) rfl ⟨by decide, by decide⟩ hl.1 rfl (Nat.le_of_ble_eq_true rfl) dL_law_848 ⟨by omega, by omega⟩ ?_
    refine lv_aload_n C.1 C.2.1 dL_law_851 rfl (lv_at hl 2 rfl) ?_
    obtain ⟨hT, p1, a1, b1, sx, sy, dk, dv, g, rfl⟩ := hMR
    have hfr := fr_sub (w0 := (KO ho cL f :: [KX hx hr0 hq0 .null 0 dr, KP hr0 cI (fun _ => none), KQ hq0 cQ gq])) (w1 := [(hm, .inr (2, MO p1 a1 b1 0 0 dr th hX hY hR hO sx sy dk dv))]) (w2 := [MX hX cX tx, MX hY cY ty, MI hR cR ix, MG hO cO g]) hP hD
    have hFc := fr_free (w0 := (KO ho cL f :: [KX hx hr0 hq0 .null 0 dr, KP hr0 cI (fun _ => none), KQ hq0 cQ gq])) (w1 := [(hm, .inr (2, MO p1 a1 b1 0 0 dr th hX hY hR hO sx sy dk dv))]) (w2 := [MX hX cX tx, MX hY cY ty, MI hR cR ix, MG hO cO g]) hS.1 hD
    refine cn_V (As := []) (rest := [.int (ii dr)]) C (c_X2_draws l D s.heap.size _ hm p1 a1 b1 0 0 dr th hX hY hR hO sx sy dk dv) (pcm_preV _ hN (Zs.on hZ hS (fun _ h => h)) hS.1 hfr.1 (hK.sub (tys' := []) [] rfl) hfr.2 0 (ci := 2) rfl rfl) hS hFc aw_b_X2_draws aw_m_L_126 aw_v_X2_draws aw_i_X2 aw_e_X2_draws ⟨rfl, rfl⟩ 0 (by decide +kernel) rfl ⟨by decide, by decide⟩ hl.1 rfl (Nat.le_of_ble_eq_true rfl) dL_law_852 ⟨by omega, by omega⟩ (fun t H1 locs1 ht hvm _ hB jz1 jk1 hS => ?_)
    obtain ⟨hP1, hK1, hD1⟩ := hB
    rw [ht] at hP1
    obtain ⟨hP, hD⟩ := fr_mid (w0 := (KO ho cL f :: [KX hx hr0 hq0 .null 0 dr, KP hr0 cI (fun _ => none), KQ hq0 cQ gq])) (w1 := [(hm, .inr (2, MO p1 a1 b1 0 0 dr th hX hY hR hO sx sy dk dv))]) (w2 := [MX hX cX tx, MX hY cY ty, MI hR cR ix, MG hO cO g]) (w3 := [(hm, .inr (2, MO p1 a1 b1 0 0 dr 0 hX hY hR hO sx sy dk dv))]) hP hD jz1 jk1 hFc hP1 hD1
    refine w_drop hS.2.2 ?_
    have hS := (⟨hS.1, hS.2.1, fun _ h => nomatch h⟩ : va_S (AZ s.heap.size) s.heap H1 [])
    refine ic_eq (tgt := 1170) C dL_law_855 (by decide) ?_
    refine W.widen (k := cells + 3) (n := slots + 20) (by omega) (by omega) ?_
    exact kk _ ls ⟨0, p0, a0, b0, gx, gy, 0, dr, 0, ix, tx, ty, _, _, f, hKR, ⟨hT, p1, a1, b1, sx, sy, dk, dv, g, rfl⟩, hP, hD⟩ hS (lv_sub (l' := [(4, .int (ii (i : Int))), (3, .ref ho), (2, .ref hm), (1, .ref hx), (0, .ref b)]) hl [0, 1, 2, 3, 4] rfl)
  · refine lv_aload_n C.1 C.2.1 dL_law_847 rfl (lv_at hl 3 rfl) ?_
    have hq := (fr_sub (w0 := [KO ho cL f]) (w1 := [KX hx hr0 hq0 (.ref hc) sec dr, KP hr0 cI (fun j => tbN p0 a0 gx gy (ix j)), KQ hq0 cQ gq, KC hc p0 a0 b0 n (some (gx, gy))]) (w2 := mw) hP hD).1
    refine ca_V (As := []) (rest := []) C (c_draws_c l D hx hr0 hq0 hc sec dr) (pcw_preV [] hN (hq.sub (ws' := [KX hx hr0 hq0 (.ref hc) sec dr]) [0] rfl) (hK.sub (tys' := []) [] rfl) 0 (ci := 1) rfl rfl) aw_b_X1_draws aw_m_L_123 aw_v_X1_draws aw_i_X1 aw_e_X1_draws ⟨rfl, rfl⟩ 0 (by decide +kernel) rfl ⟨by decide, by decide⟩ hl.1 rfl (Nat.le_of_ble_eq_true rfl) dL_law_848 ⟨by omega, by omega⟩ ?_
    refine lv_aload_n C.1 C.2.1 dL_law_851 rfl (lv_at hl 2 rfl) ?_
    obtain ⟨hT, p1, a1, b1, sx, sy, dk, dv, g, rfl⟩ := hMR
    have hfr := fr_sub (w0 := (KO ho cL f :: [KX hx hr0 hq0 (.ref hc) sec dr, KP hr0 cI (fun j => tbN p0 a0 gx gy (ix j)), KQ hq0 cQ gq, KC hc p0 a0 b0 n (some (gx, gy))])) (w1 := [(hm, .inr (2, MO p1 a1 b1 n sec dr th hX hY hR hO sx sy dk dv))]) (w2 := [MX hX cX tx, MX hY cY ty, MI hR cR ix, MG hO cO g]) hP hD
    have hFc := fr_free (w0 := (KO ho cL f :: [KX hx hr0 hq0 (.ref hc) sec dr, KP hr0 cI (fun j => tbN p0 a0 gx gy (ix j)), KQ hq0 cQ gq, KC hc p0 a0 b0 n (some (gx, gy))])) (w1 := [(hm, .inr (2, MO p1 a1 b1 n sec dr th hX hY hR hO sx sy dk dv))]) (w2 := [MX hX cX tx, MX hY cY ty, MI hR cR ix, MG hO cO g]) hS.1 hD
    refine cn_V (As := []) (rest := [.int (ii dr)]) C (c_X2_draws l D s.heap.size _ hm p1 a1 b1 n sec dr th hX hY hR hO sx sy dk dv) (pcm_preV _ hN (Zs.on hZ hS (fun _ h => h)) hS.1 hfr.1 (hK.sub (tys' := []) [] rfl) hfr.2 0 (ci := 2) rfl rfl) hS hFc aw_b_X2_draws aw_m_L_126 aw_v_X2_draws aw_i_X2 aw_e_X2_draws ⟨rfl, rfl⟩ 0 (by decide +kernel) rfl ⟨by decide, by decide⟩ hl.1 rfl (Nat.le_of_ble_eq_true rfl) dL_law_852 ⟨by omega, by omega⟩ (fun t H1 locs1 ht hvm _ hB jz1 jk1 hS => ?_)
    obtain ⟨hP1, hK1, hD1⟩ := hB
    rw [ht] at hP1
    obtain ⟨hP, hD⟩ := fr_mid (w0 := (KO ho cL f :: [KX hx hr0 hq0 (.ref hc) sec dr, KP hr0 cI (fun j => tbN p0 a0 gx gy (ix j)), KQ hq0 cQ gq, KC hc p0 a0 b0 n (some (gx, gy))])) (w1 := [(hm, .inr (2, MO p1 a1 b1 n sec dr th hX hY hR hO sx sy dk dv))]) (w2 := [MX hX cX tx, MX hY cY ty, MI hR cR ix, MG hO cO g]) (w3 := [(hm, .inr (2, MO p1 a1 b1 n sec dr 0 hX hY hR hO sx sy dk dv))]) hP hD jz1 jk1 hFc hP1 hD1
    refine w_drop hS.2.2 ?_
    have hS := (⟨hS.1, hS.2.1, fun _ h => nomatch h⟩ : va_S (AZ s.heap.size) s.heap H1 [])
    refine ic_eq (tgt := 1170) C dL_law_855 (by decide) ?_
    refine W.widen (k := cells + 3) (n := slots + 20) (by omega) (by omega) ?_
    exact kk _ ls ⟨n, p0, a0, b0, gx, gy, sec, dr, 0, ix, tx, ty, _, _, f, hKR, ⟨hT, p1, a1, b1, sx, sy, dk, dv, g, rfl⟩, hP, hD⟩ hS (lv_sub (l' := [(4, .int (ii (i : Int))), (3, .ref ho), (2, .ref hm), (1, .ref hx), (0, .ref b)]) hl [0, 1, 2, 3, 4] rfl)
end Lw
