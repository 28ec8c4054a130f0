/-! The law: load, sum, times, decode, key. By wip/whole/tools/gen25.py. -/
section Lw
variable {p : Program} {l : Launch} {e : Env} {s : State} {m : MethodId} {below : List Frame} {meth : Method} {c : Code} {b L : Nat} {xs : Nat → Int32} {D : va_G} {hx hr0 hq0 : Nat} {cI cQ : ClassId} {hm hX hY hR hO : Nat} {cX cY cR cO : ClassId} {ho : Nat} {cL : ClassId} {Q : State → Prop}
set_option maxRecDepth 100000 in
set_option maxHeartbeats 4000000 in
theorem lw_load (hC : LwC p l s m c b L xs) (hK : va_K D clX [(cI, .int), (cQ, .int), (cX, .int), (cY, .int), (cR, .int), (cO, .int), (cL, .long)] s) {H : Heap} (hI : LI D s.heap.size hx hr0 hq0 cI cQ hm hX hY hR hO cX cY cR cO ho cL H) (hS : va_S (AZ s.heap.size) s.heap H []) {i : Nat} (hi : i + 8 ≤ L) {cells slots : Nat} (hcs : cells + 3 ≤ room_1.cells ∧ slots + 20 ≤ room_1.slots) {ls : Array Slot} (hl : lv_has ls 8 [(4, .int (ii (i : Int))), (3, .ref ho), (2, .ref hm), (1, .ref hx), (0, .ref b)])
    (kk : ∀ (H1 : Heap) (ls : Array Slot), LI D s.heap.size hx hr0 hq0 cI cQ hm hX hY hR hO cX cY cR cO ho cL H1 → va_S (AZ s.heap.size) s.heap H1 [] → lv_has ls 8 [(4, .int (ii (i : Int))), (3, .ref ho), (2, .ref hm), (1, .ref hx), (0, .ref b)] → W p l e room_1 s m #[Value.ref b] below meth c H1 [] (cells + 3) (slots + 20) Q (F0 m 1170 ls [])) : W p l e room_1 s m #[Value.ref b] below meth c H [] cells slots Q (F0 m 209 ls []) := by
  obtain ⟨hL, C, hN, hXc, hZ, hV, hb, hLn⟩ := hC
  obtain ⟨n, p0, a0, b0, gx, gy, sec, dr, th, ix, tx, ty, kw, mw, f, hKR, hMR, hP, hD⟩ := hI
  have hix := hKR.ixle
  have hnn := hKR.nle
  have hsec := hKR.secle
  refine lv_aload_n C.1 C.2.1 dL_law_209 rfl (lv_at hl 3 rfl) ?_
  refine lv_aload_n C.1 C.2.1 dL_law_210 rfl (lv_at hl 4 rfl) ?_
  refine lv_iload C.1 C.2.1 dL_law_211 (lv_at hl 0 rfl) ?_
  refine i_const C dL_law_213 ?_
  refine i_add C dL_law_214 ?_
  refine s_ald C hV hb (Nat.not_le.mpr hb) hS (i + 1) (by omega) (by omega) (by omega) dL_law_215 ?_
  refine lv_aload_n C.1 C.2.1 dL_law_216 rfl (lv_at hl 4 rfl) ?_
  refine lv_iload C.1 C.2.1 dL_law_217 (lv_at hl 0 rfl) ?_
  refine i_const C dL_law_219 ?_
  refine i_add C dL_law_220 ?_
  refine s_ald C hV hb (Nat.not_le.mpr hb) hS (i + 2) (by omega) (by omega) (by omega) dL_law_221 ?_
  refine lv_aload_n C.1 C.2.1 dL_law_222 rfl (lv_at hl 4 rfl) ?_
  refine lv_iload C.1 C.2.1 dL_law_223 (lv_at hl 0 rfl) ?_
  refine i_const C dL_law_225 ?_
  refine i_add C dL_law_226 ?_
  refine s_ald C hV hb (Nat.not_le.mpr hb) hS (i + 3) (by omega) (by omega) (by omega) dL_law_227 ?_
  have hfr := fr_sub (w0 := [KO ho cL f]) (w1 := kw) (w2 := mw) hP hD
  have hFc := fr_free (w0 := [KO ho cL f]) (w1 := kw) (w2 := mw) hS.1 hD
  refine lc_S (As := [.ref hx, .int (ii ((xs (i + 1)).toInt)), .int (ii ((xs (i + 2)).toInt)), .int (ii ((xs (i + 3)).toInt))]) (rest := []) C (wL_load l hL D s.heap.size _ hx hr0 hq0 cI cQ n p0 a0 b0 gx gy sec dr ix tx ty kw hKR _ _ _ (rg_self _) (rg_self _) (rg_self _)) (pch_pre _ hXc (pcm_pre _ hN (Zs.on hZ hS (fun _ h => h)) hS.1 hfr.1 (hK.sub (tys' := [(cI, .int), (cQ, .int)]) [0, 1] rfl) hfr.2)) hS hFc aw_h_L_load aw_m_L_84 aw_s_L_load aw_i_L ⟨rfl, rfl⟩ 4 (by decide +kernel) rfl ⟨by decide, by decide⟩ hl.1 rfl (Nat.le_of_ble_eq_true rfl) dL_law_228 ⟨by omega, by omega⟩ (fun t H1 locs1 ht hvm _ hB jz1 jk1 hS => ?_)
  obtain ⟨kw1, hKR, hP1, hK1, hD1⟩ := hB
  rw [ht] at hP1
  obtain ⟨hP, hD⟩ := fr_mid (w0 := [KO ho cL f]) (w1 := kw) (w2 := mw) (w3 := kw1) hP hD jz1 jk1 hFc hP1 hD1
  refine w_drop hS.2.2 ?_
  have hS := (⟨hS.1, hS.2.1, fun _ h => nomatch h⟩ : va_S (AZ s.heap.size) s.heap H1 [])
  refine lv_istore C.1 C.2.1 dL_law_231 hl (by decide) rfl (fun ls hl => ?_)
  have hl : lv_has ls 8 [(5, .int (ii (gdF (zb n) (nrF (xs (i + 1)).toInt) (zb (fdF tx ty n (xs (i + 2)).toInt (xs (i + 3)).toInt 1100 1 0))))), (4, .int (ii (i : Int))), (3, .ref ho), (2, .ref hm), (1, .ref hx), (0, .ref b)] := hl
  refine lv_aload_n C.1 C.2.1 dL_law_233 rfl (lv_at hl 3 rfl) ?_
  refine lv_aload_n C.1 C.2.1 dL_law_234 rfl (lv_at hl 5 rfl) ?_
  refine lv_iload C.1 C.2.1 dL_law_235 (lv_at hl 1 rfl) ?_
  refine i_const C dL_law_237 ?_
  refine i_add C dL_law_238 ?_
  refine s_ald C hV hb (Nat.not_le.mpr hb) hS (i + 1) (by omega) (by omega) (by omega) dL_law_239 ?_
  refine lv_aload_n C.1 C.2.1 dL_law_240 rfl (lv_at hl 5 rfl) ?_
  refine lv_iload C.1 C.2.1 dL_law_241 (lv_at hl 1 rfl) ?_
  refine i_const C dL_law_243 ?_
  refine i_add C dL_law_244 ?_
  refine s_ald C hV hb (Nat.not_le.mpr hb) hS (i + 2) (by omega) (by omega) (by omega) dL_law_245 ?_
  refine lv_aload_n C.1 C.2.1 dL_law_246 rfl (lv_at hl 5 rfl) ?_
  refine lv_iload C.1 C.2.1 dL_law_247 (lv_at hl 1 rfl) ?_
  refine i_const C dL_law_249 ?_
  refine i_add C dL_law_250 ?_
  refine s_ald C hV hb (Nat.not_le.mpr hb) hS (i + 3) (by omega) (by omega) (by omega) dL_law_251 ?_
  obtain ⟨hT, p1, a1, b1, sx, sy, dk, dv, g, rfl⟩ := hMR
  have hfr := fr_sub (w0 := (KO ho cL f :: kw1)) (w1 := [(hm, .inr (2, MO p1 a1 b1 n sec dr th hX hY hR hO sx sy dk dv)), MX hX cX tx, MX hY cY ty, MI hR cR ix]) (w2 := [MG hO cO g]) hP hD
  have hFc := fr_free (w0 := (KO ho cL f :: kw1)) (w1 := [(hm, .inr (2, MO p1 a1 b1 n sec dr th hX hY hR hO sx sy dk dv)), MX hX cX tx, MX hY cY ty, MI hR cR ix]) (w2 := [MG hO cO g]) hS.1 hD
  refine cn_V (As := [.int (ii ((xs (i + 1)).toInt)), .int (ii ((xs (i + 2)).toInt)), .int (ii ((xs (i + 3)).toInt))]) (rest := []) C (c_X2_load l D s.heap.size _ hm p1 a1 b1 n sec dr th hX hY hR hO sx sy dk dv cX cY cR tx ty ix hT hix hnn _ _ _ (rg_self _) (rg_self _) (rg_self _)) (pcm_preV _ hN (Zs.on hZ hS (fun _ h => h)) hS.1 hfr.1 (hK.sub (tys' := [(cX, .int), (cY, .int), (cR, .int)]) [2, 3, 4] rfl) hfr.2 0 (ci := 2) rfl rfl) hS hFc aw_b_X2_load aw_m_L_87 aw_v_X2_load aw_i_X2 aw_e_X2_load ⟨rfl, rfl⟩ 3 (by decide +kernel) rfl ⟨by decide, by decide⟩ hl.1 rfl (Nat.le_of_ble_eq_true rfl) dL_law_252 ⟨by omega, by omega⟩ (fun t H1 locs1 ht hvm _ hB jz1 jk1 hS => ?_)
  obtain ⟨hP1, hK1, hD1⟩ := hB
  rw [ht] at hP1
  have ew : (if gdF (zb n) (nrF (xs (i + 1)).toInt) (zb (fdF tx ty n (xs (i + 2)).toInt (xs (i + 3)).toInt 1100 1 0)) = 0 then [(hm, .inr (2, MO p1 a1 b1 n sec dr (gdF (zb n) (nrF (xs (i + 1)).toInt) (zb (fdF tx ty n (xs (i + 2)).toInt (xs (i + 3)).toInt 1100 1 0))) hX hY hR hO sx sy dk dv)), MX hX cX tx, MX hY cY ty, MI hR cR (va_up ix (xs (i + 1)).toInt.toNat (fdF tx ty n (xs (i + 2)).toInt (xs (i + 3)).toInt 1100 1 0))] else [(hm, .inr (2, MO p1 a1 b1 n sec dr (gdF (zb n) (nrF (xs (i + 1)).toInt) (zb (fdF tx ty n (xs (i + 2)).toInt (xs (i + 3)).toInt 1100 1 0))) hX hY hR hO sx sy dk dv)), MX hX cX tx, MX hY cY ty, MI hR cR ix]) = [(hm, .inr (2, MO p1 a1 b1 n sec dr (gdF (zb n) (nrF (xs (i + 1)).toInt) (zb (fdF tx ty n (xs (i + 2)).toInt (xs (i + 3)).toInt 1100 1 0))) hX hY hR hO sx sy dk dv)), MX hX cX tx, MX hY cY ty, MI hR cR (if gdF (zb n) (nrF (xs (i + 1)).toInt) (zb (fdF tx ty n (xs (i + 2)).toInt (xs (i + 3)).toInt 1100 1 0)) = 0 then va_up ix (xs (i + 1)).toInt.toNat (fdF tx ty n (xs (i + 2)).toInt (xs (i + 3)).toInt 1100 1 0) else ix)] := by split <;> rfl
  rw [ew] at hP1 hD1
  obtain ⟨hP, hD⟩ := fr_mid (w0 := (KO ho cL f :: kw1)) (w1 := [(hm, .inr (2, MO p1 a1 b1 n sec dr th hX hY hR hO sx sy dk dv)), MX hX cX tx, MX hY cY ty, MI hR cR ix]) (w2 := [MG hO cO g]) (w3 := [(hm, .inr (2, MO p1 a1 b1 n sec dr (gdF (zb n) (nrF (xs (i + 1)).toInt) (zb (fdF tx ty n (xs (i + 2)).toInt (xs (i + 3)).toInt 1100 1 0))) hX hY hR hO sx sy dk dv)), MX hX cX tx, MX hY cY ty, MI hR cR (if gdF (zb n) (nrF (xs (i + 1)).toInt) (zb (fdF tx ty n (xs (i + 2)).toInt (xs (i + 3)).toInt 1100 1 0)) = 0 then va_up ix (xs (i + 1)).toInt.toNat (fdF tx ty n (xs (i + 2)).toInt (xs (i + 3)).toInt 1100 1 0) else ix)]) hP hD jz1 jk1 hFc hP1 hD1
  refine w_drop hS.2.2 ?_
  have hS := (⟨hS.1, hS.2.1, fun _ h => nomatch h⟩ : va_S (AZ s.heap.size) s.heap H1 [])
  refine lv_aload_n C.1 C.2.1 dL_law_255 rfl (lv_at hl 3 rfl) ?_
  refine ca_V (As := []) (rest := []) C (c_X2_thrown l D hm p1 a1 b1 n sec dr (gdF (zb n) (nrF (xs (i + 1)).toInt) (zb (fdF tx ty n (xs (i + 2)).toInt (xs (i + 3)).toInt 1100 1 0))) hX hY hR hO sx sy dk dv) (pcw_preV [] hN (fr_sub (w0 := (KO ho cL f :: kw1)) (w1 := [(hm, .inr (2, MO p1 a1 b1 n sec dr (gdF (zb n) (nrF (xs (i + 1)).toInt) (zb (fdF tx ty n (xs (i + 2)).toInt (xs (i + 3)).toInt 1100 1 0))) hX hY hR hO sx sy dk dv))]) (w2 := [MX hX cX tx, MX hY cY ty, MI hR cR (if gdF (zb n) (nrF (xs (i + 1)).toInt) (zb (fdF tx ty n (xs (i + 2)).toInt (xs (i + 3)).toInt 1100 1 0)) = 0 then va_up ix (xs (i + 1)).toInt.toNat (fdF tx ty n (xs (i + 2)).toInt (xs (i + 3)).toInt 1100 1 0) else ix), MG hO cO g]) hP hD).1 (hK.sub (tys' := []) [] rfl) 0 (ci := 2) rfl rfl) aw_b_X2_thrown aw_m_L_76 aw_v_X2_thrown aw_i_X2 aw_e_X2_thrown ⟨rfl, rfl⟩ 0 (by decide +kernel) rfl ⟨by decide, by decide⟩ hl.1 rfl (Nat.le_of_ble_eq_true rfl) dL_law_256 ⟨by omega, by omega⟩ ?_
  refine lv_iload C.1 C.2.1 dL_law_259 (lv_at hl 0 rfl) ?_
  refine ic_eq (tgt := 266) C dL_law_261 (by decide) ?_
  refine lv_goto (tgt := 1170) C.1 C.2.1 dL_law_266 (by decide) ?_
  refine W.widen (k := cells + 3) (n := slots + 20) (by omega) (by omega) ?_
  exact kk _ ls ⟨n, p0, a0, b0, gx, gy, (sec), dr, (gdF (zb n) (nrF (xs (i + 1)).toInt) (zb (fdF tx ty n (xs (i + 2)).toInt (xs (i + 3)).toInt 1100 1 0))), (if gdF (zb n) (nrF (xs (i + 1)).toInt) (zb (fdF tx ty n (xs (i + 2)).toInt (xs (i + 3)).toInt 1100 1 0)) = 0 then va_up ix (xs (i + 1)).toInt.toNat (fdF tx ty n (xs (i + 2)).toInt (xs (i + 3)).toInt 1100 1 0) else ix), tx, ty, kw1, _, f, hKR, ⟨hT, p1, a1, b1, sx, sy, dk, dv, g, rfl⟩, hP, hD⟩ hS (lv_sub (l' := [(4, .int (ii (i : Int))), (3, .ref ho), (2, .ref hm), (1, .ref hx), (0, .ref b)]) hl [1, 2, 3, 4, 5] rfl)
set_option maxRecDepth 100000 in
set_option maxHeartbeats 4000000 in
theorem lw_sum (hC : LwC p l s m c b L xs) (hK : va_K D clX [(cI, .int), (cQ, .int), (cX, .int), (cY, .int), (cR, .int), (cO, .int), (cL, .long)] s) {H : Heap} (hI : LI D s.heap.size hx hr0 hq0 cI cQ hm hX hY hR hO cX cY cR cO ho cL H) (hS : va_S (AZ s.heap.size) s.heap H []) {i : Nat} (hi : i + 8 ≤ L) {cells slots : Nat} (hcs : cells + 3 ≤ room_1.cells ∧ slots + 20 ≤ room_1.slots) {ls : Array Slot} (hl : lv_has ls 8 [(4, .int (ii (i : Int))), (3, .ref ho), (2, .ref hm), (1, .ref hx), (0, .ref b)])
    (kk : ∀ (H1 : Heap) (ls : Array Slot), LI D s.heap.size hx hr0 hq0 cI cQ hm hX hY hR hO cX cY cR cO ho cL H1 → va_S (AZ s.heap.size) s.heap H1 [] → lv_has ls 8 [(4, .int (ii (i : Int))), (3, .ref ho), (2, .ref hm), (1, .ref hx), (0, .ref b)] → W p l e room_1 s m #[Value.ref b] below meth c H1 [] (cells + 3) (slots + 20) Q (F0 m 1170 ls [])) : W p l e room_1 s m #[Value.ref b] below meth c H [] cells slots Q (F0 m 305 ls []) := by
  obtain ⟨hL, C, hN, hXc, hZ, hV, hb, hLn⟩ := hC
  obtain ⟨n, p0, a0, b0, gx, gy, sec, dr, th, ix, tx, ty, kw, mw, f, hKR, hMR, hP, hD⟩ := hI
  have hix := hKR.ixle
  have hnn := hKR.nle
  have hsec := hKR.secle
  refine lv_aload_n C.1 C.2.1 dL_law_305 rfl (lv_at hl 3 rfl) ?_
  refine lv_aload_n C.1 C.2.1 dL_law_306 rfl (lv_at hl 4 rfl) ?_
  refine lv_iload C.1 C.2.1 dL_law_307 (lv_at hl 0 rfl) ?_
  refine i_const C dL_law_309 ?_
  refine i_add C dL_law_310 ?_
  refine s_ald C hV hb (Nat.not_le.mpr hb) hS (i + 1) (by omega) (by omega) (by omega) dL_law_311 ?_
  refine lv_aload_n C.1 C.2.1 dL_law_312 rfl (lv_at hl 4 rfl) ?_
  refine lv_iload C.1 C.2.1 dL_law_313 (lv_at hl 0 rfl) ?_
  refine i_const C dL_law_315 ?_
  refine i_add C dL_law_316 ?_
  refine s_ald C hV hb (Nat.not_le.mpr hb) hS (i + 2) (by omega) (by omega) (by omega) dL_law_317 ?_
  refine lv_aload_n C.1 C.2.1 dL_law_318 rfl (lv_at hl 4 rfl) ?_
  refine lv_iload C.1 C.2.1 dL_law_319 (lv_at hl 0 rfl) ?_
  refine i_const C dL_law_321 ?_
  refine i_add C dL_law_322 ?_
  refine s_ald C hV hb (Nat.not_le.mpr hb) hS (i + 3) (by omega) (by omega) (by omega) dL_law_323 ?_
  have hfr := fr_sub (w0 := [KO ho cL f]) (w1 := kw) (w2 := mw) hP hD
  have hFc := fr_free (w0 := [KO ho cL f]) (w1 := kw) (w2 := mw) hS.1 hD
  refine lc_S (As := [.ref hx, .int (ii ((xs (i + 1)).toInt)), .int (ii ((xs (i + 2)).toInt)), .int (ii ((xs (i + 3)).toInt))]) (rest := []) C (wL_sum l hL D s.heap.size _ hx hr0 hq0 cI cQ n p0 a0 b0 gx gy sec dr ix tx ty kw hKR _ _ _ (rg_self _) (rg_self _) (rg_self _)) (pch_pre _ hXc (pcm_pre _ hN (Zs.on hZ hS (fun _ h => h)) hS.1 hfr.1 (hK.sub (tys' := [(cI, .int), (cQ, .int)]) [0, 1] rfl) hfr.2)) hS hFc aw_h_L_sum aw_m_L_92 aw_s_L_sum aw_i_L ⟨rfl, rfl⟩ 4 (by decide +kernel) rfl ⟨by decide, by decide⟩ hl.1 rfl (Nat.le_of_ble_eq_true rfl) dL_law_324 ⟨by omega, by omega⟩ (fun t H1 locs1 ht hvm _ hB jz1 jk1 hS => ?_)
  obtain ⟨kw1, hKR, hP1, hK1, hD1⟩ := hB
  rw [ht] at hP1
  obtain ⟨hP, hD⟩ := fr_mid (w0 := [KO ho cL f]) (w1 := kw) (w2 := mw) (w3 := kw1) hP hD jz1 jk1 hFc hP1 hD1
  refine w_drop hS.2.2 ?_
  have hS := (⟨hS.1, hS.2.1, fun _ h => nomatch h⟩ : va_S (AZ s.heap.size) s.heap H1 [])
  refine lv_istore C.1 C.2.1 dL_law_327 hl (by decide) rfl (fun ls hl => ?_)
  have hl : lv_has ls 8 [(5, .int (ii (gdF (zb n) (or3 (nrF (xs (i + 1)).toInt) (nrF (xs (i + 2)).toInt) (nrF (xs (i + 3)).toInt)) 0))), (4, .int (ii (i : Int))), (3, .ref ho), (2, .ref hm), (1, .ref hx), (0, .ref b)] := hl
  refine lv_aload_n C.1 C.2.1 dL_law_329 rfl (lv_at hl 3 rfl) ?_
  refine lv_aload_n C.1 C.2.1 dL_law_330 rfl (lv_at hl 5 rfl) ?_
  refine lv_iload C.1 C.2.1 dL_law_331 (lv_at hl 1 rfl) ?_
  refine i_const C dL_law_333 ?_
  refine i_add C dL_law_334 ?_
  refine s_ald C hV hb (Nat.not_le.mpr hb) hS (i + 1) (by omega) (by omega) (by omega) dL_law_335 ?_
  refine lv_aload_n C.1 C.2.1 dL_law_336 rfl (lv_at hl 5 rfl) ?_
  refine lv_iload C.1 C.2.1 dL_law_337 (lv_at hl 1 rfl) ?_
  refine i_const C dL_law_339 ?_
  refine i_add C dL_law_340 ?_
  refine s_ald C hV hb (Nat.not_le.mpr hb) hS (i + 2) (by omega) (by omega) (by omega) dL_law_341 ?_
  refine lv_aload_n C.1 C.2.1 dL_law_342 rfl (lv_at hl 5 rfl) ?_
  refine lv_iload C.1 C.2.1 dL_law_343 (lv_at hl 1 rfl) ?_
  refine i_const C dL_law_345 ?_
  refine i_add C dL_law_346 ?_
  refine s_ald C hV hb (Nat.not_le.mpr hb) hS (i + 3) (by omega) (by omega) (by omega) dL_law_347 ?_
  obtain ⟨hT, p1, a1, b1, sx, sy, dk, dv, g, rfl⟩ := hMR
  have hfr := fr_sub (w0 := (KO ho cL f :: kw1)) (w1 := [(hm, .inr (2, MO p1 a1 b1 n sec dr th hX hY hR hO sx sy dk dv)), MX hX cX tx, MX hY cY ty, MI hR cR ix]) (w2 := [MG hO cO g]) hP hD
  have hFc := fr_free (w0 := (KO ho cL f :: kw1)) (w1 := [(hm, .inr (2, MO p1 a1 b1 n sec dr th hX hY hR hO sx sy dk dv)), MX hX cX tx, MX hY cY ty, MI hR cR ix]) (w2 := [MG hO cO g]) hS.1 hD
  refine cn_V (As := [.int (ii ((xs (i + 1)).toInt)), .int (ii ((xs (i + 2)).toInt)), .int (ii ((xs (i + 3)).toInt))]) (rest := []) C (c_X2_sum l D s.heap.size _ hm p1 a1 b1 n sec dr th hX hY hR hO sx sy dk dv cX cY cR tx ty ix hT hix hnn _ _ _ (rg_self _) (rg_self _) (rg_self _)) (pcm_preV _ hN (Zs.on hZ hS (fun _ h => h)) hS.1 hfr.1 (hK.sub (tys' := [(cX, .int), (cY, .int), (cR, .int)]) [2, 3, 4] rfl) hfr.2 0 (ci := 2) rfl rfl) hS hFc aw_b_X2_sum aw_m_L_94 aw_v_X2_sum aw_i_X2 aw_e_X2_sum ⟨rfl, rfl⟩ 3 (by decide +kernel) rfl ⟨by decide, by decide⟩ hl.1 rfl (Nat.le_of_ble_eq_true rfl) dL_law_348 ⟨by omega, by omega⟩ (fun t H1 locs1 ht hvm _ hB jz1 jk1 hS => ?_)
  obtain ⟨hP1, hK1, hD1⟩ := hB
  rw [ht] at hP1
  have ew : (if gdF (zb n) (or3 (nrF (xs (i + 1)).toInt) (nrF (xs (i + 2)).toInt) (nrF (xs (i + 3)).toInt)) 0 = 0 then [(hm, .inr (2, MO p1 a1 b1 n sec dr (gdF (zb n) (or3 (nrF (xs (i + 1)).toInt) (nrF (xs (i + 2)).toInt) (nrF (xs (i + 3)).toInt)) 0) hX hY hR hO sx sy dk dv)), MX hX cX tx, MX hY cY ty, MI hR cR (va_up ix (xs (i + 1)).toInt.toNat ((ix (xs (i + 2)).toInt.toNat + ix (xs (i + 3)).toInt.toNat) % n))] else [(hm, .inr (2, MO p1 a1 b1 n sec dr (gdF (zb n) (or3 (nrF (xs (i + 1)).toInt) (nrF (xs (i + 2)).toInt) (nrF (xs (i + 3)).toInt)) 0) hX hY hR hO sx sy dk dv)), MX hX cX tx, MX hY cY ty, MI hR cR ix]) = [(hm, .inr (2, MO p1 a1 b1 n sec dr (gdF (zb n) (or3 (nrF (xs (i + 1)).toInt) (nrF (xs (i + 2)).toInt) (nrF (xs (i + 3)).toInt)) 0) hX hY hR hO sx sy dk dv)), MX hX cX tx, MX hY cY ty, MI hR cR (if gdF (zb n) (or3 (nrF (xs (i + 1)).toInt) (nrF (xs (i + 2)).toInt) (nrF (xs (i + 3)).toInt)) 0 = 0 then va_up ix (xs (i + 1)).toInt.toNat ((ix (xs (i + 2)).toInt.toNat + ix (xs (i + 3)).toInt.toNat) % n) else ix)] := by split <;> rfl
  rw [ew] at hP1 hD1
  obtain ⟨hP, hD⟩ := fr_mid (w0 := (KO ho cL f :: kw1)) (w1 := [(hm, .inr (2, MO p1 a1 b1 n sec dr th hX hY hR hO sx sy dk dv)), MX hX cX tx, MX hY cY ty, MI hR cR ix]) (w2 := [MG hO cO g]) (w3 := [(hm, .inr (2, MO p1 a1 b1 n sec dr (gdF (zb n) (or3 (nrF (xs (i + 1)).toInt) (nrF (xs (i + 2)).toInt) (nrF (xs (i + 3)).toInt)) 0) hX hY hR hO sx sy dk dv)), MX hX cX tx, MX hY cY ty, MI hR cR (if gdF (zb n) (or3 (nrF (xs (i + 1)).toInt) (nrF (xs (i + 2)).toInt) (nrF (xs (i + 3)).toInt)) 0 = 0 then va_up ix (xs (i + 1)).toInt.toNat ((ix (xs (i + 2)).toInt.toNat + ix (xs (i + 3)).toInt.toNat) % n) else ix)]) hP hD jz1 jk1 hFc hP1 hD1
  refine w_drop hS.2.2 ?_
  have hS := (⟨hS.1, hS.2.1, fun _ h => nomatch h⟩ : va_S (AZ s.heap.size) s.heap H1 [])
  refine lv_aload_n C.1 C.2.1 dL_law_351 rfl (lv_at hl 3 rfl) ?_
  refine ca_V (As := []) (rest := []) C (c_X2_thrown l D hm p1 a1 b1 n sec dr (gdF (zb n) (or3 (nrF (xs (i + 1)).toInt) (nrF (xs (i + 2)).toInt) (nrF (xs (i + 3)).toInt)) 0) hX hY hR hO sx sy dk dv) (pcw_preV [] hN (fr_sub (w0 := (KO ho cL f :: kw1)) (w1 := [(hm, .inr (2, MO p1 a1 b1 n sec dr (gdF (zb n) (or3 (nrF (xs (i + 1)).toInt) (nrF (xs (i + 2)).toInt) (nrF (xs (i + 3)).toInt)) 0) hX hY hR hO sx sy dk dv))]) (w2 := [MX hX cX tx, MX hY cY ty, MI hR cR (if gdF (zb n) (or3 (nrF (xs (i + 1)).toInt) (nrF (xs (i + 2)).toInt) (nrF (xs (i + 3)).toInt)) 0 = 0 then va_up ix (xs (i + 1)).toInt.toNat ((ix (xs (i + 2)).toInt.toNat + ix (xs (i + 3)).toInt.toNat) % n) else ix), MG hO cO g]) hP hD).1 (hK.sub (tys' := []) [] rfl) 0 (ci := 2) rfl rfl) aw_b_X2_thrown aw_m_L_76 aw_v_X2_thrown aw_i_X2 aw_e_X2_thrown ⟨rfl, rfl⟩ 0 (by decide +kernel) rfl ⟨by decide, by decide⟩ hl.1 rfl (Nat.le_of_ble_eq_true rfl) dL_law_352 ⟨by omega, by omega⟩ ?_
  refine lv_iload C.1 C.2.1 dL_law_355 (lv_at hl 0 rfl) ?_
  refine ic_eq (tgt := 362) C dL_law_357 (by decide) ?_
  refine lv_goto (tgt := 1170) C.1 C.2.1 dL_law_362 (by decide) ?_
  refine W.widen (k := cells + 3) (n := slots + 20) (by omega) (by omega) ?_
  exact kk _ ls ⟨n, p0, a0, b0, gx, gy, (sec), dr, (gdF (zb n) (or3 (nrF (xs (i + 1)).toInt) (nrF (xs (i + 2)).toInt) (nrF (xs (i + 3)).toInt)) 0), (if gdF (zb n) (or3 (nrF (xs (i + 1)).toInt) (nrF (xs (i + 2)).toInt) (nrF (xs (i + 3)).toInt)) 0 = 0 then va_up ix (xs (i + 1)).toInt.toNat ((ix (xs (i + 2)).toInt.toNat + ix (xs (i + 3)).toInt.toNat) % n) else ix), tx, ty, kw1, _, f, hKR, ⟨hT, p1, a1, b1, sx, sy, dk, dv, g, rfl⟩, hP, hD⟩ hS (lv_sub (l' := [(4, .int (ii (i : Int))), (3, .ref ho), (2, .ref hm), (1, .ref hx), (0, .ref b)]) hl [1, 2, 3, 4, 5] rfl)
set_option maxRecDepth 100000 in
set_option maxHeartbeats 4000000 in
theorem lw_times (hC : LwC p l s m c b L xs) (hK : va_K D clX [(cI, .int), (cQ, .int), (cX, .int), (cY, .int), (cR, .int), (cO, .int), (cL, .long)] s) {H : Heap} (hI : LI D s.heap.size hx hr0 hq0 cI cQ hm hX hY hR hO cX cY cR cO ho cL H) (hS : va_S (AZ s.heap.size) s.heap H []) {i : Nat} (hi : i + 8 ≤ L) {cells slots : Nat} (hcs : cells + 3 ≤ room_1.cells ∧ slots + 20 ≤ room_1.slots) {ls : Array Slot} (hl : lv_has ls 8 [(4, .int (ii (i : Int))), (3, .ref ho), (2, .ref hm), (1, .ref hx), (0, .ref b)])
    (kk : ∀ (H1 : Heap) (ls : Array Slot), LI D s.heap.size hx hr0 hq0 cI cQ hm hX hY hR hO cX cY cR cO ho cL H1 → va_S (AZ s.heap.size) s.heap H1 [] → lv_has ls 8 [(4, .int (ii (i : Int))), (3, .ref ho), (2, .ref hm), (1, .ref hx), (0, .ref b)] → W p l e room_1 s m #[Value.ref b] below meth c H1 [] (cells + 3) (slots + 20) Q (F0 m 1170 ls [])) : W p l e room_1 s m #[Value.ref b] below meth c H [] cells slots Q (F0 m 365 ls []) := by
  obtain ⟨hL, C, hN, hXc, hZ, hV, hb, hLn⟩ := hC
  obtain ⟨n, p0, a0, b0, gx, gy, sec, dr, th, ix, tx, ty, kw, mw, f, hKR, hMR, hP, hD⟩ := hI
  have hix := hKR.ixle
  have hnn := hKR.nle
  have hsec := hKR.secle
  refine lv_aload_n C.1 C.2.1 dL_law_365 rfl (lv_at hl 3 rfl) ?_
  refine lv_aload_n C.1 C.2.1 dL_law_366 rfl (lv_at hl 4 rfl) ?_
  refine lv_iload C.1 C.2.1 dL_law_367 (lv_at hl 0 rfl) ?_
  refine i_const C dL_law_369 ?_
  refine i_add C dL_law_370 ?_
  refine s_ald C hV hb (Nat.not_le.mpr hb) hS (i + 1) (by omega) (by omega) (by omega) dL_law_371 ?_
  refine lv_aload_n C.1 C.2.1 dL_law_372 rfl (lv_at hl 4 rfl) ?_
  refine lv_iload C.1 C.2.1 dL_law_373 (lv_at hl 0 rfl) ?_
  refine i_const C dL_law_375 ?_
  refine i_add C dL_law_376 ?_
  refine s_ald C hV hb (Nat.not_le.mpr hb) hS (i + 2) (by omega) (by omega) (by omega) dL_law_377 ?_
  refine lv_aload_n C.1 C.2.1 dL_law_378 rfl (lv_at hl 4 rfl) ?_
  refine lv_iload C.1 C.2.1 dL_law_379 (lv_at hl 0 rfl) ?_
  refine i_const C dL_law_381 ?_
  refine i_add C dL_law_382 ?_
  refine s_ald C hV hb (Nat.not_le.mpr hb) hS (i + 3) (by omega) (by omega) (by omega) dL_law_383 ?_
  have hfr := fr_sub (w0 := [KO ho cL f]) (w1 := kw) (w2 := mw) hP hD
  have hFc := fr_free (w0 := [KO ho cL f]) (w1 := kw) (w2 := mw) hS.1 hD
  refine lc_S (As := [.ref hx, .int (ii ((xs (i + 1)).toInt)), .int (ii ((xs (i + 2)).toInt)), .int (ii ((xs (i + 3)).toInt))]) (rest := []) C (wL_times l hL D s.heap.size _ hx hr0 hq0 cI cQ n p0 a0 b0 gx gy sec dr ix tx ty kw hKR _ _ _ (rg_self _) (rg_self _) (rg_self _)) (pch_pre _ hXc (pcm_pre _ hN (Zs.on hZ hS (fun _ h => h)) hS.1 hfr.1 (hK.sub (tys' := [(cI, .int), (cQ, .int)]) [0, 1] rfl) hfr.2)) hS hFc aw_h_L_times aw_m_L_95 aw_s_L_times aw_i_L ⟨rfl, rfl⟩ 4 (by decide +kernel) rfl ⟨by decide, by decide⟩ hl.1 rfl (Nat.le_of_ble_eq_true rfl) dL_law_384 ⟨by omega, by omega⟩ (fun t H1 locs1 ht hvm _ hB jz1 jk1 hS => ?_)
  obtain ⟨kw1, hKR, hP1, hK1, hD1⟩ := hB
  rw [ht] at hP1
  obtain ⟨hP, hD⟩ := fr_mid (w0 := [KO ho cL f]) (w1 := kw) (w2 := mw) (w3 := kw1) hP hD jz1 jk1 hFc hP1 hD1
  refine w_drop hS.2.2 ?_
  have hS := (⟨hS.1, hS.2.1, fun _ h => nomatch h⟩ : va_S (AZ s.heap.size) s.heap H1 [])
  refine lv_istore C.1 C.2.1 dL_law_387 hl (by decide) rfl (fun ls hl => ?_)
  have hl : lv_has ls 8 [(5, .int (ii (gdF (zb n) (or3 (nrF (xs (i + 1)).toInt) (nrF (xs (i + 3)).toInt) 0) 0))), (4, .int (ii (i : Int))), (3, .ref ho), (2, .ref hm), (1, .ref hx), (0, .ref b)] := hl
  refine lv_aload_n C.1 C.2.1 dL_law_389 rfl (lv_at hl 3 rfl) ?_
  refine lv_aload_n C.1 C.2.1 dL_law_390 rfl (lv_at hl 5 rfl) ?_
  refine lv_iload C.1 C.2.1 dL_law_391 (lv_at hl 1 rfl) ?_
  refine i_const C dL_law_393 ?_
  refine i_add C dL_law_394 ?_
  refine s_ald C hV hb (Nat.not_le.mpr hb) hS (i + 1) (by omega) (by omega) (by omega) dL_law_395 ?_
  refine lv_aload_n C.1 C.2.1 dL_law_396 rfl (lv_at hl 5 rfl) ?_
  refine lv_iload C.1 C.2.1 dL_law_397 (lv_at hl 1 rfl) ?_
  refine i_const C dL_law_399 ?_
  refine i_add C dL_law_400 ?_
  refine s_ald C hV hb (Nat.not_le.mpr hb) hS (i + 2) (by omega) (by omega) (by omega) dL_law_401 ?_
  refine lv_aload_n C.1 C.2.1 dL_law_402 rfl (lv_at hl 5 rfl) ?_
  refine lv_iload C.1 C.2.1 dL_law_403 (lv_at hl 1 rfl) ?_
  refine i_const C dL_law_405 ?_
  refine i_add C dL_law_406 ?_
  refine s_ald C hV hb (Nat.not_le.mpr hb) hS (i + 3) (by omega) (by omega) (by omega) dL_law_407 ?_
  obtain ⟨hT, p1, a1, b1, sx, sy, dk, dv, g, rfl⟩ := hMR
  have hfr := fr_sub (w0 := (KO ho cL f :: kw1)) (w1 := [(hm, .inr (2, MO p1 a1 b1 n sec dr th hX hY hR hO sx sy dk dv)), MX hX cX tx, MX hY cY ty, MI hR cR ix]) (w2 := [MG hO cO g]) hP hD
  have hFc := fr_free (w0 := (KO ho cL f :: kw1)) (w1 := [(hm, .inr (2, MO p1 a1 b1 n sec dr th hX hY hR hO sx sy dk dv)), MX hX cX tx, MX hY cY ty, MI hR cR ix]) (w2 := [MG hO cO g]) hS.1 hD
  refine cn_V (As := [.int (ii ((xs (i + 1)).toInt)), .int (ii ((xs (i + 2)).toInt)), .int (ii ((xs (i + 3)).toInt))]) (rest := []) C (c_X2_times l D s.heap.size _ hm p1 a1 b1 n sec dr th hX hY hR hO sx sy dk dv cX cY cR tx ty ix hT hix hnn _ _ _ (rg_self _) (rg_self _) (rg_self _)) (pcm_preV _ hN (Zs.on hZ hS (fun _ h => h)) hS.1 hfr.1 (hK.sub (tys' := [(cX, .int), (cY, .int), (cR, .int)]) [2, 3, 4] rfl) hfr.2 0 (ci := 2) rfl rfl) hS hFc aw_b_X2_times aw_m_L_97 aw_v_X2_times aw_i_X2 aw_e_X2_times ⟨rfl, rfl⟩ 3 (by decide +kernel) rfl ⟨by decide, by decide⟩ hl.1 rfl (Nat.le_of_ble_eq_true rfl) dL_law_408 ⟨by omega, by omega⟩ (fun t H1 locs1 ht hvm _ hB jz1 jk1 hS => ?_)
  obtain ⟨hP1, hK1, hD1⟩ := hB
  rw [ht] at hP1
  have ew : (if gdF (zb n) (or3 (nrF (xs (i + 1)).toInt) (nrF (xs (i + 3)).toInt) 0) 0 = 0 then [(hm, .inr (2, MO p1 a1 b1 n sec dr (gdF (zb n) (or3 (nrF (xs (i + 1)).toInt) (nrF (xs (i + 3)).toInt) 0) 0) hX hY hR hO sx sy dk dv)), MX hX cX tx, MX hY cY ty, MI hR cR (va_up ix (xs (i + 1)).toInt.toNat (((xs (i + 2)).toInt % (n : Int)).toNat * ix (xs (i + 3)).toInt.toNat % n))] else [(hm, .inr (2, MO p1 a1 b1 n sec dr (gdF (zb n) (or3 (nrF (xs (i + 1)).toInt) (nrF (xs (i + 3)).toInt) 0) 0) hX hY hR hO sx sy dk dv)), MX hX cX tx, MX hY cY ty, MI hR cR ix]) = [(hm, .inr (2, MO p1 a1 b1 n sec dr (gdF (zb n) (or3 (nrF (xs (i + 1)).toInt) (nrF (xs (i + 3)).toInt) 0) 0) hX hY hR hO sx sy dk dv)), MX hX cX tx, MX hY cY ty, MI hR cR (if gdF (zb n) (or3 (nrF (xs (i + 1)).toInt) (nrF (xs (i + 3)).toInt) 0) 0 = 0 then va_up ix (xs (i + 1)).toInt.toNat (((xs (i + 2)).toInt % (n : Int)).toNat * ix (xs (i + 3)).toInt.toNat % n) else ix)] := by split <;> rfl
  rw [ew] at hP1 hD1
  obtain ⟨hP, hD⟩ := fr_mid (w0 := (KO ho cL f :: kw1)) (w1 := [(hm, .inr (2, MO p1 a1 b1 n sec dr th hX hY hR hO sx sy dk dv)), MX hX cX tx, MX hY cY ty, MI hR cR ix]) (w2 := [MG hO cO g]) (w3 := [(hm, .inr (2, MO p1 a1 b1 n sec dr (gdF (zb n) (or3 (nrF (xs (i + 1)).toInt) (nrF (xs (i + 3)).toInt) 0) 0) hX hY hR hO sx sy dk dv)), MX hX cX tx, MX hY cY ty, MI hR cR (if gdF (zb n) (or3 (nrF (xs (i + 1)).toInt) (nrF (xs (i + 3)).toInt) 0) 0 = 0 then va_up ix (xs (i + 1)).toInt.toNat (((xs (i + 2)).toInt % (n : Int)).toNat * ix (xs (i + 3)).toInt.toNat % n) else ix)]) hP hD jz1 jk1 hFc hP1 hD1
  refine w_drop hS.2.2 ?_
  have hS := (⟨hS.1, hS.2.1, fun _ h => nomatch h⟩ : va_S (AZ s.heap.size) s.heap H1 [])
  refine lv_aload_n C.1 C.2.1 dL_law_411 rfl (lv_at hl 3 rfl) ?_
  refine ca_V (As := []) (rest := []) C (c_X2_thrown l D hm p1 a1 b1 n sec dr (gdF (zb n) (or3 (nrF (xs (i + 1)).toInt) (nrF (xs (i + 3)).toInt) 0) 0) hX hY hR hO sx sy dk dv) (pcw_preV [] hN (fr_sub (w0 := (KO ho cL f :: kw1)) (w1 := [(hm, .inr (2, MO p1 a1 b1 n sec dr (gdF (zb n) (or3 (nrF (xs (i + 1)).toInt) (nrF (xs (i + 3)).toInt) 0) 0) hX hY hR hO sx sy dk dv))]) (w2 := [MX hX cX tx, MX hY cY ty, MI hR cR (if gdF (zb n) (or3 (nrF (xs (i + 1)).toInt) (nrF (xs (i + 3)).toInt) 0) 0 = 0 then va_up ix (xs (i + 1)).toInt.toNat (((xs (i + 2)).toInt % (n : Int)).toNat * ix (xs (i + 3)).toInt.toNat % n) else ix), MG hO cO g]) hP hD).1 (hK.sub (tys' := []) [] rfl) 0 (ci := 2) rfl rfl) aw_b_X2_thrown aw_m_L_76 aw_v_X2_thrown aw_i_X2 aw_e_X2_thrown ⟨rfl, rfl⟩ 0 (by decide +kernel) rfl ⟨by decide, by decide⟩ hl.1 rfl (Nat.le_of_ble_eq_true rfl) dL_law_412 ⟨by omega, by omega⟩ ?_
  refine lv_iload C.1 C.2.1 dL_law_415 (lv_at hl 0 rfl) ?_
  refine ic_eq (tgt := 422) C dL_law_417 (by decide) ?_
  refine lv_goto (tgt := 1170) C.1 C.2.1 dL_law_422 (by decide) ?_
  refine W.widen (k := cells + 3) (n := slots + 20) (by omega) (by omega) ?_
  exact kk _ ls ⟨n, p0, a0, b0, gx, gy, (sec), dr, (gdF (zb n) (or3 (nrF (xs (i + 1)).toInt) (nrF (xs (i + 3)).toInt) 0) 0), (if gdF (zb n) (or3 (nrF (xs (i + 1)).toInt) (nrF (xs (i + 3)).toInt) 0) 0 = 0 then va_up ix (xs (i + 1)).toInt.toNat (((xs (i + 2)).toInt % (n : Int)).toNat * ix (xs (i + 3)).toInt.toNat % n) else ix), tx, ty, kw1, _, f, hKR, ⟨hT, p1, a1, b1, sx, sy, dk, dv, g, rfl⟩, hP, hD⟩ hS (lv_sub (l' := [(4, .int (ii (i : Int))), (3, .ref ho), (2, .ref hm), (1, .ref hx), (0, .ref b)]) hl [1, 2, 3, 4, 5] rfl)
set_option maxRecDepth 100000 in
set_option maxHeartbeats 4000000 in
theorem lw_decode (hC : LwC p l s m c b L xs) (hK : va_K D clX [(cI, .int), (cQ, .int), (cX, .int), (cY, .int), (cR, .int), (cO, .int), (cL, .long)] s) {H : Heap} (hI : LI D s.heap.size hx hr0 hq0 cI cQ hm hX hY hR hO cX cY cR cO ho cL H) (hS : va_S (AZ s.heap.size) s.heap H []) {i : Nat} (hi : i + 8 ≤ L) {cells slots : Nat} (hcs : cells + 3 ≤ room_1.cells ∧ slots + 20 ≤ room_1.slots) {ls : Array Slot} (hl : lv_has ls 8 [(4, .int (ii (i : Int))), (3, .ref ho), (2, .ref hm), (1, .ref hx), (0, .ref b)])
    (kk : ∀ (H1 : Heap) (ls : Array Slot), LI D s.heap.size hx hr0 hq0 cI cQ hm hX hY hR hO cX cY cR cO ho cL H1 → va_S (AZ s.heap.size) s.heap H1 [] → lv_has ls 8 [(4, .int (ii (i : Int))), (3, .ref ho), (2, .ref hm), (1, .ref hx), (0, .ref b)] → W p l e room_1 s m #[Value.ref b] below meth c H1 [] (cells + 3) (slots + 20) Q (F0 m 1170 ls [])) : W p l e room_1 s m #[Value.ref b] below meth c H [] cells slots Q (F0 m 620 ls []) := by
  obtain ⟨hL, C, hN, hXc, hZ, hV, hb, hLn⟩ := hC
  obtain ⟨n, p0, a0, b0, gx, gy, sec, dr, th, ix, tx, ty, kw, mw, f, hKR, hMR, hP, hD⟩ := hI
  have hix := hKR.ixle
  have hnn := hKR.nle
  have hsec := hKR.secle
  refine lv_aload_n C.1 C.2.1 dL_law_620 rfl (lv_at hl 3 rfl) ?_
  refine lv_aload_n C.1 C.2.1 dL_law_621 rfl (lv_at hl 4 rfl) ?_
  refine lv_iload C.1 C.2.1 dL_law_622 (lv_at hl 0 rfl) ?_
  refine i_const C dL_law_624 ?_
  refine i_add C dL_law_625 ?_
  refine s_ald C hV hb (Nat.not_le.mpr hb) hS (i + 1) (by omega) (by omega) (by omega) dL_law_626 ?_
  refine lv_aload_n C.1 C.2.1 dL_law_627 rfl (lv_at hl 4 rfl) ?_
  refine lv_iload C.1 C.2.1 dL_law_628 (lv_at hl 0 rfl) ?_
  refine i_const C dL_law_630 ?_
  refine i_add C dL_law_631 ?_
  refine s_ald C hV hb (Nat.not_le.mpr hb) hS (i + 2) (by omega) (by omega) (by omega) dL_law_632 ?_
  refine lv_aload_n C.1 C.2.1 dL_law_633 rfl (lv_at hl 4 rfl) ?_
  refine lv_iload C.1 C.2.1 dL_law_634 (lv_at hl 0 rfl) ?_
  refine i_const C dL_law_636 ?_
  refine i_add C dL_law_637 ?_
  refine s_ald C hV hb (Nat.not_le.mpr hb) hS (i + 3) (by omega) (by omega) (by omega) dL_law_638 ?_
  refine lv_i2l C.1 C.2.1 dL_law_639 rfl ?_
  refine i_bipush C dL_law_640 (by decide +kernel) ?_
  refine lv_lshl C.1 C.2.1 dL_law_642 rfl ?_
  refine lv_aload_n C.1 C.2.1 dL_law_643 rfl (lv_at hl 4 rfl) ?_
  refine lv_iload C.1 C.2.1 dL_law_644 (lv_at hl 0 rfl) ?_
  refine i_const C dL_law_646 ?_
  refine i_add C dL_law_647 ?_
  refine s_ald C hV hb (Nat.not_le.mpr hb) hS (i + 4) (by omega) (by omega) (by omega) dL_law_648 ?_
  refine lv_i2l C.1 C.2.1 dL_law_649 rfl ?_
  refine l_ldc2 (n := 4294967295) C dL_law_650 aw_k_L_109 (by decide +kernel) ?_
  refine lv_land C.1 C.2.1 dL_law_653 ?_
  refine lv_lor C.1 C.2.1 dL_law_654 ?_
  obtain ⟨z1, hz1, ez1⟩ := li_of (((ii ((xs (i + 3)).toInt)).toInt64 <<< ((ii 32).toInt64 &&& 63)) ||| (((ii ((xs (i + 4)).toInt)).toInt64) &&& li 4294967295))
  rw [ez1]
  have hfr := fr_sub (w0 := [KO ho cL f]) (w1 := kw) (w2 := mw) hP hD
  have hFc := fr_free (w0 := [KO ho cL f]) (w1 := kw) (w2 := mw) hS.1 hD
  refine lc_S (As := [.ref hx, .int (ii ((xs (i + 1)).toInt)), .int (ii ((xs (i + 2)).toInt)), .long (li z1)]) (rest := []) C (wL_decode l hL D s.heap.size _ hx hr0 hq0 cI cQ n p0 a0 b0 gx gy sec dr ix tx ty kw hKR _ _ _ (rg_self _) (rg_self _) hz1) (pch_pre _ hXc (pcm_pre _ hN (Zs.on hZ hS (fun _ h => h)) hS.1 hfr.1 (hK.sub (tys' := [(cI, .int), (cQ, .int)]) [0, 1] rfl) hfr.2)) hS hFc aw_h_L_decode aw_m_L_111 aw_s_L_decode aw_i_L ⟨rfl, rfl⟩ 4 (by decide +kernel) rfl ⟨by decide, by decide⟩ hl.1 rfl (Nat.le_of_ble_eq_true rfl) dL_law_655 ⟨by omega, by omega⟩ (fun t H1 locs1 ht hvm _ hB jz1 jk1 hS => ?_)
  obtain ⟨kw1, hKR, hP1, hK1, hD1⟩ := hB
  rw [ht] at hP1
  obtain ⟨hP, hD⟩ := fr_mid (w0 := [KO ho cL f]) (w1 := kw) (w2 := mw) (w3 := kw1) hP hD jz1 jk1 hFc hP1 hD1
  refine w_drop hS.2.2 ?_
  have hS := (⟨hS.1, hS.2.1, fun _ h => nomatch h⟩ : va_S (AZ s.heap.size) s.heap H1 [])
  refine lv_istore C.1 C.2.1 dL_law_658 hl (by decide) rfl (fun ls hl => ?_)
  have hl : lv_has ls 8 [(5, .int (ii (gdF (zb n) (nrF (xs (i + 1)).toInt) (ng1 (reF tx ty n (xs (i + 2)).toInt z1))))), (4, .int (ii (i : Int))), (3, .ref ho), (2, .ref hm), (1, .ref hx), (0, .ref b)] := hl
  refine lv_aload_n C.1 C.2.1 dL_law_660 rfl (lv_at hl 3 rfl) ?_
  refine lv_aload_n C.1 C.2.1 dL_law_661 rfl (lv_at hl 5 rfl) ?_
  refine lv_iload C.1 C.2.1 dL_law_662 (lv_at hl 1 rfl) ?_
  refine i_const C dL_law_664 ?_
  refine i_add C dL_law_665 ?_
  refine s_ald C hV hb (Nat.not_le.mpr hb) hS (i + 1) (by omega) (by omega) (by omega) dL_law_666 ?_
  refine lv_aload_n C.1 C.2.1 dL_law_667 rfl (lv_at hl 5 rfl) ?_
  refine lv_iload C.1 C.2.1 dL_law_668 (lv_at hl 1 rfl) ?_
  refine i_const C dL_law_670 ?_
  refine i_add C dL_law_671 ?_
  refine s_ald C hV hb (Nat.not_le.mpr hb) hS (i + 2) (by omega) (by omega) (by omega) dL_law_672 ?_
  refine lv_aload_n C.1 C.2.1 dL_law_673 rfl (lv_at hl 5 rfl) ?_
  refine lv_iload C.1 C.2.1 dL_law_674 (lv_at hl 1 rfl) ?_
  refine i_const C dL_law_676 ?_
  refine i_add C dL_law_677 ?_
  refine s_ald C hV hb (Nat.not_le.mpr hb) hS (i + 3) (by omega) (by omega) (by omega) dL_law_678 ?_
  refine lv_i2l C.1 C.2.1 dL_law_679 rfl ?_
  refine i_bipush C dL_law_680 (by decide +kernel) ?_
  refine lv_lshl C.1 C.2.1 dL_law_682 rfl ?_
  refine lv_aload_n C.1 C.2.1 dL_law_683 rfl (lv_at hl 5 rfl) ?_
  refine lv_iload C.1 C.2.1 dL_law_684 (lv_at hl 1 rfl) ?_
  refine i_const C dL_law_686 ?_
  refine i_add C dL_law_687 ?_
  refine s_ald C hV hb (Nat.not_le.mpr hb) hS (i + 4) (by omega) (by omega) (by omega) dL_law_688 ?_
  refine lv_i2l C.1 C.2.1 dL_law_689 rfl ?_
  refine l_ldc2 (n := 4294967295) C dL_law_690 aw_k_L_109 (by decide +kernel) ?_
  refine lv_land C.1 C.2.1 dL_law_693 ?_
  refine lv_lor C.1 C.2.1 dL_law_694 ?_
  rw [ez1]
  obtain ⟨hT, p1, a1, b1, sx, sy, dk, dv, g, rfl⟩ := hMR
  have hfr := fr_sub (w0 := (KO ho cL f :: kw1)) (w1 := [(hm, .inr (2, MO p1 a1 b1 n sec dr th hX hY hR hO sx sy dk dv)), MX hX cX tx, MX hY cY ty, MI hR cR ix]) (w2 := [MG hO cO g]) hP hD
  have hFc := fr_free (w0 := (KO ho cL f :: kw1)) (w1 := [(hm, .inr (2, MO p1 a1 b1 n sec dr th hX hY hR hO sx sy dk dv)), MX hX cX tx, MX hY cY ty, MI hR cR ix]) (w2 := [MG hO cO g]) hS.1 hD
  refine cn_V (As := [.int (ii ((xs (i + 1)).toInt)), .int (ii ((xs (i + 2)).toInt)), .long (li z1)]) (rest := []) C (c_X2_decode l D s.heap.size _ hm p1 a1 b1 n sec dr th hX hY hR hO sx sy dk dv cX cY cR tx ty ix hT hix hnn _ _ _ (rg_self _) (rg_self _) hz1) (pcm_preV _ hN (Zs.on hZ hS (fun _ h => h)) hS.1 hfr.1 (hK.sub (tys' := [(cX, .int), (cY, .int), (cR, .int)]) [2, 3, 4] rfl) hfr.2 0 (ci := 2) rfl rfl) hS hFc aw_b_X2_decode aw_m_L_114 aw_v_X2_decode aw_i_X2 aw_e_X2_decode ⟨rfl, rfl⟩ 3 (by decide +kernel) rfl ⟨by decide, by decide⟩ hl.1 rfl (Nat.le_of_ble_eq_true rfl) dL_law_695 ⟨by omega, by omega⟩ (fun t H1 locs1 ht hvm _ hB jz1 jk1 hS => ?_)
  obtain ⟨hP1, hK1, hD1⟩ := hB
  rw [ht] at hP1
  have ew : (if gdF (zb n) (nrF (xs (i + 1)).toInt) (ng1 (reF tx ty n (xs (i + 2)).toInt z1)) = 0 then [(hm, .inr (2, MO p1 a1 b1 n sec dr (gdF (zb n) (nrF (xs (i + 1)).toInt) (ng1 (reF tx ty n (xs (i + 2)).toInt z1))) hX hY hR hO sx sy dk dv)), MX hX cX tx, MX hY cY ty, MI hR cR (va_up ix (xs (i + 1)).toInt.toNat (reF tx ty n (xs (i + 2)).toInt z1).toNat)] else [(hm, .inr (2, MO p1 a1 b1 n sec dr (gdF (zb n) (nrF (xs (i + 1)).toInt) (ng1 (reF tx ty n (xs (i + 2)).toInt z1))) hX hY hR hO sx sy dk dv)), MX hX cX tx, MX hY cY ty, MI hR cR ix]) = [(hm, .inr (2, MO p1 a1 b1 n sec dr (gdF (zb n) (nrF (xs (i + 1)).toInt) (ng1 (reF tx ty n (xs (i + 2)).toInt z1))) hX hY hR hO sx sy dk dv)), MX hX cX tx, MX hY cY ty, MI hR cR (if gdF (zb n) (nrF (xs (i + 1)).toInt) (ng1 (reF tx ty n (xs (i + 2)).toInt z1)) = 0 then va_up ix (xs (i + 1)).toInt.toNat (reF tx ty n (xs (i + 2)).toInt z1).toNat else ix)] := by split <;> rfl
  rw [ew] at hP1 hD1
  obtain ⟨hP, hD⟩ := fr_mid (w0 := (KO ho cL f :: kw1)) (w1 := [(hm, .inr (2, MO p1 a1 b1 n sec dr th hX hY hR hO sx sy dk dv)), MX hX cX tx, MX hY cY ty, MI hR cR ix]) (w2 := [MG hO cO g]) (w3 := [(hm, .inr (2, MO p1 a1 b1 n sec dr (gdF (zb n) (nrF (xs (i + 1)).toInt) (ng1 (reF tx ty n (xs (i + 2)).toInt z1))) hX hY hR hO sx sy dk dv)), MX hX cX tx, MX hY cY ty, MI hR cR (if gdF (zb n) (nrF (xs (i + 1)).toInt) (ng1 (reF tx ty n (xs (i + 2)).toInt z1)) = 0 then va_up ix (xs (i + 1)).toInt.toNat (reF tx ty n (xs (i + 2)).toInt z1).toNat else ix)]) hP hD jz1 jk1 hFc hP1 hD1
  refine w_drop hS.2.2 ?_
  have hS := (⟨hS.1, hS.2.1, fun _ h => nomatch h⟩ : va_S (AZ s.heap.size) s.heap H1 [])
  refine lv_aload_n C.1 C.2.1 dL_law_698 rfl (lv_at hl 3 rfl) ?_
  refine ca_V (As := []) (rest := []) C (c_X2_thrown l D hm p1 a1 b1 n sec dr (gdF (zb n) (nrF (xs (i + 1)).toInt) (ng1 (reF tx ty n (xs (i + 2)).toInt z1))) hX hY hR hO sx sy dk dv) (pcw_preV [] hN (fr_sub (w0 := (KO ho cL f :: kw1)) (w1 := [(hm, .inr (2, MO p1 a1 b1 n sec dr (gdF (zb n) (nrF (xs (i + 1)).toInt) (ng1 (reF tx ty n (xs (i + 2)).toInt z1))) hX hY hR hO sx sy dk dv))]) (w2 := [MX hX cX tx, MX hY cY ty, MI hR cR (if gdF (zb n) (nrF (xs (i + 1)).toInt) (ng1 (reF tx ty n (xs (i + 2)).toInt z1)) = 0 then va_up ix (xs (i + 1)).toInt.toNat (reF tx ty n (xs (i + 2)).toInt z1).toNat else ix), MG hO cO g]) hP hD).1 (hK.sub (tys' := []) [] rfl) 0 (ci := 2) rfl rfl) aw_b_X2_thrown aw_m_L_76 aw_v_X2_thrown aw_i_X2 aw_e_X2_thrown ⟨rfl, rfl⟩ 0 (by decide +kernel) rfl ⟨by decide, by decide⟩ hl.1 rfl (Nat.le_of_ble_eq_true rfl) dL_law_699 ⟨by omega, by omega⟩ ?_
  refine lv_iload C.1 C.2.1 dL_law_702 (lv_at hl 0 rfl) ?_
  refine ic_eq (tgt := 709) C dL_law_704 (by decide) ?_
  refine lv_goto (tgt := 1170) C.1 C.2.1 dL_law_709 (by decide) ?_
  refine W.widen (k := cells + 3) (n := slots + 20) (by omega) (by omega) ?_
  exact kk _ ls ⟨n, p0, a0, b0, gx, gy, (sec), dr, (gdF (zb n) (nrF (xs (i + 1)).toInt) (ng1 (reF tx ty n (xs (i + 2)).toInt z1))), (if gdF (zb n) (nrF (xs (i + 1)).toInt) (ng1 (reF tx ty n (xs (i + 2)).toInt z1)) = 0 then va_up ix (xs (i + 1)).toInt.toNat (reF tx ty n (xs (i + 2)).toInt z1).toNat else ix), tx, ty, kw1, _, f, hKR, ⟨hT, p1, a1, b1, sx, sy, dk, dv, g, rfl⟩, hP, hD⟩ hS (lv_sub (l' := [(4, .int (ii (i : Int))), (3, .ref ho), (2, .ref hm), (1, .ref hx), (0, .ref b)]) hl [1, 2, 3, 4, 5] rfl)
set_option maxRecDepth 100000 in
set_option maxHeartbeats 4000000 in
theorem lw_key (hC : LwC p l s m c b L xs) (hK : va_K D clX [(cI, .int), (cQ, .int), (cX, .int), (cY, .int), (cR, .int), (cO, .int), (cL, .long)] s) {H : Heap} (hI : LI D s.heap.size hx hr0 hq0 cI cQ hm hX hY hR hO cX cY cR cO ho cL H) (hS : va_S (AZ s.heap.size) s.heap H []) {i : Nat} (hi : i + 8 ≤ L) {cells slots : Nat} (hcs : cells + 3 ≤ room_1.cells ∧ slots + 20 ≤ room_1.slots) {ls : Array Slot} (hl : lv_has ls 8 [(4, .int (ii (i : Int))), (3, .ref ho), (2, .ref hm), (1, .ref hx), (0, .ref b)])
    (kk : ∀ (H1 : Heap) (ls : Array Slot), LI D s.heap.size hx hr0 hq0 cI cQ hm hX hY hR hO cX cY cR cO ho cL H1 → va_S (AZ s.heap.size) s.heap H1 [] → lv_has ls 8 [(4, .int (ii (i : Int))), (3, .ref ho), (2, .ref hm), (1, .ref hx), (0, .ref b)] → W p l e room_1 s m #[Value.ref b] below meth c H1 [] (cells + 3) (slots + 20) Q (F0 m 1170 ls [])) : W p l e room_1 s m #[Value.ref b] below meth c H [] cells slots Q (F0 m 712 ls []) := by
  obtain ⟨hL, C, hN, hXc, hZ, hV, hb, hLn⟩ := hC
  obtain ⟨n, p0, a0, b0, gx, gy, sec, dr, th, ix, tx, ty, kw, mw, f, hKR, hMR, hP, hD⟩ := hI
  have hix := hKR.ixle
  have hnn := hKR.nle
  have hsec := hKR.secle
  refine lv_aload_n C.1 C.2.1 dL_law_712 rfl (lv_at hl 3 rfl) ?_
  refine lv_aload_n C.1 C.2.1 dL_law_713 rfl (lv_at hl 4 rfl) ?_
  refine lv_iload C.1 C.2.1 dL_law_714 (lv_at hl 0 rfl) ?_
  refine i_const C dL_law_716 ?_
  refine i_add C dL_law_717 ?_
  refine s_ald C hV hb (Nat.not_le.mpr hb) hS (i + 1) (by omega) (by omega) (by omega) dL_law_718 ?_
  refine lv_aload_n C.1 C.2.1 dL_law_719 rfl (lv_at hl 4 rfl) ?_
  refine lv_iload C.1 C.2.1 dL_law_720 (lv_at hl 0 rfl) ?_
  refine i_const C dL_law_722 ?_
  refine i_add C dL_law_723 ?_
  refine s_ald C hV hb (Nat.not_le.mpr hb) hS (i + 2) (by omega) (by omega) (by omega) dL_law_724 ?_
  have hfr := fr_sub (w0 := [KO ho cL f]) (w1 := kw) (w2 := mw) hP hD
  have hFc := fr_free (w0 := [KO ho cL f]) (w1 := kw) (w2 := mw) hS.1 hD
  refine lc_S (As := [.ref hx, .int (ii ((xs (i + 1)).toInt)), .int (ii ((xs (i + 2)).toInt))]) (rest := []) C (wL_key l hL D s.heap.size _ hx hr0 hq0 cI cQ n p0 a0 b0 gx gy sec dr ix tx ty kw hKR _ _ (rg_self _) (rg_self _)) (pch_pre _ hXc (pcm_pre _ hN (Zs.on hZ hS (fun _ h => h)) hS.1 hfr.1 (hK.sub (tys' := [(cI, .int), (cQ, .int)]) [0, 1] rfl) hfr.2)) hS hFc aw_h_L_key aw_m_L_115 aw_s_L_key aw_i_L ⟨rfl, rfl⟩ 3 (by decide +kernel) rfl ⟨by decide, by decide⟩ hl.1 rfl (Nat.le_of_ble_eq_true rfl) dL_law_725 ⟨by omega, by omega⟩ (fun t H1 locs1 ht hvm _ hB jz1 jk1 hS => ?_)
  obtain ⟨kw1, hKR, hP1, hK1, hD1⟩ := hB
  rw [ht] at hP1
  obtain ⟨hP, hD⟩ := fr_mid (w0 := [KO ho cL f]) (w1 := kw) (w2 := mw) (w3 := kw1) hP hD jz1 jk1 hFc hP1 hD1
  refine w_drop hS.2.2 ?_
  have hS := (⟨hS.1, hS.2.1, fun _ h => nomatch h⟩ : va_S (AZ s.heap.size) s.heap H1 [])
  refine lv_istore C.1 C.2.1 dL_law_728 hl (by decide) rfl (fun ls hl => ?_)
  have hl : lv_has ls 8 [(5, .int (ii (gdF (zb n) (nrF (xs (i + 1)).toInt) (kyF n (xs (i + 2)).toInt)))), (4, .int (ii (i : Int))), (3, .ref ho), (2, .ref hm), (1, .ref hx), (0, .ref b)] := hl
  refine lv_aload_n C.1 C.2.1 dL_law_730 rfl (lv_at hl 3 rfl) ?_
  refine lv_aload_n C.1 C.2.1 dL_law_731 rfl (lv_at hl 5 rfl) ?_
  refine lv_iload C.1 C.2.1 dL_law_732 (lv_at hl 1 rfl) ?_
  refine i_const C dL_law_734 ?_
  refine i_add C dL_law_735 ?_
  refine s_ald C hV hb (Nat.not_le.mpr hb) hS (i + 1) (by omega) (by omega) (by omega) dL_law_736 ?_
  refine lv_aload_n C.1 C.2.1 dL_law_737 rfl (lv_at hl 5 rfl) ?_
  refine lv_iload C.1 C.2.1 dL_law_738 (lv_at hl 1 rfl) ?_
  refine i_const C dL_law_740 ?_
  refine i_add C dL_law_741 ?_
  refine s_ald C hV hb (Nat.not_le.mpr hb) hS (i + 2) (by omega) (by omega) (by omega) dL_law_742 ?_
  obtain ⟨hT, p1, a1, b1, sx, sy, dk, dv, g, rfl⟩ := hMR
  have hfr := fr_sub (w0 := (KO ho cL f :: kw1)) (w1 := [(hm, .inr (2, MO p1 a1 b1 n sec dr th hX hY hR hO sx sy dk dv)), MX hX cX tx, MX hY cY ty, MI hR cR ix]) (w2 := [MG hO cO g]) hP hD
  have hFc := fr_free (w0 := (KO ho cL f :: kw1)) (w1 := [(hm, .inr (2, MO p1 a1 b1 n sec dr th hX hY hR hO sx sy dk dv)), MX hX cX tx, MX hY cY ty, MI hR cR ix]) (w2 := [MG hO cO g]) hS.1 hD
  refine cn_V (As := [.int (ii ((xs (i + 1)).toInt)), .int (ii ((xs (i + 2)).toInt))]) (rest := []) C (c_X2_key l D s.heap.size _ hm p1 a1 b1 n sec dr th hX hY hR hO sx sy dk dv cX cY cR tx ty ix hT hix hnn _ _ (rg_self _) (rg_self _)) (pcm_preV _ hN (Zs.on hZ hS (fun _ h => h)) hS.1 hfr.1 (hK.sub (tys' := [(cX, .int), (cY, .int), (cR, .int)]) [2, 3, 4] rfl) hfr.2 0 (ci := 2) rfl rfl) hS hFc aw_b_X2_key aw_m_L_118 aw_v_X2_key aw_i_X2 aw_e_X2_key ⟨rfl, rfl⟩ 2 (by decide +kernel) rfl ⟨by decide, by decide⟩ hl.1 rfl (Nat.le_of_ble_eq_true rfl) dL_law_743 ⟨by omega, by omega⟩ (fun t H1 locs1 ht hvm _ hB jz1 jk1 hS => ?_)
  obtain ⟨hP1, hK1, hD1⟩ := hB
  rw [ht] at hP1
  have ew : (if gdF (zb n) (nrF (xs (i + 1)).toInt) (kyF n (xs (i + 2)).toInt) = 0 then [(hm, .inr (2, MO p1 a1 b1 n ((xs (i + 2)).toInt) dr (gdF (zb n) (nrF (xs (i + 1)).toInt) (kyF n (xs (i + 2)).toInt)) hX hY hR hO sx sy dk dv)), MX hX cX tx, MX hY cY ty, MI hR cR (va_up ix (xs (i + 1)).toInt.toNat (xs (i + 2)).toInt.toNat)] else [(hm, .inr (2, MO p1 a1 b1 n sec dr (gdF (zb n) (nrF (xs (i + 1)).toInt) (kyF n (xs (i + 2)).toInt)) hX hY hR hO sx sy dk dv)), MX hX cX tx, MX hY cY ty, MI hR cR ix]) = [(hm, .inr (2, MO p1 a1 b1 n (if gdF (zb n) (nrF (xs (i + 1)).toInt) (kyF n (xs (i + 2)).toInt) = 0 then (xs (i + 2)).toInt else sec) dr (gdF (zb n) (nrF (xs (i + 1)).toInt) (kyF n (xs (i + 2)).toInt)) hX hY hR hO sx sy dk dv)), MX hX cX tx, MX hY cY ty, MI hR cR (if gdF (zb n) (nrF (xs (i + 1)).toInt) (kyF n (xs (i + 2)).toInt) = 0 then va_up ix (xs (i + 1)).toInt.toNat (xs (i + 2)).toInt.toNat else ix)] := by split <;> rfl
  rw [ew] at hP1 hD1
  obtain ⟨hP, hD⟩ := fr_mid (w0 := (KO ho cL f :: kw1)) (w1 := [(hm, .inr (2, MO p1 a1 b1 n sec dr th hX hY hR hO sx sy dk dv)), MX hX cX tx, MX hY cY ty, MI hR cR ix]) (w2 := [MG hO cO g]) (w3 := [(hm, .inr (2, MO p1 a1 b1 n (if gdF (zb n) (nrF (xs (i + 1)).toInt) (kyF n (xs (i + 2)).toInt) = 0 then (xs (i + 2)).toInt else sec) dr (gdF (zb n) (nrF (xs (i + 1)).toInt) (kyF n (xs (i + 2)).toInt)) hX hY hR hO sx sy dk dv)), MX hX cX tx, MX hY cY ty, MI hR cR (if gdF (zb n) (nrF (xs (i + 1)).toInt) (kyF n (xs (i + 2)).toInt) = 0 then va_up ix (xs (i + 1)).toInt.toNat (xs (i + 2)).toInt.toNat else ix)]) hP hD jz1 jk1 hFc hP1 hD1
  refine w_drop hS.2.2 ?_
  have hS := (⟨hS.1, hS.2.1, fun _ h => nomatch h⟩ : va_S (AZ s.heap.size) s.heap H1 [])
  refine lv_aload_n C.1 C.2.1 dL_law_746 rfl (lv_at hl 3 rfl) ?_
  refine ca_V (As := []) (rest := []) C (c_X2_thrown l D hm p1 a1 b1 n (if gdF (zb n) (nrF (xs (i + 1)).toInt) (kyF n (xs (i + 2)).toInt) = 0 then (xs (i + 2)).toInt else sec) dr (gdF (zb n) (nrF (xs (i + 1)).toInt) (kyF n (xs (i + 2)).toInt)) hX hY hR hO sx sy dk dv) (pcw_preV [] hN (fr_sub (w0 := (KO ho cL f :: kw1)) (w1 := [(hm, .inr (2, MO p1 a1 b1 n (if gdF (zb n) (nrF (xs (i + 1)).toInt) (kyF n (xs (i + 2)).toInt) = 0 then (xs (i + 2)).toInt else sec) dr (gdF (zb n) (nrF (xs (i + 1)).toInt) (kyF n (xs (i + 2)).toInt)) hX hY hR hO sx sy dk dv))]) (w2 := [MX hX cX tx, MX hY cY ty, MI hR cR (if gdF (zb n) (nrF (xs (i + 1)).toInt) (kyF n (xs (i + 2)).toInt) = 0 then va_up ix (xs (i + 1)).toInt.toNat (xs (i + 2)).toInt.toNat else ix), MG hO cO g]) hP hD).1 (hK.sub (tys' := []) [] rfl) 0 (ci := 2) rfl rfl) aw_b_X2_thrown aw_m_L_76 aw_v_X2_thrown aw_i_X2 aw_e_X2_thrown ⟨rfl, rfl⟩ 0 (by decide +kernel) rfl ⟨by decide, by decide⟩ hl.1 rfl (Nat.le_of_ble_eq_true rfl) dL_law_747 ⟨by omega, by omega⟩ ?_
  refine lv_iload C.1 C.2.1 dL_law_750 (lv_at hl 0 rfl) ?_
  refine ic_eq (tgt := 757) C dL_law_752 (by decide) ?_
  refine lv_goto (tgt := 1170) C.1 C.2.1 dL_law_757 (by decide) ?_
  refine W.widen (k := cells + 3) (n := slots + 20) (by omega) (by omega) ?_
  exact kk _ ls ⟨n, p0, a0, b0, gx, gy, (if gdF (zb n) (nrF (xs (i + 1)).toInt) (kyF n (xs (i + 2)).toInt) = 0 then (xs (i + 2)).toInt else sec), dr, (gdF (zb n) (nrF (xs (i + 1)).toInt) (kyF n (xs (i + 2)).toInt)), (if gdF (zb n) (nrF (xs (i + 1)).toInt) (kyF n (xs (i + 2)).toInt) = 0 then va_up ix (xs (i + 1)).toInt.toNat (xs (i + 2)).toInt.toNat else ix), tx, ty, kw1, _, f, hKR, ⟨hT, p1, a1, b1, sx, sy, dk, dv, g, rfl⟩, hP, hD⟩ hS (lv_sub (l' := [(4, .int (ii (i : Int))), (3, .ref ho), (2, .ref hm), (1, .ref hx), (0, .ref b)]) hl [1, 2, 3, 4, 5] rfl)
end Lw
