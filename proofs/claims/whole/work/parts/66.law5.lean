/-! The law: curve. By wip/whole/tools/gen25.py. -/
section Lw
variable {p : Program} {l : Launch} {e : Env} {s : State} {m : MethodId} {below : List Frame} {meth : Method} {c : Code} {b L : Nat} {xs : Nat → Int32} {D : va_G} {hx hr0 hq0 : Nat} {cI cQ : ClassId} {hm hX hY hR hO : Nat} {cX cY cR cO : ClassId} {ho : Nat} {cL : ClassId} {Q : State → Prop}
set_option maxRecDepth 100000 in
set_option maxHeartbeats 4000000 in
theorem lw_curve (hC : LwC p l s m c b L xs) (hK : va_K D clX [(cI, .int), (cQ, .int), (cX, .int), (cY, .int), (cR, .int), (cO, .int), (cL, .long)] s) {H : Heap} (hI : LI D s.heap.size hx hr0 hq0 cI cQ hm hX hY hR hO cX cY cR cO ho cL H) (hS : va_S (AZ s.heap.size) s.heap H []) {i : Nat} (hi : i + 8 ≤ L) {cells slots : Nat} (hcs : cells + 3 ≤ room_1.cells ∧ slots + 20 ≤ room_1.slots) {ls : Array Slot} (hl : lv_has ls 8 [(4, .int (ii (i : Int))), (3, .ref ho), (2, .ref hm), (1, .ref hx), (0, .ref b)])
    (kk : ∀ (H1 : Heap) (ls : Array Slot), LI D s.heap.size hx hr0 hq0 cI cQ hm hX hY hR hO cX cY cR cO ho cL H1 → va_S (AZ s.heap.size) s.heap H1 [] → lv_has ls 8 [(4, .int (ii (i : Int))), (3, .ref ho), (2, .ref hm), (1, .ref hx), (0, .ref b)] → W p l e room_1 s m #[Value.ref b] below meth c H1 [] (cells + 3) (slots + 20) Q (F0 m 1170 ls [])) : W p l e room_1 s m #[Value.ref b] below meth c H [] cells slots Q (F0 m 116 ls []) := by
  obtain ⟨hL, C, hN, hXc, hZ, hV, hb, hLn⟩ := hC
  obtain ⟨n, p0, a0, b0, gx, gy, sec, dr, th, ix, tx, ty, kw, mw, f, hKR, hMR, hP, hD⟩ := hI
  have hix := hKR.ixle
  have hnn := hKR.nle
  have hsec := hKR.secle
  refine lv_aload_n C.1 C.2.1 dL_law_116 rfl (lv_at hl 3 rfl) ?_
  refine lv_aload_n C.1 C.2.1 dL_law_117 rfl (lv_at hl 4 rfl) ?_
  refine lv_iload C.1 C.2.1 dL_law_118 (lv_at hl 0 rfl) ?_
  refine i_const C dL_law_120 ?_
  refine i_add C dL_law_121 ?_
  refine s_ald C hV hb (Nat.not_le.mpr hb) hS (i + 1) (by omega) (by omega) (by omega) dL_law_122 ?_
  refine lv_aload_n C.1 C.2.1 dL_law_123 rfl (lv_at hl 4 rfl) ?_
  refine lv_iload C.1 C.2.1 dL_law_124 (lv_at hl 0 rfl) ?_
  refine i_const C dL_law_126 ?_
  refine i_add C dL_law_127 ?_
  refine s_ald C hV hb (Nat.not_le.mpr hb) hS (i + 2) (by omega) (by omega) (by omega) dL_law_128 ?_
  refine lv_aload_n C.1 C.2.1 dL_law_129 rfl (lv_at hl 4 rfl) ?_
  refine lv_iload C.1 C.2.1 dL_law_130 (lv_at hl 0 rfl) ?_
  refine i_const C dL_law_132 ?_
  refine i_add C dL_law_133 ?_
  refine s_ald C hV hb (Nat.not_le.mpr hb) hS (i + 3) (by omega) (by omega) (by omega) dL_law_134 ?_
  refine lv_aload_n C.1 C.2.1 dL_law_135 rfl (lv_at hl 1 rfl) ?_
  have hfr := fr_sub (w0 := []) (w1 := (KO ho cL f :: kw)) (w2 := mw) hP hD
  have hFc := fr_free (w0 := []) (w1 := (KO ho cL f :: kw)) (w2 := mw) hS.1 hD
  refine lc_S (As := [.ref hx, .int (ii ((xs (i + 1)).toInt)), .int (ii ((xs (i + 2)).toInt)), .int (ii ((xs (i + 3)).toInt)), .ref ho]) (rest := []) C (wL_curve l hL D s.heap.size _ hx hr0 hq0 cI cQ n p0 a0 b0 gx gy sec dr ix tx ty kw hKR ho cL f _ _ _ (rg_self _) (rg_self _) (rg_self _)) (pch_pre _ hXc (pcm_pre _ hN (Zs.on hZ hS (fun _ h => h)) hS.1 hfr.1 (hK.sub (tys' := [(cI, .int), (cQ, .int), (cL, .long)]) [0, 1, 6] rfl) hfr.2)) hS hFc aw_h_L_curve aw_m_L_70 aw_s_L_curve aw_i_L ⟨rfl, rfl⟩ 5 (by decide +kernel) rfl ⟨by decide, by decide⟩ hl.1 rfl (Nat.le_of_ble_eq_true rfl) dL_law_136 ⟨by omega, by omega⟩ (fun t H1 locs1 ht hvm _ hB jz1 jk1 hS => ?_)
  obtain ⟨kw1, f1, hKy, hKn, hP1, hK1, hD1⟩ := hB
  rw [ht] at hP1
  obtain ⟨hP, hD⟩ := fr_mid (w0 := []) (w1 := (KO ho cL f :: kw)) (w2 := mw) (w3 := (KO ho cL f1 :: kw1)) hP hD jz1 jk1 hFc hP1 hD1
  refine w_drop hS.2.2 ?_
  have hS := (⟨hS.1, hS.2.1, fun _ h => nomatch h⟩ : va_S (AZ s.heap.size) s.heap H1 [])
  refine lv_istore C.1 C.2.1 dL_law_139 hl (by decide) rfl (fun ls hl => ?_)
  have hl : lv_has ls 8 [(5, .int (ii (if cvF (xs (i + 1)).toInt (xs (i + 2)).toInt (xs (i + 3)).toInt = 0 then 0 else 1))), (4, .int (ii (i : Int))), (3, .ref ho), (2, .ref hm), (1, .ref hx), (0, .ref b)] := hl
  refine lv_aload_n C.1 C.2.1 dL_law_141 rfl (lv_at hl 3 rfl) ?_
  refine lv_aload_n C.1 C.2.1 dL_law_142 rfl (lv_at hl 5 rfl) ?_
  refine lv_iload C.1 C.2.1 dL_law_143 (lv_at hl 1 rfl) ?_
  refine i_const C dL_law_145 ?_
  refine i_add C dL_law_146 ?_
  refine s_ald C hV hb (Nat.not_le.mpr hb) hS (i + 1) (by omega) (by omega) (by omega) dL_law_147 ?_
  refine lv_aload_n C.1 C.2.1 dL_law_148 rfl (lv_at hl 5 rfl) ?_
  refine lv_iload C.1 C.2.1 dL_law_149 (lv_at hl 1 rfl) ?_
  refine i_const C dL_law_151 ?_
  refine i_add C dL_law_152 ?_
  refine s_ald C hV hb (Nat.not_le.mpr hb) hS (i + 2) (by omega) (by omega) (by omega) dL_law_153 ?_
  refine lv_aload_n C.1 C.2.1 dL_law_154 rfl (lv_at hl 5 rfl) ?_
  refine lv_iload C.1 C.2.1 dL_law_155 (lv_at hl 1 rfl) ?_
  refine i_const C dL_law_157 ?_
  refine i_add C dL_law_158 ?_
  refine s_ald C hV hb (Nat.not_le.mpr hb) hS (i + 3) (by omega) (by omega) (by omega) dL_law_159 ?_
  obtain ⟨hT, p1, a1, b1, sx, sy, dk, dv, g, rfl⟩ := hMR
  by_cases hcv : cvF (xs (i + 1)).toInt (xs (i + 2)).toInt (xs (i + 3)).toInt = 0
  · obtain ⟨hKR, hf1⟩ := hKy hcv
    have hfr := fr_sub (w0 := (KO ho cL f1 :: kw1)) (w1 := [(hm, .inr (2, MO p1 a1 b1 n sec dr th hX hY hR hO sx sy dk dv)), MX hX cX tx, MX hY cY ty, MI hR cR ix, MG hO cO g]) (w2 := []) hP hD
    have hFc := fr_free (w0 := (KO ho cL f1 :: kw1)) (w1 := [(hm, .inr (2, MO p1 a1 b1 n sec dr th hX hY hR hO sx sy dk dv)), MX hX cX tx, MX hY cY ty, MI hR cR ix, MG hO cO g]) (w2 := []) hS.1 hD
    refine cn_V (As := [.int (ii ((xs (i + 1)).toInt)), .int (ii ((xs (i + 2)).toInt)), .int (ii ((xs (i + 3)).toInt))]) (rest := []) C (c_X2_curve l D s.heap.size _ hm p1 a1 b1 n sec dr th hX hY hR hO sx sy dk dv cX cY cR cO tx ty ix g _ _ _ (rg_self _) (rg_self _) (rg_self _) tk_le) (pcm_preV _ hN (Zs.on hZ hS (fun _ h => h)) hS.1 hfr.1 (hK.sub (tys' := [(cX, .int), (cY, .int), (cR, .int), (cO, .int)]) [2, 3, 4, 5] rfl) hfr.2 0 (ci := 2) rfl rfl) hS hFc aw_b_X2_curve aw_m_L_75 aw_v_X2_curve aw_i_X2 aw_e_X2_curve ⟨rfl, rfl⟩ 3 (by decide +kernel) rfl ⟨by decide, by decide⟩ hl.1 rfl (Nat.le_of_ble_eq_true rfl) dL_law_160 ⟨by omega, by omega⟩ (fun t H1 locs1 ht hvm _ hB jz1 jk1 hS => ?_)
    obtain ⟨g1, s1, s2, hP1, hK1, hD1⟩ := hB
    rw [ht] at hP1
    rw [if_pos hcv] at hP1 hD1
    obtain ⟨hP, hD⟩ := fr_mid (w0 := (KO ho cL f1 :: kw1)) (w1 := [(hm, .inr (2, MO p1 a1 b1 n sec dr th hX hY hR hO sx sy dk dv)), MX hX cX tx, MX hY cY ty, MI hR cR ix, MG hO cO g]) (w2 := []) (w3 := [(hm, .inr (2, MO (xs (i + 1)).toInt (xs (i + 2)).toInt (xs (i + 3)).toInt (coF (xs (i + 1)).toInt (xs (i + 2)).toInt (xs (i + 3)).toInt) 0 dr 0 hX hY hR hO s1 s2 dk dv)), MX hX cX (tbX (fun j => (tpF (xs (i + 1)).toInt.toNat (xs (i + 2)).toInt.toNat (bxF (xs (i + 1)).toInt.toNat (xs (i + 2)).toInt.toNat (xs (i + 3)).toInt.toNat) (byF (xs (i + 1)).toInt.toNat (xs (i + 2)).toInt.toNat (xs (i + 3)).toInt.toNat) j).1) tx (coF (xs (i + 1)).toInt (xs (i + 2)).toInt (xs (i + 3)).toInt)), MX hY cY (tbX (fun j => (tpF (xs (i + 1)).toInt.toNat (xs (i + 2)).toInt.toNat (bxF (xs (i + 1)).toInt.toNat (xs (i + 2)).toInt.toNat (xs (i + 3)).toInt.toNat) (byF (xs (i + 1)).toInt.toNat (xs (i + 2)).toInt.toNat (xs (i + 3)).toInt.toNat) j).2) ty (coF (xs (i + 1)).toInt (xs (i + 2)).toInt (xs (i + 3)).toInt)), MI hR cR (fun _ => 0), MG hO cO g1]) hP hD jz1 jk1 hFc hP1 hD1
    refine w_drop hS.2.2 ?_
    have hS := (⟨hS.1, hS.2.1, fun _ h => nomatch h⟩ : va_S (AZ s.heap.size) s.heap H1 [])
    refine lv_istore C.1 C.2.1 dL_law_163 hl (by decide) rfl (fun ls hl => ?_)
    have hl : lv_has ls 8 [(6, .int (ii (((if cvF (xs (i + 1)).toInt (xs (i + 2)).toInt (xs (i + 3)).toInt = 0 then coF (xs (i + 1)).toInt (xs (i + 2)).toInt (xs (i + 3)).toInt else 0) : Nat) : Int))), (5, .int (ii (if cvF (xs (i + 1)).toInt (xs (i + 2)).toInt (xs (i + 3)).toInt = 0 then 0 else 1))), (4, .int (ii (i : Int))), (3, .ref ho), (2, .ref hm), (1, .ref hx), (0, .ref b)] := hl
    refine lv_aload_n C.1 C.2.1 dL_law_165 rfl (lv_at hl 4 rfl) ?_
    refine ca_V (As := []) (rest := []) C (c_X2_thrown l D hm (xs (i + 1)).toInt (xs (i + 2)).toInt (xs (i + 3)).toInt (coF (xs (i + 1)).toInt (xs (i + 2)).toInt (xs (i + 3)).toInt) 0 dr 0 hX hY hR hO s1 s2 dk dv) (pcw_preV [] hN (fr_sub (w0 := (KO ho cL f1 :: kw1)) (w1 := [(hm, .inr (2, MO (xs (i + 1)).toInt (xs (i + 2)).toInt (xs (i + 3)).toInt (coF (xs (i + 1)).toInt (xs (i + 2)).toInt (xs (i + 3)).toInt) 0 dr 0 hX hY hR hO s1 s2 dk dv))]) (w2 := [MX hX cX (tbX (fun j => (tpF (xs (i + 1)).toInt.toNat (xs (i + 2)).toInt.toNat (bxF (xs (i + 1)).toInt.toNat (xs (i + 2)).toInt.toNat (xs (i + 3)).toInt.toNat) (byF (xs (i + 1)).toInt.toNat (xs (i + 2)).toInt.toNat (xs (i + 3)).toInt.toNat) j).1) tx (coF (xs (i + 1)).toInt (xs (i + 2)).toInt (xs (i + 3)).toInt)), MX hY cY (tbX (fun j => (tpF (xs (i + 1)).toInt.toNat (xs (i + 2)).toInt.toNat (bxF (xs (i + 1)).toInt.toNat (xs (i + 2)).toInt.toNat (xs (i + 3)).toInt.toNat) (byF (xs (i + 1)).toInt.toNat (xs (i + 2)).toInt.toNat (xs (i + 3)).toInt.toNat) j).2) ty (coF (xs (i + 1)).toInt (xs (i + 2)).toInt (xs (i + 3)).toInt)), MI hR cR (fun _ => 0), MG hO cO g1]) hP hD).1 (hK.sub (tys' := []) [] rfl) 0 (ci := 2) rfl rfl) aw_b_X2_thrown aw_m_L_76 aw_v_X2_thrown aw_i_X2 aw_e_X2_thrown ⟨rfl, rfl⟩ 0 (by decide +kernel) rfl ⟨by decide, by decide⟩ hl.1 rfl (Nat.le_of_ble_eq_true rfl) dL_law_166 ⟨by omega, by omega⟩ ?_
    have hl : lv_has ls 8 [(6, .int (ii (((if cvF (xs (i + 1)).toInt (xs (i + 2)).toInt (xs (i + 3)).toInt = 0 then coF (xs (i + 1)).toInt (xs (i + 2)).toInt (xs (i + 3)).toInt else 0) : Nat) : Int))), (5, .int (ii (if cvF (xs (i + 1)).toInt (xs (i + 2)).toInt (xs (i + 3)).toInt = 0 then 0 else 1))), (4, .int (ii (i : Int))), (3, .ref ho), (2, .ref hm), (1, .ref hx), (0, .ref b)] := hl
    rw [if_pos hcv] at hl
    rw [if_pos hcv] at hl
    have hl : lv_has ls 8 [(6, .int (ii ((coF (xs (i + 1)).toInt (xs (i + 2)).toInt (xs (i + 3)).toInt : Nat) : Int))), (5, .int (ii 0)), (4, .int (ii (i : Int))), (3, .ref ho), (2, .ref hm), (1, .ref hx), (0, .ref b)] := hl
    refine lv_iload C.1 C.2.1 dL_law_169 (lv_at hl 1 rfl) ?_
    refine ic_eq (tgt := 176) C dL_law_171 (by decide) ?_
    refine lv_iload C.1 C.2.1 dL_law_176 (lv_at hl 1 rfl) ?_
    skip
    refine i_if_ne (tgt := 193) C dL_law_178 (by decide) ⟨by omega, by omega⟩ (fun hk0 => ?_) (fun hk0 => ?_)
    · refine lv_goto (tgt := 1170) C.1 C.2.1 dL_law_193 (by decide) ?_
      refine W.widen (k := cells + 3) (n := slots + 20) (by omega) (by omega) ?_
      exact kk _ ls ⟨_, _, _, _, _, _, 0, dr, 0, (fun _ => 0), _, _, kw1, _, f1, hKR, ⟨tbX_le hcv hT, (xs (i + 1)).toInt, (xs (i + 2)).toInt, (xs (i + 3)).toInt, s1, s2, dk, dv, g1, rfl⟩, hP, hD⟩ hS (lv_sub (l' := [(4, .int (ii (i : Int))), (3, .ref ho), (2, .ref hm), (1, .ref hx), (0, .ref b)]) hl [2, 3, 4, 5, 6] rfl)
    · refine lv_aload_n C.1 C.2.1 dL_law_181 rfl (lv_at hl 3 rfl) ?_
      refine i_const C dL_law_182 ?_
      refine l_ald0 C hK hP 0 6 rfl rfl dL_law_183 ?_
      rw [hf1]
      refine lv_iload C.1 C.2.1 dL_law_184 (lv_at hl 0 rfl) ?_
      refine lv_i2l C.1 C.2.1 dL_law_186 rfl ?_
      refine l_cmpS C dL_law_187 ?_
      refine i_if_eq (tgt := 193) C dL_law_188 (by decide) ⟨by omega, by omega⟩ (fun _ => ?_) (fun z => absurd rfl z)
      refine lv_goto (tgt := 1170) C.1 C.2.1 dL_law_193 (by decide) ?_
      refine W.widen (k := cells + 3) (n := slots + 20) (by omega) (by omega) ?_
      exact kk _ ls ⟨_, _, _, _, _, _, 0, dr, 0, (fun _ => 0), _, _, kw1, _, f1, hKR, ⟨tbX_le hcv hT, (xs (i + 1)).toInt, (xs (i + 2)).toInt, (xs (i + 3)).toInt, s1, s2, dk, dv, g1, rfl⟩, hP, hD⟩ hS (lv_sub (l' := [(4, .int (ii (i : Int))), (3, .ref ho), (2, .ref hm), (1, .ref hx), (0, .ref b)]) hl [2, 3, 4, 5, 6] rfl)
  · have hKR := hKn hcv
    have hfr := fr_sub (w0 := (KO ho cL f1 :: kw1)) (w1 := [(hm, .inr (2, MO p1 a1 b1 n sec dr th hX hY hR hO sx sy dk dv)), MX hX cX tx, MX hY cY ty, MI hR cR ix, MG hO cO g]) (w2 := []) hP hD
    have hFc := fr_free (w0 := (KO ho cL f1 :: kw1)) (w1 := [(hm, .inr (2, MO p1 a1 b1 n sec dr th hX hY hR hO sx sy dk dv)), MX hX cX tx, MX hY cY ty, MI hR cR ix, MG hO cO g]) (w2 := []) hS.1 hD
    refine cn_V (As := [.int (ii ((xs (i + 1)).toInt)), .int (ii ((xs (i + 2)).toInt)), .int (ii ((xs (i + 3)).toInt))]) (rest := []) C (c_X2_curve l D s.heap.size _ hm p1 a1 b1 n sec dr th hX hY hR hO sx sy dk dv cX cY cR cO tx ty ix g _ _ _ (rg_self _) (rg_self _) (rg_self _) tk_le) (pcm_preV _ hN (Zs.on hZ hS (fun _ h => h)) hS.1 hfr.1 (hK.sub (tys' := [(cX, .int), (cY, .int), (cR, .int), (cO, .int)]) [2, 3, 4, 5] rfl) hfr.2 0 (ci := 2) rfl rfl) hS hFc aw_b_X2_curve aw_m_L_75 aw_v_X2_curve aw_i_X2 aw_e_X2_curve ⟨rfl, rfl⟩ 3 (by decide +kernel) rfl ⟨by decide, by decide⟩ hl.1 rfl (Nat.le_of_ble_eq_true rfl) dL_law_160 ⟨by omega, by omega⟩ (fun t H1 locs1 ht hvm _ hB jz1 jk1 hS => ?_)
    obtain ⟨g1, s1, s2, hP1, hK1, hD1⟩ := hB
    rw [ht] at hP1
    rw [if_neg hcv] at hP1 hD1
    obtain ⟨hP, hD⟩ := fr_mid (w0 := (KO ho cL f1 :: kw1)) (w1 := [(hm, .inr (2, MO p1 a1 b1 n sec dr th hX hY hR hO sx sy dk dv)), MX hX cX tx, MX hY cY ty, MI hR cR ix, MG hO cO g]) (w2 := []) (w3 := [(hm, .inr (2, MO p1 a1 b1 n sec dr 1 hX hY hR hO sx sy dk dv)), MX hX cX tx, MX hY cY ty, MI hR cR ix, MG hO cO g1]) hP hD jz1 jk1 hFc hP1 hD1
    refine w_drop hS.2.2 ?_
    have hS := (⟨hS.1, hS.2.1, fun _ h => nomatch h⟩ : va_S (AZ s.heap.size) s.heap H1 [])
    refine lv_istore C.1 C.2.1 dL_law_163 hl (by decide) rfl (fun ls hl => ?_)
    have hl : lv_has ls 8 [(6, .int (ii (((if cvF (xs (i + 1)).toInt (xs (i + 2)).toInt (xs (i + 3)).toInt = 0 then coF (xs (i + 1)).toInt (xs (i + 2)).toInt (xs (i + 3)).toInt else 0) : Nat) : Int))), (5, .int (ii (if cvF (xs (i + 1)).toInt (xs (i + 2)).toInt (xs (i + 3)).toInt = 0 then 0 else 1))), (4, .int (ii (i : Int))), (3, .ref ho), (2, .ref hm), (1, .ref hx), (0, .ref b)] := hl
    refine lv_aload_n C.1 C.2.1 dL_law_165 rfl (lv_at hl 4 rfl) ?_
    refine ca_V (As := []) (rest := []) C (c_X2_thrown l D hm p1 a1 b1 n sec dr 1 hX hY hR hO sx sy dk dv) (pcw_preV [] hN (fr_sub (w0 := (KO ho cL f1 :: kw1)) (w1 := [(hm, .inr (2, MO p1 a1 b1 n sec dr 1 hX hY hR hO sx sy dk dv))]) (w2 := [MX hX cX tx, MX hY cY ty, MI hR cR ix, MG hO cO g1]) hP hD).1 (hK.sub (tys' := []) [] rfl) 0 (ci := 2) rfl rfl) aw_b_X2_thrown aw_m_L_76 aw_v_X2_thrown aw_i_X2 aw_e_X2_thrown ⟨rfl, rfl⟩ 0 (by decide +kernel) rfl ⟨by decide, by decide⟩ hl.1 rfl (Nat.le_of_ble_eq_true rfl) dL_law_166 ⟨by omega, by omega⟩ ?_
    have hl : lv_has ls 8 [(6, .int (ii (((if cvF (xs (i + 1)).toInt (xs (i + 2)).toInt (xs (i + 3)).toInt = 0 then coF (xs (i + 1)).toInt (xs (i + 2)).toInt (xs (i + 3)).toInt else 0) : Nat) : Int))), (5, .int (ii (if cvF (xs (i + 1)).toInt (xs (i + 2)).toInt (xs (i + 3)).toInt = 0 then 0 else 1))), (4, .int (ii (i : Int))), (3, .ref ho), (2, .ref hm), (1, .ref hx), (0, .ref b)] := hl
    rw [if_neg hcv] at hl
    rw [if_neg hcv] at hl
    have hl : lv_has ls 8 [(6, .int (ii ((0 : Nat) : Int))), (5, .int (ii 1)), (4, .int (ii (i : Int))), (3, .ref ho), (2, .ref hm), (1, .ref hx), (0, .ref b)] := hl
    refine lv_iload C.1 C.2.1 dL_law_169 (lv_at hl 1 rfl) ?_
    refine ic_eq (tgt := 176) C dL_law_171 (by decide) ?_
    refine lv_iload C.1 C.2.1 dL_law_176 (lv_at hl 1 rfl) ?_
    refine i_if_ne (tgt := 193) C dL_law_178 (by decide) ⟨by omega, by omega⟩ (fun hk0 => ?_) (fun hk0 => ?_)
    · refine lv_goto (tgt := 1170) C.1 C.2.1 dL_law_193 (by decide) ?_
      refine W.widen (k := cells + 3) (n := slots + 20) (by omega) (by omega) ?_
      exact kk _ ls ⟨n, p0, a0, b0, gx, gy, sec, dr, 1, ix, tx, ty, kw1, _, f1, hKR, ⟨hT, p1, a1, b1, sx, sy, dk, dv, g1, rfl⟩, hP, hD⟩ hS (lv_sub (l' := [(4, .int (ii (i : Int))), (3, .ref ho), (2, .ref hm), (1, .ref hx), (0, .ref b)]) hl [2, 3, 4, 5, 6] rfl)
    · exact absurd (by decide) hk0
end Lw
