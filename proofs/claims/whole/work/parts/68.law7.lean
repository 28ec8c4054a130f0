/-! The law: its loop, its start. By wip/whole/tools/gen25.py. -/
section Lw
variable {p : Program} {l : Launch} {e : Env} {s : State} {m : MethodId} {below : List Frame} {meth : Method} {c : Code} {b L : Nat} {xs : Nat → Int32} {D : va_G} {hx hr0 hq0 : Nat} {cI cQ : ClassId} {hm hX hY hR hO : Nat} {cX cY cR cO : ClassId} {ho : Nat} {cL : ClassId} {Q : State → Prop}
set_option maxRecDepth 100000 in
set_option maxHeartbeats 4000000 in
theorem wh_loop (hC : LwC p l s m c b L xs) (hr : meth.sig.returnType = ret) (hlk : meth.locks = false) (hK : va_K D clX [(cI, .int), (cQ, .int), (cX, .int), (cY, .int), (cR, .int), (cO, .int), (cL, .long)] s) : ∀ (f i : Nat) (H : Heap) (ls : Array Slot) (cells slots : Nat), L < i + 8 * (f + 1) → i ≤ 4200 → cells + 3 * f ≤ room_1.cells → slots + 20 * f ≤ room_1.slots → LI D s.heap.size hx hr0 hq0 cI cQ hm hX hY hR hO cX cY cR cO ho cL H → va_S (AZ s.heap.size) s.heap H [] → lv_has ls 8 [(4, .int (ii (i : Int))), (3, .ref ho), (2, .ref hm), (1, .ref hx), (0, .ref b)] → W p l e room_1 s m #[Value.ref b] below meth c H [] cells slots (lw_Z below #[Value.ref b] s) (F0 m 23 ls []) := by
  have hC0 := hC
  obtain ⟨hL, C, hN, hXc, hZ, hV, hb, hLn⟩ := hC
  have hend : ∀ (H : Heap) (ls : Array Slot) (cells slots : Nat), cells ≤ room_1.cells → slots ≤ room_1.slots → W p l e room_1 s m #[Value.ref b] below meth c H [] cells slots (lw_Z below #[Value.ref b] s) (F0 m 1176 ls []) := by
    intro H ls cells slots h1 h2
    refine i_const C dL_law_1176 ?_
    rw [show ii 1 = (1 : Int32) from by decide +kernel]
    exact W.widen (k := 601024) (n := 7293034) h1 h2 (lw_ret C.1 C.2.1 hr hlk dL_law_1177)
  intro f
  induction f with
  | zero =>
    intro i H ls cells slots hf hi hc hs hI hS hl
    refine lv_iload C.1 C.2.1 dL_law_23 (lv_at hl 0 rfl) ?_
    refine lv_aload_n C.1 C.2.1 dL_law_25 rfl (lv_at hl 4 rfl) ?_
    refine va_slen C.1 C.2.1 hV hb (Nat.not_le.mpr hb) hS dL_law_26 ?_
    rw [show Int32.ofNat L = ii (L : Int) from (ii_nI L).symm]
    refine i_bipush C dL_law_27 (by decide +kernel) ?_
    refine i_sub C dL_law_29 ?_
    refine i_icmp_gt (tgt := 1176) C dL_law_30 (by decide) ⟨by omega, by omega⟩ ⟨by omega, by omega⟩ (fun h1 => ?_) (fun h1 => ?_)
    · exact hend H ls cells slots (by omega) (by omega)
    · omega
  | succ f ih =>
    intro i H ls cells slots hf hi hc hs hI hS hl
    refine lv_iload C.1 C.2.1 dL_law_23 (lv_at hl 0 rfl) ?_
    refine lv_aload_n C.1 C.2.1 dL_law_25 rfl (lv_at hl 4 rfl) ?_
    refine va_slen C.1 C.2.1 hV hb (Nat.not_le.mpr hb) hS dL_law_26 ?_
    rw [show Int32.ofNat L = ii (L : Int) from (ii_nI L).symm]
    refine i_bipush C dL_law_27 (by decide +kernel) ?_
    refine i_sub C dL_law_29 ?_
    refine i_icmp_gt (tgt := 1176) C dL_law_30 (by decide) ⟨by omega, by omega⟩ ⟨by omega, by omega⟩ (fun h1 => ?_) (fun h1 => ?_)
    · exact hend H ls cells slots (by omega) (by omega)
    · have back : ∀ (H1 : Heap) (ls : Array Slot), LI D s.heap.size hx hr0 hq0 cI cQ hm hX hY hR hO cX cY cR cO ho cL H1 → va_S (AZ s.heap.size) s.heap H1 [] → lv_has ls 8 [(4, .int (ii (i : Int))), (3, .ref ho), (2, .ref hm), (1, .ref hx), (0, .ref b)] → W p l e room_1 s m #[Value.ref b] below meth c H1 [] (cells + 3) (slots + 20) (lw_Z below #[Value.ref b] s) (F0 m 1170 ls []) := by
        intro H1 ls hI hS hl
        refine lv_iinc C.1 C.2.1 dL_law_1170 hl (k := 0) rfl (ii_add (i : Int) 8) (by decide) rfl (fun ls hl => ?_)
        have hl : lv_has ls 8 [(4, .int (ii ((i : Int) + 8))), (3, .ref ho), (2, .ref hm), (1, .ref hx), (0, .ref b)] := hl
        refine lv_goto (tgt := 23) C.1 C.2.1 dL_law_1173 (by decide) ?_
        have hl := (lv_sub (l' := [(4, .int (ii ((i : Int) + 8))), (3, .ref ho), (2, .ref hm), (1, .ref hx), (0, .ref b)]) hl [0, 1, 2, 3, 4] rfl)
        exact ih (i + 8) H1 ls (cells + 3) (slots + 20) (by omega) (by omega) (by omega) (by omega) hI hS hl
      have hi8 : i + 8 ≤ L := by omega
      refine lv_aload_n C.1 C.2.1 dL_law_33 rfl (lv_at hl 4 rfl) ?_
      refine lv_iload C.1 C.2.1 dL_law_34 (lv_at hl 0 rfl) ?_
      refine s_ald C hV hb (Nat.not_le.mpr hb) hS i (by omega) (by omega) (by omega) dL_law_36 ?_
      refine i_bipush C dL_law_37 (by decide +kernel) ?_
      refine lv_iand C.1 C.2.1 dL_law_39 ?_
      obtain ⟨d, hd, ed⟩ := and15 (ii (xs i).toInt)
      rw [ed]
      rcases (show d = 0 ∨ d = 1 ∨ d = 2 ∨ d = 3 ∨ d = 4 ∨ d = 5 ∨ d = 6 ∨ d = 7 ∨ d = 8 ∨ d = 9 ∨ d = 10 ∨ d = 11 ∨ d = 12 ∨ d = 13 ∨ d = 14 ∨ d = 15 by omega) with rfl | rfl | rfl | rfl | rfl | rfl | rfl | rfl | rfl | rfl | rfl | rfl | rfl | rfl | rfl | rfl
      · refine lv_tableIn (off := 76) (tgt := 116) C.1 C.2.1 dL_law_40 (by decide +kernel) (by decide +kernel) (by decide +kernel) (by decide) ?_
        exact lw_curve hC0 hK hI hS hi8 ⟨by omega, by omega⟩ hl back
      · refine lv_tableIn (off := 156) (tgt := 196) C.1 C.2.1 dL_law_40 (by decide +kernel) (by decide +kernel) (by decide +kernel) (by decide) ?_
        exact lw_order hC0 hK hI hS hi8 ⟨by omega, by omega⟩ hl back
      · refine lv_tableIn (off := 169) (tgt := 209) C.1 C.2.1 dL_law_40 (by decide +kernel) (by decide +kernel) (by decide +kernel) (by decide) ?_
        exact lw_load hC0 hK hI hS hi8 ⟨by omega, by omega⟩ hl back
      · refine lv_tableIn (off := 229) (tgt := 269) C.1 C.2.1 dL_law_40 (by decide +kernel) (by decide +kernel) (by decide +kernel) (by decide) ?_
        exact lw_base hC0 hK hI hS hi8 ⟨by omega, by omega⟩ hl back
      · refine lv_tableIn (off := 265) (tgt := 305) C.1 C.2.1 dL_law_40 (by decide +kernel) (by decide +kernel) (by decide +kernel) (by decide) ?_
        exact lw_sum hC0 hK hI hS hi8 ⟨by omega, by omega⟩ hl back
      · refine lv_tableIn (off := 325) (tgt := 365) C.1 C.2.1 dL_law_40 (by decide +kernel) (by decide +kernel) (by decide +kernel) (by decide) ?_
        exact lw_times hC0 hK hI hS hi8 ⟨by omega, by omega⟩ hl back
      · refine lv_tableIn (off := 385) (tgt := 425) C.1 C.2.1 dL_law_40 (by decide +kernel) (by decide +kernel) (by decide +kernel) (by decide) ?_
        exact lw_x hC0 hK hI hS hi8 ⟨by omega, by omega⟩ hl back
      · refine lv_tableIn (off := 441) (tgt := 481) C.1 C.2.1 dL_law_40 (by decide +kernel) (by decide +kernel) (by decide +kernel) (by decide) ?_
        exact lw_y hC0 hK hI hS hi8 ⟨by omega, by omega⟩ hl back
      · refine lv_tableIn (off := 497) (tgt := 537) C.1 C.2.1 dL_law_40 (by decide +kernel) (by decide +kernel) (by decide +kernel) (by decide) ?_
        exact lw_code hC0 hK hI hS hi8 ⟨by omega, by omega⟩ hl back
      · refine lv_tableIn (off := 580) (tgt := 620) C.1 C.2.1 dL_law_40 (by decide +kernel) (by decide +kernel) (by decide +kernel) (by decide) ?_
        exact lw_decode hC0 hK hI hS hi8 ⟨by omega, by omega⟩ hl back
      · refine lv_tableIn (off := 672) (tgt := 712) C.1 C.2.1 dL_law_40 (by decide +kernel) (by decide +kernel) (by decide +kernel) (by decide) ?_
        exact lw_key hC0 hK hI hS hi8 ⟨by omega, by omega⟩ hl back
      · refine lv_tableIn (off := 720) (tgt := 760) C.1 C.2.1 dL_law_40 (by decide +kernel) (by decide +kernel) (by decide +kernel) (by decide) ?_
        exact lw_sign hC0 hK hI hS hi8 ⟨by omega, by omega⟩ hl back
      · refine lv_tableIn (off := 807) (tgt := 847) C.1 C.2.1 dL_law_40 (by decide +kernel) (by decide +kernel) (by decide +kernel) (by decide) ?_
        exact lw_draws hC0 hK hI hS hi8 ⟨by omega, by omega⟩ hl back
      · refine lv_tableIn (off := 820) (tgt := 860) C.1 C.2.1 dL_law_40 (by decide +kernel) (by decide +kernel) (by decide +kernel) (by decide) ?_
        exact lw_verify hC0 hK hI hS hi8 ⟨by omega, by omega⟩ hl back
      · refine lv_tableIn (off := 951) (tgt := 991) C.1 C.2.1 dL_law_40 (by decide +kernel) (by decide +kernel) (by decide +kernel) (by decide) ?_
        exact lw_accepts hC0 hK hI hS hi8 ⟨by omega, by omega⟩ hl back
      · refine lv_tableOut (tgt := 1170) C.1 C.2.1 dL_law_40 (by decide +kernel) (by decide) ?_
        exact W.widen (k := cells + 3) (n := slots + 20) (by omega) (by omega) (back H ls hI hS hl)
set_option maxRecDepth 100000 in
set_option maxHeartbeats 4000000 in
theorem wh_go (hC : LwC p l s m c b L xs) (hr : meth.sig.returnType = ret) (hlk : meth.locks = false) (hK : va_K D clX [] s) {ls : Array Slot} (hl : lv_has ls 8 [(0, .ref b)]) : W p l e room_1 s m #[Value.ref b] below meth c s.heap [] 0 0 (lw_Z below #[Value.ref b] s) (F0 m 0 ls []) := by
  have hC0 := hC
  obtain ⟨hL, C, hN, hXc, hZ, hV, hb, hLn⟩ := hC
  have hS : va_S (AZ s.heap.size) s.heap s.heap [] := va_S.rf
  have hP : va_P D clX [] s.heap := fun k q hk => nomatch hk
  have hD : va_D (AZ s.heap.size) [] := ⟨fun i j p q hi => (nomatch hi), fun k q hk => (nomatch hk)⟩
  have hA : ∀ q, s.heap.size ≤ q → AZ s.heap.size q := fun _ h => h
  refine va_new (ci := 1) (fs := [.null, .null, .null, .int 0, .int 0]) C.1 C.2.1 C.2.2.2.2 aw_uX1 tyX1 tyX1_ok C.2.2.2.1 (C.2.2.2.2 _ aw_c_L_8) (C.2.2.2.2 _ aw_n_X1) (C.2.2.2.2 _ aw_i_X1) hK hP hD hS hA rfl (fun j hj => by rcases (show j = 0 ∨ j = 1 ∨ j = 2 ∨ j = 3 ∨ j = 4 by omega) with rfl | rfl | rfl | rfl | rfl <;> rfl) (by decide) (by decide) dL_law_0 (fun hx H1 hP hD hS => ?_)
  refine lv_dup C.1 C.2.1 dL_law_3 rfl ?_
  have hP : va_P D clX ([] ++ ([(hx, .inr (1, [.null, .null, .null, .int 0, .int 0]))] ++ [])) H1 := hP
  have hD : va_D (AZ s.heap.size) ([] ++ ([(hx, .inr (1, [.null, .null, .null, .int 0, .int 0]))] ++ [])) := hD
  have hfr := fr_sub (w0 := []) (w1 := [(hx, .inr (1, [.null, .null, .null, .int 0, .int 0]))]) (w2 := []) hP hD
  have hFc := fr_free (w0 := []) (w1 := [(hx, .inr (1, [.null, .null, .null, .int 0, .int 0]))]) (w2 := []) hS.1 hD
  refine cn_I (As := []) (rest := [.ref hx]) C (c_X1_init l D s.heap.size _ hx) (pcm_pre [.ref hx] hN (Zs.on hZ hS (fun _ h => h)) hS.1 hfr.1 (hK.sub (tys' := []) [] rfl) hfr.2) hS hFc aw_b_X1_init aw_m_L_66 aw_v_X1_init aw_i_X1 rfl ⟨rfl, rfl⟩ 0 (by decide +kernel) rfl ⟨by decide, by decide⟩ hl.1 rfl (Nat.le_of_ble_eq_true rfl) dL_law_4 ⟨Nat.le_of_ble_eq_true rfl, Nat.le_of_ble_eq_true rfl⟩ (fun t H1 locs1 ht hvm _ hB jz1 jk1 hS => ?_)
  obtain ⟨hr0, hq0, cI, cQ, hP1, hK1, hD1⟩ := hB
  rw [ht] at hP1
  have hK := va_K.app hK (va_K.moved hvm.symm hK1)
  have hK : va_K D clX [(cI, .int), (cQ, .int)] s := hK
  obtain ⟨hP, hD⟩ := fr_mid (w0 := []) (w1 := [(hx, .inr (1, [.null, .null, .null, .int 0, .int 0]))]) (w2 := []) (w3 := [KX hx hr0 hq0 .null 0 0, KP hr0 cI (fun _ => none), KQ hq0 cQ (fun _ => 0)]) hP hD jz1 jk1 hFc hP1 hD1
  refine w_drop hS.2.2 ?_
  have hS := (⟨hS.1, hS.2.1, fun _ h => nomatch h⟩ : va_S (AZ s.heap.size) s.heap H1 [])
  have hP : va_P D clX [KX hx hr0 hq0 .null 0 0, KP hr0 cI (fun _ => none), KQ hq0 cQ (fun _ => 0)] H1 := hP
  have hD : va_D (AZ s.heap.size) [KX hx hr0 hq0 .null 0 0, KP hr0 cI (fun _ => none), KQ hq0 cQ (fun _ => 0)] := hD
  refine lv_astore_n C.1 C.2.1 dL_law_7 rfl hl (by decide) rfl (fun ls hl => ?_)
  have hl : lv_has ls 8 [(1, .ref hx), (0, .ref b)] := hl
  refine va_new (ci := 2) (fs := [.int 0, .int 0, .int 0, .int 0, .int 0, .int 0, .int 0, .null, .null, .null, .null, .int 0, .int 0, .int 0, .int 0]) C.1 C.2.1 C.2.2.2.2 aw_uX2 tyX2 tyX2_ok C.2.2.2.1 (C.2.2.2.2 _ aw_c_L_67) (C.2.2.2.2 _ aw_n_X2) (C.2.2.2.2 _ aw_i_X2) hK hP hD hS hA rfl (fun j hj => by rcases (show j = 0 ∨ j = 1 ∨ j = 2 ∨ j = 3 ∨ j = 4 ∨ j = 5 ∨ j = 6 ∨ j = 7 ∨ j = 8 ∨ j = 9 ∨ j = 10 ∨ j = 11 ∨ j = 12 ∨ j = 13 ∨ j = 14 by omega) with rfl | rfl | rfl | rfl | rfl | rfl | rfl | rfl | rfl | rfl | rfl | rfl | rfl | rfl | rfl <;> rfl) (by decide) (by decide) dL_law_8 (fun hm H1 hP hD hS => ?_)
  refine lv_dup C.1 C.2.1 dL_law_11 rfl ?_
  have hP : va_P D clX ([KX hx hr0 hq0 .null 0 0, KP hr0 cI (fun _ => none), KQ hq0 cQ (fun _ => 0)] ++ ([(hm, .inr (2, [.int 0, .int 0, .int 0, .int 0, .int 0, .int 0, .int 0, .null, .null, .null, .null, .int 0, .int 0, .int 0, .int 0]))] ++ [])) H1 := hP
  have hD : va_D (AZ s.heap.size) ([KX hx hr0 hq0 .null 0 0, KP hr0 cI (fun _ => none), KQ hq0 cQ (fun _ => 0)] ++ ([(hm, .inr (2, [.int 0, .int 0, .int 0, .int 0, .int 0, .int 0, .int 0, .null, .null, .null, .null, .int 0, .int 0, .int 0, .int 0]))] ++ [])) := hD
  have hfr := fr_sub (w0 := [KX hx hr0 hq0 .null 0 0, KP hr0 cI (fun _ => none), KQ hq0 cQ (fun _ => 0)]) (w1 := [(hm, .inr (2, [.int 0, .int 0, .int 0, .int 0, .int 0, .int 0, .int 0, .null, .null, .null, .null, .int 0, .int 0, .int 0, .int 0]))]) (w2 := []) hP hD
  have hFc := fr_free (w0 := [KX hx hr0 hq0 .null 0 0, KP hr0 cI (fun _ => none), KQ hq0 cQ (fun _ => 0)]) (w1 := [(hm, .inr (2, [.int 0, .int 0, .int 0, .int 0, .int 0, .int 0, .int 0, .null, .null, .null, .null, .int 0, .int 0, .int 0, .int 0]))]) (w2 := []) hS.1 hD
  refine cn_I (As := []) (rest := [.ref hm]) C (c_X2_init l D s.heap.size _ hm) (pcm_pre [.ref hm] hN (Zs.on hZ hS (fun _ h => h)) hS.1 hfr.1 (hK.sub (tys' := []) [] rfl) hfr.2) hS hFc aw_b_X2_init aw_m_L_69 aw_v_X2_init aw_i_X2 rfl ⟨rfl, rfl⟩ 0 (by decide +kernel) rfl ⟨by decide, by decide⟩ hl.1 rfl (Nat.le_of_ble_eq_true rfl) dL_law_12 ⟨Nat.le_of_ble_eq_true rfl, Nat.le_of_ble_eq_true rfl⟩ (fun t H1 locs1 ht hvm _ hB jz1 jk1 hS => ?_)
  obtain ⟨hX, hY, hR, hO, cX, cY, cR, cO, hP1, hK1, hD1⟩ := hB
  rw [ht] at hP1
  have hK := va_K.app hK (va_K.moved hvm.symm hK1)
  have hK : va_K D clX [(cI, .int), (cQ, .int), (cX, .int), (cY, .int), (cR, .int), (cO, .int)] s := hK
  obtain ⟨hP, hD⟩ := fr_mid (w0 := [KX hx hr0 hq0 .null 0 0, KP hr0 cI (fun _ => none), KQ hq0 cQ (fun _ => 0)]) (w1 := [(hm, .inr (2, [.int 0, .int 0, .int 0, .int 0, .int 0, .int 0, .int 0, .null, .null, .null, .null, .int 0, .int 0, .int 0, .int 0]))]) (w2 := []) (w3 := [(hm, .inr (2, MO 0 0 0 ((0 : Nat) : Int) 0 0 0 hX hY hR hO 0 0 0 0)), MX hX cX (fun _ => 0), MX hY cY (fun _ => 0), MI hR cR (fun _ => 0), MG hO cO (fun _ => 0)]) hP hD jz1 jk1 hFc hP1 hD1
  refine w_drop hS.2.2 ?_
  have hS := (⟨hS.1, hS.2.1, fun _ h => nomatch h⟩ : va_S (AZ s.heap.size) s.heap H1 [])
  have hP : va_P D clX ([KX hx hr0 hq0 .null 0 0, KP hr0 cI (fun _ => none), KQ hq0 cQ (fun _ => 0)] ++ [(hm, .inr (2, MO 0 0 0 ((0 : Nat) : Int) 0 0 0 hX hY hR hO 0 0 0 0)), MX hX cX (fun _ => 0), MX hY cY (fun _ => 0), MI hR cR (fun _ => 0), MG hO cO (fun _ => 0)]) H1 := hP
  have hD : va_D (AZ s.heap.size) ([KX hx hr0 hq0 .null 0 0, KP hr0 cI (fun _ => none), KQ hq0 cQ (fun _ => 0)] ++ [(hm, .inr (2, MO 0 0 0 ((0 : Nat) : Int) 0 0 0 hX hY hR hO 0 0 0 0)), MX hX cX (fun _ => 0), MX hY cY (fun _ => 0), MI hR cR (fun _ => 0), MG hO cO (fun _ => 0)]) := hD
  refine lv_astore_n C.1 C.2.1 dL_law_15 rfl hl (by decide) rfl (fun ls hl => ?_)
  have hl : lv_has ls 8 [(2, .ref hm), (1, .ref hx), (0, .ref b)] := hl
  refine i_const C dL_law_16 ?_
  refine va_newa (atype := .long) C.1 C.2.1 (C.2.2.2.2 _ aw_a_long) rfl hK hP hD hS hA (a0 := (1, .inr (.inl (fun _ => 0)))) (N' := 1) (fun cA => rfl) (by decide +kernel) (by decide +kernel) (Nat.le_of_ble_eq_true rfl) (Nat.le_of_ble_eq_true rfl) (Nat.le_of_ble_eq_true rfl) dL_law_17 (fun ho cL H1 hK hP hD hS => ?_)
  have hK : va_K D clX [(cI, .int), (cQ, .int), (cX, .int), (cY, .int), (cR, .int), (cO, .int), (cL, .long)] s := hK
  have hP := hP.sub (ws' := KO ho cL (fun _ => 0) :: ([KX hx hr0 hq0 .null 0 0, KP hr0 cI (fun _ => none), KQ hq0 cQ (fun _ => 0)] ++ [(hm, .inr (2, MO 0 0 0 ((0 : Nat) : Int) 0 0 0 hX hY hR hO 0 0 0 0)), MX hX cX (fun _ => 0), MX hY cY (fun _ => 0), MI hR cR (fun _ => 0), MG hO cO (fun _ => 0)])) [8, 0, 1, 2, 3, 4, 5, 6, 7] rfl
  have hD := hD.sub (ws' := KO ho cL (fun _ => 0) :: ([KX hx hr0 hq0 .null 0 0, KP hr0 cI (fun _ => none), KQ hq0 cQ (fun _ => 0)] ++ [(hm, .inr (2, MO 0 0 0 ((0 : Nat) : Int) 0 0 0 hX hY hR hO 0 0 0 0)), MX hX cX (fun _ => 0), MX hY cY (fun _ => 0), MI hR cR (fun _ => 0), MG hO cO (fun _ => 0)])) [8, 0, 1, 2, 3, 4, 5, 6, 7] (by decide) rfl
  refine lv_astore_n C.1 C.2.1 dL_law_19 rfl hl (by decide) rfl (fun ls hl => ?_)
  have hl : lv_has ls 8 [(3, .ref ho), (2, .ref hm), (1, .ref hx), (0, .ref b)] := hl
  refine i_const C dL_law_20 ?_
  refine lv_istore C.1 C.2.1 dL_law_21 hl (by decide) rfl (fun ls hl => ?_)
  have hl : lv_has ls 8 [(4, .int (ii 0)), (3, .ref ho), (2, .ref hm), (1, .ref hx), (0, .ref b)] := hl
  exact wh_loop hC0 hr hlk hK 512 0 H1 ls _ _ (by omega) (by omega) (Nat.le_of_ble_eq_true rfl) (Nat.le_of_ble_eq_true rfl) ⟨0, 0, 0, 0, 0, 0, 0, 0, 0, fun _ => 0, fun _ => 0, fun _ => 0, _, _, fun _ => 0, Or.inl ⟨rfl, rfl, fun _ => rfl, fun _ => 0, rfl⟩, ⟨fun _ => ⟨Nat.zero_le _, Nat.zero_le _⟩, 0, 0, 0, 0, 0, 0, 0, fun _ => 0, rfl⟩, hP, hD⟩ hS (lv_sub (l' := [(4, .int (ii ((0 : Nat) : Int))), (3, .ref ho), (2, .ref hm), (1, .ref hx), (0, .ref b)]) hl [0, 1, 2, 3, 4] rfl)
end Lw
