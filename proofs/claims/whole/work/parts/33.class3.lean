/-! The class: what writes a register. By wip/whole/tools/gen9.py. -/
theorem up_P (P : Nat → Option (Nat × Nat)) (k : Nat) (X : Option (Nat × Nat)) : va_up (fun j => ii (ecd (P j))) k (ii (ecd X)) = fun j => ii (ecd (va_up P k X j)) := by
  funext j
  unfold va_up
  split <;> rfl
set_option maxRecDepth 100000 in
set_option maxHeartbeats 4000000 in
theorem c_X1_base (l : Launch) (hL : l.stackTraces = false) (D : va_G) (z0 sz : Nat) (p a b n : Nat) (G : Option (Nat × Nat)) (hp : 5 ≤ p ∧ p ≤ 1021) (ha : a < p) (hb : b < p) (hn : 2 ≤ n ∧ n ≤ 1100) (hG : sm2 p G) (hx hr0 hq0 hc : Nat) (sec dr : Int) (cI : ClassId) (P : Nat → Option (Nat × Nat)) (hPs : ∀ j, sm2 p (P j)) (r : Int) (hr1 : rg r) : vx_Met l yX1_base (Cond.code yX1_base cX1_base 3 none :: AW) ({ frames := 7, cells := 1, slots := 6, locals := 130 } : Room) (PcM D z0 sz [(hx, .inr (1, [.ref hr0, .ref hq0, .ref hc, .int (ii sec), .int (ii dr)])), (hr0, .inl (cI, 4, .inl (fun j => ii (ecd (P j))))), (hc, .inr (0, [.int (ii (p : Int)), .int (ii (a : Int)), .int (ii (b : Int)), .int (ii (n : Int)), .int (ii (ecd G))]))] [(cI, .int)] [.ref hx, .int (ii r)]) (QcM none (okr r) (Wd D [(hx, .inr (1, [.ref hr0, .ref hq0, .ref hc, .int (ii sec), .int (ii dr)])), (hr0, .inl (cI, 4, .inl (fun j => ii (ecd ((va_up P r.toNat G) j))))), (hc, .inr (0, [.int (ii (p : Int)), .int (ii (a : Int)), .int (ii (b : Int)), .int (ii (n : Int)), .int (ii (ecd G))]))] [(cI, .int)] (va_A [(hx, .inr (1, [.ref hr0, .ref hq0, .ref hc, .int (ii sec), .int (ii dr)])), (hr0, .inl (cI, 4, .inl (fun j => ii (ecd (P j))))), (hc, .inr (0, [.int (ii (p : Int)), .int (ii (a : Int)), .int (ii (b : Int)), .int (ii (n : Int)), .int (ii (ecd G))]))] sz)) (va_A [(hx, .inr (1, [.ref hr0, .ref hq0, .ref hc, .int (ii sec), .int (ii dr)])), (hr0, .inl (cI, 4, .inl (fun j => ii (ecd (P j))))), (hc, .inr (0, [.int (ii (p : Int)), .int (ii (a : Int)), .int (ii (b : Int)), .int (ii (n : Int)), .int (ii (ecd G))]))] sz)) (XcM (fun E => E = "java/lang/IndexOutOfBoundsException" ∧ ¬ okr r) (Wd D [(hx, .inr (1, [.ref hr0, .ref hq0, .ref hc, .int (ii sec), .int (ii dr)])), (hr0, .inl (cI, 4, .inl (fun j => ii (ecd (P j))))), (hc, .inr (0, [.int (ii (p : Int)), .int (ii (a : Int)), .int (ii (b : Int)), .int (ii (n : Int)), .int (ii (ecd G))]))] [(cI, .int)] (va_A [(hx, .inr (1, [.ref hr0, .ref hq0, .ref hc, .int (ii sec), .int (ii dr)])), (hr0, .inl (cI, 4, .inl (fun j => ii (ecd (P j))))), (hc, .inr (0, [.int (ii (p : Int)), .int (ii (a : Int)), .int (ii (b : Int)), .int (ii (n : Int)), .int (ii (ecd G))]))] sz)) (va_A [(hx, .inr (1, [.ref hr0, .ref hq0, .ref hc, .int (ii sec), .int (ii dr)])), (hr0, .inl (cI, 4, .inl (fun j => ii (ecd (P j))))), (hc, .inr (0, [.int (ii (p : Int)), .int (ii (a : Int)), .int (ii (b : Int)), .int (ii (n : Int)), .int (ii (ecd G))]))] sz)) 1 6 (va_A [(hx, .inr (1, [.ref hr0, .ref hq0, .ref hc, .int (ii sec), .int (ii dr)])), (hr0, .inl (cI, 4, .inl (fun j => ii (ecd (P j))))), (hc, .inr (0, [.int (ii (p : Int)), .int (ii (a : Int)), .int (ii (b : Int)), .int (ii (n : Int)), .int (ii (ecd G))]))] sz) := by
  refine mt_M (by decide +kernel) (Nat.le_of_ble_eq_true rfl) ?_
  intro P0 E0 S0 M0 A0 B0 T0 K0 C hN hZ hsz hz hP hK hD hAz hA hr hk hex hin ls hl
  have hl : lv_has ls 3 [(0, .ref hx), (1, .int (ii r))] := hl
  generalize hAe : va_A [(hx, .inr (1, [.ref hr0, .ref hq0, .ref hc, .int (ii sec), .int (ii dr)])), (hr0, .inl (cI, 4, .inl (fun j => ii (ecd (P j))))), (hc, .inr (0, [.int (ii (p : Int)), .int (ii (a : Int)), .int (ii (b : Int)), .int (ii (n : Int)), .int (ii (ecd G))]))] sz = A at hD hAz hA ⊢
  have hS : va_S A S0.heap S0.heap [] := va_S.rf
  refine lv_aload_n C.1 C.2.1 dX1_base_0 rfl (lv_at hl 0 rfl) ?_
  refine ca_V (As := []) (rest := []) C (c_taken_c l D hx hr0 hq0 hc sec dr) (pcw_preV [] hN (hP.sub (ws' := [(hx, .inr (1, [.ref hr0, .ref hq0, .ref hc, .int (ii sec), .int (ii dr)]))]) [0] rfl) (hK.sub (tys' := []) [] rfl) 0 (ci := 1) rfl rfl) aw_b_X1_takenCurve aw_m_X1_62 aw_v_X1_takenCurve aw_i_X1 aw_e_X1_takenCurve ⟨rfl, rfl⟩ 0 (by decide +kernel) rfl ⟨by decide, by decide⟩ hl.1 rfl (Nat.le_of_ble_eq_true rfl) dX1_base_1 ⟨by decide, by decide⟩ ?_
  refine lv_astore_n C.1 C.2.1 dX1_base_4 rfl hl (by decide) rfl (fun ls hl => ?_)
  have hl : lv_has ls 3 [(2, .ref hc), (0, .ref hx), (1, .int (ii r))] := hl
  refine lv_iload_n C.1 C.2.1 dX1_base_5 rfl (lv_at hl 2 rfl) ?_
  refine cx_S (As := [.int (ii r)]) (rest := []) C (c_check l hL D z0 r hr1) (pcx_pre _ hN hZ (hP.sub (ws' := []) [] rfl) (hK.sub (tys' := []) [] rfl)) aw_b_X1_checkRegister aw_m_X1_66 aw_s_X1_checkRegister aw_i_X1 ⟨rfl, rfl⟩ 1 (by decide +kernel) rfl ⟨by decide, by decide⟩ hl.1 rfl (Nat.le_of_ble_eq_true rfl) dX1_base_6 ⟨by decide, by decide⟩ (fun hw H1 q9 ce z1 z2 z3 z4 z5 => ?_) (fun ho => ?_)
  · exact ox_M hex hk z3 z4 z5 ⟨rfl, hw⟩ hS z1 z2 (fun t ht hvm => ⟨by rw [ht]; exact hP.on z2, va_K.moved hvm hK, hD⟩) (by decide) (by decide)
  have ho2 := ho
  unfold okr at ho2
  refine lv_aload_n C.1 C.2.1 dX1_base_9 rfl (lv_at hl 1 rfl) ?_
  refine gf C hK hP 0 rfl rfl aw_uX1 0 (by decide) aw_f_X1_9 rfl dX1_base_10 ?_
  refine lv_iload_n C.1 C.2.1 dX1_base_13 rfl (lv_at hl 2 rfl) ?_
  refine lv_aload_n C.1 C.2.1 dX1_base_14 rfl (lv_at hl 0 rfl) ?_
  refine gf C hK hP 2 rfl rfl aw_uX0 4 (by decide) aw_f_X1_80 rfl dX1_base_15 ?_
  refine i_ast C hK hP hD hS 1 0 rfl rfl r.toNat (by omega) (by omega) (by omega) dX1_base_18 (fun H1 locs1 hP hD hS => ?_)
  rw [up_P P r.toNat (G)] at hP hD
  have hP : va_P D clX [(hx, .inr (1, [.ref hr0, .ref hq0, .ref hc, .int (ii sec), .int (ii dr)])), (hr0, .inl (cI, 4, .inl (fun j => ii (ecd ((va_up P r.toNat G) j))))), (hc, .inr (0, [.int (ii (p : Int)), .int (ii (a : Int)), .int (ii (b : Int)), .int (ii (n : Int)), .int (ii (ecd G))]))] H1 := hP
  have hD : va_D A [(hx, .inr (1, [.ref hr0, .ref hq0, .ref hc, .int (ii sec), .int (ii dr)])), (hr0, .inl (cI, 4, .inl (fun j => ii (ecd ((va_up P r.toNat G) j))))), (hc, .inr (0, [.int (ii (p : Int)), .int (ii (a : Int)), .int (ii (b : Int)), .int (ii (n : Int)), .int (ii (ecd G))]))] := hD
  exact py_v C hr hk hS ho (fun t ht hvm => ⟨by rw [ht]; exact hP, va_K.moved hvm hK, hD⟩) dX1_base_19 (by decide) (by decide)
theorem hoF_1 {p a b : Nat} {x y : Int} (h : hoF p a b x y ≠ 0) : 0 ≤ x ∧ x < p ∧ 0 ≤ y ∧ y < p ∧ y * y % p = ((x * x + a) % p * x + b) % p := by
  unfold hoF at h
  split at h
  · exact absurd rfl h
  · split at h
    · exact absurd rfl h
    · split at h
      · exact absurd rfl h
      · split at h
        · exact absurd rfl h
        · split at h
          · refine ⟨by omega, by omega, by omega, by omega, by assumption⟩
          · exact absurd rfl h
set_option maxRecDepth 100000 in
set_option maxHeartbeats 4000000 in
theorem c_X1_load (l : Launch) (hL : l.stackTraces = false) (D : va_G) (z0 sz : Nat) (p a b n : Nat) (G : Option (Nat × Nat)) (hp : 5 ≤ p ∧ p ≤ 1021) (ha : a < p) (hb : b < p) (hn : 2 ≤ n ∧ n ≤ 1100) (hG : sm2 p G) (hx hr0 hq0 hc : Nat) (sec dr : Int) (cI : ClassId) (P : Nat → Option (Nat × Nat)) (hPs : ∀ j, sm2 p (P j)) (r x y : Int) (hr1 : rg r) (hx1 : rg x) (hy1 : rg y) : vx_Met l yX1_load (Cond.code yX1_load cX1_load 5 none :: AW) ({ frames := 7, cells := 2, slots := 12, locals := 130 } : Room) (PcM D z0 sz [(hx, .inr (1, [.ref hr0, .ref hq0, .ref hc, .int (ii sec), .int (ii dr)])), (hr0, .inl (cI, 4, .inl (fun j => ii (ecd (P j))))), (hc, .inr (0, [.int (ii (p : Int)), .int (ii (a : Int)), .int (ii (b : Int)), .int (ii (n : Int)), .int (ii (ecd G))]))] [(cI, .int)] [.ref hx, .int (ii r), .int (ii x), .int (ii y)]) (QcM none (okr r ∧ hoF p a b x y ≠ 0) (Wd D [(hx, .inr (1, [.ref hr0, .ref hq0, .ref hc, .int (ii sec), .int (ii dr)])), (hr0, .inl (cI, 4, .inl (fun j => ii (ecd ((va_up P r.toNat (some (x.toNat, y.toNat))) j))))), (hc, .inr (0, [.int (ii (p : Int)), .int (ii (a : Int)), .int (ii (b : Int)), .int (ii (n : Int)), .int (ii (ecd G))]))] [(cI, .int)] (va_A [(hx, .inr (1, [.ref hr0, .ref hq0, .ref hc, .int (ii sec), .int (ii dr)])), (hr0, .inl (cI, 4, .inl (fun j => ii (ecd (P j))))), (hc, .inr (0, [.int (ii (p : Int)), .int (ii (a : Int)), .int (ii (b : Int)), .int (ii (n : Int)), .int (ii (ecd G))]))] sz)) (va_A [(hx, .inr (1, [.ref hr0, .ref hq0, .ref hc, .int (ii sec), .int (ii dr)])), (hr0, .inl (cI, 4, .inl (fun j => ii (ecd (P j))))), (hc, .inr (0, [.int (ii (p : Int)), .int (ii (a : Int)), .int (ii (b : Int)), .int (ii (n : Int)), .int (ii (ecd G))]))] sz)) (XcM (fun E => (E = "java/lang/IndexOutOfBoundsException" ∧ ¬ okr r) ∨ (E = "java/lang/IllegalArgumentException" ∧ okr r ∧ hoF p a b x y = 0)) (Wd D [(hx, .inr (1, [.ref hr0, .ref hq0, .ref hc, .int (ii sec), .int (ii dr)])), (hr0, .inl (cI, 4, .inl (fun j => ii (ecd (P j))))), (hc, .inr (0, [.int (ii (p : Int)), .int (ii (a : Int)), .int (ii (b : Int)), .int (ii (n : Int)), .int (ii (ecd G))]))] [(cI, .int)] (va_A [(hx, .inr (1, [.ref hr0, .ref hq0, .ref hc, .int (ii sec), .int (ii dr)])), (hr0, .inl (cI, 4, .inl (fun j => ii (ecd (P j))))), (hc, .inr (0, [.int (ii (p : Int)), .int (ii (a : Int)), .int (ii (b : Int)), .int (ii (n : Int)), .int (ii (ecd G))]))] sz)) (va_A [(hx, .inr (1, [.ref hr0, .ref hq0, .ref hc, .int (ii sec), .int (ii dr)])), (hr0, .inl (cI, 4, .inl (fun j => ii (ecd (P j))))), (hc, .inr (0, [.int (ii (p : Int)), .int (ii (a : Int)), .int (ii (b : Int)), .int (ii (n : Int)), .int (ii (ecd G))]))] sz)) 2 12 (va_A [(hx, .inr (1, [.ref hr0, .ref hq0, .ref hc, .int (ii sec), .int (ii dr)])), (hr0, .inl (cI, 4, .inl (fun j => ii (ecd (P j))))), (hc, .inr (0, [.int (ii (p : Int)), .int (ii (a : Int)), .int (ii (b : Int)), .int (ii (n : Int)), .int (ii (ecd G))]))] sz) := by
  refine mt_M (by decide +kernel) (Nat.le_of_ble_eq_true rfl) ?_
  intro P0 E0 S0 M0 A0 B0 T0 K0 C hN hZ hsz hz hP hK hD hAz hA hr hk hex hin ls hl
  have hl : lv_has ls 5 [(0, .ref hx), (1, .int (ii r)), (2, .int (ii x)), (3, .int (ii y))] := hl
  generalize hAe : va_A [(hx, .inr (1, [.ref hr0, .ref hq0, .ref hc, .int (ii sec), .int (ii dr)])), (hr0, .inl (cI, 4, .inl (fun j => ii (ecd (P j))))), (hc, .inr (0, [.int (ii (p : Int)), .int (ii (a : Int)), .int (ii (b : Int)), .int (ii (n : Int)), .int (ii (ecd G))]))] sz = A at hD hAz hA ⊢
  have hS : va_S A S0.heap S0.heap [] := va_S.rf
  refine lv_aload_n C.1 C.2.1 dX1_load_0 rfl (lv_at hl 0 rfl) ?_
  refine ca_V (As := []) (rest := []) C (c_taken_c l D hx hr0 hq0 hc sec dr) (pcw_preV [] hN (hP.sub (ws' := [(hx, .inr (1, [.ref hr0, .ref hq0, .ref hc, .int (ii sec), .int (ii dr)]))]) [0] rfl) (hK.sub (tys' := []) [] rfl) 0 (ci := 1) rfl rfl) aw_b_X1_takenCurve aw_m_X1_62 aw_v_X1_takenCurve aw_i_X1 aw_e_X1_takenCurve ⟨rfl, rfl⟩ 0 (by decide +kernel) rfl ⟨by decide, by decide⟩ hl.1 rfl (Nat.le_of_ble_eq_true rfl) dX1_load_1 ⟨by decide, by decide⟩ ?_
  refine lv_astore C.1 C.2.1 dX1_load_4 hl (by decide) rfl (fun ls hl => ?_)
  have hl : lv_has ls 5 [(4, .ref hc), (0, .ref hx), (1, .int (ii r)), (2, .int (ii x)), (3, .int (ii y))] := hl
  refine lv_iload_n C.1 C.2.1 dX1_load_6 rfl (lv_at hl 2 rfl) ?_
  refine cx_S (As := [.int (ii r)]) (rest := []) C (c_check l hL D z0 r hr1) (pcx_pre _ hN hZ (hP.sub (ws' := []) [] rfl) (hK.sub (tys' := []) [] rfl)) aw_b_X1_checkRegister aw_m_X1_66 aw_s_X1_checkRegister aw_i_X1 ⟨rfl, rfl⟩ 1 (by decide +kernel) rfl ⟨by decide, by decide⟩ hl.1 rfl (Nat.le_of_ble_eq_true rfl) dX1_load_7 ⟨by decide, by decide⟩ (fun hw H1 q9 ce z1 z2 z3 z4 z5 => ?_) (fun ho => ?_)
  · exact ox_M hex hk z3 z4 z5 (Or.inl ⟨rfl, hw⟩) hS z1 z2 (fun t ht hvm => ⟨by rw [ht]; exact hP.on z2, va_K.moved hvm hK, hD⟩) (by decide) (by decide)
  have ho2 := ho
  unfold okr at ho2
  have hb1 := hoF_b p a b x y
  have hb2 := hoF_1 (p := p) (a := a) (b := b) (x := x) (y := y)
  refine lv_aload C.1 C.2.1 dX1_load_10 (lv_at hl 0 rfl) ?_
  refine lv_iload_n C.1 C.2.1 dX1_load_12 rfl (lv_at hl 3 rfl) ?_
  refine lv_iload_n C.1 C.2.1 dX1_load_13 rfl (lv_at hl 4 rfl) ?_
  refine ca_V (As := [.int (ii x), .int (ii y)]) (rest := []) C (c_X0_holds l D hc p a b n (ecd G) hp ha hb x y hx1 hy1) (pcw_preV [.int (ii x), .int (ii y)] hN (hP.sub (ws' := [(hc, .inr (0, [.int (ii (p : Int)), .int (ii (a : Int)), .int (ii (b : Int)), .int (ii (n : Int)), .int (ii (ecd G))]))]) [2] rfl) (hK.sub (tys' := []) [] rfl) 0 (ci := 0) rfl rfl) aw_b_X0_holds aw_m_X1_70 aw_v_X0_holds aw_i_X0 aw_e_X0_holds ⟨rfl, rfl⟩ 2 (by decide +kernel) rfl ⟨by decide, by decide⟩ hl.1 rfl (Nat.le_of_ble_eq_true rfl) dX1_load_14 ⟨by decide, by decide⟩ ?_
  generalize hoF p a b x y = j at hb1 hb2 ⊢
  refine i_if_ne (tgt := 30) C dX1_load_17 (by decide) ⟨by omega, by omega⟩ (fun h1 => ?_) (fun h1 => ?_)
  · have hb2 := hb2 h1
    refine lv_aload_n C.1 C.2.1 dX1_load_30 rfl (lv_at hl 1 rfl) ?_
    refine gf C hK hP 0 rfl rfl aw_uX1 0 (by decide) aw_f_X1_9 rfl dX1_load_31 ?_
    refine lv_iload_n C.1 C.2.1 dX1_load_34 rfl (lv_at hl 2 rfl) ?_
    refine lv_iload_n C.1 C.2.1 dX1_load_35 rfl (lv_at hl 3 rfl) ?_
    refine lv_iload_n C.1 C.2.1 dX1_load_36 rfl (lv_at hl 4 rfl) ?_
    refine ca_S (As := [.int (ii x), .int (ii y)]) (rest := [.int (ii r), .ref hr0]) C (c_X1_pointAt l x y) (pcn_pre _ hN) aw_b_X1_pointAt aw_m_X1_76 aw_s_X1_pointAt aw_i_X1 ⟨rfl, rfl⟩ 2 (by decide +kernel) rfl ⟨by decide, by decide⟩ hl.1 rfl (Nat.le_of_ble_eq_true rfl) dX1_load_37 ⟨by decide, by decide⟩ ?_
    refine i_top (b := ecd (some (x.toNat, y.toNat))) (show x * 65536 + y = (x.toNat : Int) * 65536 + (y.toNat : Int) by omega) ?_
    refine i_ast C hK hP hD hS 1 0 rfl rfl r.toNat (by omega) (by omega) (by omega) dX1_load_40 (fun H1 locs1 hP hD hS => ?_)
    rw [up_P P r.toNat (some (x.toNat, y.toNat))] at hP hD
    have hP : va_P D clX [(hx, .inr (1, [.ref hr0, .ref hq0, .ref hc, .int (ii sec), .int (ii dr)])), (hr0, .inl (cI, 4, .inl (fun j => ii (ecd ((va_up P r.toNat (some (x.toNat, y.toNat))) j))))), (hc, .inr (0, [.int (ii (p : Int)), .int (ii (a : Int)), .int (ii (b : Int)), .int (ii (n : Int)), .int (ii (ecd G))]))] H1 := hP
    have hD : va_D A [(hx, .inr (1, [.ref hr0, .ref hq0, .ref hc, .int (ii sec), .int (ii dr)])), (hr0, .inl (cI, 4, .inl (fun j => ii (ecd ((va_up P r.toNat (some (x.toNat, y.toNat))) j))))), (hc, .inr (0, [.int (ii (p : Int)), .int (ii (a : Int)), .int (ii (b : Int)), .int (ii (n : Int)), .int (ii (ecd G))]))] := hD
    exact py_v C hr hk hS ⟨ho, h1⟩ (fun t ht hvm => ⟨by rw [ht]; exact hP, va_K.moved hvm hK, hD⟩) dX1_load_41 (by decide) (by decide)
  · exact th_S (z0 := z0) C hL hN hZ va_S.rf (text := "no point of the curve") (by decide +kernel) (by decide +kernel) tw_iae hl.1 dX1_load_20 dX1_load_23 dX1_load_24 dX1_load_26 dX1_load_29 hex ⟨by decide, by decide, by decide, by decide⟩ (Nat.le_of_ble_eq_true rfl) hk (fun t hvm z1 z2 => ⟨Or.inr ⟨rfl, ho, Classical.not_not.mp h1⟩, ⟨hP.on z2, va_K.moved hvm hK, hD⟩, z1, fun q h1 _ => z2 q h1⟩) (fun q h => by cases h) (by decide) (by decide)
set_option maxRecDepth 100000 in
set_option maxHeartbeats 4000000 in
theorem c_X1_sum (l : Launch) (hL : l.stackTraces = false) (D : va_G) (z0 sz : Nat) (p a b n : Nat) (G : Option (Nat × Nat)) (hp : 5 ≤ p ∧ p ≤ 1021) (ha : a < p) (hb : b < p) (hn : 2 ≤ n ∧ n ≤ 1100) (hG : sm2 p G) (hx hr0 hq0 hc : Nat) (sec dr : Int) (cI : ClassId) (P : Nat → Option (Nat × Nat)) (hPs : ∀ j, sm2 p (P j)) (d u v : Int) (hd1 : rg d) (hu1 : rg u) (hv1 : rg v) : vx_Met l yX1_sum (Cond.code yX1_sum cX1_sum 5 none :: AW) ({ frames := 7, cells := 3, slots := 18, locals := 130 } : Room) (PcM D z0 sz [(hx, .inr (1, [.ref hr0, .ref hq0, .ref hc, .int (ii sec), .int (ii dr)])), (hr0, .inl (cI, 4, .inl (fun j => ii (ecd (P j))))), (hc, .inr (0, [.int (ii (p : Int)), .int (ii (a : Int)), .int (ii (b : Int)), .int (ii (n : Int)), .int (ii (ecd G))]))] [(cI, .int)] [.ref hx, .int (ii d), .int (ii u), .int (ii v)]) (QcM none (okr d ∧ okr u ∧ okr v) (Wd D [(hx, .inr (1, [.ref hr0, .ref hq0, .ref hc, .int (ii sec), .int (ii dr)])), (hr0, .inl (cI, 4, .inl (fun j => ii (ecd ((va_up P d.toNat (plF p a (P u.toNat) (P v.toNat))) j))))), (hc, .inr (0, [.int (ii (p : Int)), .int (ii (a : Int)), .int (ii (b : Int)), .int (ii (n : Int)), .int (ii (ecd G))]))] [(cI, .int)] (va_A [(hx, .inr (1, [.ref hr0, .ref hq0, .ref hc, .int (ii sec), .int (ii dr)])), (hr0, .inl (cI, 4, .inl (fun j => ii (ecd (P j))))), (hc, .inr (0, [.int (ii (p : Int)), .int (ii (a : Int)), .int (ii (b : Int)), .int (ii (n : Int)), .int (ii (ecd G))]))] sz)) (va_A [(hx, .inr (1, [.ref hr0, .ref hq0, .ref hc, .int (ii sec), .int (ii dr)])), (hr0, .inl (cI, 4, .inl (fun j => ii (ecd (P j))))), (hc, .inr (0, [.int (ii (p : Int)), .int (ii (a : Int)), .int (ii (b : Int)), .int (ii (n : Int)), .int (ii (ecd G))]))] sz)) (XcM (fun E => E = "java/lang/IndexOutOfBoundsException" ∧ ¬ (okr d ∧ okr u ∧ okr v)) (Wd D [(hx, .inr (1, [.ref hr0, .ref hq0, .ref hc, .int (ii sec), .int (ii dr)])), (hr0, .inl (cI, 4, .inl (fun j => ii (ecd (P j))))), (hc, .inr (0, [.int (ii (p : Int)), .int (ii (a : Int)), .int (ii (b : Int)), .int (ii (n : Int)), .int (ii (ecd G))]))] [(cI, .int)] (va_A [(hx, .inr (1, [.ref hr0, .ref hq0, .ref hc, .int (ii sec), .int (ii dr)])), (hr0, .inl (cI, 4, .inl (fun j => ii (ecd (P j))))), (hc, .inr (0, [.int (ii (p : Int)), .int (ii (a : Int)), .int (ii (b : Int)), .int (ii (n : Int)), .int (ii (ecd G))]))] sz)) (va_A [(hx, .inr (1, [.ref hr0, .ref hq0, .ref hc, .int (ii sec), .int (ii dr)])), (hr0, .inl (cI, 4, .inl (fun j => ii (ecd (P j))))), (hc, .inr (0, [.int (ii (p : Int)), .int (ii (a : Int)), .int (ii (b : Int)), .int (ii (n : Int)), .int (ii (ecd G))]))] sz)) 3 18 (va_A [(hx, .inr (1, [.ref hr0, .ref hq0, .ref hc, .int (ii sec), .int (ii dr)])), (hr0, .inl (cI, 4, .inl (fun j => ii (ecd (P j))))), (hc, .inr (0, [.int (ii (p : Int)), .int (ii (a : Int)), .int (ii (b : Int)), .int (ii (n : Int)), .int (ii (ecd G))]))] sz) := by
  refine mt_M (by decide +kernel) (Nat.le_of_ble_eq_true rfl) ?_
  intro P0 E0 S0 M0 A0 B0 T0 K0 C hN hZ hsz hz hP hK hD hAz hA hr hk hex hin ls hl
  have hl : lv_has ls 5 [(0, .ref hx), (1, .int (ii d)), (2, .int (ii u)), (3, .int (ii v))] := hl
  generalize hAe : va_A [(hx, .inr (1, [.ref hr0, .ref hq0, .ref hc, .int (ii sec), .int (ii dr)])), (hr0, .inl (cI, 4, .inl (fun j => ii (ecd (P j))))), (hc, .inr (0, [.int (ii (p : Int)), .int (ii (a : Int)), .int (ii (b : Int)), .int (ii (n : Int)), .int (ii (ecd G))]))] sz = A at hD hAz hA ⊢
  have hS : va_S A S0.heap S0.heap [] := va_S.rf
  refine lv_aload_n C.1 C.2.1 dX1_sum_0 rfl (lv_at hl 0 rfl) ?_
  refine ca_V (As := []) (rest := []) C (c_taken_c l D hx hr0 hq0 hc sec dr) (pcw_preV [] hN (hP.sub (ws' := [(hx, .inr (1, [.ref hr0, .ref hq0, .ref hc, .int (ii sec), .int (ii dr)]))]) [0] rfl) (hK.sub (tys' := []) [] rfl) 0 (ci := 1) rfl rfl) aw_b_X1_takenCurve aw_m_X1_62 aw_v_X1_takenCurve aw_i_X1 aw_e_X1_takenCurve ⟨rfl, rfl⟩ 0 (by decide +kernel) rfl ⟨by decide, by decide⟩ hl.1 rfl (Nat.le_of_ble_eq_true rfl) dX1_sum_1 ⟨by decide, by decide⟩ ?_
  refine lv_astore C.1 C.2.1 dX1_sum_4 hl (by decide) rfl (fun ls hl => ?_)
  have hl : lv_has ls 5 [(4, .ref hc), (0, .ref hx), (1, .int (ii d)), (2, .int (ii u)), (3, .int (ii v))] := hl
  refine lv_iload_n C.1 C.2.1 dX1_sum_6 rfl (lv_at hl 2 rfl) ?_
  refine cx_S (As := [.int (ii d)]) (rest := []) C (c_check l hL D z0 d hd1) (pcx_pre _ hN hZ (hP.sub (ws' := []) [] rfl) (hK.sub (tys' := []) [] rfl)) aw_b_X1_checkRegister aw_m_X1_66 aw_s_X1_checkRegister aw_i_X1 ⟨rfl, rfl⟩ 1 (by decide +kernel) rfl ⟨by decide, by decide⟩ hl.1 rfl (Nat.le_of_ble_eq_true rfl) dX1_sum_7 ⟨by decide, by decide⟩ (fun hw H1 q9 ce z1 z2 z3 z4 z5 => ?_) (fun o1 => ?_)
  · exact ox_M hex hk z3 z4 z5 ⟨rfl, fun z => hw z.1⟩ hS z1 z2 (fun t ht hvm => ⟨by rw [ht]; exact hP.on z2, va_K.moved hvm hK, hD⟩) (by decide) (by decide)
  refine lv_iload_n C.1 C.2.1 dX1_sum_10 rfl (lv_at hl 3 rfl) ?_
  refine cx_S (As := [.int (ii u)]) (rest := []) C (c_check l hL D z0 u hu1) (pcx_pre _ hN hZ (hP.sub (ws' := []) [] rfl) (hK.sub (tys' := []) [] rfl)) aw_b_X1_checkRegister aw_m_X1_66 aw_s_X1_checkRegister aw_i_X1 ⟨rfl, rfl⟩ 1 (by decide +kernel) rfl ⟨by decide, by decide⟩ hl.1 rfl (Nat.le_of_ble_eq_true rfl) dX1_sum_11 ⟨by decide, by decide⟩ (fun hw H1 q9 ce z1 z2 z3 z4 z5 => ?_) (fun o2 => ?_)
  · exact ox_M hex hk z3 z4 z5 ⟨rfl, fun z => hw z.2.1⟩ hS z1 z2 (fun t ht hvm => ⟨by rw [ht]; exact hP.on z2, va_K.moved hvm hK, hD⟩) (by decide) (by decide)
  refine lv_iload_n C.1 C.2.1 dX1_sum_14 rfl (lv_at hl 4 rfl) ?_
  refine cx_S (As := [.int (ii v)]) (rest := []) C (c_check l hL D z0 v hv1) (pcx_pre _ hN hZ (hP.sub (ws' := []) [] rfl) (hK.sub (tys' := []) [] rfl)) aw_b_X1_checkRegister aw_m_X1_66 aw_s_X1_checkRegister aw_i_X1 ⟨rfl, rfl⟩ 1 (by decide +kernel) rfl ⟨by decide, by decide⟩ hl.1 rfl (Nat.le_of_ble_eq_true rfl) dX1_sum_15 ⟨by decide, by decide⟩ (fun hw H1 q9 ce z1 z2 z3 z4 z5 => ?_) (fun o3 => ?_)
  · exact ox_M hex hk z3 z4 z5 ⟨rfl, fun z => hw z.2.2⟩ hS z1 z2 (fun t ht hvm => ⟨by rw [ht]; exact hP.on z2, va_K.moved hvm hK, hD⟩) (by decide) (by decide)
  have p1 := o1
  have p2 := o2
  have p3 := o3
  unfold okr at p1 p2 p3
  refine lv_aload_n C.1 C.2.1 dX1_sum_18 rfl (lv_at hl 1 rfl) ?_
  refine gf C hK hP 0 rfl rfl aw_uX1 0 (by decide) aw_f_X1_9 rfl dX1_sum_19 ?_
  refine lv_iload_n C.1 C.2.1 dX1_sum_22 rfl (lv_at hl 2 rfl) ?_
  refine lv_aload C.1 C.2.1 dX1_sum_23 (lv_at hl 0 rfl) ?_
  refine lv_aload_n C.1 C.2.1 dX1_sum_25 rfl (lv_at hl 1 rfl) ?_
  refine gf C hK hP 0 rfl rfl aw_uX1 0 (by decide) aw_f_X1_9 rfl dX1_sum_26 ?_
  refine lv_iload_n C.1 C.2.1 dX1_sum_29 rfl (lv_at hl 3 rfl) ?_
  refine i_ald C hK hP 1 0 rfl rfl u.toNat (by omega) (by omega) (by omega) dX1_sum_30 ?_
  refine lv_aload_n C.1 C.2.1 dX1_sum_31 rfl (lv_at hl 1 rfl) ?_
  refine gf C hK hP 0 rfl rfl aw_uX1 0 (by decide) aw_f_X1_9 rfl dX1_sum_32 ?_
  refine lv_iload_n C.1 C.2.1 dX1_sum_35 rfl (lv_at hl 4 rfl) ?_
  refine i_ald C hK hP 1 0 rfl rfl v.toNat (by omega) (by omega) (by omega) dX1_sum_36 ?_
  refine ca_V (As := [.int (ii (ecd (P u.toNat))), .int (ii (ecd (P v.toNat)))]) (rest := [.int (ii d), .ref hr0]) C (c_X0_plus l D hc p a b n (ecd G) hp ha hb (P u.toNat) (P v.toNat) (hPs _) (hPs _)) (pcw_preV [.int (ii (ecd (P u.toNat))), .int (ii (ecd (P v.toNat)))] hN (hP.sub (ws' := [(hc, .inr (0, [.int (ii (p : Int)), .int (ii (a : Int)), .int (ii (b : Int)), .int (ii (n : Int)), .int (ii (ecd G))]))]) [2] rfl) (hK.sub (tys' := []) [] rfl) 0 (ci := 0) rfl rfl) aw_b_X0_plus aw_m_X1_83 aw_v_X0_plus aw_i_X0 aw_e_X0_plus ⟨rfl, rfl⟩ 2 (by decide +kernel) rfl ⟨by decide, by decide⟩ hl.1 rfl (Nat.le_of_ble_eq_true rfl) dX1_sum_37 ⟨by decide, by decide⟩ ?_
  refine i_ast C hK hP hD hS 1 0 rfl rfl d.toNat (by omega) (by omega) (by omega) dX1_sum_40 (fun H1 locs1 hP hD hS => ?_)
  rw [up_P P d.toNat (plF p a (P u.toNat) (P v.toNat))] at hP hD
  have hP : va_P D clX [(hx, .inr (1, [.ref hr0, .ref hq0, .ref hc, .int (ii sec), .int (ii dr)])), (hr0, .inl (cI, 4, .inl (fun j => ii (ecd ((va_up P d.toNat (plF p a (P u.toNat) (P v.toNat))) j))))), (hc, .inr (0, [.int (ii (p : Int)), .int (ii (a : Int)), .int (ii (b : Int)), .int (ii (n : Int)), .int (ii (ecd G))]))] H1 := hP
  have hD : va_D A [(hx, .inr (1, [.ref hr0, .ref hq0, .ref hc, .int (ii sec), .int (ii dr)])), (hr0, .inl (cI, 4, .inl (fun j => ii (ecd ((va_up P d.toNat (plF p a (P u.toNat) (P v.toNat))) j))))), (hc, .inr (0, [.int (ii (p : Int)), .int (ii (a : Int)), .int (ii (b : Int)), .int (ii (n : Int)), .int (ii (ecd G))]))] := hD
  exact py_v C hr hk hS ⟨o1, o2, o3⟩ (fun t ht hvm => ⟨by rw [ht]; exact hP, va_K.moved hvm hK, hD⟩) dX1_sum_41 (by decide) (by decide)
set_option maxRecDepth 100000 in
set_option maxHeartbeats 4000000 in
theorem c_X1_times (l : Launch) (hL : l.stackTraces = false) (D : va_G) (z0 sz : Nat) (p a b n : Nat) (G : Option (Nat × Nat)) (hp : 5 ≤ p ∧ p ≤ 1021) (ha : a < p) (hb : b < p) (hn : 2 ≤ n ∧ n ≤ 1100) (hG : sm2 p G) (hx hr0 hq0 hc : Nat) (sec dr : Int) (cI : ClassId) (P : Nat → Option (Nat × Nat)) (hPs : ∀ j, sm2 p (P j)) (d k u : Int) (hd1 : rg d) (hk1 : rg k) (hu1 : rg u) : vx_Met l yX1_times (Cond.code yX1_times cX1_times 5 none :: AW) ({ frames := 7, cells := 2, slots := 12, locals := 130 } : Room) (PcM D z0 sz [(hx, .inr (1, [.ref hr0, .ref hq0, .ref hc, .int (ii sec), .int (ii dr)])), (hr0, .inl (cI, 4, .inl (fun j => ii (ecd (P j))))), (hc, .inr (0, [.int (ii (p : Int)), .int (ii (a : Int)), .int (ii (b : Int)), .int (ii (n : Int)), .int (ii (ecd G))]))] [(cI, .int)] [.ref hx, .int (ii d), .int (ii k), .int (ii u)]) (QcM none (okr d ∧ okr u) (Wd D [(hx, .inr (1, [.ref hr0, .ref hq0, .ref hc, .int (ii sec), .int (ii dr)])), (hr0, .inl (cI, 4, .inl (fun j => ii (ecd ((va_up P d.toNat (muF p a 11 none (P u.toNat) (k % (n : Int)).toNat)) j))))), (hc, .inr (0, [.int (ii (p : Int)), .int (ii (a : Int)), .int (ii (b : Int)), .int (ii (n : Int)), .int (ii (ecd G))]))] [(cI, .int)] (va_A [(hx, .inr (1, [.ref hr0, .ref hq0, .ref hc, .int (ii sec), .int (ii dr)])), (hr0, .inl (cI, 4, .inl (fun j => ii (ecd (P j))))), (hc, .inr (0, [.int (ii (p : Int)), .int (ii (a : Int)), .int (ii (b : Int)), .int (ii (n : Int)), .int (ii (ecd G))]))] sz)) (va_A [(hx, .inr (1, [.ref hr0, .ref hq0, .ref hc, .int (ii sec), .int (ii dr)])), (hr0, .inl (cI, 4, .inl (fun j => ii (ecd (P j))))), (hc, .inr (0, [.int (ii (p : Int)), .int (ii (a : Int)), .int (ii (b : Int)), .int (ii (n : Int)), .int (ii (ecd G))]))] sz)) (XcM (fun E => E = "java/lang/IndexOutOfBoundsException" ∧ ¬ (okr d ∧ okr u)) (Wd D [(hx, .inr (1, [.ref hr0, .ref hq0, .ref hc, .int (ii sec), .int (ii dr)])), (hr0, .inl (cI, 4, .inl (fun j => ii (ecd (P j))))), (hc, .inr (0, [.int (ii (p : Int)), .int (ii (a : Int)), .int (ii (b : Int)), .int (ii (n : Int)), .int (ii (ecd G))]))] [(cI, .int)] (va_A [(hx, .inr (1, [.ref hr0, .ref hq0, .ref hc, .int (ii sec), .int (ii dr)])), (hr0, .inl (cI, 4, .inl (fun j => ii (ecd (P j))))), (hc, .inr (0, [.int (ii (p : Int)), .int (ii (a : Int)), .int (ii (b : Int)), .int (ii (n : Int)), .int (ii (ecd G))]))] sz)) (va_A [(hx, .inr (1, [.ref hr0, .ref hq0, .ref hc, .int (ii sec), .int (ii dr)])), (hr0, .inl (cI, 4, .inl (fun j => ii (ecd (P j))))), (hc, .inr (0, [.int (ii (p : Int)), .int (ii (a : Int)), .int (ii (b : Int)), .int (ii (n : Int)), .int (ii (ecd G))]))] sz)) 2 12 (va_A [(hx, .inr (1, [.ref hr0, .ref hq0, .ref hc, .int (ii sec), .int (ii dr)])), (hr0, .inl (cI, 4, .inl (fun j => ii (ecd (P j))))), (hc, .inr (0, [.int (ii (p : Int)), .int (ii (a : Int)), .int (ii (b : Int)), .int (ii (n : Int)), .int (ii (ecd G))]))] sz) := by
  refine mt_M (by decide +kernel) (Nat.le_of_ble_eq_true rfl) ?_
  intro P0 E0 S0 M0 A0 B0 T0 K0 C hN hZ hsz hz hP hK hD hAz hA hr hk hex hin ls hl
  have hl : lv_has ls 5 [(0, .ref hx), (1, .int (ii d)), (2, .int (ii k)), (3, .int (ii u))] := hl
  generalize hAe : va_A [(hx, .inr (1, [.ref hr0, .ref hq0, .ref hc, .int (ii sec), .int (ii dr)])), (hr0, .inl (cI, 4, .inl (fun j => ii (ecd (P j))))), (hc, .inr (0, [.int (ii (p : Int)), .int (ii (a : Int)), .int (ii (b : Int)), .int (ii (n : Int)), .int (ii (ecd G))]))] sz = A at hD hAz hA ⊢
  have hS : va_S A S0.heap S0.heap [] := va_S.rf
  refine lv_aload_n C.1 C.2.1 dX1_times_0 rfl (lv_at hl 0 rfl) ?_
  refine ca_V (As := []) (rest := []) C (c_taken_c l D hx hr0 hq0 hc sec dr) (pcw_preV [] hN (hP.sub (ws' := [(hx, .inr (1, [.ref hr0, .ref hq0, .ref hc, .int (ii sec), .int (ii dr)]))]) [0] rfl) (hK.sub (tys' := []) [] rfl) 0 (ci := 1) rfl rfl) aw_b_X1_takenCurve aw_m_X1_62 aw_v_X1_takenCurve aw_i_X1 aw_e_X1_takenCurve ⟨rfl, rfl⟩ 0 (by decide +kernel) rfl ⟨by decide, by decide⟩ hl.1 rfl (Nat.le_of_ble_eq_true rfl) dX1_times_1 ⟨by decide, by decide⟩ ?_
  refine lv_astore C.1 C.2.1 dX1_times_4 hl (by decide) rfl (fun ls hl => ?_)
  have hl : lv_has ls 5 [(4, .ref hc), (0, .ref hx), (1, .int (ii d)), (2, .int (ii k)), (3, .int (ii u))] := hl
  refine lv_iload_n C.1 C.2.1 dX1_times_6 rfl (lv_at hl 2 rfl) ?_
  refine cx_S (As := [.int (ii d)]) (rest := []) C (c_check l hL D z0 d hd1) (pcx_pre _ hN hZ (hP.sub (ws' := []) [] rfl) (hK.sub (tys' := []) [] rfl)) aw_b_X1_checkRegister aw_m_X1_66 aw_s_X1_checkRegister aw_i_X1 ⟨rfl, rfl⟩ 1 (by decide +kernel) rfl ⟨by decide, by decide⟩ hl.1 rfl (Nat.le_of_ble_eq_true rfl) dX1_times_7 ⟨by decide, by decide⟩ (fun hw H1 q9 ce z1 z2 z3 z4 z5 => ?_) (fun o1 => ?_)
  · exact ox_M hex hk z3 z4 z5 ⟨rfl, fun z => hw z.1⟩ hS z1 z2 (fun t ht hvm => ⟨by rw [ht]; exact hP.on z2, va_K.moved hvm hK, hD⟩) (by decide) (by decide)
  refine lv_iload_n C.1 C.2.1 dX1_times_10 rfl (lv_at hl 4 rfl) ?_
  refine cx_S (As := [.int (ii u)]) (rest := []) C (c_check l hL D z0 u hu1) (pcx_pre _ hN hZ (hP.sub (ws' := []) [] rfl) (hK.sub (tys' := []) [] rfl)) aw_b_X1_checkRegister aw_m_X1_66 aw_s_X1_checkRegister aw_i_X1 ⟨rfl, rfl⟩ 1 (by decide +kernel) rfl ⟨by decide, by decide⟩ hl.1 rfl (Nat.le_of_ble_eq_true rfl) dX1_times_11 ⟨by decide, by decide⟩ (fun hw H1 q9 ce z1 z2 z3 z4 z5 => ?_) (fun o2 => ?_)
  · exact ox_M hex hk z3 z4 z5 ⟨rfl, fun z => hw z.2⟩ hS z1 z2 (fun t ht hvm => ⟨by rw [ht]; exact hP.on z2, va_K.moved hvm hK, hD⟩) (by decide) (by decide)
  have p1 := o1
  have p2 := o2
  unfold okr at p1 p2
  refine lv_aload_n C.1 C.2.1 dX1_times_14 rfl (lv_at hl 1 rfl) ?_
  refine gf C hK hP 0 rfl rfl aw_uX1 0 (by decide) aw_f_X1_9 rfl dX1_times_15 ?_
  refine lv_iload_n C.1 C.2.1 dX1_times_18 rfl (lv_at hl 2 rfl) ?_
  refine lv_aload C.1 C.2.1 dX1_times_19 (lv_at hl 0 rfl) ?_
  refine lv_iload_n C.1 C.2.1 dX1_times_21 rfl (lv_at hl 3 rfl) ?_
  refine lv_aload_n C.1 C.2.1 dX1_times_22 rfl (lv_at hl 1 rfl) ?_
  refine gf C hK hP 0 rfl rfl aw_uX1 0 (by decide) aw_f_X1_9 rfl dX1_times_23 ?_
  refine lv_iload_n C.1 C.2.1 dX1_times_26 rfl (lv_at hl 4 rfl) ?_
  refine i_ald C hK hP 1 0 rfl rfl u.toNat (by omega) (by omega) (by omega) dX1_times_27 ?_
  refine ca_V (As := [.int (ii k), .int (ii (ecd (P u.toNat)))]) (rest := [.int (ii d), .ref hr0]) C (c_X0_multiple l D hc p a b n (ecd G) hp ha hb (by omega) k hk1 (P u.toNat) (hPs _)) (pcw_preV [.int (ii k), .int (ii (ecd (P u.toNat)))] hN (hP.sub (ws' := [(hc, .inr (0, [.int (ii (p : Int)), .int (ii (a : Int)), .int (ii (b : Int)), .int (ii (n : Int)), .int (ii (ecd G))]))]) [2] rfl) (hK.sub (tys' := []) [] rfl) 0 (ci := 0) rfl rfl) aw_b_X0_multiple aw_m_X1_86 aw_v_X0_multiple aw_i_X0 aw_e_X0_multiple ⟨rfl, rfl⟩ 2 (by decide +kernel) rfl ⟨by decide, by decide⟩ hl.1 rfl (Nat.le_of_ble_eq_true rfl) dX1_times_28 ⟨by decide, by decide⟩ ?_
  refine i_ast C hK hP hD hS 1 0 rfl rfl d.toNat (by omega) (by omega) (by omega) dX1_times_31 (fun H1 locs1 hP hD hS => ?_)
  rw [up_P P d.toNat (muF p a 11 none (P u.toNat) (k % (n : Int)).toNat)] at hP hD
  have hP : va_P D clX [(hx, .inr (1, [.ref hr0, .ref hq0, .ref hc, .int (ii sec), .int (ii dr)])), (hr0, .inl (cI, 4, .inl (fun j => ii (ecd ((va_up P d.toNat (muF p a 11 none (P u.toNat) (k % (n : Int)).toNat)) j))))), (hc, .inr (0, [.int (ii (p : Int)), .int (ii (a : Int)), .int (ii (b : Int)), .int (ii (n : Int)), .int (ii (ecd G))]))] H1 := hP
  have hD : va_D A [(hx, .inr (1, [.ref hr0, .ref hq0, .ref hc, .int (ii sec), .int (ii dr)])), (hr0, .inl (cI, 4, .inl (fun j => ii (ecd ((va_up P d.toNat (muF p a 11 none (P u.toNat) (k % (n : Int)).toNat)) j))))), (hc, .inr (0, [.int (ii (p : Int)), .int (ii (a : Int)), .int (ii (b : Int)), .int (ii (n : Int)), .int (ii (ecd G))]))] := hD
  exact py_v C hr hk hS ⟨o1, o2⟩ (fun t ht hvm => ⟨by rw [ht]; exact hP, va_K.moved hvm hK, hD⟩) dX1_times_32 (by decide) (by decide)
set_option maxRecDepth 100000 in
set_option maxHeartbeats 4000000 in
theorem c_X1_decode (l : Launch) (hL : l.stackTraces = false) (D : va_G) (z0 sz : Nat) (p a b n : Nat) (G : Option (Nat × Nat)) (hp : 5 ≤ p ∧ p ≤ 1021) (ha : a < p) (hb : b < p) (hn : 2 ≤ n ∧ n ≤ 1100) (hG : sm2 p G) (hx hr0 hq0 hc : Nat) (sec dr : Int) (cI : ClassId) (P : Nat → Option (Nat × Nat)) (hPs : ∀ j, sm2 p (P j)) (h0 : ∀ x, x < p → cub p a b x ≠ 0) (d k m : Int) (hd1 : rg d) (hk1 : rg k) (hm : rl m) : vx_Met l yX1_decode (Cond.code yX1_decode cX1_decode 7 none :: AW) ({ frames := 7, cells := 2, slots := 12, locals := 130 } : Room) (PcM D z0 sz [(hx, .inr (1, [.ref hr0, .ref hq0, .ref hc, .int (ii sec), .int (ii dr)])), (hr0, .inl (cI, 4, .inl (fun j => ii (ecd (P j))))), (hc, .inr (0, [.int (ii (p : Int)), .int (ii (a : Int)), .int (ii (b : Int)), .int (ii (n : Int)), .int (ii (ecd G))]))] [(cI, .int)] [.ref hx, .int (ii d), .int (ii k), .long (li m)]) (QcM none (okr d ∧ pbF p a b k m ≠ -2) (Wd D [(hx, .inr (1, [.ref hr0, .ref hq0, .ref hc, .int (ii sec), .int (ii dr)])), (hr0, .inl (cI, 4, .inl (fun j => ii (ecd ((va_up P d.toNat (ofC (pbF p a b k m))) j))))), (hc, .inr (0, [.int (ii (p : Int)), .int (ii (a : Int)), .int (ii (b : Int)), .int (ii (n : Int)), .int (ii (ecd G))]))] [(cI, .int)] (va_A [(hx, .inr (1, [.ref hr0, .ref hq0, .ref hc, .int (ii sec), .int (ii dr)])), (hr0, .inl (cI, 4, .inl (fun j => ii (ecd (P j))))), (hc, .inr (0, [.int (ii (p : Int)), .int (ii (a : Int)), .int (ii (b : Int)), .int (ii (n : Int)), .int (ii (ecd G))]))] sz)) (va_A [(hx, .inr (1, [.ref hr0, .ref hq0, .ref hc, .int (ii sec), .int (ii dr)])), (hr0, .inl (cI, 4, .inl (fun j => ii (ecd (P j))))), (hc, .inr (0, [.int (ii (p : Int)), .int (ii (a : Int)), .int (ii (b : Int)), .int (ii (n : Int)), .int (ii (ecd G))]))] sz)) (XcM (fun E => (E = "java/lang/IndexOutOfBoundsException" ∧ ¬ okr d) ∨ (E = "java/lang/IllegalArgumentException" ∧ okr d ∧ pbF p a b k m = -2)) (Wd D [(hx, .inr (1, [.ref hr0, .ref hq0, .ref hc, .int (ii sec), .int (ii dr)])), (hr0, .inl (cI, 4, .inl (fun j => ii (ecd (P j))))), (hc, .inr (0, [.int (ii (p : Int)), .int (ii (a : Int)), .int (ii (b : Int)), .int (ii (n : Int)), .int (ii (ecd G))]))] [(cI, .int)] (va_A [(hx, .inr (1, [.ref hr0, .ref hq0, .ref hc, .int (ii sec), .int (ii dr)])), (hr0, .inl (cI, 4, .inl (fun j => ii (ecd (P j))))), (hc, .inr (0, [.int (ii (p : Int)), .int (ii (a : Int)), .int (ii (b : Int)), .int (ii (n : Int)), .int (ii (ecd G))]))] sz)) (va_A [(hx, .inr (1, [.ref hr0, .ref hq0, .ref hc, .int (ii sec), .int (ii dr)])), (hr0, .inl (cI, 4, .inl (fun j => ii (ecd (P j))))), (hc, .inr (0, [.int (ii (p : Int)), .int (ii (a : Int)), .int (ii (b : Int)), .int (ii (n : Int)), .int (ii (ecd G))]))] sz)) 2 12 (va_A [(hx, .inr (1, [.ref hr0, .ref hq0, .ref hc, .int (ii sec), .int (ii dr)])), (hr0, .inl (cI, 4, .inl (fun j => ii (ecd (P j))))), (hc, .inr (0, [.int (ii (p : Int)), .int (ii (a : Int)), .int (ii (b : Int)), .int (ii (n : Int)), .int (ii (ecd G))]))] sz) := by
  refine mt_M (by decide +kernel) (Nat.le_of_ble_eq_true rfl) ?_
  intro P0 E0 S0 M0 A0 B0 T0 K0 C hN hZ hsz hz hP hK hD hAz hA hr hk hex hin ls hl
  have hl : lv_has ls 7 [(0, .ref hx), (1, .int (ii d)), (2, .int (ii k)), (3, .long (li m))] := hl
  generalize hAe : va_A [(hx, .inr (1, [.ref hr0, .ref hq0, .ref hc, .int (ii sec), .int (ii dr)])), (hr0, .inl (cI, 4, .inl (fun j => ii (ecd (P j))))), (hc, .inr (0, [.int (ii (p : Int)), .int (ii (a : Int)), .int (ii (b : Int)), .int (ii (n : Int)), .int (ii (ecd G))]))] sz = A at hD hAz hA ⊢
  have hS : va_S A S0.heap S0.heap [] := va_S.rf
  refine lv_aload_n C.1 C.2.1 dX1_decode_0 rfl (lv_at hl 0 rfl) ?_
  refine ca_V (As := []) (rest := []) C (c_taken_c l D hx hr0 hq0 hc sec dr) (pcw_preV [] hN (hP.sub (ws' := [(hx, .inr (1, [.ref hr0, .ref hq0, .ref hc, .int (ii sec), .int (ii dr)]))]) [0] rfl) (hK.sub (tys' := []) [] rfl) 0 (ci := 1) rfl rfl) aw_b_X1_takenCurve aw_m_X1_62 aw_v_X1_takenCurve aw_i_X1 aw_e_X1_takenCurve ⟨rfl, rfl⟩ 0 (by decide +kernel) rfl ⟨by decide, by decide⟩ hl.1 rfl (Nat.le_of_ble_eq_true rfl) dX1_decode_1 ⟨by decide, by decide⟩ ?_
  refine lv_astore C.1 C.2.1 dX1_decode_4 hl (by decide) rfl (fun ls hl => ?_)
  have hl : lv_has ls 7 [(5, .ref hc), (0, .ref hx), (1, .int (ii d)), (2, .int (ii k)), (3, .long (li m))] := hl
  refine lv_iload_n C.1 C.2.1 dX1_decode_6 rfl (lv_at hl 2 rfl) ?_
  refine cx_S (As := [.int (ii d)]) (rest := []) C (c_check l hL D z0 d hd1) (pcx_pre _ hN hZ (hP.sub (ws' := []) [] rfl) (hK.sub (tys' := []) [] rfl)) aw_b_X1_checkRegister aw_m_X1_66 aw_s_X1_checkRegister aw_i_X1 ⟨rfl, rfl⟩ 1 (by decide +kernel) rfl ⟨by decide, by decide⟩ hl.1 rfl (Nat.le_of_ble_eq_true rfl) dX1_decode_7 ⟨by decide, by decide⟩ (fun hw H1 q9 ce z1 z2 z3 z4 z5 => ?_) (fun ho => ?_)
  · exact ox_M hex hk z3 z4 z5 (Or.inl ⟨rfl, hw⟩) hS z1 z2 (fun t ht hvm => ⟨by rw [ht]; exact hP.on z2, va_K.moved hvm hK, hD⟩) (by decide) (by decide)
  have ho2 := ho
  unfold okr at ho2
  have pt := pbF_pt hp h0 k m
  refine lv_aload C.1 C.2.1 dX1_decode_10 (lv_at hl 0 rfl) ?_
  refine lv_iload_n C.1 C.2.1 dX1_decode_12 rfl (lv_at hl 3 rfl) ?_
  refine lv_lload_n C.1 C.2.1 dX1_decode_13 rfl (lv_at hl 4 rfl) ?_
  refine ca_V (As := [.int (ii k), .long (li m)]) (rest := []) C (c_X0_pointOfBytes l D hc p a b n (ecd G) hp ha hb k m hk1 hm) (pcw_preV [.int (ii k), .long (li m)] hN (hP.sub (ws' := [(hc, .inr (0, [.int (ii (p : Int)), .int (ii (a : Int)), .int (ii (b : Int)), .int (ii (n : Int)), .int (ii (ecd G))]))]) [2] rfl) (hK.sub (tys' := []) [] rfl) 0 (ci := 0) rfl rfl) aw_b_X0_pointOfBytes aw_m_X1_103 aw_v_X0_pointOfBytes aw_i_X0 aw_e_X0_pointOfBytes ⟨rfl, rfl⟩ 2 (by decide +kernel) rfl ⟨by decide, by decide⟩ hl.1 rfl (Nat.le_of_ble_eq_true rfl) dX1_decode_14 ⟨by decide, by decide⟩ ?_
  have bd : -2 ≤ pbF p a b k m ∧ pbF p a b k m ≤ 66912255 := by
    by_cases q : pbF p a b k m = -2
    · omega
    · obtain ⟨e1, e2⟩ := pt q
      have := ecd_b hp.2 e2
      omega
  refine lv_istore C.1 C.2.1 dX1_decode_17 hl (by decide) rfl (fun ls hl => ?_)
  have hl : lv_has ls 7 [(6, .int (ii (pbF p a b k m))), (5, .ref hc), (0, .ref hx), (1, .int (ii d)), (2, .int (ii k)), (3, .long (li m))] := hl
  refine lv_iload C.1 C.2.1 dX1_decode_19 (lv_at hl 0 rfl) ?_
  refine i_bipush C dX1_decode_21 (by decide +kernel) ?_
  refine i_icmp_ne (tgt := 36) C dX1_decode_23 (by decide) ⟨by omega, by omega⟩ ⟨by omega, by omega⟩ (fun h1 => ?_) (fun h1 => ?_)
  · obtain ⟨e1, e2⟩ := pt h1
    refine lv_aload_n C.1 C.2.1 dX1_decode_36 rfl (lv_at hl 2 rfl) ?_
    refine gf C hK hP 0 rfl rfl aw_uX1 0 (by decide) aw_f_X1_9 rfl dX1_decode_37 ?_
    refine lv_iload_n C.1 C.2.1 dX1_decode_40 rfl (lv_at hl 3 rfl) ?_
    refine lv_iload C.1 C.2.1 dX1_decode_41 (lv_at hl 0 rfl) ?_
    refine i_top (b := ecd (ofC (pbF p a b k m))) e1.symm ?_
    refine i_ast C hK hP hD hS 1 0 rfl rfl d.toNat (by omega) (by omega) (by omega) dX1_decode_43 (fun H1 locs1 hP hD hS => ?_)
    rw [up_P P d.toNat (ofC (pbF p a b k m))] at hP hD
    have hP : va_P D clX [(hx, .inr (1, [.ref hr0, .ref hq0, .ref hc, .int (ii sec), .int (ii dr)])), (hr0, .inl (cI, 4, .inl (fun j => ii (ecd ((va_up P d.toNat (ofC (pbF p a b k m))) j))))), (hc, .inr (0, [.int (ii (p : Int)), .int (ii (a : Int)), .int (ii (b : Int)), .int (ii (n : Int)), .int (ii (ecd G))]))] H1 := hP
    have hD : va_D A [(hx, .inr (1, [.ref hr0, .ref hq0, .ref hc, .int (ii sec), .int (ii dr)])), (hr0, .inl (cI, 4, .inl (fun j => ii (ecd ((va_up P d.toNat (ofC (pbF p a b k m))) j))))), (hc, .inr (0, [.int (ii (p : Int)), .int (ii (a : Int)), .int (ii (b : Int)), .int (ii (n : Int)), .int (ii (ecd G))]))] := hD
    exact py_v C hr hk hS ⟨ho, h1⟩ (fun t ht hvm => ⟨by rw [ht]; exact hP, va_K.moved hvm hK, hD⟩) dX1_decode_44 (by decide) (by decide)
  · exact th_S (z0 := z0) C hL hN hZ va_S.rf (text := "not well-formed") (by decide +kernel) (by decide +kernel) tw_iae hl.1 dX1_decode_26 dX1_decode_29 dX1_decode_30 dX1_decode_32 dX1_decode_35 hex ⟨by decide, by decide, by decide, by decide⟩ (Nat.le_of_ble_eq_true rfl) hk (fun t hvm z1 z2 => ⟨Or.inr ⟨rfl, ho, Classical.not_not.mp h1⟩, ⟨hP.on z2, va_K.moved hvm hK, hD⟩, z1, fun q h1 _ => z2 q h1⟩) (fun q h => by cases h) (by decide) (by decide)
set_option maxRecDepth 100000 in
set_option maxHeartbeats 4000000 in
theorem c_X1_key (l : Launch) (hL : l.stackTraces = false) (D : va_G) (z0 sz : Nat) (p a b n : Nat) (G : Option (Nat × Nat)) (hp : 5 ≤ p ∧ p ≤ 1021) (ha : a < p) (hb : b < p) (hn : 2 ≤ n ∧ n ≤ 1100) (hG : sm2 p G) (hx hr0 hq0 hc : Nat) (sec dr : Int) (cI : ClassId) (P : Nat → Option (Nat × Nat)) (hPs : ∀ j, sm2 p (P j)) (r d : Int) (hr1 : rg r) (hd1 : rg d) : vx_Met l yX1_key (Cond.code yX1_key cX1_key 4 none :: AW) ({ frames := 7, cells := 2, slots := 12, locals := 130 } : Room) (PcM D z0 sz [(hx, .inr (1, [.ref hr0, .ref hq0, .ref hc, .int (ii sec), .int (ii dr)])), (hr0, .inl (cI, 4, .inl (fun j => ii (ecd (P j))))), (hc, .inr (0, [.int (ii (p : Int)), .int (ii (a : Int)), .int (ii (b : Int)), .int (ii (n : Int)), .int (ii (ecd G))]))] [(cI, .int)] [.ref hx, .int (ii r), .int (ii d)]) (QcM none (okr r ∧ unF n d ≠ 0) (Wd D [(hx, .inr (1, [.ref hr0, .ref hq0, .ref hc, .int (ii d), .int (ii dr)])), (hr0, .inl (cI, 4, .inl (fun j => ii (ecd ((va_up P r.toNat (muF p a 11 none G (d % (n : Int)).toNat)) j))))), (hc, .inr (0, [.int (ii (p : Int)), .int (ii (a : Int)), .int (ii (b : Int)), .int (ii (n : Int)), .int (ii (ecd G))]))] [(cI, .int)] (va_A [(hx, .inr (1, [.ref hr0, .ref hq0, .ref hc, .int (ii sec), .int (ii dr)])), (hr0, .inl (cI, 4, .inl (fun j => ii (ecd (P j))))), (hc, .inr (0, [.int (ii (p : Int)), .int (ii (a : Int)), .int (ii (b : Int)), .int (ii (n : Int)), .int (ii (ecd G))]))] sz)) (va_A [(hx, .inr (1, [.ref hr0, .ref hq0, .ref hc, .int (ii sec), .int (ii dr)])), (hr0, .inl (cI, 4, .inl (fun j => ii (ecd (P j))))), (hc, .inr (0, [.int (ii (p : Int)), .int (ii (a : Int)), .int (ii (b : Int)), .int (ii (n : Int)), .int (ii (ecd G))]))] sz)) (XcM (fun E => (E = "java/lang/IndexOutOfBoundsException" ∧ ¬ okr r) ∨ (E = "java/lang/IllegalArgumentException" ∧ okr r ∧ unF n d = 0)) (Wd D [(hx, .inr (1, [.ref hr0, .ref hq0, .ref hc, .int (ii sec), .int (ii dr)])), (hr0, .inl (cI, 4, .inl (fun j => ii (ecd (P j))))), (hc, .inr (0, [.int (ii (p : Int)), .int (ii (a : Int)), .int (ii (b : Int)), .int (ii (n : Int)), .int (ii (ecd G))]))] [(cI, .int)] (va_A [(hx, .inr (1, [.ref hr0, .ref hq0, .ref hc, .int (ii sec), .int (ii dr)])), (hr0, .inl (cI, 4, .inl (fun j => ii (ecd (P j))))), (hc, .inr (0, [.int (ii (p : Int)), .int (ii (a : Int)), .int (ii (b : Int)), .int (ii (n : Int)), .int (ii (ecd G))]))] sz)) (va_A [(hx, .inr (1, [.ref hr0, .ref hq0, .ref hc, .int (ii sec), .int (ii dr)])), (hr0, .inl (cI, 4, .inl (fun j => ii (ecd (P j))))), (hc, .inr (0, [.int (ii (p : Int)), .int (ii (a : Int)), .int (ii (b : Int)), .int (ii (n : Int)), .int (ii (ecd G))]))] sz)) 2 12 (va_A [(hx, .inr (1, [.ref hr0, .ref hq0, .ref hc, .int (ii sec), .int (ii dr)])), (hr0, .inl (cI, 4, .inl (fun j => ii (ecd (P j))))), (hc, .inr (0, [.int (ii (p : Int)), .int (ii (a : Int)), .int (ii (b : Int)), .int (ii (n : Int)), .int (ii (ecd G))]))] sz) := by
  refine mt_M (by decide +kernel) (Nat.le_of_ble_eq_true rfl) ?_
  intro P0 E0 S0 M0 A0 B0 T0 K0 C hN hZ hsz hz hP hK hD hAz hA hr hk hex hin ls hl
  have hl : lv_has ls 4 [(0, .ref hx), (1, .int (ii r)), (2, .int (ii d))] := hl
  generalize hAe : va_A [(hx, .inr (1, [.ref hr0, .ref hq0, .ref hc, .int (ii sec), .int (ii dr)])), (hr0, .inl (cI, 4, .inl (fun j => ii (ecd (P j))))), (hc, .inr (0, [.int (ii (p : Int)), .int (ii (a : Int)), .int (ii (b : Int)), .int (ii (n : Int)), .int (ii (ecd G))]))] sz = A at hD hAz hA ⊢
  have hS : va_S A S0.heap S0.heap [] := va_S.rf
  refine lv_aload_n C.1 C.2.1 dX1_key_0 rfl (lv_at hl 0 rfl) ?_
  refine ca_V (As := []) (rest := []) C (c_taken_c l D hx hr0 hq0 hc sec dr) (pcw_preV [] hN (hP.sub (ws' := [(hx, .inr (1, [.ref hr0, .ref hq0, .ref hc, .int (ii sec), .int (ii dr)]))]) [0] rfl) (hK.sub (tys' := []) [] rfl) 0 (ci := 1) rfl rfl) aw_b_X1_takenCurve aw_m_X1_62 aw_v_X1_takenCurve aw_i_X1 aw_e_X1_takenCurve ⟨rfl, rfl⟩ 0 (by decide +kernel) rfl ⟨by decide, by decide⟩ hl.1 rfl (Nat.le_of_ble_eq_true rfl) dX1_key_1 ⟨by decide, by decide⟩ ?_
  refine lv_astore_n C.1 C.2.1 dX1_key_4 rfl hl (by decide) rfl (fun ls hl => ?_)
  have hl : lv_has ls 4 [(3, .ref hc), (0, .ref hx), (1, .int (ii r)), (2, .int (ii d))] := hl
  refine lv_iload_n C.1 C.2.1 dX1_key_5 rfl (lv_at hl 2 rfl) ?_
  refine cx_S (As := [.int (ii r)]) (rest := []) C (c_check l hL D z0 r hr1) (pcx_pre _ hN hZ (hP.sub (ws' := []) [] rfl) (hK.sub (tys' := []) [] rfl)) aw_b_X1_checkRegister aw_m_X1_66 aw_s_X1_checkRegister aw_i_X1 ⟨rfl, rfl⟩ 1 (by decide +kernel) rfl ⟨by decide, by decide⟩ hl.1 rfl (Nat.le_of_ble_eq_true rfl) dX1_key_6 ⟨by decide, by decide⟩ (fun hw H1 q9 ce z1 z2 z3 z4 z5 => ?_) (fun ho => ?_)
  · exact ox_M hex hk z3 z4 z5 (Or.inl ⟨rfl, hw⟩) hS z1 z2 (fun t ht hvm => ⟨by rw [ht]; exact hP.on z2, va_K.moved hvm hK, hD⟩) (by decide) (by decide)
  have ho2 := ho
  unfold okr at ho2
  have u1 := unF_b n d
  refine lv_aload_n C.1 C.2.1 dX1_key_9 rfl (lv_at hl 0 rfl) ?_
  refine lv_iload_n C.1 C.2.1 dX1_key_10 rfl (lv_at hl 3 rfl) ?_
  refine ca_V (As := [.int (ii d)]) (rest := []) C (c_X0_isUnit l D hc p a b n (ecd G) (by omega) d hd1) (pcw_preV [.int (ii d)] hN (hP.sub (ws' := [(hc, .inr (0, [.int (ii (p : Int)), .int (ii (a : Int)), .int (ii (b : Int)), .int (ii (n : Int)), .int (ii (ecd G))]))]) [2] rfl) (hK.sub (tys' := []) [] rfl) 0 (ci := 0) rfl rfl) aw_b_X0_isUnit aw_m_X1_109 aw_v_X0_isUnit aw_i_X0 aw_e_X0_isUnit ⟨rfl, rfl⟩ 1 (by decide +kernel) rfl ⟨by decide, by decide⟩ hl.1 rfl (Nat.le_of_ble_eq_true rfl) dX1_key_11 ⟨by decide, by decide⟩ ?_
  generalize unF n d = j at u1 ⊢
  refine i_if_ne (tgt := 27) C dX1_key_14 (by decide) ⟨by omega, by omega⟩ (fun h1 => ?_) (fun h1 => ?_)
  · refine lv_aload_n C.1 C.2.1 dX1_key_27 rfl (lv_at hl 1 rfl) ?_
    refine lv_iload_n C.1 C.2.1 dX1_key_28 rfl (lv_at hl 3 rfl) ?_
    refine p_f C hK hP hD hS 0 rfl rfl aw_uX1 tyX1 tyX1_ok nmX1 3 (by decide) aw_f_X1_26 rfl rfl rfl (Nat.le_of_ble_eq_true rfl) dX1_key_29 (fun H1 locs1 hP hD hS => ?_)
    have hP : va_P D clX [(hx, .inr (1, [.ref hr0, .ref hq0, .ref hc, .int (ii d), .int (ii dr)])), (hr0, .inl (cI, 4, .inl (fun j => ii (ecd (P j))))), (hc, .inr (0, [.int (ii (p : Int)), .int (ii (a : Int)), .int (ii (b : Int)), .int (ii (n : Int)), .int (ii (ecd G))]))] H1 := hP
    have hD : va_D A [(hx, .inr (1, [.ref hr0, .ref hq0, .ref hc, .int (ii d), .int (ii dr)])), (hr0, .inl (cI, 4, .inl (fun j => ii (ecd (P j))))), (hc, .inr (0, [.int (ii (p : Int)), .int (ii (a : Int)), .int (ii (b : Int)), .int (ii (n : Int)), .int (ii (ecd G))]))] := hD
    refine lv_aload_n C.1 C.2.1 dX1_key_32 rfl (lv_at hl 1 rfl) ?_
    refine gf C hK hP 0 rfl rfl aw_uX1 0 (by decide) aw_f_X1_9 rfl dX1_key_33 ?_
    refine lv_iload_n C.1 C.2.1 dX1_key_36 rfl (lv_at hl 2 rfl) ?_
    refine lv_aload_n C.1 C.2.1 dX1_key_37 rfl (lv_at hl 0 rfl) ?_
    refine lv_iload_n C.1 C.2.1 dX1_key_38 rfl (lv_at hl 3 rfl) ?_
    refine lv_aload_n C.1 C.2.1 dX1_key_39 rfl (lv_at hl 0 rfl) ?_
    refine gf C hK hP 2 rfl rfl aw_uX0 4 (by decide) aw_f_X1_80 rfl dX1_key_40 ?_
    refine ca_V (As := [.int (ii d), .int (ii (ecd G))]) (rest := [.int (ii r), .ref hr0]) C (c_X0_multiple l D hc p a b n (ecd G) hp ha hb (by omega) d hd1 G hG) (pcw_preV [.int (ii d), .int (ii (ecd G))] hN (hP.sub (ws' := [(hc, .inr (0, [.int (ii (p : Int)), .int (ii (a : Int)), .int (ii (b : Int)), .int (ii (n : Int)), .int (ii (ecd G))]))]) [2] rfl) (hK.sub (tys' := []) [] rfl) 0 (ci := 0) rfl rfl) aw_b_X0_multiple aw_m_X1_86 aw_v_X0_multiple aw_i_X0 aw_e_X0_multiple ⟨rfl, rfl⟩ 2 (by decide +kernel) rfl ⟨by decide, by decide⟩ hl.1 rfl (Nat.le_of_ble_eq_true rfl) dX1_key_43 ⟨by decide, by decide⟩ ?_
    refine i_ast C hK hP hD hS 1 0 rfl rfl r.toNat (by omega) (by omega) (by omega) dX1_key_46 (fun H1 locs1 hP hD hS => ?_)
    rw [up_P P r.toNat (muF p a 11 none G (d % (n : Int)).toNat)] at hP hD
    have hP : va_P D clX [(hx, .inr (1, [.ref hr0, .ref hq0, .ref hc, .int (ii d), .int (ii dr)])), (hr0, .inl (cI, 4, .inl (fun j => ii (ecd ((va_up P r.toNat (muF p a 11 none G (d % (n : Int)).toNat)) j))))), (hc, .inr (0, [.int (ii (p : Int)), .int (ii (a : Int)), .int (ii (b : Int)), .int (ii (n : Int)), .int (ii (ecd G))]))] H1 := hP
    have hD : va_D A [(hx, .inr (1, [.ref hr0, .ref hq0, .ref hc, .int (ii d), .int (ii dr)])), (hr0, .inl (cI, 4, .inl (fun j => ii (ecd ((va_up P r.toNat (muF p a 11 none G (d % (n : Int)).toNat)) j))))), (hc, .inr (0, [.int (ii (p : Int)), .int (ii (a : Int)), .int (ii (b : Int)), .int (ii (n : Int)), .int (ii (ecd G))]))] := hD
    exact py_v C hr hk hS ⟨ho, h1⟩ (fun t ht hvm => ⟨by rw [ht]; exact hP, va_K.moved hvm hK, hD⟩) dX1_key_47 (by decide) (by decide)
  · exact th_S (z0 := z0) C hL hN hZ va_S.rf (text := "no key of the curve") (by decide +kernel) (by decide +kernel) tw_iae hl.1 dX1_key_17 dX1_key_20 dX1_key_21 dX1_key_23 dX1_key_26 hex ⟨by decide, by decide, by decide, by decide⟩ (Nat.le_of_ble_eq_true rfl) hk (fun t hvm z1 z2 => ⟨Or.inr ⟨rfl, ho, Classical.not_not.mp h1⟩, ⟨hP.on z2, va_K.moved hvm hK, hD⟩, z1, fun q h1 _ => z2 q h1⟩) (fun q h => by cases h) (by decide) (by decide)
