/-! The reference: sum, times, x, y, code, verify, accepts. By wip/whole/tools/gen17.py. -/
set_option maxRecDepth 100000 in
set_option maxHeartbeats 4000000 in
theorem c_X2_sum (l : Launch) (D : va_G) (z0 sz : Nat) (hm : Nat) (p a b : Int) (n : Nat) (key dr th : Int) (hX hY hR hO : Nat) (sx sy dk dv : Int32) (cX cY cR : ClassId) (tx ty ix : Nat → Nat) (hT : ∀ j, tx j ≤ 1020 ∧ ty j ≤ 1020) (hI : ∀ j, ix j ≤ 1099) (hn : n ≤ 1100) (d u v : Int) (hd1 : rg d) (hu1 : rg u) (hv1 : rg v) : Met l yX2_sum (Cond.code yX2_sum cX2_sum 4 none :: AW) ({ frames := 1, cells := 0, slots := 0, locals := 24 } : Room) (PcM D z0 sz [(hm, .inr (2, MO p a b n key dr th hX hY hR hO sx sy dk dv)), (hX, .inl (cX, 1100, .inl (fun j => ii ((tx j : Nat) : Int)))), (hY, .inl (cY, 1100, .inl (fun j => ii ((ty j : Nat) : Int)))), (hR, .inl (cR, 4, .inl (fun j => ii ((ix j : Nat) : Int))))] [(cX, .int), (cY, .int), (cR, .int)] [.ref hm, .int (ii d), .int (ii u), .int (ii v)]) (QcM none True (Wd D (if gdF (zb n) (or3 (nrF d) (nrF u) (nrF v)) 0 = 0 then [(hm, .inr (2, MO p a b n key dr (gdF (zb n) (or3 (nrF d) (nrF u) (nrF v)) 0) hX hY hR hO sx sy dk dv)), (hX, .inl (cX, 1100, .inl (fun j => ii ((tx j : Nat) : Int)))), (hY, .inl (cY, 1100, .inl (fun j => ii ((ty j : Nat) : Int)))), (hR, .inl (cR, 4, .inl (fun j => ii (((va_up ix d.toNat ((ix u.toNat + ix v.toNat) % n)) j : Nat) : Int))))] else [(hm, .inr (2, MO p a b n key dr (gdF (zb n) (or3 (nrF d) (nrF u) (nrF v)) 0) hX hY hR hO sx sy dk dv)), (hX, .inl (cX, 1100, .inl (fun j => ii ((tx j : Nat) : Int)))), (hY, .inl (cY, 1100, .inl (fun j => ii ((ty j : Nat) : Int)))), (hR, .inl (cR, 4, .inl (fun j => ii ((ix j : Nat) : Int))))]) [(cX, .int), (cY, .int), (cR, .int)] (va_A [(hm, .inr (2, MO p a b n key dr th hX hY hR hO sx sy dk dv)), (hX, .inl (cX, 1100, .inl (fun j => ii ((tx j : Nat) : Int)))), (hY, .inl (cY, 1100, .inl (fun j => ii ((ty j : Nat) : Int)))), (hR, .inl (cR, 4, .inl (fun j => ii ((ix j : Nat) : Int))))] sz)) (va_A [(hm, .inr (2, MO p a b n key dr th hX hY hR hO sx sy dk dv)), (hX, .inl (cX, 1100, .inl (fun j => ii ((tx j : Nat) : Int)))), (hY, .inl (cY, 1100, .inl (fun j => ii ((ty j : Nat) : Int)))), (hR, .inl (cR, 4, .inl (fun j => ii ((ix j : Nat) : Int))))] sz)) 0 0 (va_A [(hm, .inr (2, MO p a b n key dr th hX hY hR hO sx sy dk dv)), (hX, .inl (cX, 1100, .inl (fun j => ii ((tx j : Nat) : Int)))), (hY, .inl (cY, 1100, .inl (fun j => ii ((ty j : Nat) : Int)))), (hR, .inl (cR, 4, .inl (fun j => ii ((ix j : Nat) : Int))))] sz) := by
  refine mt_N (by decide +kernel) (Nat.le_of_ble_eq_true rfl) ?_
  intro P0 E0 S0 M0 A0 B0 T0 K0 C hN hZ hsz hz hP hK hD hAz hA hr hk hin ls hl
  have hl : lv_has ls 4 [(0, .ref hm), (1, .int (ii d)), (2, .int (ii u)), (3, .int (ii v))] := hl
  generalize hAe : va_A [(hm, .inr (2, MO p a b n key dr th hX hY hR hO sx sy dk dv)), (hX, .inl (cX, 1100, .inl (fun j => ii ((tx j : Nat) : Int)))), (hY, .inl (cY, 1100, .inl (fun j => ii ((ty j : Nat) : Int)))), (hR, .inl (cR, 4, .inl (fun j => ii ((ix j : Nat) : Int))))] sz = A at hD hAz hA ⊢
  have hS : va_S A S0.heap S0.heap [] := va_S.rf
  have nbd := nrF_b d
  have n0d := nrF_0 (r := d)
  unfold okr at n0d
  have nbu := nrF_b u
  have n0u := nrF_0 (r := u)
  unfold okr at n0u
  have nbv := nrF_b v
  have n0v := nrF_0 (r := v)
  unfold okr at n0v
  refine lv_aload_n C.1 C.2.1 dX2_sum_0 rfl (lv_at hl 0 rfl) ?_
  refine lv_aload_n C.1 C.2.1 dX2_sum_1 rfl (lv_at hl 0 rfl) ?_
  refine gf C hK hP 0 rfl rfl aw_uX2 3 (by decide) aw_f_X2_65 rfl dX2_sum_2 ?_
  refine i_if_ne (tgt := 12) C dX2_sum_5 (by decide) ⟨by omega, by omega⟩ (fun h1 => ?_) (fun h1 => ?_)
  · have zn : zb n = 0 := if_neg (by omega)
    rw [zn]
    refine i_const C dX2_sum_12 ?_
    refine lv_aload_n C.1 C.2.1 dX2_sum_13 rfl (lv_at hl 0 rfl) ?_
    refine lv_iload_n C.1 C.2.1 dX2_sum_14 rfl (lv_at hl 1 rfl) ?_
    refine ca_V (As := [.int (ii d)]) (rest := [.int (ii 0), .ref hm]) C (c_X2_noRegister l D hm d hd1) (pcw_preV0 [.int (ii d)] hN hP hK 0 (ci := 2) rfl rfl) aw_b_X2_noRegister aw_m_X2_81 aw_v_X2_noRegister aw_i_X2 aw_e_X2_noRegister ⟨rfl, rfl⟩ 1 (by decide +kernel) rfl ⟨by decide, by decide⟩ hl.1 rfl (Nat.le_of_ble_eq_true rfl) dX2_sum_15 ⟨by decide, by decide⟩ ?_
    refine i_if_ne (tgt := 37) C dX2_sum_18 (by decide) ⟨by omega, by omega⟩ (fun h3 => ?_) (fun h3 => ?_)
    · have en : or3 (nrF d) (nrF u) (nrF v) = 1 := (or3_b nbd nbu nbv).resolve_left fun z => by have := or3_0.mp z; omega
      rw [en]
      refine i_const C dX2_sum_37 ?_
      refine lv_goto (tgt := 42) C.1 C.2.1 dX2_sum_38 (by decide) ?_
      refine i_const C dX2_sum_42 ?_
      have hFc := va_free (wc := [(hm, .inr (2, MO p a b n key dr th hX hY hR hO sx sy dk dv))]) hD hS hA [0] rfl
      refine cn_V (As := [.int (ii 0), .int (ii 1), .int (ii 0)]) (rest := []) C (c_X2_good l D z0 _ hm p a b n key dr th hX hY hR hO sx sy dk dv 0 1 0 (by omega) (by omega) (by omega)) (pcm_preV _ hN (Zs.on hZ hS hAz) (by have := hS.1; omega) (hP.sub (ws' := [(hm, .inr (2, MO p a b n key dr th hX hY hR hO sx sy dk dv))]) [0] rfl) (hK.sub (tys' := []) [] rfl) ((hD.sub (ws' := [(hm, .inr (2, MO p a b n key dr th hX hY hR hO sx sy dk dv))]) [0] (by decide) rfl).weaken (fun _ _ _ h => hAz _ h)) 0 (ci := 2) rfl rfl) hS hFc aw_b_X2_good aw_m_X2_58 aw_v_X2_good aw_i_X2 aw_e_X2_good ⟨rfl, rfl⟩ 3 (by decide +kernel) rfl ⟨by decide, by decide⟩ hl.1 rfl (Nat.le_of_ble_eq_true rfl) dX2_sum_43 ⟨by decide, by decide⟩ (fun t H1 locs1 ht hvm _ hB jz1 jk1 hS => ?_)
      obtain ⟨hP1, hK1, hD1⟩ := hB
      rw [ht] at hP1
      obtain ⟨hP, hD⟩ := va_join (wr := [(hX, .inl (cX, 1100, .inl (fun j => ii ((tx j : Nat) : Int)))), (hY, .inl (cY, 1100, .inl (fun j => ii ((ty j : Nat) : Int)))), (hR, .inl (cR, 4, .inl (fun j => ii ((ix j : Nat) : Int))))]) (w1 := [(hm, .inr (2, MO p a b n key dr (gdF 0 1 0) hX hY hR hO sx sy dk dv))]) hP hD [0] [1, 2, 3] rfl rfl (by decide) (by decide) jk1 hFc hP1 hD1
      have hP := hP.sub (ws' := [(hm, .inr (2, MO p a b n key dr (gdF 0 1 0) hX hY hR hO sx sy dk dv)), (hX, .inl (cX, 1100, .inl (fun j => ii ((tx j : Nat) : Int)))), (hY, .inl (cY, 1100, .inl (fun j => ii ((ty j : Nat) : Int)))), (hR, .inl (cR, 4, .inl (fun j => ii ((ix j : Nat) : Int))))]) [3, 0, 1, 2] rfl
      have hD := hD.sub (ws' := [(hm, .inr (2, MO p a b n key dr (gdF 0 1 0) hX hY hR hO sx sy dk dv)), (hX, .inl (cX, 1100, .inl (fun j => ii ((tx j : Nat) : Int)))), (hY, .inl (cY, 1100, .inl (fun j => ii ((ty j : Nat) : Int)))), (hR, .inl (cR, 4, .inl (fun j => ii ((ix j : Nat) : Int))))]) [3, 0, 1, 2] (by decide) rfl
      have gb := goF_b (gdF 0 1 0)
      have g0 := goF_0 (k := gdF 0 1 0)
      have gz := gdF_0 (k1 := 0) (k2 := 1) (k3 := 0)
      refine i_if_eq (tgt := 73) C dX2_sum_46 (by decide) ⟨by omega, by omega⟩ (fun h2 => ?_) (fun h2 => ?_)
      · rw [if_neg (show ¬ gdF 0 1 0 = 0 from g0.mp h2)]
        exact pz_v C hr hk hS trivial (fun t ht hvm => ⟨by rw [ht]; exact hP, va_K.moved hvm hK, hD⟩) dX2_sum_73 (by decide) (by decide)
      · have e : gdF 0 1 0 = 0 := Classical.byContradiction fun z => h2 (g0.mpr z)
        have ez := gz.mp e
        rw [if_pos e]
        omega
    · refine lv_aload_n C.1 C.2.1 dX2_sum_21 rfl (lv_at hl 0 rfl) ?_
      refine lv_iload_n C.1 C.2.1 dX2_sum_22 rfl (lv_at hl 2 rfl) ?_
      refine ca_V (As := [.int (ii u)]) (rest := [.int (ii 0), .ref hm]) C (c_X2_noRegister l D hm u hu1) (pcw_preV0 [.int (ii u)] hN hP hK 0 (ci := 2) rfl rfl) aw_b_X2_noRegister aw_m_X2_81 aw_v_X2_noRegister aw_i_X2 aw_e_X2_noRegister ⟨rfl, rfl⟩ 1 (by decide +kernel) rfl ⟨by decide, by decide⟩ hl.1 rfl (Nat.le_of_ble_eq_true rfl) dX2_sum_23 ⟨by decide, by decide⟩ ?_
      refine i_if_ne (tgt := 37) C dX2_sum_26 (by decide) ⟨by omega, by omega⟩ (fun h4 => ?_) (fun h4 => ?_)
      · have en : or3 (nrF d) (nrF u) (nrF v) = 1 := (or3_b nbd nbu nbv).resolve_left fun z => by have := or3_0.mp z; omega
        rw [en]
        refine i_const C dX2_sum_37 ?_
        refine lv_goto (tgt := 42) C.1 C.2.1 dX2_sum_38 (by decide) ?_
        refine i_const C dX2_sum_42 ?_
        have hFc := va_free (wc := [(hm, .inr (2, MO p a b n key dr th hX hY hR hO sx sy dk dv))]) hD hS hA [0] rfl
        refine cn_V (As := [.int (ii 0), .int (ii 1), .int (ii 0)]) (rest := []) C (c_X2_good l D z0 _ hm p a b n key dr th hX hY hR hO sx sy dk dv 0 1 0 (by omega) (by omega) (by omega)) (pcm_preV _ hN (Zs.on hZ hS hAz) (by have := hS.1; omega) (hP.sub (ws' := [(hm, .inr (2, MO p a b n key dr th hX hY hR hO sx sy dk dv))]) [0] rfl) (hK.sub (tys' := []) [] rfl) ((hD.sub (ws' := [(hm, .inr (2, MO p a b n key dr th hX hY hR hO sx sy dk dv))]) [0] (by decide) rfl).weaken (fun _ _ _ h => hAz _ h)) 0 (ci := 2) rfl rfl) hS hFc aw_b_X2_good aw_m_X2_58 aw_v_X2_good aw_i_X2 aw_e_X2_good ⟨rfl, rfl⟩ 3 (by decide +kernel) rfl ⟨by decide, by decide⟩ hl.1 rfl (Nat.le_of_ble_eq_true rfl) dX2_sum_43 ⟨by decide, by decide⟩ (fun t H1 locs1 ht hvm _ hB jz1 jk1 hS => ?_)
        obtain ⟨hP1, hK1, hD1⟩ := hB
        rw [ht] at hP1
        obtain ⟨hP, hD⟩ := va_join (wr := [(hX, .inl (cX, 1100, .inl (fun j => ii ((tx j : Nat) : Int)))), (hY, .inl (cY, 1100, .inl (fun j => ii ((ty j : Nat) : Int)))), (hR, .inl (cR, 4, .inl (fun j => ii ((ix j : Nat) : Int))))]) (w1 := [(hm, .inr (2, MO p a b n key dr (gdF 0 1 0) hX hY hR hO sx sy dk dv))]) hP hD [0] [1, 2, 3] rfl rfl (by decide) (by decide) jk1 hFc hP1 hD1
        have hP := hP.sub (ws' := [(hm, .inr (2, MO p a b n key dr (gdF 0 1 0) hX hY hR hO sx sy dk dv)), (hX, .inl (cX, 1100, .inl (fun j => ii ((tx j : Nat) : Int)))), (hY, .inl (cY, 1100, .inl (fun j => ii ((ty j : Nat) : Int)))), (hR, .inl (cR, 4, .inl (fun j => ii ((ix j : Nat) : Int))))]) [3, 0, 1, 2] rfl
        have hD := hD.sub (ws' := [(hm, .inr (2, MO p a b n key dr (gdF 0 1 0) hX hY hR hO sx sy dk dv)), (hX, .inl (cX, 1100, .inl (fun j => ii ((tx j : Nat) : Int)))), (hY, .inl (cY, 1100, .inl (fun j => ii ((ty j : Nat) : Int)))), (hR, .inl (cR, 4, .inl (fun j => ii ((ix j : Nat) : Int))))]) [3, 0, 1, 2] (by decide) rfl
        have gb := goF_b (gdF 0 1 0)
        have g0 := goF_0 (k := gdF 0 1 0)
        have gz := gdF_0 (k1 := 0) (k2 := 1) (k3 := 0)
        refine i_if_eq (tgt := 73) C dX2_sum_46 (by decide) ⟨by omega, by omega⟩ (fun h2 => ?_) (fun h2 => ?_)
        · rw [if_neg (show ¬ gdF 0 1 0 = 0 from g0.mp h2)]
          exact pz_v C hr hk hS trivial (fun t ht hvm => ⟨by rw [ht]; exact hP, va_K.moved hvm hK, hD⟩) dX2_sum_73 (by decide) (by decide)
        · have e : gdF 0 1 0 = 0 := Classical.byContradiction fun z => h2 (g0.mpr z)
          have ez := gz.mp e
          rw [if_pos e]
          omega
      · refine lv_aload_n C.1 C.2.1 dX2_sum_29 rfl (lv_at hl 0 rfl) ?_
        refine lv_iload_n C.1 C.2.1 dX2_sum_30 rfl (lv_at hl 3 rfl) ?_
        refine ca_V (As := [.int (ii v)]) (rest := [.int (ii 0), .ref hm]) C (c_X2_noRegister l D hm v hv1) (pcw_preV0 [.int (ii v)] hN hP hK 0 (ci := 2) rfl rfl) aw_b_X2_noRegister aw_m_X2_81 aw_v_X2_noRegister aw_i_X2 aw_e_X2_noRegister ⟨rfl, rfl⟩ 1 (by decide +kernel) rfl ⟨by decide, by decide⟩ hl.1 rfl (Nat.le_of_ble_eq_true rfl) dX2_sum_31 ⟨by decide, by decide⟩ ?_
        refine i_if_eq (tgt := 41) C dX2_sum_34 (by decide) ⟨by omega, by omega⟩ (fun h5 => ?_) (fun h5 => ?_)
        · have en : or3 (nrF d) (nrF u) (nrF v) = 0 := or3_0.mpr ⟨by omega, by omega, by omega⟩
          rw [en]
          refine i_const C dX2_sum_41 ?_
          refine i_const C dX2_sum_42 ?_
          have hFc := va_free (wc := [(hm, .inr (2, MO p a b n key dr th hX hY hR hO sx sy dk dv))]) hD hS hA [0] rfl
          refine cn_V (As := [.int (ii 0), .int (ii 0), .int (ii 0)]) (rest := []) C (c_X2_good l D z0 _ hm p a b n key dr th hX hY hR hO sx sy dk dv 0 0 0 (by omega) (by omega) (by omega)) (pcm_preV _ hN (Zs.on hZ hS hAz) (by have := hS.1; omega) (hP.sub (ws' := [(hm, .inr (2, MO p a b n key dr th hX hY hR hO sx sy dk dv))]) [0] rfl) (hK.sub (tys' := []) [] rfl) ((hD.sub (ws' := [(hm, .inr (2, MO p a b n key dr th hX hY hR hO sx sy dk dv))]) [0] (by decide) rfl).weaken (fun _ _ _ h => hAz _ h)) 0 (ci := 2) rfl rfl) hS hFc aw_b_X2_good aw_m_X2_58 aw_v_X2_good aw_i_X2 aw_e_X2_good ⟨rfl, rfl⟩ 3 (by decide +kernel) rfl ⟨by decide, by decide⟩ hl.1 rfl (Nat.le_of_ble_eq_true rfl) dX2_sum_43 ⟨by decide, by decide⟩ (fun t H1 locs1 ht hvm _ hB jz1 jk1 hS => ?_)
          obtain ⟨hP1, hK1, hD1⟩ := hB
          rw [ht] at hP1
          obtain ⟨hP, hD⟩ := va_join (wr := [(hX, .inl (cX, 1100, .inl (fun j => ii ((tx j : Nat) : Int)))), (hY, .inl (cY, 1100, .inl (fun j => ii ((ty j : Nat) : Int)))), (hR, .inl (cR, 4, .inl (fun j => ii ((ix j : Nat) : Int))))]) (w1 := [(hm, .inr (2, MO p a b n key dr (gdF 0 0 0) hX hY hR hO sx sy dk dv))]) hP hD [0] [1, 2, 3] rfl rfl (by decide) (by decide) jk1 hFc hP1 hD1
          have hP := hP.sub (ws' := [(hm, .inr (2, MO p a b n key dr (gdF 0 0 0) hX hY hR hO sx sy dk dv)), (hX, .inl (cX, 1100, .inl (fun j => ii ((tx j : Nat) : Int)))), (hY, .inl (cY, 1100, .inl (fun j => ii ((ty j : Nat) : Int)))), (hR, .inl (cR, 4, .inl (fun j => ii ((ix j : Nat) : Int))))]) [3, 0, 1, 2] rfl
          have hD := hD.sub (ws' := [(hm, .inr (2, MO p a b n key dr (gdF 0 0 0) hX hY hR hO sx sy dk dv)), (hX, .inl (cX, 1100, .inl (fun j => ii ((tx j : Nat) : Int)))), (hY, .inl (cY, 1100, .inl (fun j => ii ((ty j : Nat) : Int)))), (hR, .inl (cR, 4, .inl (fun j => ii ((ix j : Nat) : Int))))]) [3, 0, 1, 2] (by decide) rfl
          have gb := goF_b (gdF 0 0 0)
          have g0 := goF_0 (k := gdF 0 0 0)
          have gz := gdF_0 (k1 := 0) (k2 := 0) (k3 := 0)
          refine i_if_eq (tgt := 73) C dX2_sum_46 (by decide) ⟨by omega, by omega⟩ (fun h2 => ?_) (fun h2 => ?_)
          · rw [if_neg (show ¬ gdF 0 0 0 = 0 from g0.mp h2)]
            exact pz_v C hr hk hS trivial (fun t ht hvm => ⟨by rw [ht]; exact hP, va_K.moved hvm hK, hD⟩) dX2_sum_73 (by decide) (by decide)
          · have e : gdF 0 0 0 = 0 := Classical.byContradiction fun z => h2 (g0.mpr z)
            have ez := gz.mp e
            rw [if_pos e]
            have b1 := hI u.toNat
            have b2 := hI v.toNat
            refine lv_aload_n C.1 C.2.1 dX2_sum_49 rfl (lv_at hl 0 rfl) ?_
            refine gf C hK hP 0 rfl rfl aw_uX2 9 (by decide) aw_f_X2_16 rfl dX2_sum_50 ?_
            refine lv_iload_n C.1 C.2.1 dX2_sum_53 rfl (lv_at hl 1 rfl) ?_
            refine lv_aload_n C.1 C.2.1 dX2_sum_54 rfl (lv_at hl 0 rfl) ?_
            refine gf C hK hP 0 rfl rfl aw_uX2 9 (by decide) aw_f_X2_16 rfl dX2_sum_55 ?_
            refine lv_iload_n C.1 C.2.1 dX2_sum_58 rfl (lv_at hl 2 rfl) ?_
            refine i_ald C hK hP 3 2 rfl rfl u.toNat (by omega) (by omega) (by omega) dX2_sum_59 ?_
            refine lv_aload_n C.1 C.2.1 dX2_sum_60 rfl (lv_at hl 0 rfl) ?_
            refine gf C hK hP 0 rfl rfl aw_uX2 9 (by decide) aw_f_X2_16 rfl dX2_sum_61 ?_
            refine lv_iload_n C.1 C.2.1 dX2_sum_64 rfl (lv_at hl 3 rfl) ?_
            refine i_ald C hK hP 3 2 rfl rfl v.toNat (by omega) (by omega) (by omega) dX2_sum_65 ?_
            refine i_add C dX2_sum_66 ?_
            refine lv_aload_n C.1 C.2.1 dX2_sum_67 rfl (lv_at hl 0 rfl) ?_
            refine gf C hK hP 0 rfl rfl aw_uX2 3 (by decide) aw_f_X2_65 rfl dX2_sum_68 ?_
            refine i_rem C dX2_sum_71 ⟨by omega, by omega⟩ ⟨by omega, by omega⟩ ?_
            refine i_top (b := ((((ix u.toNat + ix v.toNat) % n) : Nat) : Int)) (by rw [Int.natCast_emod, Int.natCast_add]) ?_
            refine i_ast C hK hP hD hS 3 2 rfl rfl d.toNat (by omega) (by omega) (by omega) dX2_sum_72 (fun H1 locs1 hP hD hS => ?_)
            rw [show va_up (fun j => ii ((ix j : Nat) : Int)) d.toNat (ii ((((ix u.toNat + ix v.toNat) % n) : Nat) : Int)) = fun j => ii ((va_up ix d.toNat ((ix u.toNat + ix v.toNat) % n) j : Nat) : Int) from up_I ix d.toNat ((ix u.toNat + ix v.toNat) % n)] at hP hD
            have hP : va_P D clX [(hm, .inr (2, MO p a b n key dr (gdF 0 0 0) hX hY hR hO sx sy dk dv)), (hX, .inl (cX, 1100, .inl (fun j => ii ((tx j : Nat) : Int)))), (hY, .inl (cY, 1100, .inl (fun j => ii ((ty j : Nat) : Int)))), (hR, .inl (cR, 4, .inl (fun j => ii (((va_up ix d.toNat ((ix u.toNat + ix v.toNat) % n)) j : Nat) : Int))))] H1 := hP
            have hD : va_D A [(hm, .inr (2, MO p a b n key dr (gdF 0 0 0) hX hY hR hO sx sy dk dv)), (hX, .inl (cX, 1100, .inl (fun j => ii ((tx j : Nat) : Int)))), (hY, .inl (cY, 1100, .inl (fun j => ii ((ty j : Nat) : Int)))), (hR, .inl (cR, 4, .inl (fun j => ii (((va_up ix d.toNat ((ix u.toNat + ix v.toNat) % n)) j : Nat) : Int))))] := hD
            exact pz_v C hr hk hS trivial (fun t ht hvm => ⟨by rw [ht]; exact hP, va_K.moved hvm hK, hD⟩) dX2_sum_73 (by decide) (by decide)
        · have en : or3 (nrF d) (nrF u) (nrF v) = 1 := (or3_b nbd nbu nbv).resolve_left fun z => by have := or3_0.mp z; omega
          rw [en]
          refine i_const C dX2_sum_37 ?_
          refine lv_goto (tgt := 42) C.1 C.2.1 dX2_sum_38 (by decide) ?_
          refine i_const C dX2_sum_42 ?_
          have hFc := va_free (wc := [(hm, .inr (2, MO p a b n key dr th hX hY hR hO sx sy dk dv))]) hD hS hA [0] rfl
          refine cn_V (As := [.int (ii 0), .int (ii 1), .int (ii 0)]) (rest := []) C (c_X2_good l D z0 _ hm p a b n key dr th hX hY hR hO sx sy dk dv 0 1 0 (by omega) (by omega) (by omega)) (pcm_preV _ hN (Zs.on hZ hS hAz) (by have := hS.1; omega) (hP.sub (ws' := [(hm, .inr (2, MO p a b n key dr th hX hY hR hO sx sy dk dv))]) [0] rfl) (hK.sub (tys' := []) [] rfl) ((hD.sub (ws' := [(hm, .inr (2, MO p a b n key dr th hX hY hR hO sx sy dk dv))]) [0] (by decide) rfl).weaken (fun _ _ _ h => hAz _ h)) 0 (ci := 2) rfl rfl) hS hFc aw_b_X2_good aw_m_X2_58 aw_v_X2_good aw_i_X2 aw_e_X2_good ⟨rfl, rfl⟩ 3 (by decide +kernel) rfl ⟨by decide, by decide⟩ hl.1 rfl (Nat.le_of_ble_eq_true rfl) dX2_sum_43 ⟨by decide, by decide⟩ (fun t H1 locs1 ht hvm _ hB jz1 jk1 hS => ?_)
          obtain ⟨hP1, hK1, hD1⟩ := hB
          rw [ht] at hP1
          obtain ⟨hP, hD⟩ := va_join (wr := [(hX, .inl (cX, 1100, .inl (fun j => ii ((tx j : Nat) : Int)))), (hY, .inl (cY, 1100, .inl (fun j => ii ((ty j : Nat) : Int)))), (hR, .inl (cR, 4, .inl (fun j => ii ((ix j : Nat) : Int))))]) (w1 := [(hm, .inr (2, MO p a b n key dr (gdF 0 1 0) hX hY hR hO sx sy dk dv))]) hP hD [0] [1, 2, 3] rfl rfl (by decide) (by decide) jk1 hFc hP1 hD1
          have hP := hP.sub (ws' := [(hm, .inr (2, MO p a b n key dr (gdF 0 1 0) hX hY hR hO sx sy dk dv)), (hX, .inl (cX, 1100, .inl (fun j => ii ((tx j : Nat) : Int)))), (hY, .inl (cY, 1100, .inl (fun j => ii ((ty j : Nat) : Int)))), (hR, .inl (cR, 4, .inl (fun j => ii ((ix j : Nat) : Int))))]) [3, 0, 1, 2] rfl
          have hD := hD.sub (ws' := [(hm, .inr (2, MO p a b n key dr (gdF 0 1 0) hX hY hR hO sx sy dk dv)), (hX, .inl (cX, 1100, .inl (fun j => ii ((tx j : Nat) : Int)))), (hY, .inl (cY, 1100, .inl (fun j => ii ((ty j : Nat) : Int)))), (hR, .inl (cR, 4, .inl (fun j => ii ((ix j : Nat) : Int))))]) [3, 0, 1, 2] (by decide) rfl
          have gb := goF_b (gdF 0 1 0)
          have g0 := goF_0 (k := gdF 0 1 0)
          have gz := gdF_0 (k1 := 0) (k2 := 1) (k3 := 0)
          refine i_if_eq (tgt := 73) C dX2_sum_46 (by decide) ⟨by omega, by omega⟩ (fun h2 => ?_) (fun h2 => ?_)
          · rw [if_neg (show ¬ gdF 0 1 0 = 0 from g0.mp h2)]
            exact pz_v C hr hk hS trivial (fun t ht hvm => ⟨by rw [ht]; exact hP, va_K.moved hvm hK, hD⟩) dX2_sum_73 (by decide) (by decide)
          · have e : gdF 0 1 0 = 0 := Classical.byContradiction fun z => h2 (g0.mpr z)
            have ez := gz.mp e
            rw [if_pos e]
            omega
  · have zn : zb n = 1 := if_pos (by omega)
    rw [zn]
    refine i_const C dX2_sum_8 ?_
    refine lv_goto (tgt := 13) C.1 C.2.1 dX2_sum_9 (by decide) ?_
    refine lv_aload_n C.1 C.2.1 dX2_sum_13 rfl (lv_at hl 0 rfl) ?_
    refine lv_iload_n C.1 C.2.1 dX2_sum_14 rfl (lv_at hl 1 rfl) ?_
    refine ca_V (As := [.int (ii d)]) (rest := [.int (ii 1), .ref hm]) C (c_X2_noRegister l D hm d hd1) (pcw_preV0 [.int (ii d)] hN hP hK 0 (ci := 2) rfl rfl) aw_b_X2_noRegister aw_m_X2_81 aw_v_X2_noRegister aw_i_X2 aw_e_X2_noRegister ⟨rfl, rfl⟩ 1 (by decide +kernel) rfl ⟨by decide, by decide⟩ hl.1 rfl (Nat.le_of_ble_eq_true rfl) dX2_sum_15 ⟨by decide, by decide⟩ ?_
    refine i_if_ne (tgt := 37) C dX2_sum_18 (by decide) ⟨by omega, by omega⟩ (fun h3 => ?_) (fun h3 => ?_)
    · have en : or3 (nrF d) (nrF u) (nrF v) = 1 := (or3_b nbd nbu nbv).resolve_left fun z => by have := or3_0.mp z; omega
      rw [en]
      refine i_const C dX2_sum_37 ?_
      refine lv_goto (tgt := 42) C.1 C.2.1 dX2_sum_38 (by decide) ?_
      refine i_const C dX2_sum_42 ?_
      have hFc := va_free (wc := [(hm, .inr (2, MO p a b n key dr th hX hY hR hO sx sy dk dv))]) hD hS hA [0] rfl
      refine cn_V (As := [.int (ii 1), .int (ii 1), .int (ii 0)]) (rest := []) C (c_X2_good l D z0 _ hm p a b n key dr th hX hY hR hO sx sy dk dv 1 1 0 (by omega) (by omega) (by omega)) (pcm_preV _ hN (Zs.on hZ hS hAz) (by have := hS.1; omega) (hP.sub (ws' := [(hm, .inr (2, MO p a b n key dr th hX hY hR hO sx sy dk dv))]) [0] rfl) (hK.sub (tys' := []) [] rfl) ((hD.sub (ws' := [(hm, .inr (2, MO p a b n key dr th hX hY hR hO sx sy dk dv))]) [0] (by decide) rfl).weaken (fun _ _ _ h => hAz _ h)) 0 (ci := 2) rfl rfl) hS hFc aw_b_X2_good aw_m_X2_58 aw_v_X2_good aw_i_X2 aw_e_X2_good ⟨rfl, rfl⟩ 3 (by decide +kernel) rfl ⟨by decide, by decide⟩ hl.1 rfl (Nat.le_of_ble_eq_true rfl) dX2_sum_43 ⟨by decide, by decide⟩ (fun t H1 locs1 ht hvm _ hB jz1 jk1 hS => ?_)
      obtain ⟨hP1, hK1, hD1⟩ := hB
      rw [ht] at hP1
      obtain ⟨hP, hD⟩ := va_join (wr := [(hX, .inl (cX, 1100, .inl (fun j => ii ((tx j : Nat) : Int)))), (hY, .inl (cY, 1100, .inl (fun j => ii ((ty j : Nat) : Int)))), (hR, .inl (cR, 4, .inl (fun j => ii ((ix j : Nat) : Int))))]) (w1 := [(hm, .inr (2, MO p a b n key dr (gdF 1 1 0) hX hY hR hO sx sy dk dv))]) hP hD [0] [1, 2, 3] rfl rfl (by decide) (by decide) jk1 hFc hP1 hD1
      have hP := hP.sub (ws' := [(hm, .inr (2, MO p a b n key dr (gdF 1 1 0) hX hY hR hO sx sy dk dv)), (hX, .inl (cX, 1100, .inl (fun j => ii ((tx j : Nat) : Int)))), (hY, .inl (cY, 1100, .inl (fun j => ii ((ty j : Nat) : Int)))), (hR, .inl (cR, 4, .inl (fun j => ii ((ix j : Nat) : Int))))]) [3, 0, 1, 2] rfl
      have hD := hD.sub (ws' := [(hm, .inr (2, MO p a b n key dr (gdF 1 1 0) hX hY hR hO sx sy dk dv)), (hX, .inl (cX, 1100, .inl (fun j => ii ((tx j : Nat) : Int)))), (hY, .inl (cY, 1100, .inl (fun j => ii ((ty j : Nat) : Int)))), (hR, .inl (cR, 4, .inl (fun j => ii ((ix j : Nat) : Int))))]) [3, 0, 1, 2] (by decide) rfl
      have gb := goF_b (gdF 1 1 0)
      have g0 := goF_0 (k := gdF 1 1 0)
      have gz := gdF_0 (k1 := 1) (k2 := 1) (k3 := 0)
      refine i_if_eq (tgt := 73) C dX2_sum_46 (by decide) ⟨by omega, by omega⟩ (fun h2 => ?_) (fun h2 => ?_)
      · rw [if_neg (show ¬ gdF 1 1 0 = 0 from g0.mp h2)]
        exact pz_v C hr hk hS trivial (fun t ht hvm => ⟨by rw [ht]; exact hP, va_K.moved hvm hK, hD⟩) dX2_sum_73 (by decide) (by decide)
      · have e : gdF 1 1 0 = 0 := Classical.byContradiction fun z => h2 (g0.mpr z)
        have ez := gz.mp e
        rw [if_pos e]
        omega
    · refine lv_aload_n C.1 C.2.1 dX2_sum_21 rfl (lv_at hl 0 rfl) ?_
      refine lv_iload_n C.1 C.2.1 dX2_sum_22 rfl (lv_at hl 2 rfl) ?_
      refine ca_V (As := [.int (ii u)]) (rest := [.int (ii 1), .ref hm]) C (c_X2_noRegister l D hm u hu1) (pcw_preV0 [.int (ii u)] hN hP hK 0 (ci := 2) rfl rfl) aw_b_X2_noRegister aw_m_X2_81 aw_v_X2_noRegister aw_i_X2 aw_e_X2_noRegister ⟨rfl, rfl⟩ 1 (by decide +kernel) rfl ⟨by decide, by decide⟩ hl.1 rfl (Nat.le_of_ble_eq_true rfl) dX2_sum_23 ⟨by decide, by decide⟩ ?_
      refine i_if_ne (tgt := 37) C dX2_sum_26 (by decide) ⟨by omega, by omega⟩ (fun h4 => ?_) (fun h4 => ?_)
      · have en : or3 (nrF d) (nrF u) (nrF v) = 1 := (or3_b nbd nbu nbv).resolve_left fun z => by have := or3_0.mp z; omega
        rw [en]
        refine i_const C dX2_sum_37 ?_
        refine lv_goto (tgt := 42) C.1 C.2.1 dX2_sum_38 (by decide) ?_
        refine i_const C dX2_sum_42 ?_
        have hFc := va_free (wc := [(hm, .inr (2, MO p a b n key dr th hX hY hR hO sx sy dk dv))]) hD hS hA [0] rfl
        refine cn_V (As := [.int (ii 1), .int (ii 1), .int (ii 0)]) (rest := []) C (c_X2_good l D z0 _ hm p a b n key dr th hX hY hR hO sx sy dk dv 1 1 0 (by omega) (by omega) (by omega)) (pcm_preV _ hN (Zs.on hZ hS hAz) (by have := hS.1; omega) (hP.sub (ws' := [(hm, .inr (2, MO p a b n key dr th hX hY hR hO sx sy dk dv))]) [0] rfl) (hK.sub (tys' := []) [] rfl) ((hD.sub (ws' := [(hm, .inr (2, MO p a b n key dr th hX hY hR hO sx sy dk dv))]) [0] (by decide) rfl).weaken (fun _ _ _ h => hAz _ h)) 0 (ci := 2) rfl rfl) hS hFc aw_b_X2_good aw_m_X2_58 aw_v_X2_good aw_i_X2 aw_e_X2_good ⟨rfl, rfl⟩ 3 (by decide +kernel) rfl ⟨by decide, by decide⟩ hl.1 rfl (Nat.le_of_ble_eq_true rfl) dX2_sum_43 ⟨by decide, by decide⟩ (fun t H1 locs1 ht hvm _ hB jz1 jk1 hS => ?_)
        obtain ⟨hP1, hK1, hD1⟩ := hB
        rw [ht] at hP1
        obtain ⟨hP, hD⟩ := va_join (wr := [(hX, .inl (cX, 1100, .inl (fun j => ii ((tx j : Nat) : Int)))), (hY, .inl (cY, 1100, .inl (fun j => ii ((ty j : Nat) : Int)))), (hR, .inl (cR, 4, .inl (fun j => ii ((ix j : Nat) : Int))))]) (w1 := [(hm, .inr (2, MO p a b n key dr (gdF 1 1 0) hX hY hR hO sx sy dk dv))]) hP hD [0] [1, 2, 3] rfl rfl (by decide) (by decide) jk1 hFc hP1 hD1
        have hP := hP.sub (ws' := [(hm, .inr (2, MO p a b n key dr (gdF 1 1 0) hX hY hR hO sx sy dk dv)), (hX, .inl (cX, 1100, .inl (fun j => ii ((tx j : Nat) : Int)))), (hY, .inl (cY, 1100, .inl (fun j => ii ((ty j : Nat) : Int)))), (hR, .inl (cR, 4, .inl (fun j => ii ((ix j : Nat) : Int))))]) [3, 0, 1, 2] rfl
        have hD := hD.sub (ws' := [(hm, .inr (2, MO p a b n key dr (gdF 1 1 0) hX hY hR hO sx sy dk dv)), (hX, .inl (cX, 1100, .inl (fun j => ii ((tx j : Nat) : Int)))), (hY, .inl (cY, 1100, .inl (fun j => ii ((ty j : Nat) : Int)))), (hR, .inl (cR, 4, .inl (fun j => ii ((ix j : Nat) : Int))))]) [3, 0, 1, 2] (by decide) rfl
        have gb := goF_b (gdF 1 1 0)
        have g0 := goF_0 (k := gdF 1 1 0)
        have gz := gdF_0 (k1 := 1) (k2 := 1) (k3 := 0)
        refine i_if_eq (tgt := 73) C dX2_sum_46 (by decide) ⟨by omega, by omega⟩ (fun h2 => ?_) (fun h2 => ?_)
        · rw [if_neg (show ¬ gdF 1 1 0 = 0 from g0.mp h2)]
          exact pz_v C hr hk hS trivial (fun t ht hvm => ⟨by rw [ht]; exact hP, va_K.moved hvm hK, hD⟩) dX2_sum_73 (by decide) (by decide)
        · have e : gdF 1 1 0 = 0 := Classical.byContradiction fun z => h2 (g0.mpr z)
          have ez := gz.mp e
          rw [if_pos e]
          omega
      · refine lv_aload_n C.1 C.2.1 dX2_sum_29 rfl (lv_at hl 0 rfl) ?_
        refine lv_iload_n C.1 C.2.1 dX2_sum_30 rfl (lv_at hl 3 rfl) ?_
        refine ca_V (As := [.int (ii v)]) (rest := [.int (ii 1), .ref hm]) C (c_X2_noRegister l D hm v hv1) (pcw_preV0 [.int (ii v)] hN hP hK 0 (ci := 2) rfl rfl) aw_b_X2_noRegister aw_m_X2_81 aw_v_X2_noRegister aw_i_X2 aw_e_X2_noRegister ⟨rfl, rfl⟩ 1 (by decide +kernel) rfl ⟨by decide, by decide⟩ hl.1 rfl (Nat.le_of_ble_eq_true rfl) dX2_sum_31 ⟨by decide, by decide⟩ ?_
        refine i_if_eq (tgt := 41) C dX2_sum_34 (by decide) ⟨by omega, by omega⟩ (fun h5 => ?_) (fun h5 => ?_)
        · have en : or3 (nrF d) (nrF u) (nrF v) = 0 := or3_0.mpr ⟨by omega, by omega, by omega⟩
          rw [en]
          refine i_const C dX2_sum_41 ?_
          refine i_const C dX2_sum_42 ?_
          have hFc := va_free (wc := [(hm, .inr (2, MO p a b n key dr th hX hY hR hO sx sy dk dv))]) hD hS hA [0] rfl
          refine cn_V (As := [.int (ii 1), .int (ii 0), .int (ii 0)]) (rest := []) C (c_X2_good l D z0 _ hm p a b n key dr th hX hY hR hO sx sy dk dv 1 0 0 (by omega) (by omega) (by omega)) (pcm_preV _ hN (Zs.on hZ hS hAz) (by have := hS.1; omega) (hP.sub (ws' := [(hm, .inr (2, MO p a b n key dr th hX hY hR hO sx sy dk dv))]) [0] rfl) (hK.sub (tys' := []) [] rfl) ((hD.sub (ws' := [(hm, .inr (2, MO p a b n key dr th hX hY hR hO sx sy dk dv))]) [0] (by decide) rfl).weaken (fun _ _ _ h => hAz _ h)) 0 (ci := 2) rfl rfl) hS hFc aw_b_X2_good aw_m_X2_58 aw_v_X2_good aw_i_X2 aw_e_X2_good ⟨rfl, rfl⟩ 3 (by decide +kernel) rfl ⟨by decide, by decide⟩ hl.1 rfl (Nat.le_of_ble_eq_true rfl) dX2_sum_43 ⟨by decide, by decide⟩ (fun t H1 locs1 ht hvm _ hB jz1 jk1 hS => ?_)
          obtain ⟨hP1, hK1, hD1⟩ := hB
          rw [ht] at hP1
          obtain ⟨hP, hD⟩ := va_join (wr := [(hX, .inl (cX, 1100, .inl (fun j => ii ((tx j : Nat) : Int)))), (hY, .inl (cY, 1100, .inl (fun j => ii ((ty j : Nat) : Int)))), (hR, .inl (cR, 4, .inl (fun j => ii ((ix j : Nat) : Int))))]) (w1 := [(hm, .inr (2, MO p a b n key dr (gdF 1 0 0) hX hY hR hO sx sy dk dv))]) hP hD [0] [1, 2, 3] rfl rfl (by decide) (by decide) jk1 hFc hP1 hD1
          have hP := hP.sub (ws' := [(hm, .inr (2, MO p a b n key dr (gdF 1 0 0) hX hY hR hO sx sy dk dv)), (hX, .inl (cX, 1100, .inl (fun j => ii ((tx j : Nat) : Int)))), (hY, .inl (cY, 1100, .inl (fun j => ii ((ty j : Nat) : Int)))), (hR, .inl (cR, 4, .inl (fun j => ii ((ix j : Nat) : Int))))]) [3, 0, 1, 2] rfl
          have hD := hD.sub (ws' := [(hm, .inr (2, MO p a b n key dr (gdF 1 0 0) hX hY hR hO sx sy dk dv)), (hX, .inl (cX, 1100, .inl (fun j => ii ((tx j : Nat) : Int)))), (hY, .inl (cY, 1100, .inl (fun j => ii ((ty j : Nat) : Int)))), (hR, .inl (cR, 4, .inl (fun j => ii ((ix j : Nat) : Int))))]) [3, 0, 1, 2] (by decide) rfl
          have gb := goF_b (gdF 1 0 0)
          have g0 := goF_0 (k := gdF 1 0 0)
          have gz := gdF_0 (k1 := 1) (k2 := 0) (k3 := 0)
          refine i_if_eq (tgt := 73) C dX2_sum_46 (by decide) ⟨by omega, by omega⟩ (fun h2 => ?_) (fun h2 => ?_)
          · rw [if_neg (show ¬ gdF 1 0 0 = 0 from g0.mp h2)]
            exact pz_v C hr hk hS trivial (fun t ht hvm => ⟨by rw [ht]; exact hP, va_K.moved hvm hK, hD⟩) dX2_sum_73 (by decide) (by decide)
          · have e : gdF 1 0 0 = 0 := Classical.byContradiction fun z => h2 (g0.mpr z)
            have ez := gz.mp e
            rw [if_pos e]
            omega
        · have en : or3 (nrF d) (nrF u) (nrF v) = 1 := (or3_b nbd nbu nbv).resolve_left fun z => by have := or3_0.mp z; omega
          rw [en]
          refine i_const C dX2_sum_37 ?_
          refine lv_goto (tgt := 42) C.1 C.2.1 dX2_sum_38 (by decide) ?_
          refine i_const C dX2_sum_42 ?_
          have hFc := va_free (wc := [(hm, .inr (2, MO p a b n key dr th hX hY hR hO sx sy dk dv))]) hD hS hA [0] rfl
          refine cn_V (As := [.int (ii 1), .int (ii 1), .int (ii 0)]) (rest := []) C (c_X2_good l D z0 _ hm p a b n key dr th hX hY hR hO sx sy dk dv 1 1 0 (by omega) (by omega) (by omega)) (pcm_preV _ hN (Zs.on hZ hS hAz) (by have := hS.1; omega) (hP.sub (ws' := [(hm, .inr (2, MO p a b n key dr th hX hY hR hO sx sy dk dv))]) [0] rfl) (hK.sub (tys' := []) [] rfl) ((hD.sub (ws' := [(hm, .inr (2, MO p a b n key dr th hX hY hR hO sx sy dk dv))]) [0] (by decide) rfl).weaken (fun _ _ _ h => hAz _ h)) 0 (ci := 2) rfl rfl) hS hFc aw_b_X2_good aw_m_X2_58 aw_v_X2_good aw_i_X2 aw_e_X2_good ⟨rfl, rfl⟩ 3 (by decide +kernel) rfl ⟨by decide, by decide⟩ hl.1 rfl (Nat.le_of_ble_eq_true rfl) dX2_sum_43 ⟨by decide, by decide⟩ (fun t H1 locs1 ht hvm _ hB jz1 jk1 hS => ?_)
          obtain ⟨hP1, hK1, hD1⟩ := hB
          rw [ht] at hP1
          obtain ⟨hP, hD⟩ := va_join (wr := [(hX, .inl (cX, 1100, .inl (fun j => ii ((tx j : Nat) : Int)))), (hY, .inl (cY, 1100, .inl (fun j => ii ((ty j : Nat) : Int)))), (hR, .inl (cR, 4, .inl (fun j => ii ((ix j : Nat) : Int))))]) (w1 := [(hm, .inr (2, MO p a b n key dr (gdF 1 1 0) hX hY hR hO sx sy dk dv))]) hP hD [0] [1, 2, 3] rfl rfl (by decide) (by decide) jk1 hFc hP1 hD1
          have hP := hP.sub (ws' := [(hm, .inr (2, MO p a b n key dr (gdF 1 1 0) hX hY hR hO sx sy dk dv)), (hX, .inl (cX, 1100, .inl (fun j => ii ((tx j : Nat) : Int)))), (hY, .inl (cY, 1100, .inl (fun j => ii ((ty j : Nat) : Int)))), (hR, .inl (cR, 4, .inl (fun j => ii ((ix j : Nat) : Int))))]) [3, 0, 1, 2] rfl
          have hD := hD.sub (ws' := [(hm, .inr (2, MO p a b n key dr (gdF 1 1 0) hX hY hR hO sx sy dk dv)), (hX, .inl (cX, 1100, .inl (fun j => ii ((tx j : Nat) : Int)))), (hY, .inl (cY, 1100, .inl (fun j => ii ((ty j : Nat) : Int)))), (hR, .inl (cR, 4, .inl (fun j => ii ((ix j : Nat) : Int))))]) [3, 0, 1, 2] (by decide) rfl
          have gb := goF_b (gdF 1 1 0)
          have g0 := goF_0 (k := gdF 1 1 0)
          have gz := gdF_0 (k1 := 1) (k2 := 1) (k3 := 0)
          refine i_if_eq (tgt := 73) C dX2_sum_46 (by decide) ⟨by omega, by omega⟩ (fun h2 => ?_) (fun h2 => ?_)
          · rw [if_neg (show ¬ gdF 1 1 0 = 0 from g0.mp h2)]
            exact pz_v C hr hk hS trivial (fun t ht hvm => ⟨by rw [ht]; exact hP, va_K.moved hvm hK, hD⟩) dX2_sum_73 (by decide) (by decide)
          · have e : gdF 1 1 0 = 0 := Classical.byContradiction fun z => h2 (g0.mpr z)
            have ez := gz.mp e
            rw [if_pos e]
            omega
set_option maxRecDepth 100000 in
set_option maxHeartbeats 4000000 in
theorem c_X2_times (l : Launch) (D : va_G) (z0 sz : Nat) (hm : Nat) (p a b : Int) (n : Nat) (key dr th : Int) (hX hY hR hO : Nat) (sx sy dk dv : Int32) (cX cY cR : ClassId) (tx ty ix : Nat → Nat) (hT : ∀ j, tx j ≤ 1020 ∧ ty j ≤ 1020) (hI : ∀ j, ix j ≤ 1099) (hn : n ≤ 1100) (d k u : Int) (hd1 : rg d) (hk1 : rg k) (hu1 : rg u) : Met l yX2_times (Cond.code yX2_times cX2_times 4 none :: AW) ({ frames := 1, cells := 0, slots := 0, locals := 30 } : Room) (PcM D z0 sz [(hm, .inr (2, MO p a b n key dr th hX hY hR hO sx sy dk dv)), (hX, .inl (cX, 1100, .inl (fun j => ii ((tx j : Nat) : Int)))), (hY, .inl (cY, 1100, .inl (fun j => ii ((ty j : Nat) : Int)))), (hR, .inl (cR, 4, .inl (fun j => ii ((ix j : Nat) : Int))))] [(cX, .int), (cY, .int), (cR, .int)] [.ref hm, .int (ii d), .int (ii k), .int (ii u)]) (QcM none True (Wd D (if gdF (zb n) (or3 (nrF d) (nrF u) 0) 0 = 0 then [(hm, .inr (2, MO p a b n key dr (gdF (zb n) (or3 (nrF d) (nrF u) 0) 0) hX hY hR hO sx sy dk dv)), (hX, .inl (cX, 1100, .inl (fun j => ii ((tx j : Nat) : Int)))), (hY, .inl (cY, 1100, .inl (fun j => ii ((ty j : Nat) : Int)))), (hR, .inl (cR, 4, .inl (fun j => ii (((va_up ix d.toNat ((k % (n : Int)).toNat * ix u.toNat % n)) j : Nat) : Int))))] else [(hm, .inr (2, MO p a b n key dr (gdF (zb n) (or3 (nrF d) (nrF u) 0) 0) hX hY hR hO sx sy dk dv)), (hX, .inl (cX, 1100, .inl (fun j => ii ((tx j : Nat) : Int)))), (hY, .inl (cY, 1100, .inl (fun j => ii ((ty j : Nat) : Int)))), (hR, .inl (cR, 4, .inl (fun j => ii ((ix j : Nat) : Int))))]) [(cX, .int), (cY, .int), (cR, .int)] (va_A [(hm, .inr (2, MO p a b n key dr th hX hY hR hO sx sy dk dv)), (hX, .inl (cX, 1100, .inl (fun j => ii ((tx j : Nat) : Int)))), (hY, .inl (cY, 1100, .inl (fun j => ii ((ty j : Nat) : Int)))), (hR, .inl (cR, 4, .inl (fun j => ii ((ix j : Nat) : Int))))] sz)) (va_A [(hm, .inr (2, MO p a b n key dr th hX hY hR hO sx sy dk dv)), (hX, .inl (cX, 1100, .inl (fun j => ii ((tx j : Nat) : Int)))), (hY, .inl (cY, 1100, .inl (fun j => ii ((ty j : Nat) : Int)))), (hR, .inl (cR, 4, .inl (fun j => ii ((ix j : Nat) : Int))))] sz)) 0 0 (va_A [(hm, .inr (2, MO p a b n key dr th hX hY hR hO sx sy dk dv)), (hX, .inl (cX, 1100, .inl (fun j => ii ((tx j : Nat) : Int)))), (hY, .inl (cY, 1100, .inl (fun j => ii ((ty j : Nat) : Int)))), (hR, .inl (cR, 4, .inl (fun j => ii ((ix j : Nat) : Int))))] sz) := by
  refine mt_N (by decide +kernel) (Nat.le_of_ble_eq_true rfl) ?_
  intro P0 E0 S0 M0 A0 B0 T0 K0 C hN hZ hsz hz hP hK hD hAz hA hr hk hin ls hl
  have hl : lv_has ls 4 [(0, .ref hm), (1, .int (ii d)), (2, .int (ii k)), (3, .int (ii u))] := hl
  generalize hAe : va_A [(hm, .inr (2, MO p a b n key dr th hX hY hR hO sx sy dk dv)), (hX, .inl (cX, 1100, .inl (fun j => ii ((tx j : Nat) : Int)))), (hY, .inl (cY, 1100, .inl (fun j => ii ((ty j : Nat) : Int)))), (hR, .inl (cR, 4, .inl (fun j => ii ((ix j : Nat) : Int))))] sz = A at hD hAz hA ⊢
  have hS : va_S A S0.heap S0.heap [] := va_S.rf
  have nbd := nrF_b d
  have n0d := nrF_0 (r := d)
  unfold okr at n0d
  have nbu := nrF_b u
  have n0u := nrF_0 (r := u)
  unfold okr at n0u
  refine lv_aload_n C.1 C.2.1 dX2_times_0 rfl (lv_at hl 0 rfl) ?_
  refine lv_aload_n C.1 C.2.1 dX2_times_1 rfl (lv_at hl 0 rfl) ?_
  refine gf C hK hP 0 rfl rfl aw_uX2 3 (by decide) aw_f_X2_65 rfl dX2_times_2 ?_
  refine i_if_ne (tgt := 12) C dX2_times_5 (by decide) ⟨by omega, by omega⟩ (fun h1 => ?_) (fun h1 => ?_)
  · have zn : zb n = 0 := if_neg (by omega)
    rw [zn]
    refine i_const C dX2_times_12 ?_
    refine lv_aload_n C.1 C.2.1 dX2_times_13 rfl (lv_at hl 0 rfl) ?_
    refine lv_iload_n C.1 C.2.1 dX2_times_14 rfl (lv_at hl 1 rfl) ?_
    refine ca_V (As := [.int (ii d)]) (rest := [.int (ii 0), .ref hm]) C (c_X2_noRegister l D hm d hd1) (pcw_preV0 [.int (ii d)] hN hP hK 0 (ci := 2) rfl rfl) aw_b_X2_noRegister aw_m_X2_81 aw_v_X2_noRegister aw_i_X2 aw_e_X2_noRegister ⟨rfl, rfl⟩ 1 (by decide +kernel) rfl ⟨by decide, by decide⟩ hl.1 rfl (Nat.le_of_ble_eq_true rfl) dX2_times_15 ⟨by decide, by decide⟩ ?_
    refine i_if_ne (tgt := 29) C dX2_times_18 (by decide) ⟨by omega, by omega⟩ (fun h3 => ?_) (fun h3 => ?_)
    · have en : or3 (nrF d) (nrF u) 0 = 1 := (or3_b nbd nbu (Or.inl rfl)).resolve_left fun z => by have := or3_0.mp z; omega
      rw [en]
      refine i_const C dX2_times_29 ?_
      refine lv_goto (tgt := 34) C.1 C.2.1 dX2_times_30 (by decide) ?_
      refine i_const C dX2_times_34 ?_
      have hFc := va_free (wc := [(hm, .inr (2, MO p a b n key dr th hX hY hR hO sx sy dk dv))]) hD hS hA [0] rfl
      refine cn_V (As := [.int (ii 0), .int (ii 1), .int (ii 0)]) (rest := []) C (c_X2_good l D z0 _ hm p a b n key dr th hX hY hR hO sx sy dk dv 0 1 0 (by omega) (by omega) (by omega)) (pcm_preV _ hN (Zs.on hZ hS hAz) (by have := hS.1; omega) (hP.sub (ws' := [(hm, .inr (2, MO p a b n key dr th hX hY hR hO sx sy dk dv))]) [0] rfl) (hK.sub (tys' := []) [] rfl) ((hD.sub (ws' := [(hm, .inr (2, MO p a b n key dr th hX hY hR hO sx sy dk dv))]) [0] (by decide) rfl).weaken (fun _ _ _ h => hAz _ h)) 0 (ci := 2) rfl rfl) hS hFc aw_b_X2_good aw_m_X2_58 aw_v_X2_good aw_i_X2 aw_e_X2_good ⟨rfl, rfl⟩ 3 (by decide +kernel) rfl ⟨by decide, by decide⟩ hl.1 rfl (Nat.le_of_ble_eq_true rfl) dX2_times_35 ⟨by decide, by decide⟩ (fun t H1 locs1 ht hvm _ hB jz1 jk1 hS => ?_)
      obtain ⟨hP1, hK1, hD1⟩ := hB
      rw [ht] at hP1
      obtain ⟨hP, hD⟩ := va_join (wr := [(hX, .inl (cX, 1100, .inl (fun j => ii ((tx j : Nat) : Int)))), (hY, .inl (cY, 1100, .inl (fun j => ii ((ty j : Nat) : Int)))), (hR, .inl (cR, 4, .inl (fun j => ii ((ix j : Nat) : Int))))]) (w1 := [(hm, .inr (2, MO p a b n key dr (gdF 0 1 0) hX hY hR hO sx sy dk dv))]) hP hD [0] [1, 2, 3] rfl rfl (by decide) (by decide) jk1 hFc hP1 hD1
      have hP := hP.sub (ws' := [(hm, .inr (2, MO p a b n key dr (gdF 0 1 0) hX hY hR hO sx sy dk dv)), (hX, .inl (cX, 1100, .inl (fun j => ii ((tx j : Nat) : Int)))), (hY, .inl (cY, 1100, .inl (fun j => ii ((ty j : Nat) : Int)))), (hR, .inl (cR, 4, .inl (fun j => ii ((ix j : Nat) : Int))))]) [3, 0, 1, 2] rfl
      have hD := hD.sub (ws' := [(hm, .inr (2, MO p a b n key dr (gdF 0 1 0) hX hY hR hO sx sy dk dv)), (hX, .inl (cX, 1100, .inl (fun j => ii ((tx j : Nat) : Int)))), (hY, .inl (cY, 1100, .inl (fun j => ii ((ty j : Nat) : Int)))), (hR, .inl (cR, 4, .inl (fun j => ii ((ix j : Nat) : Int))))]) [3, 0, 1, 2] (by decide) rfl
      have gb := goF_b (gdF 0 1 0)
      have g0 := goF_0 (k := gdF 0 1 0)
      have gz := gdF_0 (k1 := 0) (k2 := 1) (k3 := 0)
      refine i_if_eq (tgt := 65) C dX2_times_38 (by decide) ⟨by omega, by omega⟩ (fun h2 => ?_) (fun h2 => ?_)
      · rw [if_neg (show ¬ gdF 0 1 0 = 0 from g0.mp h2)]
        exact pz_v C hr hk hS trivial (fun t ht hvm => ⟨by rw [ht]; exact hP, va_K.moved hvm hK, hD⟩) dX2_times_65 (by decide) (by decide)
      · have e : gdF 0 1 0 = 0 := Classical.byContradiction fun z => h2 (g0.mpr z)
        have ez := gz.mp e
        rw [if_pos e]
        omega
    · refine lv_aload_n C.1 C.2.1 dX2_times_21 rfl (lv_at hl 0 rfl) ?_
      refine lv_iload_n C.1 C.2.1 dX2_times_22 rfl (lv_at hl 3 rfl) ?_
      refine ca_V (As := [.int (ii u)]) (rest := [.int (ii 0), .ref hm]) C (c_X2_noRegister l D hm u hu1) (pcw_preV0 [.int (ii u)] hN hP hK 0 (ci := 2) rfl rfl) aw_b_X2_noRegister aw_m_X2_81 aw_v_X2_noRegister aw_i_X2 aw_e_X2_noRegister ⟨rfl, rfl⟩ 1 (by decide +kernel) rfl ⟨by decide, by decide⟩ hl.1 rfl (Nat.le_of_ble_eq_true rfl) dX2_times_23 ⟨by decide, by decide⟩ ?_
      refine i_if_eq (tgt := 33) C dX2_times_26 (by decide) ⟨by omega, by omega⟩ (fun h4 => ?_) (fun h4 => ?_)
      · have en : or3 (nrF d) (nrF u) 0 = 0 := or3_0.mpr ⟨by omega, by omega, by omega⟩
        rw [en]
        refine i_const C dX2_times_33 ?_
        refine i_const C dX2_times_34 ?_
        have hFc := va_free (wc := [(hm, .inr (2, MO p a b n key dr th hX hY hR hO sx sy dk dv))]) hD hS hA [0] rfl
        refine cn_V (As := [.int (ii 0), .int (ii 0), .int (ii 0)]) (rest := []) C (c_X2_good l D z0 _ hm p a b n key dr th hX hY hR hO sx sy dk dv 0 0 0 (by omega) (by omega) (by omega)) (pcm_preV _ hN (Zs.on hZ hS hAz) (by have := hS.1; omega) (hP.sub (ws' := [(hm, .inr (2, MO p a b n key dr th hX hY hR hO sx sy dk dv))]) [0] rfl) (hK.sub (tys' := []) [] rfl) ((hD.sub (ws' := [(hm, .inr (2, MO p a b n key dr th hX hY hR hO sx sy dk dv))]) [0] (by decide) rfl).weaken (fun _ _ _ h => hAz _ h)) 0 (ci := 2) rfl rfl) hS hFc aw_b_X2_good aw_m_X2_58 aw_v_X2_good aw_i_X2 aw_e_X2_good ⟨rfl, rfl⟩ 3 (by decide +kernel) rfl ⟨by decide, by decide⟩ hl.1 rfl (Nat.le_of_ble_eq_true rfl) dX2_times_35 ⟨by decide, by decide⟩ (fun t H1 locs1 ht hvm _ hB jz1 jk1 hS => ?_)
        obtain ⟨hP1, hK1, hD1⟩ := hB
        rw [ht] at hP1
        obtain ⟨hP, hD⟩ := va_join (wr := [(hX, .inl (cX, 1100, .inl (fun j => ii ((tx j : Nat) : Int)))), (hY, .inl (cY, 1100, .inl (fun j => ii ((ty j : Nat) : Int)))), (hR, .inl (cR, 4, .inl (fun j => ii ((ix j : Nat) : Int))))]) (w1 := [(hm, .inr (2, MO p a b n key dr (gdF 0 0 0) hX hY hR hO sx sy dk dv))]) hP hD [0] [1, 2, 3] rfl rfl (by decide) (by decide) jk1 hFc hP1 hD1
        have hP := hP.sub (ws' := [(hm, .inr (2, MO p a b n key dr (gdF 0 0 0) hX hY hR hO sx sy dk dv)), (hX, .inl (cX, 1100, .inl (fun j => ii ((tx j : Nat) : Int)))), (hY, .inl (cY, 1100, .inl (fun j => ii ((ty j : Nat) : Int)))), (hR, .inl (cR, 4, .inl (fun j => ii ((ix j : Nat) : Int))))]) [3, 0, 1, 2] rfl
        have hD := hD.sub (ws' := [(hm, .inr (2, MO p a b n key dr (gdF 0 0 0) hX hY hR hO sx sy dk dv)), (hX, .inl (cX, 1100, .inl (fun j => ii ((tx j : Nat) : Int)))), (hY, .inl (cY, 1100, .inl (fun j => ii ((ty j : Nat) : Int)))), (hR, .inl (cR, 4, .inl (fun j => ii ((ix j : Nat) : Int))))]) [3, 0, 1, 2] (by decide) rfl
        have gb := goF_b (gdF 0 0 0)
        have g0 := goF_0 (k := gdF 0 0 0)
        have gz := gdF_0 (k1 := 0) (k2 := 0) (k3 := 0)
        refine i_if_eq (tgt := 65) C dX2_times_38 (by decide) ⟨by omega, by omega⟩ (fun h2 => ?_) (fun h2 => ?_)
        · rw [if_neg (show ¬ gdF 0 0 0 = 0 from g0.mp h2)]
          exact pz_v C hr hk hS trivial (fun t ht hvm => ⟨by rw [ht]; exact hP, va_K.moved hvm hK, hD⟩) dX2_times_65 (by decide) (by decide)
        · have e : gdF 0 0 0 = 0 := Classical.byContradiction fun z => h2 (g0.mpr z)
          have ez := gz.mp e
          rw [if_pos e]
          have b1 := hI u.toNat
          have b2 := em_b k (show (0 : Int) < n by omega)
          refine lv_aload_n C.1 C.2.1 dX2_times_41 rfl (lv_at hl 0 rfl) ?_
          refine gf C hK hP 0 rfl rfl aw_uX2 9 (by decide) aw_f_X2_16 rfl dX2_times_42 ?_
          refine lv_iload_n C.1 C.2.1 dX2_times_45 rfl (lv_at hl 1 rfl) ?_
          refine lv_aload_n C.1 C.2.1 dX2_times_46 rfl (lv_at hl 0 rfl) ?_
          refine lv_iload_n C.1 C.2.1 dX2_times_47 rfl (lv_at hl 2 rfl) ?_
          refine l_i2l C dX2_times_48 ⟨by omega, by omega⟩ ?_
          refine ca_V (As := [.long (li k)]) (rest := [.int (ii d), .ref hR]) C (c_X2_modulo l D hm p a b n key dr (gdF 0 0 0) hX hY hR hO sx sy dk dv (by omega) k (by unfold rl; omega)) (pcw_preV [.long (li k)] hN (hP.sub (ws' := [(hm, .inr (2, MO p a b n key dr (gdF 0 0 0) hX hY hR hO sx sy dk dv))]) [0] rfl) (hK.sub (tys' := []) [] rfl) 0 (ci := 2) rfl rfl) aw_b_X2_modulo aw_m_X2_84 aw_v_X2_modulo aw_i_X2 aw_e_X2_modulo ⟨rfl, rfl⟩ 1 (by decide +kernel) rfl ⟨by decide, by decide⟩ hl.1 rfl (Nat.le_of_ble_eq_true rfl) dX2_times_49 ⟨by decide, by decide⟩ ?_
          refine i_top (b := (((k % (n : Int)).toNat : Nat) : Int)) (by omega) ?_
          have b3 : (k % (n : Int)).toNat ≤ 1100 := by omega
          generalize (k % (n : Int)).toNat = c at b3 ⊢
          have b4 : c * ix u.toNat ≤ 1100 * 1099 := Nat.mul_le_mul b3 b1
          have b5 : ((c * ix u.toNat : Nat) : Int) = (c : Int) * (ix u.toNat : Int) := Int.natCast_mul _ _
          refine lv_aload_n C.1 C.2.1 dX2_times_52 rfl (lv_at hl 0 rfl) ?_
          refine gf C hK hP 0 rfl rfl aw_uX2 9 (by decide) aw_f_X2_16 rfl dX2_times_53 ?_
          refine lv_iload_n C.1 C.2.1 dX2_times_56 rfl (lv_at hl 3 rfl) ?_
          refine i_ald C hK hP 3 2 rfl rfl u.toNat (by omega) (by omega) (by omega) dX2_times_57 ?_
          refine i_mul C dX2_times_58 ?_
          refine lv_aload_n C.1 C.2.1 dX2_times_59 rfl (lv_at hl 0 rfl) ?_
          refine gf C hK hP 0 rfl rfl aw_uX2 3 (by decide) aw_f_X2_65 rfl dX2_times_60 ?_
          refine i_rem C dX2_times_63 ⟨by omega, by omega⟩ ⟨by omega, by omega⟩ ?_
          refine i_top (b := (((c * ix u.toNat % n) : Nat) : Int)) (by rw [Int.natCast_emod, b5]) ?_
          refine i_ast C hK hP hD hS 3 2 rfl rfl d.toNat (by omega) (by omega) (by omega) dX2_times_64 (fun H1 locs1 hP hD hS => ?_)
          rw [show va_up (fun j => ii ((ix j : Nat) : Int)) d.toNat (ii (((c * ix u.toNat % n) : Nat) : Int)) = fun j => ii ((va_up ix d.toNat (c * ix u.toNat % n) j : Nat) : Int) from up_I ix d.toNat (c * ix u.toNat % n)] at hP hD
          have hP : va_P D clX [(hm, .inr (2, MO p a b n key dr (gdF 0 0 0) hX hY hR hO sx sy dk dv)), (hX, .inl (cX, 1100, .inl (fun j => ii ((tx j : Nat) : Int)))), (hY, .inl (cY, 1100, .inl (fun j => ii ((ty j : Nat) : Int)))), (hR, .inl (cR, 4, .inl (fun j => ii (((va_up ix d.toNat (c * ix u.toNat % n)) j : Nat) : Int))))] H1 := hP
          have hD : va_D A [(hm, .inr (2, MO p a b n key dr (gdF 0 0 0) hX hY hR hO sx sy dk dv)), (hX, .inl (cX, 1100, .inl (fun j => ii ((tx j : Nat) : Int)))), (hY, .inl (cY, 1100, .inl (fun j => ii ((ty j : Nat) : Int)))), (hR, .inl (cR, 4, .inl (fun j => ii (((va_up ix d.toNat (c * ix u.toNat % n)) j : Nat) : Int))))] := hD
          exact pz_v C hr hk hS trivial (fun t ht hvm => ⟨by rw [ht]; exact hP, va_K.moved hvm hK, hD⟩) dX2_times_65 (by decide) (by decide)
      · have en : or3 (nrF d) (nrF u) 0 = 1 := (or3_b nbd nbu (Or.inl rfl)).resolve_left fun z => by have := or3_0.mp z; omega
        rw [en]
        refine i_const C dX2_times_29 ?_
        refine lv_goto (tgt := 34) C.1 C.2.1 dX2_times_30 (by decide) ?_
        refine i_const C dX2_times_34 ?_
        have hFc := va_free (wc := [(hm, .inr (2, MO p a b n key dr th hX hY hR hO sx sy dk dv))]) hD hS hA [0] rfl
        refine cn_V (As := [.int (ii 0), .int (ii 1), .int (ii 0)]) (rest := []) C (c_X2_good l D z0 _ hm p a b n key dr th hX hY hR hO sx sy dk dv 0 1 0 (by omega) (by omega) (by omega)) (pcm_preV _ hN (Zs.on hZ hS hAz) (by have := hS.1; omega) (hP.sub (ws' := [(hm, .inr (2, MO p a b n key dr th hX hY hR hO sx sy dk dv))]) [0] rfl) (hK.sub (tys' := []) [] rfl) ((hD.sub (ws' := [(hm, .inr (2, MO p a b n key dr th hX hY hR hO sx sy dk dv))]) [0] (by decide) rfl).weaken (fun _ _ _ h => hAz _ h)) 0 (ci := 2) rfl rfl) hS hFc aw_b_X2_good aw_m_X2_58 aw_v_X2_good aw_i_X2 aw_e_X2_good ⟨rfl, rfl⟩ 3 (by decide +kernel) rfl ⟨by decide, by decide⟩ hl.1 rfl (Nat.le_of_ble_eq_true rfl) dX2_times_35 ⟨by decide, by decide⟩ (fun t H1 locs1 ht hvm _ hB jz1 jk1 hS => ?_)
        obtain ⟨hP1, hK1, hD1⟩ := hB
        rw [ht] at hP1
        obtain ⟨hP, hD⟩ := va_join (wr := [(hX, .inl (cX, 1100, .inl (fun j => ii ((tx j : Nat) : Int)))), (hY, .inl (cY, 1100, .inl (fun j => ii ((ty j : Nat) : Int)))), (hR, .inl (cR, 4, .inl (fun j => ii ((ix j : Nat) : Int))))]) (w1 := [(hm, .inr (2, MO p a b n key dr (gdF 0 1 0) hX hY hR hO sx sy dk dv))]) hP hD [0] [1, 2, 3] rfl rfl (by decide) (by decide) jk1 hFc hP1 hD1
        have hP := hP.sub (ws' := [(hm, .inr (2, MO p a b n key dr (gdF 0 1 0) hX hY hR hO sx sy dk dv)), (hX, .inl (cX, 1100, .inl (fun j => ii ((tx j : Nat) : Int)))), (hY, .inl (cY, 1100, .inl (fun j => ii ((ty j : Nat) : Int)))), (hR, .inl (cR, 4, .inl (fun j => ii ((ix j : Nat) : Int))))]) [3, 0, 1, 2] rfl
        have hD := hD.sub (ws' := [(hm, .inr (2, MO p a b n key dr (gdF 0 1 0) hX hY hR hO sx sy dk dv)), (hX, .inl (cX, 1100, .inl (fun j => ii ((tx j : Nat) : Int)))), (hY, .inl (cY, 1100, .inl (fun j => ii ((ty j : Nat) : Int)))), (hR, .inl (cR, 4, .inl (fun j => ii ((ix j : Nat) : Int))))]) [3, 0, 1, 2] (by decide) rfl
        have gb := goF_b (gdF 0 1 0)
        have g0 := goF_0 (k := gdF 0 1 0)
        have gz := gdF_0 (k1 := 0) (k2 := 1) (k3 := 0)
        refine i_if_eq (tgt := 65) C dX2_times_38 (by decide) ⟨by omega, by omega⟩ (fun h2 => ?_) (fun h2 => ?_)
        · rw [if_neg (show ¬ gdF 0 1 0 = 0 from g0.mp h2)]
          exact pz_v C hr hk hS trivial (fun t ht hvm => ⟨by rw [ht]; exact hP, va_K.moved hvm hK, hD⟩) dX2_times_65 (by decide) (by decide)
        · have e : gdF 0 1 0 = 0 := Classical.byContradiction fun z => h2 (g0.mpr z)
          have ez := gz.mp e
          rw [if_pos e]
          omega
  · have zn : zb n = 1 := if_pos (by omega)
    rw [zn]
    refine i_const C dX2_times_8 ?_
    refine lv_goto (tgt := 13) C.1 C.2.1 dX2_times_9 (by decide) ?_
    refine lv_aload_n C.1 C.2.1 dX2_times_13 rfl (lv_at hl 0 rfl) ?_
    refine lv_iload_n C.1 C.2.1 dX2_times_14 rfl (lv_at hl 1 rfl) ?_
    refine ca_V (As := [.int (ii d)]) (rest := [.int (ii 1), .ref hm]) C (c_X2_noRegister l D hm d hd1) (pcw_preV0 [.int (ii d)] hN hP hK 0 (ci := 2) rfl rfl) aw_b_X2_noRegister aw_m_X2_81 aw_v_X2_noRegister aw_i_X2 aw_e_X2_noRegister ⟨rfl, rfl⟩ 1 (by decide +kernel) rfl ⟨by decide, by decide⟩ hl.1 rfl (Nat.le_of_ble_eq_true rfl) dX2_times_15 ⟨by decide, by decide⟩ ?_
    refine i_if_ne (tgt := 29) C dX2_times_18 (by decide) ⟨by omega, by omega⟩ (fun h3 => ?_) (fun h3 => ?_)
    · have en : or3 (nrF d) (nrF u) 0 = 1 := (or3_b nbd nbu (Or.inl rfl)).resolve_left fun z => by have := or3_0.mp z; omega
      rw [en]
      refine i_const C dX2_times_29 ?_
      refine lv_goto (tgt := 34) C.1 C.2.1 dX2_times_30 (by decide) ?_
      refine i_const C dX2_times_34 ?_
      have hFc := va_free (wc := [(hm, .inr (2, MO p a b n key dr th hX hY hR hO sx sy dk dv))]) hD hS hA [0] rfl
      refine cn_V (As := [.int (ii 1), .int (ii 1), .int (ii 0)]) (rest := []) C (c_X2_good l D z0 _ hm p a b n key dr th hX hY hR hO sx sy dk dv 1 1 0 (by omega) (by omega) (by omega)) (pcm_preV _ hN (Zs.on hZ hS hAz) (by have := hS.1; omega) (hP.sub (ws' := [(hm, .inr (2, MO p a b n key dr th hX hY hR hO sx sy dk dv))]) [0] rfl) (hK.sub (tys' := []) [] rfl) ((hD.sub (ws' := [(hm, .inr (2, MO p a b n key dr th hX hY hR hO sx sy dk dv))]) [0] (by decide) rfl).weaken (fun _ _ _ h => hAz _ h)) 0 (ci := 2) rfl rfl) hS hFc aw_b_X2_good aw_m_X2_58 aw_v_X2_good aw_i_X2 aw_e_X2_good ⟨rfl, rfl⟩ 3 (by decide +kernel) rfl ⟨by decide, by decide⟩ hl.1 rfl (Nat.le_of_ble_eq_true rfl) dX2_times_35 ⟨by decide, by decide⟩ (fun t H1 locs1 ht hvm _ hB jz1 jk1 hS => ?_)
      obtain ⟨hP1, hK1, hD1⟩ := hB
      rw [ht] at hP1
      obtain ⟨hP, hD⟩ := va_join (wr := [(hX, .inl (cX, 1100, .inl (fun j => ii ((tx j : Nat) : Int)))), (hY, .inl (cY, 1100, .inl (fun j => ii ((ty j : Nat) : Int)))), (hR, .inl (cR, 4, .inl (fun j => ii ((ix j : Nat) : Int))))]) (w1 := [(hm, .inr (2, MO p a b n key dr (gdF 1 1 0) hX hY hR hO sx sy dk dv))]) hP hD [0] [1, 2, 3] rfl rfl (by decide) (by decide) jk1 hFc hP1 hD1
      have hP := hP.sub (ws' := [(hm, .inr (2, MO p a b n key dr (gdF 1 1 0) hX hY hR hO sx sy dk dv)), (hX, .inl (cX, 1100, .inl (fun j => ii ((tx j : Nat) : Int)))), (hY, .inl (cY, 1100, .inl (fun j => ii ((ty j : Nat) : Int)))), (hR, .inl (cR, 4, .inl (fun j => ii ((ix j : Nat) : Int))))]) [3, 0, 1, 2] rfl
      have hD := hD.sub (ws' := [(hm, .inr (2, MO p a b n key dr (gdF 1 1 0) hX hY hR hO sx sy dk dv)), (hX, .inl (cX, 1100, .inl (fun j => ii ((tx j : Nat) : Int)))), (hY, .inl (cY, 1100, .inl (fun j => ii ((ty j : Nat) : Int)))), (hR, .inl (cR, 4, .inl (fun j => ii ((ix j : Nat) : Int))))]) [3, 0, 1, 2] (by decide) rfl
      have gb := goF_b (gdF 1 1 0)
      have g0 := goF_0 (k := gdF 1 1 0)
      have gz := gdF_0 (k1 := 1) (k2 := 1) (k3 := 0)
      refine i_if_eq (tgt := 65) C dX2_times_38 (by decide) ⟨by omega, by omega⟩ (fun h2 => ?_) (fun h2 => ?_)
      · rw [if_neg (show ¬ gdF 1 1 0 = 0 from g0.mp h2)]
        exact pz_v C hr hk hS trivial (fun t ht hvm => ⟨by rw [ht]; exact hP, va_K.moved hvm hK, hD⟩) dX2_times_65 (by decide) (by decide)
      · have e : gdF 1 1 0 = 0 := Classical.byContradiction fun z => h2 (g0.mpr z)
        have ez := gz.mp e
        rw [if_pos e]
        omega
    · refine lv_aload_n C.1 C.2.1 dX2_times_21 rfl (lv_at hl 0 rfl) ?_
      refine lv_iload_n C.1 C.2.1 dX2_times_22 rfl (lv_at hl 3 rfl) ?_
      refine ca_V (As := [.int (ii u)]) (rest := [.int (ii 1), .ref hm]) C (c_X2_noRegister l D hm u hu1) (pcw_preV0 [.int (ii u)] hN hP hK 0 (ci := 2) rfl rfl) aw_b_X2_noRegister aw_m_X2_81 aw_v_X2_noRegister aw_i_X2 aw_e_X2_noRegister ⟨rfl, rfl⟩ 1 (by decide +kernel) rfl ⟨by decide, by decide⟩ hl.1 rfl (Nat.le_of_ble_eq_true rfl) dX2_times_23 ⟨by decide, by decide⟩ ?_
      refine i_if_eq (tgt := 33) C dX2_times_26 (by decide) ⟨by omega, by omega⟩ (fun h4 => ?_) (fun h4 => ?_)
      · have en : or3 (nrF d) (nrF u) 0 = 0 := or3_0.mpr ⟨by omega, by omega, by omega⟩
        rw [en]
        refine i_const C dX2_times_33 ?_
        refine i_const C dX2_times_34 ?_
        have hFc := va_free (wc := [(hm, .inr (2, MO p a b n key dr th hX hY hR hO sx sy dk dv))]) hD hS hA [0] rfl
        refine cn_V (As := [.int (ii 1), .int (ii 0), .int (ii 0)]) (rest := []) C (c_X2_good l D z0 _ hm p a b n key dr th hX hY hR hO sx sy dk dv 1 0 0 (by omega) (by omega) (by omega)) (pcm_preV _ hN (Zs.on hZ hS hAz) (by have := hS.1; omega) (hP.sub (ws' := [(hm, .inr (2, MO p a b n key dr th hX hY hR hO sx sy dk dv))]) [0] rfl) (hK.sub (tys' := []) [] rfl) ((hD.sub (ws' := [(hm, .inr (2, MO p a b n key dr th hX hY hR hO sx sy dk dv))]) [0] (by decide) rfl).weaken (fun _ _ _ h => hAz _ h)) 0 (ci := 2) rfl rfl) hS hFc aw_b_X2_good aw_m_X2_58 aw_v_X2_good aw_i_X2 aw_e_X2_good ⟨rfl, rfl⟩ 3 (by decide +kernel) rfl ⟨by decide, by decide⟩ hl.1 rfl (Nat.le_of_ble_eq_true rfl) dX2_times_35 ⟨by decide, by decide⟩ (fun t H1 locs1 ht hvm _ hB jz1 jk1 hS => ?_)
        obtain ⟨hP1, hK1, hD1⟩ := hB
        rw [ht] at hP1
        obtain ⟨hP, hD⟩ := va_join (wr := [(hX, .inl (cX, 1100, .inl (fun j => ii ((tx j : Nat) : Int)))), (hY, .inl (cY, 1100, .inl (fun j => ii ((ty j : Nat) : Int)))), (hR, .inl (cR, 4, .inl (fun j => ii ((ix j : Nat) : Int))))]) (w1 := [(hm, .inr (2, MO p a b n key dr (gdF 1 0 0) hX hY hR hO sx sy dk dv))]) hP hD [0] [1, 2, 3] rfl rfl (by decide) (by decide) jk1 hFc hP1 hD1
        have hP := hP.sub (ws' := [(hm, .inr (2, MO p a b n key dr (gdF 1 0 0) hX hY hR hO sx sy dk dv)), (hX, .inl (cX, 1100, .inl (fun j => ii ((tx j : Nat) : Int)))), (hY, .inl (cY, 1100, .inl (fun j => ii ((ty j : Nat) : Int)))), (hR, .inl (cR, 4, .inl (fun j => ii ((ix j : Nat) : Int))))]) [3, 0, 1, 2] rfl
        have hD := hD.sub (ws' := [(hm, .inr (2, MO p a b n key dr (gdF 1 0 0) hX hY hR hO sx sy dk dv)), (hX, .inl (cX, 1100, .inl (fun j => ii ((tx j : Nat) : Int)))), (hY, .inl (cY, 1100, .inl (fun j => ii ((ty j : Nat) : Int)))), (hR, .inl (cR, 4, .inl (fun j => ii ((ix j : Nat) : Int))))]) [3, 0, 1, 2] (by decide) rfl
        have gb := goF_b (gdF 1 0 0)
        have g0 := goF_0 (k := gdF 1 0 0)
        have gz := gdF_0 (k1 := 1) (k2 := 0) (k3 := 0)
        refine i_if_eq (tgt := 65) C dX2_times_38 (by decide) ⟨by omega, by omega⟩ (fun h2 => ?_) (fun h2 => ?_)
        · rw [if_neg (show ¬ gdF 1 0 0 = 0 from g0.mp h2)]
          exact pz_v C hr hk hS trivial (fun t ht hvm => ⟨by rw [ht]; exact hP, va_K.moved hvm hK, hD⟩) dX2_times_65 (by decide) (by decide)
        · have e : gdF 1 0 0 = 0 := Classical.byContradiction fun z => h2 (g0.mpr z)
          have ez := gz.mp e
          rw [if_pos e]
          omega
      · have en : or3 (nrF d) (nrF u) 0 = 1 := (or3_b nbd nbu (Or.inl rfl)).resolve_left fun z => by have := or3_0.mp z; omega
        rw [en]
        refine i_const C dX2_times_29 ?_
        refine lv_goto (tgt := 34) C.1 C.2.1 dX2_times_30 (by decide) ?_
        refine i_const C dX2_times_34 ?_
        have hFc := va_free (wc := [(hm, .inr (2, MO p a b n key dr th hX hY hR hO sx sy dk dv))]) hD hS hA [0] rfl
        refine cn_V (As := [.int (ii 1), .int (ii 1), .int (ii 0)]) (rest := []) C (c_X2_good l D z0 _ hm p a b n key dr th hX hY hR hO sx sy dk dv 1 1 0 (by omega) (by omega) (by omega)) (pcm_preV _ hN (Zs.on hZ hS hAz) (by have := hS.1; omega) (hP.sub (ws' := [(hm, .inr (2, MO p a b n key dr th hX hY hR hO sx sy dk dv))]) [0] rfl) (hK.sub (tys' := []) [] rfl) ((hD.sub (ws' := [(hm, .inr (2, MO p a b n key dr th hX hY hR hO sx sy dk dv))]) [0] (by decide) rfl).weaken (fun _ _ _ h => hAz _ h)) 0 (ci := 2) rfl rfl) hS hFc aw_b_X2_good aw_m_X2_58 aw_v_X2_good aw_i_X2 aw_e_X2_good ⟨rfl, rfl⟩ 3 (by decide +kernel) rfl ⟨by decide, by decide⟩ hl.1 rfl (Nat.le_of_ble_eq_true rfl) dX2_times_35 ⟨by decide, by decide⟩ (fun t H1 locs1 ht hvm _ hB jz1 jk1 hS => ?_)
        obtain ⟨hP1, hK1, hD1⟩ := hB
        rw [ht] at hP1
        obtain ⟨hP, hD⟩ := va_join (wr := [(hX, .inl (cX, 1100, .inl (fun j => ii ((tx j : Nat) : Int)))), (hY, .inl (cY, 1100, .inl (fun j => ii ((ty j : Nat) : Int)))), (hR, .inl (cR, 4, .inl (fun j => ii ((ix j : Nat) : Int))))]) (w1 := [(hm, .inr (2, MO p a b n key dr (gdF 1 1 0) hX hY hR hO sx sy dk dv))]) hP hD [0] [1, 2, 3] rfl rfl (by decide) (by decide) jk1 hFc hP1 hD1
        have hP := hP.sub (ws' := [(hm, .inr (2, MO p a b n key dr (gdF 1 1 0) hX hY hR hO sx sy dk dv)), (hX, .inl (cX, 1100, .inl (fun j => ii ((tx j : Nat) : Int)))), (hY, .inl (cY, 1100, .inl (fun j => ii ((ty j : Nat) : Int)))), (hR, .inl (cR, 4, .inl (fun j => ii ((ix j : Nat) : Int))))]) [3, 0, 1, 2] rfl
        have hD := hD.sub (ws' := [(hm, .inr (2, MO p a b n key dr (gdF 1 1 0) hX hY hR hO sx sy dk dv)), (hX, .inl (cX, 1100, .inl (fun j => ii ((tx j : Nat) : Int)))), (hY, .inl (cY, 1100, .inl (fun j => ii ((ty j : Nat) : Int)))), (hR, .inl (cR, 4, .inl (fun j => ii ((ix j : Nat) : Int))))]) [3, 0, 1, 2] (by decide) rfl
        have gb := goF_b (gdF 1 1 0)
        have g0 := goF_0 (k := gdF 1 1 0)
        have gz := gdF_0 (k1 := 1) (k2 := 1) (k3 := 0)
        refine i_if_eq (tgt := 65) C dX2_times_38 (by decide) ⟨by omega, by omega⟩ (fun h2 => ?_) (fun h2 => ?_)
        · rw [if_neg (show ¬ gdF 1 1 0 = 0 from g0.mp h2)]
          exact pz_v C hr hk hS trivial (fun t ht hvm => ⟨by rw [ht]; exact hP, va_K.moved hvm hK, hD⟩) dX2_times_65 (by decide) (by decide)
        · have e : gdF 1 1 0 = 0 := Classical.byContradiction fun z => h2 (g0.mpr z)
          have ez := gz.mp e
          rw [if_pos e]
          omega
def rvF (tx ix : Nat → Nat) (r : Int) : Int := if nrF r = 0 then (if ix r.toNat = 0 then -1 else ((tx (ix r.toNat) : Nat) : Int)) else 0
set_option maxRecDepth 100000 in
set_option maxHeartbeats 4000000 in
theorem c_X2_x (l : Launch) (D : va_G) (z0 sz : Nat) (hm : Nat) (p a b : Int) (n : Nat) (key dr th : Int) (hX hY hR hO : Nat) (sx sy dk dv : Int32) (cX cY cR : ClassId) (tx ty ix : Nat → Nat) (hT : ∀ j, tx j ≤ 1020 ∧ ty j ≤ 1020) (hI : ∀ j, ix j ≤ 1099) (hn : n ≤ 1100) (r : Int) (hr1 : rg r) : Met l yX2_x (Cond.code yX2_x cX2_x 2 (some .int) :: AW) ({ frames := 1, cells := 0, slots := 0, locals := 24 } : Room) (PcM D z0 sz [(hm, .inr (2, MO p a b n key dr th hX hY hR hO sx sy dk dv)), (hX, .inl (cX, 1100, .inl (fun j => ii ((tx j : Nat) : Int)))), (hY, .inl (cY, 1100, .inl (fun j => ii ((ty j : Nat) : Int)))), (hR, .inl (cR, 4, .inl (fun j => ii ((ix j : Nat) : Int))))] [(cX, .int), (cY, .int), (cR, .int)] [.ref hm, .int (ii r)]) (QcM (some (.int (ii (rvF tx ix r)))) True (Wd D [(hm, .inr (2, MO p a b n key dr (gdF (nrF r) 0 0) hX hY hR hO sx sy dk dv)), (hX, .inl (cX, 1100, .inl (fun j => ii ((tx j : Nat) : Int)))), (hY, .inl (cY, 1100, .inl (fun j => ii ((ty j : Nat) : Int)))), (hR, .inl (cR, 4, .inl (fun j => ii ((ix j : Nat) : Int))))] [(cX, .int), (cY, .int), (cR, .int)] (va_A [(hm, .inr (2, MO p a b n key dr th hX hY hR hO sx sy dk dv)), (hX, .inl (cX, 1100, .inl (fun j => ii ((tx j : Nat) : Int)))), (hY, .inl (cY, 1100, .inl (fun j => ii ((ty j : Nat) : Int)))), (hR, .inl (cR, 4, .inl (fun j => ii ((ix j : Nat) : Int))))] sz)) (va_A [(hm, .inr (2, MO p a b n key dr th hX hY hR hO sx sy dk dv)), (hX, .inl (cX, 1100, .inl (fun j => ii ((tx j : Nat) : Int)))), (hY, .inl (cY, 1100, .inl (fun j => ii ((ty j : Nat) : Int)))), (hR, .inl (cR, 4, .inl (fun j => ii ((ix j : Nat) : Int))))] sz)) 0 0 (va_A [(hm, .inr (2, MO p a b n key dr th hX hY hR hO sx sy dk dv)), (hX, .inl (cX, 1100, .inl (fun j => ii ((tx j : Nat) : Int)))), (hY, .inl (cY, 1100, .inl (fun j => ii ((ty j : Nat) : Int)))), (hR, .inl (cR, 4, .inl (fun j => ii ((ix j : Nat) : Int))))] sz) := by
  refine mt_N (by decide +kernel) (Nat.le_of_ble_eq_true rfl) ?_
  intro P0 E0 S0 M0 A0 B0 T0 K0 C hN hZ hsz hz hP hK hD hAz hA hr hk hin ls hl
  have hl : lv_has ls 2 [(0, .ref hm), (1, .int (ii r))] := hl
  generalize hAe : va_A [(hm, .inr (2, MO p a b n key dr th hX hY hR hO sx sy dk dv)), (hX, .inl (cX, 1100, .inl (fun j => ii ((tx j : Nat) : Int)))), (hY, .inl (cY, 1100, .inl (fun j => ii ((ty j : Nat) : Int)))), (hR, .inl (cR, 4, .inl (fun j => ii ((ix j : Nat) : Int))))] sz = A at hD hAz hA ⊢
  have hS : va_S A S0.heap S0.heap [] := va_S.rf
  have nbr := nrF_b r
  have n0r := nrF_0 (r := r)
  unfold okr at n0r
  generalize hV : rvF tx ix r = V
  unfold rvF at hV
  refine lv_aload_n C.1 C.2.1 dX2_x_0 rfl (lv_at hl 0 rfl) ?_
  refine lv_aload_n C.1 C.2.1 dX2_x_1 rfl (lv_at hl 0 rfl) ?_
  refine lv_iload_n C.1 C.2.1 dX2_x_2 rfl (lv_at hl 1 rfl) ?_
  refine ca_V (As := [.int (ii r)]) (rest := [.ref hm]) C (c_X2_noRegister l D hm r hr1) (pcw_preV0 [.int (ii r)] hN hP hK 0 (ci := 2) rfl rfl) aw_b_X2_noRegister aw_m_X2_81 aw_v_X2_noRegister aw_i_X2 aw_e_X2_noRegister ⟨rfl, rfl⟩ 1 (by decide +kernel) rfl ⟨by decide, by decide⟩ hl.1 rfl (Nat.le_of_ble_eq_true rfl) dX2_x_3 ⟨by decide, by decide⟩ ?_
  refine i_const C dX2_x_6 ?_
  refine i_const C dX2_x_7 ?_
  have hFc := va_free (wc := [(hm, .inr (2, MO p a b n key dr th hX hY hR hO sx sy dk dv))]) hD hS hA [0] rfl
  refine cn_V (As := [.int (ii (nrF r)), .int (ii 0), .int (ii 0)]) (rest := []) C (c_X2_good l D z0 _ hm p a b n key dr th hX hY hR hO sx sy dk dv (nrF r) 0 0 nbr (by omega) (by omega)) (pcm_preV _ hN (Zs.on hZ hS hAz) (by have := hS.1; omega) (hP.sub (ws' := [(hm, .inr (2, MO p a b n key dr th hX hY hR hO sx sy dk dv))]) [0] rfl) (hK.sub (tys' := []) [] rfl) ((hD.sub (ws' := [(hm, .inr (2, MO p a b n key dr th hX hY hR hO sx sy dk dv))]) [0] (by decide) rfl).weaken (fun _ _ _ h => hAz _ h)) 0 (ci := 2) rfl rfl) hS hFc aw_b_X2_good aw_m_X2_58 aw_v_X2_good aw_i_X2 aw_e_X2_good ⟨rfl, rfl⟩ 3 (by decide +kernel) rfl ⟨by decide, by decide⟩ hl.1 rfl (Nat.le_of_ble_eq_true rfl) dX2_x_8 ⟨by decide, by decide⟩ (fun t H1 locs1 ht hvm _ hB jz1 jk1 hS => ?_)
  obtain ⟨hP1, hK1, hD1⟩ := hB
  rw [ht] at hP1
  obtain ⟨hP, hD⟩ := va_join (wr := [(hX, .inl (cX, 1100, .inl (fun j => ii ((tx j : Nat) : Int)))), (hY, .inl (cY, 1100, .inl (fun j => ii ((ty j : Nat) : Int)))), (hR, .inl (cR, 4, .inl (fun j => ii ((ix j : Nat) : Int))))]) (w1 := [(hm, .inr (2, MO p a b n key dr (gdF (nrF r) 0 0) hX hY hR hO sx sy dk dv))]) hP hD [0] [1, 2, 3] rfl rfl (by decide) (by decide) jk1 hFc hP1 hD1
  have hP := hP.sub (ws' := [(hm, .inr (2, MO p a b n key dr (gdF (nrF r) 0 0) hX hY hR hO sx sy dk dv)), (hX, .inl (cX, 1100, .inl (fun j => ii ((tx j : Nat) : Int)))), (hY, .inl (cY, 1100, .inl (fun j => ii ((ty j : Nat) : Int)))), (hR, .inl (cR, 4, .inl (fun j => ii ((ix j : Nat) : Int))))]) [3, 0, 1, 2] rfl
  have hD := hD.sub (ws' := [(hm, .inr (2, MO p a b n key dr (gdF (nrF r) 0 0) hX hY hR hO sx sy dk dv)), (hX, .inl (cX, 1100, .inl (fun j => ii ((tx j : Nat) : Int)))), (hY, .inl (cY, 1100, .inl (fun j => ii ((ty j : Nat) : Int)))), (hR, .inl (cR, 4, .inl (fun j => ii ((ix j : Nat) : Int))))]) [3, 0, 1, 2] (by decide) rfl
  have gb := goF_b (gdF (nrF r) 0 0)
  have g0 := goF_0 (k := gdF (nrF r) 0 0)
  have gz := gdF_0 (k1 := nrF r) (k2 := 0) (k3 := 0)
  refine i_if_ne (tgt := 16) C dX2_x_11 (by decide) ⟨by omega, by omega⟩ (fun h2 => ?_) (fun h2 => ?_)
  · have e := gz.mp (Classical.byContradiction fun z => h2 (g0.mpr z))
    rw [if_pos e.1] at hV
    have b1 := hI r.toNat
    refine lv_aload_n C.1 C.2.1 dX2_x_16 rfl (lv_at hl 0 rfl) ?_
    refine gf C hK hP 0 rfl rfl aw_uX2 9 (by decide) aw_f_X2_16 rfl dX2_x_17 ?_
    refine lv_iload_n C.1 C.2.1 dX2_x_20 rfl (lv_at hl 1 rfl) ?_
    refine i_ald C hK hP 3 2 rfl rfl r.toNat (by omega) (by omega) (by omega) dX2_x_21 ?_
    refine i_if_ne (tgt := 29) C dX2_x_22 (by decide) ⟨by omega, by omega⟩ (fun h3 => ?_) (fun h3 => ?_)
    · rw [if_neg (show ¬ ix r.toNat = 0 by omega)] at hV
      refine lv_aload_n C.1 C.2.1 dX2_x_29 rfl (lv_at hl 0 rfl) ?_
      refine gf C hK hP 0 rfl rfl aw_uX2 7 (by decide) aw_f_X2_7 rfl dX2_x_30 ?_
      refine lv_aload_n C.1 C.2.1 dX2_x_33 rfl (lv_at hl 0 rfl) ?_
      refine gf C hK hP 0 rfl rfl aw_uX2 9 (by decide) aw_f_X2_16 rfl dX2_x_34 ?_
      refine lv_iload_n C.1 C.2.1 dX2_x_37 rfl (lv_at hl 1 rfl) ?_
      refine i_ald C hK hP 3 2 rfl rfl r.toNat (by omega) (by omega) (by omega) dX2_x_38 ?_
      refine i_ald C hK hP 1 0 rfl rfl (ix r.toNat) (by omega) (by omega) (by omega) dX2_x_39 ?_
      exact pz_i C hr hk hS trivial (fun t ht hvm => ⟨by rw [ht]; exact hP, va_K.moved hvm hK, hD⟩) dX2_x_40 (by subst hV; rfl) (by decide) (by decide)
    · rw [if_pos (show ix r.toNat = 0 by omega)] at hV
      refine i_const C dX2_x_25 ?_
      refine lv_goto (tgt := 40) C.1 C.2.1 dX2_x_26 (by decide) ?_
      exact pz_i C hr hk hS trivial (fun t ht hvm => ⟨by rw [ht]; exact hP, va_K.moved hvm hK, hD⟩) dX2_x_40 (by subst hV; rfl) (by decide) (by decide)
  · rw [if_neg (show ¬ nrF r = 0 by intro z; have := gz.mpr ⟨z, rfl, rfl⟩; omega)] at hV
    refine i_const C dX2_x_14 ?_
    exact pz_i C hr hk hS trivial (fun t ht hvm => ⟨by rw [ht]; exact hP, va_K.moved hvm hK, hD⟩) dX2_x_15 (by subst hV; rfl) (by decide) (by decide)
set_option maxRecDepth 100000 in
set_option maxHeartbeats 4000000 in
theorem c_X2_y (l : Launch) (D : va_G) (z0 sz : Nat) (hm : Nat) (p a b : Int) (n : Nat) (key dr th : Int) (hX hY hR hO : Nat) (sx sy dk dv : Int32) (cX cY cR : ClassId) (tx ty ix : Nat → Nat) (hT : ∀ j, tx j ≤ 1020 ∧ ty j ≤ 1020) (hI : ∀ j, ix j ≤ 1099) (hn : n ≤ 1100) (r : Int) (hr1 : rg r) : Met l yX2_y (Cond.code yX2_y cX2_y 2 (some .int) :: AW) ({ frames := 1, cells := 0, slots := 0, locals := 24 } : Room) (PcM D z0 sz [(hm, .inr (2, MO p a b n key dr th hX hY hR hO sx sy dk dv)), (hX, .inl (cX, 1100, .inl (fun j => ii ((tx j : Nat) : Int)))), (hY, .inl (cY, 1100, .inl (fun j => ii ((ty j : Nat) : Int)))), (hR, .inl (cR, 4, .inl (fun j => ii ((ix j : Nat) : Int))))] [(cX, .int), (cY, .int), (cR, .int)] [.ref hm, .int (ii r)]) (QcM (some (.int (ii (rvF ty ix r)))) True (Wd D [(hm, .inr (2, MO p a b n key dr (gdF (nrF r) 0 0) hX hY hR hO sx sy dk dv)), (hX, .inl (cX, 1100, .inl (fun j => ii ((tx j : Nat) : Int)))), (hY, .inl (cY, 1100, .inl (fun j => ii ((ty j : Nat) : Int)))), (hR, .inl (cR, 4, .inl (fun j => ii ((ix j : Nat) : Int))))] [(cX, .int), (cY, .int), (cR, .int)] (va_A [(hm, .inr (2, MO p a b n key dr th hX hY hR hO sx sy dk dv)), (hX, .inl (cX, 1100, .inl (fun j => ii ((tx j : Nat) : Int)))), (hY, .inl (cY, 1100, .inl (fun j => ii ((ty j : Nat) : Int)))), (hR, .inl (cR, 4, .inl (fun j => ii ((ix j : Nat) : Int))))] sz)) (va_A [(hm, .inr (2, MO p a b n key dr th hX hY hR hO sx sy dk dv)), (hX, .inl (cX, 1100, .inl (fun j => ii ((tx j : Nat) : Int)))), (hY, .inl (cY, 1100, .inl (fun j => ii ((ty j : Nat) : Int)))), (hR, .inl (cR, 4, .inl (fun j => ii ((ix j : Nat) : Int))))] sz)) 0 0 (va_A [(hm, .inr (2, MO p a b n key dr th hX hY hR hO sx sy dk dv)), (hX, .inl (cX, 1100, .inl (fun j => ii ((tx j : Nat) : Int)))), (hY, .inl (cY, 1100, .inl (fun j => ii ((ty j : Nat) : Int)))), (hR, .inl (cR, 4, .inl (fun j => ii ((ix j : Nat) : Int))))] sz) := by
  refine mt_N (by decide +kernel) (Nat.le_of_ble_eq_true rfl) ?_
  intro P0 E0 S0 M0 A0 B0 T0 K0 C hN hZ hsz hz hP hK hD hAz hA hr hk hin ls hl
  have hl : lv_has ls 2 [(0, .ref hm), (1, .int (ii r))] := hl
  generalize hAe : va_A [(hm, .inr (2, MO p a b n key dr th hX hY hR hO sx sy dk dv)), (hX, .inl (cX, 1100, .inl (fun j => ii ((tx j : Nat) : Int)))), (hY, .inl (cY, 1100, .inl (fun j => ii ((ty j : Nat) : Int)))), (hR, .inl (cR, 4, .inl (fun j => ii ((ix j : Nat) : Int))))] sz = A at hD hAz hA ⊢
  have hS : va_S A S0.heap S0.heap [] := va_S.rf
  have nbr := nrF_b r
  have n0r := nrF_0 (r := r)
  unfold okr at n0r
  generalize hV : rvF ty ix r = V
  unfold rvF at hV
  refine lv_aload_n C.1 C.2.1 dX2_y_0 rfl (lv_at hl 0 rfl) ?_
  refine lv_aload_n C.1 C.2.1 dX2_y_1 rfl (lv_at hl 0 rfl) ?_
  refine lv_iload_n C.1 C.2.1 dX2_y_2 rfl (lv_at hl 1 rfl) ?_
  refine ca_V (As := [.int (ii r)]) (rest := [.ref hm]) C (c_X2_noRegister l D hm r hr1) (pcw_preV0 [.int (ii r)] hN hP hK 0 (ci := 2) rfl rfl) aw_b_X2_noRegister aw_m_X2_81 aw_v_X2_noRegister aw_i_X2 aw_e_X2_noRegister ⟨rfl, rfl⟩ 1 (by decide +kernel) rfl ⟨by decide, by decide⟩ hl.1 rfl (Nat.le_of_ble_eq_true rfl) dX2_y_3 ⟨by decide, by decide⟩ ?_
  refine i_const C dX2_y_6 ?_
  refine i_const C dX2_y_7 ?_
  have hFc := va_free (wc := [(hm, .inr (2, MO p a b n key dr th hX hY hR hO sx sy dk dv))]) hD hS hA [0] rfl
  refine cn_V (As := [.int (ii (nrF r)), .int (ii 0), .int (ii 0)]) (rest := []) C (c_X2_good l D z0 _ hm p a b n key dr th hX hY hR hO sx sy dk dv (nrF r) 0 0 nbr (by omega) (by omega)) (pcm_preV _ hN (Zs.on hZ hS hAz) (by have := hS.1; omega) (hP.sub (ws' := [(hm, .inr (2, MO p a b n key dr th hX hY hR hO sx sy dk dv))]) [0] rfl) (hK.sub (tys' := []) [] rfl) ((hD.sub (ws' := [(hm, .inr (2, MO p a b n key dr th hX hY hR hO sx sy dk dv))]) [0] (by decide) rfl).weaken (fun _ _ _ h => hAz _ h)) 0 (ci := 2) rfl rfl) hS hFc aw_b_X2_good aw_m_X2_58 aw_v_X2_good aw_i_X2 aw_e_X2_good ⟨rfl, rfl⟩ 3 (by decide +kernel) rfl ⟨by decide, by decide⟩ hl.1 rfl (Nat.le_of_ble_eq_true rfl) dX2_y_8 ⟨by decide, by decide⟩ (fun t H1 locs1 ht hvm _ hB jz1 jk1 hS => ?_)
  obtain ⟨hP1, hK1, hD1⟩ := hB
  rw [ht] at hP1
  obtain ⟨hP, hD⟩ := va_join (wr := [(hX, .inl (cX, 1100, .inl (fun j => ii ((tx j : Nat) : Int)))), (hY, .inl (cY, 1100, .inl (fun j => ii ((ty j : Nat) : Int)))), (hR, .inl (cR, 4, .inl (fun j => ii ((ix j : Nat) : Int))))]) (w1 := [(hm, .inr (2, MO p a b n key dr (gdF (nrF r) 0 0) hX hY hR hO sx sy dk dv))]) hP hD [0] [1, 2, 3] rfl rfl (by decide) (by decide) jk1 hFc hP1 hD1
  have hP := hP.sub (ws' := [(hm, .inr (2, MO p a b n key dr (gdF (nrF r) 0 0) hX hY hR hO sx sy dk dv)), (hX, .inl (cX, 1100, .inl (fun j => ii ((tx j : Nat) : Int)))), (hY, .inl (cY, 1100, .inl (fun j => ii ((ty j : Nat) : Int)))), (hR, .inl (cR, 4, .inl (fun j => ii ((ix j : Nat) : Int))))]) [3, 0, 1, 2] rfl
  have hD := hD.sub (ws' := [(hm, .inr (2, MO p a b n key dr (gdF (nrF r) 0 0) hX hY hR hO sx sy dk dv)), (hX, .inl (cX, 1100, .inl (fun j => ii ((tx j : Nat) : Int)))), (hY, .inl (cY, 1100, .inl (fun j => ii ((ty j : Nat) : Int)))), (hR, .inl (cR, 4, .inl (fun j => ii ((ix j : Nat) : Int))))]) [3, 0, 1, 2] (by decide) rfl
  have gb := goF_b (gdF (nrF r) 0 0)
  have g0 := goF_0 (k := gdF (nrF r) 0 0)
  have gz := gdF_0 (k1 := nrF r) (k2 := 0) (k3 := 0)
  refine i_if_ne (tgt := 16) C dX2_y_11 (by decide) ⟨by omega, by omega⟩ (fun h2 => ?_) (fun h2 => ?_)
  · have e := gz.mp (Classical.byContradiction fun z => h2 (g0.mpr z))
    rw [if_pos e.1] at hV
    have b1 := hI r.toNat
    refine lv_aload_n C.1 C.2.1 dX2_y_16 rfl (lv_at hl 0 rfl) ?_
    refine gf C hK hP 0 rfl rfl aw_uX2 9 (by decide) aw_f_X2_16 rfl dX2_y_17 ?_
    refine lv_iload_n C.1 C.2.1 dX2_y_20 rfl (lv_at hl 1 rfl) ?_
    refine i_ald C hK hP 3 2 rfl rfl r.toNat (by omega) (by omega) (by omega) dX2_y_21 ?_
    refine i_if_ne (tgt := 29) C dX2_y_22 (by decide) ⟨by omega, by omega⟩ (fun h3 => ?_) (fun h3 => ?_)
    · rw [if_neg (show ¬ ix r.toNat = 0 by omega)] at hV
      refine lv_aload_n C.1 C.2.1 dX2_y_29 rfl (lv_at hl 0 rfl) ?_
      refine gf C hK hP 0 rfl rfl aw_uX2 8 (by decide) aw_f_X2_13 rfl dX2_y_30 ?_
      refine lv_aload_n C.1 C.2.1 dX2_y_33 rfl (lv_at hl 0 rfl) ?_
      refine gf C hK hP 0 rfl rfl aw_uX2 9 (by decide) aw_f_X2_16 rfl dX2_y_34 ?_
      refine lv_iload_n C.1 C.2.1 dX2_y_37 rfl (lv_at hl 1 rfl) ?_
      refine i_ald C hK hP 3 2 rfl rfl r.toNat (by omega) (by omega) (by omega) dX2_y_38 ?_
      refine i_ald C hK hP 2 1 rfl rfl (ix r.toNat) (by omega) (by omega) (by omega) dX2_y_39 ?_
      exact pz_i C hr hk hS trivial (fun t ht hvm => ⟨by rw [ht]; exact hP, va_K.moved hvm hK, hD⟩) dX2_y_40 (by subst hV; rfl) (by decide) (by decide)
    · rw [if_pos (show ix r.toNat = 0 by omega)] at hV
      refine i_const C dX2_y_25 ?_
      refine lv_goto (tgt := 40) C.1 C.2.1 dX2_y_26 (by decide) ?_
      exact pz_i C hr hk hS trivial (fun t ht hvm => ⟨by rw [ht]; exact hP, va_K.moved hvm hK, hD⟩) dX2_y_40 (by subst hV; rfl) (by decide) (by decide)
  · rw [if_neg (show ¬ nrF r = 0 by intro z; have := gz.mpr ⟨z, rfl, rfl⟩; omega)] at hV
    refine i_const C dX2_y_14 ?_
    exact pz_i C hr hk hS trivial (fun t ht hvm => ⟨by rw [ht]; exact hP, va_K.moved hvm hK, hD⟩) dX2_y_15 (by subst hV; rfl) (by decide) (by decide)
def rcF (tx ty ix : Nat → Nat) (r k : Int) : Int := if nrF r = 0 then boF tx ty (ix r.toNat) k else 0
set_option maxRecDepth 100000 in
set_option maxHeartbeats 4000000 in
theorem c_X2_code (l : Launch) (D : va_G) (z0 sz : Nat) (hm : Nat) (p a b : Int) (n : Nat) (key dr th : Int) (hX hY hR hO : Nat) (sx sy dk dv : Int32) (cX cY cR : ClassId) (tx ty ix : Nat → Nat) (hT : ∀ j, tx j ≤ 1020 ∧ ty j ≤ 1020) (hI : ∀ j, ix j ≤ 1099) (hn : n ≤ 1100) (r k : Int) (hr1 : rg r) (hk1 : k = 0 ∨ k = 1) : Met l yX2_code (Cond.code yX2_code cX2_code 3 (some .long) :: AW) ({ frames := 1, cells := 0, slots := 0, locals := 24 } : Room) (PcM D z0 sz [(hm, .inr (2, MO p a b n key dr th hX hY hR hO sx sy dk dv)), (hX, .inl (cX, 1100, .inl (fun j => ii ((tx j : Nat) : Int)))), (hY, .inl (cY, 1100, .inl (fun j => ii ((ty j : Nat) : Int)))), (hR, .inl (cR, 4, .inl (fun j => ii ((ix j : Nat) : Int))))] [(cX, .int), (cY, .int), (cR, .int)] [.ref hm, .int (ii r), .int (ii k)]) (QcM (some (.long (li (rcF tx ty ix r k)))) True (Wd D [(hm, .inr (2, MO p a b n key dr (gdF (nrF r) 0 0) hX hY hR hO sx sy dk dv)), (hX, .inl (cX, 1100, .inl (fun j => ii ((tx j : Nat) : Int)))), (hY, .inl (cY, 1100, .inl (fun j => ii ((ty j : Nat) : Int)))), (hR, .inl (cR, 4, .inl (fun j => ii ((ix j : Nat) : Int))))] [(cX, .int), (cY, .int), (cR, .int)] (va_A [(hm, .inr (2, MO p a b n key dr th hX hY hR hO sx sy dk dv)), (hX, .inl (cX, 1100, .inl (fun j => ii ((tx j : Nat) : Int)))), (hY, .inl (cY, 1100, .inl (fun j => ii ((ty j : Nat) : Int)))), (hR, .inl (cR, 4, .inl (fun j => ii ((ix j : Nat) : Int))))] sz)) (va_A [(hm, .inr (2, MO p a b n key dr th hX hY hR hO sx sy dk dv)), (hX, .inl (cX, 1100, .inl (fun j => ii ((tx j : Nat) : Int)))), (hY, .inl (cY, 1100, .inl (fun j => ii ((ty j : Nat) : Int)))), (hR, .inl (cR, 4, .inl (fun j => ii ((ix j : Nat) : Int))))] sz)) 0 0 (va_A [(hm, .inr (2, MO p a b n key dr th hX hY hR hO sx sy dk dv)), (hX, .inl (cX, 1100, .inl (fun j => ii ((tx j : Nat) : Int)))), (hY, .inl (cY, 1100, .inl (fun j => ii ((ty j : Nat) : Int)))), (hR, .inl (cR, 4, .inl (fun j => ii ((ix j : Nat) : Int))))] sz) := by
  refine mt_N (by decide +kernel) (Nat.le_of_ble_eq_true rfl) ?_
  intro P0 E0 S0 M0 A0 B0 T0 K0 C hN hZ hsz hz hP hK hD hAz hA hr hk hin ls hl
  have hl : lv_has ls 3 [(0, .ref hm), (1, .int (ii r)), (2, .int (ii k))] := hl
  generalize hAe : va_A [(hm, .inr (2, MO p a b n key dr th hX hY hR hO sx sy dk dv)), (hX, .inl (cX, 1100, .inl (fun j => ii ((tx j : Nat) : Int)))), (hY, .inl (cY, 1100, .inl (fun j => ii ((ty j : Nat) : Int)))), (hR, .inl (cR, 4, .inl (fun j => ii ((ix j : Nat) : Int))))] sz = A at hD hAz hA ⊢
  have hS : va_S A S0.heap S0.heap [] := va_S.rf
  have nbr := nrF_b r
  have n0r := nrF_0 (r := r)
  unfold okr at n0r
  generalize hV : rcF tx ty ix r k = V
  unfold rcF at hV
  refine lv_aload_n C.1 C.2.1 dX2_code_0 rfl (lv_at hl 0 rfl) ?_
  refine lv_aload_n C.1 C.2.1 dX2_code_1 rfl (lv_at hl 0 rfl) ?_
  refine lv_iload_n C.1 C.2.1 dX2_code_2 rfl (lv_at hl 1 rfl) ?_
  refine ca_V (As := [.int (ii r)]) (rest := [.ref hm]) C (c_X2_noRegister l D hm r hr1) (pcw_preV0 [.int (ii r)] hN hP hK 0 (ci := 2) rfl rfl) aw_b_X2_noRegister aw_m_X2_81 aw_v_X2_noRegister aw_i_X2 aw_e_X2_noRegister ⟨rfl, rfl⟩ 1 (by decide +kernel) rfl ⟨by decide, by decide⟩ hl.1 rfl (Nat.le_of_ble_eq_true rfl) dX2_code_3 ⟨by decide, by decide⟩ ?_
  refine i_const C dX2_code_6 ?_
  refine i_const C dX2_code_7 ?_
  have hFc := va_free (wc := [(hm, .inr (2, MO p a b n key dr th hX hY hR hO sx sy dk dv))]) hD hS hA [0] rfl
  refine cn_V (As := [.int (ii (nrF r)), .int (ii 0), .int (ii 0)]) (rest := []) C (c_X2_good l D z0 _ hm p a b n key dr th hX hY hR hO sx sy dk dv (nrF r) 0 0 nbr (by omega) (by omega)) (pcm_preV _ hN (Zs.on hZ hS hAz) (by have := hS.1; omega) (hP.sub (ws' := [(hm, .inr (2, MO p a b n key dr th hX hY hR hO sx sy dk dv))]) [0] rfl) (hK.sub (tys' := []) [] rfl) ((hD.sub (ws' := [(hm, .inr (2, MO p a b n key dr th hX hY hR hO sx sy dk dv))]) [0] (by decide) rfl).weaken (fun _ _ _ h => hAz _ h)) 0 (ci := 2) rfl rfl) hS hFc aw_b_X2_good aw_m_X2_58 aw_v_X2_good aw_i_X2 aw_e_X2_good ⟨rfl, rfl⟩ 3 (by decide +kernel) rfl ⟨by decide, by decide⟩ hl.1 rfl (Nat.le_of_ble_eq_true rfl) dX2_code_8 ⟨by decide, by decide⟩ (fun t H1 locs1 ht hvm _ hB jz1 jk1 hS => ?_)
  obtain ⟨hP1, hK1, hD1⟩ := hB
  rw [ht] at hP1
  obtain ⟨hP, hD⟩ := va_join (wr := [(hX, .inl (cX, 1100, .inl (fun j => ii ((tx j : Nat) : Int)))), (hY, .inl (cY, 1100, .inl (fun j => ii ((ty j : Nat) : Int)))), (hR, .inl (cR, 4, .inl (fun j => ii ((ix j : Nat) : Int))))]) (w1 := [(hm, .inr (2, MO p a b n key dr (gdF (nrF r) 0 0) hX hY hR hO sx sy dk dv))]) hP hD [0] [1, 2, 3] rfl rfl (by decide) (by decide) jk1 hFc hP1 hD1
  have hP := hP.sub (ws' := [(hm, .inr (2, MO p a b n key dr (gdF (nrF r) 0 0) hX hY hR hO sx sy dk dv)), (hX, .inl (cX, 1100, .inl (fun j => ii ((tx j : Nat) : Int)))), (hY, .inl (cY, 1100, .inl (fun j => ii ((ty j : Nat) : Int)))), (hR, .inl (cR, 4, .inl (fun j => ii ((ix j : Nat) : Int))))]) [3, 0, 1, 2] rfl
  have hD := hD.sub (ws' := [(hm, .inr (2, MO p a b n key dr (gdF (nrF r) 0 0) hX hY hR hO sx sy dk dv)), (hX, .inl (cX, 1100, .inl (fun j => ii ((tx j : Nat) : Int)))), (hY, .inl (cY, 1100, .inl (fun j => ii ((ty j : Nat) : Int)))), (hR, .inl (cR, 4, .inl (fun j => ii ((ix j : Nat) : Int))))]) [3, 0, 1, 2] (by decide) rfl
  have gb := goF_b (gdF (nrF r) 0 0)
  have g0 := goF_0 (k := gdF (nrF r) 0 0)
  have gz := gdF_0 (k1 := nrF r) (k2 := 0) (k3 := 0)
  refine i_if_ne (tgt := 16) C dX2_code_11 (by decide) ⟨by omega, by omega⟩ (fun h2 => ?_) (fun h2 => ?_)
  · have e := gz.mp (Classical.byContradiction fun z => h2 (g0.mpr z))
    rw [if_pos e.1] at hV
    have b1 := hI r.toNat
    refine lv_aload_n C.1 C.2.1 dX2_code_16 rfl (lv_at hl 0 rfl) ?_
    refine lv_aload_n C.1 C.2.1 dX2_code_17 rfl (lv_at hl 0 rfl) ?_
    refine gf C hK hP 0 rfl rfl aw_uX2 9 (by decide) aw_f_X2_16 rfl dX2_code_18 ?_
    refine lv_iload_n C.1 C.2.1 dX2_code_21 rfl (lv_at hl 1 rfl) ?_
    refine i_ald C hK hP 3 2 rfl rfl r.toNat (by omega) (by omega) (by omega) dX2_code_22 ?_
    refine lv_iload_n C.1 C.2.1 dX2_code_23 rfl (lv_at hl 2 rfl) ?_
    refine ca_V (As := [.int (ii ((ix r.toNat : Nat) : Int)), .int (ii k)]) (rest := []) C (c_X2_bytesOf l D hm p a b n key dr (gdF (nrF r) 0 0) hX hY hR hO sx sy dk dv cX cY tx ty hT hn (ix r.toNat) (by omega) k hk1) (pcw_preV [.int (ii ((ix r.toNat : Nat) : Int)), .int (ii k)] hN (hP.sub (ws' := [(hm, .inr (2, MO p a b n key dr (gdF (nrF r) 0 0) hX hY hR hO sx sy dk dv)), (hX, .inl (cX, 1100, .inl (fun j => ii ((tx j : Nat) : Int)))), (hY, .inl (cY, 1100, .inl (fun j => ii ((ty j : Nat) : Int))))]) [0, 1, 2] rfl) (hK.sub (tys' := [(cX, .int), (cY, .int)]) [0, 1] rfl) 0 (ci := 2) rfl rfl) aw_b_X2_bytesOf aw_m_X2_94 aw_v_X2_bytesOf aw_i_X2 aw_e_X2_bytesOf ⟨rfl, rfl⟩ 2 (by decide +kernel) rfl ⟨by decide, by decide⟩ hl.1 rfl (Nat.le_of_ble_eq_true rfl) dX2_code_24 ⟨by decide, by decide⟩ ?_
    exact pz_l C hr hk hS trivial (fun t ht hvm => ⟨by rw [ht]; exact hP, va_K.moved hvm hK, hD⟩) dX2_code_27 (by subst hV; rfl) (by decide) (by decide)
  · rw [if_neg (show ¬ nrF r = 0 by intro z; have := gz.mpr ⟨z, rfl, rfl⟩; omega)] at hV
    refine l_const0 C dX2_code_14 ?_
    exact pz_l C hr hk hS trivial (fun t ht hvm => ⟨by rw [ht]; exact hP, va_K.moved hvm hK, hD⟩) dX2_code_15 (by subst hV; rfl) (by decide) (by decide)
def veF (tx ix : Nat → Nat) (n : Nat) (q z r s : Int) : Int := if gdF (zb n) (nrF q) 0 = 0 then mfF tx n ((ix q.toNat : Nat) : Int) z r s else 0
set_option maxRecDepth 100000 in
set_option maxHeartbeats 4000000 in
theorem c_X2_verify (l : Launch) (D : va_G) (z0 sz : Nat) (hm : Nat) (p a b : Int) (n : Nat) (key dr th : Int) (hX hY hR hO : Nat) (sx sy dk dv : Int32) (cX cY cR : ClassId) (tx ty ix : Nat → Nat) (hT : ∀ j, tx j ≤ 1020 ∧ ty j ≤ 1020) (hI : ∀ j, ix j ≤ 1099) (hn : n ≤ 1100) (q z r s : Int) (hq1 : rg q) (hz1 : rl z) (hr1 : rg r) (hs1 : rg s) : Met l yX2_verify (Cond.code yX2_verify cX2_verify 6 (some .boolean) :: AW) ({ frames := 2, cells := 0, slots := 0, locals := 62 } : Room) (PcM D z0 sz [(hm, .inr (2, MO p a b n key dr th hX hY hR hO sx sy dk dv)), (hX, .inl (cX, 1100, .inl (fun j => ii ((tx j : Nat) : Int)))), (hY, .inl (cY, 1100, .inl (fun j => ii ((ty j : Nat) : Int)))), (hR, .inl (cR, 4, .inl (fun j => ii ((ix j : Nat) : Int))))] [(cX, .int), (cY, .int), (cR, .int)] [.ref hm, .int (ii q), .long (li z), .int (ii r), .int (ii s)]) (QcM (some (.int (ii (veF tx ix n q z r s)))) True (Wd D [(hm, .inr (2, MO p a b n key dr (gdF (zb n) (nrF q) 0) hX hY hR hO sx sy dk dv)), (hX, .inl (cX, 1100, .inl (fun j => ii ((tx j : Nat) : Int)))), (hY, .inl (cY, 1100, .inl (fun j => ii ((ty j : Nat) : Int)))), (hR, .inl (cR, 4, .inl (fun j => ii ((ix j : Nat) : Int))))] [(cX, .int), (cY, .int), (cR, .int)] (va_A [(hm, .inr (2, MO p a b n key dr th hX hY hR hO sx sy dk dv)), (hX, .inl (cX, 1100, .inl (fun j => ii ((tx j : Nat) : Int)))), (hY, .inl (cY, 1100, .inl (fun j => ii ((ty j : Nat) : Int)))), (hR, .inl (cR, 4, .inl (fun j => ii ((ix j : Nat) : Int))))] sz)) (va_A [(hm, .inr (2, MO p a b n key dr th hX hY hR hO sx sy dk dv)), (hX, .inl (cX, 1100, .inl (fun j => ii ((tx j : Nat) : Int)))), (hY, .inl (cY, 1100, .inl (fun j => ii ((ty j : Nat) : Int)))), (hR, .inl (cR, 4, .inl (fun j => ii ((ix j : Nat) : Int))))] sz)) 0 0 (va_A [(hm, .inr (2, MO p a b n key dr th hX hY hR hO sx sy dk dv)), (hX, .inl (cX, 1100, .inl (fun j => ii ((tx j : Nat) : Int)))), (hY, .inl (cY, 1100, .inl (fun j => ii ((ty j : Nat) : Int)))), (hR, .inl (cR, 4, .inl (fun j => ii ((ix j : Nat) : Int))))] sz) := by
  refine mt_N (by decide +kernel) (Nat.le_of_ble_eq_true rfl) ?_
  intro P0 E0 S0 M0 A0 B0 T0 K0 C hN hZ hsz hz hP hK hD hAz hA hr hk hin ls hl
  have hl : lv_has ls 6 [(0, .ref hm), (1, .int (ii q)), (2, .long (li z)), (4, .int (ii r)), (5, .int (ii s))] := hl
  generalize hAe : va_A [(hm, .inr (2, MO p a b n key dr th hX hY hR hO sx sy dk dv)), (hX, .inl (cX, 1100, .inl (fun j => ii ((tx j : Nat) : Int)))), (hY, .inl (cY, 1100, .inl (fun j => ii ((ty j : Nat) : Int)))), (hR, .inl (cR, 4, .inl (fun j => ii ((ix j : Nat) : Int))))] sz = A at hD hAz hA ⊢
  have hS : va_S A S0.heap S0.heap [] := va_S.rf
  have nbq := nrF_b q
  have n0q := nrF_0 (r := q)
  unfold okr at n0q
  generalize hV : veF tx ix n q z r s = V
  unfold veF at hV
  refine lv_aload_n C.1 C.2.1 dX2_verify_0 rfl (lv_at hl 0 rfl) ?_
  refine lv_aload_n C.1 C.2.1 dX2_verify_1 rfl (lv_at hl 0 rfl) ?_
  refine gf C hK hP 0 rfl rfl aw_uX2 3 (by decide) aw_f_X2_65 rfl dX2_verify_2 ?_
  refine i_if_ne (tgt := 12) C dX2_verify_5 (by decide) ⟨by omega, by omega⟩ (fun h1 => ?_) (fun h1 => ?_)
  · have zn : zb n = 0 := if_neg (by omega)
    rw [zn]
    rw [zn] at hV
    refine i_const C dX2_verify_12 ?_
    refine lv_aload_n C.1 C.2.1 dX2_verify_13 rfl (lv_at hl 0 rfl) ?_
    refine lv_iload_n C.1 C.2.1 dX2_verify_14 rfl (lv_at hl 1 rfl) ?_
    refine ca_V (As := [.int (ii q)]) (rest := [.int (ii 0), .ref hm]) C (c_X2_noRegister l D hm q hq1) (pcw_preV0 [.int (ii q)] hN hP hK 0 (ci := 2) rfl rfl) aw_b_X2_noRegister aw_m_X2_81 aw_v_X2_noRegister aw_i_X2 aw_e_X2_noRegister ⟨rfl, rfl⟩ 1 (by decide +kernel) rfl ⟨by decide, by decide⟩ hl.1 rfl (Nat.le_of_ble_eq_true rfl) dX2_verify_15 ⟨by decide, by decide⟩ ?_
    refine i_const C dX2_verify_18 ?_
    have hFc := va_free (wc := [(hm, .inr (2, MO p a b n key dr th hX hY hR hO sx sy dk dv))]) hD hS hA [0] rfl
    refine cn_V (As := [.int (ii 0), .int (ii (nrF q)), .int (ii 0)]) (rest := []) C (c_X2_good l D z0 _ hm p a b n key dr th hX hY hR hO sx sy dk dv 0 (nrF q) 0 (by omega) nbq (by omega)) (pcm_preV _ hN (Zs.on hZ hS hAz) (by have := hS.1; omega) (hP.sub (ws' := [(hm, .inr (2, MO p a b n key dr th hX hY hR hO sx sy dk dv))]) [0] rfl) (hK.sub (tys' := []) [] rfl) ((hD.sub (ws' := [(hm, .inr (2, MO p a b n key dr th hX hY hR hO sx sy dk dv))]) [0] (by decide) rfl).weaken (fun _ _ _ h => hAz _ h)) 0 (ci := 2) rfl rfl) hS hFc aw_b_X2_good aw_m_X2_58 aw_v_X2_good aw_i_X2 aw_e_X2_good ⟨rfl, rfl⟩ 3 (by decide +kernel) rfl ⟨by decide, by decide⟩ hl.1 rfl (Nat.le_of_ble_eq_true rfl) dX2_verify_19 ⟨by decide, by decide⟩ (fun t H1 locs1 ht hvm _ hB jz1 jk1 hS => ?_)
    obtain ⟨hP1, hK1, hD1⟩ := hB
    rw [ht] at hP1
    obtain ⟨hP, hD⟩ := va_join (wr := [(hX, .inl (cX, 1100, .inl (fun j => ii ((tx j : Nat) : Int)))), (hY, .inl (cY, 1100, .inl (fun j => ii ((ty j : Nat) : Int)))), (hR, .inl (cR, 4, .inl (fun j => ii ((ix j : Nat) : Int))))]) (w1 := [(hm, .inr (2, MO p a b n key dr (gdF 0 (nrF q) 0) hX hY hR hO sx sy dk dv))]) hP hD [0] [1, 2, 3] rfl rfl (by decide) (by decide) jk1 hFc hP1 hD1
    have hP := hP.sub (ws' := [(hm, .inr (2, MO p a b n key dr (gdF 0 (nrF q) 0) hX hY hR hO sx sy dk dv)), (hX, .inl (cX, 1100, .inl (fun j => ii ((tx j : Nat) : Int)))), (hY, .inl (cY, 1100, .inl (fun j => ii ((ty j : Nat) : Int)))), (hR, .inl (cR, 4, .inl (fun j => ii ((ix j : Nat) : Int))))]) [3, 0, 1, 2] rfl
    have hD := hD.sub (ws' := [(hm, .inr (2, MO p a b n key dr (gdF 0 (nrF q) 0) hX hY hR hO sx sy dk dv)), (hX, .inl (cX, 1100, .inl (fun j => ii ((tx j : Nat) : Int)))), (hY, .inl (cY, 1100, .inl (fun j => ii ((ty j : Nat) : Int)))), (hR, .inl (cR, 4, .inl (fun j => ii ((ix j : Nat) : Int))))]) [3, 0, 1, 2] (by decide) rfl
    have gb := goF_b (gdF 0 (nrF q) 0)
    have g0 := goF_0 (k := gdF 0 (nrF q) 0)
    have gz := gdF_0 (k1 := 0) (k2 := nrF q) (k3 := 0)
    refine i_if_eq (tgt := 47) C dX2_verify_22 (by decide) ⟨by omega, by omega⟩ (fun h2 => ?_) (fun h2 => ?_)
    · rw [if_neg (show ¬ gdF 0 (nrF q) 0 = 0 from g0.mp h2)] at hV
      refine i_const C dX2_verify_47 ?_
      exact pz_z C hr hk hS trivial (fun t ht hvm => ⟨by rw [ht]; exact hP, va_K.moved hvm hK, hD⟩) dX2_verify_48 (Or.inl rfl) (by subst hV; rfl) (by decide) (by decide)
    · have e : gdF 0 (nrF q) 0 = 0 := Classical.byContradiction fun z => h2 (g0.mpr z)
      have ez := gz.mp e
      rw [if_pos e] at hV
      have b1 := hI q.toNat
      have mb := mfF_b tx n ((ix q.toNat : Nat) : Int) z r s
      refine lv_aload_n C.1 C.2.1 dX2_verify_25 rfl (lv_at hl 0 rfl) ?_
      refine lv_aload_n C.1 C.2.1 dX2_verify_26 rfl (lv_at hl 0 rfl) ?_
      refine gf C hK hP 0 rfl rfl aw_uX2 9 (by decide) aw_f_X2_16 rfl dX2_verify_27 ?_
      refine lv_iload_n C.1 C.2.1 dX2_verify_30 rfl (lv_at hl 1 rfl) ?_
      refine i_ald C hK hP 3 2 rfl rfl q.toNat (by omega) (by omega) (by omega) dX2_verify_31 ?_
      refine lv_lload_n C.1 C.2.1 dX2_verify_32 rfl (lv_at hl 2 rfl) ?_
      refine lv_iload C.1 C.2.1 dX2_verify_33 (lv_at hl 3 rfl) ?_
      refine lv_iload C.1 C.2.1 dX2_verify_35 (lv_at hl 4 rfl) ?_
      refine ca_V (As := [.int (ii ((ix q.toNat : Nat) : Int)), .long (li z), .int (ii r), .int (ii s)]) (rest := []) C (c_X2_fits l D hm p a b n key dr (gdF 0 (nrF q) 0) hX hY hR hO sx sy dk dv cX cY tx ty hT hn ((ix q.toNat : Nat) : Int) z r s (by omega) hz1 hr1 hs1) (pcw_preV [.int (ii ((ix q.toNat : Nat) : Int)), .long (li z), .int (ii r), .int (ii s)] hN (hP.sub (ws' := [(hm, .inr (2, MO p a b n key dr (gdF 0 (nrF q) 0) hX hY hR hO sx sy dk dv)), (hX, .inl (cX, 1100, .inl (fun j => ii ((tx j : Nat) : Int)))), (hY, .inl (cY, 1100, .inl (fun j => ii ((ty j : Nat) : Int))))]) [0, 1, 2] rfl) (hK.sub (tys' := [(cX, .int), (cY, .int)]) [0, 1] rfl) 0 (ci := 2) rfl rfl) aw_b_X2_fits aw_m_X2_119 aw_v_X2_fits aw_i_X2 aw_e_X2_fits ⟨rfl, rfl⟩ 4 (by decide +kernel) rfl ⟨by decide, by decide⟩ hl.1 rfl (Nat.le_of_ble_eq_true rfl) dX2_verify_37 ⟨by decide, by decide⟩ ?_
      generalize mfF tx n ((ix q.toNat : Nat) : Int) z r s = V0 at mb hV ⊢
      refine i_if_eq (tgt := 47) C dX2_verify_40 (by decide) ⟨by omega, by omega⟩ (fun h6 => ?_) (fun h6 => ?_)
      · refine i_const C dX2_verify_47 ?_
        exact pz_z C hr hk hS trivial (fun t ht hvm => ⟨by rw [ht]; exact hP, va_K.moved hvm hK, hD⟩) dX2_verify_48 (Or.inl rfl) (by subst hV; rw [h6]) (by decide) (by decide)
      · refine i_const C dX2_verify_43 ?_
        refine lv_goto (tgt := 48) C.1 C.2.1 dX2_verify_44 (by decide) ?_
        exact pz_z C hr hk hS trivial (fun t ht hvm => ⟨by rw [ht]; exact hP, va_K.moved hvm hK, hD⟩) dX2_verify_48 (Or.inr rfl) (by subst hV; rw [mb.resolve_left h6]) (by decide) (by decide)
  · have zn : zb n = 1 := if_pos (by omega)
    rw [zn]
    rw [zn] at hV
    refine i_const C dX2_verify_8 ?_
    refine lv_goto (tgt := 13) C.1 C.2.1 dX2_verify_9 (by decide) ?_
    refine lv_aload_n C.1 C.2.1 dX2_verify_13 rfl (lv_at hl 0 rfl) ?_
    refine lv_iload_n C.1 C.2.1 dX2_verify_14 rfl (lv_at hl 1 rfl) ?_
    refine ca_V (As := [.int (ii q)]) (rest := [.int (ii 1), .ref hm]) C (c_X2_noRegister l D hm q hq1) (pcw_preV0 [.int (ii q)] hN hP hK 0 (ci := 2) rfl rfl) aw_b_X2_noRegister aw_m_X2_81 aw_v_X2_noRegister aw_i_X2 aw_e_X2_noRegister ⟨rfl, rfl⟩ 1 (by decide +kernel) rfl ⟨by decide, by decide⟩ hl.1 rfl (Nat.le_of_ble_eq_true rfl) dX2_verify_15 ⟨by decide, by decide⟩ ?_
    refine i_const C dX2_verify_18 ?_
    have hFc := va_free (wc := [(hm, .inr (2, MO p a b n key dr th hX hY hR hO sx sy dk dv))]) hD hS hA [0] rfl
    refine cn_V (As := [.int (ii 1), .int (ii (nrF q)), .int (ii 0)]) (rest := []) C (c_X2_good l D z0 _ hm p a b n key dr th hX hY hR hO sx sy dk dv 1 (nrF q) 0 (by omega) nbq (by omega)) (pcm_preV _ hN (Zs.on hZ hS hAz) (by have := hS.1; omega) (hP.sub (ws' := [(hm, .inr (2, MO p a b n key dr th hX hY hR hO sx sy dk dv))]) [0] rfl) (hK.sub (tys' := []) [] rfl) ((hD.sub (ws' := [(hm, .inr (2, MO p a b n key dr th hX hY hR hO sx sy dk dv))]) [0] (by decide) rfl).weaken (fun _ _ _ h => hAz _ h)) 0 (ci := 2) rfl rfl) hS hFc aw_b_X2_good aw_m_X2_58 aw_v_X2_good aw_i_X2 aw_e_X2_good ⟨rfl, rfl⟩ 3 (by decide +kernel) rfl ⟨by decide, by decide⟩ hl.1 rfl (Nat.le_of_ble_eq_true rfl) dX2_verify_19 ⟨by decide, by decide⟩ (fun t H1 locs1 ht hvm _ hB jz1 jk1 hS => ?_)
    obtain ⟨hP1, hK1, hD1⟩ := hB
    rw [ht] at hP1
    obtain ⟨hP, hD⟩ := va_join (wr := [(hX, .inl (cX, 1100, .inl (fun j => ii ((tx j : Nat) : Int)))), (hY, .inl (cY, 1100, .inl (fun j => ii ((ty j : Nat) : Int)))), (hR, .inl (cR, 4, .inl (fun j => ii ((ix j : Nat) : Int))))]) (w1 := [(hm, .inr (2, MO p a b n key dr (gdF 1 (nrF q) 0) hX hY hR hO sx sy dk dv))]) hP hD [0] [1, 2, 3] rfl rfl (by decide) (by decide) jk1 hFc hP1 hD1
    have hP := hP.sub (ws' := [(hm, .inr (2, MO p a b n key dr (gdF 1 (nrF q) 0) hX hY hR hO sx sy dk dv)), (hX, .inl (cX, 1100, .inl (fun j => ii ((tx j : Nat) : Int)))), (hY, .inl (cY, 1100, .inl (fun j => ii ((ty j : Nat) : Int)))), (hR, .inl (cR, 4, .inl (fun j => ii ((ix j : Nat) : Int))))]) [3, 0, 1, 2] rfl
    have hD := hD.sub (ws' := [(hm, .inr (2, MO p a b n key dr (gdF 1 (nrF q) 0) hX hY hR hO sx sy dk dv)), (hX, .inl (cX, 1100, .inl (fun j => ii ((tx j : Nat) : Int)))), (hY, .inl (cY, 1100, .inl (fun j => ii ((ty j : Nat) : Int)))), (hR, .inl (cR, 4, .inl (fun j => ii ((ix j : Nat) : Int))))]) [3, 0, 1, 2] (by decide) rfl
    have gb := goF_b (gdF 1 (nrF q) 0)
    have g0 := goF_0 (k := gdF 1 (nrF q) 0)
    have gz := gdF_0 (k1 := 1) (k2 := nrF q) (k3 := 0)
    refine i_if_eq (tgt := 47) C dX2_verify_22 (by decide) ⟨by omega, by omega⟩ (fun h2 => ?_) (fun h2 => ?_)
    · rw [if_neg (show ¬ gdF 1 (nrF q) 0 = 0 from g0.mp h2)] at hV
      refine i_const C dX2_verify_47 ?_
      exact pz_z C hr hk hS trivial (fun t ht hvm => ⟨by rw [ht]; exact hP, va_K.moved hvm hK, hD⟩) dX2_verify_48 (Or.inl rfl) (by subst hV; rfl) (by decide) (by decide)
    · have e : gdF 1 (nrF q) 0 = 0 := Classical.byContradiction fun z => h2 (g0.mpr z)
      have ez := gz.mp e
      rw [if_pos e] at hV
      have b1 := hI q.toNat
      have mb := mfF_b tx n ((ix q.toNat : Nat) : Int) z r s
      refine lv_aload_n C.1 C.2.1 dX2_verify_25 rfl (lv_at hl 0 rfl) ?_
      refine lv_aload_n C.1 C.2.1 dX2_verify_26 rfl (lv_at hl 0 rfl) ?_
      refine gf C hK hP 0 rfl rfl aw_uX2 9 (by decide) aw_f_X2_16 rfl dX2_verify_27 ?_
      refine lv_iload_n C.1 C.2.1 dX2_verify_30 rfl (lv_at hl 1 rfl) ?_
      refine i_ald C hK hP 3 2 rfl rfl q.toNat (by omega) (by omega) (by omega) dX2_verify_31 ?_
      refine lv_lload_n C.1 C.2.1 dX2_verify_32 rfl (lv_at hl 2 rfl) ?_
      refine lv_iload C.1 C.2.1 dX2_verify_33 (lv_at hl 3 rfl) ?_
      refine lv_iload C.1 C.2.1 dX2_verify_35 (lv_at hl 4 rfl) ?_
      refine ca_V (As := [.int (ii ((ix q.toNat : Nat) : Int)), .long (li z), .int (ii r), .int (ii s)]) (rest := []) C (c_X2_fits l D hm p a b n key dr (gdF 1 (nrF q) 0) hX hY hR hO sx sy dk dv cX cY tx ty hT hn ((ix q.toNat : Nat) : Int) z r s (by omega) hz1 hr1 hs1) (pcw_preV [.int (ii ((ix q.toNat : Nat) : Int)), .long (li z), .int (ii r), .int (ii s)] hN (hP.sub (ws' := [(hm, .inr (2, MO p a b n key dr (gdF 1 (nrF q) 0) hX hY hR hO sx sy dk dv)), (hX, .inl (cX, 1100, .inl (fun j => ii ((tx j : Nat) : Int)))), (hY, .inl (cY, 1100, .inl (fun j => ii ((ty j : Nat) : Int))))]) [0, 1, 2] rfl) (hK.sub (tys' := [(cX, .int), (cY, .int)]) [0, 1] rfl) 0 (ci := 2) rfl rfl) aw_b_X2_fits aw_m_X2_119 aw_v_X2_fits aw_i_X2 aw_e_X2_fits ⟨rfl, rfl⟩ 4 (by decide +kernel) rfl ⟨by decide, by decide⟩ hl.1 rfl (Nat.le_of_ble_eq_true rfl) dX2_verify_37 ⟨by decide, by decide⟩ ?_
      generalize mfF tx n ((ix q.toNat : Nat) : Int) z r s = V0 at mb hV ⊢
      refine i_if_eq (tgt := 47) C dX2_verify_40 (by decide) ⟨by omega, by omega⟩ (fun h6 => ?_) (fun h6 => ?_)
      · refine i_const C dX2_verify_47 ?_
        exact pz_z C hr hk hS trivial (fun t ht hvm => ⟨by rw [ht]; exact hP, va_K.moved hvm hK, hD⟩) dX2_verify_48 (Or.inl rfl) (by subst hV; rw [h6]) (by decide) (by decide)
      · refine i_const C dX2_verify_43 ?_
        refine lv_goto (tgt := 48) C.1 C.2.1 dX2_verify_44 (by decide) ?_
        exact pz_z C hr hk hS trivial (fun t ht hvm => ⟨by rw [ht]; exact hP, va_K.moved hvm hK, hD⟩) dX2_verify_48 (Or.inr rfl) (by subst hV; rw [mb.resolve_left h6]) (by decide) (by decide)
def vaF (tx ty : Nat → Nat) (n : Nat) (k y z r s : Int) : Int := if gdF (zb n) 0 0 = 0 then mfF tx n (reF tx ty n k y) z r s else 0
set_option maxRecDepth 100000 in
set_option maxHeartbeats 4000000 in
theorem c_X2_accepts (l : Launch) (D : va_G) (z0 sz : Nat) (hm : Nat) (p a b : Int) (n : Nat) (key dr th : Int) (hX hY hR hO : Nat) (sx sy dk dv : Int32) (cX cY cR : ClassId) (tx ty ix : Nat → Nat) (hT : ∀ j, tx j ≤ 1020 ∧ ty j ≤ 1020) (hI : ∀ j, ix j ≤ 1099) (hn : n ≤ 1100) (k y z r s : Int) (hk1 : rg k) (hy1 : rl y) (hz1 : rl z) (hr1 : rg r) (hs1 : rg s) : Met l yX2_accepts (Cond.code yX2_accepts cX2_accepts 9 (some .boolean) :: AW) ({ frames := 2, cells := 0, slots := 0, locals := 62 } : Room) (PcM D z0 sz [(hm, .inr (2, MO p a b n key dr th hX hY hR hO sx sy dk dv)), (hX, .inl (cX, 1100, .inl (fun j => ii ((tx j : Nat) : Int)))), (hY, .inl (cY, 1100, .inl (fun j => ii ((ty j : Nat) : Int)))), (hR, .inl (cR, 4, .inl (fun j => ii ((ix j : Nat) : Int))))] [(cX, .int), (cY, .int), (cR, .int)] [.ref hm, .int (ii k), .long (li y), .long (li z), .int (ii r), .int (ii s)]) (QcM (some (.int (ii (vaF tx ty n k y z r s)))) True (Wd D [(hm, .inr (2, MO p a b n key dr (gdF (zb n) 0 0) hX hY hR hO sx sy dk dv)), (hX, .inl (cX, 1100, .inl (fun j => ii ((tx j : Nat) : Int)))), (hY, .inl (cY, 1100, .inl (fun j => ii ((ty j : Nat) : Int)))), (hR, .inl (cR, 4, .inl (fun j => ii ((ix j : Nat) : Int))))] [(cX, .int), (cY, .int), (cR, .int)] (va_A [(hm, .inr (2, MO p a b n key dr th hX hY hR hO sx sy dk dv)), (hX, .inl (cX, 1100, .inl (fun j => ii ((tx j : Nat) : Int)))), (hY, .inl (cY, 1100, .inl (fun j => ii ((ty j : Nat) : Int)))), (hR, .inl (cR, 4, .inl (fun j => ii ((ix j : Nat) : Int))))] sz)) (va_A [(hm, .inr (2, MO p a b n key dr th hX hY hR hO sx sy dk dv)), (hX, .inl (cX, 1100, .inl (fun j => ii ((tx j : Nat) : Int)))), (hY, .inl (cY, 1100, .inl (fun j => ii ((ty j : Nat) : Int)))), (hR, .inl (cR, 4, .inl (fun j => ii ((ix j : Nat) : Int))))] sz)) 0 0 (va_A [(hm, .inr (2, MO p a b n key dr th hX hY hR hO sx sy dk dv)), (hX, .inl (cX, 1100, .inl (fun j => ii ((tx j : Nat) : Int)))), (hY, .inl (cY, 1100, .inl (fun j => ii ((ty j : Nat) : Int)))), (hR, .inl (cR, 4, .inl (fun j => ii ((ix j : Nat) : Int))))] sz) := by
  refine mt_N (by decide +kernel) (Nat.le_of_ble_eq_true rfl) ?_
  intro P0 E0 S0 M0 A0 B0 T0 K0 C hN hZ hsz hz hP hK hD hAz hA hr hk hin ls hl
  have hl : lv_has ls 9 [(0, .ref hm), (1, .int (ii k)), (2, .long (li y)), (4, .long (li z)), (6, .int (ii r)), (7, .int (ii s))] := hl
  generalize hAe : va_A [(hm, .inr (2, MO p a b n key dr th hX hY hR hO sx sy dk dv)), (hX, .inl (cX, 1100, .inl (fun j => ii ((tx j : Nat) : Int)))), (hY, .inl (cY, 1100, .inl (fun j => ii ((ty j : Nat) : Int)))), (hR, .inl (cR, 4, .inl (fun j => ii ((ix j : Nat) : Int))))] sz = A at hD hAz hA ⊢
  have hS : va_S A S0.heap S0.heap [] := va_S.rf
  generalize hV : vaF tx ty n k y z r s = V
  unfold vaF at hV
  refine lv_aload_n C.1 C.2.1 dX2_accepts_0 rfl (lv_at hl 0 rfl) ?_
  refine lv_aload_n C.1 C.2.1 dX2_accepts_1 rfl (lv_at hl 0 rfl) ?_
  refine gf C hK hP 0 rfl rfl aw_uX2 3 (by decide) aw_f_X2_65 rfl dX2_accepts_2 ?_
  refine i_if_ne (tgt := 12) C dX2_accepts_5 (by decide) ⟨by omega, by omega⟩ (fun h1 => ?_) (fun h1 => ?_)
  · have zn : zb n = 0 := if_neg (by omega)
    rw [zn]
    rw [zn] at hV
    refine i_const C dX2_accepts_12 ?_
    refine i_const C dX2_accepts_13 ?_
    refine i_const C dX2_accepts_14 ?_
    have hFc := va_free (wc := [(hm, .inr (2, MO p a b n key dr th hX hY hR hO sx sy dk dv))]) hD hS hA [0] rfl
    refine cn_V (As := [.int (ii 0), .int (ii 0), .int (ii 0)]) (rest := []) C (c_X2_good l D z0 _ hm p a b n key dr th hX hY hR hO sx sy dk dv 0 0 0 (by omega) (by omega) (by omega)) (pcm_preV _ hN (Zs.on hZ hS hAz) (by have := hS.1; omega) (hP.sub (ws' := [(hm, .inr (2, MO p a b n key dr th hX hY hR hO sx sy dk dv))]) [0] rfl) (hK.sub (tys' := []) [] rfl) ((hD.sub (ws' := [(hm, .inr (2, MO p a b n key dr th hX hY hR hO sx sy dk dv))]) [0] (by decide) rfl).weaken (fun _ _ _ h => hAz _ h)) 0 (ci := 2) rfl rfl) hS hFc aw_b_X2_good aw_m_X2_58 aw_v_X2_good aw_i_X2 aw_e_X2_good ⟨rfl, rfl⟩ 3 (by decide +kernel) rfl ⟨by decide, by decide⟩ hl.1 rfl (Nat.le_of_ble_eq_true rfl) dX2_accepts_15 ⟨by decide, by decide⟩ (fun t H1 locs1 ht hvm _ hB jz1 jk1 hS => ?_)
    obtain ⟨hP1, hK1, hD1⟩ := hB
    rw [ht] at hP1
    obtain ⟨hP, hD⟩ := va_join (wr := [(hX, .inl (cX, 1100, .inl (fun j => ii ((tx j : Nat) : Int)))), (hY, .inl (cY, 1100, .inl (fun j => ii ((ty j : Nat) : Int)))), (hR, .inl (cR, 4, .inl (fun j => ii ((ix j : Nat) : Int))))]) (w1 := [(hm, .inr (2, MO p a b n key dr (gdF 0 0 0) hX hY hR hO sx sy dk dv))]) hP hD [0] [1, 2, 3] rfl rfl (by decide) (by decide) jk1 hFc hP1 hD1
    have hP := hP.sub (ws' := [(hm, .inr (2, MO p a b n key dr (gdF 0 0 0) hX hY hR hO sx sy dk dv)), (hX, .inl (cX, 1100, .inl (fun j => ii ((tx j : Nat) : Int)))), (hY, .inl (cY, 1100, .inl (fun j => ii ((ty j : Nat) : Int)))), (hR, .inl (cR, 4, .inl (fun j => ii ((ix j : Nat) : Int))))]) [3, 0, 1, 2] rfl
    have hD := hD.sub (ws' := [(hm, .inr (2, MO p a b n key dr (gdF 0 0 0) hX hY hR hO sx sy dk dv)), (hX, .inl (cX, 1100, .inl (fun j => ii ((tx j : Nat) : Int)))), (hY, .inl (cY, 1100, .inl (fun j => ii ((ty j : Nat) : Int)))), (hR, .inl (cR, 4, .inl (fun j => ii ((ix j : Nat) : Int))))]) [3, 0, 1, 2] (by decide) rfl
    have gb := goF_b (gdF 0 0 0)
    have g0 := goF_0 (k := gdF 0 0 0)
    have gz := gdF_0 (k1 := 0) (k2 := 0) (k3 := 0)
    refine i_if_ne (tgt := 23) C dX2_accepts_18 (by decide) ⟨by omega, by omega⟩ (fun h2 => ?_) (fun h2 => ?_)
    · have e : gdF 0 0 0 = 0 := Classical.byContradiction fun z => h2 (g0.mpr z)
      have ez := gz.mp e
      rw [if_pos e] at hV
      have mb := mfF_b tx n (reF tx ty n k y) z r s
      have rb := reF_b tx ty n hn k y
      refine lv_aload_n C.1 C.2.1 dX2_accepts_23 rfl (lv_at hl 0 rfl) ?_
      refine lv_iload_n C.1 C.2.1 dX2_accepts_24 rfl (lv_at hl 1 rfl) ?_
      refine lv_lload_n C.1 C.2.1 dX2_accepts_25 rfl (lv_at hl 2 rfl) ?_
      refine ca_V (As := [.int (ii k), .long (li y)]) (rest := []) C (c_X2_read l D hm p a b n key dr (gdF 0 0 0) hX hY hR hO sx sy dk dv cX cY tx ty hT hn k y hk1 hy1) (pcw_preV [.int (ii k), .long (li y)] hN (hP.sub (ws' := [(hm, .inr (2, MO p a b n key dr (gdF 0 0 0) hX hY hR hO sx sy dk dv)), (hX, .inl (cX, 1100, .inl (fun j => ii ((tx j : Nat) : Int)))), (hY, .inl (cY, 1100, .inl (fun j => ii ((ty j : Nat) : Int))))]) [0, 1, 2] rfl) (hK.sub (tys' := [(cX, .int), (cY, .int)]) [0, 1] rfl) 0 (ci := 2) rfl rfl) aw_b_X2_read aw_m_X2_98 aw_v_X2_read aw_i_X2 aw_e_X2_read ⟨rfl, rfl⟩ 2 (by decide +kernel) rfl ⟨by decide, by decide⟩ hl.1 rfl (Nat.le_of_ble_eq_true rfl) dX2_accepts_26 ⟨by decide, by decide⟩ ?_
      generalize reF tx ty n k y = u at mb rb hV ⊢
      refine lv_istore C.1 C.2.1 dX2_accepts_29 hl (by decide) rfl (fun ls hl => ?_)
      have hl : lv_has ls 9 [(8, .int (ii u)), (0, .ref hm), (1, .int (ii k)), (2, .long (li y)), (4, .long (li z)), (6, .int (ii r)), (7, .int (ii s))] := hl
      refine lv_aload_n C.1 C.2.1 dX2_accepts_31 rfl (lv_at hl 1 rfl) ?_
      refine lv_iload C.1 C.2.1 dX2_accepts_32 (lv_at hl 0 rfl) ?_
      refine lv_lload C.1 C.2.1 dX2_accepts_34 (lv_at hl 4 rfl) ?_
      refine lv_iload C.1 C.2.1 dX2_accepts_36 (lv_at hl 5 rfl) ?_
      refine lv_iload C.1 C.2.1 dX2_accepts_38 (lv_at hl 6 rfl) ?_
      refine ca_V (As := [.int (ii u), .long (li z), .int (ii r), .int (ii s)]) (rest := []) C (c_X2_fits l D hm p a b n key dr (gdF 0 0 0) hX hY hR hO sx sy dk dv cX cY tx ty hT hn u z r s (by omega) hz1 hr1 hs1) (pcw_preV [.int (ii u), .long (li z), .int (ii r), .int (ii s)] hN (hP.sub (ws' := [(hm, .inr (2, MO p a b n key dr (gdF 0 0 0) hX hY hR hO sx sy dk dv)), (hX, .inl (cX, 1100, .inl (fun j => ii ((tx j : Nat) : Int)))), (hY, .inl (cY, 1100, .inl (fun j => ii ((ty j : Nat) : Int))))]) [0, 1, 2] rfl) (hK.sub (tys' := [(cX, .int), (cY, .int)]) [0, 1] rfl) 0 (ci := 2) rfl rfl) aw_b_X2_fits aw_m_X2_119 aw_v_X2_fits aw_i_X2 aw_e_X2_fits ⟨rfl, rfl⟩ 4 (by decide +kernel) rfl ⟨by decide, by decide⟩ hl.1 rfl (Nat.le_of_ble_eq_true rfl) dX2_accepts_40 ⟨by decide, by decide⟩ ?_
      exact pz_z C hr hk hS trivial (fun t ht hvm => ⟨by rw [ht]; exact hP, va_K.moved hvm hK, hD⟩) dX2_accepts_43 mb (by subst hV; rfl) (by decide) (by decide)
    · rw [if_neg (show ¬ gdF 0 0 0 = 0 by omega)] at hV
      refine i_const C dX2_accepts_21 ?_
      exact pz_z C hr hk hS trivial (fun t ht hvm => ⟨by rw [ht]; exact hP, va_K.moved hvm hK, hD⟩) dX2_accepts_22 (Or.inl rfl) (by subst hV; rfl) (by decide) (by decide)
  · have zn : zb n = 1 := if_pos (by omega)
    rw [zn]
    rw [zn] at hV
    refine i_const C dX2_accepts_8 ?_
    refine lv_goto (tgt := 13) C.1 C.2.1 dX2_accepts_9 (by decide) ?_
    refine i_const C dX2_accepts_13 ?_
    refine i_const C dX2_accepts_14 ?_
    have hFc := va_free (wc := [(hm, .inr (2, MO p a b n key dr th hX hY hR hO sx sy dk dv))]) hD hS hA [0] rfl
    refine cn_V (As := [.int (ii 1), .int (ii 0), .int (ii 0)]) (rest := []) C (c_X2_good l D z0 _ hm p a b n key dr th hX hY hR hO sx sy dk dv 1 0 0 (by omega) (by omega) (by omega)) (pcm_preV _ hN (Zs.on hZ hS hAz) (by have := hS.1; omega) (hP.sub (ws' := [(hm, .inr (2, MO p a b n key dr th hX hY hR hO sx sy dk dv))]) [0] rfl) (hK.sub (tys' := []) [] rfl) ((hD.sub (ws' := [(hm, .inr (2, MO p a b n key dr th hX hY hR hO sx sy dk dv))]) [0] (by decide) rfl).weaken (fun _ _ _ h => hAz _ h)) 0 (ci := 2) rfl rfl) hS hFc aw_b_X2_good aw_m_X2_58 aw_v_X2_good aw_i_X2 aw_e_X2_good ⟨rfl, rfl⟩ 3 (by decide +kernel) rfl ⟨by decide, by decide⟩ hl.1 rfl (Nat.le_of_ble_eq_true rfl) dX2_accepts_15 ⟨by decide, by decide⟩ (fun t H1 locs1 ht hvm _ hB jz1 jk1 hS => ?_)
    obtain ⟨hP1, hK1, hD1⟩ := hB
    rw [ht] at hP1
    obtain ⟨hP, hD⟩ := va_join (wr := [(hX, .inl (cX, 1100, .inl (fun j => ii ((tx j : Nat) : Int)))), (hY, .inl (cY, 1100, .inl (fun j => ii ((ty j : Nat) : Int)))), (hR, .inl (cR, 4, .inl (fun j => ii ((ix j : Nat) : Int))))]) (w1 := [(hm, .inr (2, MO p a b n key dr (gdF 1 0 0) hX hY hR hO sx sy dk dv))]) hP hD [0] [1, 2, 3] rfl rfl (by decide) (by decide) jk1 hFc hP1 hD1
    have hP := hP.sub (ws' := [(hm, .inr (2, MO p a b n key dr (gdF 1 0 0) hX hY hR hO sx sy dk dv)), (hX, .inl (cX, 1100, .inl (fun j => ii ((tx j : Nat) : Int)))), (hY, .inl (cY, 1100, .inl (fun j => ii ((ty j : Nat) : Int)))), (hR, .inl (cR, 4, .inl (fun j => ii ((ix j : Nat) : Int))))]) [3, 0, 1, 2] rfl
    have hD := hD.sub (ws' := [(hm, .inr (2, MO p a b n key dr (gdF 1 0 0) hX hY hR hO sx sy dk dv)), (hX, .inl (cX, 1100, .inl (fun j => ii ((tx j : Nat) : Int)))), (hY, .inl (cY, 1100, .inl (fun j => ii ((ty j : Nat) : Int)))), (hR, .inl (cR, 4, .inl (fun j => ii ((ix j : Nat) : Int))))]) [3, 0, 1, 2] (by decide) rfl
    have gb := goF_b (gdF 1 0 0)
    have g0 := goF_0 (k := gdF 1 0 0)
    have gz := gdF_0 (k1 := 1) (k2 := 0) (k3 := 0)
    refine i_if_ne (tgt := 23) C dX2_accepts_18 (by decide) ⟨by omega, by omega⟩ (fun h2 => ?_) (fun h2 => ?_)
    · have e : gdF 1 0 0 = 0 := Classical.byContradiction fun z => h2 (g0.mpr z)
      have ez := gz.mp e
      rw [if_pos e] at hV
      have mb := mfF_b tx n (reF tx ty n k y) z r s
      have rb := reF_b tx ty n hn k y
      refine lv_aload_n C.1 C.2.1 dX2_accepts_23 rfl (lv_at hl 0 rfl) ?_
      refine lv_iload_n C.1 C.2.1 dX2_accepts_24 rfl (lv_at hl 1 rfl) ?_
      refine lv_lload_n C.1 C.2.1 dX2_accepts_25 rfl (lv_at hl 2 rfl) ?_
      refine ca_V (As := [.int (ii k), .long (li y)]) (rest := []) C (c_X2_read l D hm p a b n key dr (gdF 1 0 0) hX hY hR hO sx sy dk dv cX cY tx ty hT hn k y hk1 hy1) (pcw_preV [.int (ii k), .long (li y)] hN (hP.sub (ws' := [(hm, .inr (2, MO p a b n key dr (gdF 1 0 0) hX hY hR hO sx sy dk dv)), (hX, .inl (cX, 1100, .inl (fun j => ii ((tx j : Nat) : Int)))), (hY, .inl (cY, 1100, .inl (fun j => ii ((ty j : Nat) : Int))))]) [0, 1, 2] rfl) (hK.sub (tys' := [(cX, .int), (cY, .int)]) [0, 1] rfl) 0 (ci := 2) rfl rfl) aw_b_X2_read aw_m_X2_98 aw_v_X2_read aw_i_X2 aw_e_X2_read ⟨rfl, rfl⟩ 2 (by decide +kernel) rfl ⟨by decide, by decide⟩ hl.1 rfl (Nat.le_of_ble_eq_true rfl) dX2_accepts_26 ⟨by decide, by decide⟩ ?_
      generalize reF tx ty n k y = u at mb rb hV ⊢
      refine lv_istore C.1 C.2.1 dX2_accepts_29 hl (by decide) rfl (fun ls hl => ?_)
      have hl : lv_has ls 9 [(8, .int (ii u)), (0, .ref hm), (1, .int (ii k)), (2, .long (li y)), (4, .long (li z)), (6, .int (ii r)), (7, .int (ii s))] := hl
      refine lv_aload_n C.1 C.2.1 dX2_accepts_31 rfl (lv_at hl 1 rfl) ?_
      refine lv_iload C.1 C.2.1 dX2_accepts_32 (lv_at hl 0 rfl) ?_
      refine lv_lload C.1 C.2.1 dX2_accepts_34 (lv_at hl 4 rfl) ?_
      refine lv_iload C.1 C.2.1 dX2_accepts_36 (lv_at hl 5 rfl) ?_
      refine lv_iload C.1 C.2.1 dX2_accepts_38 (lv_at hl 6 rfl) ?_
      refine ca_V (As := [.int (ii u), .long (li z), .int (ii r), .int (ii s)]) (rest := []) C (c_X2_fits l D hm p a b n key dr (gdF 1 0 0) hX hY hR hO sx sy dk dv cX cY tx ty hT hn u z r s (by omega) hz1 hr1 hs1) (pcw_preV [.int (ii u), .long (li z), .int (ii r), .int (ii s)] hN (hP.sub (ws' := [(hm, .inr (2, MO p a b n key dr (gdF 1 0 0) hX hY hR hO sx sy dk dv)), (hX, .inl (cX, 1100, .inl (fun j => ii ((tx j : Nat) : Int)))), (hY, .inl (cY, 1100, .inl (fun j => ii ((ty j : Nat) : Int))))]) [0, 1, 2] rfl) (hK.sub (tys' := [(cX, .int), (cY, .int)]) [0, 1] rfl) 0 (ci := 2) rfl rfl) aw_b_X2_fits aw_m_X2_119 aw_v_X2_fits aw_i_X2 aw_e_X2_fits ⟨rfl, rfl⟩ 4 (by decide +kernel) rfl ⟨by decide, by decide⟩ hl.1 rfl (Nat.le_of_ble_eq_true rfl) dX2_accepts_40 ⟨by decide, by decide⟩ ?_
      exact pz_z C hr hk hS trivial (fun t ht hvm => ⟨by rw [ht]; exact hP, va_K.moved hvm hK, hD⟩) dX2_accepts_43 mb (by subst hV; rfl) (by decide) (by decide)
    · rw [if_neg (show ¬ gdF 1 0 0 = 0 by omega)] at hV
      refine i_const C dX2_accepts_21 ?_
      exact pz_z C hr hk hS trivial (fun t ht hvm => ⟨by rw [ht]; exact hP, va_K.moved hvm hK, hD⟩) dX2_accepts_22 (Or.inl rfl) (by subst hV; rfl) (by decide) (by decide)
