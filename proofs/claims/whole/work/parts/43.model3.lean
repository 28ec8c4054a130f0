/-! The reference: what writes (1). By wip/whole/tools/gen15.py. -/
def gdF (k1 k2 k3 : Int) : Int := if k1 = 0 then (if k2 = 0 then (if k3 = 0 then 0 else 3) else 2) else 1
def goF (k : Int) : Int := if k = 0 then 1 else 0
theorem gdF_b (k1 k2 k3 : Int) : 0 ≤ gdF k1 k2 k3 ∧ gdF k1 k2 k3 ≤ 3 := by
  unfold gdF
  repeat' split
  all_goals omega
def zb (n : Nat) : Int := if n = 0 then 1 else 0
theorem zb_b (n : Nat) : zb n = 0 ∨ zb n = 1 := by
  unfold zb
  split
  · exact Or.inr rfl
  · exact Or.inl rfl
theorem nrF_b (r : Int) : nrF r = 0 ∨ nrF r = 1 := by
  unfold nrF
  repeat' split
  all_goals first | exact Or.inl rfl | exact Or.inr rfl
theorem nrF_0 {r : Int} : nrF r = 0 ↔ okr r := by
  unfold nrF okr
  split
  · omega
  · split <;> omega
set_option maxRecDepth 100000 in
set_option maxHeartbeats 1000000 in
theorem c_X2_good (l : Launch) (D : va_G) (z0 sz : Nat) (hm : Nat) (p a b : Int) (n : Nat) (key dr th : Int) (hX hY hR hO : Nat) (sx sy dk dv : Int32) (k1 k2 k3 : Int) (h1 : k1 = 0 ∨ k1 = 1) (h2 : k2 = 0 ∨ k2 = 1) (h3 : k3 = 0 ∨ k3 = 1) : Met l yX2_good (Cond.code yX2_good cX2_good 4 (some .boolean) :: AW) ({ frames := 0, cells := 0, slots := 0, locals := 0 } : Room) (PcM D z0 sz [(hm, .inr (2, MO p a b n key dr th hX hY hR hO sx sy dk dv))] [] [.ref hm, .int (ii k1), .int (ii k2), .int (ii k3)]) (QcM (some (.int (ii (goF (gdF k1 k2 k3))))) True (Wd D [(hm, .inr (2, MO p a b n key dr (gdF k1 k2 k3) hX hY hR hO sx sy dk dv))] [] (va_A [(hm, .inr (2, MO p a b n key dr th hX hY hR hO sx sy dk dv))] sz)) (va_A [(hm, .inr (2, MO p a b n key dr th hX hY hR hO sx sy dk dv))] sz)) 0 0 (va_A [(hm, .inr (2, MO p a b n key dr th hX hY hR hO sx sy dk dv))] sz) := by
  refine mt_N (by decide +kernel) (Nat.le_of_ble_eq_true rfl) ?_
  intro P0 E0 S0 M0 A0 B0 T0 K0 C hN hZ hsz hz hP hK hD hAz hA hr hk hin ls hl
  have hl : lv_has ls 4 [(0, .ref hm), (1, .int (ii k1)), (2, .int (ii k2)), (3, .int (ii k3))] := hl
  generalize hAe : va_A [(hm, .inr (2, MO p a b n key dr th hX hY hR hO sx sy dk dv))] sz = A at hD hAz hA ⊢
  have hS : va_S A S0.heap S0.heap [] := va_S.rf
  generalize hV : gdF k1 k2 k3 = V
  unfold gdF at hV
  refine lv_aload_n C.1 C.2.1 dX2_good_0 rfl (lv_at hl 0 rfl) ?_
  refine lv_iload_n C.1 C.2.1 dX2_good_1 rfl (lv_at hl 1 rfl) ?_
  refine i_if_eq (tgt := 9) C dX2_good_2 (by decide) ⟨by omega, by omega⟩ (fun e1 => ?_) (fun e1 => ?_)
  · rw [if_pos e1] at hV
    refine lv_iload_n C.1 C.2.1 dX2_good_9 rfl (lv_at hl 2 rfl) ?_
    refine i_if_eq (tgt := 17) C dX2_good_10 (by decide) ⟨by omega, by omega⟩ (fun e2 => ?_) (fun e2 => ?_)
    · rw [if_pos e2] at hV
      refine lv_iload_n C.1 C.2.1 dX2_good_17 rfl (lv_at hl 3 rfl) ?_
      refine i_if_eq (tgt := 25) C dX2_good_18 (by decide) ⟨by omega, by omega⟩ (fun e3 => ?_) (fun e3 => ?_)
      · rw [if_pos e3] at hV
        have hV : 0 = V := hV
        subst hV
        refine i_const C dX2_good_25 ?_
        refine p_f C hK hP hD hS 0 rfl rfl aw_uX2 tyX2 tyX2_ok nmX2 6 (by decide) aw_f_X2_22 rfl rfl rfl (Nat.le_of_ble_eq_true rfl) dX2_good_26 (fun H1 locs1 hP hD hS => ?_)
        have hP : va_P D clX [(hm, .inr (2, MO p a b n key dr 0 hX hY hR hO sx sy dk dv))] H1 := hP
        have hD : va_D A [(hm, .inr (2, MO p a b n key dr 0 hX hY hR hO sx sy dk dv))] := hD
        refine lv_aload_n C.1 C.2.1 dX2_good_29 rfl (lv_at hl 0 rfl) ?_
        refine gf C hK hP 0 rfl rfl aw_uX2 6 (by decide) aw_f_X2_22 rfl dX2_good_30 ?_
        refine i_if_ne (tgt := 40) C dX2_good_33 (by decide) ⟨by omega, by omega⟩ (fun g1 => ?_) (fun g1 => ?_)
        · omega
        · refine i_const C dX2_good_36 ?_
          refine lv_goto (tgt := 41) C.1 C.2.1 dX2_good_37 (by decide) ?_
          exact pz_z C hr hk hS trivial (fun t ht hvm => ⟨by rw [ht]; exact hP, va_K.moved hvm hK, hD⟩) dX2_good_41 (Or.inr rfl) rfl (by decide) (by decide)
      · rw [if_neg e3] at hV
        have hV : 3 = V := hV
        subst hV
        refine i_const C dX2_good_21 ?_
        refine lv_goto (tgt := 26) C.1 C.2.1 dX2_good_22 (by decide) ?_
        refine p_f C hK hP hD hS 0 rfl rfl aw_uX2 tyX2 tyX2_ok nmX2 6 (by decide) aw_f_X2_22 rfl rfl rfl (Nat.le_of_ble_eq_true rfl) dX2_good_26 (fun H1 locs1 hP hD hS => ?_)
        have hP : va_P D clX [(hm, .inr (2, MO p a b n key dr 3 hX hY hR hO sx sy dk dv))] H1 := hP
        have hD : va_D A [(hm, .inr (2, MO p a b n key dr 3 hX hY hR hO sx sy dk dv))] := hD
        refine lv_aload_n C.1 C.2.1 dX2_good_29 rfl (lv_at hl 0 rfl) ?_
        refine gf C hK hP 0 rfl rfl aw_uX2 6 (by decide) aw_f_X2_22 rfl dX2_good_30 ?_
        refine i_if_ne (tgt := 40) C dX2_good_33 (by decide) ⟨by omega, by omega⟩ (fun g1 => ?_) (fun g1 => ?_)
        · refine i_const C dX2_good_40 ?_
          exact pz_z C hr hk hS trivial (fun t ht hvm => ⟨by rw [ht]; exact hP, va_K.moved hvm hK, hD⟩) dX2_good_41 (Or.inl rfl) rfl (by decide) (by decide)
        · omega
    · rw [if_neg e2] at hV
      have hV : 2 = V := hV
      subst hV
      refine i_const C dX2_good_13 ?_
      refine lv_goto (tgt := 26) C.1 C.2.1 dX2_good_14 (by decide) ?_
      refine p_f C hK hP hD hS 0 rfl rfl aw_uX2 tyX2 tyX2_ok nmX2 6 (by decide) aw_f_X2_22 rfl rfl rfl (Nat.le_of_ble_eq_true rfl) dX2_good_26 (fun H1 locs1 hP hD hS => ?_)
      have hP : va_P D clX [(hm, .inr (2, MO p a b n key dr 2 hX hY hR hO sx sy dk dv))] H1 := hP
      have hD : va_D A [(hm, .inr (2, MO p a b n key dr 2 hX hY hR hO sx sy dk dv))] := hD
      refine lv_aload_n C.1 C.2.1 dX2_good_29 rfl (lv_at hl 0 rfl) ?_
      refine gf C hK hP 0 rfl rfl aw_uX2 6 (by decide) aw_f_X2_22 rfl dX2_good_30 ?_
      refine i_if_ne (tgt := 40) C dX2_good_33 (by decide) ⟨by omega, by omega⟩ (fun g1 => ?_) (fun g1 => ?_)
      · refine i_const C dX2_good_40 ?_
        exact pz_z C hr hk hS trivial (fun t ht hvm => ⟨by rw [ht]; exact hP, va_K.moved hvm hK, hD⟩) dX2_good_41 (Or.inl rfl) rfl (by decide) (by decide)
      · omega
  · rw [if_neg e1] at hV
    have hV : 1 = V := hV
    subst hV
    refine i_const C dX2_good_5 ?_
    refine lv_goto (tgt := 26) C.1 C.2.1 dX2_good_6 (by decide) ?_
    refine p_f C hK hP hD hS 0 rfl rfl aw_uX2 tyX2 tyX2_ok nmX2 6 (by decide) aw_f_X2_22 rfl rfl rfl (Nat.le_of_ble_eq_true rfl) dX2_good_26 (fun H1 locs1 hP hD hS => ?_)
    have hP : va_P D clX [(hm, .inr (2, MO p a b n key dr 1 hX hY hR hO sx sy dk dv))] H1 := hP
    have hD : va_D A [(hm, .inr (2, MO p a b n key dr 1 hX hY hR hO sx sy dk dv))] := hD
    refine lv_aload_n C.1 C.2.1 dX2_good_29 rfl (lv_at hl 0 rfl) ?_
    refine gf C hK hP 0 rfl rfl aw_uX2 6 (by decide) aw_f_X2_22 rfl dX2_good_30 ?_
    refine i_if_ne (tgt := 40) C dX2_good_33 (by decide) ⟨by omega, by omega⟩ (fun g1 => ?_) (fun g1 => ?_)
    · refine i_const C dX2_good_40 ?_
      exact pz_z C hr hk hS trivial (fun t ht hvm => ⟨by rw [ht]; exact hP, va_K.moved hvm hK, hD⟩) dX2_good_41 (Or.inl rfl) rfl (by decide) (by decide)
    · omega
set_option maxRecDepth 100000 in
set_option maxHeartbeats 1000000 in
theorem c_X2_order (l : Launch) (D : va_G) (z0 sz : Nat) (hm : Nat) (p a b : Int) (n : Nat) (key dr th : Int) (hX hY hR hO : Nat) (sx sy dk dv : Int32) : Met l yX2_order (Cond.code yX2_order cX2_order 1 (some .int) :: AW) ({ frames := 0, cells := 0, slots := 0, locals := 0 } : Room) (PcM D z0 sz [(hm, .inr (2, MO p a b n key dr th hX hY hR hO sx sy dk dv))] [] [.ref hm]) (QcM (some (.int (ii (n : Int)))) True (Wd D [(hm, .inr (2, MO p a b n key dr 0 hX hY hR hO sx sy dk dv))] [] (va_A [(hm, .inr (2, MO p a b n key dr th hX hY hR hO sx sy dk dv))] sz)) (va_A [(hm, .inr (2, MO p a b n key dr th hX hY hR hO sx sy dk dv))] sz)) 0 0 (va_A [(hm, .inr (2, MO p a b n key dr th hX hY hR hO sx sy dk dv))] sz) := by
  refine mt_N (by decide +kernel) (Nat.le_of_ble_eq_true rfl) ?_
  intro P0 E0 S0 M0 A0 B0 T0 K0 C hN hZ hsz hz hP hK hD hAz hA hr hk hin ls hl
  have hl : lv_has ls 1 [(0, .ref hm)] := hl
  generalize hAe : va_A [(hm, .inr (2, MO p a b n key dr th hX hY hR hO sx sy dk dv))] sz = A at hD hAz hA ⊢
  have hS : va_S A S0.heap S0.heap [] := va_S.rf
  refine lv_aload_n C.1 C.2.1 dX2_order_0 rfl (lv_at hl 0 rfl) ?_
  refine i_const C dX2_order_1 ?_
  refine p_f C hK hP hD hS 0 rfl rfl aw_uX2 tyX2 tyX2_ok nmX2 6 (by decide) aw_f_X2_22 rfl rfl rfl (Nat.le_of_ble_eq_true rfl) dX2_order_2 (fun H1 locs1 hP hD hS => ?_)
  have hP : va_P D clX [(hm, .inr (2, MO p a b n key dr 0 hX hY hR hO sx sy dk dv))] H1 := hP
  have hD : va_D A [(hm, .inr (2, MO p a b n key dr 0 hX hY hR hO sx sy dk dv))] := hD
  refine lv_aload_n C.1 C.2.1 dX2_order_5 rfl (lv_at hl 0 rfl) ?_
  refine gf C hK hP 0 rfl rfl aw_uX2 3 (by decide) aw_f_X2_65 rfl dX2_order_6 ?_
  exact pz_i C hr hk hS trivial (fun t ht hvm => ⟨by rw [ht]; exact hP, va_K.moved hvm hK, hD⟩) dX2_order_9 rfl (by decide) (by decide)
set_option maxRecDepth 100000 in
set_option maxHeartbeats 1000000 in
theorem c_X2_draws (l : Launch) (D : va_G) (z0 sz : Nat) (hm : Nat) (p a b : Int) (n : Nat) (key dr th : Int) (hX hY hR hO : Nat) (sx sy dk dv : Int32) : Met l yX2_draws (Cond.code yX2_draws cX2_draws 1 (some .int) :: AW) ({ frames := 0, cells := 0, slots := 0, locals := 0 } : Room) (PcM D z0 sz [(hm, .inr (2, MO p a b n key dr th hX hY hR hO sx sy dk dv))] [] [.ref hm]) (QcM (some (.int (ii dr))) True (Wd D [(hm, .inr (2, MO p a b n key dr 0 hX hY hR hO sx sy dk dv))] [] (va_A [(hm, .inr (2, MO p a b n key dr th hX hY hR hO sx sy dk dv))] sz)) (va_A [(hm, .inr (2, MO p a b n key dr th hX hY hR hO sx sy dk dv))] sz)) 0 0 (va_A [(hm, .inr (2, MO p a b n key dr th hX hY hR hO sx sy dk dv))] sz) := by
  refine mt_N (by decide +kernel) (Nat.le_of_ble_eq_true rfl) ?_
  intro P0 E0 S0 M0 A0 B0 T0 K0 C hN hZ hsz hz hP hK hD hAz hA hr hk hin ls hl
  have hl : lv_has ls 1 [(0, .ref hm)] := hl
  generalize hAe : va_A [(hm, .inr (2, MO p a b n key dr th hX hY hR hO sx sy dk dv))] sz = A at hD hAz hA ⊢
  have hS : va_S A S0.heap S0.heap [] := va_S.rf
  refine lv_aload_n C.1 C.2.1 dX2_draws_0 rfl (lv_at hl 0 rfl) ?_
  refine i_const C dX2_draws_1 ?_
  refine p_f C hK hP hD hS 0 rfl rfl aw_uX2 tyX2 tyX2_ok nmX2 6 (by decide) aw_f_X2_22 rfl rfl rfl (Nat.le_of_ble_eq_true rfl) dX2_draws_2 (fun H1 locs1 hP hD hS => ?_)
  have hP : va_P D clX [(hm, .inr (2, MO p a b n key dr 0 hX hY hR hO sx sy dk dv))] H1 := hP
  have hD : va_D A [(hm, .inr (2, MO p a b n key dr 0 hX hY hR hO sx sy dk dv))] := hD
  refine lv_aload_n C.1 C.2.1 dX2_draws_5 rfl (lv_at hl 0 rfl) ?_
  refine gf C hK hP 0 rfl rfl aw_uX2 5 (by decide) aw_f_X2_116 rfl dX2_draws_6 ?_
  exact pz_i C hr hk hS trivial (fun t ht hvm => ⟨by rw [ht]; exact hP, va_K.moved hvm hK, hD⟩) dX2_draws_9 rfl (by decide) (by decide)
set_option maxRecDepth 100000 in
set_option maxHeartbeats 1000000 in
theorem c_X2_stir (l : Launch) (D : va_G) (z0 sz : Nat) (hm : Nat) (p a b : Int) (n : Nat) (key dr th : Int) (hX hY hR hO : Nat) (sx sy dk dv : Int32) (v : Int32) : Met l yX2_stir (Cond.code yX2_stir cX2_stir 2 none :: AW) ({ frames := 1, cells := 0, slots := 0, locals := 24 } : Room) (PcM D z0 sz [(hm, .inr (2, MO p a b n key dr th hX hY hR hO sx sy dk dv))] [] [.ref hm, .int v]) (QcM none True (Wd D [(hm, .inr (2, MO p a b n key dr th hX hY hR hO sx sy (mxF dk v) (mxF (mxF dk v) dv)))] [] (va_A [(hm, .inr (2, MO p a b n key dr th hX hY hR hO sx sy dk dv))] sz)) (va_A [(hm, .inr (2, MO p a b n key dr th hX hY hR hO sx sy dk dv))] sz)) 0 0 (va_A [(hm, .inr (2, MO p a b n key dr th hX hY hR hO sx sy dk dv))] sz) := by
  refine mt_N (by decide +kernel) (Nat.le_of_ble_eq_true rfl) ?_
  intro P0 E0 S0 M0 A0 B0 T0 K0 C hN hZ hsz hz hP hK hD hAz hA hr hk hin ls hl
  have hl : lv_has ls 2 [(0, .ref hm), (1, .int v)] := hl
  generalize hAe : va_A [(hm, .inr (2, MO p a b n key dr th hX hY hR hO sx sy dk dv))] sz = A at hD hAz hA ⊢
  have hS : va_S A S0.heap S0.heap [] := va_S.rf
  refine lv_aload_n C.1 C.2.1 dX2_stir_0 rfl (lv_at hl 0 rfl) ?_
  refine lv_aload_n C.1 C.2.1 dX2_stir_1 rfl (lv_at hl 0 rfl) ?_
  refine lv_aload_n C.1 C.2.1 dX2_stir_2 rfl (lv_at hl 0 rfl) ?_
  refine gf C hK hP 0 rfl rfl aw_uX2 13 (by decide) aw_f_X2_103 rfl dX2_stir_3 ?_
  refine lv_iload_n C.1 C.2.1 dX2_stir_6 rfl (lv_at hl 1 rfl) ?_
  refine ca_V (As := [.int dk, .int v]) (rest := [.ref hm]) C (c_X2_mix l D hm (dk) (v)) (pcw_preV0 [.int dk, .int v] hN hP hK 0 (ci := 2) rfl rfl) aw_b_X2_mix aw_m_X2_106 aw_v_X2_mix aw_i_X2 aw_e_X2_mix ⟨rfl, rfl⟩ 2 (by decide +kernel) rfl ⟨by decide, by decide⟩ hl.1 rfl (Nat.le_of_ble_eq_true rfl) dX2_stir_7 ⟨by decide, by decide⟩ ?_
  refine p_f C hK hP hD hS 0 rfl rfl aw_uX2 tyX2 tyX2_ok nmX2 13 (by decide) aw_f_X2_103 rfl rfl rfl (Nat.le_of_ble_eq_true rfl) dX2_stir_10 (fun H1 locs1 hP hD hS => ?_)
  have hP : va_P D clX [(hm, .inr (2, MO p a b n key dr th hX hY hR hO sx sy (mxF dk v) dv))] H1 := hP
  have hD : va_D A [(hm, .inr (2, MO p a b n key dr th hX hY hR hO sx sy (mxF dk v) dv))] := hD
  refine lv_aload_n C.1 C.2.1 dX2_stir_13 rfl (lv_at hl 0 rfl) ?_
  refine lv_aload_n C.1 C.2.1 dX2_stir_14 rfl (lv_at hl 0 rfl) ?_
  refine lv_aload_n C.1 C.2.1 dX2_stir_15 rfl (lv_at hl 0 rfl) ?_
  refine gf C hK hP 0 rfl rfl aw_uX2 13 (by decide) aw_f_X2_103 rfl dX2_stir_16 ?_
  refine lv_aload_n C.1 C.2.1 dX2_stir_19 rfl (lv_at hl 0 rfl) ?_
  refine gf C hK hP 0 rfl rfl aw_uX2 14 (by decide) aw_f_X2_109 rfl dX2_stir_20 ?_
  refine ca_V (As := [.int (mxF dk v), .int dv]) (rest := [.ref hm]) C (c_X2_mix l D hm (mxF dk v) (dv)) (pcw_preV0 [.int (mxF dk v), .int dv] hN hP hK 0 (ci := 2) rfl rfl) aw_b_X2_mix aw_m_X2_106 aw_v_X2_mix aw_i_X2 aw_e_X2_mix ⟨rfl, rfl⟩ 2 (by decide +kernel) rfl ⟨by decide, by decide⟩ hl.1 rfl (Nat.le_of_ble_eq_true rfl) dX2_stir_23 ⟨by decide, by decide⟩ ?_
  refine p_f C hK hP hD hS 0 rfl rfl aw_uX2 tyX2 tyX2_ok nmX2 14 (by decide) aw_f_X2_109 rfl rfl rfl (Nat.le_of_ble_eq_true rfl) dX2_stir_26 (fun H1 locs1 hP hD hS => ?_)
  have hP : va_P D clX [(hm, .inr (2, MO p a b n key dr th hX hY hR hO sx sy (mxF dk v) (mxF (mxF dk v) dv)))] H1 := hP
  have hD : va_D A [(hm, .inr (2, MO p a b n key dr th hX hY hR hO sx sy (mxF dk v) (mxF (mxF dk v) dv)))] := hD
  exact pz_v C hr hk hS trivial (fun t ht hvm => ⟨by rw [ht]; exact hP, va_K.moved hvm hK, hD⟩) dX2_stir_29 (by decide) (by decide)
theorem up_I (ix : Nat → Nat) (k v : Nat) : va_up (fun j => ii ((ix j : Nat) : Int)) k (ii ((v : Nat) : Int)) = fun j => ii ((va_up ix k v j : Nat) : Int) := by
  funext j
  unfold va_up
  split <;> rfl
theorem goF_b (k : Int) : goF k = 0 ∨ goF k = 1 := by
  unfold goF
  split
  · exact Or.inr rfl
  · exact Or.inl rfl
theorem goF_0 {k : Int} : goF k = 0 ↔ k ≠ 0 := by
  unfold goF
  split <;> omega
theorem gdF_0 {k1 k2 k3 : Int} : gdF k1 k2 k3 = 0 ↔ k1 = 0 ∧ k2 = 0 ∧ k3 = 0 := by
  unfold gdF
  repeat' split
  all_goals omega
set_option maxRecDepth 100000 in
set_option maxHeartbeats 1000000 in
theorem c_X2_base (l : Launch) (D : va_G) (z0 sz : Nat) (hm : Nat) (p a b : Int) (n : Nat) (key dr th : Int) (hX hY hR hO : Nat) (sx sy dk dv : Int32) (cR : ClassId) (ix : Nat → Nat) (hn : n ≤ 1100) (r : Int) (hr1 : rg r) : Met l yX2_base (Cond.code yX2_base cX2_base 2 none :: AW) ({ frames := 1, cells := 0, slots := 0, locals := 24 } : Room) (PcM D z0 sz [(hm, .inr (2, MO p a b n key dr th hX hY hR hO sx sy dk dv)), (hR, .inl (cR, 4, .inl (fun j => ii ((ix j : Nat) : Int))))] [(cR, .int)] [.ref hm, .int (ii r)]) (QcM none True (Wd D [(hm, .inr (2, MO p a b n key dr (gdF (zb n) (nrF r) 0) hX hY hR hO sx sy dk dv)), (hR, .inl (cR, 4, .inl (fun j => ii (((if gdF (zb n) (nrF r) 0 = 0 then va_up ix r.toNat 1 else ix) j : Nat) : Int))))] [(cR, .int)] (va_A [(hm, .inr (2, MO p a b n key dr th hX hY hR hO sx sy dk dv)), (hR, .inl (cR, 4, .inl (fun j => ii ((ix j : Nat) : Int))))] sz)) (va_A [(hm, .inr (2, MO p a b n key dr th hX hY hR hO sx sy dk dv)), (hR, .inl (cR, 4, .inl (fun j => ii ((ix j : Nat) : Int))))] sz)) 0 0 (va_A [(hm, .inr (2, MO p a b n key dr th hX hY hR hO sx sy dk dv)), (hR, .inl (cR, 4, .inl (fun j => ii ((ix j : Nat) : Int))))] sz) := by
  refine mt_N (by decide +kernel) (Nat.le_of_ble_eq_true rfl) ?_
  intro P0 E0 S0 M0 A0 B0 T0 K0 C hN hZ hsz hz hP hK hD hAz hA hr hk hin ls hl
  have hl : lv_has ls 2 [(0, .ref hm), (1, .int (ii r))] := hl
  generalize hAe : va_A [(hm, .inr (2, MO p a b n key dr th hX hY hR hO sx sy dk dv)), (hR, .inl (cR, 4, .inl (fun j => ii ((ix j : Nat) : Int))))] sz = A at hD hAz hA ⊢
  have hS : va_S A S0.heap S0.heap [] := va_S.rf
  have nb := nrF_b r
  have n0 := nrF_0 (r := r)
  unfold okr at n0
  refine lv_aload_n C.1 C.2.1 dX2_base_0 rfl (lv_at hl 0 rfl) ?_
  refine lv_aload_n C.1 C.2.1 dX2_base_1 rfl (lv_at hl 0 rfl) ?_
  refine gf C hK hP 0 rfl rfl aw_uX2 3 (by decide) aw_f_X2_65 rfl dX2_base_2 ?_
  refine i_if_ne (tgt := 12) C dX2_base_5 (by decide) ⟨by omega, by omega⟩ (fun h1 => ?_) (fun h1 => ?_)
  · have zn : zb n = 0 := if_neg (by omega)
    rw [zn]
    refine i_const C dX2_base_12 ?_
    refine lv_aload_n C.1 C.2.1 dX2_base_13 rfl (lv_at hl 0 rfl) ?_
    refine lv_iload_n C.1 C.2.1 dX2_base_14 rfl (lv_at hl 1 rfl) ?_
    refine ca_V (As := [.int (ii r)]) (rest := [.int (ii 0), .ref hm]) C (c_X2_noRegister l D hm r hr1) (pcw_preV0 [.int (ii r)] hN hP hK 0 (ci := 2) rfl rfl) aw_b_X2_noRegister aw_m_X2_81 aw_v_X2_noRegister aw_i_X2 aw_e_X2_noRegister ⟨rfl, rfl⟩ 1 (by decide +kernel) rfl ⟨by decide, by decide⟩ hl.1 rfl (Nat.le_of_ble_eq_true rfl) dX2_base_15 ⟨by decide, by decide⟩ ?_
    refine i_const C dX2_base_18 ?_
    have hFc := va_free (wc := [(hm, .inr (2, MO p a b n key dr th hX hY hR hO sx sy dk dv))]) hD hS hA [0] rfl
    refine cn_V (As := [.int (ii 0), .int (ii (nrF r)), .int (ii 0)]) (rest := []) C (c_X2_good l D z0 _ hm p a b n key dr th hX hY hR hO sx sy dk dv 0 (nrF r) 0 (by omega) nb (by omega)) (pcm_preV _ hN (Zs.on hZ hS hAz) (by have := hS.1; omega) (hP.sub (ws' := [(hm, .inr (2, MO p a b n key dr th hX hY hR hO sx sy dk dv))]) [0] rfl) (hK.sub (tys' := []) [] rfl) ((hD.sub (ws' := [(hm, .inr (2, MO p a b n key dr th hX hY hR hO sx sy dk dv))]) [0] (by decide) rfl).weaken (fun _ _ _ h => hAz _ h)) 0 (ci := 2) rfl rfl) hS hFc aw_b_X2_good aw_m_X2_58 aw_v_X2_good aw_i_X2 aw_e_X2_good ⟨rfl, rfl⟩ 3 (by decide +kernel) rfl ⟨by decide, by decide⟩ hl.1 rfl (Nat.le_of_ble_eq_true rfl) dX2_base_19 ⟨by decide, by decide⟩ (fun t H1 locs1 ht hvm _ hB hz1 hk1 hS => ?_)
    obtain ⟨hP1, hK1, hD1⟩ := hB
    rw [ht] at hP1
    obtain ⟨hP, hD⟩ := va_join (wr := [(hR, .inl (cR, 4, .inl (fun j => ii ((ix j : Nat) : Int))))]) (w1 := [(hm, .inr (2, MO p a b n key dr (gdF 0 (nrF r) 0) hX hY hR hO sx sy dk dv))]) hP hD [0] [1] rfl rfl (by decide) (by decide) hk1 hFc hP1 hD1
    have hP := hP.sub (ws' := [(hm, .inr (2, MO p a b n key dr (gdF 0 (nrF r) 0) hX hY hR hO sx sy dk dv)), (hR, .inl (cR, 4, .inl (fun j => ii ((ix j : Nat) : Int))))]) [1, 0] rfl
    have hD := hD.sub (ws' := [(hm, .inr (2, MO p a b n key dr (gdF 0 (nrF r) 0) hX hY hR hO sx sy dk dv)), (hR, .inl (cR, 4, .inl (fun j => ii ((ix j : Nat) : Int))))]) [1, 0] (by decide) rfl
    have gb := goF_b (gdF 0 (nrF r) 0)
    have g0 := goF_0 (k := gdF 0 (nrF r) 0)
    have gz := gdF_0 (k1 := 0) (k2 := nrF r) (k3 := 0)
    refine i_if_eq (tgt := 32) C dX2_base_22 (by decide) ⟨by omega, by omega⟩ (fun h2 => ?_) (fun h2 => ?_)
    · rw [if_neg (show ¬ gdF 0 (nrF r) 0 = 0 from g0.mp h2)]
      exact pz_v C hr hk hS trivial (fun t ht hvm => ⟨by rw [ht]; exact hP, va_K.moved hvm hK, hD⟩) dX2_base_32 (by decide) (by decide)
    · have e : gdF 0 (nrF r) 0 = 0 := Classical.byContradiction fun z => h2 (g0.mpr z)
      have ez := gz.mp e
      rw [if_pos e]
      refine lv_aload_n C.1 C.2.1 dX2_base_25 rfl (lv_at hl 0 rfl) ?_
      refine gf C hK hP 0 rfl rfl aw_uX2 9 (by decide) aw_f_X2_16 rfl dX2_base_26 ?_
      refine lv_iload_n C.1 C.2.1 dX2_base_29 rfl (lv_at hl 1 rfl) ?_
      refine i_const C dX2_base_30 ?_
      refine i_ast C hK hP hD hS 1 0 rfl rfl r.toNat (by omega) (by omega) (by omega) dX2_base_31 (fun H1 locs1 hP hD hS => ?_)
      rw [show va_up (fun j => ii ((ix j : Nat) : Int)) r.toNat (ii 1) = fun j => ii ((va_up ix r.toNat 1 j : Nat) : Int) from up_I ix r.toNat 1] at hP hD
      have hP : va_P D clX [(hm, .inr (2, MO p a b n key dr (gdF 0 (nrF r) 0) hX hY hR hO sx sy dk dv)), (hR, .inl (cR, 4, .inl (fun j => ii (((va_up ix r.toNat 1) j : Nat) : Int))))] H1 := hP
      have hD : va_D A [(hm, .inr (2, MO p a b n key dr (gdF 0 (nrF r) 0) hX hY hR hO sx sy dk dv)), (hR, .inl (cR, 4, .inl (fun j => ii (((va_up ix r.toNat 1) j : Nat) : Int))))] := hD
      exact pz_v C hr hk hS trivial (fun t ht hvm => ⟨by rw [ht]; exact hP, va_K.moved hvm hK, hD⟩) dX2_base_32 (by decide) (by decide)
  · have zn : zb n = 1 := if_pos (by omega)
    rw [zn]
    refine i_const C dX2_base_8 ?_
    refine lv_goto (tgt := 13) C.1 C.2.1 dX2_base_9 (by decide) ?_
    refine lv_aload_n C.1 C.2.1 dX2_base_13 rfl (lv_at hl 0 rfl) ?_
    refine lv_iload_n C.1 C.2.1 dX2_base_14 rfl (lv_at hl 1 rfl) ?_
    refine ca_V (As := [.int (ii r)]) (rest := [.int (ii 1), .ref hm]) C (c_X2_noRegister l D hm r hr1) (pcw_preV0 [.int (ii r)] hN hP hK 0 (ci := 2) rfl rfl) aw_b_X2_noRegister aw_m_X2_81 aw_v_X2_noRegister aw_i_X2 aw_e_X2_noRegister ⟨rfl, rfl⟩ 1 (by decide +kernel) rfl ⟨by decide, by decide⟩ hl.1 rfl (Nat.le_of_ble_eq_true rfl) dX2_base_15 ⟨by decide, by decide⟩ ?_
    refine i_const C dX2_base_18 ?_
    have hFc := va_free (wc := [(hm, .inr (2, MO p a b n key dr th hX hY hR hO sx sy dk dv))]) hD hS hA [0] rfl
    refine cn_V (As := [.int (ii 1), .int (ii (nrF r)), .int (ii 0)]) (rest := []) C (c_X2_good l D z0 _ hm p a b n key dr th hX hY hR hO sx sy dk dv 1 (nrF r) 0 (by omega) nb (by omega)) (pcm_preV _ hN (Zs.on hZ hS hAz) (by have := hS.1; omega) (hP.sub (ws' := [(hm, .inr (2, MO p a b n key dr th hX hY hR hO sx sy dk dv))]) [0] rfl) (hK.sub (tys' := []) [] rfl) ((hD.sub (ws' := [(hm, .inr (2, MO p a b n key dr th hX hY hR hO sx sy dk dv))]) [0] (by decide) rfl).weaken (fun _ _ _ h => hAz _ h)) 0 (ci := 2) rfl rfl) hS hFc aw_b_X2_good aw_m_X2_58 aw_v_X2_good aw_i_X2 aw_e_X2_good ⟨rfl, rfl⟩ 3 (by decide +kernel) rfl ⟨by decide, by decide⟩ hl.1 rfl (Nat.le_of_ble_eq_true rfl) dX2_base_19 ⟨by decide, by decide⟩ (fun t H1 locs1 ht hvm _ hB hz1 hk1 hS => ?_)
    obtain ⟨hP1, hK1, hD1⟩ := hB
    rw [ht] at hP1
    obtain ⟨hP, hD⟩ := va_join (wr := [(hR, .inl (cR, 4, .inl (fun j => ii ((ix j : Nat) : Int))))]) (w1 := [(hm, .inr (2, MO p a b n key dr (gdF 1 (nrF r) 0) hX hY hR hO sx sy dk dv))]) hP hD [0] [1] rfl rfl (by decide) (by decide) hk1 hFc hP1 hD1
    have hP := hP.sub (ws' := [(hm, .inr (2, MO p a b n key dr (gdF 1 (nrF r) 0) hX hY hR hO sx sy dk dv)), (hR, .inl (cR, 4, .inl (fun j => ii ((ix j : Nat) : Int))))]) [1, 0] rfl
    have hD := hD.sub (ws' := [(hm, .inr (2, MO p a b n key dr (gdF 1 (nrF r) 0) hX hY hR hO sx sy dk dv)), (hR, .inl (cR, 4, .inl (fun j => ii ((ix j : Nat) : Int))))]) [1, 0] (by decide) rfl
    have gb := goF_b (gdF 1 (nrF r) 0)
    have g0 := goF_0 (k := gdF 1 (nrF r) 0)
    have gz := gdF_0 (k1 := 1) (k2 := nrF r) (k3 := 0)
    refine i_if_eq (tgt := 32) C dX2_base_22 (by decide) ⟨by omega, by omega⟩ (fun h2 => ?_) (fun h2 => ?_)
    · rw [if_neg (show ¬ gdF 1 (nrF r) 0 = 0 from g0.mp h2)]
      exact pz_v C hr hk hS trivial (fun t ht hvm => ⟨by rw [ht]; exact hP, va_K.moved hvm hK, hD⟩) dX2_base_32 (by decide) (by decide)
    · have e : gdF 1 (nrF r) 0 = 0 := Classical.byContradiction fun z => h2 (g0.mpr z)
      have ez := gz.mp e
      rw [if_pos e]
      refine lv_aload_n C.1 C.2.1 dX2_base_25 rfl (lv_at hl 0 rfl) ?_
      refine gf C hK hP 0 rfl rfl aw_uX2 9 (by decide) aw_f_X2_16 rfl dX2_base_26 ?_
      refine lv_iload_n C.1 C.2.1 dX2_base_29 rfl (lv_at hl 1 rfl) ?_
      refine i_const C dX2_base_30 ?_
      refine i_ast C hK hP hD hS 1 0 rfl rfl r.toNat (by omega) (by omega) (by omega) dX2_base_31 (fun H1 locs1 hP hD hS => ?_)
      rw [show va_up (fun j => ii ((ix j : Nat) : Int)) r.toNat (ii 1) = fun j => ii ((va_up ix r.toNat 1 j : Nat) : Int) from up_I ix r.toNat 1] at hP hD
      have hP : va_P D clX [(hm, .inr (2, MO p a b n key dr (gdF 1 (nrF r) 0) hX hY hR hO sx sy dk dv)), (hR, .inl (cR, 4, .inl (fun j => ii (((va_up ix r.toNat 1) j : Nat) : Int))))] H1 := hP
      have hD : va_D A [(hm, .inr (2, MO p a b n key dr (gdF 1 (nrF r) 0) hX hY hR hO sx sy dk dv)), (hR, .inl (cR, 4, .inl (fun j => ii (((va_up ix r.toNat 1) j : Nat) : Int))))] := hD
      exact pz_v C hr hk hS trivial (fun t ht hvm => ⟨by rw [ht]; exact hP, va_K.moved hvm hK, hD⟩) dX2_base_32 (by decide) (by decide)
