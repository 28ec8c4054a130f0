/-! The reference: add, count, findBase. By wip/whole/tools/gen19.py. -/
def upF (p a x y u v : Int) : Int := if x = u then 3 * x * x + a else v - y + p
def dnF (p x y u : Int) : Int := if x = u then 2 * y % p else (u - x + p) % p
def mmF (p a x y u v : Int) : Int := upF p a x y u v % p * ((ivF (dnF p x y u).toNat p.toNat 1100 1 : Nat) : Int) % p
def axF (p a x y u v : Int) : Int := (mmF p a x y u v * mmF p a x y u v + 2 * p - x - u) % p
def ayF (p a x y u v : Int) : Int := (mmF p a x y u v * (x - axF p a x y u v + p) + p - y) % p
theorem mmF_b (p a x y u v : Int) (hp : 0 < p) : 0 ≤ mmF p a x y u v ∧ mmF p a x y u v < p := em_b _ hp
theorem axF_b (p a x y u v : Int) (hp : 0 < p) : 0 ≤ axF p a x y u v ∧ axF p a x y u v < p := em_b _ hp
theorem ayF_b (p a x y u v : Int) (hp : 0 < p) : 0 ≤ ayF p a x y u v ∧ ayF p a x y u v < p := em_b _ hp
theorem imul_b {u v : Int} (h1 : 0 ≤ u ∧ u ≤ 4100) (h2 : 0 ≤ v ∧ v ≤ 4100) : 0 ≤ u * v ∧ u * v ≤ 16810000 := ⟨Int.mul_nonneg h1.1 h2.1, Int.mul_le_mul h1.2 h2.2 h2.1 (by omega)⟩
set_option maxRecDepth 100000 in
set_option maxHeartbeats 4000000 in
theorem c_X2_add (l : Launch) (D : va_G) (z0 sz : Nat) (hm p a b n : Nat) (key dr th : Int) (hX hY hR hO : Nat) (sx sy dk dv : Int32) (hp : 5 ≤ p ∧ p ≤ 1021) (ha : a < p) (hb : b < p) (x y u v : Nat) (hx0 : x < p) (hy0 : y < p) (hu0 : u < p) (hv0 : v < p) : Met l yX2_add (Cond.code yX2_add cX2_add 8 none :: AW) ({ frames := 1, cells := 0, slots := 0, locals := 24 } : Room) (PcM D z0 sz [(hm, .inr (2, MO (p : Int) (a : Int) (b : Int) n key dr th hX hY hR hO sx sy dk dv))] [] [.ref hm, .int (ii (x : Int)), .int (ii (y : Int)), .int (ii (u : Int)), .int (ii (v : Int))]) (QcM none True (Wd D [(hm, .inr (2, MO (p : Int) (a : Int) (b : Int) n key dr th hX hY hR hO (ii (axF (p : Int) (a : Int) (x : Int) (y : Int) (u : Int) (v : Int))) (ii (ayF (p : Int) (a : Int) (x : Int) (y : Int) (u : Int) (v : Int))) dk dv))] [] (va_A [(hm, .inr (2, MO (p : Int) (a : Int) (b : Int) n key dr th hX hY hR hO sx sy dk dv))] sz)) (va_A [(hm, .inr (2, MO (p : Int) (a : Int) (b : Int) n key dr th hX hY hR hO sx sy dk dv))] sz)) 0 0 (va_A [(hm, .inr (2, MO (p : Int) (a : Int) (b : Int) n key dr th hX hY hR hO sx sy dk dv))] sz) := by
  refine mt_N (by decide +kernel) (Nat.le_of_ble_eq_true rfl) ?_
  intro P0 E0 S0 M0 A0 B0 T0 K0 C hN hZ hsz hz hP hK hD hAz hA hr hk hin ls hl
  have hl : lv_has ls 8 [(0, .ref hm), (1, .int (ii (x : Int))), (2, .int (ii (y : Int))), (3, .int (ii (u : Int))), (4, .int (ii (v : Int)))] := hl
  generalize hAe : va_A [(hm, .inr (2, MO (p : Int) (a : Int) (b : Int) n key dr th hX hY hR hO sx sy dk dv))] sz = A at hD hAz hA ⊢
  have hS : va_S A S0.heap S0.heap [] := va_S.rf
  have b0 := imul_b (show 0 ≤ 3 * (x : Int) ∧ 3 * (x : Int) ≤ 4100 by omega) (show 0 ≤ (x : Int) ∧ (x : Int) ≤ 4100 by omega)
  have m1 := mmF_b (p : Int) (a : Int) (x : Int) (y : Int) (u : Int) (v : Int) (by omega)
  have m2 := axF_b (p : Int) (a : Int) (x : Int) (y : Int) (u : Int) (v : Int) (by omega)
  have em : mmF (p : Int) (a : Int) (x : Int) (y : Int) (u : Int) (v : Int) = upF (p : Int) (a : Int) (x : Int) (y : Int) (u : Int) (v : Int) % (p : Int) * ((ivF (dnF (p : Int) (x : Int) (y : Int) (u : Int)).toNat p 1100 1 : Nat) : Int) % (p : Int) := rfl
  have ex : axF (p : Int) (a : Int) (x : Int) (y : Int) (u : Int) (v : Int) = (mmF (p : Int) (a : Int) (x : Int) (y : Int) (u : Int) (v : Int) * mmF (p : Int) (a : Int) (x : Int) (y : Int) (u : Int) (v : Int) + 2 * (p : Int) - (x : Int) - (u : Int)) % (p : Int) := rfl
  have ey : ayF (p : Int) (a : Int) (x : Int) (y : Int) (u : Int) (v : Int) = (mmF (p : Int) (a : Int) (x : Int) (y : Int) (u : Int) (v : Int) * ((x : Int) - axF (p : Int) (a : Int) (x : Int) (y : Int) (u : Int) (v : Int) + (p : Int)) + (p : Int) - (y : Int)) % (p : Int) := rfl
  have eu : upF (p : Int) (a : Int) (x : Int) (y : Int) (u : Int) (v : Int) = if (x : Int) = (u : Int) then 3 * (x : Int) * (x : Int) + (a : Int) else (v : Int) - (y : Int) + (p : Int) := rfl
  have ed : dnF (p : Int) (x : Int) (y : Int) (u : Int) = if (x : Int) = (u : Int) then 2 * (y : Int) % (p : Int) else ((u : Int) - (x : Int) + (p : Int)) % (p : Int) := rfl
  generalize upF (p : Int) (a : Int) (x : Int) (y : Int) (u : Int) (v : Int) = U at em eu
  generalize dnF (p : Int) (x : Int) (y : Int) (u : Int) = V at em ed
  generalize ayF (p : Int) (a : Int) (x : Int) (y : Int) (u : Int) (v : Int) = Y at ey ⊢
  generalize axF (p : Int) (a : Int) (x : Int) (y : Int) (u : Int) (v : Int) = X at ex ey m2 ⊢
  generalize mmF (p : Int) (a : Int) (x : Int) (y : Int) (u : Int) (v : Int) = m at em ex ey m1
  refine lv_iload_n C.1 C.2.1 dX2_add_0 rfl (lv_at hl 1 rfl) ?_
  refine lv_iload_n C.1 C.2.1 dX2_add_1 rfl (lv_at hl 3 rfl) ?_
  refine i_icmp_ne (tgt := 18) C dX2_add_2 (by decide) ⟨by omega, by omega⟩ ⟨by omega, by omega⟩ (fun h1 => ?_) (fun h1 => ?_)
  · refine lv_iload C.1 C.2.1 dX2_add_18 (lv_at hl 4 rfl) ?_
    refine lv_iload_n C.1 C.2.1 dX2_add_20 rfl (lv_at hl 2 rfl) ?_
    refine i_sub C dX2_add_21 ?_
    refine lv_aload_n C.1 C.2.1 dX2_add_22 rfl (lv_at hl 0 rfl) ?_
    refine gf C hK hP 0 rfl rfl aw_uX2 0 (by decide) aw_f_X2_41 rfl dX2_add_23 ?_
    refine i_add C dX2_add_26 ?_
    refine lv_istore C.1 C.2.1 dX2_add_27 hl (by decide) rfl (fun ls hl => ?_)
    have hl : lv_has ls 8 [(5, .int (ii (((v : Int) - (y : Int)) + (p : Int)))), (0, .ref hm), (1, .int (ii (x : Int))), (2, .int (ii (y : Int))), (3, .int (ii (u : Int))), (4, .int (ii (v : Int)))] := hl
    refine lv_iload_n C.1 C.2.1 dX2_add_29 rfl (lv_at hl 2 rfl) ?_
    refine lv_iload_n C.1 C.2.1 dX2_add_30 rfl (lv_at hl 4 rfl) ?_
    refine i_icmp_ne (tgt := 45) C dX2_add_31 (by decide) ⟨by omega, by omega⟩ ⟨by omega, by omega⟩ (fun h2 => ?_) (fun h2 => ?_)
    · refine lv_iload_n C.1 C.2.1 dX2_add_45 rfl (lv_at hl 4 rfl) ?_
      refine lv_iload_n C.1 C.2.1 dX2_add_46 rfl (lv_at hl 2 rfl) ?_
      refine i_sub C dX2_add_47 ?_
      refine lv_aload_n C.1 C.2.1 dX2_add_48 rfl (lv_at hl 1 rfl) ?_
      refine gf C hK hP 0 rfl rfl aw_uX2 0 (by decide) aw_f_X2_41 rfl dX2_add_49 ?_
      refine i_add C dX2_add_52 ?_
      refine lv_aload_n C.1 C.2.1 dX2_add_53 rfl (lv_at hl 1 rfl) ?_
      refine gf C hK hP 0 rfl rfl aw_uX2 0 (by decide) aw_f_X2_41 rfl dX2_add_54 ?_
      refine i_rem C dX2_add_57 ⟨by omega, by omega⟩ ⟨by omega, by omega⟩ ?_
      refine i_top (b := V) (by rw [ed, if_neg h1]) ?_
      have v1 : 0 ≤ V ∧ V < (p : Int) := by
        rw [ed, if_neg h1]
        exact em_b _ (by omega)
      refine lv_istore C.1 C.2.1 dX2_add_58 hl (by decide) rfl (fun ls hl => ?_)
      have hl : lv_has ls 8 [(6, .int (ii V)), (5, .int (ii (((v : Int) - (y : Int)) + (p : Int)))), (0, .ref hm), (1, .int (ii (x : Int))), (2, .int (ii (y : Int))), (3, .int (ii (u : Int))), (4, .int (ii (v : Int)))] := hl
      refine lv_iload C.1 C.2.1 dX2_add_60 (lv_at hl 1 rfl) ?_
      refine i_top (b := U) (by rw [eu, if_neg h1]) ?_
      have u1 : 0 ≤ U ∧ U ≤ 20000000 := by
        rw [eu, if_neg h1]
        omega
      have u2 := em_b U (show (0 : Int) < p by omega)
      have i1 := ivF_b V.toNat p 1100 1
      have b1 := imul_b (show 0 ≤ U % (p : Int) ∧ U % (p : Int) ≤ 4100 by omega) (show 0 ≤ ((ivF V.toNat p 1100 1 : Nat) : Int) ∧ ((ivF V.toNat p 1100 1 : Nat) : Int) ≤ 4100 by omega)
      refine lv_aload_n C.1 C.2.1 dX2_add_62 rfl (lv_at hl 2 rfl) ?_
      refine gf C hK hP 0 rfl rfl aw_uX2 0 (by decide) aw_f_X2_41 rfl dX2_add_63 ?_
      refine i_rem C dX2_add_66 ⟨by omega, by omega⟩ ⟨by omega, by omega⟩ ?_
      refine lv_aload_n C.1 C.2.1 dX2_add_67 rfl (lv_at hl 2 rfl) ?_
      refine lv_iload C.1 C.2.1 dX2_add_68 (lv_at hl 0 rfl) ?_
      refine i_top (b := ((V.toNat : Nat) : Int)) (by omega) ?_
      refine lv_aload_n C.1 C.2.1 dX2_add_70 rfl (lv_at hl 2 rfl) ?_
      refine gf C hK hP 0 rfl rfl aw_uX2 0 (by decide) aw_f_X2_41 rfl dX2_add_71 ?_
      refine ca_V (As := [.int (ii ((V.toNat : Nat) : Int)), .int (ii (p : Int))]) (rest := [.int (ii (U % (p : Int)))]) C (c_X2_inverse l D hm V.toNat p (by omega) (by omega)) (pcw_preV0 [.int (ii ((V.toNat : Nat) : Int)), .int (ii (p : Int))] hN hP hK 0 (ci := 2) rfl rfl) aw_b_X2_inverse aw_m_X2_44 aw_v_X2_inverse aw_i_X2 aw_e_X2_inverse ⟨rfl, rfl⟩ 2 (by decide +kernel) rfl ⟨by decide, by decide⟩ hl.1 rfl (Nat.le_of_ble_eq_true rfl) dX2_add_74 ⟨by decide, by decide⟩ ?_
      refine i_mul C dX2_add_77 ?_
      refine lv_aload_n C.1 C.2.1 dX2_add_78 rfl (lv_at hl 2 rfl) ?_
      refine gf C hK hP 0 rfl rfl aw_uX2 0 (by decide) aw_f_X2_41 rfl dX2_add_79 ?_
      refine i_rem C dX2_add_82 ⟨by omega, by omega⟩ ⟨by omega, by omega⟩ ?_
      refine i_top (b := m) em.symm ?_
      have b2 := imul_b (show 0 ≤ m ∧ m ≤ 4100 by omega) (show 0 ≤ m ∧ m ≤ 4100 by omega)
      have b3 := imul_b (show 0 ≤ m ∧ m ≤ 4100 by omega) (show 0 ≤ (x : Int) - X + (p : Int) ∧ (x : Int) - X + (p : Int) ≤ 4100 by omega)
      refine lv_istore C.1 C.2.1 dX2_add_83 hl (by decide) rfl (fun ls hl => ?_)
      have hl : lv_has ls 8 [(7, .int (ii m)), (6, .int (ii V)), (5, .int (ii (((v : Int) - (y : Int)) + (p : Int)))), (0, .ref hm), (1, .int (ii (x : Int))), (2, .int (ii (y : Int))), (3, .int (ii (u : Int))), (4, .int (ii (v : Int)))] := hl
      refine lv_aload_n C.1 C.2.1 dX2_add_85 rfl (lv_at hl 3 rfl) ?_
      refine lv_iload C.1 C.2.1 dX2_add_86 (lv_at hl 0 rfl) ?_
      refine lv_iload C.1 C.2.1 dX2_add_88 (lv_at hl 0 rfl) ?_
      refine i_mul C dX2_add_90 ?_
      refine i_const C dX2_add_91 ?_
      refine lv_aload_n C.1 C.2.1 dX2_add_92 rfl (lv_at hl 3 rfl) ?_
      refine gf C hK hP 0 rfl rfl aw_uX2 0 (by decide) aw_f_X2_41 rfl dX2_add_93 ?_
      refine i_mul C dX2_add_96 ?_
      refine i_add C dX2_add_97 ?_
      refine lv_iload_n C.1 C.2.1 dX2_add_98 rfl (lv_at hl 4 rfl) ?_
      refine i_sub C dX2_add_99 ?_
      refine lv_iload_n C.1 C.2.1 dX2_add_100 rfl (lv_at hl 6 rfl) ?_
      refine i_sub C dX2_add_101 ?_
      refine lv_aload_n C.1 C.2.1 dX2_add_102 rfl (lv_at hl 3 rfl) ?_
      refine gf C hK hP 0 rfl rfl aw_uX2 0 (by decide) aw_f_X2_41 rfl dX2_add_103 ?_
      refine i_rem C dX2_add_106 ⟨by omega, by omega⟩ ⟨by omega, by omega⟩ ?_
      refine i_top (b := X) ex.symm ?_
      refine p_f C hK hP hD hS 0 rfl rfl aw_uX2 tyX2 tyX2_ok nmX2 11 (by decide) aw_f_X2_48 rfl rfl rfl (Nat.le_of_ble_eq_true rfl) dX2_add_107 (fun H1 locs1 hP hD hS => ?_)
      have hP : va_P D clX [(hm, .inr (2, MO (p : Int) (a : Int) (b : Int) n key dr th hX hY hR hO (ii X) sy dk dv))] H1 := hP
      have hD : va_D A [(hm, .inr (2, MO (p : Int) (a : Int) (b : Int) n key dr th hX hY hR hO (ii X) sy dk dv))] := hD
      refine lv_aload_n C.1 C.2.1 dX2_add_110 rfl (lv_at hl 3 rfl) ?_
      refine lv_iload C.1 C.2.1 dX2_add_111 (lv_at hl 0 rfl) ?_
      refine lv_iload_n C.1 C.2.1 dX2_add_113 rfl (lv_at hl 4 rfl) ?_
      refine lv_aload_n C.1 C.2.1 dX2_add_114 rfl (lv_at hl 3 rfl) ?_
      refine gf C hK hP 0 rfl rfl aw_uX2 11 (by decide) aw_f_X2_48 rfl dX2_add_115 ?_
      refine i_sub C dX2_add_118 ?_
      refine lv_aload_n C.1 C.2.1 dX2_add_119 rfl (lv_at hl 3 rfl) ?_
      refine gf C hK hP 0 rfl rfl aw_uX2 0 (by decide) aw_f_X2_41 rfl dX2_add_120 ?_
      refine i_add C dX2_add_123 ?_
      refine i_mul C dX2_add_124 ?_
      refine lv_aload_n C.1 C.2.1 dX2_add_125 rfl (lv_at hl 3 rfl) ?_
      refine gf C hK hP 0 rfl rfl aw_uX2 0 (by decide) aw_f_X2_41 rfl dX2_add_126 ?_
      refine i_add C dX2_add_129 ?_
      refine lv_iload_n C.1 C.2.1 dX2_add_130 rfl (lv_at hl 5 rfl) ?_
      refine i_sub C dX2_add_131 ?_
      refine lv_aload_n C.1 C.2.1 dX2_add_132 rfl (lv_at hl 3 rfl) ?_
      refine gf C hK hP 0 rfl rfl aw_uX2 0 (by decide) aw_f_X2_41 rfl dX2_add_133 ?_
      refine i_rem C dX2_add_136 ⟨by omega, by omega⟩ ⟨by omega, by omega⟩ ?_
      refine i_top (b := Y) ey.symm ?_
      refine p_f C hK hP hD hS 0 rfl rfl aw_uX2 tyX2 tyX2_ok nmX2 12 (by decide) aw_f_X2_51 rfl rfl rfl (Nat.le_of_ble_eq_true rfl) dX2_add_137 (fun H1 locs1 hP hD hS => ?_)
      have hP : va_P D clX [(hm, .inr (2, MO (p : Int) (a : Int) (b : Int) n key dr th hX hY hR hO (ii X) (ii Y) dk dv))] H1 := hP
      have hD : va_D A [(hm, .inr (2, MO (p : Int) (a : Int) (b : Int) n key dr th hX hY hR hO (ii X) (ii Y) dk dv))] := hD
      exact pz_v C hr hk hS trivial (fun t ht hvm => ⟨by rw [ht]; exact hP, va_K.moved hvm hK, hD⟩) dX2_add_140 (by decide) (by decide)
    · omega
  · refine i_const C dX2_add_5 ?_
    refine lv_iload_n C.1 C.2.1 dX2_add_6 rfl (lv_at hl 1 rfl) ?_
    refine i_mul C dX2_add_7 ?_
    refine lv_iload_n C.1 C.2.1 dX2_add_8 rfl (lv_at hl 1 rfl) ?_
    refine i_mul C dX2_add_9 ?_
    refine lv_aload_n C.1 C.2.1 dX2_add_10 rfl (lv_at hl 0 rfl) ?_
    refine gf C hK hP 0 rfl rfl aw_uX2 1 (by decide) aw_f_X2_38 rfl dX2_add_11 ?_
    refine i_add C dX2_add_14 ?_
    refine lv_goto (tgt := 27) C.1 C.2.1 dX2_add_15 (by decide) ?_
    refine lv_istore C.1 C.2.1 dX2_add_27 hl (by decide) rfl (fun ls hl => ?_)
    have hl : lv_has ls 8 [(5, .int (ii (((3 * (x : Int)) * (x : Int)) + (a : Int)))), (0, .ref hm), (1, .int (ii (x : Int))), (2, .int (ii (y : Int))), (3, .int (ii (u : Int))), (4, .int (ii (v : Int)))] := hl
    refine lv_iload_n C.1 C.2.1 dX2_add_29 rfl (lv_at hl 2 rfl) ?_
    refine lv_iload_n C.1 C.2.1 dX2_add_30 rfl (lv_at hl 4 rfl) ?_
    refine i_icmp_ne (tgt := 45) C dX2_add_31 (by decide) ⟨by omega, by omega⟩ ⟨by omega, by omega⟩ (fun h2 => ?_) (fun h2 => ?_)
    · omega
    · refine i_const C dX2_add_34 ?_
      refine lv_iload_n C.1 C.2.1 dX2_add_35 rfl (lv_at hl 3 rfl) ?_
      refine i_mul C dX2_add_36 ?_
      refine lv_aload_n C.1 C.2.1 dX2_add_37 rfl (lv_at hl 1 rfl) ?_
      refine gf C hK hP 0 rfl rfl aw_uX2 0 (by decide) aw_f_X2_41 rfl dX2_add_38 ?_
      refine i_rem C dX2_add_41 ⟨by omega, by omega⟩ ⟨by omega, by omega⟩ ?_
      refine lv_goto (tgt := 58) C.1 C.2.1 dX2_add_42 (by decide) ?_
      refine i_top (b := V) (by rw [ed, if_pos (show (x : Int) = (u : Int) by omega)]) ?_
      have v1 : 0 ≤ V ∧ V < (p : Int) := by
        rw [ed, if_pos (show (x : Int) = (u : Int) by omega)]
        exact em_b _ (by omega)
      refine lv_istore C.1 C.2.1 dX2_add_58 hl (by decide) rfl (fun ls hl => ?_)
      have hl : lv_has ls 8 [(6, .int (ii V)), (5, .int (ii (((3 * (x : Int)) * (x : Int)) + (a : Int)))), (0, .ref hm), (1, .int (ii (x : Int))), (2, .int (ii (y : Int))), (3, .int (ii (u : Int))), (4, .int (ii (v : Int)))] := hl
      refine lv_iload C.1 C.2.1 dX2_add_60 (lv_at hl 1 rfl) ?_
      refine i_top (b := U) (by rw [eu, if_pos (show (x : Int) = (u : Int) by omega)]) ?_
      have u1 : 0 ≤ U ∧ U ≤ 20000000 := by
        rw [eu, if_pos (show (x : Int) = (u : Int) by omega)]
        omega
      have u2 := em_b U (show (0 : Int) < p by omega)
      have i1 := ivF_b V.toNat p 1100 1
      have b1 := imul_b (show 0 ≤ U % (p : Int) ∧ U % (p : Int) ≤ 4100 by omega) (show 0 ≤ ((ivF V.toNat p 1100 1 : Nat) : Int) ∧ ((ivF V.toNat p 1100 1 : Nat) : Int) ≤ 4100 by omega)
      refine lv_aload_n C.1 C.2.1 dX2_add_62 rfl (lv_at hl 2 rfl) ?_
      refine gf C hK hP 0 rfl rfl aw_uX2 0 (by decide) aw_f_X2_41 rfl dX2_add_63 ?_
      refine i_rem C dX2_add_66 ⟨by omega, by omega⟩ ⟨by omega, by omega⟩ ?_
      refine lv_aload_n C.1 C.2.1 dX2_add_67 rfl (lv_at hl 2 rfl) ?_
      refine lv_iload C.1 C.2.1 dX2_add_68 (lv_at hl 0 rfl) ?_
      refine i_top (b := ((V.toNat : Nat) : Int)) (by omega) ?_
      refine lv_aload_n C.1 C.2.1 dX2_add_70 rfl (lv_at hl 2 rfl) ?_
      refine gf C hK hP 0 rfl rfl aw_uX2 0 (by decide) aw_f_X2_41 rfl dX2_add_71 ?_
      refine ca_V (As := [.int (ii ((V.toNat : Nat) : Int)), .int (ii (p : Int))]) (rest := [.int (ii (U % (p : Int)))]) C (c_X2_inverse l D hm V.toNat p (by omega) (by omega)) (pcw_preV0 [.int (ii ((V.toNat : Nat) : Int)), .int (ii (p : Int))] hN hP hK 0 (ci := 2) rfl rfl) aw_b_X2_inverse aw_m_X2_44 aw_v_X2_inverse aw_i_X2 aw_e_X2_inverse ⟨rfl, rfl⟩ 2 (by decide +kernel) rfl ⟨by decide, by decide⟩ hl.1 rfl (Nat.le_of_ble_eq_true rfl) dX2_add_74 ⟨by decide, by decide⟩ ?_
      refine i_mul C dX2_add_77 ?_
      refine lv_aload_n C.1 C.2.1 dX2_add_78 rfl (lv_at hl 2 rfl) ?_
      refine gf C hK hP 0 rfl rfl aw_uX2 0 (by decide) aw_f_X2_41 rfl dX2_add_79 ?_
      refine i_rem C dX2_add_82 ⟨by omega, by omega⟩ ⟨by omega, by omega⟩ ?_
      refine i_top (b := m) em.symm ?_
      have b2 := imul_b (show 0 ≤ m ∧ m ≤ 4100 by omega) (show 0 ≤ m ∧ m ≤ 4100 by omega)
      have b3 := imul_b (show 0 ≤ m ∧ m ≤ 4100 by omega) (show 0 ≤ (x : Int) - X + (p : Int) ∧ (x : Int) - X + (p : Int) ≤ 4100 by omega)
      refine lv_istore C.1 C.2.1 dX2_add_83 hl (by decide) rfl (fun ls hl => ?_)
      have hl : lv_has ls 8 [(7, .int (ii m)), (6, .int (ii V)), (5, .int (ii (((3 * (x : Int)) * (x : Int)) + (a : Int)))), (0, .ref hm), (1, .int (ii (x : Int))), (2, .int (ii (y : Int))), (3, .int (ii (u : Int))), (4, .int (ii (v : Int)))] := hl
      refine lv_aload_n C.1 C.2.1 dX2_add_85 rfl (lv_at hl 3 rfl) ?_
      refine lv_iload C.1 C.2.1 dX2_add_86 (lv_at hl 0 rfl) ?_
      refine lv_iload C.1 C.2.1 dX2_add_88 (lv_at hl 0 rfl) ?_
      refine i_mul C dX2_add_90 ?_
      refine i_const C dX2_add_91 ?_
      refine lv_aload_n C.1 C.2.1 dX2_add_92 rfl (lv_at hl 3 rfl) ?_
      refine gf C hK hP 0 rfl rfl aw_uX2 0 (by decide) aw_f_X2_41 rfl dX2_add_93 ?_
      refine i_mul C dX2_add_96 ?_
      refine i_add C dX2_add_97 ?_
      refine lv_iload_n C.1 C.2.1 dX2_add_98 rfl (lv_at hl 4 rfl) ?_
      refine i_sub C dX2_add_99 ?_
      refine lv_iload_n C.1 C.2.1 dX2_add_100 rfl (lv_at hl 6 rfl) ?_
      refine i_sub C dX2_add_101 ?_
      refine lv_aload_n C.1 C.2.1 dX2_add_102 rfl (lv_at hl 3 rfl) ?_
      refine gf C hK hP 0 rfl rfl aw_uX2 0 (by decide) aw_f_X2_41 rfl dX2_add_103 ?_
      refine i_rem C dX2_add_106 ⟨by omega, by omega⟩ ⟨by omega, by omega⟩ ?_
      refine i_top (b := X) ex.symm ?_
      refine p_f C hK hP hD hS 0 rfl rfl aw_uX2 tyX2 tyX2_ok nmX2 11 (by decide) aw_f_X2_48 rfl rfl rfl (Nat.le_of_ble_eq_true rfl) dX2_add_107 (fun H1 locs1 hP hD hS => ?_)
      have hP : va_P D clX [(hm, .inr (2, MO (p : Int) (a : Int) (b : Int) n key dr th hX hY hR hO (ii X) sy dk dv))] H1 := hP
      have hD : va_D A [(hm, .inr (2, MO (p : Int) (a : Int) (b : Int) n key dr th hX hY hR hO (ii X) sy dk dv))] := hD
      refine lv_aload_n C.1 C.2.1 dX2_add_110 rfl (lv_at hl 3 rfl) ?_
      refine lv_iload C.1 C.2.1 dX2_add_111 (lv_at hl 0 rfl) ?_
      refine lv_iload_n C.1 C.2.1 dX2_add_113 rfl (lv_at hl 4 rfl) ?_
      refine lv_aload_n C.1 C.2.1 dX2_add_114 rfl (lv_at hl 3 rfl) ?_
      refine gf C hK hP 0 rfl rfl aw_uX2 11 (by decide) aw_f_X2_48 rfl dX2_add_115 ?_
      refine i_sub C dX2_add_118 ?_
      refine lv_aload_n C.1 C.2.1 dX2_add_119 rfl (lv_at hl 3 rfl) ?_
      refine gf C hK hP 0 rfl rfl aw_uX2 0 (by decide) aw_f_X2_41 rfl dX2_add_120 ?_
      refine i_add C dX2_add_123 ?_
      refine i_mul C dX2_add_124 ?_
      refine lv_aload_n C.1 C.2.1 dX2_add_125 rfl (lv_at hl 3 rfl) ?_
      refine gf C hK hP 0 rfl rfl aw_uX2 0 (by decide) aw_f_X2_41 rfl dX2_add_126 ?_
      refine i_add C dX2_add_129 ?_
      refine lv_iload_n C.1 C.2.1 dX2_add_130 rfl (lv_at hl 5 rfl) ?_
      refine i_sub C dX2_add_131 ?_
      refine lv_aload_n C.1 C.2.1 dX2_add_132 rfl (lv_at hl 3 rfl) ?_
      refine gf C hK hP 0 rfl rfl aw_uX2 0 (by decide) aw_f_X2_41 rfl dX2_add_133 ?_
      refine i_rem C dX2_add_136 ⟨by omega, by omega⟩ ⟨by omega, by omega⟩ ?_
      refine i_top (b := Y) ey.symm ?_
      refine p_f C hK hP hD hS 0 rfl rfl aw_uX2 tyX2 tyX2_ok nmX2 12 (by decide) aw_f_X2_51 rfl rfl rfl (Nat.le_of_ble_eq_true rfl) dX2_add_137 (fun H1 locs1 hP hD hS => ?_)
      have hP : va_P D clX [(hm, .inr (2, MO (p : Int) (a : Int) (b : Int) n key dr th hX hY hR hO (ii X) (ii Y) dk dv))] H1 := hP
      have hD : va_D A [(hm, .inr (2, MO (p : Int) (a : Int) (b : Int) n key dr th hX hY hR hO (ii X) (ii Y) dk dv))] := hD
      exact pz_v C hr hk hS trivial (fun t ht hvm => ⟨by rw [ht]; exact hP, va_K.moved hvm hK, hD⟩) dX2_add_140 (by decide) (by decide)
def crF (pp aa bb : Int) : Int := if pp < 5 then 0 else if 1021 < pp then 0 else if pmF pp.toNat 1100 2 (if pp.toNat < 2 then 0 else 1) = 0 then 0 else if aa < 0 then 0 else if pp ≤ aa then 0 else if bb < 0 then 0 else if pp ≤ bb then 0 else if (4 * aa * aa * aa + 27 * bb * bb) % pp = 0 then 0 else 1
noncomputable def coF (pp aa bb : Int) : Nat := if crF pp aa bb = 0 then 0 else cnt pp.toNat aa.toNat bb.toNat
theorem rc_at {p k : Nat} {g : Nat → Int32} (hg : ∀ v, v < p → g v = ii ((rc p k v : Nat) : Int)) : ∀ v, v < p → va_up g (k * k % p) (ii ((rc p k (k * k % p) : Nat) + 1)) v = ii ((rc p (k + 1) v : Nat) : Int) := by
  intro v hv
  have e := congrFun (rc_up p k) v
  rw [← e]
  unfold va_up
  split
  · rfl
  · exact hg v hv
theorem lmul_b {u v : Int} (h1 : 0 ≤ u ∧ u ≤ 5000000000) (h2 : 0 ≤ v ∧ v ≤ 4000) : 0 ≤ u * v ∧ u * v ≤ 20000000000000 := ⟨Int.mul_nonneg h1.1 h2.1, Int.mul_le_mul h1.2 h2.2 h2.1 (by omega)⟩
set_option maxRecDepth 100000 in
set_option maxHeartbeats 4000000 in
theorem c_X2_count (l : Launch) (D : va_G) (z0 sz : Nat) (hm : Nat) (p a b : Int) (n : Nat) (key dr th : Int) (hX hY hR hO : Nat) (sx sy dk dv : Int32) (cO : ClassId) (g0 : Nat → Int32) (pp aa bb : Int) (hp1 : rg pp) (ha1 : rg aa) (hb1 : rg bb) : Met l yX2_count (Cond.code yX2_count cX2_count 8 (some .int) :: AW) ({ frames := 1, cells := 0, slots := 0, locals := 30 } : Room) (PcM D z0 sz [(hm, .inr (2, MO p a b n key dr th hX hY hR hO sx sy dk dv)), (hO, .inl (cO, 1024, .inl g0))] [(cO, .int)] [.ref hm, .int (ii pp), .int (ii aa), .int (ii bb)]) (QcM (some (.int (ii ((coF pp aa bb : Nat) : Int)))) True (fun t => ∃ g, (crF pp aa bb ≠ 0 → ∀ v, v < pp.toNat → g v = ii ((rc pp.toNat pp.toNat v : Nat) : Int)) ∧ Wd D [(hm, .inr (2, MO p a b n key dr th hX hY hR hO sx sy dk dv)), (hO, .inl (cO, 1024, .inl g))] [(cO, .int)] (va_A [(hm, .inr (2, MO p a b n key dr th hX hY hR hO sx sy dk dv)), (hO, .inl (cO, 1024, .inl g0))] sz) t) (va_A [(hm, .inr (2, MO p a b n key dr th hX hY hR hO sx sy dk dv)), (hO, .inl (cO, 1024, .inl g0))] sz)) 0 0 (va_A [(hm, .inr (2, MO p a b n key dr th hX hY hR hO sx sy dk dv)), (hO, .inl (cO, 1024, .inl g0))] sz) := by
  refine mt_N (by decide +kernel) (Nat.le_of_ble_eq_true rfl) ?_
  intro P0 E0 S0 M0 A0 B0 T0 K0 C hN hZ hsz hz hP hK hD hAz hA hr hk hin ls hl
  have hl : lv_has ls 8 [(0, .ref hm), (1, .int (ii pp)), (2, .int (ii aa)), (3, .int (ii bb))] := hl
  generalize hAe : va_A [(hm, .inr (2, MO p a b n key dr th hX hY hR hO sx sy dk dv)), (hO, .inl (cO, 1024, .inl g0))] sz = A at hD hAz hA ⊢
  have hS : va_S A S0.heap S0.heap [] := va_S.rf
  refine lv_iload_n C.1 C.2.1 dX2_count_0 rfl (lv_at hl 1 rfl) ?_
  refine i_const C dX2_count_1 ?_
  refine i_icmp_lt (tgt := 38) C dX2_count_2 (by decide) ⟨by omega, by omega⟩ ⟨by omega, by omega⟩ (fun h1 => ?_) (fun h1 => ?_)
  · have e0 : crF pp aa bb = 0 := by
      unfold crF
      rw [if_pos (show pp < 5 by omega)]
    have e1 : coF pp aa bb = 0 := if_pos e0
    rw [e1]
    refine i_const C dX2_count_38 ?_
    exact pz_i C hr hk hS trivial (fun t ht hvm => ⟨g0, fun z => absurd e0 z, by rw [ht]; exact hP, va_K.moved hvm hK, hD⟩) dX2_count_39 rfl (by decide) (by decide)
  · refine lv_iload_n C.1 C.2.1 dX2_count_5 rfl (lv_at hl 1 rfl) ?_
    refine i_sipush C dX2_count_6 (by decide +kernel) ?_
    refine i_icmp_gt (tgt := 38) C dX2_count_9 (by decide) ⟨by omega, by omega⟩ ⟨by omega, by omega⟩ (fun h2 => ?_) (fun h2 => ?_)
    · have e0 : crF pp aa bb = 0 := by
        unfold crF
        rw [if_neg (show ¬ pp < 5 by omega), if_pos (show 1021 < pp by omega)]
      have e1 : coF pp aa bb = 0 := if_pos e0
      rw [e1]
      refine i_const C dX2_count_38 ?_
      exact pz_i C hr hk hS trivial (fun t ht hvm => ⟨g0, fun z => absurd e0 z, by rw [ht]; exact hP, va_K.moved hvm hK, hD⟩) dX2_count_39 rfl (by decide) (by decide)
    · refine lv_aload_n C.1 C.2.1 dX2_count_12 rfl (lv_at hl 0 rfl) ?_
      refine lv_iload_n C.1 C.2.1 dX2_count_13 rfl (lv_at hl 1 rfl) ?_
      refine i_top (b := ((pp.toNat : Nat) : Int)) (by omega) ?_
      refine ca_V (As := [.int (ii ((pp.toNat : Nat) : Int))]) (rest := []) C (c_X2_prime l D hm pp.toNat (by omega)) (pcw_preV0 [.int (ii ((pp.toNat : Nat) : Int))] hN hP hK 0 (ci := 2) rfl rfl) aw_b_X2_prime aw_m_X2_26 aw_v_X2_prime aw_i_X2 aw_e_X2_prime ⟨rfl, rfl⟩ 1 (by decide +kernel) rfl ⟨by decide, by decide⟩ hl.1 rfl (Nat.le_of_ble_eq_true rfl) dX2_count_14 ⟨by decide, by decide⟩ ?_
      have pb := pmF_b pp.toNat 1100 2 (if pp.toNat < 2 then 0 else 1) (by split <;> omega)
      generalize hpq : pmF pp.toNat 1100 2 (if pp.toNat < 2 then 0 else 1) = pv at pb ⊢
      refine i_if_eq (tgt := 38) C dX2_count_17 (by decide) ⟨by omega, by omega⟩ (fun h3 => ?_) (fun h3 => ?_)
      · have hpm : pmF pp.toNat 1100 2 (if pp.toNat < 2 then 0 else 1) = 0 := by omega
        have e0 : crF pp aa bb = 0 := by
          unfold crF
          rw [if_neg (show ¬ pp < 5 by omega), if_neg (show ¬ 1021 < pp by omega), if_pos hpm]
        have e1 : coF pp aa bb = 0 := if_pos e0
        rw [e1]
        refine i_const C dX2_count_38 ?_
        exact pz_i C hr hk hS trivial (fun t ht hvm => ⟨g0, fun z => absurd e0 z, by rw [ht]; exact hP, va_K.moved hvm hK, hD⟩) dX2_count_39 rfl (by decide) (by decide)
      · have hpm : ¬ pmF pp.toNat 1100 2 (if pp.toNat < 2 then 0 else 1) = 0 := by omega
        refine lv_iload_n C.1 C.2.1 dX2_count_20 rfl (lv_at hl 2 rfl) ?_
        refine i_if_lt (tgt := 38) C dX2_count_21 (by decide) ⟨by omega, by omega⟩ (fun h4 => ?_) (fun h4 => ?_)
        · have e0 : crF pp aa bb = 0 := by
            unfold crF
            rw [if_neg (show ¬ pp < 5 by omega), if_neg (show ¬ 1021 < pp by omega), if_neg hpm, if_pos (show aa < 0 by omega)]
          have e1 : coF pp aa bb = 0 := if_pos e0
          rw [e1]
          refine i_const C dX2_count_38 ?_
          exact pz_i C hr hk hS trivial (fun t ht hvm => ⟨g0, fun z => absurd e0 z, by rw [ht]; exact hP, va_K.moved hvm hK, hD⟩) dX2_count_39 rfl (by decide) (by decide)
        · refine lv_iload_n C.1 C.2.1 dX2_count_24 rfl (lv_at hl 2 rfl) ?_
          refine lv_iload_n C.1 C.2.1 dX2_count_25 rfl (lv_at hl 1 rfl) ?_
          refine i_icmp_ge (tgt := 38) C dX2_count_26 (by decide) ⟨by omega, by omega⟩ ⟨by omega, by omega⟩ (fun h5 => ?_) (fun h5 => ?_)
          · have e0 : crF pp aa bb = 0 := by
              unfold crF
              rw [if_neg (show ¬ pp < 5 by omega), if_neg (show ¬ 1021 < pp by omega), if_neg hpm, if_neg (show ¬ aa < 0 by omega), if_pos (show pp ≤ aa by omega)]
            have e1 : coF pp aa bb = 0 := if_pos e0
            rw [e1]
            refine i_const C dX2_count_38 ?_
            exact pz_i C hr hk hS trivial (fun t ht hvm => ⟨g0, fun z => absurd e0 z, by rw [ht]; exact hP, va_K.moved hvm hK, hD⟩) dX2_count_39 rfl (by decide) (by decide)
          · refine lv_iload_n C.1 C.2.1 dX2_count_29 rfl (lv_at hl 3 rfl) ?_
            refine i_if_lt (tgt := 38) C dX2_count_30 (by decide) ⟨by omega, by omega⟩ (fun h6 => ?_) (fun h6 => ?_)
            · have e0 : crF pp aa bb = 0 := by
                unfold crF
                rw [if_neg (show ¬ pp < 5 by omega), if_neg (show ¬ 1021 < pp by omega), if_neg hpm, if_neg (show ¬ aa < 0 by omega), if_neg (show ¬ pp ≤ aa by omega), if_pos (show bb < 0 by omega)]
              have e1 : coF pp aa bb = 0 := if_pos e0
              rw [e1]
              refine i_const C dX2_count_38 ?_
              exact pz_i C hr hk hS trivial (fun t ht hvm => ⟨g0, fun z => absurd e0 z, by rw [ht]; exact hP, va_K.moved hvm hK, hD⟩) dX2_count_39 rfl (by decide) (by decide)
            · refine lv_iload_n C.1 C.2.1 dX2_count_33 rfl (lv_at hl 3 rfl) ?_
              refine lv_iload_n C.1 C.2.1 dX2_count_34 rfl (lv_at hl 1 rfl) ?_
              refine i_icmp_lt (tgt := 40) C dX2_count_35 (by decide) ⟨by omega, by omega⟩ ⟨by omega, by omega⟩ (fun h7 => ?_) (fun h7 => ?_)
              · have b1 : 0 ≤ 4 * aa * aa ∧ 4 * aa * aa ≤ 16810000 := imul_b (by omega) (by omega)
                have b2 := lmul_b (show 0 ≤ 4 * aa * aa ∧ 4 * aa * aa ≤ 5000000000 by omega) (show 0 ≤ aa ∧ aa ≤ 4000 by omega)
                have b3 := lmul_b (show 0 ≤ 27 * bb ∧ 27 * bb ≤ 5000000000 by omega) (show 0 ≤ bb ∧ bb ≤ 4000 by omega)
                have b4 := em_b (4 * aa * aa * aa + 27 * bb * bb) (show 0 < pp by omega)
                refine l_ldc2 (n := 4) C dX2_count_40 aw_k_X2_30 (by decide +kernel) ?_
                refine lv_iload_n C.1 C.2.1 dX2_count_43 rfl (lv_at hl 2 rfl) ?_
                refine l_i2l C dX2_count_44 ⟨by omega, by omega⟩ ?_
                refine l_mul C dX2_count_45 ?_
                refine lv_iload_n C.1 C.2.1 dX2_count_46 rfl (lv_at hl 2 rfl) ?_
                refine l_i2l C dX2_count_47 ⟨by omega, by omega⟩ ?_
                refine l_mul C dX2_count_48 ?_
                refine lv_iload_n C.1 C.2.1 dX2_count_49 rfl (lv_at hl 2 rfl) ?_
                refine l_i2l C dX2_count_50 ⟨by omega, by omega⟩ ?_
                refine l_mul C dX2_count_51 ?_
                refine l_ldc2 (n := 27) C dX2_count_52 aw_k_X2_32 (by decide +kernel) ?_
                refine lv_iload_n C.1 C.2.1 dX2_count_55 rfl (lv_at hl 3 rfl) ?_
                refine l_i2l C dX2_count_56 ⟨by omega, by omega⟩ ?_
                refine l_mul C dX2_count_57 ?_
                refine lv_iload_n C.1 C.2.1 dX2_count_58 rfl (lv_at hl 3 rfl) ?_
                refine l_i2l C dX2_count_59 ⟨by omega, by omega⟩ ?_
                refine l_mul C dX2_count_60 ?_
                refine l_add C dX2_count_61 ?_
                refine lv_lstore C.1 C.2.1 dX2_count_62 hl (by decide) rfl (fun ls hl => ?_)
                have hl : lv_has ls 8 [(4, .long (li ((((4 * aa) * aa) * aa) + ((27 * bb) * bb)))), (0, .ref hm), (1, .int (ii pp)), (2, .int (ii aa)), (3, .int (ii bb))] := hl
                refine lv_lload C.1 C.2.1 dX2_count_64 (lv_at hl 0 rfl) ?_
                refine lv_iload_n C.1 C.2.1 dX2_count_66 rfl (lv_at hl 2 rfl) ?_
                refine l_i2l C dX2_count_67 ⟨by omega, by omega⟩ ?_
                refine l_rem C dX2_count_68 ⟨by omega, by omega⟩ ⟨by omega, by omega⟩ ?_
                refine l_const0 C dX2_count_69 ?_
                refine l_cmp C dX2_count_70 ⟨by omega, by omega⟩ ⟨by omega, by omega⟩ ?_
                have cb70 := cmI_b ((4 * aa * aa * aa + 27 * bb * bb) % pp) 0
                have ce70 := cmI_eq (a := (4 * aa * aa * aa + 27 * bb * bb) % pp) (b := 0)
                have cl70 := cmI_lt (a := (4 * aa * aa * aa + 27 * bb * bb) % pp) (b := 0)
                refine i_if_ne (tgt := 76) C dX2_count_71 (by decide) ⟨by omega, by omega⟩ (fun h8 => ?_) (fun h8 => ?_)
                · have hl : lv_has ls 8 [(0, .ref hm), (1, .int (ii pp)), (2, .int (ii aa)), (3, .int (ii bb))] := (lv_sub (l' := [(0, .ref hm), (1, .int (ii pp)), (2, .int (ii aa)), (3, .int (ii bb))]) hl [1, 2, 3, 4] rfl)
                  have e0 : crF pp aa bb = 1 := by
                    unfold crF
                    rw [if_neg (show ¬ pp < 5 by omega), if_neg (show ¬ 1021 < pp by omega), if_neg hpm, if_neg (show ¬ aa < 0 by omega), if_neg (show ¬ pp ≤ aa by omega), if_neg (show ¬ bb < 0 by omega), if_neg (show ¬ pp ≤ bb by omega), if_neg (show ¬ (4 * aa * aa * aa + 27 * bb * bb) % pp = 0 by omega)]
                  have e1 : coF pp aa bb = cnt pp.toNat aa.toNat bb.toNat := if_neg (by omega)
                  rw [e1, e0]
                  clear e0 e1 hpq hpm pb
                  obtain ⟨p1, rfl⟩ : ∃ p1 : Nat, pp = p1 := ⟨pp.toNat, by omega⟩
                  obtain ⟨a1, rfl⟩ : ∃ a1 : Nat, aa = a1 := ⟨aa.toNat, by omega⟩
                  obtain ⟨b1, rfl⟩ : ∃ b1 : Nat, bb = b1 := ⟨bb.toNat, by omega⟩
                  rw [Int.toNat_natCast, Int.toNat_natCast, Int.toNat_natCast]
                  have loop3 : ∀ (k : Nat) (ls : Array Slot) (H : Heap) (locs : List Loc) (g : Nat → Int32) (x : Nat), x + k = p1 → (∀ v, v < p1 → g v = ii ((rc p1 p1 v : Nat) : Int)) → va_P D clX [(hm, .inr (2, MO p a b n key dr th hX hY hR hO sx sy dk dv)), (hO, .inl (cO, 1024, .inl g))] H → va_D A [(hm, .inr (2, MO p a b n key dr th hX hY hR hO sx sy dk dv)), (hO, .inl (cO, 1024, .inl g))] → va_S A S0.heap H locs → lv_has ls 8 [(0, .ref hm), (1, .int (ii (p1 : Int))), (2, .int (ii (a1 : Int))), (3, .int (ii (b1 : Int))), (6, .int (ii ((cs p1 a1 b1 x : Nat) : Int))), (7, .int (ii (x : Int)))] → W P0 l E0 ({ frames := 1, cells := 0, slots := 0, locals := 30 } : Room) S0 M0 A0 B0 T0 K0 H locs 0 0 (MQ B0 (QcM (some (.int (ii ((cnt p1 a1 b1 : Nat) : Int)))) True (fun t => ∃ g, ((1 : Int) ≠ 0 → ∀ v, v < p1 → g v = ii ((rc p1 p1 v : Nat) : Int)) ∧ Wd D [(hm, .inr (2, MO p a b n key dr th hX hY hR hO sx sy dk dv)), (hO, .inl (cO, 1024, .inl g))] [(cO, .int)] A t) A) A0 S0 0 0 A) (F0 M0 136 ls []) := by
                    intro k
                    induction k with
                    | zero =>
                      intro ls H locs g x hx hg hP hD hS hl
                      have c1 := cs_le p1 a1 b1 x
                      have c2 := Nat.mul_le_mul (show x ≤ 1021 by omega) (show p1 ≤ 1021 by omega)
                      refine lv_iload C.1 C.2.1 dX2_count_136 (lv_at hl 5 rfl) ?_
                      refine lv_iload_n C.1 C.2.1 dX2_count_138 rfl (lv_at hl 1 rfl) ?_
                      refine i_icmp_ge (tgt := 167) C dX2_count_139 (by decide) ⟨by omega, by omega⟩ ⟨by omega, by omega⟩ (fun h1 => ?_) (fun h1 => ?_)
                      · refine lv_iload C.1 C.2.1 dX2_count_167 (lv_at hl 4 rfl) ?_
                        have e : x = p1 := by omega
                        subst e
                        rw [cs_cnt]
                        exact pz_i C hr hk hS trivial (fun t ht hvm => ⟨g, fun _ => hg, by rw [ht]; exact hP, va_K.moved hvm hK, hD⟩) dX2_count_169 rfl (by decide) (by decide)
                      · omega
                    | succ k ih =>
                      intro ls H locs g x hx hg hP hD hS hl
                      have c1 := cs_le p1 a1 b1 x
                      have c2 := Nat.mul_le_mul (show x ≤ 1021 by omega) (show p1 ≤ 1021 by omega)
                      have c3 := rc_le p1 p1 (cub p1 a1 b1 x)
                      have c4 : cub p1 a1 b1 x < p1 := Nat.mod_lt _ (by omega)
                      refine lv_iload C.1 C.2.1 dX2_count_136 (lv_at hl 5 rfl) ?_
                      refine lv_iload_n C.1 C.2.1 dX2_count_138 rfl (lv_at hl 1 rfl) ?_
                      refine i_icmp_ge (tgt := 167) C dX2_count_139 (by decide) ⟨by omega, by omega⟩ ⟨by omega, by omega⟩ (fun h1 => ?_) (fun h1 => ?_)
                      · omega
                      · refine lv_iload C.1 C.2.1 dX2_count_142 (lv_at hl 4 rfl) ?_
                        refine lv_aload_n C.1 C.2.1 dX2_count_144 rfl (lv_at hl 0 rfl) ?_
                        refine gf C hK hP 0 rfl rfl aw_uX2 10 (by decide) aw_f_X2_19 rfl dX2_count_145 ?_
                        refine lv_aload_n C.1 C.2.1 dX2_count_148 rfl (lv_at hl 0 rfl) ?_
                        refine lv_iload C.1 C.2.1 dX2_count_149 (lv_at hl 5 rfl) ?_
                        refine lv_iload_n C.1 C.2.1 dX2_count_151 rfl (lv_at hl 1 rfl) ?_
                        refine lv_iload_n C.1 C.2.1 dX2_count_152 rfl (lv_at hl 2 rfl) ?_
                        refine lv_iload_n C.1 C.2.1 dX2_count_153 rfl (lv_at hl 3 rfl) ?_
                        refine ca_V (As := [.int (ii (x : Int)), .int (ii (p1 : Int)), .int (ii (a1 : Int)), .int (ii (b1 : Int))]) (rest := [.ref hO, .int (ii ((cs p1 a1 b1 x : Nat) : Int))]) C (c_X2_cube l D hm x p1 a1 b1 (by omega) (by omega) (by omega) (by omega)) (pcw_preV0 [.int (ii (x : Int)), .int (ii (p1 : Int)), .int (ii (a1 : Int)), .int (ii (b1 : Int))] hN hP hK 0 (ci := 2) rfl rfl) aw_b_X2_cube aw_m_X2_34 aw_v_X2_cube aw_i_X2 aw_e_X2_cube ⟨rfl, rfl⟩ 4 (by decide +kernel) rfl ⟨by decide, by decide⟩ hl.1 rfl (Nat.le_of_ble_eq_true rfl) dX2_count_154 ⟨by decide, by decide⟩ ?_
                        refine i_ald C hK hP 1 0 rfl rfl (cub p1 a1 b1 x) (by omega) (by omega) (by omega) dX2_count_157 ?_
                        rw [hg _ c4]
                        refine i_add C dX2_count_158 ?_
                        refine i_top (b := ((cs p1 a1 b1 (x + 1) : Nat) : Int)) (by rw [cs_s]; omega) ?_
                        refine lv_istore C.1 C.2.1 dX2_count_159 hl (by decide) rfl (fun ls hl => ?_)
                        have hl : lv_has ls 8 [(6, .int (ii ((cs p1 a1 b1 (x + 1) : Nat) : Int))), (0, .ref hm), (1, .int (ii (p1 : Int))), (2, .int (ii (a1 : Int))), (3, .int (ii (b1 : Int))), (7, .int (ii (x : Int)))] := hl
                        refine lv_iinc C.1 C.2.1 dX2_count_161 hl (k := 5) rfl (ii_add (x : Int) 1) (by decide) rfl (fun ls hl => ?_)
                        have hl : lv_has ls 8 [(7, .int (ii ((x : Int) + 1))), (6, .int (ii ((cs p1 a1 b1 (x + 1) : Nat) : Int))), (0, .ref hm), (1, .int (ii (p1 : Int))), (2, .int (ii (a1 : Int))), (3, .int (ii (b1 : Int)))] := hl
                        refine lv_goto (tgt := 136) C.1 C.2.1 dX2_count_164 (by decide) ?_
                        exact ih ls H locs g (x + 1) (by omega) hg hP hD hS (lv_sub (l' := [(0, .ref hm), (1, .int (ii (p1 : Int))), (2, .int (ii (a1 : Int))), (3, .int (ii (b1 : Int))), (6, .int (ii ((cs p1 a1 b1 (x + 1) : Nat) : Int))), (7, .int (ii ((x : Int) + 1)))]) hl [2, 3, 4, 5, 1, 0] rfl)
                  have loop2 : ∀ (k : Nat) (ls : Array Slot) (H : Heap) (locs : List Loc) (g : Nat → Int32) (y : Nat), y + k = p1 → (∀ v, v < p1 → g v = ii ((rc p1 y v : Nat) : Int)) → va_P D clX [(hm, .inr (2, MO p a b n key dr th hX hY hR hO sx sy dk dv)), (hO, .inl (cO, 1024, .inl g))] H → va_D A [(hm, .inr (2, MO p a b n key dr th hX hY hR hO sx sy dk dv)), (hO, .inl (cO, 1024, .inl g))] → va_S A S0.heap H locs → lv_has ls 8 [(0, .ref hm), (1, .int (ii (p1 : Int))), (2, .int (ii (a1 : Int))), (3, .int (ii (b1 : Int))), (6, .int (ii (y : Int)))] → W P0 l E0 ({ frames := 1, cells := 0, slots := 0, locals := 30 } : Room) S0 M0 A0 B0 T0 K0 H locs 0 0 (MQ B0 (QcM (some (.int (ii ((cnt p1 a1 b1 : Nat) : Int)))) True (fun t => ∃ g, ((1 : Int) ≠ 0 → ∀ v, v < p1 → g v = ii ((rc p1 p1 v : Nat) : Int)) ∧ Wd D [(hm, .inr (2, MO p a b n key dr th hX hY hR hO sx sy dk dv)), (hO, .inl (cO, 1024, .inl g))] [(cO, .int)] A t) A) A0 S0 0 0 A) (F0 M0 102 ls []) := by
                    intro k
                    induction k with
                    | zero =>
                      intro ls H locs g y hy hg hP hD hS hl
                      refine lv_iload C.1 C.2.1 dX2_count_102 (lv_at hl 4 rfl) ?_
                      refine lv_iload_n C.1 C.2.1 dX2_count_104 rfl (lv_at hl 1 rfl) ?_
                      refine i_icmp_ge (tgt := 130) C dX2_count_105 (by decide) ⟨by omega, by omega⟩ ⟨by omega, by omega⟩ (fun h1 => ?_) (fun h1 => ?_)
                      · have e : p1 = y := by omega
                        subst e
                        refine i_const C dX2_count_130 ?_
                        refine lv_istore C.1 C.2.1 dX2_count_131 hl (by decide) rfl (fun ls hl => ?_)
                        have hl : lv_has ls 8 [(6, .int (ii 1)), (0, .ref hm), (1, .int (ii (p1 : Int))), (2, .int (ii (a1 : Int))), (3, .int (ii (b1 : Int)))] := hl
                        refine i_const C dX2_count_133 ?_
                        refine lv_istore C.1 C.2.1 dX2_count_134 hl (by decide) rfl (fun ls hl => ?_)
                        have hl : lv_has ls 8 [(7, .int (ii 0)), (6, .int (ii 1)), (0, .ref hm), (1, .int (ii (p1 : Int))), (2, .int (ii (a1 : Int))), (3, .int (ii (b1 : Int)))] := hl
                        have hl : lv_has ls 8 [(0, .ref hm), (1, .int (ii (p1 : Int))), (2, .int (ii (a1 : Int))), (3, .int (ii (b1 : Int))), (6, .int (ii ((cs p1 a1 b1 0 : Nat) : Int))), (7, .int (ii ((0 : Nat) : Int)))] := lv_sub hl [2, 3, 4, 5, 1, 0] rfl
                        exact loop3 p1 ls H locs g 0 (by omega) hg hP hD hS hl
                      · omega
                    | succ k ih =>
                      intro ls H locs g y hy hg hP hD hS hl
                      have c1 := rc_le p1 y (y * y % p1)
                      have c2 := nmul_b (show y ≤ 1100 by omega) (show y ≤ 1100 by omega)
                      have c3 := Nat.mod_lt (y * y) (show 0 < p1 by omega)
                      refine lv_iload C.1 C.2.1 dX2_count_102 (lv_at hl 4 rfl) ?_
                      refine lv_iload_n C.1 C.2.1 dX2_count_104 rfl (lv_at hl 1 rfl) ?_
                      refine i_icmp_ge (tgt := 130) C dX2_count_105 (by decide) ⟨by omega, by omega⟩ ⟨by omega, by omega⟩ (fun h1 => ?_) (fun h1 => ?_)
                      · omega
                      · refine lv_aload_n C.1 C.2.1 dX2_count_108 rfl (lv_at hl 0 rfl) ?_
                        refine gf C hK hP 0 rfl rfl aw_uX2 10 (by decide) aw_f_X2_19 rfl dX2_count_109 ?_
                        refine lv_iload C.1 C.2.1 dX2_count_112 (lv_at hl 4 rfl) ?_
                        refine lv_iload C.1 C.2.1 dX2_count_114 (lv_at hl 4 rfl) ?_
                        refine i_mul C dX2_count_116 ?_
                        refine lv_iload_n C.1 C.2.1 dX2_count_117 rfl (lv_at hl 1 rfl) ?_
                        refine i_rem C dX2_count_118 ⟨by omega, by omega⟩ ⟨by omega, by omega⟩ ?_
                        refine i_top (b := ((y * y % p1 : Nat) : Int)) rfl ?_
                        refine lv_dup2_11 C.1 C.2.1 dX2_count_119 rfl rfl ?_
                        refine i_ald C hK hP 1 0 rfl rfl (y * y % p1) (by omega) (by omega) (by omega) dX2_count_120 ?_
                        rw [hg _ c3]
                        refine i_const C dX2_count_121 ?_
                        refine i_add C dX2_count_122 ?_
                        refine i_ast C hK hP hD hS 1 0 rfl rfl (y * y % p1) rfl (by omega) (by omega) dX2_count_123 (fun H1 locs1 hP hD hS => ?_)
                        refine lv_iinc C.1 C.2.1 dX2_count_124 hl (k := 4) rfl (ii_add (y : Int) 1) (by decide) rfl (fun ls hl => ?_)
                        have hl : lv_has ls 8 [(6, .int (ii ((y : Int) + 1))), (0, .ref hm), (1, .int (ii (p1 : Int))), (2, .int (ii (a1 : Int))), (3, .int (ii (b1 : Int)))] := hl
                        refine lv_goto (tgt := 102) C.1 C.2.1 dX2_count_127 (by decide) ?_
                        exact ih ls H1 locs1 _ (y + 1) (by omega) (rc_at hg) hP hD hS (lv_sub (l' := [(0, .ref hm), (1, .int (ii (p1 : Int))), (2, .int (ii (a1 : Int))), (3, .int (ii (b1 : Int))), (6, .int (ii ((y : Int) + 1)))]) hl [1, 2, 3, 4, 0] rfl)
                  have loop1 : ∀ (k : Nat) (ls : Array Slot) (H : Heap) (locs : List Loc) (g : Nat → Int32) (i : Nat), i + k = p1 → (∀ v, v < i → g v = ii 0) → va_P D clX [(hm, .inr (2, MO p a b n key dr th hX hY hR hO sx sy dk dv)), (hO, .inl (cO, 1024, .inl g))] H → va_D A [(hm, .inr (2, MO p a b n key dr th hX hY hR hO sx sy dk dv)), (hO, .inl (cO, 1024, .inl g))] → va_S A S0.heap H locs → lv_has ls 8 [(0, .ref hm), (1, .int (ii (p1 : Int))), (2, .int (ii (a1 : Int))), (3, .int (ii (b1 : Int))), (6, .int (ii (i : Int)))] → W P0 l E0 ({ frames := 1, cells := 0, slots := 0, locals := 30 } : Room) S0 M0 A0 B0 T0 K0 H locs 0 0 (MQ B0 (QcM (some (.int (ii ((cnt p1 a1 b1 : Nat) : Int)))) True (fun t => ∃ g, ((1 : Int) ≠ 0 → ∀ v, v < p1 → g v = ii ((rc p1 p1 v : Nat) : Int)) ∧ Wd D [(hm, .inr (2, MO p a b n key dr th hX hY hR hO sx sy dk dv)), (hO, .inl (cO, 1024, .inl g))] [(cO, .int)] A t) A) A0 S0 0 0 A) (F0 M0 79 ls []) := by
                    intro k
                    induction k with
                    | zero =>
                      intro ls H locs g i hi hg hP hD hS hl
                      refine lv_iload C.1 C.2.1 dX2_count_79 (lv_at hl 4 rfl) ?_
                      refine lv_iload_n C.1 C.2.1 dX2_count_81 rfl (lv_at hl 1 rfl) ?_
                      refine i_icmp_ge (tgt := 99) C dX2_count_82 (by decide) ⟨by omega, by omega⟩ ⟨by omega, by omega⟩ (fun h1 => ?_) (fun h1 => ?_)
                      · refine i_const C dX2_count_99 ?_
                        refine lv_istore C.1 C.2.1 dX2_count_100 hl (by decide) rfl (fun ls hl => ?_)
                        have hl : lv_has ls 8 [(6, .int (ii 0)), (0, .ref hm), (1, .int (ii (p1 : Int))), (2, .int (ii (a1 : Int))), (3, .int (ii (b1 : Int)))] := hl
                        exact loop2 p1 ls H locs g 0 (by omega) (fun v hv => hg v (by omega)) hP hD hS (lv_sub (l' := [(0, .ref hm), (1, .int (ii (p1 : Int))), (2, .int (ii (a1 : Int))), (3, .int (ii (b1 : Int))), (6, .int (ii 0))]) hl [1, 2, 3, 4, 0] rfl)
                      · omega
                    | succ k ih =>
                      intro ls H locs g i hi hg hP hD hS hl
                      refine lv_iload C.1 C.2.1 dX2_count_79 (lv_at hl 4 rfl) ?_
                      refine lv_iload_n C.1 C.2.1 dX2_count_81 rfl (lv_at hl 1 rfl) ?_
                      refine i_icmp_ge (tgt := 99) C dX2_count_82 (by decide) ⟨by omega, by omega⟩ ⟨by omega, by omega⟩ (fun h1 => ?_) (fun h1 => ?_)
                      · omega
                      · refine lv_aload_n C.1 C.2.1 dX2_count_85 rfl (lv_at hl 0 rfl) ?_
                        refine gf C hK hP 0 rfl rfl aw_uX2 10 (by decide) aw_f_X2_19 rfl dX2_count_86 ?_
                        refine lv_iload C.1 C.2.1 dX2_count_89 (lv_at hl 4 rfl) ?_
                        refine i_const C dX2_count_91 ?_
                        refine i_ast C hK hP hD hS 1 0 rfl rfl i rfl (by omega) (by omega) dX2_count_92 (fun H1 locs1 hP hD hS => ?_)
                        refine lv_iinc C.1 C.2.1 dX2_count_93 hl (k := 4) rfl (ii_add (i : Int) 1) (by decide) rfl (fun ls hl => ?_)
                        have hl : lv_has ls 8 [(6, .int (ii ((i : Int) + 1))), (0, .ref hm), (1, .int (ii (p1 : Int))), (2, .int (ii (a1 : Int))), (3, .int (ii (b1 : Int)))] := hl
                        refine lv_goto (tgt := 79) C.1 C.2.1 dX2_count_96 (by decide) ?_
                        exact ih ls H1 locs1 _ (i + 1) (by omega) (fun v hv => by
                          unfold va_up
                          split
                          · rfl
                          · exact hg v (by omega)) hP hD hS (lv_sub (l' := [(0, .ref hm), (1, .int (ii (p1 : Int))), (2, .int (ii (a1 : Int))), (3, .int (ii (b1 : Int))), (6, .int (ii ((i : Int) + 1)))]) hl [1, 2, 3, 4, 0] rfl)
                  refine i_const C dX2_count_76 ?_
                  refine lv_istore C.1 C.2.1 dX2_count_77 hl (by decide) rfl (fun ls hl => ?_)
                  have hl : lv_has ls 8 [(6, .int (ii 0)), (0, .ref hm), (1, .int (ii (p1 : Int))), (2, .int (ii (a1 : Int))), (3, .int (ii (b1 : Int)))] := hl
                  exact loop1 p1 ls S0.heap [] g0 0 (by omega) (fun v hv => absurd hv (Nat.not_lt_zero v)) hP hD hS (lv_sub (l' := [(0, .ref hm), (1, .int (ii (p1 : Int))), (2, .int (ii (a1 : Int))), (3, .int (ii (b1 : Int))), (6, .int (ii 0))]) hl [1, 2, 3, 4, 0] rfl)
                · have e0 : crF pp aa bb = 0 := by
                    unfold crF
                    rw [if_neg (show ¬ pp < 5 by omega), if_neg (show ¬ 1021 < pp by omega), if_neg hpm, if_neg (show ¬ aa < 0 by omega), if_neg (show ¬ pp ≤ aa by omega), if_neg (show ¬ bb < 0 by omega), if_neg (show ¬ pp ≤ bb by omega), if_pos (show (4 * aa * aa * aa + 27 * bb * bb) % pp = 0 by omega)]
                  have e1 : coF pp aa bb = 0 := if_pos e0
                  rw [e1]
                  refine i_const C dX2_count_74 ?_
                  exact pz_i C hr hk hS trivial (fun t ht hvm => ⟨g0, fun z => absurd e0 z, by rw [ht]; exact hP, va_K.moved hvm hK, hD⟩) dX2_count_75 rfl (by decide) (by decide)
              · have e0 : crF pp aa bb = 0 := by
                  unfold crF
                  rw [if_neg (show ¬ pp < 5 by omega), if_neg (show ¬ 1021 < pp by omega), if_neg hpm, if_neg (show ¬ aa < 0 by omega), if_neg (show ¬ pp ≤ aa by omega), if_neg (show ¬ bb < 0 by omega), if_pos (show pp ≤ bb by omega)]
                have e1 : coF pp aa bb = 0 := if_pos e0
                rw [e1]
                refine i_const C dX2_count_38 ?_
                exact pz_i C hr hk hS trivial (fun t ht hvm => ⟨g0, fun z => absurd e0 z, by rw [ht]; exact hP, va_K.moved hvm hK, hD⟩) dX2_count_39 rfl (by decide) (by decide)
noncomputable def fxF (p a b : Nat) : Nat → Nat → Nat
  | 0, x => x
  | f + 1, x => if p - 1 ≤ x then x else if rc p p (cub p a b x) = 0 then fxF p a b f (x + 1) else x
theorem fxF_s (p a b f x : Nat) : fxF p a b (f + 1) x = if p - 1 ≤ x then x else if rc p p (cub p a b x) = 0 then fxF p a b f (x + 1) else x := rfl
theorem fxF_0 (p a b x : Nat) : fxF p a b 0 x = x := rfl
def fyF (p c : Nat) : Nat → Nat → Nat
  | 0, y => y
  | f + 1, y => if p - 1 ≤ y then y else if y * y % p = c then y else fyF p c f (y + 1)
theorem fyF_s (p c f y : Nat) : fyF p c (f + 1) y = if p - 1 ≤ y then y else if y * y % p = c then y else fyF p c f (y + 1) := rfl
theorem fyF_0 (p c y : Nat) : fyF p c 0 y = y := rfl
noncomputable def bxF (p a b : Nat) : Nat := fxF p a b 1100 0
noncomputable def byF (p a b : Nat) : Nat := fyF p (cub p a b (bxF p a b)) 1100 0
set_option maxRecDepth 100000 in
set_option maxHeartbeats 4000000 in
theorem c_X2_findBase (l : Launch) (D : va_G) (z0 sz : Nat) (hm p a b n : Nat) (key dr th : Int) (hX hY hR hO : Nat) (sx sy dk dv : Int32) (hp : 5 ≤ p ∧ p ≤ 1021) (ha : a < p) (hb : b < p) (cX cY cO : ClassId) (tx ty : Nat → Nat) (g : Nat → Int32) (hg : ∀ v, v < p → g v = ii ((rc p p v : Nat) : Int)) : Met l yX2_findBase (Cond.code yX2_findBase cX2_findBase 3 none :: AW) ({ frames := 1, cells := 0, slots := 0, locals := 30 } : Room) (PcM D z0 sz [(hm, .inr (2, MO (p : Int) (a : Int) (b : Int) n key dr th hX hY hR hO sx sy dk dv)), (hX, .inl (cX, 1100, .inl (fun j => ii ((tx j : Nat) : Int)))), (hY, .inl (cY, 1100, .inl (fun j => ii ((ty j : Nat) : Int)))), (hO, .inl (cO, 1024, .inl g))] [(cX, .int), (cY, .int), (cO, .int)] [.ref hm]) (QcM none True (Wd D [(hm, .inr (2, MO (p : Int) (a : Int) (b : Int) n key dr th hX hY hR hO sx sy dk dv)), (hX, .inl (cX, 1100, .inl (fun j => ii (((va_up tx 1 (bxF p a b)) j : Nat) : Int)))), (hY, .inl (cY, 1100, .inl (fun j => ii (((va_up ty 1 (byF p a b)) j : Nat) : Int)))), (hO, .inl (cO, 1024, .inl g))] [(cX, .int), (cY, .int), (cO, .int)] (va_A [(hm, .inr (2, MO (p : Int) (a : Int) (b : Int) n key dr th hX hY hR hO sx sy dk dv)), (hX, .inl (cX, 1100, .inl (fun j => ii ((tx j : Nat) : Int)))), (hY, .inl (cY, 1100, .inl (fun j => ii ((ty j : Nat) : Int)))), (hO, .inl (cO, 1024, .inl g))] sz)) (va_A [(hm, .inr (2, MO (p : Int) (a : Int) (b : Int) n key dr th hX hY hR hO sx sy dk dv)), (hX, .inl (cX, 1100, .inl (fun j => ii ((tx j : Nat) : Int)))), (hY, .inl (cY, 1100, .inl (fun j => ii ((ty j : Nat) : Int)))), (hO, .inl (cO, 1024, .inl g))] sz)) 0 0 (va_A [(hm, .inr (2, MO (p : Int) (a : Int) (b : Int) n key dr th hX hY hR hO sx sy dk dv)), (hX, .inl (cX, 1100, .inl (fun j => ii ((tx j : Nat) : Int)))), (hY, .inl (cY, 1100, .inl (fun j => ii ((ty j : Nat) : Int)))), (hO, .inl (cO, 1024, .inl g))] sz) := by
  refine mt_N (by decide +kernel) (Nat.le_of_ble_eq_true rfl) ?_
  intro P0 E0 S0 M0 A0 B0 T0 K0 C hN hZ hsz hz hP hK hD hAz hA hr hk hin ls hl
  have hl : lv_has ls 3 [(0, .ref hm)] := hl
  generalize hAe : va_A [(hm, .inr (2, MO (p : Int) (a : Int) (b : Int) n key dr th hX hY hR hO sx sy dk dv)), (hX, .inl (cX, 1100, .inl (fun j => ii ((tx j : Nat) : Int)))), (hY, .inl (cY, 1100, .inl (fun j => ii ((ty j : Nat) : Int)))), (hO, .inl (cO, 1024, .inl g))] sz = A at hD hAz hA ⊢
  have hS : va_S A S0.heap S0.heap [] := va_S.rf
  unfold byF
  generalize hBX : bxF p a b = X
  unfold bxF at hBX
  generalize hBY : fyF p (cub p a b X) 1100 0 = Y
  have loopy : X < p → ∀ (f : Nat) (ls : Array Slot) (y : Nat), y + f = 1100 → y < p → fyF p (cub p a b X) f y = Y → lv_has ls 3 [(0, .ref hm), (1, .int (ii (X : Int))), (2, .int (ii (y : Int)))] → W P0 l E0 ({ frames := 1, cells := 0, slots := 0, locals := 30 } : Room) S0 M0 A0 B0 T0 K0 S0.heap [] 0 0 (MQ B0 (QcM none True (Wd D [(hm, .inr (2, MO (p : Int) (a : Int) (b : Int) n key dr th hX hY hR hO sx sy dk dv)), (hX, .inl (cX, 1100, .inl (fun j => ii (((va_up tx 1 X) j : Nat) : Int)))), (hY, .inl (cY, 1100, .inl (fun j => ii (((va_up ty 1 Y) j : Nat) : Int)))), (hO, .inl (cO, 1024, .inl g))] [(cX, .int), (cY, .int), (cO, .int)] A) A) A0 S0 0 0 A) (F0 M0 45 ls []) := by
    intro hX0 f
    induction f with
    | zero =>
    intro ls y hy hyp hBY hl
    rw [fyF_0] at hBY
    have c2 := nmul_b (show y ≤ 1100 by omega) (show y ≤ 1100 by omega)
    refine lv_iload_n C.1 C.2.1 dX2_findBase_45 rfl (lv_at hl 2 rfl) ?_
    refine lv_aload_n C.1 C.2.1 dX2_findBase_46 rfl (lv_at hl 0 rfl) ?_
    refine gf C hK hP 0 rfl rfl aw_uX2 0 (by decide) aw_f_X2_41 rfl dX2_findBase_47 ?_
    refine i_const C dX2_findBase_50 ?_
    refine i_sub C dX2_findBase_51 ?_
    refine i_icmp_ge (tgt := 89) C dX2_findBase_52 (by decide) ⟨by omega, by omega⟩ ⟨by omega, by omega⟩ (fun h1 => ?_) (fun h1 => ?_)
    · subst hBY
      refine lv_aload_n C.1 C.2.1 dX2_findBase_89 rfl (lv_at hl 0 rfl) ?_
      refine gf C hK hP 0 rfl rfl aw_uX2 7 (by decide) aw_f_X2_7 rfl dX2_findBase_90 ?_
      refine i_const C dX2_findBase_93 ?_
      refine lv_iload_n C.1 C.2.1 dX2_findBase_94 rfl (lv_at hl 1 rfl) ?_
      refine i_ast C hK hP hD hS 1 0 rfl rfl 1 rfl (by omega) (by omega) dX2_findBase_95 (fun H1 locs1 hP hD hS => ?_)
      rw [show va_up (fun j => ii ((tx j : Nat) : Int)) 1 (ii (X : Int)) = fun j => ii ((va_up tx 1 X j : Nat) : Int) from up_I tx 1 X] at hP hD
      have hP : va_P D clX [(hm, .inr (2, MO (p : Int) (a : Int) (b : Int) n key dr th hX hY hR hO sx sy dk dv)), (hX, .inl (cX, 1100, .inl (fun j => ii (((va_up tx 1 X) j : Nat) : Int)))), (hY, .inl (cY, 1100, .inl (fun j => ii ((ty j : Nat) : Int)))), (hO, .inl (cO, 1024, .inl g))] H1 := hP
      have hD : va_D A [(hm, .inr (2, MO (p : Int) (a : Int) (b : Int) n key dr th hX hY hR hO sx sy dk dv)), (hX, .inl (cX, 1100, .inl (fun j => ii (((va_up tx 1 X) j : Nat) : Int)))), (hY, .inl (cY, 1100, .inl (fun j => ii ((ty j : Nat) : Int)))), (hO, .inl (cO, 1024, .inl g))] := hD
      refine lv_aload_n C.1 C.2.1 dX2_findBase_96 rfl (lv_at hl 0 rfl) ?_
      refine gf C hK hP 0 rfl rfl aw_uX2 8 (by decide) aw_f_X2_13 rfl dX2_findBase_97 ?_
      refine i_const C dX2_findBase_100 ?_
      refine lv_iload_n C.1 C.2.1 dX2_findBase_101 rfl (lv_at hl 2 rfl) ?_
      refine i_ast C hK hP hD hS 2 1 rfl rfl 1 rfl (by omega) (by omega) dX2_findBase_102 (fun H1 locs1 hP hD hS => ?_)
      rw [show va_up (fun j => ii ((ty j : Nat) : Int)) 1 (ii (y : Int)) = fun j => ii ((va_up ty 1 y j : Nat) : Int) from up_I ty 1 y] at hP hD
      exact pz_v C hr hk hS trivial (fun t ht hvm => ⟨by rw [ht]; exact hP, va_K.moved hvm hK, hD⟩) dX2_findBase_103 (by decide) (by decide)
    · omega
    | succ f ih =>
    intro ls y hy hyp hBY hl
    rw [fyF_s] at hBY
    have c2 := nmul_b (show y ≤ 1100 by omega) (show y ≤ 1100 by omega)
    have c3 := Nat.mod_lt (y * y) (show 0 < p by omega)
    have c4 : cub p a b X < p := Nat.mod_lt _ (by omega)
    refine lv_iload_n C.1 C.2.1 dX2_findBase_45 rfl (lv_at hl 2 rfl) ?_
    refine lv_aload_n C.1 C.2.1 dX2_findBase_46 rfl (lv_at hl 0 rfl) ?_
    refine gf C hK hP 0 rfl rfl aw_uX2 0 (by decide) aw_f_X2_41 rfl dX2_findBase_47 ?_
    refine i_const C dX2_findBase_50 ?_
    refine i_sub C dX2_findBase_51 ?_
    refine i_icmp_ge (tgt := 89) C dX2_findBase_52 (by decide) ⟨by omega, by omega⟩ ⟨by omega, by omega⟩ (fun h1 => ?_) (fun h1 => ?_)
    · rw [if_pos (show p - 1 ≤ y by omega)] at hBY
      subst hBY
      refine lv_aload_n C.1 C.2.1 dX2_findBase_89 rfl (lv_at hl 0 rfl) ?_
      refine gf C hK hP 0 rfl rfl aw_uX2 7 (by decide) aw_f_X2_7 rfl dX2_findBase_90 ?_
      refine i_const C dX2_findBase_93 ?_
      refine lv_iload_n C.1 C.2.1 dX2_findBase_94 rfl (lv_at hl 1 rfl) ?_
      refine i_ast C hK hP hD hS 1 0 rfl rfl 1 rfl (by omega) (by omega) dX2_findBase_95 (fun H1 locs1 hP hD hS => ?_)
      rw [show va_up (fun j => ii ((tx j : Nat) : Int)) 1 (ii (X : Int)) = fun j => ii ((va_up tx 1 X j : Nat) : Int) from up_I tx 1 X] at hP hD
      have hP : va_P D clX [(hm, .inr (2, MO (p : Int) (a : Int) (b : Int) n key dr th hX hY hR hO sx sy dk dv)), (hX, .inl (cX, 1100, .inl (fun j => ii (((va_up tx 1 X) j : Nat) : Int)))), (hY, .inl (cY, 1100, .inl (fun j => ii ((ty j : Nat) : Int)))), (hO, .inl (cO, 1024, .inl g))] H1 := hP
      have hD : va_D A [(hm, .inr (2, MO (p : Int) (a : Int) (b : Int) n key dr th hX hY hR hO sx sy dk dv)), (hX, .inl (cX, 1100, .inl (fun j => ii (((va_up tx 1 X) j : Nat) : Int)))), (hY, .inl (cY, 1100, .inl (fun j => ii ((ty j : Nat) : Int)))), (hO, .inl (cO, 1024, .inl g))] := hD
      refine lv_aload_n C.1 C.2.1 dX2_findBase_96 rfl (lv_at hl 0 rfl) ?_
      refine gf C hK hP 0 rfl rfl aw_uX2 8 (by decide) aw_f_X2_13 rfl dX2_findBase_97 ?_
      refine i_const C dX2_findBase_100 ?_
      refine lv_iload_n C.1 C.2.1 dX2_findBase_101 rfl (lv_at hl 2 rfl) ?_
      refine i_ast C hK hP hD hS 2 1 rfl rfl 1 rfl (by omega) (by omega) dX2_findBase_102 (fun H1 locs1 hP hD hS => ?_)
      rw [show va_up (fun j => ii ((ty j : Nat) : Int)) 1 (ii (y : Int)) = fun j => ii ((va_up ty 1 y j : Nat) : Int) from up_I ty 1 y] at hP hD
      exact pz_v C hr hk hS trivial (fun t ht hvm => ⟨by rw [ht]; exact hP, va_K.moved hvm hK, hD⟩) dX2_findBase_103 (by decide) (by decide)
    · rw [if_neg (show ¬ p - 1 ≤ y by omega)] at hBY
      refine lv_iload_n C.1 C.2.1 dX2_findBase_55 rfl (lv_at hl 2 rfl) ?_
      refine lv_iload_n C.1 C.2.1 dX2_findBase_56 rfl (lv_at hl 2 rfl) ?_
      refine i_mul C dX2_findBase_57 ?_
      refine lv_aload_n C.1 C.2.1 dX2_findBase_58 rfl (lv_at hl 0 rfl) ?_
      refine gf C hK hP 0 rfl rfl aw_uX2 0 (by decide) aw_f_X2_41 rfl dX2_findBase_59 ?_
      refine i_rem C dX2_findBase_62 ⟨by omega, by omega⟩ ⟨by omega, by omega⟩ ?_
      refine i_top (b := ((y * y % p : Nat) : Int)) rfl ?_
      refine lv_aload_n C.1 C.2.1 dX2_findBase_63 rfl (lv_at hl 0 rfl) ?_
      refine lv_iload_n C.1 C.2.1 dX2_findBase_64 rfl (lv_at hl 1 rfl) ?_
      refine lv_aload_n C.1 C.2.1 dX2_findBase_65 rfl (lv_at hl 0 rfl) ?_
      refine gf C hK hP 0 rfl rfl aw_uX2 0 (by decide) aw_f_X2_41 rfl dX2_findBase_66 ?_
      refine lv_aload_n C.1 C.2.1 dX2_findBase_69 rfl (lv_at hl 0 rfl) ?_
      refine gf C hK hP 0 rfl rfl aw_uX2 1 (by decide) aw_f_X2_38 rfl dX2_findBase_70 ?_
      refine lv_aload_n C.1 C.2.1 dX2_findBase_73 rfl (lv_at hl 0 rfl) ?_
      refine gf C hK hP 0 rfl rfl aw_uX2 2 (by decide) aw_f_X2_62 rfl dX2_findBase_74 ?_
      refine ca_V (As := [.int (ii (X : Int)), .int (ii (p : Int)), .int (ii (a : Int)), .int (ii (b : Int))]) (rest := [.int (ii ((y * y % p : Nat) : Int))]) C (c_X2_cube l D hm X p a b (by omega) (by omega) (by omega) (by omega)) (pcw_preV0 [.int (ii (X : Int)), .int (ii (p : Int)), .int (ii (a : Int)), .int (ii (b : Int))] hN hP hK 0 (ci := 2) rfl rfl) aw_b_X2_cube aw_m_X2_34 aw_v_X2_cube aw_i_X2 aw_e_X2_cube ⟨rfl, rfl⟩ 4 (by decide +kernel) rfl ⟨by decide, by decide⟩ hl.1 rfl (Nat.le_of_ble_eq_true rfl) dX2_findBase_77 ⟨by decide, by decide⟩ ?_
      refine i_icmp_eq (tgt := 89) C dX2_findBase_80 (by decide) ⟨by omega, by omega⟩ ⟨by omega, by omega⟩ (fun h2 => ?_) (fun h2 => ?_)
      · rw [if_pos (show y * y % p = cub p a b X by omega)] at hBY
        subst hBY
        refine lv_aload_n C.1 C.2.1 dX2_findBase_89 rfl (lv_at hl 0 rfl) ?_
        refine gf C hK hP 0 rfl rfl aw_uX2 7 (by decide) aw_f_X2_7 rfl dX2_findBase_90 ?_
        refine i_const C dX2_findBase_93 ?_
        refine lv_iload_n C.1 C.2.1 dX2_findBase_94 rfl (lv_at hl 1 rfl) ?_
        refine i_ast C hK hP hD hS 1 0 rfl rfl 1 rfl (by omega) (by omega) dX2_findBase_95 (fun H1 locs1 hP hD hS => ?_)
        rw [show va_up (fun j => ii ((tx j : Nat) : Int)) 1 (ii (X : Int)) = fun j => ii ((va_up tx 1 X j : Nat) : Int) from up_I tx 1 X] at hP hD
        have hP : va_P D clX [(hm, .inr (2, MO (p : Int) (a : Int) (b : Int) n key dr th hX hY hR hO sx sy dk dv)), (hX, .inl (cX, 1100, .inl (fun j => ii (((va_up tx 1 X) j : Nat) : Int)))), (hY, .inl (cY, 1100, .inl (fun j => ii ((ty j : Nat) : Int)))), (hO, .inl (cO, 1024, .inl g))] H1 := hP
        have hD : va_D A [(hm, .inr (2, MO (p : Int) (a : Int) (b : Int) n key dr th hX hY hR hO sx sy dk dv)), (hX, .inl (cX, 1100, .inl (fun j => ii (((va_up tx 1 X) j : Nat) : Int)))), (hY, .inl (cY, 1100, .inl (fun j => ii ((ty j : Nat) : Int)))), (hO, .inl (cO, 1024, .inl g))] := hD
        refine lv_aload_n C.1 C.2.1 dX2_findBase_96 rfl (lv_at hl 0 rfl) ?_
        refine gf C hK hP 0 rfl rfl aw_uX2 8 (by decide) aw_f_X2_13 rfl dX2_findBase_97 ?_
        refine i_const C dX2_findBase_100 ?_
        refine lv_iload_n C.1 C.2.1 dX2_findBase_101 rfl (lv_at hl 2 rfl) ?_
        refine i_ast C hK hP hD hS 2 1 rfl rfl 1 rfl (by omega) (by omega) dX2_findBase_102 (fun H1 locs1 hP hD hS => ?_)
        rw [show va_up (fun j => ii ((ty j : Nat) : Int)) 1 (ii (y : Int)) = fun j => ii ((va_up ty 1 y j : Nat) : Int) from up_I ty 1 y] at hP hD
        exact pz_v C hr hk hS trivial (fun t ht hvm => ⟨by rw [ht]; exact hP, va_K.moved hvm hK, hD⟩) dX2_findBase_103 (by decide) (by decide)
      · rw [if_neg (show ¬ y * y % p = cub p a b X by omega)] at hBY
        refine lv_iinc C.1 C.2.1 dX2_findBase_83 hl (k := 2) rfl (ii_add (y : Int) 1) (by decide) rfl (fun ls hl => ?_)
        have hl : lv_has ls 3 [(2, .int (ii ((y : Int) + 1))), (0, .ref hm), (1, .int (ii (X : Int)))] := hl
        refine lv_goto (tgt := 45) C.1 C.2.1 dX2_findBase_86 (by decide) ?_
        exact ih ls (y + 1) (by omega) (by omega) hBY (lv_sub (l' := [(0, .ref hm), (1, .int (ii (X : Int))), (2, .int (ii ((y : Int) + 1)))]) hl [1, 2, 0] rfl)
  have loopx : ∀ (f : Nat) (ls : Array Slot) (x : Nat), x + f = 1100 → x < p → fxF p a b f x = X → lv_has ls 3 [(0, .ref hm), (1, .int (ii (x : Int)))] → W P0 l E0 ({ frames := 1, cells := 0, slots := 0, locals := 30 } : Room) S0 M0 A0 B0 T0 K0 S0.heap [] 0 0 (MQ B0 (QcM none True (Wd D [(hm, .inr (2, MO (p : Int) (a : Int) (b : Int) n key dr th hX hY hR hO sx sy dk dv)), (hX, .inl (cX, 1100, .inl (fun j => ii (((va_up tx 1 X) j : Nat) : Int)))), (hY, .inl (cY, 1100, .inl (fun j => ii (((va_up ty 1 Y) j : Nat) : Int)))), (hO, .inl (cO, 1024, .inl g))] [(cX, .int), (cY, .int), (cO, .int)] A) A) A0 S0 0 0 A) (F0 M0 2 ls []) := by
    intro f
    induction f with
    | zero =>
    intro ls x hx hxp hBX hl
    rw [fxF_0] at hBX
    refine lv_iload_n C.1 C.2.1 dX2_findBase_2 rfl (lv_at hl 1 rfl) ?_
    refine lv_aload_n C.1 C.2.1 dX2_findBase_3 rfl (lv_at hl 0 rfl) ?_
    refine gf C hK hP 0 rfl rfl aw_uX2 0 (by decide) aw_f_X2_41 rfl dX2_findBase_4 ?_
    refine i_const C dX2_findBase_7 ?_
    refine i_sub C dX2_findBase_8 ?_
    refine i_icmp_ge (tgt := 43) C dX2_findBase_9 (by decide) ⟨by omega, by omega⟩ ⟨by omega, by omega⟩ (fun h1 => ?_) (fun h1 => ?_)
    · subst hBX
      refine i_const C dX2_findBase_43 ?_
      refine lv_istore_n C.1 C.2.1 dX2_findBase_44 rfl hl (by decide) rfl (fun ls hl => ?_)
      have hl : lv_has ls 3 [(2, .int (ii 0)), (0, .ref hm), (1, .int (ii (x : Int)))] := hl
      exact loopy (by omega) 1100 ls 0 (by omega) (by omega) hBY (lv_sub (l' := [(0, .ref hm), (1, .int (ii (x : Int))), (2, .int (ii 0))]) hl [1, 2, 0] rfl)
    · omega
    | succ f ih =>
    intro ls x hx hxp hBX hl
    rw [fxF_s] at hBX
    have c4 : cub p a b x < p := Nat.mod_lt _ (by omega)
    have c5 := rc_le p p (cub p a b x)
    refine lv_iload_n C.1 C.2.1 dX2_findBase_2 rfl (lv_at hl 1 rfl) ?_
    refine lv_aload_n C.1 C.2.1 dX2_findBase_3 rfl (lv_at hl 0 rfl) ?_
    refine gf C hK hP 0 rfl rfl aw_uX2 0 (by decide) aw_f_X2_41 rfl dX2_findBase_4 ?_
    refine i_const C dX2_findBase_7 ?_
    refine i_sub C dX2_findBase_8 ?_
    refine i_icmp_ge (tgt := 43) C dX2_findBase_9 (by decide) ⟨by omega, by omega⟩ ⟨by omega, by omega⟩ (fun h1 => ?_) (fun h1 => ?_)
    · rw [if_pos (show p - 1 ≤ x by omega)] at hBX
      subst hBX
      refine i_const C dX2_findBase_43 ?_
      refine lv_istore_n C.1 C.2.1 dX2_findBase_44 rfl hl (by decide) rfl (fun ls hl => ?_)
      have hl : lv_has ls 3 [(2, .int (ii 0)), (0, .ref hm), (1, .int (ii (x : Int)))] := hl
      exact loopy (by omega) 1100 ls 0 (by omega) (by omega) hBY (lv_sub (l' := [(0, .ref hm), (1, .int (ii (x : Int))), (2, .int (ii 0))]) hl [1, 2, 0] rfl)
    · rw [if_neg (show ¬ p - 1 ≤ x by omega)] at hBX
      refine lv_aload_n C.1 C.2.1 dX2_findBase_12 rfl (lv_at hl 0 rfl) ?_
      refine gf C hK hP 0 rfl rfl aw_uX2 10 (by decide) aw_f_X2_19 rfl dX2_findBase_13 ?_
      refine lv_aload_n C.1 C.2.1 dX2_findBase_16 rfl (lv_at hl 0 rfl) ?_
      refine lv_iload_n C.1 C.2.1 dX2_findBase_17 rfl (lv_at hl 1 rfl) ?_
      refine lv_aload_n C.1 C.2.1 dX2_findBase_18 rfl (lv_at hl 0 rfl) ?_
      refine gf C hK hP 0 rfl rfl aw_uX2 0 (by decide) aw_f_X2_41 rfl dX2_findBase_19 ?_
      refine lv_aload_n C.1 C.2.1 dX2_findBase_22 rfl (lv_at hl 0 rfl) ?_
      refine gf C hK hP 0 rfl rfl aw_uX2 1 (by decide) aw_f_X2_38 rfl dX2_findBase_23 ?_
      refine lv_aload_n C.1 C.2.1 dX2_findBase_26 rfl (lv_at hl 0 rfl) ?_
      refine gf C hK hP 0 rfl rfl aw_uX2 2 (by decide) aw_f_X2_62 rfl dX2_findBase_27 ?_
      refine ca_V (As := [.int (ii (x : Int)), .int (ii (p : Int)), .int (ii (a : Int)), .int (ii (b : Int))]) (rest := [.ref hO]) C (c_X2_cube l D hm x p a b (by omega) (by omega) (by omega) (by omega)) (pcw_preV0 [.int (ii (x : Int)), .int (ii (p : Int)), .int (ii (a : Int)), .int (ii (b : Int))] hN hP hK 0 (ci := 2) rfl rfl) aw_b_X2_cube aw_m_X2_34 aw_v_X2_cube aw_i_X2 aw_e_X2_cube ⟨rfl, rfl⟩ 4 (by decide +kernel) rfl ⟨by decide, by decide⟩ hl.1 rfl (Nat.le_of_ble_eq_true rfl) dX2_findBase_30 ⟨by decide, by decide⟩ ?_
      refine i_ald C hK hP 3 2 rfl rfl (cub p a b x) (by omega) (by omega) (by omega) dX2_findBase_33 ?_
      rw [hg _ c4]
      refine i_if_ne (tgt := 43) C dX2_findBase_34 (by decide) ⟨by omega, by omega⟩ (fun h2 => ?_) (fun h2 => ?_)
      · rw [if_neg (show ¬ rc p p (cub p a b x) = 0 by omega)] at hBX
        subst hBX
        refine i_const C dX2_findBase_43 ?_
        refine lv_istore_n C.1 C.2.1 dX2_findBase_44 rfl hl (by decide) rfl (fun ls hl => ?_)
        have hl : lv_has ls 3 [(2, .int (ii 0)), (0, .ref hm), (1, .int (ii (x : Int)))] := hl
        exact loopy (by omega) 1100 ls 0 (by omega) (by omega) hBY (lv_sub (l' := [(0, .ref hm), (1, .int (ii (x : Int))), (2, .int (ii 0))]) hl [1, 2, 0] rfl)
      · rw [if_pos (show rc p p (cub p a b x) = 0 by omega)] at hBX
        refine lv_iinc C.1 C.2.1 dX2_findBase_37 hl (k := 1) rfl (ii_add (x : Int) 1) (by decide) rfl (fun ls hl => ?_)
        have hl : lv_has ls 3 [(1, .int (ii ((x : Int) + 1))), (0, .ref hm)] := hl
        refine lv_goto (tgt := 2) C.1 C.2.1 dX2_findBase_40 (by decide) ?_
        exact ih ls (x + 1) (by omega) (by omega) hBX (lv_sub (l' := [(0, .ref hm), (1, .int (ii ((x : Int) + 1)))]) hl [1, 0] rfl)
  refine i_const C dX2_findBase_0 ?_
  refine lv_istore_n C.1 C.2.1 dX2_findBase_1 rfl hl (by decide) rfl (fun ls hl => ?_)
  have hl : lv_has ls 3 [(1, .int (ii 0)), (0, .ref hm)] := hl
  exact loopx 1100 ls 0 (by omega) (by omega) hBX (lv_sub (l' := [(0, .ref hm), (1, .int (ii 0))]) hl [1, 0] rfl)
