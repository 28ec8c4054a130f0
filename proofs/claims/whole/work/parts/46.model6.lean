/-! The reference: sign. By wip/whole/tools/gen18.py. -/
/-- the draws, for any way to make a signature of a number -/
def soF (g : Int → Int) (mk : Int32) : Nat → Nat → Int32 → Int32 → Option (Nat × Int)
  | 0, _, _, _ => none
  | f + 1, d, st, v =>
    if g (mxF st v &&& mk).toInt = 0 then soF g mk f (d + 1) (mxF st (mxF st v + ii 1)) (mxF (mxF st (mxF st v + ii 1)) (mxF st v))
    else some (d, g (mxF st v &&& mk).toInt)
theorem soF_s (g : Int → Int) (mk : Int32) (f d : Nat) (st v : Int32) : soF g mk (f + 1) d st v = if g (mxF st v &&& mk).toInt = 0 then soF g mk f (d + 1) (mxF st (mxF st v + ii 1)) (mxF (mxF st (mxF st v + ii 1)) (mxF st v)) else some (d, g (mxF st v &&& mk).toInt) := rfl
theorem soF_0 (g : Int → Int) (mk : Int32) (d : Nat) (st v : Int32) : soF g mk 0 d st v = none := rfl
theorem siF_so (n : Nat) (xq : Int → Nat) (e sec : Int) (mk : Int32) : ∀ (f d : Nat) (st v : Int32), siF n xq e sec mk f d st v = soF (fun k => sgF n (xq k) k e sec) mk f d st v
  | 0, _, _, _ => rfl
  | f + 1, d, st, v => by rw [siF_s, soF_s, siF_so n xq e sec mk f]
/-- a signature as the reference makes it -/
def sg2 (n x : Nat) (k e d : Int) : Int := if k < 1 then 0 else if (n : Int) ≤ k then 0 else if (x : Int) % (n : Int) = 0 then 0 else
  if (e + (x : Int) % (n : Int) * d) % (n : Int) * ((ivF k.toNat n 1100 1 : Nat) : Int) % (n : Int) = 0 then 0 else (x : Int) % (n : Int) * 65536 + (e + (x : Int) % (n : Int) * d) % (n : Int) * ((ivF k.toNat n 1100 1 : Nat) : Int) % (n : Int)
/-- what the reference's sign leaves and answers -/
def thS (n : Nat) (key : Int) (V : Option (Nat × Int)) : Int := if n = 0 then 1 else if key = 0 then 1 else if V = none then 2 else 0
def rvS (n : Nat) (key : Int) (V : Option (Nat × Int)) : Int := if n = 0 then 0 else if key = 0 then 0 else (V.getD (0, 0)).2
def drS (n : Nat) (key dr : Int) (V : Option (Nat × Int)) : Int := if n = 0 then dr else if key = 0 then dr else if V = none then dr else ((V.getD (0, 0)).1 : Int)
theorem dmF_s (n f m : Nat) : dmF n (f + 1) m = if n ≤ m then m else dmF n f (m * 2 + 1) := rfl
theorem pw2_s {n m f : Nat} (h : n ≤ m * 2 ^ (f + 1)) : n ≤ (m * 2 + 1) * 2 ^ f := by
  have e : m * 2 ^ (f + 1) = m * 2 * 2 ^ f := by rw [Nat.pow_succ, Nat.mul_comm (2 ^ f), Nat.mul_assoc]
  have := Nat.mul_le_mul_right (2 ^ f) (show m * 2 ≤ m * 2 + 1 by omega)
  omega
set_option maxRecDepth 100000 in
set_option maxHeartbeats 4000000 in
theorem c_X2_sign (l : Launch) (D : va_G) (z0 sz : Nat) (hm : Nat) (p a b : Int) (n : Nat) (key dr th : Int) (hX hY hR hO : Nat) (sx sy dk dv : Int32) (cX cY cR : ClassId) (tx ty ix : Nat → Nat) (hT : ∀ j, tx j ≤ 1020 ∧ ty j ≤ 1020) (hI : ∀ j, ix j ≤ 1099) (hn : n ≤ 1100) (hky : 0 ≤ key ∧ key ≤ 1099) (z : Int) (hz1 : rl z) (V : Option (Nat × Int)) (hV : n ≠ 0 → soF (fun k => sg2 n (tx k.toNat) k (z % (n : Int)) key) (ii ((dmF n 30 1 : Nat) : Int)) 24 1 (st1 (z % (n : Int)) key) (vl1 (z % (n : Int)) key) = V) : Met l yX2_sign (Cond.code yX2_sign cX2_sign 9 (some .long) :: AW) ({ frames := 2, cells := 0, slots := 0, locals := 60 } : Room) (PcM D z0 sz [(hm, .inr (2, MO p a b n key dr th hX hY hR hO sx sy dk dv)), (hX, .inl (cX, 1100, .inl (fun j => ii ((tx j : Nat) : Int)))), (hY, .inl (cY, 1100, .inl (fun j => ii ((ty j : Nat) : Int)))), (hR, .inl (cR, 4, .inl (fun j => ii ((ix j : Nat) : Int))))] [(cX, .int), (cY, .int), (cR, .int)] [.ref hm, .long (li z)]) (QcM (some (.long (li (rvS n key V)))) True (fun t => ∃ dk1 dv1, Wd D [(hm, .inr (2, MO p a b n key (drS n key dr V) (thS n key V) hX hY hR hO sx sy dk1 dv1)), (hX, .inl (cX, 1100, .inl (fun j => ii ((tx j : Nat) : Int)))), (hY, .inl (cY, 1100, .inl (fun j => ii ((ty j : Nat) : Int)))), (hR, .inl (cR, 4, .inl (fun j => ii ((ix j : Nat) : Int))))] [(cX, .int), (cY, .int), (cR, .int)] (va_A [(hm, .inr (2, MO p a b n key dr th hX hY hR hO sx sy dk dv)), (hX, .inl (cX, 1100, .inl (fun j => ii ((tx j : Nat) : Int)))), (hY, .inl (cY, 1100, .inl (fun j => ii ((ty j : Nat) : Int)))), (hR, .inl (cR, 4, .inl (fun j => ii ((ix j : Nat) : Int))))] sz) t) (va_A [(hm, .inr (2, MO p a b n key dr th hX hY hR hO sx sy dk dv)), (hX, .inl (cX, 1100, .inl (fun j => ii ((tx j : Nat) : Int)))), (hY, .inl (cY, 1100, .inl (fun j => ii ((ty j : Nat) : Int)))), (hR, .inl (cR, 4, .inl (fun j => ii ((ix j : Nat) : Int))))] sz)) 0 0 (va_A [(hm, .inr (2, MO p a b n key dr th hX hY hR hO sx sy dk dv)), (hX, .inl (cX, 1100, .inl (fun j => ii ((tx j : Nat) : Int)))), (hY, .inl (cY, 1100, .inl (fun j => ii ((ty j : Nat) : Int)))), (hR, .inl (cR, 4, .inl (fun j => ii ((ix j : Nat) : Int))))] sz) := by
  refine mt_N (by decide +kernel) (Nat.le_of_ble_eq_true rfl) ?_
  intro P0 E0 S0 M0 A0 B0 T0 K0 C hN hZ hsz hz hP hK hD hAz hA hr hk hin ls hl
  have hl : lv_has ls 9 [(0, .ref hm), (1, .long (li z))] := hl
  generalize hAe : va_A [(hm, .inr (2, MO p a b n key dr th hX hY hR hO sx sy dk dv)), (hX, .inl (cX, 1100, .inl (fun j => ii ((tx j : Nat) : Int)))), (hY, .inl (cY, 1100, .inl (fun j => ii ((ty j : Nat) : Int)))), (hR, .inl (cR, 4, .inl (fun j => ii ((ix j : Nat) : Int))))] sz = A at hD hAz hA ⊢
  have hS : va_S A S0.heap S0.heap [] := va_S.rf
  generalize hmk : ii ((dmF n 30 1 : Nat) : Int) = mk at hV
  generalize hF : (24 : Nat) = F24 at hV
  have loop : n ≠ 0 → key ≠ 0 → ∀ (f : Nat) (ls : Array Slot) (H : Heap) (locs : List Loc) (dk dv : Int32) (d : Nat), d + f = 25 → soF (fun k => sg2 n (tx k.toNat) k (z % (n : Int)) key) mk f d dk dv = V → va_P D clX [(hm, .inr (2, MO p a b n key dr 0 hX hY hR hO sx sy dk dv)), (hX, .inl (cX, 1100, .inl (fun j => ii ((tx j : Nat) : Int)))), (hY, .inl (cY, 1100, .inl (fun j => ii ((ty j : Nat) : Int)))), (hR, .inl (cR, 4, .inl (fun j => ii ((ix j : Nat) : Int))))] H → va_D A [(hm, .inr (2, MO p a b n key dr 0 hX hY hR hO sx sy dk dv)), (hX, .inl (cX, 1100, .inl (fun j => ii ((tx j : Nat) : Int)))), (hY, .inl (cY, 1100, .inl (fun j => ii ((ty j : Nat) : Int)))), (hR, .inl (cR, 4, .inl (fun j => ii ((ix j : Nat) : Int))))] → va_S A S0.heap H locs → lv_has ls 9 [(0, .ref hm), (3, .int (ii (z % (n : Int)))), (4, .int mk), (5, .int (ii (d : Int)))] → W P0 l E0 ({ frames := 2, cells := 0, slots := 0, locals := 60 } : Room) S0 M0 A0 B0 T0 K0 H locs 0 0 (MQ B0 (QcM (some (.long (li (rvS n key V)))) True (fun t => ∃ dk1 dv1, Wd D [(hm, .inr (2, MO p a b n key (drS n key dr V) (thS n key V) hX hY hR hO sx sy dk1 dv1)), (hX, .inl (cX, 1100, .inl (fun j => ii ((tx j : Nat) : Int)))), (hY, .inl (cY, 1100, .inl (fun j => ii ((ty j : Nat) : Int)))), (hR, .inl (cR, 4, .inl (fun j => ii ((ix j : Nat) : Int))))] [(cX, .int), (cY, .int), (cR, .int)] A t) A) A0 S0 0 0 A) (F0 M0 95 ls []) := by
    intro hn0 hk0 f
    induction f with
    | zero =>
    intro ls H locs dk dv d hd hV hP hD hS hl
    rw [soF_0] at hV
    subst hV
    refine lv_iload C.1 C.2.1 dX2_sign_95 (lv_at hl 3 rfl) ?_
    refine i_bipush C dX2_sign_97 (by decide +kernel) ?_
    refine i_icmp_gt (tgt := 232) C dX2_sign_99 (by decide) ⟨by omega, by omega⟩ ⟨by omega, by omega⟩ (fun h1 => ?_) (fun h1 => ?_)
    · refine lv_aload_n C.1 C.2.1 dX2_sign_232 rfl (lv_at hl 0 rfl) ?_
      refine i_const C dX2_sign_233 ?_
      refine p_f C hK hP hD hS 0 rfl rfl aw_uX2 tyX2 tyX2_ok nmX2 6 (by decide) aw_f_X2_22 rfl rfl rfl (Nat.le_of_ble_eq_true rfl) dX2_sign_234 (fun H1 locs1 hP hD hS => ?_)
      have hP : va_P D clX [(hm, .inr (2, MO p a b n key dr 2 hX hY hR hO sx sy dk dv)), (hX, .inl (cX, 1100, .inl (fun j => ii ((tx j : Nat) : Int)))), (hY, .inl (cY, 1100, .inl (fun j => ii ((ty j : Nat) : Int)))), (hR, .inl (cR, 4, .inl (fun j => ii ((ix j : Nat) : Int))))] H1 := hP
      have hD : va_D A [(hm, .inr (2, MO p a b n key dr 2 hX hY hR hO sx sy dk dv)), (hX, .inl (cX, 1100, .inl (fun j => ii ((tx j : Nat) : Int)))), (hY, .inl (cY, 1100, .inl (fun j => ii ((ty j : Nat) : Int)))), (hR, .inl (cR, 4, .inl (fun j => ii ((ix j : Nat) : Int))))] := hD
      rw [show rvS n key none = 0 by unfold rvS; rw [if_neg hn0, if_neg hk0]; rfl, show thS n key none = 2 by unfold thS; rw [if_neg hn0, if_neg hk0, if_pos rfl], show drS n key dr none = dr by unfold drS; rw [if_neg hn0, if_neg hk0, if_pos rfl]]
      refine l_const0 C dX2_sign_237 ?_
      exact pz_l C hr hk hS trivial (fun t ht hvm => ⟨dk, dv, by rw [ht]; exact hP, va_K.moved hvm hK, hD⟩) dX2_sign_238 rfl (by decide) (by decide)
    · omega
    | succ f ih =>
    intro ls H locs dk dv d hd hV hP hD hS hl
    rw [soF_s] at hV
    refine lv_iload C.1 C.2.1 dX2_sign_95 (lv_at hl 3 rfl) ?_
    refine i_bipush C dX2_sign_97 (by decide +kernel) ?_
    refine i_icmp_gt (tgt := 232) C dX2_sign_99 (by decide) ⟨by omega, by omega⟩ ⟨by omega, by omega⟩ (fun h1 => ?_) (fun h1 => ?_)
    · omega
    · refine lv_aload_n C.1 C.2.1 dX2_sign_102 rfl (lv_at hl 0 rfl) ?_
      refine lv_aload_n C.1 C.2.1 dX2_sign_103 rfl (lv_at hl 0 rfl) ?_
      refine lv_aload_n C.1 C.2.1 dX2_sign_104 rfl (lv_at hl 0 rfl) ?_
      refine gf C hK hP 0 rfl rfl aw_uX2 13 (by decide) aw_f_X2_103 rfl dX2_sign_105 ?_
      refine lv_aload_n C.1 C.2.1 dX2_sign_108 rfl (lv_at hl 0 rfl) ?_
      refine gf C hK hP 0 rfl rfl aw_uX2 14 (by decide) aw_f_X2_109 rfl dX2_sign_109 ?_
      refine ca_V (As := [.int dk, .int dv]) (rest := [.ref hm]) C (c_X2_mix l D hm dk dv) (pcw_preV0 [.int dk, .int dv] hN hP hK 0 (ci := 2) rfl rfl) aw_b_X2_mix aw_m_X2_106 aw_v_X2_mix aw_i_X2 aw_e_X2_mix ⟨rfl, rfl⟩ 2 (by decide +kernel) rfl ⟨by decide, by decide⟩ hl.1 rfl (Nat.le_of_ble_eq_true rfl) dX2_sign_112 ⟨by decide, by decide⟩ ?_
      generalize mxF dk dv = v1 at hV ⊢
      refine p_f C hK hP hD hS 0 rfl rfl aw_uX2 tyX2 tyX2_ok nmX2 14 (by decide) aw_f_X2_109 rfl rfl rfl (Nat.le_of_ble_eq_true rfl) dX2_sign_115 (fun H1 locs1 hP hD hS => ?_)
      have hP : va_P D clX [(hm, .inr (2, MO p a b n key dr 0 hX hY hR hO sx sy dk v1)), (hX, .inl (cX, 1100, .inl (fun j => ii ((tx j : Nat) : Int)))), (hY, .inl (cY, 1100, .inl (fun j => ii ((ty j : Nat) : Int)))), (hR, .inl (cR, 4, .inl (fun j => ii ((ix j : Nat) : Int))))] H1 := hP
      have hD : va_D A [(hm, .inr (2, MO p a b n key dr 0 hX hY hR hO sx sy dk v1)), (hX, .inl (cX, 1100, .inl (fun j => ii ((tx j : Nat) : Int)))), (hY, .inl (cY, 1100, .inl (fun j => ii ((ty j : Nat) : Int)))), (hR, .inl (cR, 4, .inl (fun j => ii ((ix j : Nat) : Int))))] := hD
      refine lv_aload_n C.1 C.2.1 dX2_sign_118 rfl (lv_at hl 0 rfl) ?_
      refine gf C hK hP 0 rfl rfl aw_uX2 14 (by decide) aw_f_X2_109 rfl dX2_sign_119 ?_
      refine lv_iload C.1 C.2.1 dX2_sign_122 (lv_at hl 2 rfl) ?_
      refine lv_iand C.1 C.2.1 dX2_sign_124 ?_
      rw [← ii_self (v1 &&& mk)]
      have k1 := rg_self (v1 &&& mk)
      generalize (v1 &&& mk).toInt = k at k1 hV ⊢
      have hV : (if sg2 n (tx k.toNat) k (z % (n : Int)) key = 0 then soF (fun k => sg2 n (tx k.toNat) k (z % (n : Int)) key) mk f (d + 1) (mxF dk (v1 + ii 1)) (mxF (mxF dk (v1 + ii 1)) v1) else some (d, sg2 n (tx k.toNat) k (z % (n : Int)) key)) = V := hV
      unfold rg at k1
      refine lv_istore C.1 C.2.1 dX2_sign_125 hl (by decide) rfl (fun ls hl => ?_)
      have hl : lv_has ls 9 [(6, .int (ii k)), (0, .ref hm), (3, .int (ii (z % (n : Int)))), (4, .int mk), (5, .int (ii (d : Int)))] := hl
      refine lv_iload C.1 C.2.1 dX2_sign_127 (lv_at hl 0 rfl) ?_
      refine i_const C dX2_sign_129 ?_
      refine i_icmp_lt (tgt := 216) C dX2_sign_130 (by decide) ⟨by omega, by omega⟩ ⟨by omega, by omega⟩ (fun h2 => ?_) (fun h2 => ?_)
      · rw [if_pos (show sg2 n (tx k.toNat) k (z % (n : Int)) key = 0 by unfold sg2; rw [if_pos h2])] at hV
        refine lv_aload_n C.1 C.2.1 dX2_sign_216 rfl (lv_at hl 1 rfl) ?_
        refine lv_aload_n C.1 C.2.1 dX2_sign_217 rfl (lv_at hl 1 rfl) ?_
        refine gf C hK hP 0 rfl rfl aw_uX2 14 (by decide) aw_f_X2_109 rfl dX2_sign_218 ?_
        refine i_const C dX2_sign_221 ?_
        refine lv_iadd C.1 C.2.1 dX2_sign_222 ?_
        have hFc := va_free (wc := [(hm, .inr (2, MO p a b n key dr 0 hX hY hR hO sx sy dk v1))]) hD hS hA [0] rfl
        refine cn_V (As := [.int (v1 + (ii 1))]) (rest := []) C (c_X2_stir l D z0 _ hm p a b n key dr 0 hX hY hR hO sx sy dk v1 (v1 + ii 1)) (pcm_preV _ hN (Zs.on hZ hS hAz) (by have := hS.1; omega) (hP.sub (ws' := [(hm, .inr (2, MO p a b n key dr 0 hX hY hR hO sx sy dk v1))]) [0] rfl) (hK.sub (tys' := []) [] rfl) ((hD.sub (ws' := [(hm, .inr (2, MO p a b n key dr 0 hX hY hR hO sx sy dk v1))]) [0] (by decide) rfl).weaken (fun _ _ _ h => hAz _ h)) 0 (ci := 2) rfl rfl) hS hFc aw_b_X2_stir aw_m_X2_112 aw_v_X2_stir aw_i_X2 aw_e_X2_stir ⟨rfl, rfl⟩ 1 (by decide +kernel) rfl ⟨by decide, by decide⟩ hl.1 rfl (Nat.le_of_ble_eq_true rfl) dX2_sign_223 ⟨by decide, by decide⟩ (fun t H1 locs1 ht hvm _ hB jz1 jk1 hS => ?_)
        obtain ⟨hP1, hK1, hD1⟩ := hB
        rw [ht] at hP1
        obtain ⟨hP, hD⟩ := va_join (wr := [(hX, .inl (cX, 1100, .inl (fun j => ii ((tx j : Nat) : Int)))), (hY, .inl (cY, 1100, .inl (fun j => ii ((ty j : Nat) : Int)))), (hR, .inl (cR, 4, .inl (fun j => ii ((ix j : Nat) : Int))))]) (w1 := [(hm, .inr (2, MO p a b n key dr 0 hX hY hR hO sx sy (mxF dk (v1 + ii 1)) (mxF (mxF dk (v1 + ii 1)) v1)))]) hP hD [0] [1, 2, 3] rfl rfl (by decide) (by decide) jk1 hFc hP1 hD1
        have hP := hP.sub (ws' := [(hm, .inr (2, MO p a b n key dr 0 hX hY hR hO sx sy (mxF dk (v1 + ii 1)) (mxF (mxF dk (v1 + ii 1)) v1))), (hX, .inl (cX, 1100, .inl (fun j => ii ((tx j : Nat) : Int)))), (hY, .inl (cY, 1100, .inl (fun j => ii ((ty j : Nat) : Int)))), (hR, .inl (cR, 4, .inl (fun j => ii ((ix j : Nat) : Int))))]) [3, 0, 1, 2] rfl
        have hD := hD.sub (ws' := [(hm, .inr (2, MO p a b n key dr 0 hX hY hR hO sx sy (mxF dk (v1 + ii 1)) (mxF (mxF dk (v1 + ii 1)) v1))), (hX, .inl (cX, 1100, .inl (fun j => ii ((tx j : Nat) : Int)))), (hY, .inl (cY, 1100, .inl (fun j => ii ((ty j : Nat) : Int)))), (hR, .inl (cR, 4, .inl (fun j => ii ((ix j : Nat) : Int))))]) [3, 0, 1, 2] (by decide) rfl
        refine lv_iinc C.1 C.2.1 dX2_sign_226 hl (k := 4) rfl (ii_add (d : Int) 1) (by decide) rfl (fun ls hl => ?_)
        have hl : lv_has ls 9 [(5, .int (ii ((d : Int) + 1))), (6, .int (ii k)), (0, .ref hm), (3, .int (ii (z % (n : Int)))), (4, .int mk)] := hl
        refine lv_goto (tgt := 95) C.1 C.2.1 dX2_sign_229 (by decide) ?_
        exact ih ls H1 locs1 _ _ (d + 1) (by omega) hV hP hD hS (lv_sub (l' := [(0, .ref hm), (3, .int (ii (z % (n : Int)))), (4, .int mk), (5, .int (ii ((d : Int) + 1)))]) hl [2, 3, 4, 0] rfl)
      · refine lv_iload C.1 C.2.1 dX2_sign_133 (lv_at hl 0 rfl) ?_
        refine lv_aload_n C.1 C.2.1 dX2_sign_135 rfl (lv_at hl 1 rfl) ?_
        refine gf C hK hP 0 rfl rfl aw_uX2 3 (by decide) aw_f_X2_65 rfl dX2_sign_136 ?_
        refine i_icmp_ge (tgt := 216) C dX2_sign_139 (by decide) ⟨by omega, by omega⟩ ⟨by omega, by omega⟩ (fun h3 => ?_) (fun h3 => ?_)
        · rw [if_pos (show sg2 n (tx k.toNat) k (z % (n : Int)) key = 0 by unfold sg2; rw [if_neg h2, if_pos h3])] at hV
          refine lv_aload_n C.1 C.2.1 dX2_sign_216 rfl (lv_at hl 1 rfl) ?_
          refine lv_aload_n C.1 C.2.1 dX2_sign_217 rfl (lv_at hl 1 rfl) ?_
          refine gf C hK hP 0 rfl rfl aw_uX2 14 (by decide) aw_f_X2_109 rfl dX2_sign_218 ?_
          refine i_const C dX2_sign_221 ?_
          refine lv_iadd C.1 C.2.1 dX2_sign_222 ?_
          have hFc := va_free (wc := [(hm, .inr (2, MO p a b n key dr 0 hX hY hR hO sx sy dk v1))]) hD hS hA [0] rfl
          refine cn_V (As := [.int (v1 + (ii 1))]) (rest := []) C (c_X2_stir l D z0 _ hm p a b n key dr 0 hX hY hR hO sx sy dk v1 (v1 + ii 1)) (pcm_preV _ hN (Zs.on hZ hS hAz) (by have := hS.1; omega) (hP.sub (ws' := [(hm, .inr (2, MO p a b n key dr 0 hX hY hR hO sx sy dk v1))]) [0] rfl) (hK.sub (tys' := []) [] rfl) ((hD.sub (ws' := [(hm, .inr (2, MO p a b n key dr 0 hX hY hR hO sx sy dk v1))]) [0] (by decide) rfl).weaken (fun _ _ _ h => hAz _ h)) 0 (ci := 2) rfl rfl) hS hFc aw_b_X2_stir aw_m_X2_112 aw_v_X2_stir aw_i_X2 aw_e_X2_stir ⟨rfl, rfl⟩ 1 (by decide +kernel) rfl ⟨by decide, by decide⟩ hl.1 rfl (Nat.le_of_ble_eq_true rfl) dX2_sign_223 ⟨by decide, by decide⟩ (fun t H1 locs1 ht hvm _ hB jz1 jk1 hS => ?_)
          obtain ⟨hP1, hK1, hD1⟩ := hB
          rw [ht] at hP1
          obtain ⟨hP, hD⟩ := va_join (wr := [(hX, .inl (cX, 1100, .inl (fun j => ii ((tx j : Nat) : Int)))), (hY, .inl (cY, 1100, .inl (fun j => ii ((ty j : Nat) : Int)))), (hR, .inl (cR, 4, .inl (fun j => ii ((ix j : Nat) : Int))))]) (w1 := [(hm, .inr (2, MO p a b n key dr 0 hX hY hR hO sx sy (mxF dk (v1 + ii 1)) (mxF (mxF dk (v1 + ii 1)) v1)))]) hP hD [0] [1, 2, 3] rfl rfl (by decide) (by decide) jk1 hFc hP1 hD1
          have hP := hP.sub (ws' := [(hm, .inr (2, MO p a b n key dr 0 hX hY hR hO sx sy (mxF dk (v1 + ii 1)) (mxF (mxF dk (v1 + ii 1)) v1))), (hX, .inl (cX, 1100, .inl (fun j => ii ((tx j : Nat) : Int)))), (hY, .inl (cY, 1100, .inl (fun j => ii ((ty j : Nat) : Int)))), (hR, .inl (cR, 4, .inl (fun j => ii ((ix j : Nat) : Int))))]) [3, 0, 1, 2] rfl
          have hD := hD.sub (ws' := [(hm, .inr (2, MO p a b n key dr 0 hX hY hR hO sx sy (mxF dk (v1 + ii 1)) (mxF (mxF dk (v1 + ii 1)) v1))), (hX, .inl (cX, 1100, .inl (fun j => ii ((tx j : Nat) : Int)))), (hY, .inl (cY, 1100, .inl (fun j => ii ((ty j : Nat) : Int)))), (hR, .inl (cR, 4, .inl (fun j => ii ((ix j : Nat) : Int))))]) [3, 0, 1, 2] (by decide) rfl
          refine lv_iinc C.1 C.2.1 dX2_sign_226 hl (k := 4) rfl (ii_add (d : Int) 1) (by decide) rfl (fun ls hl => ?_)
          have hl : lv_has ls 9 [(5, .int (ii ((d : Int) + 1))), (6, .int (ii k)), (0, .ref hm), (3, .int (ii (z % (n : Int)))), (4, .int mk)] := hl
          refine lv_goto (tgt := 95) C.1 C.2.1 dX2_sign_229 (by decide) ?_
          exact ih ls H1 locs1 _ _ (d + 1) (by omega) hV hP hD hS (lv_sub (l' := [(0, .ref hm), (3, .int (ii (z % (n : Int)))), (4, .int mk), (5, .int (ii ((d : Int) + 1)))]) hl [2, 3, 4, 0] rfl)
        · have hn1 : (0 : Int) < n := by omega
          have b1 := hT k.toNat
          have b2 := em_b ((tx k.toNat : Nat) : Int) hn1
          have q1 := em_b z hn1
          have v1b := ivF_b k.toNat n 1100 1
          have eS : sg2 n (tx k.toNat) k (z % (n : Int)) key = if ((tx k.toNat : Nat) : Int) % (n : Int) = 0 then 0 else if (z % (n : Int) + ((tx k.toNat : Nat) : Int) % (n : Int) * key) % (n : Int) * ((ivF k.toNat n 1100 1 : Nat) : Int) % (n : Int) = 0 then 0 else ((tx k.toNat : Nat) : Int) % (n : Int) * 65536 + (z % (n : Int) + ((tx k.toNat : Nat) : Int) % (n : Int) * key) % (n : Int) * ((ivF k.toNat n 1100 1 : Nat) : Int) % (n : Int) := by
            unfold sg2
            rw [if_neg h2, if_neg h3]
          refine lv_aload_n C.1 C.2.1 dX2_sign_142 rfl (lv_at hl 1 rfl) ?_
          refine gf C hK hP 0 rfl rfl aw_uX2 7 (by decide) aw_f_X2_7 rfl dX2_sign_143 ?_
          refine lv_iload C.1 C.2.1 dX2_sign_146 (lv_at hl 0 rfl) ?_
          refine i_ald C hK hP 1 0 rfl rfl k.toNat (by omega) (by omega) (by omega) dX2_sign_148 ?_
          refine lv_aload_n C.1 C.2.1 dX2_sign_149 rfl (lv_at hl 1 rfl) ?_
          refine gf C hK hP 0 rfl rfl aw_uX2 3 (by decide) aw_f_X2_65 rfl dX2_sign_150 ?_
          refine i_rem C dX2_sign_153 ⟨by omega, by omega⟩ ⟨by omega, by omega⟩ ?_
          have bm : ∀ u v : Int, 0 ≤ u ∧ u ≤ 1100 → 0 ≤ v ∧ v ≤ 1100 → 0 ≤ u * v ∧ u * v ≤ 1210000 := fun u v h1 h2 => ⟨Int.mul_nonneg h1.1 h2.1, Int.mul_le_mul h1.2 h2.2 h2.1 (by omega)⟩
          generalize hrr : ((tx k.toNat : Nat) : Int) % (n : Int) = r at b2 eS ⊢
          have b3 := bm r key (by omega) (by omega)
          have b4 := em_b (z % (n : Int) + r * key) hn1
          have b5 := bm ((z % (n : Int) + r * key) % (n : Int)) ((ivF k.toNat n 1100 1 : Nat) : Int) (by omega) (by omega)
          have b6 := em_b ((z % (n : Int) + r * key) % (n : Int) * ((ivF k.toNat n 1100 1 : Nat) : Int)) hn1
          refine lv_istore C.1 C.2.1 dX2_sign_154 hl (by decide) rfl (fun ls hl => ?_)
          have hl : lv_has ls 9 [(7, .int (ii r)), (6, .int (ii k)), (0, .ref hm), (3, .int (ii (z % (n : Int)))), (4, .int mk), (5, .int (ii (d : Int)))] := hl
          refine lv_iload_n C.1 C.2.1 dX2_sign_156 rfl (lv_at hl 3 rfl) ?_
          refine lv_iload C.1 C.2.1 dX2_sign_157 (lv_at hl 0 rfl) ?_
          refine lv_aload_n C.1 C.2.1 dX2_sign_159 rfl (lv_at hl 2 rfl) ?_
          refine gf C hK hP 0 rfl rfl aw_uX2 4 (by decide) aw_f_X2_68 rfl dX2_sign_160 ?_
          refine i_mul C dX2_sign_163 ?_
          refine i_add C dX2_sign_164 ?_
          refine lv_aload_n C.1 C.2.1 dX2_sign_165 rfl (lv_at hl 2 rfl) ?_
          refine gf C hK hP 0 rfl rfl aw_uX2 3 (by decide) aw_f_X2_65 rfl dX2_sign_166 ?_
          refine i_rem C dX2_sign_169 ⟨by omega, by omega⟩ ⟨by omega, by omega⟩ ?_
          refine lv_aload_n C.1 C.2.1 dX2_sign_170 rfl (lv_at hl 2 rfl) ?_
          refine lv_iload C.1 C.2.1 dX2_sign_171 (lv_at hl 1 rfl) ?_
          refine i_top (b := ((k.toNat : Nat) : Int)) (by omega) ?_
          refine lv_aload_n C.1 C.2.1 dX2_sign_173 rfl (lv_at hl 2 rfl) ?_
          refine gf C hK hP 0 rfl rfl aw_uX2 3 (by decide) aw_f_X2_65 rfl dX2_sign_174 ?_
          refine ca_V (As := [.int (ii ((k.toNat : Nat) : Int)), .int (ii (n : Int))]) (rest := [.int (ii (((z % (n : Int)) + (r * key)) % (n : Int)))]) C (c_X2_inverse l D hm k.toNat n (by omega) (by omega)) (pcw_preV0 [.int (ii ((k.toNat : Nat) : Int)), .int (ii (n : Int))] hN hP hK 0 (ci := 2) rfl rfl) aw_b_X2_inverse aw_m_X2_44 aw_v_X2_inverse aw_i_X2 aw_e_X2_inverse ⟨rfl, rfl⟩ 2 (by decide +kernel) rfl ⟨by decide, by decide⟩ hl.1 rfl (Nat.le_of_ble_eq_true rfl) dX2_sign_177 ⟨by decide, by decide⟩ ?_
          refine i_mul C dX2_sign_180 ?_
          refine lv_aload_n C.1 C.2.1 dX2_sign_181 rfl (lv_at hl 2 rfl) ?_
          refine gf C hK hP 0 rfl rfl aw_uX2 3 (by decide) aw_f_X2_65 rfl dX2_sign_182 ?_
          refine i_rem C dX2_sign_185 ⟨by omega, by omega⟩ ⟨by omega, by omega⟩ ?_
          generalize hss : (z % (n : Int) + r * key) % (n : Int) * ((ivF k.toNat n 1100 1 : Nat) : Int) % (n : Int) = s at b6 eS ⊢
          refine lv_istore C.1 C.2.1 dX2_sign_186 hl (by decide) rfl (fun ls hl => ?_)
          have hl : lv_has ls 9 [(8, .int (ii s)), (7, .int (ii r)), (6, .int (ii k)), (0, .ref hm), (3, .int (ii (z % (n : Int)))), (4, .int mk), (5, .int (ii (d : Int)))] := hl
          refine lv_iload C.1 C.2.1 dX2_sign_188 (lv_at hl 1 rfl) ?_
          refine i_if_eq (tgt := 216) C dX2_sign_190 (by decide) ⟨by omega, by omega⟩ (fun h4 => ?_) (fun h4 => ?_)
          · rw [if_pos (show sg2 n (tx k.toNat) k (z % (n : Int)) key = 0 by rw [eS, if_pos h4])] at hV
            refine lv_aload_n C.1 C.2.1 dX2_sign_216 rfl (lv_at hl 3 rfl) ?_
            refine lv_aload_n C.1 C.2.1 dX2_sign_217 rfl (lv_at hl 3 rfl) ?_
            refine gf C hK hP 0 rfl rfl aw_uX2 14 (by decide) aw_f_X2_109 rfl dX2_sign_218 ?_
            refine i_const C dX2_sign_221 ?_
            refine lv_iadd C.1 C.2.1 dX2_sign_222 ?_
            have hFc := va_free (wc := [(hm, .inr (2, MO p a b n key dr 0 hX hY hR hO sx sy dk v1))]) hD hS hA [0] rfl
            refine cn_V (As := [.int (v1 + (ii 1))]) (rest := []) C (c_X2_stir l D z0 _ hm p a b n key dr 0 hX hY hR hO sx sy dk v1 (v1 + ii 1)) (pcm_preV _ hN (Zs.on hZ hS hAz) (by have := hS.1; omega) (hP.sub (ws' := [(hm, .inr (2, MO p a b n key dr 0 hX hY hR hO sx sy dk v1))]) [0] rfl) (hK.sub (tys' := []) [] rfl) ((hD.sub (ws' := [(hm, .inr (2, MO p a b n key dr 0 hX hY hR hO sx sy dk v1))]) [0] (by decide) rfl).weaken (fun _ _ _ h => hAz _ h)) 0 (ci := 2) rfl rfl) hS hFc aw_b_X2_stir aw_m_X2_112 aw_v_X2_stir aw_i_X2 aw_e_X2_stir ⟨rfl, rfl⟩ 1 (by decide +kernel) rfl ⟨by decide, by decide⟩ hl.1 rfl (Nat.le_of_ble_eq_true rfl) dX2_sign_223 ⟨by decide, by decide⟩ (fun t H1 locs1 ht hvm _ hB jz1 jk1 hS => ?_)
            obtain ⟨hP1, hK1, hD1⟩ := hB
            rw [ht] at hP1
            obtain ⟨hP, hD⟩ := va_join (wr := [(hX, .inl (cX, 1100, .inl (fun j => ii ((tx j : Nat) : Int)))), (hY, .inl (cY, 1100, .inl (fun j => ii ((ty j : Nat) : Int)))), (hR, .inl (cR, 4, .inl (fun j => ii ((ix j : Nat) : Int))))]) (w1 := [(hm, .inr (2, MO p a b n key dr 0 hX hY hR hO sx sy (mxF dk (v1 + ii 1)) (mxF (mxF dk (v1 + ii 1)) v1)))]) hP hD [0] [1, 2, 3] rfl rfl (by decide) (by decide) jk1 hFc hP1 hD1
            have hP := hP.sub (ws' := [(hm, .inr (2, MO p a b n key dr 0 hX hY hR hO sx sy (mxF dk (v1 + ii 1)) (mxF (mxF dk (v1 + ii 1)) v1))), (hX, .inl (cX, 1100, .inl (fun j => ii ((tx j : Nat) : Int)))), (hY, .inl (cY, 1100, .inl (fun j => ii ((ty j : Nat) : Int)))), (hR, .inl (cR, 4, .inl (fun j => ii ((ix j : Nat) : Int))))]) [3, 0, 1, 2] rfl
            have hD := hD.sub (ws' := [(hm, .inr (2, MO p a b n key dr 0 hX hY hR hO sx sy (mxF dk (v1 + ii 1)) (mxF (mxF dk (v1 + ii 1)) v1))), (hX, .inl (cX, 1100, .inl (fun j => ii ((tx j : Nat) : Int)))), (hY, .inl (cY, 1100, .inl (fun j => ii ((ty j : Nat) : Int)))), (hR, .inl (cR, 4, .inl (fun j => ii ((ix j : Nat) : Int))))]) [3, 0, 1, 2] (by decide) rfl
            refine lv_iinc C.1 C.2.1 dX2_sign_226 hl (k := 6) rfl (ii_add (d : Int) 1) (by decide) rfl (fun ls hl => ?_)
            have hl : lv_has ls 9 [(5, .int (ii ((d : Int) + 1))), (8, .int (ii s)), (7, .int (ii r)), (6, .int (ii k)), (0, .ref hm), (3, .int (ii (z % (n : Int)))), (4, .int mk)] := hl
            refine lv_goto (tgt := 95) C.1 C.2.1 dX2_sign_229 (by decide) ?_
            exact ih ls H1 locs1 _ _ (d + 1) (by omega) hV hP hD hS (lv_sub (l' := [(0, .ref hm), (3, .int (ii (z % (n : Int)))), (4, .int mk), (5, .int (ii ((d : Int) + 1)))]) hl [4, 5, 6, 0] rfl)
          · refine lv_iload C.1 C.2.1 dX2_sign_193 (lv_at hl 0 rfl) ?_
            refine i_if_eq (tgt := 216) C dX2_sign_195 (by decide) ⟨by omega, by omega⟩ (fun h5 => ?_) (fun h5 => ?_)
            · rw [if_pos (show sg2 n (tx k.toNat) k (z % (n : Int)) key = 0 by rw [eS, if_neg h4, if_pos h5])] at hV
              refine lv_aload_n C.1 C.2.1 dX2_sign_216 rfl (lv_at hl 3 rfl) ?_
              refine lv_aload_n C.1 C.2.1 dX2_sign_217 rfl (lv_at hl 3 rfl) ?_
              refine gf C hK hP 0 rfl rfl aw_uX2 14 (by decide) aw_f_X2_109 rfl dX2_sign_218 ?_
              refine i_const C dX2_sign_221 ?_
              refine lv_iadd C.1 C.2.1 dX2_sign_222 ?_
              have hFc := va_free (wc := [(hm, .inr (2, MO p a b n key dr 0 hX hY hR hO sx sy dk v1))]) hD hS hA [0] rfl
              refine cn_V (As := [.int (v1 + (ii 1))]) (rest := []) C (c_X2_stir l D z0 _ hm p a b n key dr 0 hX hY hR hO sx sy dk v1 (v1 + ii 1)) (pcm_preV _ hN (Zs.on hZ hS hAz) (by have := hS.1; omega) (hP.sub (ws' := [(hm, .inr (2, MO p a b n key dr 0 hX hY hR hO sx sy dk v1))]) [0] rfl) (hK.sub (tys' := []) [] rfl) ((hD.sub (ws' := [(hm, .inr (2, MO p a b n key dr 0 hX hY hR hO sx sy dk v1))]) [0] (by decide) rfl).weaken (fun _ _ _ h => hAz _ h)) 0 (ci := 2) rfl rfl) hS hFc aw_b_X2_stir aw_m_X2_112 aw_v_X2_stir aw_i_X2 aw_e_X2_stir ⟨rfl, rfl⟩ 1 (by decide +kernel) rfl ⟨by decide, by decide⟩ hl.1 rfl (Nat.le_of_ble_eq_true rfl) dX2_sign_223 ⟨by decide, by decide⟩ (fun t H1 locs1 ht hvm _ hB jz1 jk1 hS => ?_)
              obtain ⟨hP1, hK1, hD1⟩ := hB
              rw [ht] at hP1
              obtain ⟨hP, hD⟩ := va_join (wr := [(hX, .inl (cX, 1100, .inl (fun j => ii ((tx j : Nat) : Int)))), (hY, .inl (cY, 1100, .inl (fun j => ii ((ty j : Nat) : Int)))), (hR, .inl (cR, 4, .inl (fun j => ii ((ix j : Nat) : Int))))]) (w1 := [(hm, .inr (2, MO p a b n key dr 0 hX hY hR hO sx sy (mxF dk (v1 + ii 1)) (mxF (mxF dk (v1 + ii 1)) v1)))]) hP hD [0] [1, 2, 3] rfl rfl (by decide) (by decide) jk1 hFc hP1 hD1
              have hP := hP.sub (ws' := [(hm, .inr (2, MO p a b n key dr 0 hX hY hR hO sx sy (mxF dk (v1 + ii 1)) (mxF (mxF dk (v1 + ii 1)) v1))), (hX, .inl (cX, 1100, .inl (fun j => ii ((tx j : Nat) : Int)))), (hY, .inl (cY, 1100, .inl (fun j => ii ((ty j : Nat) : Int)))), (hR, .inl (cR, 4, .inl (fun j => ii ((ix j : Nat) : Int))))]) [3, 0, 1, 2] rfl
              have hD := hD.sub (ws' := [(hm, .inr (2, MO p a b n key dr 0 hX hY hR hO sx sy (mxF dk (v1 + ii 1)) (mxF (mxF dk (v1 + ii 1)) v1))), (hX, .inl (cX, 1100, .inl (fun j => ii ((tx j : Nat) : Int)))), (hY, .inl (cY, 1100, .inl (fun j => ii ((ty j : Nat) : Int)))), (hR, .inl (cR, 4, .inl (fun j => ii ((ix j : Nat) : Int))))]) [3, 0, 1, 2] (by decide) rfl
              refine lv_iinc C.1 C.2.1 dX2_sign_226 hl (k := 6) rfl (ii_add (d : Int) 1) (by decide) rfl (fun ls hl => ?_)
              have hl : lv_has ls 9 [(5, .int (ii ((d : Int) + 1))), (8, .int (ii s)), (7, .int (ii r)), (6, .int (ii k)), (0, .ref hm), (3, .int (ii (z % (n : Int)))), (4, .int mk)] := hl
              refine lv_goto (tgt := 95) C.1 C.2.1 dX2_sign_229 (by decide) ?_
              exact ih ls H1 locs1 _ _ (d + 1) (by omega) hV hP hD hS (lv_sub (l' := [(0, .ref hm), (3, .int (ii (z % (n : Int)))), (4, .int mk), (5, .int (ii ((d : Int) + 1)))]) hl [4, 5, 6, 0] rfl)
            · rw [if_neg h4, if_neg h5] at eS
              rw [if_neg (show ¬ sg2 n (tx k.toNat) k (z % (n : Int)) key = 0 by omega), eS] at hV
              subst hV
              have hq : ¬ (some (d, r * 65536 + s) : Option (Nat × Int)) = none := fun z => by cases z
              rw [show rvS n key (some (d, r * 65536 + s)) = r * 65536 + s by unfold rvS; rw [if_neg hn0, if_neg hk0]; rfl, show thS n key (some (d, r * 65536 + s)) = 0 by unfold thS; rw [if_neg hn0, if_neg hk0, if_neg hq], show drS n key dr (some (d, r * 65536 + s)) = (d : Int) by unfold drS; rw [if_neg hn0, if_neg hk0, if_neg hq]; rfl]
              refine lv_aload_n C.1 C.2.1 dX2_sign_198 rfl (lv_at hl 3 rfl) ?_
              refine lv_iload C.1 C.2.1 dX2_sign_199 (lv_at hl 6 rfl) ?_
              refine p_f C hK hP hD hS 0 rfl rfl aw_uX2 tyX2 tyX2_ok nmX2 5 (by decide) aw_f_X2_116 rfl rfl rfl (Nat.le_of_ble_eq_true rfl) dX2_sign_201 (fun H1 locs1 hP hD hS => ?_)
              have hP : va_P D clX [(hm, .inr (2, MO p a b n key (d : Int) 0 hX hY hR hO sx sy dk v1)), (hX, .inl (cX, 1100, .inl (fun j => ii ((tx j : Nat) : Int)))), (hY, .inl (cY, 1100, .inl (fun j => ii ((ty j : Nat) : Int)))), (hR, .inl (cR, 4, .inl (fun j => ii ((ix j : Nat) : Int))))] H1 := hP
              have hD : va_D A [(hm, .inr (2, MO p a b n key (d : Int) 0 hX hY hR hO sx sy dk v1)), (hX, .inl (cX, 1100, .inl (fun j => ii ((tx j : Nat) : Int)))), (hY, .inl (cY, 1100, .inl (fun j => ii ((ty j : Nat) : Int)))), (hR, .inl (cR, 4, .inl (fun j => ii ((ix j : Nat) : Int))))] := hD
              refine lv_iload C.1 C.2.1 dX2_sign_204 (lv_at hl 1 rfl) ?_
              refine l_i2l C dX2_sign_206 ⟨by omega, by omega⟩ ?_
              refine l_ldc2 (n := 65536) C dX2_sign_207 aw_k_X2_90 (by decide +kernel) ?_
              refine l_mul C dX2_sign_210 ?_
              refine lv_iload C.1 C.2.1 dX2_sign_211 (lv_at hl 0 rfl) ?_
              refine l_i2l C dX2_sign_213 ⟨by omega, by omega⟩ ?_
              refine l_add C dX2_sign_214 ?_
              exact pz_l C hr hk hS trivial (fun t ht hvm => ⟨dk, v1, by rw [ht]; exact hP, va_K.moved hvm hK, hD⟩) dX2_sign_215 rfl (by decide) (by decide)
  have mask : n ≠ 0 → key ≠ 0 → ∀ (f : Nat) (ls : Array Slot) (H : Heap) (locs : List Loc) (m : Nat), m ≤ 2201 → n ≤ m * 2 ^ f → ii ((dmF n f m : Nat) : Int) = mk → va_P D clX [(hm, .inr (2, MO p a b n key dr 0 hX hY hR hO sx sy dk dv)), (hX, .inl (cX, 1100, .inl (fun j => ii ((tx j : Nat) : Int)))), (hY, .inl (cY, 1100, .inl (fun j => ii ((ty j : Nat) : Int)))), (hR, .inl (cR, 4, .inl (fun j => ii ((ix j : Nat) : Int))))] H → va_D A [(hm, .inr (2, MO p a b n key dr 0 hX hY hR hO sx sy dk dv)), (hX, .inl (cX, 1100, .inl (fun j => ii ((tx j : Nat) : Int)))), (hY, .inl (cY, 1100, .inl (fun j => ii ((ty j : Nat) : Int)))), (hR, .inl (cR, 4, .inl (fun j => ii ((ix j : Nat) : Int))))] → va_S A S0.heap H locs → lv_has ls 9 [(0, .ref hm), (3, .int (ii (z % (n : Int)))), (4, .int (ii (m : Int)))] → W P0 l E0 ({ frames := 2, cells := 0, slots := 0, locals := 60 } : Room) S0 M0 A0 B0 T0 K0 H locs 0 0 (MQ B0 (QcM (some (.long (li (rvS n key V)))) True (fun t => ∃ dk1 dv1, Wd D [(hm, .inr (2, MO p a b n key (drS n key dr V) (thS n key V) hX hY hR hO sx sy dk1 dv1)), (hX, .inl (cX, 1100, .inl (fun j => ii ((tx j : Nat) : Int)))), (hY, .inl (cY, 1100, .inl (fun j => ii ((ty j : Nat) : Int)))), (hR, .inl (cR, 4, .inl (fun j => ii ((ix j : Nat) : Int))))] [(cX, .int), (cY, .int), (cR, .int)] A t) A) A0 S0 0 0 A) (F0 M0 39 ls []) := by
    intro hn0 hk0 f
    have hV := hV hn0
    induction f with
    | zero =>
    intro ls H locs m hm2 hmn hm0 hP hD hS hl
    refine lv_iload C.1 C.2.1 dX2_sign_39 (lv_at hl 2 rfl) ?_
    refine lv_aload_n C.1 C.2.1 dX2_sign_41 rfl (lv_at hl 0 rfl) ?_
    refine gf C hK hP 0 rfl rfl aw_uX2 3 (by decide) aw_f_X2_65 rfl dX2_sign_42 ?_
    refine i_icmp_ge (tgt := 59) C dX2_sign_45 (by decide) ⟨by omega, by omega⟩ ⟨by omega, by omega⟩ (fun h1 => ?_) (fun h1 => ?_)
    · have em : ii (m : Int) = mk := hm0
      have hV2 := hV
      unfold vl1 at hV2
      unfold st1 at hV2
      rw [← ii_add 1 key] at hV2
      refine lv_aload_n C.1 C.2.1 dX2_sign_59 rfl (lv_at hl 0 rfl) ?_
      refine i_const C dX2_sign_60 ?_
      refine p_f C hK hP hD hS 0 rfl rfl aw_uX2 tyX2 tyX2_ok nmX2 13 (by decide) aw_f_X2_103 rfl rfl rfl (Nat.le_of_ble_eq_true rfl) dX2_sign_61 (fun H1 locs1 hP hD hS => ?_)
      have hP : va_P D clX [(hm, .inr (2, MO p a b n key dr 0 hX hY hR hO sx sy (ii 0) dv)), (hX, .inl (cX, 1100, .inl (fun j => ii ((tx j : Nat) : Int)))), (hY, .inl (cY, 1100, .inl (fun j => ii ((ty j : Nat) : Int)))), (hR, .inl (cR, 4, .inl (fun j => ii ((ix j : Nat) : Int))))] H1 := hP
      have hD : va_D A [(hm, .inr (2, MO p a b n key dr 0 hX hY hR hO sx sy (ii 0) dv)), (hX, .inl (cX, 1100, .inl (fun j => ii ((tx j : Nat) : Int)))), (hY, .inl (cY, 1100, .inl (fun j => ii ((ty j : Nat) : Int)))), (hR, .inl (cR, 4, .inl (fun j => ii ((ix j : Nat) : Int))))] := hD
      refine lv_aload_n C.1 C.2.1 dX2_sign_64 rfl (lv_at hl 0 rfl) ?_
      refine i_const C dX2_sign_65 ?_
      refine p_f C hK hP hD hS 0 rfl rfl aw_uX2 tyX2 tyX2_ok nmX2 14 (by decide) aw_f_X2_109 rfl rfl rfl (Nat.le_of_ble_eq_true rfl) dX2_sign_66 (fun H1 locs1 hP hD hS => ?_)
      have hP : va_P D clX [(hm, .inr (2, MO p a b n key dr 0 hX hY hR hO sx sy (ii 0) (ii 1))), (hX, .inl (cX, 1100, .inl (fun j => ii ((tx j : Nat) : Int)))), (hY, .inl (cY, 1100, .inl (fun j => ii ((ty j : Nat) : Int)))), (hR, .inl (cR, 4, .inl (fun j => ii ((ix j : Nat) : Int))))] H1 := hP
      have hD : va_D A [(hm, .inr (2, MO p a b n key dr 0 hX hY hR hO sx sy (ii 0) (ii 1))), (hX, .inl (cX, 1100, .inl (fun j => ii ((tx j : Nat) : Int)))), (hY, .inl (cY, 1100, .inl (fun j => ii ((ty j : Nat) : Int)))), (hR, .inl (cR, 4, .inl (fun j => ii ((ix j : Nat) : Int))))] := hD
      refine lv_aload_n C.1 C.2.1 dX2_sign_69 rfl (lv_at hl 0 rfl) ?_
      refine lv_aload_n C.1 C.2.1 dX2_sign_70 rfl (lv_at hl 0 rfl) ?_
      refine gf C hK hP 0 rfl rfl aw_uX2 14 (by decide) aw_f_X2_109 rfl dX2_sign_71 ?_
      refine lv_aload_n C.1 C.2.1 dX2_sign_74 rfl (lv_at hl 0 rfl) ?_
      refine gf C hK hP 0 rfl rfl aw_uX2 4 (by decide) aw_f_X2_68 rfl dX2_sign_75 ?_
      refine lv_iadd C.1 C.2.1 dX2_sign_78 ?_
      have hFc := va_free (wc := [(hm, .inr (2, MO p a b n key dr 0 hX hY hR hO sx sy (ii 0) (ii 1)))]) hD hS hA [0] rfl
      refine cn_V (As := [.int (ii 1 + ii key)]) (rest := []) C (c_X2_stir l D z0 _ hm p a b n key dr 0 hX hY hR hO sx sy (ii 0) (ii 1) (ii 1 + ii key)) (pcm_preV _ hN (Zs.on hZ hS hAz) (by have := hS.1; omega) (hP.sub (ws' := [(hm, .inr (2, MO p a b n key dr 0 hX hY hR hO sx sy (ii 0) (ii 1)))]) [0] rfl) (hK.sub (tys' := []) [] rfl) ((hD.sub (ws' := [(hm, .inr (2, MO p a b n key dr 0 hX hY hR hO sx sy (ii 0) (ii 1)))]) [0] (by decide) rfl).weaken (fun _ _ _ h => hAz _ h)) 0 (ci := 2) rfl rfl) hS hFc aw_b_X2_stir aw_m_X2_112 aw_v_X2_stir aw_i_X2 aw_e_X2_stir ⟨rfl, rfl⟩ 1 (by decide +kernel) rfl ⟨by decide, by decide⟩ hl.1 rfl (Nat.le_of_ble_eq_true rfl) dX2_sign_79 ⟨by decide, by decide⟩ (fun t H1 locs1 ht hvm _ hB jz1 jk1 hS => ?_)
      obtain ⟨hP1, hK1, hD1⟩ := hB
      rw [ht] at hP1
      obtain ⟨hP, hD⟩ := va_join (wr := [(hX, .inl (cX, 1100, .inl (fun j => ii ((tx j : Nat) : Int)))), (hY, .inl (cY, 1100, .inl (fun j => ii ((ty j : Nat) : Int)))), (hR, .inl (cR, 4, .inl (fun j => ii ((ix j : Nat) : Int))))]) (w1 := [(hm, .inr (2, MO p a b n key dr 0 hX hY hR hO sx sy (mxF (ii 0) (ii 1 + ii key)) (mxF (mxF (ii 0) (ii 1 + ii key)) (ii 1))))]) hP hD [0] [1, 2, 3] rfl rfl (by decide) (by decide) jk1 hFc hP1 hD1
      have hP := hP.sub (ws' := [(hm, .inr (2, MO p a b n key dr 0 hX hY hR hO sx sy (mxF (ii 0) (ii 1 + ii key)) (mxF (mxF (ii 0) (ii 1 + ii key)) (ii 1)))), (hX, .inl (cX, 1100, .inl (fun j => ii ((tx j : Nat) : Int)))), (hY, .inl (cY, 1100, .inl (fun j => ii ((ty j : Nat) : Int)))), (hR, .inl (cR, 4, .inl (fun j => ii ((ix j : Nat) : Int))))]) [3, 0, 1, 2] rfl
      have hD := hD.sub (ws' := [(hm, .inr (2, MO p a b n key dr 0 hX hY hR hO sx sy (mxF (ii 0) (ii 1 + ii key)) (mxF (mxF (ii 0) (ii 1 + ii key)) (ii 1)))), (hX, .inl (cX, 1100, .inl (fun j => ii ((tx j : Nat) : Int)))), (hY, .inl (cY, 1100, .inl (fun j => ii ((ty j : Nat) : Int)))), (hR, .inl (cR, 4, .inl (fun j => ii ((ix j : Nat) : Int))))]) [3, 0, 1, 2] (by decide) rfl
      generalize mxF (ii 0) (ii 1 + ii key) = s0 at hP hD hV2 ⊢
      generalize mxF s0 (ii 1) = v0 at hP hD hV2 ⊢
      refine lv_aload_n C.1 C.2.1 dX2_sign_82 rfl (lv_at hl 0 rfl) ?_
      refine lv_aload_n C.1 C.2.1 dX2_sign_83 rfl (lv_at hl 0 rfl) ?_
      refine gf C hK hP 0 rfl rfl aw_uX2 14 (by decide) aw_f_X2_109 rfl dX2_sign_84 ?_
      refine lv_iload_n C.1 C.2.1 dX2_sign_87 rfl (lv_at hl 1 rfl) ?_
      refine lv_ixor C.1 C.2.1 dX2_sign_88 ?_
      have hFc := va_free (wc := [(hm, .inr (2, MO p a b n key dr 0 hX hY hR hO sx sy s0 v0))]) hD hS hA [0] rfl
      refine cn_V (As := [.int (v0 ^^^ (ii (z % (n : Int))))]) (rest := []) C (c_X2_stir l D z0 _ hm p a b n key dr 0 hX hY hR hO sx sy s0 v0 (v0 ^^^ ii (z % (n : Int)))) (pcm_preV _ hN (Zs.on hZ hS hAz) (by have := hS.1; omega) (hP.sub (ws' := [(hm, .inr (2, MO p a b n key dr 0 hX hY hR hO sx sy s0 v0))]) [0] rfl) (hK.sub (tys' := []) [] rfl) ((hD.sub (ws' := [(hm, .inr (2, MO p a b n key dr 0 hX hY hR hO sx sy s0 v0))]) [0] (by decide) rfl).weaken (fun _ _ _ h => hAz _ h)) 0 (ci := 2) rfl rfl) hS hFc aw_b_X2_stir aw_m_X2_112 aw_v_X2_stir aw_i_X2 aw_e_X2_stir ⟨rfl, rfl⟩ 1 (by decide +kernel) rfl ⟨by decide, by decide⟩ hl.1 rfl (Nat.le_of_ble_eq_true rfl) dX2_sign_89 ⟨by decide, by decide⟩ (fun t H1 locs1 ht hvm _ hB jz1 jk1 hS => ?_)
      obtain ⟨hP1, hK1, hD1⟩ := hB
      rw [ht] at hP1
      obtain ⟨hP, hD⟩ := va_join (wr := [(hX, .inl (cX, 1100, .inl (fun j => ii ((tx j : Nat) : Int)))), (hY, .inl (cY, 1100, .inl (fun j => ii ((ty j : Nat) : Int)))), (hR, .inl (cR, 4, .inl (fun j => ii ((ix j : Nat) : Int))))]) (w1 := [(hm, .inr (2, MO p a b n key dr 0 hX hY hR hO sx sy (mxF s0 (v0 ^^^ ii (z % (n : Int)))) (mxF (mxF s0 (v0 ^^^ ii (z % (n : Int)))) v0)))]) hP hD [0] [1, 2, 3] rfl rfl (by decide) (by decide) jk1 hFc hP1 hD1
      have hP := hP.sub (ws' := [(hm, .inr (2, MO p a b n key dr 0 hX hY hR hO sx sy (mxF s0 (v0 ^^^ ii (z % (n : Int)))) (mxF (mxF s0 (v0 ^^^ ii (z % (n : Int)))) v0))), (hX, .inl (cX, 1100, .inl (fun j => ii ((tx j : Nat) : Int)))), (hY, .inl (cY, 1100, .inl (fun j => ii ((ty j : Nat) : Int)))), (hR, .inl (cR, 4, .inl (fun j => ii ((ix j : Nat) : Int))))]) [3, 0, 1, 2] rfl
      have hD := hD.sub (ws' := [(hm, .inr (2, MO p a b n key dr 0 hX hY hR hO sx sy (mxF s0 (v0 ^^^ ii (z % (n : Int)))) (mxF (mxF s0 (v0 ^^^ ii (z % (n : Int)))) v0))), (hX, .inl (cX, 1100, .inl (fun j => ii ((tx j : Nat) : Int)))), (hY, .inl (cY, 1100, .inl (fun j => ii ((ty j : Nat) : Int)))), (hR, .inl (cR, 4, .inl (fun j => ii ((ix j : Nat) : Int))))]) [3, 0, 1, 2] (by decide) rfl
      refine i_const C dX2_sign_92 ?_
      refine lv_istore C.1 C.2.1 dX2_sign_93 hl (by decide) rfl (fun ls hl => ?_)
      have hl : lv_has ls 9 [(5, .int (ii 1)), (0, .ref hm), (3, .int (ii (z % (n : Int)))), (4, .int (ii (m : Int)))] := hl
      rw [em] at hl
      exact loop hn0 hk0 F24 ls H1 locs1 _ _ 1 (by omega) hV2 hP hD hS (lv_sub (l' := [(0, .ref hm), (3, .int (ii (z % (n : Int)))), (4, .int mk), (5, .int (ii 1))]) hl [1, 2, 3, 0] rfl)
    · rw [Nat.pow_zero] at hmn
      omega
    | succ f ih =>
    intro ls H locs m hm2 hmn hm0 hP hD hS hl
    rw [dmF_s] at hm0
    refine lv_iload C.1 C.2.1 dX2_sign_39 (lv_at hl 2 rfl) ?_
    refine lv_aload_n C.1 C.2.1 dX2_sign_41 rfl (lv_at hl 0 rfl) ?_
    refine gf C hK hP 0 rfl rfl aw_uX2 3 (by decide) aw_f_X2_65 rfl dX2_sign_42 ?_
    refine i_icmp_ge (tgt := 59) C dX2_sign_45 (by decide) ⟨by omega, by omega⟩ ⟨by omega, by omega⟩ (fun h1 => ?_) (fun h1 => ?_)
    · rw [if_pos (show n ≤ m by omega)] at hm0
      have em : ii (m : Int) = mk := hm0
      have hV2 := hV
      unfold vl1 at hV2
      unfold st1 at hV2
      rw [← ii_add 1 key] at hV2
      refine lv_aload_n C.1 C.2.1 dX2_sign_59 rfl (lv_at hl 0 rfl) ?_
      refine i_const C dX2_sign_60 ?_
      refine p_f C hK hP hD hS 0 rfl rfl aw_uX2 tyX2 tyX2_ok nmX2 13 (by decide) aw_f_X2_103 rfl rfl rfl (Nat.le_of_ble_eq_true rfl) dX2_sign_61 (fun H1 locs1 hP hD hS => ?_)
      have hP : va_P D clX [(hm, .inr (2, MO p a b n key dr 0 hX hY hR hO sx sy (ii 0) dv)), (hX, .inl (cX, 1100, .inl (fun j => ii ((tx j : Nat) : Int)))), (hY, .inl (cY, 1100, .inl (fun j => ii ((ty j : Nat) : Int)))), (hR, .inl (cR, 4, .inl (fun j => ii ((ix j : Nat) : Int))))] H1 := hP
      have hD : va_D A [(hm, .inr (2, MO p a b n key dr 0 hX hY hR hO sx sy (ii 0) dv)), (hX, .inl (cX, 1100, .inl (fun j => ii ((tx j : Nat) : Int)))), (hY, .inl (cY, 1100, .inl (fun j => ii ((ty j : Nat) : Int)))), (hR, .inl (cR, 4, .inl (fun j => ii ((ix j : Nat) : Int))))] := hD
      refine lv_aload_n C.1 C.2.1 dX2_sign_64 rfl (lv_at hl 0 rfl) ?_
      refine i_const C dX2_sign_65 ?_
      refine p_f C hK hP hD hS 0 rfl rfl aw_uX2 tyX2 tyX2_ok nmX2 14 (by decide) aw_f_X2_109 rfl rfl rfl (Nat.le_of_ble_eq_true rfl) dX2_sign_66 (fun H1 locs1 hP hD hS => ?_)
      have hP : va_P D clX [(hm, .inr (2, MO p a b n key dr 0 hX hY hR hO sx sy (ii 0) (ii 1))), (hX, .inl (cX, 1100, .inl (fun j => ii ((tx j : Nat) : Int)))), (hY, .inl (cY, 1100, .inl (fun j => ii ((ty j : Nat) : Int)))), (hR, .inl (cR, 4, .inl (fun j => ii ((ix j : Nat) : Int))))] H1 := hP
      have hD : va_D A [(hm, .inr (2, MO p a b n key dr 0 hX hY hR hO sx sy (ii 0) (ii 1))), (hX, .inl (cX, 1100, .inl (fun j => ii ((tx j : Nat) : Int)))), (hY, .inl (cY, 1100, .inl (fun j => ii ((ty j : Nat) : Int)))), (hR, .inl (cR, 4, .inl (fun j => ii ((ix j : Nat) : Int))))] := hD
      refine lv_aload_n C.1 C.2.1 dX2_sign_69 rfl (lv_at hl 0 rfl) ?_
      refine lv_aload_n C.1 C.2.1 dX2_sign_70 rfl (lv_at hl 0 rfl) ?_
      refine gf C hK hP 0 rfl rfl aw_uX2 14 (by decide) aw_f_X2_109 rfl dX2_sign_71 ?_
      refine lv_aload_n C.1 C.2.1 dX2_sign_74 rfl (lv_at hl 0 rfl) ?_
      refine gf C hK hP 0 rfl rfl aw_uX2 4 (by decide) aw_f_X2_68 rfl dX2_sign_75 ?_
      refine lv_iadd C.1 C.2.1 dX2_sign_78 ?_
      have hFc := va_free (wc := [(hm, .inr (2, MO p a b n key dr 0 hX hY hR hO sx sy (ii 0) (ii 1)))]) hD hS hA [0] rfl
      refine cn_V (As := [.int (ii 1 + ii key)]) (rest := []) C (c_X2_stir l D z0 _ hm p a b n key dr 0 hX hY hR hO sx sy (ii 0) (ii 1) (ii 1 + ii key)) (pcm_preV _ hN (Zs.on hZ hS hAz) (by have := hS.1; omega) (hP.sub (ws' := [(hm, .inr (2, MO p a b n key dr 0 hX hY hR hO sx sy (ii 0) (ii 1)))]) [0] rfl) (hK.sub (tys' := []) [] rfl) ((hD.sub (ws' := [(hm, .inr (2, MO p a b n key dr 0 hX hY hR hO sx sy (ii 0) (ii 1)))]) [0] (by decide) rfl).weaken (fun _ _ _ h => hAz _ h)) 0 (ci := 2) rfl rfl) hS hFc aw_b_X2_stir aw_m_X2_112 aw_v_X2_stir aw_i_X2 aw_e_X2_stir ⟨rfl, rfl⟩ 1 (by decide +kernel) rfl ⟨by decide, by decide⟩ hl.1 rfl (Nat.le_of_ble_eq_true rfl) dX2_sign_79 ⟨by decide, by decide⟩ (fun t H1 locs1 ht hvm _ hB jz1 jk1 hS => ?_)
      obtain ⟨hP1, hK1, hD1⟩ := hB
      rw [ht] at hP1
      obtain ⟨hP, hD⟩ := va_join (wr := [(hX, .inl (cX, 1100, .inl (fun j => ii ((tx j : Nat) : Int)))), (hY, .inl (cY, 1100, .inl (fun j => ii ((ty j : Nat) : Int)))), (hR, .inl (cR, 4, .inl (fun j => ii ((ix j : Nat) : Int))))]) (w1 := [(hm, .inr (2, MO p a b n key dr 0 hX hY hR hO sx sy (mxF (ii 0) (ii 1 + ii key)) (mxF (mxF (ii 0) (ii 1 + ii key)) (ii 1))))]) hP hD [0] [1, 2, 3] rfl rfl (by decide) (by decide) jk1 hFc hP1 hD1
      have hP := hP.sub (ws' := [(hm, .inr (2, MO p a b n key dr 0 hX hY hR hO sx sy (mxF (ii 0) (ii 1 + ii key)) (mxF (mxF (ii 0) (ii 1 + ii key)) (ii 1)))), (hX, .inl (cX, 1100, .inl (fun j => ii ((tx j : Nat) : Int)))), (hY, .inl (cY, 1100, .inl (fun j => ii ((ty j : Nat) : Int)))), (hR, .inl (cR, 4, .inl (fun j => ii ((ix j : Nat) : Int))))]) [3, 0, 1, 2] rfl
      have hD := hD.sub (ws' := [(hm, .inr (2, MO p a b n key dr 0 hX hY hR hO sx sy (mxF (ii 0) (ii 1 + ii key)) (mxF (mxF (ii 0) (ii 1 + ii key)) (ii 1)))), (hX, .inl (cX, 1100, .inl (fun j => ii ((tx j : Nat) : Int)))), (hY, .inl (cY, 1100, .inl (fun j => ii ((ty j : Nat) : Int)))), (hR, .inl (cR, 4, .inl (fun j => ii ((ix j : Nat) : Int))))]) [3, 0, 1, 2] (by decide) rfl
      generalize mxF (ii 0) (ii 1 + ii key) = s0 at hP hD hV2 ⊢
      generalize mxF s0 (ii 1) = v0 at hP hD hV2 ⊢
      refine lv_aload_n C.1 C.2.1 dX2_sign_82 rfl (lv_at hl 0 rfl) ?_
      refine lv_aload_n C.1 C.2.1 dX2_sign_83 rfl (lv_at hl 0 rfl) ?_
      refine gf C hK hP 0 rfl rfl aw_uX2 14 (by decide) aw_f_X2_109 rfl dX2_sign_84 ?_
      refine lv_iload_n C.1 C.2.1 dX2_sign_87 rfl (lv_at hl 1 rfl) ?_
      refine lv_ixor C.1 C.2.1 dX2_sign_88 ?_
      have hFc := va_free (wc := [(hm, .inr (2, MO p a b n key dr 0 hX hY hR hO sx sy s0 v0))]) hD hS hA [0] rfl
      refine cn_V (As := [.int (v0 ^^^ (ii (z % (n : Int))))]) (rest := []) C (c_X2_stir l D z0 _ hm p a b n key dr 0 hX hY hR hO sx sy s0 v0 (v0 ^^^ ii (z % (n : Int)))) (pcm_preV _ hN (Zs.on hZ hS hAz) (by have := hS.1; omega) (hP.sub (ws' := [(hm, .inr (2, MO p a b n key dr 0 hX hY hR hO sx sy s0 v0))]) [0] rfl) (hK.sub (tys' := []) [] rfl) ((hD.sub (ws' := [(hm, .inr (2, MO p a b n key dr 0 hX hY hR hO sx sy s0 v0))]) [0] (by decide) rfl).weaken (fun _ _ _ h => hAz _ h)) 0 (ci := 2) rfl rfl) hS hFc aw_b_X2_stir aw_m_X2_112 aw_v_X2_stir aw_i_X2 aw_e_X2_stir ⟨rfl, rfl⟩ 1 (by decide +kernel) rfl ⟨by decide, by decide⟩ hl.1 rfl (Nat.le_of_ble_eq_true rfl) dX2_sign_89 ⟨by decide, by decide⟩ (fun t H1 locs1 ht hvm _ hB jz1 jk1 hS => ?_)
      obtain ⟨hP1, hK1, hD1⟩ := hB
      rw [ht] at hP1
      obtain ⟨hP, hD⟩ := va_join (wr := [(hX, .inl (cX, 1100, .inl (fun j => ii ((tx j : Nat) : Int)))), (hY, .inl (cY, 1100, .inl (fun j => ii ((ty j : Nat) : Int)))), (hR, .inl (cR, 4, .inl (fun j => ii ((ix j : Nat) : Int))))]) (w1 := [(hm, .inr (2, MO p a b n key dr 0 hX hY hR hO sx sy (mxF s0 (v0 ^^^ ii (z % (n : Int)))) (mxF (mxF s0 (v0 ^^^ ii (z % (n : Int)))) v0)))]) hP hD [0] [1, 2, 3] rfl rfl (by decide) (by decide) jk1 hFc hP1 hD1
      have hP := hP.sub (ws' := [(hm, .inr (2, MO p a b n key dr 0 hX hY hR hO sx sy (mxF s0 (v0 ^^^ ii (z % (n : Int)))) (mxF (mxF s0 (v0 ^^^ ii (z % (n : Int)))) v0))), (hX, .inl (cX, 1100, .inl (fun j => ii ((tx j : Nat) : Int)))), (hY, .inl (cY, 1100, .inl (fun j => ii ((ty j : Nat) : Int)))), (hR, .inl (cR, 4, .inl (fun j => ii ((ix j : Nat) : Int))))]) [3, 0, 1, 2] rfl
      have hD := hD.sub (ws' := [(hm, .inr (2, MO p a b n key dr 0 hX hY hR hO sx sy (mxF s0 (v0 ^^^ ii (z % (n : Int)))) (mxF (mxF s0 (v0 ^^^ ii (z % (n : Int)))) v0))), (hX, .inl (cX, 1100, .inl (fun j => ii ((tx j : Nat) : Int)))), (hY, .inl (cY, 1100, .inl (fun j => ii ((ty j : Nat) : Int)))), (hR, .inl (cR, 4, .inl (fun j => ii ((ix j : Nat) : Int))))]) [3, 0, 1, 2] (by decide) rfl
      refine i_const C dX2_sign_92 ?_
      refine lv_istore C.1 C.2.1 dX2_sign_93 hl (by decide) rfl (fun ls hl => ?_)
      have hl : lv_has ls 9 [(5, .int (ii 1)), (0, .ref hm), (3, .int (ii (z % (n : Int)))), (4, .int (ii (m : Int)))] := hl
      rw [em] at hl
      exact loop hn0 hk0 F24 ls H1 locs1 _ _ 1 (by omega) hV2 hP hD hS (lv_sub (l' := [(0, .ref hm), (3, .int (ii (z % (n : Int)))), (4, .int mk), (5, .int (ii 1))]) hl [1, 2, 3, 0] rfl)
    · rw [if_neg (show ¬ n ≤ m by omega)] at hm0
      refine i_const C dX2_sign_48 ?_
      refine lv_iload C.1 C.2.1 dX2_sign_49 (lv_at hl 2 rfl) ?_
      refine i_mul C dX2_sign_51 ?_
      refine i_const C dX2_sign_52 ?_
      refine i_add C dX2_sign_53 ?_
      refine i_top (b := ((m * 2 + 1 : Nat) : Int)) (by omega) ?_
      refine lv_istore C.1 C.2.1 dX2_sign_54 hl (by decide) rfl (fun ls hl => ?_)
      have hl : lv_has ls 9 [(4, .int (ii ((m * 2 + 1 : Nat) : Int))), (0, .ref hm), (3, .int (ii (z % (n : Int))))] := hl
      refine lv_goto (tgt := 39) C.1 C.2.1 dX2_sign_56 (by decide) ?_
      exact ih ls H locs (m * 2 + 1) (by omega) (pw2_s hmn) hm0 hP hD hS (lv_sub (l' := [(0, .ref hm), (3, .int (ii (z % (n : Int)))), (4, .int (ii ((m * 2 + 1 : Nat) : Int)))]) hl [1, 2, 0] rfl)
  refine lv_aload_n C.1 C.2.1 dX2_sign_0 rfl (lv_at hl 0 rfl) ?_
  refine lv_aload_n C.1 C.2.1 dX2_sign_1 rfl (lv_at hl 0 rfl) ?_
  refine gf C hK hP 0 rfl rfl aw_uX2 3 (by decide) aw_f_X2_65 rfl dX2_sign_2 ?_
  refine i_if_eq (tgt := 15) C dX2_sign_5 (by decide) ⟨by omega, by omega⟩ (fun h1 => ?_) (fun h1 => ?_)
  · refine i_const C dX2_sign_15 ?_
    refine lv_goto (tgt := 20) C.1 C.2.1 dX2_sign_16 (by decide) ?_
    refine i_const C dX2_sign_20 ?_
    refine i_const C dX2_sign_21 ?_
    have hFc := va_free (wc := [(hm, .inr (2, MO p a b n key dr th hX hY hR hO sx sy dk dv))]) hD hS hA [0] rfl
    refine cn_V (As := [.int (ii 1), .int (ii 0), .int (ii 0)]) (rest := []) C (c_X2_good l D z0 _ hm p a b n key dr th hX hY hR hO sx sy dk dv 1 0 0 (by omega) (by omega) (by omega)) (pcm_preV _ hN (Zs.on hZ hS hAz) (by have := hS.1; omega) (hP.sub (ws' := [(hm, .inr (2, MO p a b n key dr th hX hY hR hO sx sy dk dv))]) [0] rfl) (hK.sub (tys' := []) [] rfl) ((hD.sub (ws' := [(hm, .inr (2, MO p a b n key dr th hX hY hR hO sx sy dk dv))]) [0] (by decide) rfl).weaken (fun _ _ _ h => hAz _ h)) 0 (ci := 2) rfl rfl) hS hFc aw_b_X2_good aw_m_X2_58 aw_v_X2_good aw_i_X2 aw_e_X2_good ⟨rfl, rfl⟩ 3 (by decide +kernel) rfl ⟨by decide, by decide⟩ hl.1 rfl (Nat.le_of_ble_eq_true rfl) dX2_sign_22 ⟨by decide, by decide⟩ (fun t H1 locs1 ht hvm _ hB jz1 jk1 hS => ?_)
    obtain ⟨hP1, hK1, hD1⟩ := hB
    rw [ht] at hP1
    obtain ⟨hP, hD⟩ := va_join (wr := [(hX, .inl (cX, 1100, .inl (fun j => ii ((tx j : Nat) : Int)))), (hY, .inl (cY, 1100, .inl (fun j => ii ((ty j : Nat) : Int)))), (hR, .inl (cR, 4, .inl (fun j => ii ((ix j : Nat) : Int))))]) (w1 := [(hm, .inr (2, MO p a b n key dr (gdF 1 0 0) hX hY hR hO sx sy dk dv))]) hP hD [0] [1, 2, 3] rfl rfl (by decide) (by decide) jk1 hFc hP1 hD1
    have hP := hP.sub (ws' := [(hm, .inr (2, MO p a b n key dr (gdF 1 0 0) hX hY hR hO sx sy dk dv)), (hX, .inl (cX, 1100, .inl (fun j => ii ((tx j : Nat) : Int)))), (hY, .inl (cY, 1100, .inl (fun j => ii ((ty j : Nat) : Int)))), (hR, .inl (cR, 4, .inl (fun j => ii ((ix j : Nat) : Int))))]) [3, 0, 1, 2] rfl
    have hD := hD.sub (ws' := [(hm, .inr (2, MO p a b n key dr (gdF 1 0 0) hX hY hR hO sx sy dk dv)), (hX, .inl (cX, 1100, .inl (fun j => ii ((tx j : Nat) : Int)))), (hY, .inl (cY, 1100, .inl (fun j => ii ((ty j : Nat) : Int)))), (hR, .inl (cR, 4, .inl (fun j => ii ((ix j : Nat) : Int))))]) [3, 0, 1, 2] (by decide) rfl
    have gb := goF_b (gdF 1 0 0)
    have g0 := goF_0 (k := gdF 1 0 0)
    have gz := gdF_0 (k1 := 1) (k2 := 0) (k3 := 0)
    refine i_if_ne (tgt := 30) C dX2_sign_25 (by decide) ⟨by omega, by omega⟩ (fun h2 => ?_) (fun h2 => ?_)
    · have := gz.mp (Classical.byContradiction fun z => h2 (g0.mpr z))
      omega
    · have hP : va_P D clX [(hm, .inr (2, MO p a b n key dr 1 hX hY hR hO sx sy dk dv)), (hX, .inl (cX, 1100, .inl (fun j => ii ((tx j : Nat) : Int)))), (hY, .inl (cY, 1100, .inl (fun j => ii ((ty j : Nat) : Int)))), (hR, .inl (cR, 4, .inl (fun j => ii ((ix j : Nat) : Int))))] H1 := hP
      have hD : va_D A [(hm, .inr (2, MO p a b n key dr 1 hX hY hR hO sx sy dk dv)), (hX, .inl (cX, 1100, .inl (fun j => ii ((tx j : Nat) : Int)))), (hY, .inl (cY, 1100, .inl (fun j => ii ((ty j : Nat) : Int)))), (hR, .inl (cR, 4, .inl (fun j => ii ((ix j : Nat) : Int))))] := hD
      rw [show rvS n key V = 0 by unfold rvS; rw [if_pos (show n = 0 by omega)], show thS n key V = 1 by unfold thS; rw [if_pos (show n = 0 by omega)], show drS n key dr V = dr by unfold drS; rw [if_pos (show n = 0 by omega)]]
      refine l_const0 C dX2_sign_28 ?_
      exact pz_l C hr hk hS trivial (fun t ht hvm => ⟨dk, dv, by rw [ht]; exact hP, va_K.moved hvm hK, hD⟩) dX2_sign_29 rfl (by decide) (by decide)
  · refine lv_aload_n C.1 C.2.1 dX2_sign_8 rfl (lv_at hl 0 rfl) ?_
    refine gf C hK hP 0 rfl rfl aw_uX2 4 (by decide) aw_f_X2_68 rfl dX2_sign_9 ?_
    refine i_if_ne (tgt := 19) C dX2_sign_12 (by decide) ⟨by omega, by omega⟩ (fun h3 => ?_) (fun h3 => ?_)
    · refine i_const C dX2_sign_19 ?_
      refine i_const C dX2_sign_20 ?_
      refine i_const C dX2_sign_21 ?_
      have hFc := va_free (wc := [(hm, .inr (2, MO p a b n key dr th hX hY hR hO sx sy dk dv))]) hD hS hA [0] rfl
      refine cn_V (As := [.int (ii 0), .int (ii 0), .int (ii 0)]) (rest := []) C (c_X2_good l D z0 _ hm p a b n key dr th hX hY hR hO sx sy dk dv 0 0 0 (by omega) (by omega) (by omega)) (pcm_preV _ hN (Zs.on hZ hS hAz) (by have := hS.1; omega) (hP.sub (ws' := [(hm, .inr (2, MO p a b n key dr th hX hY hR hO sx sy dk dv))]) [0] rfl) (hK.sub (tys' := []) [] rfl) ((hD.sub (ws' := [(hm, .inr (2, MO p a b n key dr th hX hY hR hO sx sy dk dv))]) [0] (by decide) rfl).weaken (fun _ _ _ h => hAz _ h)) 0 (ci := 2) rfl rfl) hS hFc aw_b_X2_good aw_m_X2_58 aw_v_X2_good aw_i_X2 aw_e_X2_good ⟨rfl, rfl⟩ 3 (by decide +kernel) rfl ⟨by decide, by decide⟩ hl.1 rfl (Nat.le_of_ble_eq_true rfl) dX2_sign_22 ⟨by decide, by decide⟩ (fun t H1 locs1 ht hvm _ hB jz1 jk1 hS => ?_)
      obtain ⟨hP1, hK1, hD1⟩ := hB
      rw [ht] at hP1
      obtain ⟨hP, hD⟩ := va_join (wr := [(hX, .inl (cX, 1100, .inl (fun j => ii ((tx j : Nat) : Int)))), (hY, .inl (cY, 1100, .inl (fun j => ii ((ty j : Nat) : Int)))), (hR, .inl (cR, 4, .inl (fun j => ii ((ix j : Nat) : Int))))]) (w1 := [(hm, .inr (2, MO p a b n key dr (gdF 0 0 0) hX hY hR hO sx sy dk dv))]) hP hD [0] [1, 2, 3] rfl rfl (by decide) (by decide) jk1 hFc hP1 hD1
      have hP := hP.sub (ws' := [(hm, .inr (2, MO p a b n key dr (gdF 0 0 0) hX hY hR hO sx sy dk dv)), (hX, .inl (cX, 1100, .inl (fun j => ii ((tx j : Nat) : Int)))), (hY, .inl (cY, 1100, .inl (fun j => ii ((ty j : Nat) : Int)))), (hR, .inl (cR, 4, .inl (fun j => ii ((ix j : Nat) : Int))))]) [3, 0, 1, 2] rfl
      have hD := hD.sub (ws' := [(hm, .inr (2, MO p a b n key dr (gdF 0 0 0) hX hY hR hO sx sy dk dv)), (hX, .inl (cX, 1100, .inl (fun j => ii ((tx j : Nat) : Int)))), (hY, .inl (cY, 1100, .inl (fun j => ii ((ty j : Nat) : Int)))), (hR, .inl (cR, 4, .inl (fun j => ii ((ix j : Nat) : Int))))]) [3, 0, 1, 2] (by decide) rfl
      have gb := goF_b (gdF 0 0 0)
      have g0 := goF_0 (k := gdF 0 0 0)
      have gz := gdF_0 (k1 := 0) (k2 := 0) (k3 := 0)
      refine i_if_ne (tgt := 30) C dX2_sign_25 (by decide) ⟨by omega, by omega⟩ (fun h2 => ?_) (fun h2 => ?_)
      · have hP : va_P D clX [(hm, .inr (2, MO p a b n key dr 0 hX hY hR hO sx sy dk dv)), (hX, .inl (cX, 1100, .inl (fun j => ii ((tx j : Nat) : Int)))), (hY, .inl (cY, 1100, .inl (fun j => ii ((ty j : Nat) : Int)))), (hR, .inl (cR, 4, .inl (fun j => ii ((ix j : Nat) : Int))))] H1 := hP
        have hD : va_D A [(hm, .inr (2, MO p a b n key dr 0 hX hY hR hO sx sy dk dv)), (hX, .inl (cX, 1100, .inl (fun j => ii ((tx j : Nat) : Int)))), (hY, .inl (cY, 1100, .inl (fun j => ii ((ty j : Nat) : Int)))), (hR, .inl (cR, 4, .inl (fun j => ii ((ix j : Nat) : Int))))] := hD
        refine lv_aload_n C.1 C.2.1 dX2_sign_30 rfl (lv_at hl 0 rfl) ?_
        refine lv_lload_n C.1 C.2.1 dX2_sign_31 rfl (lv_at hl 1 rfl) ?_
        refine ca_V (As := [.long (li z)]) (rest := []) C (c_X2_modulo l D hm p a b n key dr 0 hX hY hR hO sx sy dk dv (by omega) z hz1) (pcw_preV [.long (li z)] hN (hP.sub (ws' := [(hm, .inr (2, MO p a b n key dr 0 hX hY hR hO sx sy dk dv))]) [0] rfl) (hK.sub (tys' := []) [] rfl) 0 (ci := 2) rfl rfl) aw_b_X2_modulo aw_m_X2_84 aw_v_X2_modulo aw_i_X2 aw_e_X2_modulo ⟨rfl, rfl⟩ 1 (by decide +kernel) rfl ⟨by decide, by decide⟩ hl.1 rfl (Nat.le_of_ble_eq_true rfl) dX2_sign_32 ⟨by decide, by decide⟩ ?_
        refine lv_istore_n C.1 C.2.1 dX2_sign_35 rfl hl (by decide) rfl (fun ls hl => ?_)
        have hl : lv_has ls 9 [(3, .int (ii (z % (n : Int)))), (0, .ref hm), (1, .long (li z))] := hl
        refine i_const C dX2_sign_36 ?_
        refine lv_istore C.1 C.2.1 dX2_sign_37 hl (by decide) rfl (fun ls hl => ?_)
        have hl : lv_has ls 9 [(4, .int (ii 1)), (3, .int (ii (z % (n : Int)))), (0, .ref hm), (1, .long (li z))] := hl
        have h30 : (2 : Nat) ^ 30 = 1073741824 := rfl
        exact mask (by omega) h3 30 ls H1 locs1 1 (by omega) (by omega) hmk hP hD hS (lv_sub (l' := [(0, .ref hm), (3, .int (ii (z % (n : Int)))), (4, .int (ii 1))]) hl [2, 1, 0] rfl)
      · have := gz.mpr ⟨rfl, rfl, rfl⟩
        omega
    · refine i_const C dX2_sign_15 ?_
      refine lv_goto (tgt := 20) C.1 C.2.1 dX2_sign_16 (by decide) ?_
      refine i_const C dX2_sign_20 ?_
      refine i_const C dX2_sign_21 ?_
      have hFc := va_free (wc := [(hm, .inr (2, MO p a b n key dr th hX hY hR hO sx sy dk dv))]) hD hS hA [0] rfl
      refine cn_V (As := [.int (ii 1), .int (ii 0), .int (ii 0)]) (rest := []) C (c_X2_good l D z0 _ hm p a b n key dr th hX hY hR hO sx sy dk dv 1 0 0 (by omega) (by omega) (by omega)) (pcm_preV _ hN (Zs.on hZ hS hAz) (by have := hS.1; omega) (hP.sub (ws' := [(hm, .inr (2, MO p a b n key dr th hX hY hR hO sx sy dk dv))]) [0] rfl) (hK.sub (tys' := []) [] rfl) ((hD.sub (ws' := [(hm, .inr (2, MO p a b n key dr th hX hY hR hO sx sy dk dv))]) [0] (by decide) rfl).weaken (fun _ _ _ h => hAz _ h)) 0 (ci := 2) rfl rfl) hS hFc aw_b_X2_good aw_m_X2_58 aw_v_X2_good aw_i_X2 aw_e_X2_good ⟨rfl, rfl⟩ 3 (by decide +kernel) rfl ⟨by decide, by decide⟩ hl.1 rfl (Nat.le_of_ble_eq_true rfl) dX2_sign_22 ⟨by decide, by decide⟩ (fun t H1 locs1 ht hvm _ hB jz1 jk1 hS => ?_)
      obtain ⟨hP1, hK1, hD1⟩ := hB
      rw [ht] at hP1
      obtain ⟨hP, hD⟩ := va_join (wr := [(hX, .inl (cX, 1100, .inl (fun j => ii ((tx j : Nat) : Int)))), (hY, .inl (cY, 1100, .inl (fun j => ii ((ty j : Nat) : Int)))), (hR, .inl (cR, 4, .inl (fun j => ii ((ix j : Nat) : Int))))]) (w1 := [(hm, .inr (2, MO p a b n key dr (gdF 1 0 0) hX hY hR hO sx sy dk dv))]) hP hD [0] [1, 2, 3] rfl rfl (by decide) (by decide) jk1 hFc hP1 hD1
      have hP := hP.sub (ws' := [(hm, .inr (2, MO p a b n key dr (gdF 1 0 0) hX hY hR hO sx sy dk dv)), (hX, .inl (cX, 1100, .inl (fun j => ii ((tx j : Nat) : Int)))), (hY, .inl (cY, 1100, .inl (fun j => ii ((ty j : Nat) : Int)))), (hR, .inl (cR, 4, .inl (fun j => ii ((ix j : Nat) : Int))))]) [3, 0, 1, 2] rfl
      have hD := hD.sub (ws' := [(hm, .inr (2, MO p a b n key dr (gdF 1 0 0) hX hY hR hO sx sy dk dv)), (hX, .inl (cX, 1100, .inl (fun j => ii ((tx j : Nat) : Int)))), (hY, .inl (cY, 1100, .inl (fun j => ii ((ty j : Nat) : Int)))), (hR, .inl (cR, 4, .inl (fun j => ii ((ix j : Nat) : Int))))]) [3, 0, 1, 2] (by decide) rfl
      have gb := goF_b (gdF 1 0 0)
      have g0 := goF_0 (k := gdF 1 0 0)
      have gz := gdF_0 (k1 := 1) (k2 := 0) (k3 := 0)
      refine i_if_ne (tgt := 30) C dX2_sign_25 (by decide) ⟨by omega, by omega⟩ (fun h2 => ?_) (fun h2 => ?_)
      · have := gz.mp (Classical.byContradiction fun z => h2 (g0.mpr z))
        omega
      · have hP : va_P D clX [(hm, .inr (2, MO p a b n key dr 1 hX hY hR hO sx sy dk dv)), (hX, .inl (cX, 1100, .inl (fun j => ii ((tx j : Nat) : Int)))), (hY, .inl (cY, 1100, .inl (fun j => ii ((ty j : Nat) : Int)))), (hR, .inl (cR, 4, .inl (fun j => ii ((ix j : Nat) : Int))))] H1 := hP
        have hD : va_D A [(hm, .inr (2, MO p a b n key dr 1 hX hY hR hO sx sy dk dv)), (hX, .inl (cX, 1100, .inl (fun j => ii ((tx j : Nat) : Int)))), (hY, .inl (cY, 1100, .inl (fun j => ii ((ty j : Nat) : Int)))), (hR, .inl (cR, 4, .inl (fun j => ii ((ix j : Nat) : Int))))] := hD
        rw [show rvS n key V = 0 by unfold rvS; rw [if_neg (show ¬ n = 0 by omega), if_pos (Classical.not_not.mp h3)], show thS n key V = 1 by unfold thS; rw [if_neg (show ¬ n = 0 by omega), if_pos (Classical.not_not.mp h3)], show drS n key dr V = dr by unfold drS; rw [if_neg (show ¬ n = 0 by omega), if_pos (Classical.not_not.mp h3)]]
        refine l_const0 C dX2_sign_28 ?_
        exact pz_l C hr hk hS trivial (fun t ht hvm => ⟨dk, dv, by rw [ht]; exact hP, va_K.moved hvm hK, hD⟩) dX2_sign_29 rfl (by decide) (by decide)
