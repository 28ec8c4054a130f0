/-! The class: sign. By wip/whole/tools/gen12.py. -/
/-- the draws of sign: xq k is the first coordinate of k times the base -/
def siF (n : Nat) (xq : Int → Nat) (e sec : Int) (mk : Int32) : Nat → Nat → Int32 → Int32 → Option (Nat × Int)
  | 0, _, _, _ => none
  | f + 1, d, st, v =>
    if sgF n (xq (mxF st v &&& mk).toInt) (mxF st v &&& mk).toInt e sec = 0 then
      siF n xq e sec mk f (d + 1) (mxF st (mxF st v + ii 1)) (mxF (mxF st (mxF st v + ii 1)) (mxF st v))
    else some (d, sgF n (xq (mxF st v &&& mk).toInt) (mxF st v &&& mk).toInt e sec)
theorem siF_s (n : Nat) (xq : Int → Nat) (e sec : Int) (mk : Int32) (f d : Nat) (st v : Int32) : siF n xq e sec mk (f + 1) d st v = if sgF n (xq (mxF st v &&& mk).toInt) (mxF st v &&& mk).toInt e sec = 0 then siF n xq e sec mk f (d + 1) (mxF st (mxF st v + ii 1)) (mxF (mxF st (mxF st v + ii 1)) (mxF st v)) else some (d, sgF n (xq (mxF st v &&& mk).toInt) (mxF st v &&& mk).toInt e sec) := rfl
theorem siF_0 (n : Nat) (xq : Int → Nat) (e sec : Int) (mk : Int32) (d : Nat) (st v : Int32) : siF n xq e sec mk 0 d st v = none := rfl
theorem ii_self (x : Int32) : ii x.toInt = x := by
  unfold ii
  exact Int32.ofInt_toInt x
theorem rg_self (x : Int32) : rg x.toInt := ⟨by have := Int32.le_toInt x; omega, by have := Int32.toInt_lt x; omega⟩
theorem sgF_b {n : Nat} (hn : 0 < n ∧ n ≤ 1100) (x : Nat) (k e d : Int) : 0 ≤ sgF n x k e d ∧ sgF n x k e d ≤ 73000000 := by
  unfold sgF
  have h1 := Nat.mod_lt x hn.1
  have h2 := qtF_b (e + ((x % n : Nat) : Int) * d) k hn.1
  repeat' split
  all_goals omega
/-- where the draws begin: stirrer and value -/
def st1 (e sec : Int) : Int32 := mxF (mxF (ii 0) (ii (1 + sec))) (mxF (mxF (ii 0) (ii (1 + sec))) (ii 1) ^^^ ii e)
def vl1 (e sec : Int) : Int32 := mxF (st1 e sec) (mxF (mxF (ii 0) (ii (1 + sec))) (ii 1))
set_option maxRecDepth 100000 in
set_option maxHeartbeats 1000000 in
theorem c_X1_sign (l : Launch) (hL : l.stackTraces = false) (D : va_G) (z0 sz : Nat) (hx hr0 hq0 hc : Nat) (sec dr : Int) (p a b n : Nat) (G : Option (Nat × Nat)) (hp : 5 ≤ p ∧ p ≤ 1021) (ha : a < p) (hb : b < p) (hn : 2 ≤ n ∧ n ≤ 1100) (hG : sm2 p G) (X : Int → Nat × Nat) (hM : ∀ k : Int, unF n k ≠ 0 → muF p a 11 none G (k % (n : Int)).toNat = some ((X k).1, (X k).2)) (hXb : ∀ k, (X k).1 < p ∧ (X k).2 < p) (hs1 : 0 ≤ sec ∧ sec ≤ 1099) (z : Int) (hz1 : rl z) (V : Option (Nat × Int)) (hV : siF n (fun k => (X k).1) (z % (n : Int)) sec (ii ((dmF n 30 1 : Nat) : Int)) 24 1 (st1 (z % (n : Int)) sec) (vl1 (z % (n : Int)) sec) = V) : vx_Met l yX1_sign (Cond.code yX1_sign cX1_sign 11 (some .long) :: AW) ({ frames := 7, cells := 1, slots := 6, locals := 180 } : Room) (PcM D z0 sz [(hx, .inr (1, [.ref hr0, .ref hq0, .ref hc, .int (ii sec), .int (ii dr)])), (hc, .inr (0, [.int (ii (p : Int)), .int (ii (a : Int)), .int (ii (b : Int)), .int (ii (n : Int)), .int (ii (ecd G))]))] [] [.ref hx, .long (li z)]) (QcM (some (.long (li (V.getD (0, 0)).2))) (sec ≠ 0 ∧ V ≠ none) (Wd D [(hx, .inr (1, [.ref hr0, .ref hq0, .ref hc, .int (ii sec), .int (ii ((V.getD (0, 0)).1 : Int))])), (hc, .inr (0, [.int (ii (p : Int)), .int (ii (a : Int)), .int (ii (b : Int)), .int (ii (n : Int)), .int (ii (ecd G))]))] [] (va_A [(hx, .inr (1, [.ref hr0, .ref hq0, .ref hc, .int (ii sec), .int (ii dr)])), (hc, .inr (0, [.int (ii (p : Int)), .int (ii (a : Int)), .int (ii (b : Int)), .int (ii (n : Int)), .int (ii (ecd G))]))] sz)) (va_A [(hx, .inr (1, [.ref hr0, .ref hq0, .ref hc, .int (ii sec), .int (ii dr)])), (hc, .inr (0, [.int (ii (p : Int)), .int (ii (a : Int)), .int (ii (b : Int)), .int (ii (n : Int)), .int (ii (ecd G))]))] sz)) (XcM (fun E => (E = "java/lang/IllegalStateException" ∧ sec = 0) ∨ (E = "java/lang/ArithmeticException" ∧ sec ≠ 0 ∧ V = none)) (Wd D [(hx, .inr (1, [.ref hr0, .ref hq0, .ref hc, .int (ii sec), .int (ii dr)])), (hc, .inr (0, [.int (ii (p : Int)), .int (ii (a : Int)), .int (ii (b : Int)), .int (ii (n : Int)), .int (ii (ecd G))]))] [] (va_A [(hx, .inr (1, [.ref hr0, .ref hq0, .ref hc, .int (ii sec), .int (ii dr)])), (hc, .inr (0, [.int (ii (p : Int)), .int (ii (a : Int)), .int (ii (b : Int)), .int (ii (n : Int)), .int (ii (ecd G))]))] sz)) (va_A [(hx, .inr (1, [.ref hr0, .ref hq0, .ref hc, .int (ii sec), .int (ii dr)])), (hc, .inr (0, [.int (ii (p : Int)), .int (ii (a : Int)), .int (ii (b : Int)), .int (ii (n : Int)), .int (ii (ecd G))]))] sz)) 1 6 (va_A [(hx, .inr (1, [.ref hr0, .ref hq0, .ref hc, .int (ii sec), .int (ii dr)])), (hc, .inr (0, [.int (ii (p : Int)), .int (ii (a : Int)), .int (ii (b : Int)), .int (ii (n : Int)), .int (ii (ecd G))]))] sz) := by
  refine mt_M (by decide +kernel) (Nat.le_of_ble_eq_true rfl) ?_
  intro P0 E0 S0 M0 A0 B0 T0 K0 C hN hZ hsz hz hP hK hD hAz hA hr hk hex hin ls hl
  have hl : lv_has ls 11 [(0, .ref hx), (1, .long (li z))] := hl
  generalize hAe : va_A [(hx, .inr (1, [.ref hr0, .ref hq0, .ref hc, .int (ii sec), .int (ii dr)])), (hc, .inr (0, [.int (ii (p : Int)), .int (ii (a : Int)), .int (ii (b : Int)), .int (ii (n : Int)), .int (ii (ecd G))]))] sz = A at hD hAz hA ⊢
  have hS : va_S A S0.heap S0.heap [] := va_S.rf
  have q1 := em_b z (show (0 : Int) < n by omega)
  generalize hmk : ii ((dmF n 30 1 : Nat) : Int) = mk at hV
  generalize hF : (24 : Nat) = F24 at hV
  have loop : sec ≠ 0 → ∀ (f : Nat) (ls : Array Slot) (st v : Int32) (d : Nat), d + f = 25 → siF n (fun k => (X k).1) (z % (n : Int)) sec mk f d st v = V → lv_has ls 11 [(0, .ref hx), (3, .ref hc), (4, .int (ii (z % (n : Int)))), (5, .int mk), (6, .int st), (7, .int v), (8, .int (ii (d : Int)))] → W P0 l E0 ({ frames := 7, cells := 1, slots := 6, locals := 180 } : Room) S0 M0 A0 B0 T0 K0 S0.heap [] 0 0 (vx_MQ B0 (QcM (some (.long (li (V.getD (0, 0)).2))) (sec ≠ 0 ∧ V ≠ none) (Wd D [(hx, .inr (1, [.ref hr0, .ref hq0, .ref hc, .int (ii sec), .int (ii ((V.getD (0, 0)).1 : Int))])), (hc, .inr (0, [.int (ii (p : Int)), .int (ii (a : Int)), .int (ii (b : Int)), .int (ii (n : Int)), .int (ii (ecd G))]))] [] A) A) (XcM (fun E => (E = "java/lang/IllegalStateException" ∧ sec = 0) ∨ (E = "java/lang/ArithmeticException" ∧ sec ≠ 0 ∧ V = none)) (Wd D [(hx, .inr (1, [.ref hr0, .ref hq0, .ref hc, .int (ii sec), .int (ii dr)])), (hc, .inr (0, [.int (ii (p : Int)), .int (ii (a : Int)), .int (ii (b : Int)), .int (ii (n : Int)), .int (ii (ecd G))]))] [] A) A) A0 S0 1 6 A) (F0 M0 79 ls []) := by
    intro hsec f
    induction f with
    | zero =>
    intro ls st v d hd hV hl
    rw [siF_0] at hV
    refine lv_iload C.1 C.2.1 dX1_sign_79 (lv_at hl 6 rfl) ?_
    refine i_bipush C dX1_sign_81 (by decide +kernel) ?_
    refine i_icmp_gt (tgt := 154) C dX1_sign_83 (by decide) ⟨by omega, by omega⟩ ⟨by omega, by omega⟩ (fun h1 => ?_) (fun h1 => ?_)
    · exact th_S (z0 := z0) C hL hN hZ va_S.rf (text := "signing fails") (by decide +kernel) (by decide +kernel) tw_are hl.1 dX1_sign_154 dX1_sign_157 dX1_sign_158 dX1_sign_160 dX1_sign_163 hex ⟨by decide, by decide, by decide, by decide⟩ (Nat.le_of_ble_eq_true rfl) hk (fun t hvm z1 z2 => ⟨Or.inr ⟨rfl, hsec, hV.symm⟩, ⟨hP.on z2, va_K.moved hvm hK, hD⟩, z1, fun q h1 _ => z2 q h1⟩) (fun q h => by cases h) (by decide) (by decide)
    · omega
    | succ f ih =>
    intro ls st v d hd hV hl
    rw [siF_s] at hV
    refine lv_iload C.1 C.2.1 dX1_sign_79 (lv_at hl 6 rfl) ?_
    refine i_bipush C dX1_sign_81 (by decide +kernel) ?_
    refine i_icmp_gt (tgt := 154) C dX1_sign_83 (by decide) ⟨by omega, by omega⟩ ⟨by omega, by omega⟩ (fun h1 => ?_) (fun h1 => ?_)
    · omega
    · refine lv_iload C.1 C.2.1 dX1_sign_86 (lv_at hl 4 rfl) ?_
      refine lv_iload C.1 C.2.1 dX1_sign_88 (lv_at hl 5 rfl) ?_
      refine ca_S (As := [.int st, .int v]) (rest := []) C (c_X1_mix l st v) (pcn_pre _ hN) aw_b_X1_mix aw_m_X1_127 aw_s_X1_mix aw_i_X1 ⟨rfl, rfl⟩ 2 (by decide +kernel) rfl ⟨by decide, by decide⟩ hl.1 rfl (Nat.le_of_ble_eq_true rfl) dX1_sign_90 ⟨by decide, by decide⟩ ?_
      generalize mxF st v = v1 at hV ⊢
      refine lv_istore C.1 C.2.1 dX1_sign_93 hl (by decide) rfl (fun ls hl => ?_)
      have hl : lv_has ls 11 [(7, .int v1), (0, .ref hx), (3, .ref hc), (4, .int (ii (z % (n : Int)))), (5, .int mk), (6, .int st), (8, .int (ii (d : Int)))] := hl
      refine lv_aload_n C.1 C.2.1 dX1_sign_95 rfl (lv_at hl 2 rfl) ?_
      refine lv_iload C.1 C.2.1 dX1_sign_96 (lv_at hl 0 rfl) ?_
      refine lv_iload C.1 C.2.1 dX1_sign_98 (lv_at hl 4 rfl) ?_
      refine lv_iand C.1 C.2.1 dX1_sign_100 ?_
      rw [← ii_self (v1 &&& mk)]
      have k1 := rg_self (v1 &&& mk)
      generalize (v1 &&& mk).toInt = k at k1 hV ⊢
      have hV : (if sgF n (X k).1 k (z % (n : Int)) sec = 0 then siF n (fun k => (X k).1) (z % (n : Int)) sec mk f (d + 1) (mxF st (v1 + ii 1)) (mxF (mxF st (v1 + ii 1)) v1) else some (d, sgF n (X k).1 k (z % (n : Int)) sec)) = V := hV
      have x2 := sgF_b (show 0 < n ∧ n ≤ 1100 by omega) (X k).1 k (z % (n : Int)) sec
      refine lv_iload C.1 C.2.1 dX1_sign_101 (lv_at hl 3 rfl) ?_
      refine lv_aload_n C.1 C.2.1 dX1_sign_103 rfl (lv_at hl 1 rfl) ?_
      refine gf C hK hP 0 rfl rfl aw_uX1 3 (by decide) aw_f_X1_26 rfl dX1_sign_104 ?_
      refine ca_V (As := [.int (ii k), .int (ii (z % (n : Int))), .int (ii sec)]) (rest := []) C (c_X0_signatureFrom l D hc p a b n G hp ha hb hn hG k (z % (n : Int)) sec k1 (by omega) hs1 (X k).1 (X k).2 (hM k) (hXb k).1 (hXb k).2) (pcw_preV [.int (ii k), .int (ii (z % (n : Int))), .int (ii sec)] hN (hP.sub (ws' := [(hc, .inr (0, [.int (ii (p : Int)), .int (ii (a : Int)), .int (ii (b : Int)), .int (ii (n : Int)), .int (ii (ecd G))]))]) [1] rfl) (hK.sub (tys' := []) [] rfl) 0 (ci := 0) rfl rfl) aw_b_X0_signatureFrom aw_m_X1_130 aw_v_X0_signatureFrom aw_i_X0 aw_e_X0_signatureFrom ⟨rfl, rfl⟩ 3 (by decide +kernel) rfl ⟨by decide, by decide⟩ hl.1 rfl (Nat.le_of_ble_eq_true rfl) dX1_sign_107 ⟨by decide, by decide⟩ ?_
      generalize sgF n (X k).1 k (z % (n : Int)) sec = g at x2 hV ⊢
      refine lv_lstore C.1 C.2.1 dX1_sign_110 hl (by decide) rfl (fun ls hl => ?_)
      have hl : lv_has ls 11 [(9, .long (li g)), (7, .int v1), (0, .ref hx), (3, .ref hc), (4, .int (ii (z % (n : Int)))), (5, .int mk), (6, .int st), (8, .int (ii (d : Int)))] := hl
      refine lv_lload C.1 C.2.1 dX1_sign_112 (lv_at hl 0 rfl) ?_
      refine l_const0 C dX1_sign_114 ?_
      refine l_cmp C dX1_sign_115 ⟨by omega, by omega⟩ ⟨by omega, by omega⟩ ?_
      have cb115 := cmI_b g 0
      have ce115 := cmI_eq (a := g) (b := 0)
      have cl115 := cmI_lt (a := g) (b := 0)
      refine i_if_eq (tgt := 128) C dX1_sign_116 (by decide) ⟨by omega, by omega⟩ (fun h2 => ?_) (fun h2 => ?_)
      · rw [if_pos (show g = 0 by omega)] at hV
        refine lv_iload C.1 C.2.1 dX1_sign_128 (lv_at hl 6 rfl) ?_
        refine lv_iload C.1 C.2.1 dX1_sign_130 (lv_at hl 1 rfl) ?_
        refine i_const C dX1_sign_132 ?_
        refine lv_iadd C.1 C.2.1 dX1_sign_133 ?_
        refine ca_S (As := [.int st, .int (v1 + (ii 1))]) (rest := []) C (c_X1_mix l st (v1 + ii 1)) (pcn_pre _ hN) aw_b_X1_mix aw_m_X1_127 aw_s_X1_mix aw_i_X1 ⟨rfl, rfl⟩ 2 (by decide +kernel) rfl ⟨by decide, by decide⟩ hl.1 rfl (Nat.le_of_ble_eq_true rfl) dX1_sign_134 ⟨by decide, by decide⟩ ?_
        generalize mxF st (v1 + ii 1) = s2 at hV ⊢
        refine lv_istore C.1 C.2.1 dX1_sign_137 hl (by decide) rfl (fun ls hl => ?_)
        have hl : lv_has ls 11 [(6, .int s2), (9, .long (li g)), (7, .int v1), (0, .ref hx), (3, .ref hc), (4, .int (ii (z % (n : Int)))), (5, .int mk), (8, .int (ii (d : Int)))] := hl
        refine lv_iload C.1 C.2.1 dX1_sign_139 (lv_at hl 0 rfl) ?_
        refine lv_iload C.1 C.2.1 dX1_sign_141 (lv_at hl 2 rfl) ?_
        refine ca_S (As := [.int s2, .int v1]) (rest := []) C (c_X1_mix l s2 v1) (pcn_pre _ hN) aw_b_X1_mix aw_m_X1_127 aw_s_X1_mix aw_i_X1 ⟨rfl, rfl⟩ 2 (by decide +kernel) rfl ⟨by decide, by decide⟩ hl.1 rfl (Nat.le_of_ble_eq_true rfl) dX1_sign_143 ⟨by decide, by decide⟩ ?_
        refine lv_istore C.1 C.2.1 dX1_sign_146 hl (by decide) rfl (fun ls hl => ?_)
        have hl : lv_has ls 11 [(7, .int (mxF s2 v1)), (6, .int s2), (9, .long (li g)), (0, .ref hx), (3, .ref hc), (4, .int (ii (z % (n : Int)))), (5, .int mk), (8, .int (ii (d : Int)))] := hl
        refine lv_iinc C.1 C.2.1 dX1_sign_148 hl (k := 7) rfl (ii_add (d : Int) 1) (by decide) rfl (fun ls hl => ?_)
        have hl : lv_has ls 11 [(8, .int (ii ((d : Int) + 1))), (7, .int (mxF s2 v1)), (6, .int s2), (9, .long (li g)), (0, .ref hx), (3, .ref hc), (4, .int (ii (z % (n : Int)))), (5, .int mk)] := hl
        refine lv_goto (tgt := 79) C.1 C.2.1 dX1_sign_151 (by decide) ?_
        exact ih ls s2 _ (d + 1) (by omega) hV (lv_sub (l' := [(0, .ref hx), (3, .ref hc), (4, .int (ii (z % (n : Int)))), (5, .int mk), (6, .int s2), (7, .int (mxF s2 v1)), (8, .int (ii ((d : Int) + 1)))]) hl [4, 5, 6, 7, 2, 1, 0] rfl)
      · rw [if_neg (show ¬ g = 0 by omega)] at hV
        subst hV
        refine lv_aload_n C.1 C.2.1 dX1_sign_119 rfl (lv_at hl 2 rfl) ?_
        refine lv_iload C.1 C.2.1 dX1_sign_120 (lv_at hl 7 rfl) ?_
        refine p_f C hK hP hD hS 0 rfl rfl aw_uX1 tyX1 tyX1_ok nmX1 4 (by decide) aw_f_X1_30 rfl rfl rfl (Nat.le_of_ble_eq_true rfl) dX1_sign_122 (fun H1 locs1 hP hD hS => ?_)
        have hP : va_P D clX [(hx, .inr (1, [.ref hr0, .ref hq0, .ref hc, .int (ii sec), .int (ii (d : Int))])), (hc, .inr (0, [.int (ii (p : Int)), .int (ii (a : Int)), .int (ii (b : Int)), .int (ii (n : Int)), .int (ii (ecd G))]))] H1 := hP
        have hD : va_D A [(hx, .inr (1, [.ref hr0, .ref hq0, .ref hc, .int (ii sec), .int (ii (d : Int))])), (hc, .inr (0, [.int (ii (p : Int)), .int (ii (a : Int)), .int (ii (b : Int)), .int (ii (n : Int)), .int (ii (ecd G))]))] := hD
        refine lv_lload C.1 C.2.1 dX1_sign_125 (lv_at hl 0 rfl) ?_
        exact py_l C hr hk hS ⟨hsec, by intro z; cases z⟩ (fun t ht hvm => ⟨by rw [ht]; exact hP, va_K.moved hvm hK, hD⟩) dX1_sign_127 rfl (by decide) (by decide)
  refine lv_aload_n C.1 C.2.1 dX1_sign_0 rfl (lv_at hl 0 rfl) ?_
  refine ca_V (As := []) (rest := []) C (c_taken_c l D hx hr0 hq0 hc sec dr) (pcw_preV [] hN (hP.sub (ws' := [(hx, .inr (1, [.ref hr0, .ref hq0, .ref hc, .int (ii sec), .int (ii dr)]))]) [0] rfl) (hK.sub (tys' := []) [] rfl) 0 (ci := 1) rfl rfl) aw_b_X1_takenCurve aw_m_X1_62 aw_v_X1_takenCurve aw_i_X1 aw_e_X1_takenCurve ⟨rfl, rfl⟩ 0 (by decide +kernel) rfl ⟨by decide, by decide⟩ hl.1 rfl (Nat.le_of_ble_eq_true rfl) dX1_sign_1 ⟨by decide, by decide⟩ ?_
  refine lv_astore_n C.1 C.2.1 dX1_sign_4 rfl hl (by decide) rfl (fun ls hl => ?_)
  have hl : lv_has ls 11 [(3, .ref hc), (0, .ref hx), (1, .long (li z))] := hl
  refine lv_aload_n C.1 C.2.1 dX1_sign_5 rfl (lv_at hl 1 rfl) ?_
  refine gf C hK hP 0 rfl rfl aw_uX1 3 (by decide) aw_f_X1_26 rfl dX1_sign_6 ?_
  refine i_if_ne (tgt := 22) C dX1_sign_9 (by decide) ⟨by omega, by omega⟩ (fun h1 => ?_) (fun h1 => ?_)
  · refine lv_aload_n C.1 C.2.1 dX1_sign_22 rfl (lv_at hl 0 rfl) ?_
    refine lv_lload_n C.1 C.2.1 dX1_sign_23 rfl (lv_at hl 2 rfl) ?_
    refine ca_V (As := [.long (li z)]) (rest := []) C (c_X0_messageResidue l D hc p a b n (ecd G) (by omega) z hz1) (pcw_preV [.long (li z)] hN (hP.sub (ws' := [(hc, .inr (0, [.int (ii (p : Int)), .int (ii (a : Int)), .int (ii (b : Int)), .int (ii (n : Int)), .int (ii (ecd G))]))]) [1] rfl) (hK.sub (tys' := []) [] rfl) 0 (ci := 0) rfl rfl) aw_b_X0_messageResidue aw_m_X1_119 aw_v_X0_messageResidue aw_i_X0 aw_e_X0_messageResidue ⟨rfl, rfl⟩ 1 (by decide +kernel) rfl ⟨by decide, by decide⟩ hl.1 rfl (Nat.le_of_ble_eq_true rfl) dX1_sign_24 ⟨by decide, by decide⟩ ?_
    refine lv_istore C.1 C.2.1 dX1_sign_27 hl (by decide) rfl (fun ls hl => ?_)
    have hl : lv_has ls 11 [(4, .int (ii (z % (n : Int)))), (3, .ref hc), (0, .ref hx), (1, .long (li z))] := hl
    refine lv_aload_n C.1 C.2.1 dX1_sign_29 rfl (lv_at hl 1 rfl) ?_
    refine ca_V (As := []) (rest := []) C (c_X0_drawMask l D hc p a b n (ecd G) (by omega)) (pcw_preV [] hN (hP.sub (ws' := [(hc, .inr (0, [.int (ii (p : Int)), .int (ii (a : Int)), .int (ii (b : Int)), .int (ii (n : Int)), .int (ii (ecd G))]))]) [1] rfl) (hK.sub (tys' := []) [] rfl) 0 (ci := 0) rfl rfl) aw_b_X0_drawMask aw_m_X1_123 aw_v_X0_drawMask aw_i_X0 aw_e_X0_drawMask ⟨rfl, rfl⟩ 0 (by decide +kernel) rfl ⟨by decide, by decide⟩ hl.1 rfl (Nat.le_of_ble_eq_true rfl) dX1_sign_30 ⟨by decide, by decide⟩ ?_
    rw [hmk]
    unfold vl1 at hV
    unfold st1 at hV
    refine lv_istore C.1 C.2.1 dX1_sign_33 hl (by decide) rfl (fun ls hl => ?_)
    have hl : lv_has ls 11 [(5, .int mk), (4, .int (ii (z % (n : Int)))), (3, .ref hc), (0, .ref hx), (1, .long (li z))] := hl
    refine i_const C dX1_sign_35 ?_
    refine i_const C dX1_sign_36 ?_
    refine lv_aload_n C.1 C.2.1 dX1_sign_37 rfl (lv_at hl 3 rfl) ?_
    refine gf C hK hP 0 rfl rfl aw_uX1 3 (by decide) aw_f_X1_26 rfl dX1_sign_38 ?_
    refine i_add C dX1_sign_41 ?_
    refine ca_S (As := [.int (ii 0), .int (ii (1 + sec))]) (rest := []) C (c_X1_mix l (ii 0) (ii (1 + sec))) (pcn_pre _ hN) aw_b_X1_mix aw_m_X1_127 aw_s_X1_mix aw_i_X1 ⟨rfl, rfl⟩ 2 (by decide +kernel) rfl ⟨by decide, by decide⟩ hl.1 rfl (Nat.le_of_ble_eq_true rfl) dX1_sign_42 ⟨by decide, by decide⟩ ?_
    generalize mxF (ii 0) (ii (1 + sec)) = s0 at hV ⊢
    refine lv_istore C.1 C.2.1 dX1_sign_45 hl (by decide) rfl (fun ls hl => ?_)
    have hl : lv_has ls 11 [(6, .int s0), (5, .int mk), (4, .int (ii (z % (n : Int)))), (3, .ref hc), (0, .ref hx), (1, .long (li z))] := hl
    refine lv_iload C.1 C.2.1 dX1_sign_47 (lv_at hl 0 rfl) ?_
    refine i_const C dX1_sign_49 ?_
    refine ca_S (As := [.int s0, .int (ii 1)]) (rest := []) C (c_X1_mix l s0 (ii 1)) (pcn_pre _ hN) aw_b_X1_mix aw_m_X1_127 aw_s_X1_mix aw_i_X1 ⟨rfl, rfl⟩ 2 (by decide +kernel) rfl ⟨by decide, by decide⟩ hl.1 rfl (Nat.le_of_ble_eq_true rfl) dX1_sign_50 ⟨by decide, by decide⟩ ?_
    generalize mxF s0 (ii 1) = v0 at hV ⊢
    refine lv_istore C.1 C.2.1 dX1_sign_53 hl (by decide) rfl (fun ls hl => ?_)
    have hl : lv_has ls 11 [(7, .int v0), (6, .int s0), (5, .int mk), (4, .int (ii (z % (n : Int)))), (3, .ref hc), (0, .ref hx), (1, .long (li z))] := hl
    refine lv_iload C.1 C.2.1 dX1_sign_55 (lv_at hl 1 rfl) ?_
    refine lv_iload C.1 C.2.1 dX1_sign_57 (lv_at hl 0 rfl) ?_
    refine lv_iload C.1 C.2.1 dX1_sign_59 (lv_at hl 3 rfl) ?_
    refine lv_ixor C.1 C.2.1 dX1_sign_61 ?_
    refine ca_S (As := [.int s0, .int (v0 ^^^ (ii (z % (n : Int))))]) (rest := []) C (c_X1_mix l s0 (v0 ^^^ ii (z % (n : Int)))) (pcn_pre _ hN) aw_b_X1_mix aw_m_X1_127 aw_s_X1_mix aw_i_X1 ⟨rfl, rfl⟩ 2 (by decide +kernel) rfl ⟨by decide, by decide⟩ hl.1 rfl (Nat.le_of_ble_eq_true rfl) dX1_sign_62 ⟨by decide, by decide⟩ ?_
    generalize mxF s0 (v0 ^^^ ii (z % (n : Int))) = s1 at hV ⊢
    refine lv_istore C.1 C.2.1 dX1_sign_65 hl (by decide) rfl (fun ls hl => ?_)
    have hl : lv_has ls 11 [(6, .int s1), (7, .int v0), (5, .int mk), (4, .int (ii (z % (n : Int)))), (3, .ref hc), (0, .ref hx), (1, .long (li z))] := hl
    refine lv_iload C.1 C.2.1 dX1_sign_67 (lv_at hl 0 rfl) ?_
    refine lv_iload C.1 C.2.1 dX1_sign_69 (lv_at hl 1 rfl) ?_
    refine ca_S (As := [.int s1, .int v0]) (rest := []) C (c_X1_mix l s1 v0) (pcn_pre _ hN) aw_b_X1_mix aw_m_X1_127 aw_s_X1_mix aw_i_X1 ⟨rfl, rfl⟩ 2 (by decide +kernel) rfl ⟨by decide, by decide⟩ hl.1 rfl (Nat.le_of_ble_eq_true rfl) dX1_sign_71 ⟨by decide, by decide⟩ ?_
    refine lv_istore C.1 C.2.1 dX1_sign_74 hl (by decide) rfl (fun ls hl => ?_)
    have hl : lv_has ls 11 [(7, .int (mxF s1 v0)), (6, .int s1), (5, .int mk), (4, .int (ii (z % (n : Int)))), (3, .ref hc), (0, .ref hx), (1, .long (li z))] := hl
    refine i_const C dX1_sign_76 ?_
    refine lv_istore C.1 C.2.1 dX1_sign_77 hl (by decide) rfl (fun ls hl => ?_)
    have hl : lv_has ls 11 [(8, .int (ii 1)), (7, .int (mxF s1 v0)), (6, .int s1), (5, .int mk), (4, .int (ii (z % (n : Int)))), (3, .ref hc), (0, .ref hx), (1, .long (li z))] := hl
    exact loop h1 F24 ls s1 _ 1 (by omega) hV (lv_sub (l' := [(0, .ref hx), (3, .ref hc), (4, .int (ii (z % (n : Int)))), (5, .int mk), (6, .int s1), (7, .int (mxF s1 v0)), (8, .int (ii 1))]) hl [6, 5, 4, 3, 2, 1, 0] rfl)
  · exact th_S (z0 := z0) C hL hN hZ va_S.rf (text := "no key") (by decide +kernel) (by decide +kernel) tw_ise hl.1 dX1_sign_12 dX1_sign_15 dX1_sign_16 dX1_sign_18 dX1_sign_21 hex ⟨by decide, by decide, by decide, by decide⟩ (Nat.le_of_ble_eq_true rfl) hk (fun t hvm z1 z2 => ⟨Or.inl ⟨rfl, Classical.not_not.mp h1⟩, ⟨hP.on z2, va_K.moved hvm hK, hD⟩, z1, fun q h1 _ => z2 q h1⟩) (fun q h => by cases h) (by decide) (by decide)
