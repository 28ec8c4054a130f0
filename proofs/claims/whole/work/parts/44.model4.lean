/-! The reference: what writes and reads registers. By wip/whole/tools/gen16.py. -/
def kyF (n : Nat) (d : Int) : Int := if d < 1 then 1 else if d < (n : Int) then 0 else 1
theorem kyF_0 {n : Nat} {d : Int} : kyF n d = 0 ↔ 1 ≤ d ∧ d < n := by
  unfold kyF
  split
  · omega
  · split <;> omega
theorem kyF_b (n : Nat) (d : Int) : kyF n d = 0 ∨ kyF n d = 1 := by
  unfold kyF
  split
  · exact Or.inr rfl
  · split
    · exact Or.inl rfl
    · exact Or.inr rfl
def or3 (u v w : Int) : Int := if u = 0 then (if v = 0 then w else 1) else 1
theorem or3_b {u v w : Int} (hu : u = 0 ∨ u = 1) (hv : v = 0 ∨ v = 1) (hw : w = 0 ∨ w = 1) : or3 u v w = 0 ∨ or3 u v w = 1 := by
  unfold or3
  split
  · split
    · exact hw
    · exact Or.inr rfl
  · exact Or.inr rfl
theorem or3_0 {u v w : Int} : or3 u v w = 0 ↔ u = 0 ∧ v = 0 ∧ w = 0 := by
  unfold or3
  split
  · split <;> omega
  · omega
def ng1 (k : Int) : Int := if k < 0 then 1 else 0
theorem ng1_0 {k : Int} : ng1 k = 0 ↔ 0 ≤ k := by
  unfold ng1
  split <;> omega
theorem ng1_b (k : Int) : ng1 k = 0 ∨ ng1 k = 1 := by
  unfold ng1
  split
  · exact Or.inr rfl
  · exact Or.inl rfl
theorem fdF_b (tx ty : Nat → Nat) (n : Nat) (hn : n ≤ 1100) (x y : Int) : ∀ (f i k : Nat), k ≤ 1099 → fdF tx ty n x y f i k ≤ 1099
  | 0, _, _, h => h
  | f + 1, i, k, h => by
    rw [fdF_s]
    split
    · exact h
    · refine fdF_b tx ty n hn x y f (i + 1) _ ?_
      repeat' split
      all_goals omega
theorem rdF_b (tx ty : Nat → Nat) (n : Nat) (hn : n ≤ 1100) (k z : Int) : ∀ (f i : Nat) (u : Int), (-1 ≤ u ∧ u ≤ 1099) → -1 ≤ rdF tx ty n k z f i u ∧ rdF tx ty n k z f i u ≤ 1099
  | 0, _, _, h => h
  | f + 1, i, u, h => by
    rw [rdF_s]
    split
    · exact h
    · refine rdF_b tx ty n hn k z f (i + 1) _ ?_
      split
      · omega
      · exact h
theorem reF_b (tx ty : Nat → Nat) (n : Nat) (hn : n ≤ 1100) (k z : Int) : -1 ≤ reF tx ty n k z ∧ reF tx ty n k z ≤ 1099 := by
  unfold reF
  split
  · split <;> omega
  · exact rdF_b tx ty n hn k z 1100 1 (-1) (by omega)
theorem mfF_b (tx : Nat → Nat) (n : Nat) (q z r s : Int) : mfF tx n q z r s = 0 ∨ mfF tx n q z r s = 1 := by
  unfold mfF
  repeat' split
  all_goals first | exact Or.inl rfl | exact Or.inr rfl
theorem va_up_le {ix : Nat → Nat} (h : ∀ j, ix j ≤ 1099) {k v : Nat} (hv : v ≤ 1099) : ∀ j, va_up ix k v j ≤ 1099 := by
  intro j
  unfold va_up
  split
  · exact hv
  · exact h j
set_option maxRecDepth 100000 in
set_option maxHeartbeats 4000000 in
theorem c_X2_key (l : Launch) (D : va_G) (z0 sz : Nat) (hm : Nat) (p a b : Int) (n : Nat) (key dr th : Int) (hX hY hR hO : Nat) (sx sy dk dv : Int32) (cX cY cR : ClassId) (tx ty ix : Nat → Nat) (hT : ∀ j, tx j ≤ 1020 ∧ ty j ≤ 1020) (hI : ∀ j, ix j ≤ 1099) (hn : n ≤ 1100) (r d : Int) (hr1 : rg r) (hd1 : rg d) : Met l yX2_key (Cond.code yX2_key cX2_key 3 none :: AW) ({ frames := 1, cells := 0, slots := 0, locals := 24 } : Room) (PcM D z0 sz [(hm, .inr (2, MO p a b n key dr th hX hY hR hO sx sy dk dv)), (hX, .inl (cX, 1100, .inl (fun j => ii ((tx j : Nat) : Int)))), (hY, .inl (cY, 1100, .inl (fun j => ii ((ty j : Nat) : Int)))), (hR, .inl (cR, 4, .inl (fun j => ii ((ix j : Nat) : Int))))] [(cX, .int), (cY, .int), (cR, .int)] [.ref hm, .int (ii r), .int (ii d)]) (QcM none True (Wd D (if gdF (zb n) (nrF r) (kyF n d) = 0 then [(hm, .inr (2, MO p a b n d dr (gdF (zb n) (nrF r) (kyF n d)) hX hY hR hO sx sy dk dv)), (hX, .inl (cX, 1100, .inl (fun j => ii ((tx j : Nat) : Int)))), (hY, .inl (cY, 1100, .inl (fun j => ii ((ty j : Nat) : Int)))), (hR, .inl (cR, 4, .inl (fun j => ii (((va_up ix r.toNat d.toNat) j : Nat) : Int))))] else [(hm, .inr (2, MO p a b n key dr (gdF (zb n) (nrF r) (kyF n d)) hX hY hR hO sx sy dk dv)), (hX, .inl (cX, 1100, .inl (fun j => ii ((tx j : Nat) : Int)))), (hY, .inl (cY, 1100, .inl (fun j => ii ((ty j : Nat) : Int)))), (hR, .inl (cR, 4, .inl (fun j => ii ((ix j : Nat) : Int))))]) [(cX, .int), (cY, .int), (cR, .int)] (va_A [(hm, .inr (2, MO p a b n key dr th hX hY hR hO sx sy dk dv)), (hX, .inl (cX, 1100, .inl (fun j => ii ((tx j : Nat) : Int)))), (hY, .inl (cY, 1100, .inl (fun j => ii ((ty j : Nat) : Int)))), (hR, .inl (cR, 4, .inl (fun j => ii ((ix j : Nat) : Int))))] sz)) (va_A [(hm, .inr (2, MO p a b n key dr th hX hY hR hO sx sy dk dv)), (hX, .inl (cX, 1100, .inl (fun j => ii ((tx j : Nat) : Int)))), (hY, .inl (cY, 1100, .inl (fun j => ii ((ty j : Nat) : Int)))), (hR, .inl (cR, 4, .inl (fun j => ii ((ix j : Nat) : Int))))] sz)) 0 0 (va_A [(hm, .inr (2, MO p a b n key dr th hX hY hR hO sx sy dk dv)), (hX, .inl (cX, 1100, .inl (fun j => ii ((tx j : Nat) : Int)))), (hY, .inl (cY, 1100, .inl (fun j => ii ((ty j : Nat) : Int)))), (hR, .inl (cR, 4, .inl (fun j => ii ((ix j : Nat) : Int))))] sz) := by
  refine mt_N (by decide +kernel) (Nat.le_of_ble_eq_true rfl) ?_
  intro P0 E0 S0 M0 A0 B0 T0 K0 C hN hZ hsz hz hP hK hD hAz hA hr hk hin ls hl
  have hl : lv_has ls 3 [(0, .ref hm), (1, .int (ii r)), (2, .int (ii d))] := hl
  generalize hAe : va_A [(hm, .inr (2, MO p a b n key dr th hX hY hR hO sx sy dk dv)), (hX, .inl (cX, 1100, .inl (fun j => ii ((tx j : Nat) : Int)))), (hY, .inl (cY, 1100, .inl (fun j => ii ((ty j : Nat) : Int)))), (hR, .inl (cR, 4, .inl (fun j => ii ((ix j : Nat) : Int))))] sz = A at hD hAz hA ⊢
  have hS : va_S A S0.heap S0.heap [] := va_S.rf
  have nb := nrF_b r
  have n0 := nrF_0 (r := r)
  unfold okr at n0
  refine lv_aload_n C.1 C.2.1 dX2_key_0 rfl (lv_at hl 0 rfl) ?_
  refine lv_aload_n C.1 C.2.1 dX2_key_1 rfl (lv_at hl 0 rfl) ?_
  refine gf C hK hP 0 rfl rfl aw_uX2 3 (by decide) aw_f_X2_65 rfl dX2_key_2 ?_
  refine i_if_ne (tgt := 12) C dX2_key_5 (by decide) ⟨by omega, by omega⟩ (fun h1 => ?_) (fun h1 => ?_)
  · have zn : zb n = 0 := if_neg (by omega)
    rw [zn]
    refine i_const C dX2_key_12 ?_
    refine lv_aload_n C.1 C.2.1 dX2_key_13 rfl (lv_at hl 0 rfl) ?_
    refine lv_iload_n C.1 C.2.1 dX2_key_14 rfl (lv_at hl 1 rfl) ?_
    refine ca_V (As := [.int (ii r)]) (rest := [.int (ii 0), .ref hm]) C (c_X2_noRegister l D hm r hr1) (pcw_preV0 [.int (ii r)] hN hP hK 0 (ci := 2) rfl rfl) aw_b_X2_noRegister aw_m_X2_81 aw_v_X2_noRegister aw_i_X2 aw_e_X2_noRegister ⟨rfl, rfl⟩ 1 (by decide +kernel) rfl ⟨by decide, by decide⟩ hl.1 rfl (Nat.le_of_ble_eq_true rfl) dX2_key_15 ⟨by decide, by decide⟩ ?_
    refine lv_iload_n C.1 C.2.1 dX2_key_18 rfl (lv_at hl 2 rfl) ?_
    refine i_const C dX2_key_19 ?_
    refine i_icmp_lt (tgt := 31) C dX2_key_20 (by decide) ⟨by omega, by omega⟩ ⟨by omega, by omega⟩ (fun h3 => ?_) (fun h3 => ?_)
    · have kn : kyF n d = 1 := if_pos (by omega)
      rw [kn]
      refine i_const C dX2_key_31 ?_
      refine lv_goto (tgt := 36) C.1 C.2.1 dX2_key_32 (by decide) ?_
      have hFc := va_free (wc := [(hm, .inr (2, MO p a b n key dr th hX hY hR hO sx sy dk dv))]) hD hS hA [0] rfl
      refine cn_V (As := [.int (ii 0), .int (ii (nrF r)), .int (ii 1)]) (rest := []) C (c_X2_good l D z0 _ hm p a b n key dr th hX hY hR hO sx sy dk dv 0 (nrF r) 1 (by omega) nb (by omega)) (pcm_preV _ hN (Zs.on hZ hS hAz) (by have := hS.1; omega) (hP.sub (ws' := [(hm, .inr (2, MO p a b n key dr th hX hY hR hO sx sy dk dv))]) [0] rfl) (hK.sub (tys' := []) [] rfl) ((hD.sub (ws' := [(hm, .inr (2, MO p a b n key dr th hX hY hR hO sx sy dk dv))]) [0] (by decide) rfl).weaken (fun _ _ _ h => hAz _ h)) 0 (ci := 2) rfl rfl) hS hFc aw_b_X2_good aw_m_X2_58 aw_v_X2_good aw_i_X2 aw_e_X2_good ⟨rfl, rfl⟩ 3 (by decide +kernel) rfl ⟨by decide, by decide⟩ hl.1 rfl (Nat.le_of_ble_eq_true rfl) dX2_key_36 ⟨by decide, by decide⟩ (fun t H1 locs1 ht hvm _ hB hz1 hk1 hS => ?_)
      obtain ⟨hP1, hK1, hD1⟩ := hB
      rw [ht] at hP1
      obtain ⟨hP, hD⟩ := va_join (wr := [(hX, .inl (cX, 1100, .inl (fun j => ii ((tx j : Nat) : Int)))), (hY, .inl (cY, 1100, .inl (fun j => ii ((ty j : Nat) : Int)))), (hR, .inl (cR, 4, .inl (fun j => ii ((ix j : Nat) : Int))))]) (w1 := [(hm, .inr (2, MO p a b n key dr (gdF 0 (nrF r) 1) hX hY hR hO sx sy dk dv))]) hP hD [0] [1, 2, 3] rfl rfl (by decide) (by decide) hk1 hFc hP1 hD1
      have hP := hP.sub (ws' := [(hm, .inr (2, MO p a b n key dr (gdF 0 (nrF r) 1) hX hY hR hO sx sy dk dv)), (hX, .inl (cX, 1100, .inl (fun j => ii ((tx j : Nat) : Int)))), (hY, .inl (cY, 1100, .inl (fun j => ii ((ty j : Nat) : Int)))), (hR, .inl (cR, 4, .inl (fun j => ii ((ix j : Nat) : Int))))]) [3, 0, 1, 2] rfl
      have hD := hD.sub (ws' := [(hm, .inr (2, MO p a b n key dr (gdF 0 (nrF r) 1) hX hY hR hO sx sy dk dv)), (hX, .inl (cX, 1100, .inl (fun j => ii ((tx j : Nat) : Int)))), (hY, .inl (cY, 1100, .inl (fun j => ii ((ty j : Nat) : Int)))), (hR, .inl (cR, 4, .inl (fun j => ii ((ix j : Nat) : Int))))]) [3, 0, 1, 2] (by decide) rfl
      have gb := goF_b (gdF 0 (nrF r) 1)
      have g0 := goF_0 (k := gdF 0 (nrF r) 1)
      have gz := gdF_0 (k1 := 0) (k2 := nrF r) (k3 := 1)
      refine i_if_eq (tgt := 54) C dX2_key_39 (by decide) ⟨by omega, by omega⟩ (fun h2 => ?_) (fun h2 => ?_)
      · rw [if_neg (show ¬ gdF 0 (nrF r) 1 = 0 from g0.mp h2)]
        exact pz_v C hr hk hS trivial (fun t ht hvm => ⟨by rw [ht]; exact hP, va_K.moved hvm hK, hD⟩) dX2_key_54 (by decide) (by decide)
      · have e : gdF 0 (nrF r) 1 = 0 := Classical.byContradiction fun z => h2 (g0.mpr z)
        have ez := gz.mp e
        rw [if_pos e]
        omega
    · refine lv_iload_n C.1 C.2.1 dX2_key_23 rfl (lv_at hl 2 rfl) ?_
      refine lv_aload_n C.1 C.2.1 dX2_key_24 rfl (lv_at hl 0 rfl) ?_
      refine gf C hK hP 0 rfl rfl aw_uX2 3 (by decide) aw_f_X2_65 rfl dX2_key_25 ?_
      refine i_icmp_lt (tgt := 35) C dX2_key_28 (by decide) ⟨by omega, by omega⟩ ⟨by omega, by omega⟩ (fun h4 => ?_) (fun h4 => ?_)
      · have kn : kyF n d = 0 := kyF_0.mpr (by omega)
        rw [kn]
        refine i_const C dX2_key_35 ?_
        have hFc := va_free (wc := [(hm, .inr (2, MO p a b n key dr th hX hY hR hO sx sy dk dv))]) hD hS hA [0] rfl
        refine cn_V (As := [.int (ii 0), .int (ii (nrF r)), .int (ii 0)]) (rest := []) C (c_X2_good l D z0 _ hm p a b n key dr th hX hY hR hO sx sy dk dv 0 (nrF r) 0 (by omega) nb (by omega)) (pcm_preV _ hN (Zs.on hZ hS hAz) (by have := hS.1; omega) (hP.sub (ws' := [(hm, .inr (2, MO p a b n key dr th hX hY hR hO sx sy dk dv))]) [0] rfl) (hK.sub (tys' := []) [] rfl) ((hD.sub (ws' := [(hm, .inr (2, MO p a b n key dr th hX hY hR hO sx sy dk dv))]) [0] (by decide) rfl).weaken (fun _ _ _ h => hAz _ h)) 0 (ci := 2) rfl rfl) hS hFc aw_b_X2_good aw_m_X2_58 aw_v_X2_good aw_i_X2 aw_e_X2_good ⟨rfl, rfl⟩ 3 (by decide +kernel) rfl ⟨by decide, by decide⟩ hl.1 rfl (Nat.le_of_ble_eq_true rfl) dX2_key_36 ⟨by decide, by decide⟩ (fun t H1 locs1 ht hvm _ hB hz1 hk1 hS => ?_)
        obtain ⟨hP1, hK1, hD1⟩ := hB
        rw [ht] at hP1
        obtain ⟨hP, hD⟩ := va_join (wr := [(hX, .inl (cX, 1100, .inl (fun j => ii ((tx j : Nat) : Int)))), (hY, .inl (cY, 1100, .inl (fun j => ii ((ty j : Nat) : Int)))), (hR, .inl (cR, 4, .inl (fun j => ii ((ix j : Nat) : Int))))]) (w1 := [(hm, .inr (2, MO p a b n key dr (gdF 0 (nrF r) 0) hX hY hR hO sx sy dk dv))]) hP hD [0] [1, 2, 3] rfl rfl (by decide) (by decide) hk1 hFc hP1 hD1
        have hP := hP.sub (ws' := [(hm, .inr (2, MO p a b n key dr (gdF 0 (nrF r) 0) hX hY hR hO sx sy dk dv)), (hX, .inl (cX, 1100, .inl (fun j => ii ((tx j : Nat) : Int)))), (hY, .inl (cY, 1100, .inl (fun j => ii ((ty j : Nat) : Int)))), (hR, .inl (cR, 4, .inl (fun j => ii ((ix j : Nat) : Int))))]) [3, 0, 1, 2] rfl
        have hD := hD.sub (ws' := [(hm, .inr (2, MO p a b n key dr (gdF 0 (nrF r) 0) hX hY hR hO sx sy dk dv)), (hX, .inl (cX, 1100, .inl (fun j => ii ((tx j : Nat) : Int)))), (hY, .inl (cY, 1100, .inl (fun j => ii ((ty j : Nat) : Int)))), (hR, .inl (cR, 4, .inl (fun j => ii ((ix j : Nat) : Int))))]) [3, 0, 1, 2] (by decide) rfl
        have gb := goF_b (gdF 0 (nrF r) 0)
        have g0 := goF_0 (k := gdF 0 (nrF r) 0)
        have gz := gdF_0 (k1 := 0) (k2 := nrF r) (k3 := 0)
        refine i_if_eq (tgt := 54) C dX2_key_39 (by decide) ⟨by omega, by omega⟩ (fun h2 => ?_) (fun h2 => ?_)
        · rw [if_neg (show ¬ gdF 0 (nrF r) 0 = 0 from g0.mp h2)]
          exact pz_v C hr hk hS trivial (fun t ht hvm => ⟨by rw [ht]; exact hP, va_K.moved hvm hK, hD⟩) dX2_key_54 (by decide) (by decide)
        · have e : gdF 0 (nrF r) 0 = 0 := Classical.byContradiction fun z => h2 (g0.mpr z)
          have ez := gz.mp e
          rw [if_pos e]
          refine lv_aload_n C.1 C.2.1 dX2_key_42 rfl (lv_at hl 0 rfl) ?_
          refine lv_iload_n C.1 C.2.1 dX2_key_43 rfl (lv_at hl 2 rfl) ?_
          refine p_f C hK hP hD hS 0 rfl rfl aw_uX2 tyX2 tyX2_ok nmX2 4 (by decide) aw_f_X2_68 rfl rfl rfl (Nat.le_of_ble_eq_true rfl) dX2_key_44 (fun H1 locs1 hP hD hS => ?_)
          have hP : va_P D clX [(hm, .inr (2, MO p a b n d dr (gdF 0 (nrF r) 0) hX hY hR hO sx sy dk dv)), (hX, .inl (cX, 1100, .inl (fun j => ii ((tx j : Nat) : Int)))), (hY, .inl (cY, 1100, .inl (fun j => ii ((ty j : Nat) : Int)))), (hR, .inl (cR, 4, .inl (fun j => ii ((ix j : Nat) : Int))))] H1 := hP
          have hD : va_D A [(hm, .inr (2, MO p a b n d dr (gdF 0 (nrF r) 0) hX hY hR hO sx sy dk dv)), (hX, .inl (cX, 1100, .inl (fun j => ii ((tx j : Nat) : Int)))), (hY, .inl (cY, 1100, .inl (fun j => ii ((ty j : Nat) : Int)))), (hR, .inl (cR, 4, .inl (fun j => ii ((ix j : Nat) : Int))))] := hD
          refine lv_aload_n C.1 C.2.1 dX2_key_47 rfl (lv_at hl 0 rfl) ?_
          refine gf C hK hP 0 rfl rfl aw_uX2 9 (by decide) aw_f_X2_16 rfl dX2_key_48 ?_
          refine lv_iload_n C.1 C.2.1 dX2_key_51 rfl (lv_at hl 1 rfl) ?_
          refine lv_iload_n C.1 C.2.1 dX2_key_52 rfl (lv_at hl 2 rfl) ?_
          refine i_top (b := ((d.toNat : Nat) : Int)) (by omega) ?_
          refine i_ast C hK hP hD hS 3 2 rfl rfl r.toNat (by omega) (by omega) (by omega) dX2_key_53 (fun H1 locs1 hP hD hS => ?_)
          rw [show va_up (fun j => ii ((ix j : Nat) : Int)) r.toNat (ii ((d.toNat : Nat) : Int)) = fun j => ii ((va_up ix r.toNat d.toNat j : Nat) : Int) from up_I ix r.toNat d.toNat] at hP hD
          have hP : va_P D clX [(hm, .inr (2, MO p a b n d dr (gdF 0 (nrF r) 0) hX hY hR hO sx sy dk dv)), (hX, .inl (cX, 1100, .inl (fun j => ii ((tx j : Nat) : Int)))), (hY, .inl (cY, 1100, .inl (fun j => ii ((ty j : Nat) : Int)))), (hR, .inl (cR, 4, .inl (fun j => ii (((va_up ix r.toNat d.toNat) j : Nat) : Int))))] H1 := hP
          have hD : va_D A [(hm, .inr (2, MO p a b n d dr (gdF 0 (nrF r) 0) hX hY hR hO sx sy dk dv)), (hX, .inl (cX, 1100, .inl (fun j => ii ((tx j : Nat) : Int)))), (hY, .inl (cY, 1100, .inl (fun j => ii ((ty j : Nat) : Int)))), (hR, .inl (cR, 4, .inl (fun j => ii (((va_up ix r.toNat d.toNat) j : Nat) : Int))))] := hD
          exact pz_v C hr hk hS trivial (fun t ht hvm => ⟨by rw [ht]; exact hP, va_K.moved hvm hK, hD⟩) dX2_key_54 (by decide) (by decide)
      · have kn : kyF n d = 1 := (kyF_b n d).resolve_left fun z => by have := kyF_0.mp z; omega
        rw [kn]
        refine i_const C dX2_key_31 ?_
        refine lv_goto (tgt := 36) C.1 C.2.1 dX2_key_32 (by decide) ?_
        have hFc := va_free (wc := [(hm, .inr (2, MO p a b n key dr th hX hY hR hO sx sy dk dv))]) hD hS hA [0] rfl
        refine cn_V (As := [.int (ii 0), .int (ii (nrF r)), .int (ii 1)]) (rest := []) C (c_X2_good l D z0 _ hm p a b n key dr th hX hY hR hO sx sy dk dv 0 (nrF r) 1 (by omega) nb (by omega)) (pcm_preV _ hN (Zs.on hZ hS hAz) (by have := hS.1; omega) (hP.sub (ws' := [(hm, .inr (2, MO p a b n key dr th hX hY hR hO sx sy dk dv))]) [0] rfl) (hK.sub (tys' := []) [] rfl) ((hD.sub (ws' := [(hm, .inr (2, MO p a b n key dr th hX hY hR hO sx sy dk dv))]) [0] (by decide) rfl).weaken (fun _ _ _ h => hAz _ h)) 0 (ci := 2) rfl rfl) hS hFc aw_b_X2_good aw_m_X2_58 aw_v_X2_good aw_i_X2 aw_e_X2_good ⟨rfl, rfl⟩ 3 (by decide +kernel) rfl ⟨by decide, by decide⟩ hl.1 rfl (Nat.le_of_ble_eq_true rfl) dX2_key_36 ⟨by decide, by decide⟩ (fun t H1 locs1 ht hvm _ hB hz1 hk1 hS => ?_)
        obtain ⟨hP1, hK1, hD1⟩ := hB
        rw [ht] at hP1
        obtain ⟨hP, hD⟩ := va_join (wr := [(hX, .inl (cX, 1100, .inl (fun j => ii ((tx j : Nat) : Int)))), (hY, .inl (cY, 1100, .inl (fun j => ii ((ty j : Nat) : Int)))), (hR, .inl (cR, 4, .inl (fun j => ii ((ix j : Nat) : Int))))]) (w1 := [(hm, .inr (2, MO p a b n key dr (gdF 0 (nrF r) 1) hX hY hR hO sx sy dk dv))]) hP hD [0] [1, 2, 3] rfl rfl (by decide) (by decide) hk1 hFc hP1 hD1
        have hP := hP.sub (ws' := [(hm, .inr (2, MO p a b n key dr (gdF 0 (nrF r) 1) hX hY hR hO sx sy dk dv)), (hX, .inl (cX, 1100, .inl (fun j => ii ((tx j : Nat) : Int)))), (hY, .inl (cY, 1100, .inl (fun j => ii ((ty j : Nat) : Int)))), (hR, .inl (cR, 4, .inl (fun j => ii ((ix j : Nat) : Int))))]) [3, 0, 1, 2] rfl
        have hD := hD.sub (ws' := [(hm, .inr (2, MO p a b n key dr (gdF 0 (nrF r) 1) hX hY hR hO sx sy dk dv)), (hX, .inl (cX, 1100, .inl (fun j => ii ((tx j : Nat) : Int)))), (hY, .inl (cY, 1100, .inl (fun j => ii ((ty j : Nat) : Int)))), (hR, .inl (cR, 4, .inl (fun j => ii ((ix j : Nat) : Int))))]) [3, 0, 1, 2] (by decide) rfl
        have gb := goF_b (gdF 0 (nrF r) 1)
        have g0 := goF_0 (k := gdF 0 (nrF r) 1)
        have gz := gdF_0 (k1 := 0) (k2 := nrF r) (k3 := 1)
        refine i_if_eq (tgt := 54) C dX2_key_39 (by decide) ⟨by omega, by omega⟩ (fun h2 => ?_) (fun h2 => ?_)
        · rw [if_neg (show ¬ gdF 0 (nrF r) 1 = 0 from g0.mp h2)]
          exact pz_v C hr hk hS trivial (fun t ht hvm => ⟨by rw [ht]; exact hP, va_K.moved hvm hK, hD⟩) dX2_key_54 (by decide) (by decide)
        · have e : gdF 0 (nrF r) 1 = 0 := Classical.byContradiction fun z => h2 (g0.mpr z)
          have ez := gz.mp e
          rw [if_pos e]
          omega
  · have zn : zb n = 1 := if_pos (by omega)
    rw [zn]
    refine i_const C dX2_key_8 ?_
    refine lv_goto (tgt := 13) C.1 C.2.1 dX2_key_9 (by decide) ?_
    refine lv_aload_n C.1 C.2.1 dX2_key_13 rfl (lv_at hl 0 rfl) ?_
    refine lv_iload_n C.1 C.2.1 dX2_key_14 rfl (lv_at hl 1 rfl) ?_
    refine ca_V (As := [.int (ii r)]) (rest := [.int (ii 1), .ref hm]) C (c_X2_noRegister l D hm r hr1) (pcw_preV0 [.int (ii r)] hN hP hK 0 (ci := 2) rfl rfl) aw_b_X2_noRegister aw_m_X2_81 aw_v_X2_noRegister aw_i_X2 aw_e_X2_noRegister ⟨rfl, rfl⟩ 1 (by decide +kernel) rfl ⟨by decide, by decide⟩ hl.1 rfl (Nat.le_of_ble_eq_true rfl) dX2_key_15 ⟨by decide, by decide⟩ ?_
    refine lv_iload_n C.1 C.2.1 dX2_key_18 rfl (lv_at hl 2 rfl) ?_
    refine i_const C dX2_key_19 ?_
    refine i_icmp_lt (tgt := 31) C dX2_key_20 (by decide) ⟨by omega, by omega⟩ ⟨by omega, by omega⟩ (fun h3 => ?_) (fun h3 => ?_)
    · have kn : kyF n d = 1 := if_pos (by omega)
      rw [kn]
      refine i_const C dX2_key_31 ?_
      refine lv_goto (tgt := 36) C.1 C.2.1 dX2_key_32 (by decide) ?_
      have hFc := va_free (wc := [(hm, .inr (2, MO p a b n key dr th hX hY hR hO sx sy dk dv))]) hD hS hA [0] rfl
      refine cn_V (As := [.int (ii 1), .int (ii (nrF r)), .int (ii 1)]) (rest := []) C (c_X2_good l D z0 _ hm p a b n key dr th hX hY hR hO sx sy dk dv 1 (nrF r) 1 (by omega) nb (by omega)) (pcm_preV _ hN (Zs.on hZ hS hAz) (by have := hS.1; omega) (hP.sub (ws' := [(hm, .inr (2, MO p a b n key dr th hX hY hR hO sx sy dk dv))]) [0] rfl) (hK.sub (tys' := []) [] rfl) ((hD.sub (ws' := [(hm, .inr (2, MO p a b n key dr th hX hY hR hO sx sy dk dv))]) [0] (by decide) rfl).weaken (fun _ _ _ h => hAz _ h)) 0 (ci := 2) rfl rfl) hS hFc aw_b_X2_good aw_m_X2_58 aw_v_X2_good aw_i_X2 aw_e_X2_good ⟨rfl, rfl⟩ 3 (by decide +kernel) rfl ⟨by decide, by decide⟩ hl.1 rfl (Nat.le_of_ble_eq_true rfl) dX2_key_36 ⟨by decide, by decide⟩ (fun t H1 locs1 ht hvm _ hB hz1 hk1 hS => ?_)
      obtain ⟨hP1, hK1, hD1⟩ := hB
      rw [ht] at hP1
      obtain ⟨hP, hD⟩ := va_join (wr := [(hX, .inl (cX, 1100, .inl (fun j => ii ((tx j : Nat) : Int)))), (hY, .inl (cY, 1100, .inl (fun j => ii ((ty j : Nat) : Int)))), (hR, .inl (cR, 4, .inl (fun j => ii ((ix j : Nat) : Int))))]) (w1 := [(hm, .inr (2, MO p a b n key dr (gdF 1 (nrF r) 1) hX hY hR hO sx sy dk dv))]) hP hD [0] [1, 2, 3] rfl rfl (by decide) (by decide) hk1 hFc hP1 hD1
      have hP := hP.sub (ws' := [(hm, .inr (2, MO p a b n key dr (gdF 1 (nrF r) 1) hX hY hR hO sx sy dk dv)), (hX, .inl (cX, 1100, .inl (fun j => ii ((tx j : Nat) : Int)))), (hY, .inl (cY, 1100, .inl (fun j => ii ((ty j : Nat) : Int)))), (hR, .inl (cR, 4, .inl (fun j => ii ((ix j : Nat) : Int))))]) [3, 0, 1, 2] rfl
      have hD := hD.sub (ws' := [(hm, .inr (2, MO p a b n key dr (gdF 1 (nrF r) 1) hX hY hR hO sx sy dk dv)), (hX, .inl (cX, 1100, .inl (fun j => ii ((tx j : Nat) : Int)))), (hY, .inl (cY, 1100, .inl (fun j => ii ((ty j : Nat) : Int)))), (hR, .inl (cR, 4, .inl (fun j => ii ((ix j : Nat) : Int))))]) [3, 0, 1, 2] (by decide) rfl
      have gb := goF_b (gdF 1 (nrF r) 1)
      have g0 := goF_0 (k := gdF 1 (nrF r) 1)
      have gz := gdF_0 (k1 := 1) (k2 := nrF r) (k3 := 1)
      refine i_if_eq (tgt := 54) C dX2_key_39 (by decide) ⟨by omega, by omega⟩ (fun h2 => ?_) (fun h2 => ?_)
      · rw [if_neg (show ¬ gdF 1 (nrF r) 1 = 0 from g0.mp h2)]
        exact pz_v C hr hk hS trivial (fun t ht hvm => ⟨by rw [ht]; exact hP, va_K.moved hvm hK, hD⟩) dX2_key_54 (by decide) (by decide)
      · have e : gdF 1 (nrF r) 1 = 0 := Classical.byContradiction fun z => h2 (g0.mpr z)
        have ez := gz.mp e
        rw [if_pos e]
        omega
    · refine lv_iload_n C.1 C.2.1 dX2_key_23 rfl (lv_at hl 2 rfl) ?_
      refine lv_aload_n C.1 C.2.1 dX2_key_24 rfl (lv_at hl 0 rfl) ?_
      refine gf C hK hP 0 rfl rfl aw_uX2 3 (by decide) aw_f_X2_65 rfl dX2_key_25 ?_
      refine i_icmp_lt (tgt := 35) C dX2_key_28 (by decide) ⟨by omega, by omega⟩ ⟨by omega, by omega⟩ (fun h4 => ?_) (fun h4 => ?_)
      · have kn : kyF n d = 0 := kyF_0.mpr (by omega)
        rw [kn]
        refine i_const C dX2_key_35 ?_
        have hFc := va_free (wc := [(hm, .inr (2, MO p a b n key dr th hX hY hR hO sx sy dk dv))]) hD hS hA [0] rfl
        refine cn_V (As := [.int (ii 1), .int (ii (nrF r)), .int (ii 0)]) (rest := []) C (c_X2_good l D z0 _ hm p a b n key dr th hX hY hR hO sx sy dk dv 1 (nrF r) 0 (by omega) nb (by omega)) (pcm_preV _ hN (Zs.on hZ hS hAz) (by have := hS.1; omega) (hP.sub (ws' := [(hm, .inr (2, MO p a b n key dr th hX hY hR hO sx sy dk dv))]) [0] rfl) (hK.sub (tys' := []) [] rfl) ((hD.sub (ws' := [(hm, .inr (2, MO p a b n key dr th hX hY hR hO sx sy dk dv))]) [0] (by decide) rfl).weaken (fun _ _ _ h => hAz _ h)) 0 (ci := 2) rfl rfl) hS hFc aw_b_X2_good aw_m_X2_58 aw_v_X2_good aw_i_X2 aw_e_X2_good ⟨rfl, rfl⟩ 3 (by decide +kernel) rfl ⟨by decide, by decide⟩ hl.1 rfl (Nat.le_of_ble_eq_true rfl) dX2_key_36 ⟨by decide, by decide⟩ (fun t H1 locs1 ht hvm _ hB hz1 hk1 hS => ?_)
        obtain ⟨hP1, hK1, hD1⟩ := hB
        rw [ht] at hP1
        obtain ⟨hP, hD⟩ := va_join (wr := [(hX, .inl (cX, 1100, .inl (fun j => ii ((tx j : Nat) : Int)))), (hY, .inl (cY, 1100, .inl (fun j => ii ((ty j : Nat) : Int)))), (hR, .inl (cR, 4, .inl (fun j => ii ((ix j : Nat) : Int))))]) (w1 := [(hm, .inr (2, MO p a b n key dr (gdF 1 (nrF r) 0) hX hY hR hO sx sy dk dv))]) hP hD [0] [1, 2, 3] rfl rfl (by decide) (by decide) hk1 hFc hP1 hD1
        have hP := hP.sub (ws' := [(hm, .inr (2, MO p a b n key dr (gdF 1 (nrF r) 0) hX hY hR hO sx sy dk dv)), (hX, .inl (cX, 1100, .inl (fun j => ii ((tx j : Nat) : Int)))), (hY, .inl (cY, 1100, .inl (fun j => ii ((ty j : Nat) : Int)))), (hR, .inl (cR, 4, .inl (fun j => ii ((ix j : Nat) : Int))))]) [3, 0, 1, 2] rfl
        have hD := hD.sub (ws' := [(hm, .inr (2, MO p a b n key dr (gdF 1 (nrF r) 0) hX hY hR hO sx sy dk dv)), (hX, .inl (cX, 1100, .inl (fun j => ii ((tx j : Nat) : Int)))), (hY, .inl (cY, 1100, .inl (fun j => ii ((ty j : Nat) : Int)))), (hR, .inl (cR, 4, .inl (fun j => ii ((ix j : Nat) : Int))))]) [3, 0, 1, 2] (by decide) rfl
        have gb := goF_b (gdF 1 (nrF r) 0)
        have g0 := goF_0 (k := gdF 1 (nrF r) 0)
        have gz := gdF_0 (k1 := 1) (k2 := nrF r) (k3 := 0)
        refine i_if_eq (tgt := 54) C dX2_key_39 (by decide) ⟨by omega, by omega⟩ (fun h2 => ?_) (fun h2 => ?_)
        · rw [if_neg (show ¬ gdF 1 (nrF r) 0 = 0 from g0.mp h2)]
          exact pz_v C hr hk hS trivial (fun t ht hvm => ⟨by rw [ht]; exact hP, va_K.moved hvm hK, hD⟩) dX2_key_54 (by decide) (by decide)
        · have e : gdF 1 (nrF r) 0 = 0 := Classical.byContradiction fun z => h2 (g0.mpr z)
          have ez := gz.mp e
          rw [if_pos e]
          omega
      · have kn : kyF n d = 1 := (kyF_b n d).resolve_left fun z => by have := kyF_0.mp z; omega
        rw [kn]
        refine i_const C dX2_key_31 ?_
        refine lv_goto (tgt := 36) C.1 C.2.1 dX2_key_32 (by decide) ?_
        have hFc := va_free (wc := [(hm, .inr (2, MO p a b n key dr th hX hY hR hO sx sy dk dv))]) hD hS hA [0] rfl
        refine cn_V (As := [.int (ii 1), .int (ii (nrF r)), .int (ii 1)]) (rest := []) C (c_X2_good l D z0 _ hm p a b n key dr th hX hY hR hO sx sy dk dv 1 (nrF r) 1 (by omega) nb (by omega)) (pcm_preV _ hN (Zs.on hZ hS hAz) (by have := hS.1; omega) (hP.sub (ws' := [(hm, .inr (2, MO p a b n key dr th hX hY hR hO sx sy dk dv))]) [0] rfl) (hK.sub (tys' := []) [] rfl) ((hD.sub (ws' := [(hm, .inr (2, MO p a b n key dr th hX hY hR hO sx sy dk dv))]) [0] (by decide) rfl).weaken (fun _ _ _ h => hAz _ h)) 0 (ci := 2) rfl rfl) hS hFc aw_b_X2_good aw_m_X2_58 aw_v_X2_good aw_i_X2 aw_e_X2_good ⟨rfl, rfl⟩ 3 (by decide +kernel) rfl ⟨by decide, by decide⟩ hl.1 rfl (Nat.le_of_ble_eq_true rfl) dX2_key_36 ⟨by decide, by decide⟩ (fun t H1 locs1 ht hvm _ hB hz1 hk1 hS => ?_)
        obtain ⟨hP1, hK1, hD1⟩ := hB
        rw [ht] at hP1
        obtain ⟨hP, hD⟩ := va_join (wr := [(hX, .inl (cX, 1100, .inl (fun j => ii ((tx j : Nat) : Int)))), (hY, .inl (cY, 1100, .inl (fun j => ii ((ty j : Nat) : Int)))), (hR, .inl (cR, 4, .inl (fun j => ii ((ix j : Nat) : Int))))]) (w1 := [(hm, .inr (2, MO p a b n key dr (gdF 1 (nrF r) 1) hX hY hR hO sx sy dk dv))]) hP hD [0] [1, 2, 3] rfl rfl (by decide) (by decide) hk1 hFc hP1 hD1
        have hP := hP.sub (ws' := [(hm, .inr (2, MO p a b n key dr (gdF 1 (nrF r) 1) hX hY hR hO sx sy dk dv)), (hX, .inl (cX, 1100, .inl (fun j => ii ((tx j : Nat) : Int)))), (hY, .inl (cY, 1100, .inl (fun j => ii ((ty j : Nat) : Int)))), (hR, .inl (cR, 4, .inl (fun j => ii ((ix j : Nat) : Int))))]) [3, 0, 1, 2] rfl
        have hD := hD.sub (ws' := [(hm, .inr (2, MO p a b n key dr (gdF 1 (nrF r) 1) hX hY hR hO sx sy dk dv)), (hX, .inl (cX, 1100, .inl (fun j => ii ((tx j : Nat) : Int)))), (hY, .inl (cY, 1100, .inl (fun j => ii ((ty j : Nat) : Int)))), (hR, .inl (cR, 4, .inl (fun j => ii ((ix j : Nat) : Int))))]) [3, 0, 1, 2] (by decide) rfl
        have gb := goF_b (gdF 1 (nrF r) 1)
        have g0 := goF_0 (k := gdF 1 (nrF r) 1)
        have gz := gdF_0 (k1 := 1) (k2 := nrF r) (k3 := 1)
        refine i_if_eq (tgt := 54) C dX2_key_39 (by decide) ⟨by omega, by omega⟩ (fun h2 => ?_) (fun h2 => ?_)
        · rw [if_neg (show ¬ gdF 1 (nrF r) 1 = 0 from g0.mp h2)]
          exact pz_v C hr hk hS trivial (fun t ht hvm => ⟨by rw [ht]; exact hP, va_K.moved hvm hK, hD⟩) dX2_key_54 (by decide) (by decide)
        · have e : gdF 1 (nrF r) 1 = 0 := Classical.byContradiction fun z => h2 (g0.mpr z)
          have ez := gz.mp e
          rw [if_pos e]
          omega
set_option maxRecDepth 100000 in
set_option maxHeartbeats 4000000 in
theorem c_X2_load (l : Launch) (D : va_G) (z0 sz : Nat) (hm : Nat) (p a b : Int) (n : Nat) (key dr th : Int) (hX hY hR hO : Nat) (sx sy dk dv : Int32) (cX cY cR : ClassId) (tx ty ix : Nat → Nat) (hT : ∀ j, tx j ≤ 1020 ∧ ty j ≤ 1020) (hI : ∀ j, ix j ≤ 1099) (hn : n ≤ 1100) (r x y : Int) (hr1 : rg r) (hx1 : rg x) (hy1 : rg y) : Met l yX2_load (Cond.code yX2_load cX2_load 5 none :: AW) ({ frames := 1, cells := 0, slots := 0, locals := 24 } : Room) (PcM D z0 sz [(hm, .inr (2, MO p a b n key dr th hX hY hR hO sx sy dk dv)), (hX, .inl (cX, 1100, .inl (fun j => ii ((tx j : Nat) : Int)))), (hY, .inl (cY, 1100, .inl (fun j => ii ((ty j : Nat) : Int)))), (hR, .inl (cR, 4, .inl (fun j => ii ((ix j : Nat) : Int))))] [(cX, .int), (cY, .int), (cR, .int)] [.ref hm, .int (ii r), .int (ii x), .int (ii y)]) (QcM none True (Wd D (if gdF (zb n) (nrF r) (zb (fdF tx ty n x y 1100 1 0)) = 0 then [(hm, .inr (2, MO p a b n key dr (gdF (zb n) (nrF r) (zb (fdF tx ty n x y 1100 1 0))) hX hY hR hO sx sy dk dv)), (hX, .inl (cX, 1100, .inl (fun j => ii ((tx j : Nat) : Int)))), (hY, .inl (cY, 1100, .inl (fun j => ii ((ty j : Nat) : Int)))), (hR, .inl (cR, 4, .inl (fun j => ii (((va_up ix r.toNat (fdF tx ty n x y 1100 1 0)) j : Nat) : Int))))] else [(hm, .inr (2, MO p a b n key dr (gdF (zb n) (nrF r) (zb (fdF tx ty n x y 1100 1 0))) hX hY hR hO sx sy dk dv)), (hX, .inl (cX, 1100, .inl (fun j => ii ((tx j : Nat) : Int)))), (hY, .inl (cY, 1100, .inl (fun j => ii ((ty j : Nat) : Int)))), (hR, .inl (cR, 4, .inl (fun j => ii ((ix j : Nat) : Int))))]) [(cX, .int), (cY, .int), (cR, .int)] (va_A [(hm, .inr (2, MO p a b n key dr th hX hY hR hO sx sy dk dv)), (hX, .inl (cX, 1100, .inl (fun j => ii ((tx j : Nat) : Int)))), (hY, .inl (cY, 1100, .inl (fun j => ii ((ty j : Nat) : Int)))), (hR, .inl (cR, 4, .inl (fun j => ii ((ix j : Nat) : Int))))] sz)) (va_A [(hm, .inr (2, MO p a b n key dr th hX hY hR hO sx sy dk dv)), (hX, .inl (cX, 1100, .inl (fun j => ii ((tx j : Nat) : Int)))), (hY, .inl (cY, 1100, .inl (fun j => ii ((ty j : Nat) : Int)))), (hR, .inl (cR, 4, .inl (fun j => ii ((ix j : Nat) : Int))))] sz)) 0 0 (va_A [(hm, .inr (2, MO p a b n key dr th hX hY hR hO sx sy dk dv)), (hX, .inl (cX, 1100, .inl (fun j => ii ((tx j : Nat) : Int)))), (hY, .inl (cY, 1100, .inl (fun j => ii ((ty j : Nat) : Int)))), (hR, .inl (cR, 4, .inl (fun j => ii ((ix j : Nat) : Int))))] sz) := by
  refine mt_N (by decide +kernel) (Nat.le_of_ble_eq_true rfl) ?_
  intro P0 E0 S0 M0 A0 B0 T0 K0 C hN hZ hsz hz hP hK hD hAz hA hr hk hin ls hl
  have hl : lv_has ls 5 [(0, .ref hm), (1, .int (ii r)), (2, .int (ii x)), (3, .int (ii y))] := hl
  generalize hAe : va_A [(hm, .inr (2, MO p a b n key dr th hX hY hR hO sx sy dk dv)), (hX, .inl (cX, 1100, .inl (fun j => ii ((tx j : Nat) : Int)))), (hY, .inl (cY, 1100, .inl (fun j => ii ((ty j : Nat) : Int)))), (hR, .inl (cR, 4, .inl (fun j => ii ((ix j : Nat) : Int))))] sz = A at hD hAz hA ⊢
  have hS : va_S A S0.heap S0.heap [] := va_S.rf
  have nb := nrF_b r
  have n0 := nrF_0 (r := r)
  unfold okr at n0
  have fb := fdF_b tx ty n hn x y 1100 1 0 (by omega)
  refine lv_aload_n C.1 C.2.1 dX2_load_0 rfl (lv_at hl 0 rfl) ?_
  refine lv_iload_n C.1 C.2.1 dX2_load_1 rfl (lv_at hl 2 rfl) ?_
  refine lv_iload_n C.1 C.2.1 dX2_load_2 rfl (lv_at hl 3 rfl) ?_
  refine ca_V (As := [.int (ii x), .int (ii y)]) (rest := []) C (c_X2_find l D hm p a b n key dr th hX hY hR hO sx sy dk dv cX cY tx ty hT hn x y hx1 hy1) (pcw_preV [.int (ii x), .int (ii y)] hN (hP.sub (ws' := [(hm, .inr (2, MO p a b n key dr th hX hY hR hO sx sy dk dv)), (hX, .inl (cX, 1100, .inl (fun j => ii ((tx j : Nat) : Int)))), (hY, .inl (cY, 1100, .inl (fun j => ii ((ty j : Nat) : Int))))]) [0, 1, 2] rfl) (hK.sub (tys' := [(cX, .int), (cY, .int)]) [0, 1] rfl) 0 (ci := 2) rfl rfl) aw_b_X2_find aw_m_X2_78 aw_v_X2_find aw_i_X2 aw_e_X2_find ⟨rfl, rfl⟩ 2 (by decide +kernel) rfl ⟨by decide, by decide⟩ hl.1 rfl (Nat.le_of_ble_eq_true rfl) dX2_load_3 ⟨by decide, by decide⟩ ?_
  generalize fdF tx ty n x y 1100 1 0 = k at fb ⊢
  refine lv_istore C.1 C.2.1 dX2_load_6 hl (by decide) rfl (fun ls hl => ?_)
  have hl : lv_has ls 5 [(4, .int (ii (k : Int))), (0, .ref hm), (1, .int (ii r)), (2, .int (ii x)), (3, .int (ii y))] := hl
  refine lv_aload_n C.1 C.2.1 dX2_load_8 rfl (lv_at hl 1 rfl) ?_
  refine lv_aload_n C.1 C.2.1 dX2_load_9 rfl (lv_at hl 1 rfl) ?_
  refine gf C hK hP 0 rfl rfl aw_uX2 3 (by decide) aw_f_X2_65 rfl dX2_load_10 ?_
  refine i_if_ne (tgt := 20) C dX2_load_13 (by decide) ⟨by omega, by omega⟩ (fun h1 => ?_) (fun h1 => ?_)
  · have zn : zb n = 0 := if_neg (by omega)
    rw [zn]
    refine i_const C dX2_load_20 ?_
    refine lv_aload_n C.1 C.2.1 dX2_load_21 rfl (lv_at hl 1 rfl) ?_
    refine lv_iload_n C.1 C.2.1 dX2_load_22 rfl (lv_at hl 2 rfl) ?_
    refine ca_V (As := [.int (ii r)]) (rest := [.int (ii 0), .ref hm]) C (c_X2_noRegister l D hm r hr1) (pcw_preV0 [.int (ii r)] hN hP hK 0 (ci := 2) rfl rfl) aw_b_X2_noRegister aw_m_X2_81 aw_v_X2_noRegister aw_i_X2 aw_e_X2_noRegister ⟨rfl, rfl⟩ 1 (by decide +kernel) rfl ⟨by decide, by decide⟩ hl.1 rfl (Nat.le_of_ble_eq_true rfl) dX2_load_23 ⟨by decide, by decide⟩ ?_
    refine lv_iload C.1 C.2.1 dX2_load_26 (lv_at hl 0 rfl) ?_
    refine i_if_ne (tgt := 35) C dX2_load_28 (by decide) ⟨by omega, by omega⟩ (fun h3 => ?_) (fun h3 => ?_)
    · have kn : zb k = 0 := if_neg (by omega)
      rw [kn]
      refine i_const C dX2_load_35 ?_
      have hFc := va_free (wc := [(hm, .inr (2, MO p a b n key dr th hX hY hR hO sx sy dk dv))]) hD hS hA [0] rfl
      refine cn_V (As := [.int (ii 0), .int (ii (nrF r)), .int (ii 0)]) (rest := []) C (c_X2_good l D z0 _ hm p a b n key dr th hX hY hR hO sx sy dk dv 0 (nrF r) 0 (by omega) nb (by omega)) (pcm_preV _ hN (Zs.on hZ hS hAz) (by have := hS.1; omega) (hP.sub (ws' := [(hm, .inr (2, MO p a b n key dr th hX hY hR hO sx sy dk dv))]) [0] rfl) (hK.sub (tys' := []) [] rfl) ((hD.sub (ws' := [(hm, .inr (2, MO p a b n key dr th hX hY hR hO sx sy dk dv))]) [0] (by decide) rfl).weaken (fun _ _ _ h => hAz _ h)) 0 (ci := 2) rfl rfl) hS hFc aw_b_X2_good aw_m_X2_58 aw_v_X2_good aw_i_X2 aw_e_X2_good ⟨rfl, rfl⟩ 3 (by decide +kernel) rfl ⟨by decide, by decide⟩ hl.1 rfl (Nat.le_of_ble_eq_true rfl) dX2_load_36 ⟨by decide, by decide⟩ (fun t H1 locs1 ht hvm _ hB hz1 hk1 hS => ?_)
      obtain ⟨hP1, hK1, hD1⟩ := hB
      rw [ht] at hP1
      obtain ⟨hP, hD⟩ := va_join (wr := [(hX, .inl (cX, 1100, .inl (fun j => ii ((tx j : Nat) : Int)))), (hY, .inl (cY, 1100, .inl (fun j => ii ((ty j : Nat) : Int)))), (hR, .inl (cR, 4, .inl (fun j => ii ((ix j : Nat) : Int))))]) (w1 := [(hm, .inr (2, MO p a b n key dr (gdF 0 (nrF r) 0) hX hY hR hO sx sy dk dv))]) hP hD [0] [1, 2, 3] rfl rfl (by decide) (by decide) hk1 hFc hP1 hD1
      have hP := hP.sub (ws' := [(hm, .inr (2, MO p a b n key dr (gdF 0 (nrF r) 0) hX hY hR hO sx sy dk dv)), (hX, .inl (cX, 1100, .inl (fun j => ii ((tx j : Nat) : Int)))), (hY, .inl (cY, 1100, .inl (fun j => ii ((ty j : Nat) : Int)))), (hR, .inl (cR, 4, .inl (fun j => ii ((ix j : Nat) : Int))))]) [3, 0, 1, 2] rfl
      have hD := hD.sub (ws' := [(hm, .inr (2, MO p a b n key dr (gdF 0 (nrF r) 0) hX hY hR hO sx sy dk dv)), (hX, .inl (cX, 1100, .inl (fun j => ii ((tx j : Nat) : Int)))), (hY, .inl (cY, 1100, .inl (fun j => ii ((ty j : Nat) : Int)))), (hR, .inl (cR, 4, .inl (fun j => ii ((ix j : Nat) : Int))))]) [3, 0, 1, 2] (by decide) rfl
      have gb := goF_b (gdF 0 (nrF r) 0)
      have g0 := goF_0 (k := gdF 0 (nrF r) 0)
      have gz := gdF_0 (k1 := 0) (k2 := nrF r) (k3 := 0)
      refine i_if_eq (tgt := 50) C dX2_load_39 (by decide) ⟨by omega, by omega⟩ (fun h2 => ?_) (fun h2 => ?_)
      · rw [if_neg (show ¬ gdF 0 (nrF r) 0 = 0 from g0.mp h2)]
        exact pz_v C hr hk hS trivial (fun t ht hvm => ⟨by rw [ht]; exact hP, va_K.moved hvm hK, hD⟩) dX2_load_50 (by decide) (by decide)
      · have e : gdF 0 (nrF r) 0 = 0 := Classical.byContradiction fun z => h2 (g0.mpr z)
        have ez := gz.mp e
        rw [if_pos e]
        refine lv_aload_n C.1 C.2.1 dX2_load_42 rfl (lv_at hl 1 rfl) ?_
        refine gf C hK hP 0 rfl rfl aw_uX2 9 (by decide) aw_f_X2_16 rfl dX2_load_43 ?_
        refine lv_iload_n C.1 C.2.1 dX2_load_46 rfl (lv_at hl 2 rfl) ?_
        refine lv_iload C.1 C.2.1 dX2_load_47 (lv_at hl 0 rfl) ?_
        refine i_ast C hK hP hD hS 3 2 rfl rfl r.toNat (by omega) (by omega) (by omega) dX2_load_49 (fun H1 locs1 hP hD hS => ?_)
        rw [show va_up (fun j => ii ((ix j : Nat) : Int)) r.toNat (ii (k : Int)) = fun j => ii ((va_up ix r.toNat k j : Nat) : Int) from up_I ix r.toNat k] at hP hD
        have hP : va_P D clX [(hm, .inr (2, MO p a b n key dr (gdF 0 (nrF r) 0) hX hY hR hO sx sy dk dv)), (hX, .inl (cX, 1100, .inl (fun j => ii ((tx j : Nat) : Int)))), (hY, .inl (cY, 1100, .inl (fun j => ii ((ty j : Nat) : Int)))), (hR, .inl (cR, 4, .inl (fun j => ii (((va_up ix r.toNat k) j : Nat) : Int))))] H1 := hP
        have hD : va_D A [(hm, .inr (2, MO p a b n key dr (gdF 0 (nrF r) 0) hX hY hR hO sx sy dk dv)), (hX, .inl (cX, 1100, .inl (fun j => ii ((tx j : Nat) : Int)))), (hY, .inl (cY, 1100, .inl (fun j => ii ((ty j : Nat) : Int)))), (hR, .inl (cR, 4, .inl (fun j => ii (((va_up ix r.toNat k) j : Nat) : Int))))] := hD
        exact pz_v C hr hk hS trivial (fun t ht hvm => ⟨by rw [ht]; exact hP, va_K.moved hvm hK, hD⟩) dX2_load_50 (by decide) (by decide)
    · have kn : zb k = 1 := if_pos (by omega)
      rw [kn]
      refine i_const C dX2_load_31 ?_
      refine lv_goto (tgt := 36) C.1 C.2.1 dX2_load_32 (by decide) ?_
      have hFc := va_free (wc := [(hm, .inr (2, MO p a b n key dr th hX hY hR hO sx sy dk dv))]) hD hS hA [0] rfl
      refine cn_V (As := [.int (ii 0), .int (ii (nrF r)), .int (ii 1)]) (rest := []) C (c_X2_good l D z0 _ hm p a b n key dr th hX hY hR hO sx sy dk dv 0 (nrF r) 1 (by omega) nb (by omega)) (pcm_preV _ hN (Zs.on hZ hS hAz) (by have := hS.1; omega) (hP.sub (ws' := [(hm, .inr (2, MO p a b n key dr th hX hY hR hO sx sy dk dv))]) [0] rfl) (hK.sub (tys' := []) [] rfl) ((hD.sub (ws' := [(hm, .inr (2, MO p a b n key dr th hX hY hR hO sx sy dk dv))]) [0] (by decide) rfl).weaken (fun _ _ _ h => hAz _ h)) 0 (ci := 2) rfl rfl) hS hFc aw_b_X2_good aw_m_X2_58 aw_v_X2_good aw_i_X2 aw_e_X2_good ⟨rfl, rfl⟩ 3 (by decide +kernel) rfl ⟨by decide, by decide⟩ hl.1 rfl (Nat.le_of_ble_eq_true rfl) dX2_load_36 ⟨by decide, by decide⟩ (fun t H1 locs1 ht hvm _ hB hz1 hk1 hS => ?_)
      obtain ⟨hP1, hK1, hD1⟩ := hB
      rw [ht] at hP1
      obtain ⟨hP, hD⟩ := va_join (wr := [(hX, .inl (cX, 1100, .inl (fun j => ii ((tx j : Nat) : Int)))), (hY, .inl (cY, 1100, .inl (fun j => ii ((ty j : Nat) : Int)))), (hR, .inl (cR, 4, .inl (fun j => ii ((ix j : Nat) : Int))))]) (w1 := [(hm, .inr (2, MO p a b n key dr (gdF 0 (nrF r) 1) hX hY hR hO sx sy dk dv))]) hP hD [0] [1, 2, 3] rfl rfl (by decide) (by decide) hk1 hFc hP1 hD1
      have hP := hP.sub (ws' := [(hm, .inr (2, MO p a b n key dr (gdF 0 (nrF r) 1) hX hY hR hO sx sy dk dv)), (hX, .inl (cX, 1100, .inl (fun j => ii ((tx j : Nat) : Int)))), (hY, .inl (cY, 1100, .inl (fun j => ii ((ty j : Nat) : Int)))), (hR, .inl (cR, 4, .inl (fun j => ii ((ix j : Nat) : Int))))]) [3, 0, 1, 2] rfl
      have hD := hD.sub (ws' := [(hm, .inr (2, MO p a b n key dr (gdF 0 (nrF r) 1) hX hY hR hO sx sy dk dv)), (hX, .inl (cX, 1100, .inl (fun j => ii ((tx j : Nat) : Int)))), (hY, .inl (cY, 1100, .inl (fun j => ii ((ty j : Nat) : Int)))), (hR, .inl (cR, 4, .inl (fun j => ii ((ix j : Nat) : Int))))]) [3, 0, 1, 2] (by decide) rfl
      have gb := goF_b (gdF 0 (nrF r) 1)
      have g0 := goF_0 (k := gdF 0 (nrF r) 1)
      have gz := gdF_0 (k1 := 0) (k2 := nrF r) (k3 := 1)
      refine i_if_eq (tgt := 50) C dX2_load_39 (by decide) ⟨by omega, by omega⟩ (fun h2 => ?_) (fun h2 => ?_)
      · rw [if_neg (show ¬ gdF 0 (nrF r) 1 = 0 from g0.mp h2)]
        exact pz_v C hr hk hS trivial (fun t ht hvm => ⟨by rw [ht]; exact hP, va_K.moved hvm hK, hD⟩) dX2_load_50 (by decide) (by decide)
      · have e : gdF 0 (nrF r) 1 = 0 := Classical.byContradiction fun z => h2 (g0.mpr z)
        have ez := gz.mp e
        rw [if_pos e]
        omega
  · have zn : zb n = 1 := if_pos (by omega)
    rw [zn]
    refine i_const C dX2_load_16 ?_
    refine lv_goto (tgt := 21) C.1 C.2.1 dX2_load_17 (by decide) ?_
    refine lv_aload_n C.1 C.2.1 dX2_load_21 rfl (lv_at hl 1 rfl) ?_
    refine lv_iload_n C.1 C.2.1 dX2_load_22 rfl (lv_at hl 2 rfl) ?_
    refine ca_V (As := [.int (ii r)]) (rest := [.int (ii 1), .ref hm]) C (c_X2_noRegister l D hm r hr1) (pcw_preV0 [.int (ii r)] hN hP hK 0 (ci := 2) rfl rfl) aw_b_X2_noRegister aw_m_X2_81 aw_v_X2_noRegister aw_i_X2 aw_e_X2_noRegister ⟨rfl, rfl⟩ 1 (by decide +kernel) rfl ⟨by decide, by decide⟩ hl.1 rfl (Nat.le_of_ble_eq_true rfl) dX2_load_23 ⟨by decide, by decide⟩ ?_
    refine lv_iload C.1 C.2.1 dX2_load_26 (lv_at hl 0 rfl) ?_
    refine i_if_ne (tgt := 35) C dX2_load_28 (by decide) ⟨by omega, by omega⟩ (fun h3 => ?_) (fun h3 => ?_)
    · have kn : zb k = 0 := if_neg (by omega)
      rw [kn]
      refine i_const C dX2_load_35 ?_
      have hFc := va_free (wc := [(hm, .inr (2, MO p a b n key dr th hX hY hR hO sx sy dk dv))]) hD hS hA [0] rfl
      refine cn_V (As := [.int (ii 1), .int (ii (nrF r)), .int (ii 0)]) (rest := []) C (c_X2_good l D z0 _ hm p a b n key dr th hX hY hR hO sx sy dk dv 1 (nrF r) 0 (by omega) nb (by omega)) (pcm_preV _ hN (Zs.on hZ hS hAz) (by have := hS.1; omega) (hP.sub (ws' := [(hm, .inr (2, MO p a b n key dr th hX hY hR hO sx sy dk dv))]) [0] rfl) (hK.sub (tys' := []) [] rfl) ((hD.sub (ws' := [(hm, .inr (2, MO p a b n key dr th hX hY hR hO sx sy dk dv))]) [0] (by decide) rfl).weaken (fun _ _ _ h => hAz _ h)) 0 (ci := 2) rfl rfl) hS hFc aw_b_X2_good aw_m_X2_58 aw_v_X2_good aw_i_X2 aw_e_X2_good ⟨rfl, rfl⟩ 3 (by decide +kernel) rfl ⟨by decide, by decide⟩ hl.1 rfl (Nat.le_of_ble_eq_true rfl) dX2_load_36 ⟨by decide, by decide⟩ (fun t H1 locs1 ht hvm _ hB hz1 hk1 hS => ?_)
      obtain ⟨hP1, hK1, hD1⟩ := hB
      rw [ht] at hP1
      obtain ⟨hP, hD⟩ := va_join (wr := [(hX, .inl (cX, 1100, .inl (fun j => ii ((tx j : Nat) : Int)))), (hY, .inl (cY, 1100, .inl (fun j => ii ((ty j : Nat) : Int)))), (hR, .inl (cR, 4, .inl (fun j => ii ((ix j : Nat) : Int))))]) (w1 := [(hm, .inr (2, MO p a b n key dr (gdF 1 (nrF r) 0) hX hY hR hO sx sy dk dv))]) hP hD [0] [1, 2, 3] rfl rfl (by decide) (by decide) hk1 hFc hP1 hD1
      have hP := hP.sub (ws' := [(hm, .inr (2, MO p a b n key dr (gdF 1 (nrF r) 0) hX hY hR hO sx sy dk dv)), (hX, .inl (cX, 1100, .inl (fun j => ii ((tx j : Nat) : Int)))), (hY, .inl (cY, 1100, .inl (fun j => ii ((ty j : Nat) : Int)))), (hR, .inl (cR, 4, .inl (fun j => ii ((ix j : Nat) : Int))))]) [3, 0, 1, 2] rfl
      have hD := hD.sub (ws' := [(hm, .inr (2, MO p a b n key dr (gdF 1 (nrF r) 0) hX hY hR hO sx sy dk dv)), (hX, .inl (cX, 1100, .inl (fun j => ii ((tx j : Nat) : Int)))), (hY, .inl (cY, 1100, .inl (fun j => ii ((ty j : Nat) : Int)))), (hR, .inl (cR, 4, .inl (fun j => ii ((ix j : Nat) : Int))))]) [3, 0, 1, 2] (by decide) rfl
      have gb := goF_b (gdF 1 (nrF r) 0)
      have g0 := goF_0 (k := gdF 1 (nrF r) 0)
      have gz := gdF_0 (k1 := 1) (k2 := nrF r) (k3 := 0)
      refine i_if_eq (tgt := 50) C dX2_load_39 (by decide) ⟨by omega, by omega⟩ (fun h2 => ?_) (fun h2 => ?_)
      · rw [if_neg (show ¬ gdF 1 (nrF r) 0 = 0 from g0.mp h2)]
        exact pz_v C hr hk hS trivial (fun t ht hvm => ⟨by rw [ht]; exact hP, va_K.moved hvm hK, hD⟩) dX2_load_50 (by decide) (by decide)
      · have e : gdF 1 (nrF r) 0 = 0 := Classical.byContradiction fun z => h2 (g0.mpr z)
        have ez := gz.mp e
        rw [if_pos e]
        omega
    · have kn : zb k = 1 := if_pos (by omega)
      rw [kn]
      refine i_const C dX2_load_31 ?_
      refine lv_goto (tgt := 36) C.1 C.2.1 dX2_load_32 (by decide) ?_
      have hFc := va_free (wc := [(hm, .inr (2, MO p a b n key dr th hX hY hR hO sx sy dk dv))]) hD hS hA [0] rfl
      refine cn_V (As := [.int (ii 1), .int (ii (nrF r)), .int (ii 1)]) (rest := []) C (c_X2_good l D z0 _ hm p a b n key dr th hX hY hR hO sx sy dk dv 1 (nrF r) 1 (by omega) nb (by omega)) (pcm_preV _ hN (Zs.on hZ hS hAz) (by have := hS.1; omega) (hP.sub (ws' := [(hm, .inr (2, MO p a b n key dr th hX hY hR hO sx sy dk dv))]) [0] rfl) (hK.sub (tys' := []) [] rfl) ((hD.sub (ws' := [(hm, .inr (2, MO p a b n key dr th hX hY hR hO sx sy dk dv))]) [0] (by decide) rfl).weaken (fun _ _ _ h => hAz _ h)) 0 (ci := 2) rfl rfl) hS hFc aw_b_X2_good aw_m_X2_58 aw_v_X2_good aw_i_X2 aw_e_X2_good ⟨rfl, rfl⟩ 3 (by decide +kernel) rfl ⟨by decide, by decide⟩ hl.1 rfl (Nat.le_of_ble_eq_true rfl) dX2_load_36 ⟨by decide, by decide⟩ (fun t H1 locs1 ht hvm _ hB hz1 hk1 hS => ?_)
      obtain ⟨hP1, hK1, hD1⟩ := hB
      rw [ht] at hP1
      obtain ⟨hP, hD⟩ := va_join (wr := [(hX, .inl (cX, 1100, .inl (fun j => ii ((tx j : Nat) : Int)))), (hY, .inl (cY, 1100, .inl (fun j => ii ((ty j : Nat) : Int)))), (hR, .inl (cR, 4, .inl (fun j => ii ((ix j : Nat) : Int))))]) (w1 := [(hm, .inr (2, MO p a b n key dr (gdF 1 (nrF r) 1) hX hY hR hO sx sy dk dv))]) hP hD [0] [1, 2, 3] rfl rfl (by decide) (by decide) hk1 hFc hP1 hD1
      have hP := hP.sub (ws' := [(hm, .inr (2, MO p a b n key dr (gdF 1 (nrF r) 1) hX hY hR hO sx sy dk dv)), (hX, .inl (cX, 1100, .inl (fun j => ii ((tx j : Nat) : Int)))), (hY, .inl (cY, 1100, .inl (fun j => ii ((ty j : Nat) : Int)))), (hR, .inl (cR, 4, .inl (fun j => ii ((ix j : Nat) : Int))))]) [3, 0, 1, 2] rfl
      have hD := hD.sub (ws' := [(hm, .inr (2, MO p a b n key dr (gdF 1 (nrF r) 1) hX hY hR hO sx sy dk dv)), (hX, .inl (cX, 1100, .inl (fun j => ii ((tx j : Nat) : Int)))), (hY, .inl (cY, 1100, .inl (fun j => ii ((ty j : Nat) : Int)))), (hR, .inl (cR, 4, .inl (fun j => ii ((ix j : Nat) : Int))))]) [3, 0, 1, 2] (by decide) rfl
      have gb := goF_b (gdF 1 (nrF r) 1)
      have g0 := goF_0 (k := gdF 1 (nrF r) 1)
      have gz := gdF_0 (k1 := 1) (k2 := nrF r) (k3 := 1)
      refine i_if_eq (tgt := 50) C dX2_load_39 (by decide) ⟨by omega, by omega⟩ (fun h2 => ?_) (fun h2 => ?_)
      · rw [if_neg (show ¬ gdF 1 (nrF r) 1 = 0 from g0.mp h2)]
        exact pz_v C hr hk hS trivial (fun t ht hvm => ⟨by rw [ht]; exact hP, va_K.moved hvm hK, hD⟩) dX2_load_50 (by decide) (by decide)
      · have e : gdF 1 (nrF r) 1 = 0 := Classical.byContradiction fun z => h2 (g0.mpr z)
        have ez := gz.mp e
        rw [if_pos e]
        omega
set_option maxRecDepth 100000 in
set_option maxHeartbeats 4000000 in
theorem c_X2_decode (l : Launch) (D : va_G) (z0 sz : Nat) (hm : Nat) (p a b : Int) (n : Nat) (key dr th : Int) (hX hY hR hO : Nat) (sx sy dk dv : Int32) (cX cY cR : ClassId) (tx ty ix : Nat → Nat) (hT : ∀ j, tx j ≤ 1020 ∧ ty j ≤ 1020) (hI : ∀ j, ix j ≤ 1099) (hn : n ≤ 1100) (r k z : Int) (hr1 : rg r) (hk1 : rg k) (hz1 : rl z) : Met l yX2_decode (Cond.code yX2_decode cX2_decode 6 none :: AW) ({ frames := 2, cells := 0, slots := 0, locals := 60 } : Room) (PcM D z0 sz [(hm, .inr (2, MO p a b n key dr th hX hY hR hO sx sy dk dv)), (hX, .inl (cX, 1100, .inl (fun j => ii ((tx j : Nat) : Int)))), (hY, .inl (cY, 1100, .inl (fun j => ii ((ty j : Nat) : Int)))), (hR, .inl (cR, 4, .inl (fun j => ii ((ix j : Nat) : Int))))] [(cX, .int), (cY, .int), (cR, .int)] [.ref hm, .int (ii r), .int (ii k), .long (li z)]) (QcM none True (Wd D (if gdF (zb n) (nrF r) (ng1 (reF tx ty n k z)) = 0 then [(hm, .inr (2, MO p a b n key dr (gdF (zb n) (nrF r) (ng1 (reF tx ty n k z))) hX hY hR hO sx sy dk dv)), (hX, .inl (cX, 1100, .inl (fun j => ii ((tx j : Nat) : Int)))), (hY, .inl (cY, 1100, .inl (fun j => ii ((ty j : Nat) : Int)))), (hR, .inl (cR, 4, .inl (fun j => ii (((va_up ix r.toNat (reF tx ty n k z).toNat) j : Nat) : Int))))] else [(hm, .inr (2, MO p a b n key dr (gdF (zb n) (nrF r) (ng1 (reF tx ty n k z))) hX hY hR hO sx sy dk dv)), (hX, .inl (cX, 1100, .inl (fun j => ii ((tx j : Nat) : Int)))), (hY, .inl (cY, 1100, .inl (fun j => ii ((ty j : Nat) : Int)))), (hR, .inl (cR, 4, .inl (fun j => ii ((ix j : Nat) : Int))))]) [(cX, .int), (cY, .int), (cR, .int)] (va_A [(hm, .inr (2, MO p a b n key dr th hX hY hR hO sx sy dk dv)), (hX, .inl (cX, 1100, .inl (fun j => ii ((tx j : Nat) : Int)))), (hY, .inl (cY, 1100, .inl (fun j => ii ((ty j : Nat) : Int)))), (hR, .inl (cR, 4, .inl (fun j => ii ((ix j : Nat) : Int))))] sz)) (va_A [(hm, .inr (2, MO p a b n key dr th hX hY hR hO sx sy dk dv)), (hX, .inl (cX, 1100, .inl (fun j => ii ((tx j : Nat) : Int)))), (hY, .inl (cY, 1100, .inl (fun j => ii ((ty j : Nat) : Int)))), (hR, .inl (cR, 4, .inl (fun j => ii ((ix j : Nat) : Int))))] sz)) 0 0 (va_A [(hm, .inr (2, MO p a b n key dr th hX hY hR hO sx sy dk dv)), (hX, .inl (cX, 1100, .inl (fun j => ii ((tx j : Nat) : Int)))), (hY, .inl (cY, 1100, .inl (fun j => ii ((ty j : Nat) : Int)))), (hR, .inl (cR, 4, .inl (fun j => ii ((ix j : Nat) : Int))))] sz) := by
  refine mt_N (by decide +kernel) (Nat.le_of_ble_eq_true rfl) ?_
  intro P0 E0 S0 M0 A0 B0 T0 K0 C hN hZ hsz hz hP hK hD hAz hA hr hk hin ls hl
  have hl : lv_has ls 6 [(0, .ref hm), (1, .int (ii r)), (2, .int (ii k)), (3, .long (li z))] := hl
  generalize hAe : va_A [(hm, .inr (2, MO p a b n key dr th hX hY hR hO sx sy dk dv)), (hX, .inl (cX, 1100, .inl (fun j => ii ((tx j : Nat) : Int)))), (hY, .inl (cY, 1100, .inl (fun j => ii ((ty j : Nat) : Int)))), (hR, .inl (cR, 4, .inl (fun j => ii ((ix j : Nat) : Int))))] sz = A at hD hAz hA ⊢
  have hS : va_S A S0.heap S0.heap [] := va_S.rf
  have nb := nrF_b r
  have n0 := nrF_0 (r := r)
  unfold okr at n0
  have fb := reF_b tx ty n hn k z
  refine lv_aload_n C.1 C.2.1 dX2_decode_0 rfl (lv_at hl 0 rfl) ?_
  refine lv_iload_n C.1 C.2.1 dX2_decode_1 rfl (lv_at hl 2 rfl) ?_
  refine lv_lload_n C.1 C.2.1 dX2_decode_2 rfl (lv_at hl 3 rfl) ?_
  refine ca_V (As := [.int (ii k), .long (li z)]) (rest := []) C (c_X2_read l D hm p a b n key dr th hX hY hR hO sx sy dk dv cX cY tx ty hT hn k z hk1 hz1) (pcw_preV [.int (ii k), .long (li z)] hN (hP.sub (ws' := [(hm, .inr (2, MO p a b n key dr th hX hY hR hO sx sy dk dv)), (hX, .inl (cX, 1100, .inl (fun j => ii ((tx j : Nat) : Int)))), (hY, .inl (cY, 1100, .inl (fun j => ii ((ty j : Nat) : Int))))]) [0, 1, 2] rfl) (hK.sub (tys' := [(cX, .int), (cY, .int)]) [0, 1] rfl) 0 (ci := 2) rfl rfl) aw_b_X2_read aw_m_X2_98 aw_v_X2_read aw_i_X2 aw_e_X2_read ⟨rfl, rfl⟩ 2 (by decide +kernel) rfl ⟨by decide, by decide⟩ hl.1 rfl (Nat.le_of_ble_eq_true rfl) dX2_decode_3 ⟨by decide, by decide⟩ ?_
  generalize reF tx ty n k z = u at fb ⊢
  refine lv_istore C.1 C.2.1 dX2_decode_6 hl (by decide) rfl (fun ls hl => ?_)
  have hl : lv_has ls 6 [(5, .int (ii u)), (0, .ref hm), (1, .int (ii r)), (2, .int (ii k)), (3, .long (li z))] := hl
  refine lv_aload_n C.1 C.2.1 dX2_decode_8 rfl (lv_at hl 1 rfl) ?_
  refine lv_aload_n C.1 C.2.1 dX2_decode_9 rfl (lv_at hl 1 rfl) ?_
  refine gf C hK hP 0 rfl rfl aw_uX2 3 (by decide) aw_f_X2_65 rfl dX2_decode_10 ?_
  refine i_if_ne (tgt := 20) C dX2_decode_13 (by decide) ⟨by omega, by omega⟩ (fun h1 => ?_) (fun h1 => ?_)
  · have zn : zb n = 0 := if_neg (by omega)
    rw [zn]
    refine i_const C dX2_decode_20 ?_
    refine lv_aload_n C.1 C.2.1 dX2_decode_21 rfl (lv_at hl 1 rfl) ?_
    refine lv_iload_n C.1 C.2.1 dX2_decode_22 rfl (lv_at hl 2 rfl) ?_
    refine ca_V (As := [.int (ii r)]) (rest := [.int (ii 0), .ref hm]) C (c_X2_noRegister l D hm r hr1) (pcw_preV0 [.int (ii r)] hN hP hK 0 (ci := 2) rfl rfl) aw_b_X2_noRegister aw_m_X2_81 aw_v_X2_noRegister aw_i_X2 aw_e_X2_noRegister ⟨rfl, rfl⟩ 1 (by decide +kernel) rfl ⟨by decide, by decide⟩ hl.1 rfl (Nat.le_of_ble_eq_true rfl) dX2_decode_23 ⟨by decide, by decide⟩ ?_
    refine lv_iload C.1 C.2.1 dX2_decode_26 (lv_at hl 0 rfl) ?_
    refine i_if_ge (tgt := 35) C dX2_decode_28 (by decide) ⟨by omega, by omega⟩ (fun h3 => ?_) (fun h3 => ?_)
    · have kn : ng1 u = 0 := if_neg (by omega)
      rw [kn]
      refine i_const C dX2_decode_35 ?_
      have hFc := va_free (wc := [(hm, .inr (2, MO p a b n key dr th hX hY hR hO sx sy dk dv))]) hD hS hA [0] rfl
      refine cn_V (As := [.int (ii 0), .int (ii (nrF r)), .int (ii 0)]) (rest := []) C (c_X2_good l D z0 _ hm p a b n key dr th hX hY hR hO sx sy dk dv 0 (nrF r) 0 (by omega) nb (by omega)) (pcm_preV _ hN (Zs.on hZ hS hAz) (by have := hS.1; omega) (hP.sub (ws' := [(hm, .inr (2, MO p a b n key dr th hX hY hR hO sx sy dk dv))]) [0] rfl) (hK.sub (tys' := []) [] rfl) ((hD.sub (ws' := [(hm, .inr (2, MO p a b n key dr th hX hY hR hO sx sy dk dv))]) [0] (by decide) rfl).weaken (fun _ _ _ h => hAz _ h)) 0 (ci := 2) rfl rfl) hS hFc aw_b_X2_good aw_m_X2_58 aw_v_X2_good aw_i_X2 aw_e_X2_good ⟨rfl, rfl⟩ 3 (by decide +kernel) rfl ⟨by decide, by decide⟩ hl.1 rfl (Nat.le_of_ble_eq_true rfl) dX2_decode_36 ⟨by decide, by decide⟩ (fun t H1 locs1 ht hvm _ hB hz1 hk1 hS => ?_)
      obtain ⟨hP1, hK1, hD1⟩ := hB
      rw [ht] at hP1
      obtain ⟨hP, hD⟩ := va_join (wr := [(hX, .inl (cX, 1100, .inl (fun j => ii ((tx j : Nat) : Int)))), (hY, .inl (cY, 1100, .inl (fun j => ii ((ty j : Nat) : Int)))), (hR, .inl (cR, 4, .inl (fun j => ii ((ix j : Nat) : Int))))]) (w1 := [(hm, .inr (2, MO p a b n key dr (gdF 0 (nrF r) 0) hX hY hR hO sx sy dk dv))]) hP hD [0] [1, 2, 3] rfl rfl (by decide) (by decide) hk1 hFc hP1 hD1
      have hP := hP.sub (ws' := [(hm, .inr (2, MO p a b n key dr (gdF 0 (nrF r) 0) hX hY hR hO sx sy dk dv)), (hX, .inl (cX, 1100, .inl (fun j => ii ((tx j : Nat) : Int)))), (hY, .inl (cY, 1100, .inl (fun j => ii ((ty j : Nat) : Int)))), (hR, .inl (cR, 4, .inl (fun j => ii ((ix j : Nat) : Int))))]) [3, 0, 1, 2] rfl
      have hD := hD.sub (ws' := [(hm, .inr (2, MO p a b n key dr (gdF 0 (nrF r) 0) hX hY hR hO sx sy dk dv)), (hX, .inl (cX, 1100, .inl (fun j => ii ((tx j : Nat) : Int)))), (hY, .inl (cY, 1100, .inl (fun j => ii ((ty j : Nat) : Int)))), (hR, .inl (cR, 4, .inl (fun j => ii ((ix j : Nat) : Int))))]) [3, 0, 1, 2] (by decide) rfl
      have gb := goF_b (gdF 0 (nrF r) 0)
      have g0 := goF_0 (k := gdF 0 (nrF r) 0)
      have gz := gdF_0 (k1 := 0) (k2 := nrF r) (k3 := 0)
      refine i_if_eq (tgt := 50) C dX2_decode_39 (by decide) ⟨by omega, by omega⟩ (fun h2 => ?_) (fun h2 => ?_)
      · rw [if_neg (show ¬ gdF 0 (nrF r) 0 = 0 from g0.mp h2)]
        exact pz_v C hr hk hS trivial (fun t ht hvm => ⟨by rw [ht]; exact hP, va_K.moved hvm hK, hD⟩) dX2_decode_50 (by decide) (by decide)
      · have e : gdF 0 (nrF r) 0 = 0 := Classical.byContradiction fun z => h2 (g0.mpr z)
        have ez := gz.mp e
        rw [if_pos e]
        refine lv_aload_n C.1 C.2.1 dX2_decode_42 rfl (lv_at hl 1 rfl) ?_
        refine gf C hK hP 0 rfl rfl aw_uX2 9 (by decide) aw_f_X2_16 rfl dX2_decode_43 ?_
        refine lv_iload_n C.1 C.2.1 dX2_decode_46 rfl (lv_at hl 2 rfl) ?_
        refine lv_iload C.1 C.2.1 dX2_decode_47 (lv_at hl 0 rfl) ?_
        refine i_top (b := ((u.toNat : Nat) : Int)) (by omega) ?_
        refine i_ast C hK hP hD hS 3 2 rfl rfl r.toNat (by omega) (by omega) (by omega) dX2_decode_49 (fun H1 locs1 hP hD hS => ?_)
        rw [show va_up (fun j => ii ((ix j : Nat) : Int)) r.toNat (ii ((u.toNat : Nat) : Int)) = fun j => ii ((va_up ix r.toNat u.toNat j : Nat) : Int) from up_I ix r.toNat u.toNat] at hP hD
        have hP : va_P D clX [(hm, .inr (2, MO p a b n key dr (gdF 0 (nrF r) 0) hX hY hR hO sx sy dk dv)), (hX, .inl (cX, 1100, .inl (fun j => ii ((tx j : Nat) : Int)))), (hY, .inl (cY, 1100, .inl (fun j => ii ((ty j : Nat) : Int)))), (hR, .inl (cR, 4, .inl (fun j => ii (((va_up ix r.toNat u.toNat) j : Nat) : Int))))] H1 := hP
        have hD : va_D A [(hm, .inr (2, MO p a b n key dr (gdF 0 (nrF r) 0) hX hY hR hO sx sy dk dv)), (hX, .inl (cX, 1100, .inl (fun j => ii ((tx j : Nat) : Int)))), (hY, .inl (cY, 1100, .inl (fun j => ii ((ty j : Nat) : Int)))), (hR, .inl (cR, 4, .inl (fun j => ii (((va_up ix r.toNat u.toNat) j : Nat) : Int))))] := hD
        exact pz_v C hr hk hS trivial (fun t ht hvm => ⟨by rw [ht]; exact hP, va_K.moved hvm hK, hD⟩) dX2_decode_50 (by decide) (by decide)
    · have kn : ng1 u = 1 := if_pos (by omega)
      rw [kn]
      refine i_const C dX2_decode_31 ?_
      refine lv_goto (tgt := 36) C.1 C.2.1 dX2_decode_32 (by decide) ?_
      have hFc := va_free (wc := [(hm, .inr (2, MO p a b n key dr th hX hY hR hO sx sy dk dv))]) hD hS hA [0] rfl
      refine cn_V (As := [.int (ii 0), .int (ii (nrF r)), .int (ii 1)]) (rest := []) C (c_X2_good l D z0 _ hm p a b n key dr th hX hY hR hO sx sy dk dv 0 (nrF r) 1 (by omega) nb (by omega)) (pcm_preV _ hN (Zs.on hZ hS hAz) (by have := hS.1; omega) (hP.sub (ws' := [(hm, .inr (2, MO p a b n key dr th hX hY hR hO sx sy dk dv))]) [0] rfl) (hK.sub (tys' := []) [] rfl) ((hD.sub (ws' := [(hm, .inr (2, MO p a b n key dr th hX hY hR hO sx sy dk dv))]) [0] (by decide) rfl).weaken (fun _ _ _ h => hAz _ h)) 0 (ci := 2) rfl rfl) hS hFc aw_b_X2_good aw_m_X2_58 aw_v_X2_good aw_i_X2 aw_e_X2_good ⟨rfl, rfl⟩ 3 (by decide +kernel) rfl ⟨by decide, by decide⟩ hl.1 rfl (Nat.le_of_ble_eq_true rfl) dX2_decode_36 ⟨by decide, by decide⟩ (fun t H1 locs1 ht hvm _ hB hz1 hk1 hS => ?_)
      obtain ⟨hP1, hK1, hD1⟩ := hB
      rw [ht] at hP1
      obtain ⟨hP, hD⟩ := va_join (wr := [(hX, .inl (cX, 1100, .inl (fun j => ii ((tx j : Nat) : Int)))), (hY, .inl (cY, 1100, .inl (fun j => ii ((ty j : Nat) : Int)))), (hR, .inl (cR, 4, .inl (fun j => ii ((ix j : Nat) : Int))))]) (w1 := [(hm, .inr (2, MO p a b n key dr (gdF 0 (nrF r) 1) hX hY hR hO sx sy dk dv))]) hP hD [0] [1, 2, 3] rfl rfl (by decide) (by decide) hk1 hFc hP1 hD1
      have hP := hP.sub (ws' := [(hm, .inr (2, MO p a b n key dr (gdF 0 (nrF r) 1) hX hY hR hO sx sy dk dv)), (hX, .inl (cX, 1100, .inl (fun j => ii ((tx j : Nat) : Int)))), (hY, .inl (cY, 1100, .inl (fun j => ii ((ty j : Nat) : Int)))), (hR, .inl (cR, 4, .inl (fun j => ii ((ix j : Nat) : Int))))]) [3, 0, 1, 2] rfl
      have hD := hD.sub (ws' := [(hm, .inr (2, MO p a b n key dr (gdF 0 (nrF r) 1) hX hY hR hO sx sy dk dv)), (hX, .inl (cX, 1100, .inl (fun j => ii ((tx j : Nat) : Int)))), (hY, .inl (cY, 1100, .inl (fun j => ii ((ty j : Nat) : Int)))), (hR, .inl (cR, 4, .inl (fun j => ii ((ix j : Nat) : Int))))]) [3, 0, 1, 2] (by decide) rfl
      have gb := goF_b (gdF 0 (nrF r) 1)
      have g0 := goF_0 (k := gdF 0 (nrF r) 1)
      have gz := gdF_0 (k1 := 0) (k2 := nrF r) (k3 := 1)
      refine i_if_eq (tgt := 50) C dX2_decode_39 (by decide) ⟨by omega, by omega⟩ (fun h2 => ?_) (fun h2 => ?_)
      · rw [if_neg (show ¬ gdF 0 (nrF r) 1 = 0 from g0.mp h2)]
        exact pz_v C hr hk hS trivial (fun t ht hvm => ⟨by rw [ht]; exact hP, va_K.moved hvm hK, hD⟩) dX2_decode_50 (by decide) (by decide)
      · have e : gdF 0 (nrF r) 1 = 0 := Classical.byContradiction fun z => h2 (g0.mpr z)
        have ez := gz.mp e
        rw [if_pos e]
        omega
  · have zn : zb n = 1 := if_pos (by omega)
    rw [zn]
    refine i_const C dX2_decode_16 ?_
    refine lv_goto (tgt := 21) C.1 C.2.1 dX2_decode_17 (by decide) ?_
    refine lv_aload_n C.1 C.2.1 dX2_decode_21 rfl (lv_at hl 1 rfl) ?_
    refine lv_iload_n C.1 C.2.1 dX2_decode_22 rfl (lv_at hl 2 rfl) ?_
    refine ca_V (As := [.int (ii r)]) (rest := [.int (ii 1), .ref hm]) C (c_X2_noRegister l D hm r hr1) (pcw_preV0 [.int (ii r)] hN hP hK 0 (ci := 2) rfl rfl) aw_b_X2_noRegister aw_m_X2_81 aw_v_X2_noRegister aw_i_X2 aw_e_X2_noRegister ⟨rfl, rfl⟩ 1 (by decide +kernel) rfl ⟨by decide, by decide⟩ hl.1 rfl (Nat.le_of_ble_eq_true rfl) dX2_decode_23 ⟨by decide, by decide⟩ ?_
    refine lv_iload C.1 C.2.1 dX2_decode_26 (lv_at hl 0 rfl) ?_
    refine i_if_ge (tgt := 35) C dX2_decode_28 (by decide) ⟨by omega, by omega⟩ (fun h3 => ?_) (fun h3 => ?_)
    · have kn : ng1 u = 0 := if_neg (by omega)
      rw [kn]
      refine i_const C dX2_decode_35 ?_
      have hFc := va_free (wc := [(hm, .inr (2, MO p a b n key dr th hX hY hR hO sx sy dk dv))]) hD hS hA [0] rfl
      refine cn_V (As := [.int (ii 1), .int (ii (nrF r)), .int (ii 0)]) (rest := []) C (c_X2_good l D z0 _ hm p a b n key dr th hX hY hR hO sx sy dk dv 1 (nrF r) 0 (by omega) nb (by omega)) (pcm_preV _ hN (Zs.on hZ hS hAz) (by have := hS.1; omega) (hP.sub (ws' := [(hm, .inr (2, MO p a b n key dr th hX hY hR hO sx sy dk dv))]) [0] rfl) (hK.sub (tys' := []) [] rfl) ((hD.sub (ws' := [(hm, .inr (2, MO p a b n key dr th hX hY hR hO sx sy dk dv))]) [0] (by decide) rfl).weaken (fun _ _ _ h => hAz _ h)) 0 (ci := 2) rfl rfl) hS hFc aw_b_X2_good aw_m_X2_58 aw_v_X2_good aw_i_X2 aw_e_X2_good ⟨rfl, rfl⟩ 3 (by decide +kernel) rfl ⟨by decide, by decide⟩ hl.1 rfl (Nat.le_of_ble_eq_true rfl) dX2_decode_36 ⟨by decide, by decide⟩ (fun t H1 locs1 ht hvm _ hB hz1 hk1 hS => ?_)
      obtain ⟨hP1, hK1, hD1⟩ := hB
      rw [ht] at hP1
      obtain ⟨hP, hD⟩ := va_join (wr := [(hX, .inl (cX, 1100, .inl (fun j => ii ((tx j : Nat) : Int)))), (hY, .inl (cY, 1100, .inl (fun j => ii ((ty j : Nat) : Int)))), (hR, .inl (cR, 4, .inl (fun j => ii ((ix j : Nat) : Int))))]) (w1 := [(hm, .inr (2, MO p a b n key dr (gdF 1 (nrF r) 0) hX hY hR hO sx sy dk dv))]) hP hD [0] [1, 2, 3] rfl rfl (by decide) (by decide) hk1 hFc hP1 hD1
      have hP := hP.sub (ws' := [(hm, .inr (2, MO p a b n key dr (gdF 1 (nrF r) 0) hX hY hR hO sx sy dk dv)), (hX, .inl (cX, 1100, .inl (fun j => ii ((tx j : Nat) : Int)))), (hY, .inl (cY, 1100, .inl (fun j => ii ((ty j : Nat) : Int)))), (hR, .inl (cR, 4, .inl (fun j => ii ((ix j : Nat) : Int))))]) [3, 0, 1, 2] rfl
      have hD := hD.sub (ws' := [(hm, .inr (2, MO p a b n key dr (gdF 1 (nrF r) 0) hX hY hR hO sx sy dk dv)), (hX, .inl (cX, 1100, .inl (fun j => ii ((tx j : Nat) : Int)))), (hY, .inl (cY, 1100, .inl (fun j => ii ((ty j : Nat) : Int)))), (hR, .inl (cR, 4, .inl (fun j => ii ((ix j : Nat) : Int))))]) [3, 0, 1, 2] (by decide) rfl
      have gb := goF_b (gdF 1 (nrF r) 0)
      have g0 := goF_0 (k := gdF 1 (nrF r) 0)
      have gz := gdF_0 (k1 := 1) (k2 := nrF r) (k3 := 0)
      refine i_if_eq (tgt := 50) C dX2_decode_39 (by decide) ⟨by omega, by omega⟩ (fun h2 => ?_) (fun h2 => ?_)
      · rw [if_neg (show ¬ gdF 1 (nrF r) 0 = 0 from g0.mp h2)]
        exact pz_v C hr hk hS trivial (fun t ht hvm => ⟨by rw [ht]; exact hP, va_K.moved hvm hK, hD⟩) dX2_decode_50 (by decide) (by decide)
      · have e : gdF 1 (nrF r) 0 = 0 := Classical.byContradiction fun z => h2 (g0.mpr z)
        have ez := gz.mp e
        rw [if_pos e]
        omega
    · have kn : ng1 u = 1 := if_pos (by omega)
      rw [kn]
      refine i_const C dX2_decode_31 ?_
      refine lv_goto (tgt := 36) C.1 C.2.1 dX2_decode_32 (by decide) ?_
      have hFc := va_free (wc := [(hm, .inr (2, MO p a b n key dr th hX hY hR hO sx sy dk dv))]) hD hS hA [0] rfl
      refine cn_V (As := [.int (ii 1), .int (ii (nrF r)), .int (ii 1)]) (rest := []) C (c_X2_good l D z0 _ hm p a b n key dr th hX hY hR hO sx sy dk dv 1 (nrF r) 1 (by omega) nb (by omega)) (pcm_preV _ hN (Zs.on hZ hS hAz) (by have := hS.1; omega) (hP.sub (ws' := [(hm, .inr (2, MO p a b n key dr th hX hY hR hO sx sy dk dv))]) [0] rfl) (hK.sub (tys' := []) [] rfl) ((hD.sub (ws' := [(hm, .inr (2, MO p a b n key dr th hX hY hR hO sx sy dk dv))]) [0] (by decide) rfl).weaken (fun _ _ _ h => hAz _ h)) 0 (ci := 2) rfl rfl) hS hFc aw_b_X2_good aw_m_X2_58 aw_v_X2_good aw_i_X2 aw_e_X2_good ⟨rfl, rfl⟩ 3 (by decide +kernel) rfl ⟨by decide, by decide⟩ hl.1 rfl (Nat.le_of_ble_eq_true rfl) dX2_decode_36 ⟨by decide, by decide⟩ (fun t H1 locs1 ht hvm _ hB hz1 hk1 hS => ?_)
      obtain ⟨hP1, hK1, hD1⟩ := hB
      rw [ht] at hP1
      obtain ⟨hP, hD⟩ := va_join (wr := [(hX, .inl (cX, 1100, .inl (fun j => ii ((tx j : Nat) : Int)))), (hY, .inl (cY, 1100, .inl (fun j => ii ((ty j : Nat) : Int)))), (hR, .inl (cR, 4, .inl (fun j => ii ((ix j : Nat) : Int))))]) (w1 := [(hm, .inr (2, MO p a b n key dr (gdF 1 (nrF r) 1) hX hY hR hO sx sy dk dv))]) hP hD [0] [1, 2, 3] rfl rfl (by decide) (by decide) hk1 hFc hP1 hD1
      have hP := hP.sub (ws' := [(hm, .inr (2, MO p a b n key dr (gdF 1 (nrF r) 1) hX hY hR hO sx sy dk dv)), (hX, .inl (cX, 1100, .inl (fun j => ii ((tx j : Nat) : Int)))), (hY, .inl (cY, 1100, .inl (fun j => ii ((ty j : Nat) : Int)))), (hR, .inl (cR, 4, .inl (fun j => ii ((ix j : Nat) : Int))))]) [3, 0, 1, 2] rfl
      have hD := hD.sub (ws' := [(hm, .inr (2, MO p a b n key dr (gdF 1 (nrF r) 1) hX hY hR hO sx sy dk dv)), (hX, .inl (cX, 1100, .inl (fun j => ii ((tx j : Nat) : Int)))), (hY, .inl (cY, 1100, .inl (fun j => ii ((ty j : Nat) : Int)))), (hR, .inl (cR, 4, .inl (fun j => ii ((ix j : Nat) : Int))))]) [3, 0, 1, 2] (by decide) rfl
      have gb := goF_b (gdF 1 (nrF r) 1)
      have g0 := goF_0 (k := gdF 1 (nrF r) 1)
      have gz := gdF_0 (k1 := 1) (k2 := nrF r) (k3 := 1)
      refine i_if_eq (tgt := 50) C dX2_decode_39 (by decide) ⟨by omega, by omega⟩ (fun h2 => ?_) (fun h2 => ?_)
      · rw [if_neg (show ¬ gdF 1 (nrF r) 1 = 0 from g0.mp h2)]
        exact pz_v C hr hk hS trivial (fun t ht hvm => ⟨by rw [ht]; exact hP, va_K.moved hvm hK, hD⟩) dX2_decode_50 (by decide) (by decide)
      · have e : gdF 1 (nrF r) 1 = 0 := Classical.byContradiction fun z => h2 (g0.mpr z)
        have ez := gz.mp e
        rw [if_pos e]
        omega
