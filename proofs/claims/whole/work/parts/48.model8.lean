/-! The reference: curve, its constructor. By wip/whole/tools/gen20.py. -/
def adF (p a : Nat) (P Q : Nat × Nat) : Nat × Nat := ((axF (p : Int) (a : Int) (P.1 : Int) (P.2 : Int) (Q.1 : Int) (Q.2 : Int)).toNat, (ayF (p : Int) (a : Int) (P.1 : Int) (P.2 : Int) (Q.1 : Int) (Q.2 : Int)).toNat)
/-- the reference's table of multiples -/
def tpF (p a x y : Nat) : Nat → Nat × Nat
  | 0 => (0, 0)
  | 1 => (x, y)
  | j + 2 => adF p a (tpF p a x y (j + 1)) (x, y)
theorem tpF_b {p a x y : Nat} (hp : 0 < p) (hx : x < p) (hy : y < p) : ∀ j, (tpF p a x y j).1 < p ∧ (tpF p a x y j).2 < p
  | 0 => ⟨hp, hp⟩
  | 1 => ⟨hx, hy⟩
  | j + 2 => by
    have h1 := axF_b (p : Int) (a : Int) ((tpF p a x y (j + 1)).1 : Int) ((tpF p a x y (j + 1)).2 : Int) (x : Int) (y : Int) (by omega)
    have h2 := ayF_b (p : Int) (a : Int) ((tpF p a x y (j + 1)).1 : Int) ((tpF p a x y (j + 1)).2 : Int) (x : Int) (y : Int) (by omega)
    show (axF (p : Int) (a : Int) ((tpF p a x y (j + 1)).1 : Int) ((tpF p a x y (j + 1)).2 : Int) (x : Int) (y : Int)).toNat < p ∧ (ayF (p : Int) (a : Int) ((tpF p a x y (j + 1)).1 : Int) ((tpF p a x y (j + 1)).2 : Int) (x : Int) (y : Int)).toNat < p
    omega
theorem tpF_s (p a x y j : Nat) (h : 1 ≤ j) : tpF p a x y (j + 1) = adF p a (tpF p a x y j) (x, y) := by
  cases j with
  | zero => omega
  | succ j => rfl
theorem fxF_b {p a b : Nat} : ∀ (f x : Nat), x < p → fxF p a b f x < p
  | 0, _, h => h
  | f + 1, x, h => by
    rw [fxF_s]
    split
    · exact h
    · split
      · exact fxF_b f (x + 1) (by omega)
      · exact h
theorem fyF_b {p c : Nat} : ∀ (f y : Nat), y < p → fyF p c f y < p
  | 0, _, h => h
  | f + 1, y, h => by
    rw [fyF_s]
    split
    · exact h
    · split
      · exact h
      · exact fyF_b f (y + 1) (by omega)
theorem bxF_b {p a b : Nat} (hp : 0 < p) : bxF p a b < p := fxF_b 1100 0 hp
theorem byF_b {p a b : Nat} (hp : 0 < p) : byF p a b < p := fyF_b 1100 0 hp
def tbX (F tx : Nat → Nat) (i : Nat) : Nat → Nat := fun j => if 1 ≤ j ∧ j < i then F j else tx j
theorem tbX_at {F tx : Nat → Nat} {i j : Nat} (h1 : 1 ≤ j) (h2 : j < i) : tbX F tx i j = F j := if_pos ⟨h1, h2⟩
theorem tbX_1 (F tx : Nat → Nat) : tbX F tx 1 = tx := by
  funext j
  exact if_neg (by omega)
theorem tbX_up (F tx : Nat → Nat) {i : Nat} (h : 1 ≤ i) : va_up (tbX F tx i) i (F i) = tbX F tx (i + 1) := by
  funext j
  unfold va_up tbX
  by_cases e : j = i
  · subst e
    rw [if_pos (by first | rfl | simp), if_pos (by omega)]
  · rw [if_neg (by first | exact e | exact fun z => e z.symm | simpa using e)]
    by_cases e2 : 1 ≤ j ∧ j < i
    · rw [if_pos e2, if_pos (by omega)]
    · rw [if_neg e2, if_neg (by omega)]
/-- 0: the curve is taken -/
noncomputable def cvF (pp aa bb : Int) : Int := if coF pp aa bb < 3 then 1 else if pmF (coF pp aa bb) 1100 2 (if coF pp aa bb < 2 then 0 else 1) = 0 then 1 else 0
theorem coF_le (pp aa bb : Int) : coF pp aa bb ≤ 1042442 := by
  unfold coF
  split
  · omega
  · rename_i h
    unfold crF at h
    have h1 : ¬ pp < 5 := fun z => h (if_pos z)
    rw [if_neg h1] at h
    have h2 : ¬ 1021 < pp := fun z => h (if_pos z)
    rw [← cs_cnt]
    have c1 := cs_le pp.toNat aa.toNat bb.toNat pp.toNat
    have c2 := Nat.mul_le_mul (show pp.toNat ≤ 1021 by omega) (show pp.toNat ≤ 1021 by omega)
    omega
theorem crF_1 {p a b : Int} (h : crF p a b ≠ 0) : 5 ≤ p ∧ p ≤ 1021 ∧ 0 ≤ a ∧ a < p ∧ 0 ≤ b ∧ b < p ∧ pmF p.toNat 1100 2 (if p.toNat < 2 then 0 else 1) ≠ 0 ∧ (4 * a * a * a + 27 * b * b) % p ≠ 0 := by
  unfold crF at h
  have h1 : ¬ p < 5 := fun z => h (if_pos z)
  rw [if_neg h1] at h
  have h2 : ¬ 1021 < p := fun z => h (if_pos z)
  rw [if_neg h2] at h
  have h3 : ¬ pmF p.toNat 1100 2 (if p.toNat < 2 then 0 else 1) = 0 := fun z => h (if_pos z)
  rw [if_neg h3] at h
  have h4 : ¬ a < 0 := fun z => h (if_pos z)
  rw [if_neg h4] at h
  have h5 : ¬ p ≤ a := fun z => h (if_pos z)
  rw [if_neg h5] at h
  have h6 : ¬ b < 0 := fun z => h (if_pos z)
  rw [if_neg h6] at h
  have h7 : ¬ p ≤ b := fun z => h (if_pos z)
  rw [if_neg h7] at h
  have h8 : ¬ (4 * a * a * a + 27 * b * b) % p = 0 := fun z => h (if_pos z)
  exact ⟨by omega, by omega, by omega, by omega, by omega, by omega, h3, h8⟩
set_option maxRecDepth 100000 in
set_option maxHeartbeats 4000000 in
theorem c_X2_curve (l : Launch) (D : va_G) (z0 sz : Nat) (hm : Nat) (p a b : Int) (n : Nat) (key dr th : Int) (hX hY hR hO : Nat) (sx sy dk dv : Int32) (cX cY cR cO : ClassId) (tx ty ix : Nat → Nat) (g0 : Nat → Int32) (pp aa bb : Int) (hp1 : rg pp) (ha1 : rg aa) (hb1 : rg bb) (hle : crF pp aa bb ≠ 0 → coF pp aa bb ≤ 1100) : Met l yX2_curve (Cond.code yX2_curve cX2_curve 6 (some .int) :: AW) ({ frames := 2, cells := 0, slots := 0, locals := 60 } : Room) (PcM D z0 sz [(hm, .inr (2, MO p a b n key dr th hX hY hR hO sx sy dk dv)), (hX, .inl (cX, 1100, .inl (fun j => ii ((tx j : Nat) : Int)))), (hY, .inl (cY, 1100, .inl (fun j => ii ((ty j : Nat) : Int)))), (hR, .inl (cR, 4, .inl (fun j => ii ((ix j : Nat) : Int)))), (hO, .inl (cO, 1024, .inl g0))] [(cX, .int), (cY, .int), (cR, .int), (cO, .int)] [.ref hm, .int (ii pp), .int (ii aa), .int (ii bb)]) (QcM (some (.int (ii (((if cvF pp aa bb = 0 then coF pp aa bb else 0) : Nat) : Int)))) True (fun t => ∃ (g : Nat → Int32) (s1 s2 : Int32), Wd D (if cvF pp aa bb = 0 then [(hm, .inr (2, MO pp aa bb (coF pp aa bb) 0 dr 0 hX hY hR hO s1 s2 dk dv)), (hX, .inl (cX, 1100, .inl (fun j => ii (((tbX (fun j => (tpF pp.toNat aa.toNat (bxF pp.toNat aa.toNat bb.toNat) (byF pp.toNat aa.toNat bb.toNat) j).1) tx (coF pp aa bb)) j : Nat) : Int)))), (hY, .inl (cY, 1100, .inl (fun j => ii (((tbX (fun j => (tpF pp.toNat aa.toNat (bxF pp.toNat aa.toNat bb.toNat) (byF pp.toNat aa.toNat bb.toNat) j).2) ty (coF pp aa bb)) j : Nat) : Int)))), (hR, .inl (cR, 4, .inl (fun j => ii (((fun _ => 0) j : Nat) : Int)))), (hO, .inl (cO, 1024, .inl g))] else [(hm, .inr (2, MO p a b n key dr 1 hX hY hR hO sx sy dk dv)), (hX, .inl (cX, 1100, .inl (fun j => ii ((tx j : Nat) : Int)))), (hY, .inl (cY, 1100, .inl (fun j => ii ((ty j : Nat) : Int)))), (hR, .inl (cR, 4, .inl (fun j => ii ((ix j : Nat) : Int)))), (hO, .inl (cO, 1024, .inl g))]) [(cX, .int), (cY, .int), (cR, .int), (cO, .int)] (va_A [(hm, .inr (2, MO p a b n key dr th hX hY hR hO sx sy dk dv)), (hX, .inl (cX, 1100, .inl (fun j => ii ((tx j : Nat) : Int)))), (hY, .inl (cY, 1100, .inl (fun j => ii ((ty j : Nat) : Int)))), (hR, .inl (cR, 4, .inl (fun j => ii ((ix j : Nat) : Int)))), (hO, .inl (cO, 1024, .inl g0))] sz) t) (va_A [(hm, .inr (2, MO p a b n key dr th hX hY hR hO sx sy dk dv)), (hX, .inl (cX, 1100, .inl (fun j => ii ((tx j : Nat) : Int)))), (hY, .inl (cY, 1100, .inl (fun j => ii ((ty j : Nat) : Int)))), (hR, .inl (cR, 4, .inl (fun j => ii ((ix j : Nat) : Int)))), (hO, .inl (cO, 1024, .inl g0))] sz)) 0 0 (va_A [(hm, .inr (2, MO p a b n key dr th hX hY hR hO sx sy dk dv)), (hX, .inl (cX, 1100, .inl (fun j => ii ((tx j : Nat) : Int)))), (hY, .inl (cY, 1100, .inl (fun j => ii ((ty j : Nat) : Int)))), (hR, .inl (cR, 4, .inl (fun j => ii ((ix j : Nat) : Int)))), (hO, .inl (cO, 1024, .inl g0))] sz) := by
  refine mt_N (by decide +kernel) (Nat.le_of_ble_eq_true rfl) ?_
  intro P0 E0 S0 M0 A0 B0 T0 K0 C hN hZ hsz hz hP hK hD hAz hA hr hk hin ls hl
  have hl : lv_has ls 6 [(0, .ref hm), (1, .int (ii pp)), (2, .int (ii aa)), (3, .int (ii bb))] := hl
  generalize hAe : va_A [(hm, .inr (2, MO p a b n key dr th hX hY hR hO sx sy dk dv)), (hX, .inl (cX, 1100, .inl (fun j => ii ((tx j : Nat) : Int)))), (hY, .inl (cY, 1100, .inl (fun j => ii ((ty j : Nat) : Int)))), (hR, .inl (cR, 4, .inl (fun j => ii ((ix j : Nat) : Int)))), (hO, .inl (cO, 1024, .inl g0))] sz = A at hD hAz hA ⊢
  have hS : va_S A S0.heap S0.heap [] := va_S.rf
  have mle := coF_le pp aa bb
  have m0 : crF pp aa bb = 0 → coF pp aa bb = 0 := fun z => if_pos z
  have hcv : cvF pp aa bb = if coF pp aa bb < 3 then 1 else if pmF (coF pp aa bb) 1100 2 (if coF pp aa bb < 2 then 0 else 1) = 0 then 1 else 0 := rfl
  have hTb : 5 ≤ pp → ∀ j, (tpF pp.toNat aa.toNat (bxF pp.toNat aa.toNat bb.toNat) (byF pp.toNat aa.toNat bb.toNat) j).1 < pp.toNat ∧ (tpF pp.toNat aa.toNat (bxF pp.toNat aa.toNat bb.toNat) (byF pp.toNat aa.toNat bb.toNat) j).2 < pp.toNat := fun h5 => tpF_b (by omega) (bxF_b (by omega)) (byF_b (by omega))
  have hT1 : tpF pp.toNat aa.toNat (bxF pp.toNat aa.toNat bb.toNat) (byF pp.toNat aa.toNat bb.toNat) 1 = (bxF pp.toNat aa.toNat bb.toNat, byF pp.toNat aa.toNat bb.toNat) := rfl
  have hTs : ∀ j, 1 ≤ j → tpF pp.toNat aa.toNat (bxF pp.toNat aa.toNat bb.toNat) (byF pp.toNat aa.toNat bb.toNat) (j + 1) = adF pp.toNat aa.toNat (tpF pp.toNat aa.toNat (bxF pp.toNat aa.toNat bb.toNat) (byF pp.toNat aa.toNat bb.toNat) j) (bxF pp.toNat aa.toNat bb.toNat, byF pp.toNat aa.toNat bb.toNat) := fun j hj => tpF_s _ _ _ _ j hj
  generalize cvF pp aa bb = cv at hcv ⊢
  generalize tpF pp.toNat aa.toNat (bxF pp.toNat aa.toNat bb.toNat) (byF pp.toNat aa.toNat bb.toNat) = T at hTb hT1 hTs ⊢
  refine lv_aload_n C.1 C.2.1 dX2_curve_0 rfl (lv_at hl 0 rfl) ?_
  refine lv_iload_n C.1 C.2.1 dX2_curve_1 rfl (lv_at hl 1 rfl) ?_
  refine lv_iload_n C.1 C.2.1 dX2_curve_2 rfl (lv_at hl 2 rfl) ?_
  refine lv_iload_n C.1 C.2.1 dX2_curve_3 rfl (lv_at hl 3 rfl) ?_
  have hFc := va_free (wc := [(hm, .inr (2, MO p a b n key dr th hX hY hR hO sx sy dk dv)), (hO, .inl (cO, 1024, .inl g0))]) hD hS hA [0, 4] rfl
  refine cn_V (As := [.int (ii pp), .int (ii aa), .int (ii bb)]) (rest := []) C (c_X2_count l D z0 _ hm p a b n key dr th hX hY hR hO sx sy dk dv cO g0 pp aa bb hp1 ha1 hb1) (pcm_preV _ hN (Zs.on hZ hS hAz) (by have := hS.1; omega) (hP.sub (ws' := [(hm, .inr (2, MO p a b n key dr th hX hY hR hO sx sy dk dv)), (hO, .inl (cO, 1024, .inl g0))]) [0, 4] rfl) (hK.sub (tys' := [(cO, .int)]) [3] rfl) ((hD.sub (ws' := [(hm, .inr (2, MO p a b n key dr th hX hY hR hO sx sy dk dv)), (hO, .inl (cO, 1024, .inl g0))]) [0, 4] (by decide) rfl).weaken (fun _ _ _ h => hAz _ h)) 0 (ci := 2) rfl rfl) hS hFc aw_b_X2_count aw_m_X2_54 aw_v_X2_count aw_i_X2 aw_e_X2_count ⟨rfl, rfl⟩ 3 (by decide +kernel) rfl ⟨by decide, by decide⟩ hl.1 rfl (Nat.le_of_ble_eq_true rfl) dX2_curve_4 ⟨by decide, by decide⟩ (fun t H1 locs1 ht hvm _ hB jz1 jk1 hS => ?_)
  obtain ⟨g, hg, hP1, hK1, hD1⟩ := hB
  rw [ht] at hP1
  obtain ⟨hP, hD⟩ := va_join (wr := [(hX, .inl (cX, 1100, .inl (fun j => ii ((tx j : Nat) : Int)))), (hY, .inl (cY, 1100, .inl (fun j => ii ((ty j : Nat) : Int)))), (hR, .inl (cR, 4, .inl (fun j => ii ((ix j : Nat) : Int))))]) (w1 := [(hm, .inr (2, MO p a b n key dr th hX hY hR hO sx sy dk dv)), (hO, .inl (cO, 1024, .inl g))]) hP hD [0, 4] [1, 2, 3] rfl rfl (by decide) (by decide) jk1 hFc hP1 hD1
  have hP := hP.sub (ws' := [(hm, .inr (2, MO p a b n key dr th hX hY hR hO sx sy dk dv)), (hX, .inl (cX, 1100, .inl (fun j => ii ((tx j : Nat) : Int)))), (hY, .inl (cY, 1100, .inl (fun j => ii ((ty j : Nat) : Int)))), (hR, .inl (cR, 4, .inl (fun j => ii ((ix j : Nat) : Int)))), (hO, .inl (cO, 1024, .inl g))]) [3, 0, 1, 2, 4] rfl
  have hD := hD.sub (ws' := [(hm, .inr (2, MO p a b n key dr th hX hY hR hO sx sy dk dv)), (hX, .inl (cX, 1100, .inl (fun j => ii ((tx j : Nat) : Int)))), (hY, .inl (cY, 1100, .inl (fun j => ii ((ty j : Nat) : Int)))), (hR, .inl (cR, 4, .inl (fun j => ii ((ix j : Nat) : Int)))), (hO, .inl (cO, 1024, .inl g))]) [3, 0, 1, 2, 4] (by decide) rfl
  generalize coF pp aa bb = m at mle m0 hcv hle ⊢
  refine lv_istore C.1 C.2.1 dX2_curve_7 hl (by decide) rfl (fun ls hl => ?_)
  have hl : lv_has ls 6 [(4, .int (ii (m : Int))), (0, .ref hm), (1, .int (ii pp)), (2, .int (ii aa)), (3, .int (ii bb))] := hl
  refine lv_aload_n C.1 C.2.1 dX2_curve_9 rfl (lv_at hl 1 rfl) ?_
  refine lv_iload C.1 C.2.1 dX2_curve_10 (lv_at hl 0 rfl) ?_
  refine i_const C dX2_curve_12 ?_
  refine i_icmp_lt (tgt := 25) C dX2_curve_13 (by decide) ⟨by omega, by omega⟩ ⟨by omega, by omega⟩ (fun h1 => ?_) (fun h1 => ?_)
  · have ev : cv = 1 := by rw [hcv, if_pos (show m < 3 by omega)]
    subst ev
    rw [if_neg (show ¬ (1 : Int) = 0 by decide)]
    rw [show (fun t => ∃ (g : Nat → Int32) (s1 s2 : Int32), Wd D (if (1 : Int) = 0 then [(hm, .inr (2, MO pp aa bb m 0 dr 0 hX hY hR hO s1 s2 dk dv)), (hX, .inl (cX, 1100, .inl (fun j => ii (((tbX (fun j => (T j).1) tx m) j : Nat) : Int)))), (hY, .inl (cY, 1100, .inl (fun j => ii (((tbX (fun j => (T j).2) ty m) j : Nat) : Int)))), (hR, .inl (cR, 4, .inl (fun j => ii (((fun _ => 0) j : Nat) : Int)))), (hO, .inl (cO, 1024, .inl g))] else [(hm, .inr (2, MO p a b n key dr 1 hX hY hR hO sx sy dk dv)), (hX, .inl (cX, 1100, .inl (fun j => ii ((tx j : Nat) : Int)))), (hY, .inl (cY, 1100, .inl (fun j => ii ((ty j : Nat) : Int)))), (hR, .inl (cR, 4, .inl (fun j => ii ((ix j : Nat) : Int)))), (hO, .inl (cO, 1024, .inl g))]) [(cX, .int), (cY, .int), (cR, .int), (cO, .int)] A t) = fun t => ∃ (g : Nat → Int32) (s1 s2 : Int32), Wd D [(hm, .inr (2, MO p a b n key dr 1 hX hY hR hO sx sy dk dv)), (hX, .inl (cX, 1100, .inl (fun j => ii ((tx j : Nat) : Int)))), (hY, .inl (cY, 1100, .inl (fun j => ii ((ty j : Nat) : Int)))), (hR, .inl (cR, 4, .inl (fun j => ii ((ix j : Nat) : Int)))), (hO, .inl (cO, 1024, .inl g))] [(cX, .int), (cY, .int), (cR, .int), (cO, .int)] A t from rfl]
    refine i_const C dX2_curve_25 ?_
    refine lv_goto (tgt := 30) C.1 C.2.1 dX2_curve_26 (by decide) ?_
    refine i_const C dX2_curve_30 ?_
    refine i_const C dX2_curve_31 ?_
    have hFc := va_free (wc := [(hm, .inr (2, MO p a b n key dr th hX hY hR hO sx sy dk dv))]) hD hS hA [0] rfl
    refine cn_V (As := [.int (ii 1), .int (ii 0), .int (ii 0)]) (rest := []) C (c_X2_good l D z0 _ hm p a b n key dr th hX hY hR hO sx sy dk dv 1 0 0 (by omega) (by omega) (by omega)) (pcm_preV _ hN (Zs.on hZ hS hAz) (by have := hS.1; omega) (hP.sub (ws' := [(hm, .inr (2, MO p a b n key dr th hX hY hR hO sx sy dk dv))]) [0] rfl) (hK.sub (tys' := []) [] rfl) ((hD.sub (ws' := [(hm, .inr (2, MO p a b n key dr th hX hY hR hO sx sy dk dv))]) [0] (by decide) rfl).weaken (fun _ _ _ h => hAz _ h)) 0 (ci := 2) rfl rfl) hS hFc aw_b_X2_good aw_m_X2_58 aw_v_X2_good aw_i_X2 aw_e_X2_good ⟨rfl, rfl⟩ 3 (by decide +kernel) rfl ⟨by decide, by decide⟩ hl.1 rfl (Nat.le_of_ble_eq_true rfl) dX2_curve_32 ⟨by decide, by decide⟩ (fun t H1 locs1 ht hvm _ hB jz1 jk1 hS => ?_)
    obtain ⟨hP1, hK1, hD1⟩ := hB
    rw [ht] at hP1
    obtain ⟨hP, hD⟩ := va_join (wr := [(hX, .inl (cX, 1100, .inl (fun j => ii ((tx j : Nat) : Int)))), (hY, .inl (cY, 1100, .inl (fun j => ii ((ty j : Nat) : Int)))), (hR, .inl (cR, 4, .inl (fun j => ii ((ix j : Nat) : Int)))), (hO, .inl (cO, 1024, .inl g))]) (w1 := [(hm, .inr (2, MO p a b n key dr (gdF 1 0 0) hX hY hR hO sx sy dk dv))]) hP hD [0] [1, 2, 3, 4] rfl rfl (by decide) (by decide) jk1 hFc hP1 hD1
    have hP := hP.sub (ws' := [(hm, .inr (2, MO p a b n key dr (gdF 1 0 0) hX hY hR hO sx sy dk dv)), (hX, .inl (cX, 1100, .inl (fun j => ii ((tx j : Nat) : Int)))), (hY, .inl (cY, 1100, .inl (fun j => ii ((ty j : Nat) : Int)))), (hR, .inl (cR, 4, .inl (fun j => ii ((ix j : Nat) : Int)))), (hO, .inl (cO, 1024, .inl g))]) [4, 0, 1, 2, 3] rfl
    have hD := hD.sub (ws' := [(hm, .inr (2, MO p a b n key dr (gdF 1 0 0) hX hY hR hO sx sy dk dv)), (hX, .inl (cX, 1100, .inl (fun j => ii ((tx j : Nat) : Int)))), (hY, .inl (cY, 1100, .inl (fun j => ii ((ty j : Nat) : Int)))), (hR, .inl (cR, 4, .inl (fun j => ii ((ix j : Nat) : Int)))), (hO, .inl (cO, 1024, .inl g))]) [4, 0, 1, 2, 3] (by decide) rfl
    have gb := goF_b (gdF 1 0 0)
    have g0 := goF_0 (k := gdF 1 0 0)
    have gz := gdF_0 (k1 := 1) (k2 := 0) (k3 := 0)
    refine i_if_ne (tgt := 40) C dX2_curve_35 (by decide) ⟨by omega, by omega⟩ (fun h2 => ?_) (fun h2 => ?_)
    · have := gz.mp (Classical.byContradiction fun z => h2 (g0.mpr z))
      omega
    · have hP : va_P D clX [(hm, .inr (2, MO p a b n key dr 1 hX hY hR hO sx sy dk dv)), (hX, .inl (cX, 1100, .inl (fun j => ii ((tx j : Nat) : Int)))), (hY, .inl (cY, 1100, .inl (fun j => ii ((ty j : Nat) : Int)))), (hR, .inl (cR, 4, .inl (fun j => ii ((ix j : Nat) : Int)))), (hO, .inl (cO, 1024, .inl g))] H1 := hP
      have hD : va_D A [(hm, .inr (2, MO p a b n key dr 1 hX hY hR hO sx sy dk dv)), (hX, .inl (cX, 1100, .inl (fun j => ii ((tx j : Nat) : Int)))), (hY, .inl (cY, 1100, .inl (fun j => ii ((ty j : Nat) : Int)))), (hR, .inl (cR, 4, .inl (fun j => ii ((ix j : Nat) : Int)))), (hO, .inl (cO, 1024, .inl g))] := hD
      refine i_const C dX2_curve_38 ?_
      exact pz_i C hr hk hS trivial (fun t ht hvm => ⟨g, 0, 0, by rw [ht]; exact hP, va_K.moved hvm hK, hD⟩) dX2_curve_39 rfl (by decide) (by decide)
  · refine lv_aload_n C.1 C.2.1 dX2_curve_16 rfl (lv_at hl 1 rfl) ?_
    refine lv_iload C.1 C.2.1 dX2_curve_17 (lv_at hl 0 rfl) ?_
    refine ca_V (As := [.int (ii (m : Int))]) (rest := [.ref hm]) C (c_X2_prime l D hm m (by omega)) (pcw_preV0 [.int (ii (m : Int))] hN hP hK 0 (ci := 2) rfl rfl) aw_b_X2_prime aw_m_X2_26 aw_v_X2_prime aw_i_X2 aw_e_X2_prime ⟨rfl, rfl⟩ 1 (by decide +kernel) rfl ⟨by decide, by decide⟩ hl.1 rfl (Nat.le_of_ble_eq_true rfl) dX2_curve_19 ⟨by decide, by decide⟩ ?_
    have pb := pmF_b m 1100 2 (if m < 2 then 0 else 1) (by split <;> omega)
    generalize pmF m 1100 2 (if m < 2 then 0 else 1) = pv at pb hcv ⊢
    refine i_if_ne (tgt := 29) C dX2_curve_22 (by decide) ⟨by omega, by omega⟩ (fun h3 => ?_) (fun h3 => ?_)
    · have ev : cv = 0 := by rw [hcv, if_neg (show ¬ m < 3 by omega), if_neg (show ¬ pv = 0 by omega)]
      subst ev
      rw [if_pos rfl]
      rw [show (fun t => ∃ (g : Nat → Int32) (s1 s2 : Int32), Wd D (if (0 : Int) = 0 then [(hm, .inr (2, MO pp aa bb m 0 dr 0 hX hY hR hO s1 s2 dk dv)), (hX, .inl (cX, 1100, .inl (fun j => ii (((tbX (fun j => (T j).1) tx m) j : Nat) : Int)))), (hY, .inl (cY, 1100, .inl (fun j => ii (((tbX (fun j => (T j).2) ty m) j : Nat) : Int)))), (hR, .inl (cR, 4, .inl (fun j => ii (((fun _ => 0) j : Nat) : Int)))), (hO, .inl (cO, 1024, .inl g))] else [(hm, .inr (2, MO p a b n key dr 1 hX hY hR hO sx sy dk dv)), (hX, .inl (cX, 1100, .inl (fun j => ii ((tx j : Nat) : Int)))), (hY, .inl (cY, 1100, .inl (fun j => ii ((ty j : Nat) : Int)))), (hR, .inl (cR, 4, .inl (fun j => ii ((ix j : Nat) : Int)))), (hO, .inl (cO, 1024, .inl g))]) [(cX, .int), (cY, .int), (cR, .int), (cO, .int)] A t) = fun t => ∃ (g : Nat → Int32) (s1 s2 : Int32), Wd D [(hm, .inr (2, MO pp aa bb m 0 dr 0 hX hY hR hO s1 s2 dk dv)), (hX, .inl (cX, 1100, .inl (fun j => ii (((tbX (fun j => (T j).1) tx m) j : Nat) : Int)))), (hY, .inl (cY, 1100, .inl (fun j => ii (((tbX (fun j => (T j).2) ty m) j : Nat) : Int)))), (hR, .inl (cR, 4, .inl (fun j => ii (((fun _ => 0) j : Nat) : Int)))), (hO, .inl (cO, 1024, .inl g))] [(cX, .int), (cY, .int), (cR, .int), (cO, .int)] A t from rfl]
      have hcr : crF pp aa bb ≠ 0 := fun z => by have := m0 z; omega
      have hc1 := crF_1 hcr
      have hm11 := hle hcr
      have hgg := hg hcr
      obtain ⟨q1, q2, q3, q4, q5, q6, -, -⟩ := hc1
      have hTb := hTb q1
      clear hcv m0 hle hcr hg
      obtain ⟨p1, rfl⟩ : ∃ p1 : Nat, pp = p1 := ⟨pp.toNat, by omega⟩
      obtain ⟨a1, rfl⟩ : ∃ a1 : Nat, aa = a1 := ⟨aa.toNat, by omega⟩
      obtain ⟨b1, rfl⟩ : ∃ b1 : Nat, bb = b1 := ⟨bb.toNat, by omega⟩
      simp only [Int.toNat_natCast] at hgg hT1 hTs hTb
      refine i_const C dX2_curve_29 ?_
      refine i_const C dX2_curve_30 ?_
      refine i_const C dX2_curve_31 ?_
      have hFc := va_free (wc := [(hm, .inr (2, MO p a b n key dr th hX hY hR hO sx sy dk dv))]) hD hS hA [0] rfl
      refine cn_V (As := [.int (ii 0), .int (ii 0), .int (ii 0)]) (rest := []) C (c_X2_good l D z0 _ hm p a b n key dr th hX hY hR hO sx sy dk dv 0 0 0 (by omega) (by omega) (by omega)) (pcm_preV _ hN (Zs.on hZ hS hAz) (by have := hS.1; omega) (hP.sub (ws' := [(hm, .inr (2, MO p a b n key dr th hX hY hR hO sx sy dk dv))]) [0] rfl) (hK.sub (tys' := []) [] rfl) ((hD.sub (ws' := [(hm, .inr (2, MO p a b n key dr th hX hY hR hO sx sy dk dv))]) [0] (by decide) rfl).weaken (fun _ _ _ h => hAz _ h)) 0 (ci := 2) rfl rfl) hS hFc aw_b_X2_good aw_m_X2_58 aw_v_X2_good aw_i_X2 aw_e_X2_good ⟨rfl, rfl⟩ 3 (by decide +kernel) rfl ⟨by decide, by decide⟩ hl.1 rfl (Nat.le_of_ble_eq_true rfl) dX2_curve_32 ⟨by decide, by decide⟩ (fun t H1 locs1 ht hvm _ hB jz1 jk1 hS => ?_)
      obtain ⟨hP1, hK1, hD1⟩ := hB
      rw [ht] at hP1
      obtain ⟨hP, hD⟩ := va_join (wr := [(hX, .inl (cX, 1100, .inl (fun j => ii ((tx j : Nat) : Int)))), (hY, .inl (cY, 1100, .inl (fun j => ii ((ty j : Nat) : Int)))), (hR, .inl (cR, 4, .inl (fun j => ii ((ix j : Nat) : Int)))), (hO, .inl (cO, 1024, .inl g))]) (w1 := [(hm, .inr (2, MO p a b n key dr (gdF 0 0 0) hX hY hR hO sx sy dk dv))]) hP hD [0] [1, 2, 3, 4] rfl rfl (by decide) (by decide) jk1 hFc hP1 hD1
      have hP := hP.sub (ws' := [(hm, .inr (2, MO p a b n key dr (gdF 0 0 0) hX hY hR hO sx sy dk dv)), (hX, .inl (cX, 1100, .inl (fun j => ii ((tx j : Nat) : Int)))), (hY, .inl (cY, 1100, .inl (fun j => ii ((ty j : Nat) : Int)))), (hR, .inl (cR, 4, .inl (fun j => ii ((ix j : Nat) : Int)))), (hO, .inl (cO, 1024, .inl g))]) [4, 0, 1, 2, 3] rfl
      have hD := hD.sub (ws' := [(hm, .inr (2, MO p a b n key dr (gdF 0 0 0) hX hY hR hO sx sy dk dv)), (hX, .inl (cX, 1100, .inl (fun j => ii ((tx j : Nat) : Int)))), (hY, .inl (cY, 1100, .inl (fun j => ii ((ty j : Nat) : Int)))), (hR, .inl (cR, 4, .inl (fun j => ii ((ix j : Nat) : Int)))), (hO, .inl (cO, 1024, .inl g))]) [4, 0, 1, 2, 3] (by decide) rfl
      have gb := goF_b (gdF 0 0 0)
      have g0 := goF_0 (k := gdF 0 0 0)
      have gz := gdF_0 (k1 := 0) (k2 := 0) (k3 := 0)
      refine i_if_ne (tgt := 40) C dX2_curve_35 (by decide) ⟨by omega, by omega⟩ (fun h2 => ?_) (fun h2 => ?_)
      · have hP : va_P D clX [(hm, .inr (2, MO p a b n key dr 0 hX hY hR hO sx sy dk dv)), (hX, .inl (cX, 1100, .inl (fun j => ii ((tx j : Nat) : Int)))), (hY, .inl (cY, 1100, .inl (fun j => ii ((ty j : Nat) : Int)))), (hR, .inl (cR, 4, .inl (fun j => ii ((ix j : Nat) : Int)))), (hO, .inl (cO, 1024, .inl g))] H1 := hP
        have hD : va_D A [(hm, .inr (2, MO p a b n key dr 0 hX hY hR hO sx sy dk dv)), (hX, .inl (cX, 1100, .inl (fun j => ii ((tx j : Nat) : Int)))), (hY, .inl (cY, 1100, .inl (fun j => ii ((ty j : Nat) : Int)))), (hR, .inl (cR, 4, .inl (fun j => ii ((ix j : Nat) : Int)))), (hO, .inl (cO, 1024, .inl g))] := hD
        refine lv_aload_n C.1 C.2.1 dX2_curve_40 rfl (lv_at hl 1 rfl) ?_
        refine lv_iload_n C.1 C.2.1 dX2_curve_41 rfl (lv_at hl 2 rfl) ?_
        refine p_f C hK hP hD hS 0 rfl rfl aw_uX2 tyX2 tyX2_ok nmX2 0 (by decide) aw_f_X2_41 rfl rfl rfl (Nat.le_of_ble_eq_true rfl) dX2_curve_42 (fun H1 locs1 hP hD hS => ?_)
        have hP : va_P D clX [(hm, .inr (2, MO (p1 : Int) a b n key dr 0 hX hY hR hO sx sy dk dv)), (hX, .inl (cX, 1100, .inl (fun j => ii ((tx j : Nat) : Int)))), (hY, .inl (cY, 1100, .inl (fun j => ii ((ty j : Nat) : Int)))), (hR, .inl (cR, 4, .inl (fun j => ii ((ix j : Nat) : Int)))), (hO, .inl (cO, 1024, .inl g))] H1 := hP
        have hD : va_D A [(hm, .inr (2, MO (p1 : Int) a b n key dr 0 hX hY hR hO sx sy dk dv)), (hX, .inl (cX, 1100, .inl (fun j => ii ((tx j : Nat) : Int)))), (hY, .inl (cY, 1100, .inl (fun j => ii ((ty j : Nat) : Int)))), (hR, .inl (cR, 4, .inl (fun j => ii ((ix j : Nat) : Int)))), (hO, .inl (cO, 1024, .inl g))] := hD
        refine lv_aload_n C.1 C.2.1 dX2_curve_45 rfl (lv_at hl 1 rfl) ?_
        refine lv_iload_n C.1 C.2.1 dX2_curve_46 rfl (lv_at hl 3 rfl) ?_
        refine p_f C hK hP hD hS 0 rfl rfl aw_uX2 tyX2 tyX2_ok nmX2 1 (by decide) aw_f_X2_38 rfl rfl rfl (Nat.le_of_ble_eq_true rfl) dX2_curve_47 (fun H1 locs1 hP hD hS => ?_)
        have hP : va_P D clX [(hm, .inr (2, MO (p1 : Int) (a1 : Int) b n key dr 0 hX hY hR hO sx sy dk dv)), (hX, .inl (cX, 1100, .inl (fun j => ii ((tx j : Nat) : Int)))), (hY, .inl (cY, 1100, .inl (fun j => ii ((ty j : Nat) : Int)))), (hR, .inl (cR, 4, .inl (fun j => ii ((ix j : Nat) : Int)))), (hO, .inl (cO, 1024, .inl g))] H1 := hP
        have hD : va_D A [(hm, .inr (2, MO (p1 : Int) (a1 : Int) b n key dr 0 hX hY hR hO sx sy dk dv)), (hX, .inl (cX, 1100, .inl (fun j => ii ((tx j : Nat) : Int)))), (hY, .inl (cY, 1100, .inl (fun j => ii ((ty j : Nat) : Int)))), (hR, .inl (cR, 4, .inl (fun j => ii ((ix j : Nat) : Int)))), (hO, .inl (cO, 1024, .inl g))] := hD
        refine lv_aload_n C.1 C.2.1 dX2_curve_50 rfl (lv_at hl 1 rfl) ?_
        refine lv_iload_n C.1 C.2.1 dX2_curve_51 rfl (lv_at hl 4 rfl) ?_
        refine p_f C hK hP hD hS 0 rfl rfl aw_uX2 tyX2 tyX2_ok nmX2 2 (by decide) aw_f_X2_62 rfl rfl rfl (Nat.le_of_ble_eq_true rfl) dX2_curve_52 (fun H1 locs1 hP hD hS => ?_)
        have hP : va_P D clX [(hm, .inr (2, MO (p1 : Int) (a1 : Int) (b1 : Int) n key dr 0 hX hY hR hO sx sy dk dv)), (hX, .inl (cX, 1100, .inl (fun j => ii ((tx j : Nat) : Int)))), (hY, .inl (cY, 1100, .inl (fun j => ii ((ty j : Nat) : Int)))), (hR, .inl (cR, 4, .inl (fun j => ii ((ix j : Nat) : Int)))), (hO, .inl (cO, 1024, .inl g))] H1 := hP
        have hD : va_D A [(hm, .inr (2, MO (p1 : Int) (a1 : Int) (b1 : Int) n key dr 0 hX hY hR hO sx sy dk dv)), (hX, .inl (cX, 1100, .inl (fun j => ii ((tx j : Nat) : Int)))), (hY, .inl (cY, 1100, .inl (fun j => ii ((ty j : Nat) : Int)))), (hR, .inl (cR, 4, .inl (fun j => ii ((ix j : Nat) : Int)))), (hO, .inl (cO, 1024, .inl g))] := hD
        refine lv_aload_n C.1 C.2.1 dX2_curve_55 rfl (lv_at hl 1 rfl) ?_
        refine lv_iload C.1 C.2.1 dX2_curve_56 (lv_at hl 0 rfl) ?_
        refine p_f C hK hP hD hS 0 rfl rfl aw_uX2 tyX2 tyX2_ok nmX2 3 (by decide) aw_f_X2_65 rfl rfl rfl (Nat.le_of_ble_eq_true rfl) dX2_curve_58 (fun H1 locs1 hP hD hS => ?_)
        have hP : va_P D clX [(hm, .inr (2, MO (p1 : Int) (a1 : Int) (b1 : Int) m key dr 0 hX hY hR hO sx sy dk dv)), (hX, .inl (cX, 1100, .inl (fun j => ii ((tx j : Nat) : Int)))), (hY, .inl (cY, 1100, .inl (fun j => ii ((ty j : Nat) : Int)))), (hR, .inl (cR, 4, .inl (fun j => ii ((ix j : Nat) : Int)))), (hO, .inl (cO, 1024, .inl g))] H1 := hP
        have hD : va_D A [(hm, .inr (2, MO (p1 : Int) (a1 : Int) (b1 : Int) m key dr 0 hX hY hR hO sx sy dk dv)), (hX, .inl (cX, 1100, .inl (fun j => ii ((tx j : Nat) : Int)))), (hY, .inl (cY, 1100, .inl (fun j => ii ((ty j : Nat) : Int)))), (hR, .inl (cR, 4, .inl (fun j => ii ((ix j : Nat) : Int)))), (hO, .inl (cO, 1024, .inl g))] := hD
        refine lv_aload_n C.1 C.2.1 dX2_curve_61 rfl (lv_at hl 1 rfl) ?_
        refine i_const C dX2_curve_62 ?_
        refine p_f C hK hP hD hS 0 rfl rfl aw_uX2 tyX2 tyX2_ok nmX2 4 (by decide) aw_f_X2_68 rfl rfl rfl (Nat.le_of_ble_eq_true rfl) dX2_curve_63 (fun H1 locs1 hP hD hS => ?_)
        have hP : va_P D clX [(hm, .inr (2, MO (p1 : Int) (a1 : Int) (b1 : Int) m 0 dr 0 hX hY hR hO sx sy dk dv)), (hX, .inl (cX, 1100, .inl (fun j => ii ((tx j : Nat) : Int)))), (hY, .inl (cY, 1100, .inl (fun j => ii ((ty j : Nat) : Int)))), (hR, .inl (cR, 4, .inl (fun j => ii ((ix j : Nat) : Int)))), (hO, .inl (cO, 1024, .inl g))] H1 := hP
        have hD : va_D A [(hm, .inr (2, MO (p1 : Int) (a1 : Int) (b1 : Int) m 0 dr 0 hX hY hR hO sx sy dk dv)), (hX, .inl (cX, 1100, .inl (fun j => ii ((tx j : Nat) : Int)))), (hY, .inl (cY, 1100, .inl (fun j => ii ((ty j : Nat) : Int)))), (hR, .inl (cR, 4, .inl (fun j => ii ((ix j : Nat) : Int)))), (hO, .inl (cO, 1024, .inl g))] := hD
        refine i_const C dX2_curve_66 ?_
        refine lv_istore C.1 C.2.1 dX2_curve_67 hl (by decide) rfl (fun ls hl => ?_)
        have hl : lv_has ls 6 [(5, .int (ii 0)), (4, .int (ii (m : Int))), (0, .ref hm), (1, .int (ii (p1 : Int))), (2, .int (ii (a1 : Int))), (3, .int (ii (b1 : Int)))] := hl
        refine lv_iload C.1 C.2.1 dX2_curve_69 (lv_at hl 0 rfl) ?_
        refine i_const C dX2_curve_71 ?_
        refine i_icmp_ge (tgt := 89) C dX2_curve_72 (by decide) ⟨by omega, by omega⟩ ⟨by omega, by omega⟩ (fun r0 => ?_) (fun r0 => ?_)
        · omega
        · refine lv_aload_n C.1 C.2.1 dX2_curve_75 rfl (lv_at hl 2 rfl) ?_
          refine gf C hK hP 0 rfl rfl aw_uX2 9 (by decide) aw_f_X2_16 rfl dX2_curve_76 ?_
          refine lv_iload C.1 C.2.1 dX2_curve_79 (lv_at hl 0 rfl) ?_
          refine i_const C dX2_curve_81 ?_
          refine i_ast C hK hP hD hS 3 2 rfl rfl 0 (by omega) (by omega) (by omega) dX2_curve_82 (fun H1 locs1 hP hD hS => ?_)
          rw [show va_up (fun j => ii ((ix j : Nat) : Int)) 0 (ii 0) = fun j => ii ((va_up ix 0 0 j : Nat) : Int) from up_I ix 0 0] at hP hD
          have hP : va_P D clX [(hm, .inr (2, MO (p1 : Int) (a1 : Int) (b1 : Int) m 0 dr 0 hX hY hR hO sx sy dk dv)), (hX, .inl (cX, 1100, .inl (fun j => ii ((tx j : Nat) : Int)))), (hY, .inl (cY, 1100, .inl (fun j => ii ((ty j : Nat) : Int)))), (hR, .inl (cR, 4, .inl (fun j => ii (((va_up ix 0 0) j : Nat) : Int)))), (hO, .inl (cO, 1024, .inl g))] H1 := hP
          have hD : va_D A [(hm, .inr (2, MO (p1 : Int) (a1 : Int) (b1 : Int) m 0 dr 0 hX hY hR hO sx sy dk dv)), (hX, .inl (cX, 1100, .inl (fun j => ii ((tx j : Nat) : Int)))), (hY, .inl (cY, 1100, .inl (fun j => ii ((ty j : Nat) : Int)))), (hR, .inl (cR, 4, .inl (fun j => ii (((va_up ix 0 0) j : Nat) : Int)))), (hO, .inl (cO, 1024, .inl g))] := hD
          refine lv_iinc C.1 C.2.1 dX2_curve_83 hl (k := 0) rfl (ii_add 0 1) (by decide) rfl (fun ls hl => ?_)
          have hl : lv_has ls 6 [(5, .int (ii (0 + 1))), (4, .int (ii (m : Int))), (0, .ref hm), (1, .int (ii (p1 : Int))), (2, .int (ii (a1 : Int))), (3, .int (ii (b1 : Int)))] := hl
          refine lv_goto (tgt := 69) C.1 C.2.1 dX2_curve_86 (by decide) ?_
          refine lv_iload C.1 C.2.1 dX2_curve_69 (lv_at hl 0 rfl) ?_
          refine i_const C dX2_curve_71 ?_
          refine i_icmp_ge (tgt := 89) C dX2_curve_72 (by decide) ⟨by omega, by omega⟩ ⟨by omega, by omega⟩ (fun r1 => ?_) (fun r1 => ?_)
          · omega
          · refine lv_aload_n C.1 C.2.1 dX2_curve_75 rfl (lv_at hl 2 rfl) ?_
            refine gf C hK hP 0 rfl rfl aw_uX2 9 (by decide) aw_f_X2_16 rfl dX2_curve_76 ?_
            refine lv_iload C.1 C.2.1 dX2_curve_79 (lv_at hl 0 rfl) ?_
            refine i_const C dX2_curve_81 ?_
            refine i_ast C hK hP hD hS 3 2 rfl rfl 1 (by omega) (by omega) (by omega) dX2_curve_82 (fun H1 locs1 hP hD hS => ?_)
            rw [show va_up (fun j => ii (((va_up ix 0 0) j : Nat) : Int)) 1 (ii 0) = fun j => ii ((va_up (va_up ix 0 0) 1 0 j : Nat) : Int) from up_I (va_up ix 0 0) 1 0] at hP hD
            have hP : va_P D clX [(hm, .inr (2, MO (p1 : Int) (a1 : Int) (b1 : Int) m 0 dr 0 hX hY hR hO sx sy dk dv)), (hX, .inl (cX, 1100, .inl (fun j => ii ((tx j : Nat) : Int)))), (hY, .inl (cY, 1100, .inl (fun j => ii ((ty j : Nat) : Int)))), (hR, .inl (cR, 4, .inl (fun j => ii (((va_up (va_up ix 0 0) 1 0) j : Nat) : Int)))), (hO, .inl (cO, 1024, .inl g))] H1 := hP
            have hD : va_D A [(hm, .inr (2, MO (p1 : Int) (a1 : Int) (b1 : Int) m 0 dr 0 hX hY hR hO sx sy dk dv)), (hX, .inl (cX, 1100, .inl (fun j => ii ((tx j : Nat) : Int)))), (hY, .inl (cY, 1100, .inl (fun j => ii ((ty j : Nat) : Int)))), (hR, .inl (cR, 4, .inl (fun j => ii (((va_up (va_up ix 0 0) 1 0) j : Nat) : Int)))), (hO, .inl (cO, 1024, .inl g))] := hD
            refine lv_iinc C.1 C.2.1 dX2_curve_83 hl (k := 0) rfl (ii_add (0 + 1) 1) (by decide) rfl (fun ls hl => ?_)
            have hl : lv_has ls 6 [(5, .int (ii ((0 + 1) + 1))), (4, .int (ii (m : Int))), (0, .ref hm), (1, .int (ii (p1 : Int))), (2, .int (ii (a1 : Int))), (3, .int (ii (b1 : Int)))] := hl
            refine lv_goto (tgt := 69) C.1 C.2.1 dX2_curve_86 (by decide) ?_
            refine lv_iload C.1 C.2.1 dX2_curve_69 (lv_at hl 0 rfl) ?_
            refine i_const C dX2_curve_71 ?_
            refine i_icmp_ge (tgt := 89) C dX2_curve_72 (by decide) ⟨by omega, by omega⟩ ⟨by omega, by omega⟩ (fun r2 => ?_) (fun r2 => ?_)
            · omega
            · refine lv_aload_n C.1 C.2.1 dX2_curve_75 rfl (lv_at hl 2 rfl) ?_
              refine gf C hK hP 0 rfl rfl aw_uX2 9 (by decide) aw_f_X2_16 rfl dX2_curve_76 ?_
              refine lv_iload C.1 C.2.1 dX2_curve_79 (lv_at hl 0 rfl) ?_
              refine i_const C dX2_curve_81 ?_
              refine i_ast C hK hP hD hS 3 2 rfl rfl 2 (by omega) (by omega) (by omega) dX2_curve_82 (fun H1 locs1 hP hD hS => ?_)
              rw [show va_up (fun j => ii (((va_up (va_up ix 0 0) 1 0) j : Nat) : Int)) 2 (ii 0) = fun j => ii ((va_up (va_up (va_up ix 0 0) 1 0) 2 0 j : Nat) : Int) from up_I (va_up (va_up ix 0 0) 1 0) 2 0] at hP hD
              have hP : va_P D clX [(hm, .inr (2, MO (p1 : Int) (a1 : Int) (b1 : Int) m 0 dr 0 hX hY hR hO sx sy dk dv)), (hX, .inl (cX, 1100, .inl (fun j => ii ((tx j : Nat) : Int)))), (hY, .inl (cY, 1100, .inl (fun j => ii ((ty j : Nat) : Int)))), (hR, .inl (cR, 4, .inl (fun j => ii (((va_up (va_up (va_up ix 0 0) 1 0) 2 0) j : Nat) : Int)))), (hO, .inl (cO, 1024, .inl g))] H1 := hP
              have hD : va_D A [(hm, .inr (2, MO (p1 : Int) (a1 : Int) (b1 : Int) m 0 dr 0 hX hY hR hO sx sy dk dv)), (hX, .inl (cX, 1100, .inl (fun j => ii ((tx j : Nat) : Int)))), (hY, .inl (cY, 1100, .inl (fun j => ii ((ty j : Nat) : Int)))), (hR, .inl (cR, 4, .inl (fun j => ii (((va_up (va_up (va_up ix 0 0) 1 0) 2 0) j : Nat) : Int)))), (hO, .inl (cO, 1024, .inl g))] := hD
              refine lv_iinc C.1 C.2.1 dX2_curve_83 hl (k := 0) rfl (ii_add ((0 + 1) + 1) 1) (by decide) rfl (fun ls hl => ?_)
              have hl : lv_has ls 6 [(5, .int (ii (((0 + 1) + 1) + 1))), (4, .int (ii (m : Int))), (0, .ref hm), (1, .int (ii (p1 : Int))), (2, .int (ii (a1 : Int))), (3, .int (ii (b1 : Int)))] := hl
              refine lv_goto (tgt := 69) C.1 C.2.1 dX2_curve_86 (by decide) ?_
              refine lv_iload C.1 C.2.1 dX2_curve_69 (lv_at hl 0 rfl) ?_
              refine i_const C dX2_curve_71 ?_
              refine i_icmp_ge (tgt := 89) C dX2_curve_72 (by decide) ⟨by omega, by omega⟩ ⟨by omega, by omega⟩ (fun r3 => ?_) (fun r3 => ?_)
              · omega
              · refine lv_aload_n C.1 C.2.1 dX2_curve_75 rfl (lv_at hl 2 rfl) ?_
                refine gf C hK hP 0 rfl rfl aw_uX2 9 (by decide) aw_f_X2_16 rfl dX2_curve_76 ?_
                refine lv_iload C.1 C.2.1 dX2_curve_79 (lv_at hl 0 rfl) ?_
                refine i_const C dX2_curve_81 ?_
                refine i_ast C hK hP hD hS 3 2 rfl rfl 3 (by omega) (by omega) (by omega) dX2_curve_82 (fun H1 locs1 hP hD hS => ?_)
                rw [show va_up (fun j => ii (((va_up (va_up (va_up ix 0 0) 1 0) 2 0) j : Nat) : Int)) 3 (ii 0) = fun j => ii ((va_up (va_up (va_up (va_up ix 0 0) 1 0) 2 0) 3 0 j : Nat) : Int) from up_I (va_up (va_up (va_up ix 0 0) 1 0) 2 0) 3 0] at hP hD
                have hP : va_P D clX [(hm, .inr (2, MO (p1 : Int) (a1 : Int) (b1 : Int) m 0 dr 0 hX hY hR hO sx sy dk dv)), (hX, .inl (cX, 1100, .inl (fun j => ii ((tx j : Nat) : Int)))), (hY, .inl (cY, 1100, .inl (fun j => ii ((ty j : Nat) : Int)))), (hR, .inl (cR, 4, .inl (fun j => ii (((va_up (va_up (va_up (va_up ix 0 0) 1 0) 2 0) 3 0) j : Nat) : Int)))), (hO, .inl (cO, 1024, .inl g))] H1 := hP
                have hD : va_D A [(hm, .inr (2, MO (p1 : Int) (a1 : Int) (b1 : Int) m 0 dr 0 hX hY hR hO sx sy dk dv)), (hX, .inl (cX, 1100, .inl (fun j => ii ((tx j : Nat) : Int)))), (hY, .inl (cY, 1100, .inl (fun j => ii ((ty j : Nat) : Int)))), (hR, .inl (cR, 4, .inl (fun j => ii (((va_up (va_up (va_up (va_up ix 0 0) 1 0) 2 0) 3 0) j : Nat) : Int)))), (hO, .inl (cO, 1024, .inl g))] := hD
                refine lv_iinc C.1 C.2.1 dX2_curve_83 hl (k := 0) rfl (ii_add (((0 + 1) + 1) + 1) 1) (by decide) rfl (fun ls hl => ?_)
                have hl : lv_has ls 6 [(5, .int (ii ((((0 + 1) + 1) + 1) + 1))), (4, .int (ii (m : Int))), (0, .ref hm), (1, .int (ii (p1 : Int))), (2, .int (ii (a1 : Int))), (3, .int (ii (b1 : Int)))] := hl
                refine lv_goto (tgt := 69) C.1 C.2.1 dX2_curve_86 (by decide) ?_
                refine lv_iload C.1 C.2.1 dX2_curve_69 (lv_at hl 0 rfl) ?_
                refine i_const C dX2_curve_71 ?_
                refine i_icmp_ge (tgt := 89) C dX2_curve_72 (by decide) ⟨by omega, by omega⟩ ⟨by omega, by omega⟩ (fun r4 => ?_) (fun r4 => ?_)
                · have hP : va_P D clX [(hm, .inr (2, MO (p1 : Int) (a1 : Int) (b1 : Int) m 0 dr 0 hX hY hR hO sx sy dk dv)), (hX, .inl (cX, 1100, .inl (fun j => ii ((tx j : Nat) : Int)))), (hY, .inl (cY, 1100, .inl (fun j => ii ((ty j : Nat) : Int)))), (hR, .inl (cR, 4, .inl (fun j => ii (((fun _ => 0) j : Nat) : Int)))), (hO, .inl (cO, 1024, .inl g))] H1 := hP.arr (q0 := 3) rfl (fun j hj => by
                    have hj : j = 0 ∨ j = 1 ∨ j = 2 ∨ j = 3 := by omega
                    rcases hj with rfl | rfl | rfl | rfl <;> rfl)
                  have hD : va_D A [(hm, .inr (2, MO (p1 : Int) (a1 : Int) (b1 : Int) m 0 dr 0 hX hY hR hO sx sy dk dv)), (hX, .inl (cX, 1100, .inl (fun j => ii ((tx j : Nat) : Int)))), (hY, .inl (cY, 1100, .inl (fun j => ii ((ty j : Nat) : Int)))), (hR, .inl (cR, 4, .inl (fun j => ii (((fun _ => 0) j : Nat) : Int)))), (hO, .inl (cO, 1024, .inl g))] := hD.arr (q0 := 3) rfl
                  refine lv_aload_n C.1 C.2.1 dX2_curve_89 rfl (lv_at hl 2 rfl) ?_
                  have hFc := va_free (wc := [(hm, .inr (2, MO (p1 : Int) (a1 : Int) (b1 : Int) m 0 dr 0 hX hY hR hO sx sy dk dv)), (hX, .inl (cX, 1100, .inl (fun j => ii ((tx j : Nat) : Int)))), (hY, .inl (cY, 1100, .inl (fun j => ii ((ty j : Nat) : Int)))), (hO, .inl (cO, 1024, .inl g))]) hD hS hA [0, 1, 2, 4] rfl
                  refine cn_V (As := []) (rest := []) C (c_X2_findBase l D z0 _ hm p1 a1 b1 m 0 dr 0 hX hY hR hO sx sy dk dv (by omega) (by omega) (by omega) cX cY cO tx ty g hgg) (pcm_preV _ hN (Zs.on hZ hS hAz) (by have := hS.1; omega) (hP.sub (ws' := [(hm, .inr (2, MO (p1 : Int) (a1 : Int) (b1 : Int) m 0 dr 0 hX hY hR hO sx sy dk dv)), (hX, .inl (cX, 1100, .inl (fun j => ii ((tx j : Nat) : Int)))), (hY, .inl (cY, 1100, .inl (fun j => ii ((ty j : Nat) : Int)))), (hO, .inl (cO, 1024, .inl g))]) [0, 1, 2, 4] rfl) (hK.sub (tys' := [(cX, .int), (cY, .int), (cO, .int)]) [0, 1, 3] rfl) ((hD.sub (ws' := [(hm, .inr (2, MO (p1 : Int) (a1 : Int) (b1 : Int) m 0 dr 0 hX hY hR hO sx sy dk dv)), (hX, .inl (cX, 1100, .inl (fun j => ii ((tx j : Nat) : Int)))), (hY, .inl (cY, 1100, .inl (fun j => ii ((ty j : Nat) : Int)))), (hO, .inl (cO, 1024, .inl g))]) [0, 1, 2, 4] (by decide) rfl).weaken (fun _ _ _ h => hAz _ h)) 0 (ci := 2) rfl rfl) hS hFc aw_b_X2_findBase aw_m_X2_71 aw_v_X2_findBase aw_i_X2 aw_e_X2_findBase ⟨rfl, rfl⟩ 0 (by decide +kernel) rfl ⟨by decide, by decide⟩ hl.1 rfl (Nat.le_of_ble_eq_true rfl) dX2_curve_90 ⟨by decide, by decide⟩ (fun t H1 locs1 ht hvm _ hB jz1 jk1 hS => ?_)
                  obtain ⟨hP1, hK1, hD1⟩ := hB
                  rw [ht] at hP1
                  obtain ⟨hP, hD⟩ := va_join (wr := [(hR, .inl (cR, 4, .inl (fun j => ii (((fun _ => 0) j : Nat) : Int))))]) (w1 := [(hm, .inr (2, MO (p1 : Int) (a1 : Int) (b1 : Int) m 0 dr 0 hX hY hR hO sx sy dk dv)), (hX, .inl (cX, 1100, .inl (fun j => ii (((va_up tx 1 (bxF p1 a1 b1)) j : Nat) : Int)))), (hY, .inl (cY, 1100, .inl (fun j => ii (((va_up ty 1 (byF p1 a1 b1)) j : Nat) : Int)))), (hO, .inl (cO, 1024, .inl g))]) hP hD [0, 1, 2, 4] [3] rfl rfl (by decide) (by decide) jk1 hFc hP1 hD1
                  have hP := hP.sub (ws' := [(hm, .inr (2, MO (p1 : Int) (a1 : Int) (b1 : Int) m 0 dr 0 hX hY hR hO sx sy dk dv)), (hX, .inl (cX, 1100, .inl (fun j => ii (((va_up tx 1 (bxF p1 a1 b1)) j : Nat) : Int)))), (hY, .inl (cY, 1100, .inl (fun j => ii (((va_up ty 1 (byF p1 a1 b1)) j : Nat) : Int)))), (hR, .inl (cR, 4, .inl (fun j => ii (((fun _ => 0) j : Nat) : Int)))), (hO, .inl (cO, 1024, .inl g))]) [1, 2, 3, 0, 4] rfl
                  have hD := hD.sub (ws' := [(hm, .inr (2, MO (p1 : Int) (a1 : Int) (b1 : Int) m 0 dr 0 hX hY hR hO sx sy dk dv)), (hX, .inl (cX, 1100, .inl (fun j => ii (((va_up tx 1 (bxF p1 a1 b1)) j : Nat) : Int)))), (hY, .inl (cY, 1100, .inl (fun j => ii (((va_up ty 1 (byF p1 a1 b1)) j : Nat) : Int)))), (hR, .inl (cR, 4, .inl (fun j => ii (((fun _ => 0) j : Nat) : Int)))), (hO, .inl (cO, 1024, .inl g))]) [1, 2, 3, 0, 4] (by decide) rfl
                  have ex : va_up tx 1 (bxF p1 a1 b1) = (tbX (fun j => (T j).1) tx 2) := by
                    have e := tbX_up (fun j => (T j).1) tx (i := 1) (Nat.le_refl 1)
                    rw [tbX_1] at e
                    rw [← e]
                    show _ = va_up tx 1 (T 1).1
                    rw [hT1]
                  have ey : va_up ty 1 (byF p1 a1 b1) = (tbX (fun j => (T j).2) ty 2) := by
                    have e := tbX_up (fun j => (T j).2) ty (i := 1) (Nat.le_refl 1)
                    rw [tbX_1] at e
                    rw [← e]
                    show _ = va_up ty 1 (T 1).2
                    rw [hT1]
                  rw [ex, ey] at hP hD
                  have loop : ∀ (k : Nat) (ls : Array Slot) (H : Heap) (locs : List Loc) (s1 s2 : Int32) (i : Nat), i + k = m → 2 ≤ i → va_P D clX [(hm, .inr (2, MO (p1 : Int) (a1 : Int) (b1 : Int) m 0 dr 0 hX hY hR hO s1 s2 dk dv)), (hX, .inl (cX, 1100, .inl (fun j => ii (((tbX (fun j => (T j).1) tx i) j : Nat) : Int)))), (hY, .inl (cY, 1100, .inl (fun j => ii (((tbX (fun j => (T j).2) ty i) j : Nat) : Int)))), (hR, .inl (cR, 4, .inl (fun j => ii (((fun _ => 0) j : Nat) : Int)))), (hO, .inl (cO, 1024, .inl g))] H → va_D A [(hm, .inr (2, MO (p1 : Int) (a1 : Int) (b1 : Int) m 0 dr 0 hX hY hR hO s1 s2 dk dv)), (hX, .inl (cX, 1100, .inl (fun j => ii (((tbX (fun j => (T j).1) tx i) j : Nat) : Int)))), (hY, .inl (cY, 1100, .inl (fun j => ii (((tbX (fun j => (T j).2) ty i) j : Nat) : Int)))), (hR, .inl (cR, 4, .inl (fun j => ii (((fun _ => 0) j : Nat) : Int)))), (hO, .inl (cO, 1024, .inl g))] → va_S A S0.heap H locs → lv_has ls 6 [(0, .ref hm), (5, .int (ii (i : Int)))] → W P0 l E0 ({ frames := 2, cells := 0, slots := 0, locals := 60 } : Room) S0 M0 A0 B0 T0 K0 H locs 0 0 (MQ B0 (QcM (some (.int (ii (m : Int)))) True (fun t => ∃ (g : Nat → Int32) (s1 s2 : Int32), Wd D [(hm, .inr (2, MO (p1 : Int) (a1 : Int) (b1 : Int) m 0 dr 0 hX hY hR hO s1 s2 dk dv)), (hX, .inl (cX, 1100, .inl (fun j => ii (((tbX (fun j => (T j).1) tx m) j : Nat) : Int)))), (hY, .inl (cY, 1100, .inl (fun j => ii (((tbX (fun j => (T j).2) ty m) j : Nat) : Int)))), (hR, .inl (cR, 4, .inl (fun j => ii (((fun _ => 0) j : Nat) : Int)))), (hO, .inl (cO, 1024, .inl g))] [(cX, .int), (cY, .int), (cR, .int), (cO, .int)] A t) A) A0 S0 0 0 A) (F0 M0 96 ls []) := by
                    intro k
                    induction k with
                    | zero =>
                      intro ls H locs s1 s2 i hi h2i hP hD hS hl
                      refine lv_iload C.1 C.2.1 dX2_curve_96 (lv_at hl 1 rfl) ?_
                      refine lv_aload_n C.1 C.2.1 dX2_curve_98 rfl (lv_at hl 0 rfl) ?_
                      refine gf C hK hP 0 rfl rfl aw_uX2 3 (by decide) aw_f_X2_65 rfl dX2_curve_99 ?_
                      refine i_icmp_ge (tgt := 167) C dX2_curve_102 (by decide) ⟨by omega, by omega⟩ ⟨by omega, by omega⟩ (fun h5 => ?_) (fun h5 => ?_)
                      · have e : i = m := by omega
                        rw [e] at hP hD
                        refine lv_aload_n C.1 C.2.1 dX2_curve_167 rfl (lv_at hl 0 rfl) ?_
                        refine gf C hK hP 0 rfl rfl aw_uX2 3 (by decide) aw_f_X2_65 rfl dX2_curve_168 ?_
                        exact pz_i C hr hk hS trivial (fun t ht hvm => ⟨g, s1, s2, by rw [ht]; exact hP, va_K.moved hvm hK, hD⟩) dX2_curve_171 rfl (by decide) (by decide)
                      · omega
                    | succ k ih =>
                      intro ls H locs s1 s2 i hi h2i hP hD hS hl
                      refine lv_iload C.1 C.2.1 dX2_curve_96 (lv_at hl 1 rfl) ?_
                      refine lv_aload_n C.1 C.2.1 dX2_curve_98 rfl (lv_at hl 0 rfl) ?_
                      refine gf C hK hP 0 rfl rfl aw_uX2 3 (by decide) aw_f_X2_65 rfl dX2_curve_99 ?_
                      refine i_icmp_ge (tgt := 167) C dX2_curve_102 (by decide) ⟨by omega, by omega⟩ ⟨by omega, by omega⟩ (fun h5 => ?_) (fun h5 => ?_)
                      · omega
                      · have t1 := hTb (i - 1)
                        have t2 := hTb 1
                        refine lv_aload_n C.1 C.2.1 dX2_curve_105 rfl (lv_at hl 0 rfl) ?_
                        refine lv_aload_n C.1 C.2.1 dX2_curve_106 rfl (lv_at hl 0 rfl) ?_
                        refine gf C hK hP 0 rfl rfl aw_uX2 7 (by decide) aw_f_X2_7 rfl dX2_curve_107 ?_
                        refine lv_iload C.1 C.2.1 dX2_curve_110 (lv_at hl 1 rfl) ?_
                        refine i_const C dX2_curve_112 ?_
                        refine i_sub C dX2_curve_113 ?_
                        refine i_ald C hK hP 1 0 rfl rfl (i - 1) (by omega) (by omega) (by omega) dX2_curve_114 ?_
                        rw [show (tbX (fun j => (T j).1) tx i) (i - 1) = (T (i - 1)).1 from tbX_at (by omega) (by omega)]
                        refine lv_aload_n C.1 C.2.1 dX2_curve_115 rfl (lv_at hl 0 rfl) ?_
                        refine gf C hK hP 0 rfl rfl aw_uX2 8 (by decide) aw_f_X2_13 rfl dX2_curve_116 ?_
                        refine lv_iload C.1 C.2.1 dX2_curve_119 (lv_at hl 1 rfl) ?_
                        refine i_const C dX2_curve_121 ?_
                        refine i_sub C dX2_curve_122 ?_
                        refine i_ald C hK hP 2 1 rfl rfl (i - 1) (by omega) (by omega) (by omega) dX2_curve_123 ?_
                        rw [show (tbX (fun j => (T j).2) ty i) (i - 1) = (T (i - 1)).2 from tbX_at (by omega) (by omega)]
                        refine lv_aload_n C.1 C.2.1 dX2_curve_124 rfl (lv_at hl 0 rfl) ?_
                        refine gf C hK hP 0 rfl rfl aw_uX2 7 (by decide) aw_f_X2_7 rfl dX2_curve_125 ?_
                        refine i_const C dX2_curve_128 ?_
                        refine i_ald C hK hP 1 0 rfl rfl 1 (by omega) (by omega) (by omega) dX2_curve_129 ?_
                        rw [show (tbX (fun j => (T j).1) tx i) 1 = (T 1).1 from tbX_at (by omega) (by omega)]
                        refine lv_aload_n C.1 C.2.1 dX2_curve_130 rfl (lv_at hl 0 rfl) ?_
                        refine gf C hK hP 0 rfl rfl aw_uX2 8 (by decide) aw_f_X2_13 rfl dX2_curve_131 ?_
                        refine i_const C dX2_curve_134 ?_
                        refine i_ald C hK hP 2 1 rfl rfl 1 (by omega) (by omega) (by omega) dX2_curve_135 ?_
                        rw [show (tbX (fun j => (T j).2) ty i) 1 = (T 1).2 from tbX_at (by omega) (by omega)]
                        have hFc := va_free (wc := [(hm, .inr (2, MO (p1 : Int) (a1 : Int) (b1 : Int) m 0 dr 0 hX hY hR hO s1 s2 dk dv))]) hD hS hA [0] rfl
                        refine cn_V (As := [.int (ii (((T (i - 1)).1 : Nat) : Int)), .int (ii (((T (i - 1)).2 : Nat) : Int)), .int (ii (((T 1).1 : Nat) : Int)), .int (ii (((T 1).2 : Nat) : Int))]) (rest := []) C (c_X2_add l D z0 _ hm p1 a1 b1 m 0 dr 0 hX hY hR hO s1 s2 dk dv (by omega) (by omega) (by omega) (T (i - 1)).1 (T (i - 1)).2 (T 1).1 (T 1).2 t1.1 t1.2 t2.1 t2.2) (pcm_preV _ hN (Zs.on hZ hS hAz) (by have := hS.1; omega) (hP.sub (ws' := [(hm, .inr (2, MO (p1 : Int) (a1 : Int) (b1 : Int) m 0 dr 0 hX hY hR hO s1 s2 dk dv))]) [0] rfl) (hK.sub (tys' := []) [] rfl) ((hD.sub (ws' := [(hm, .inr (2, MO (p1 : Int) (a1 : Int) (b1 : Int) m 0 dr 0 hX hY hR hO s1 s2 dk dv))]) [0] (by decide) rfl).weaken (fun _ _ _ h => hAz _ h)) 0 (ci := 2) rfl rfl) hS hFc aw_b_X2_add aw_m_X2_74 aw_v_X2_add aw_i_X2 aw_e_X2_add ⟨rfl, rfl⟩ 4 (by decide +kernel) rfl ⟨by decide, by decide⟩ hl.1 rfl (Nat.le_of_ble_eq_true rfl) dX2_curve_136 ⟨by decide, by decide⟩ (fun t H1 locs1 ht hvm _ hB jz1 jk1 hS => ?_)
                        obtain ⟨hP1, hK1, hD1⟩ := hB
                        rw [ht] at hP1
                        obtain ⟨hP, hD⟩ := va_join (wr := [(hX, .inl (cX, 1100, .inl (fun j => ii (((tbX (fun j => (T j).1) tx i) j : Nat) : Int)))), (hY, .inl (cY, 1100, .inl (fun j => ii (((tbX (fun j => (T j).2) ty i) j : Nat) : Int)))), (hR, .inl (cR, 4, .inl (fun j => ii (((fun _ => 0) j : Nat) : Int)))), (hO, .inl (cO, 1024, .inl g))]) (w1 := [(hm, .inr (2, MO (p1 : Int) (a1 : Int) (b1 : Int) m 0 dr 0 hX hY hR hO (ii (axF (p1 : Int) (a1 : Int) (((T (i - 1)).1 : Nat) : Int) (((T (i - 1)).2 : Nat) : Int) (((T 1).1 : Nat) : Int) (((T 1).2 : Nat) : Int))) (ii (ayF (p1 : Int) (a1 : Int) (((T (i - 1)).1 : Nat) : Int) (((T (i - 1)).2 : Nat) : Int) (((T 1).1 : Nat) : Int) (((T 1).2 : Nat) : Int))) dk dv))]) hP hD [0] [1, 2, 3, 4] rfl rfl (by decide) (by decide) jk1 hFc hP1 hD1
                        have hP := hP.sub (ws' := [(hm, .inr (2, MO (p1 : Int) (a1 : Int) (b1 : Int) m 0 dr 0 hX hY hR hO (ii (axF (p1 : Int) (a1 : Int) (((T (i - 1)).1 : Nat) : Int) (((T (i - 1)).2 : Nat) : Int) (((T 1).1 : Nat) : Int) (((T 1).2 : Nat) : Int))) (ii (ayF (p1 : Int) (a1 : Int) (((T (i - 1)).1 : Nat) : Int) (((T (i - 1)).2 : Nat) : Int) (((T 1).1 : Nat) : Int) (((T 1).2 : Nat) : Int))) dk dv)), (hX, .inl (cX, 1100, .inl (fun j => ii (((tbX (fun j => (T j).1) tx i) j : Nat) : Int)))), (hY, .inl (cY, 1100, .inl (fun j => ii (((tbX (fun j => (T j).2) ty i) j : Nat) : Int)))), (hR, .inl (cR, 4, .inl (fun j => ii (((fun _ => 0) j : Nat) : Int)))), (hO, .inl (cO, 1024, .inl g))]) [4, 0, 1, 2, 3] rfl
                        have hD := hD.sub (ws' := [(hm, .inr (2, MO (p1 : Int) (a1 : Int) (b1 : Int) m 0 dr 0 hX hY hR hO (ii (axF (p1 : Int) (a1 : Int) (((T (i - 1)).1 : Nat) : Int) (((T (i - 1)).2 : Nat) : Int) (((T 1).1 : Nat) : Int) (((T 1).2 : Nat) : Int))) (ii (ayF (p1 : Int) (a1 : Int) (((T (i - 1)).1 : Nat) : Int) (((T (i - 1)).2 : Nat) : Int) (((T 1).1 : Nat) : Int) (((T 1).2 : Nat) : Int))) dk dv)), (hX, .inl (cX, 1100, .inl (fun j => ii (((tbX (fun j => (T j).1) tx i) j : Nat) : Int)))), (hY, .inl (cY, 1100, .inl (fun j => ii (((tbX (fun j => (T j).2) ty i) j : Nat) : Int)))), (hR, .inl (cR, 4, .inl (fun j => ii (((fun _ => 0) j : Nat) : Int)))), (hO, .inl (cO, 1024, .inl g))]) [4, 0, 1, 2, 3] (by decide) rfl
                        have e0 : T i = adF p1 a1 (T (i - 1)) (T 1) := by
                          have := hTs (i - 1) (by omega)
                          rw [show i - 1 + 1 = i by omega, ← hT1] at this
                          exact this
                        have w1 := axF_b (p1 : Int) (a1 : Int) (((T (i - 1)).1 : Nat) : Int) (((T (i - 1)).2 : Nat) : Int) (((T 1).1 : Nat) : Int) (((T 1).2 : Nat) : Int) (by omega)
                        have w2 := ayF_b (p1 : Int) (a1 : Int) (((T (i - 1)).1 : Nat) : Int) (((T (i - 1)).2 : Nat) : Int) (((T 1).1 : Nat) : Int) (((T 1).2 : Nat) : Int) (by omega)
                        have e1 : axF (p1 : Int) (a1 : Int) (((T (i - 1)).1 : Nat) : Int) (((T (i - 1)).2 : Nat) : Int) (((T 1).1 : Nat) : Int) (((T 1).2 : Nat) : Int) = (((T i).1 : Nat) : Int) := by
                          rw [e0]
                          show axF (p1 : Int) (a1 : Int) (((T (i - 1)).1 : Nat) : Int) (((T (i - 1)).2 : Nat) : Int) (((T 1).1 : Nat) : Int) (((T 1).2 : Nat) : Int) = ((axF (p1 : Int) (a1 : Int) (((T (i - 1)).1 : Nat) : Int) (((T (i - 1)).2 : Nat) : Int) (((T 1).1 : Nat) : Int) (((T 1).2 : Nat) : Int)).toNat : Int)
                          omega
                        have e2 : ayF (p1 : Int) (a1 : Int) (((T (i - 1)).1 : Nat) : Int) (((T (i - 1)).2 : Nat) : Int) (((T 1).1 : Nat) : Int) (((T 1).2 : Nat) : Int) = (((T i).2 : Nat) : Int) := by
                          rw [e0]
                          show ayF (p1 : Int) (a1 : Int) (((T (i - 1)).1 : Nat) : Int) (((T (i - 1)).2 : Nat) : Int) (((T 1).1 : Nat) : Int) (((T 1).2 : Nat) : Int) = ((ayF (p1 : Int) (a1 : Int) (((T (i - 1)).1 : Nat) : Int) (((T (i - 1)).2 : Nat) : Int) (((T 1).1 : Nat) : Int) (((T 1).2 : Nat) : Int)).toNat : Int)
                          omega
                        rw [e1, e2] at hP hD
                        refine lv_aload_n C.1 C.2.1 dX2_curve_139 rfl (lv_at hl 0 rfl) ?_
                        refine gf C hK hP 0 rfl rfl aw_uX2 7 (by decide) aw_f_X2_7 rfl dX2_curve_140 ?_
                        refine lv_iload C.1 C.2.1 dX2_curve_143 (lv_at hl 1 rfl) ?_
                        refine lv_aload_n C.1 C.2.1 dX2_curve_145 rfl (lv_at hl 0 rfl) ?_
                        refine gf C hK hP 0 rfl rfl aw_uX2 11 (by decide) aw_f_X2_48 rfl dX2_curve_146 ?_
                        refine i_ast C hK hP hD hS 1 0 rfl rfl i rfl (by omega) (by omega) dX2_curve_149 (fun H1 locs1 hP hD hS => ?_)
                        rw [show va_up (fun j => ii (((tbX (fun j => (T j).1) tx i) j : Nat) : Int)) i (ii (((T i).1 : Nat) : Int)) = fun j => ii (((tbX (fun j => (T j).1) tx (i + 1)) j : Nat) : Int) from (up_I (tbX (fun j => (T j).1) tx i) i (T i).1).trans (by rw [show va_up (tbX (fun j => (T j).1) tx i) i (T i).1 = (tbX (fun j => (T j).1) tx (i + 1)) from tbX_up (fun j => (T j).1) tx (by omega)])] at hP hD
                        have hP : va_P D clX [(hm, .inr (2, MO (p1 : Int) (a1 : Int) (b1 : Int) m 0 dr 0 hX hY hR hO (ii (((T i).1 : Nat) : Int)) (ii (((T i).2 : Nat) : Int)) dk dv)), (hX, .inl (cX, 1100, .inl (fun j => ii (((tbX (fun j => (T j).1) tx (i + 1)) j : Nat) : Int)))), (hY, .inl (cY, 1100, .inl (fun j => ii (((tbX (fun j => (T j).2) ty i) j : Nat) : Int)))), (hR, .inl (cR, 4, .inl (fun j => ii (((fun _ => 0) j : Nat) : Int)))), (hO, .inl (cO, 1024, .inl g))] H1 := hP
                        have hD : va_D A [(hm, .inr (2, MO (p1 : Int) (a1 : Int) (b1 : Int) m 0 dr 0 hX hY hR hO (ii (((T i).1 : Nat) : Int)) (ii (((T i).2 : Nat) : Int)) dk dv)), (hX, .inl (cX, 1100, .inl (fun j => ii (((tbX (fun j => (T j).1) tx (i + 1)) j : Nat) : Int)))), (hY, .inl (cY, 1100, .inl (fun j => ii (((tbX (fun j => (T j).2) ty i) j : Nat) : Int)))), (hR, .inl (cR, 4, .inl (fun j => ii (((fun _ => 0) j : Nat) : Int)))), (hO, .inl (cO, 1024, .inl g))] := hD
                        refine lv_aload_n C.1 C.2.1 dX2_curve_150 rfl (lv_at hl 0 rfl) ?_
                        refine gf C hK hP 0 rfl rfl aw_uX2 8 (by decide) aw_f_X2_13 rfl dX2_curve_151 ?_
                        refine lv_iload C.1 C.2.1 dX2_curve_154 (lv_at hl 1 rfl) ?_
                        refine lv_aload_n C.1 C.2.1 dX2_curve_156 rfl (lv_at hl 0 rfl) ?_
                        refine gf C hK hP 0 rfl rfl aw_uX2 12 (by decide) aw_f_X2_51 rfl dX2_curve_157 ?_
                        refine i_ast C hK hP hD hS 2 1 rfl rfl i rfl (by omega) (by omega) dX2_curve_160 (fun H1 locs1 hP hD hS => ?_)
                        rw [show va_up (fun j => ii (((tbX (fun j => (T j).2) ty i) j : Nat) : Int)) i (ii (((T i).2 : Nat) : Int)) = fun j => ii (((tbX (fun j => (T j).2) ty (i + 1)) j : Nat) : Int) from (up_I (tbX (fun j => (T j).2) ty i) i (T i).2).trans (by rw [show va_up (tbX (fun j => (T j).2) ty i) i (T i).2 = (tbX (fun j => (T j).2) ty (i + 1)) from tbX_up (fun j => (T j).2) ty (by omega)])] at hP hD
                        refine lv_iinc C.1 C.2.1 dX2_curve_161 hl (k := 1) rfl (ii_add (i : Int) 1) (by decide) rfl (fun ls hl => ?_)
                        have hl : lv_has ls 6 [(5, .int (ii ((i : Int) + 1))), (0, .ref hm)] := hl
                        refine lv_goto (tgt := 96) C.1 C.2.1 dX2_curve_164 (by decide) ?_
                        exact ih ls H1 locs1 _ _ (i + 1) (by omega) (by omega) hP hD hS (lv_sub (l' := [(0, .ref hm), (5, .int (ii ((i : Int) + 1)))]) hl [1, 0] rfl)
                  refine i_const C dX2_curve_93 ?_
                  refine lv_istore C.1 C.2.1 dX2_curve_94 hl (by decide) rfl (fun ls hl => ?_)
                  have hl : lv_has ls 6 [(5, .int (ii 2)), (4, .int (ii (m : Int))), (0, .ref hm), (1, .int (ii (p1 : Int))), (2, .int (ii (a1 : Int))), (3, .int (ii (b1 : Int)))] := hl
                  exact loop (m - 2) ls H1 locs1 sx sy 2 (by omega) (by omega) hP hD hS (lv_sub (l' := [(0, .ref hm), (5, .int (ii 2))]) hl [2, 0] rfl)
                · omega
      · have := gz.mpr ⟨rfl, rfl, rfl⟩
        omega
    · have ev : cv = 1 := by rw [hcv, if_neg (show ¬ m < 3 by omega), if_pos (show pv = 0 by omega)]
      subst ev
      rw [if_neg (show ¬ (1 : Int) = 0 by decide)]
      rw [show (fun t => ∃ (g : Nat → Int32) (s1 s2 : Int32), Wd D (if (1 : Int) = 0 then [(hm, .inr (2, MO pp aa bb m 0 dr 0 hX hY hR hO s1 s2 dk dv)), (hX, .inl (cX, 1100, .inl (fun j => ii (((tbX (fun j => (T j).1) tx m) j : Nat) : Int)))), (hY, .inl (cY, 1100, .inl (fun j => ii (((tbX (fun j => (T j).2) ty m) j : Nat) : Int)))), (hR, .inl (cR, 4, .inl (fun j => ii (((fun _ => 0) j : Nat) : Int)))), (hO, .inl (cO, 1024, .inl g))] else [(hm, .inr (2, MO p a b n key dr 1 hX hY hR hO sx sy dk dv)), (hX, .inl (cX, 1100, .inl (fun j => ii ((tx j : Nat) : Int)))), (hY, .inl (cY, 1100, .inl (fun j => ii ((ty j : Nat) : Int)))), (hR, .inl (cR, 4, .inl (fun j => ii ((ix j : Nat) : Int)))), (hO, .inl (cO, 1024, .inl g))]) [(cX, .int), (cY, .int), (cR, .int), (cO, .int)] A t) = fun t => ∃ (g : Nat → Int32) (s1 s2 : Int32), Wd D [(hm, .inr (2, MO p a b n key dr 1 hX hY hR hO sx sy dk dv)), (hX, .inl (cX, 1100, .inl (fun j => ii ((tx j : Nat) : Int)))), (hY, .inl (cY, 1100, .inl (fun j => ii ((ty j : Nat) : Int)))), (hR, .inl (cR, 4, .inl (fun j => ii ((ix j : Nat) : Int)))), (hO, .inl (cO, 1024, .inl g))] [(cX, .int), (cY, .int), (cR, .int), (cO, .int)] A t from rfl]
      refine i_const C dX2_curve_25 ?_
      refine lv_goto (tgt := 30) C.1 C.2.1 dX2_curve_26 (by decide) ?_
      refine i_const C dX2_curve_30 ?_
      refine i_const C dX2_curve_31 ?_
      have hFc := va_free (wc := [(hm, .inr (2, MO p a b n key dr th hX hY hR hO sx sy dk dv))]) hD hS hA [0] rfl
      refine cn_V (As := [.int (ii 1), .int (ii 0), .int (ii 0)]) (rest := []) C (c_X2_good l D z0 _ hm p a b n key dr th hX hY hR hO sx sy dk dv 1 0 0 (by omega) (by omega) (by omega)) (pcm_preV _ hN (Zs.on hZ hS hAz) (by have := hS.1; omega) (hP.sub (ws' := [(hm, .inr (2, MO p a b n key dr th hX hY hR hO sx sy dk dv))]) [0] rfl) (hK.sub (tys' := []) [] rfl) ((hD.sub (ws' := [(hm, .inr (2, MO p a b n key dr th hX hY hR hO sx sy dk dv))]) [0] (by decide) rfl).weaken (fun _ _ _ h => hAz _ h)) 0 (ci := 2) rfl rfl) hS hFc aw_b_X2_good aw_m_X2_58 aw_v_X2_good aw_i_X2 aw_e_X2_good ⟨rfl, rfl⟩ 3 (by decide +kernel) rfl ⟨by decide, by decide⟩ hl.1 rfl (Nat.le_of_ble_eq_true rfl) dX2_curve_32 ⟨by decide, by decide⟩ (fun t H1 locs1 ht hvm _ hB jz1 jk1 hS => ?_)
      obtain ⟨hP1, hK1, hD1⟩ := hB
      rw [ht] at hP1
      obtain ⟨hP, hD⟩ := va_join (wr := [(hX, .inl (cX, 1100, .inl (fun j => ii ((tx j : Nat) : Int)))), (hY, .inl (cY, 1100, .inl (fun j => ii ((ty j : Nat) : Int)))), (hR, .inl (cR, 4, .inl (fun j => ii ((ix j : Nat) : Int)))), (hO, .inl (cO, 1024, .inl g))]) (w1 := [(hm, .inr (2, MO p a b n key dr (gdF 1 0 0) hX hY hR hO sx sy dk dv))]) hP hD [0] [1, 2, 3, 4] rfl rfl (by decide) (by decide) jk1 hFc hP1 hD1
      have hP := hP.sub (ws' := [(hm, .inr (2, MO p a b n key dr (gdF 1 0 0) hX hY hR hO sx sy dk dv)), (hX, .inl (cX, 1100, .inl (fun j => ii ((tx j : Nat) : Int)))), (hY, .inl (cY, 1100, .inl (fun j => ii ((ty j : Nat) : Int)))), (hR, .inl (cR, 4, .inl (fun j => ii ((ix j : Nat) : Int)))), (hO, .inl (cO, 1024, .inl g))]) [4, 0, 1, 2, 3] rfl
      have hD := hD.sub (ws' := [(hm, .inr (2, MO p a b n key dr (gdF 1 0 0) hX hY hR hO sx sy dk dv)), (hX, .inl (cX, 1100, .inl (fun j => ii ((tx j : Nat) : Int)))), (hY, .inl (cY, 1100, .inl (fun j => ii ((ty j : Nat) : Int)))), (hR, .inl (cR, 4, .inl (fun j => ii ((ix j : Nat) : Int)))), (hO, .inl (cO, 1024, .inl g))]) [4, 0, 1, 2, 3] (by decide) rfl
      have gb := goF_b (gdF 1 0 0)
      have g0 := goF_0 (k := gdF 1 0 0)
      have gz := gdF_0 (k1 := 1) (k2 := 0) (k3 := 0)
      refine i_if_ne (tgt := 40) C dX2_curve_35 (by decide) ⟨by omega, by omega⟩ (fun h2 => ?_) (fun h2 => ?_)
      · have := gz.mp (Classical.byContradiction fun z => h2 (g0.mpr z))
        omega
      · have hP : va_P D clX [(hm, .inr (2, MO p a b n key dr 1 hX hY hR hO sx sy dk dv)), (hX, .inl (cX, 1100, .inl (fun j => ii ((tx j : Nat) : Int)))), (hY, .inl (cY, 1100, .inl (fun j => ii ((ty j : Nat) : Int)))), (hR, .inl (cR, 4, .inl (fun j => ii ((ix j : Nat) : Int)))), (hO, .inl (cO, 1024, .inl g))] H1 := hP
        have hD : va_D A [(hm, .inr (2, MO p a b n key dr 1 hX hY hR hO sx sy dk dv)), (hX, .inl (cX, 1100, .inl (fun j => ii ((tx j : Nat) : Int)))), (hY, .inl (cY, 1100, .inl (fun j => ii ((ty j : Nat) : Int)))), (hR, .inl (cR, 4, .inl (fun j => ii ((ix j : Nat) : Int)))), (hO, .inl (cO, 1024, .inl g))] := hD
        refine i_const C dX2_curve_38 ?_
        exact pz_i C hr hk hS trivial (fun t ht hvm => ⟨g, 0, 0, by rw [ht]; exact hP, va_K.moved hvm hK, hD⟩) dX2_curve_39 rfl (by decide) (by decide)
set_option maxRecDepth 100000 in
set_option maxHeartbeats 1000000 in
theorem c_X2_init (l : Launch) (D : va_G) (z0 sz : Nat) (hm : Nat) : Met l yX2_init (Cond.code yX2_init cX2_init 1 none :: AW) ({ frames := 1, cells := 4, slots := 3228, locals := 40 } : Room) (PcM D z0 sz [(hm, .inr (2, [.int 0, .int 0, .int 0, .int 0, .int 0, .int 0, .int 0, .null, .null, .null, .null, .int 0, .int 0, .int 0, .int 0]))] [] [.ref hm]) (QcM none True (fun t => ∃ (hX hY hR hO : Nat) (cX cY cR cO : ClassId), Wd D [(hm, .inr (2, MO 0 0 0 ((0 : Nat) : Int) 0 0 0 hX hY hR hO 0 0 0 0)), (hX, .inl (cX, 1100, .inl (fun j => ii (((fun _ => 0) j : Nat) : Int)))), (hY, .inl (cY, 1100, .inl (fun j => ii (((fun _ => 0) j : Nat) : Int)))), (hR, .inl (cR, 4, .inl (fun j => ii (((fun _ => 0) j : Nat) : Int)))), (hO, .inl (cO, 1024, .inl (fun _ => 0)))] [(cX, .int), (cY, .int), (cR, .int), (cO, .int)] (va_A [(hm, .inr (2, [.int 0, .int 0, .int 0, .int 0, .int 0, .int 0, .int 0, .null, .null, .null, .null, .int 0, .int 0, .int 0, .int 0]))] sz) t) (va_A [(hm, .inr (2, [.int 0, .int 0, .int 0, .int 0, .int 0, .int 0, .int 0, .null, .null, .null, .null, .int 0, .int 0, .int 0, .int 0]))] sz)) 4 3228 (va_A [(hm, .inr (2, [.int 0, .int 0, .int 0, .int 0, .int 0, .int 0, .int 0, .null, .null, .null, .null, .int 0, .int 0, .int 0, .int 0]))] sz) := by
  refine mt_N (by decide +kernel) (Nat.le_of_ble_eq_true rfl) ?_
  intro P0 E0 S0 M0 A0 B0 T0 K0 C hN hZ hsz hz hP hK hD hAz hA hr hk hin ls hl
  have hl : lv_has ls 1 [(0, .ref hm)] := hl
  generalize hAe : va_A [(hm, .inr (2, [.int 0, .int 0, .int 0, .int 0, .int 0, .int 0, .int 0, .null, .null, .null, .null, .int 0, .int 0, .int 0, .int 0]))] sz = A at hD hAz hA ⊢
  have hS : va_S A S0.heap S0.heap [] := va_S.rf
  refine lv_aload_n C.1 C.2.1 dX2_init_0 rfl (lv_at hl 0 rfl) ?_
  refine o_init C aw_m_X2_1 hl.1 dX2_init_1 ⟨by decide, by decide⟩ ?_
  refine lv_aload_n C.1 C.2.1 dX2_init_4 rfl (lv_at hl 0 rfl) ?_
  refine i_sipush C dX2_init_5 (by decide +kernel) ?_
  refine va_newa (atype := .int) C.1 C.2.1 (C.2.2.2.2 _ aw_a_int) rfl hK hP hD hS hA (a0 := (1100, .inl (fun _ => 0))) (N' := 1100) (fun cA => rfl) (by decide +kernel) (by decide +kernel) (Nat.le_of_ble_eq_true rfl) (Nat.le_of_ble_eq_true rfl) (Nat.le_of_ble_eq_true rfl) dX2_init_8 (fun hX cX H1 hK hP hD hS => ?_)
  have hP : va_P D clX [(hm, .inr (2, [.int 0, .int 0, .int 0, .int 0, .int 0, .int 0, .int 0, .null, .null, .null, .null, .int 0, .int 0, .int 0, .int 0])), (hX, .inl (cX, 1100, .inl (fun _ => 0)))] H1 := hP
  have hD : va_D A [(hm, .inr (2, [.int 0, .int 0, .int 0, .int 0, .int 0, .int 0, .int 0, .null, .null, .null, .null, .int 0, .int 0, .int 0, .int 0])), (hX, .inl (cX, 1100, .inl (fun _ => 0)))] := hD
  have hK : va_K D clX [(cX, .int)] S0 := hK
  refine p_f C hK hP hD hS 0 rfl rfl aw_uX2 tyX2 tyX2_ok nmX2 7 (by decide) aw_f_X2_7 rfl rfl rfl (Nat.le_of_ble_eq_true rfl) dX2_init_10 (fun H1 locs1 hP hD hS => ?_)
  have hP : va_P D clX [(hm, .inr (2, [.int 0, .int 0, .int 0, .int 0, .int 0, .int 0, .int 0, .ref hX, .null, .null, .null, .int 0, .int 0, .int 0, .int 0])), (hX, .inl (cX, 1100, .inl (fun _ => 0)))] H1 := hP
  have hD : va_D A [(hm, .inr (2, [.int 0, .int 0, .int 0, .int 0, .int 0, .int 0, .int 0, .ref hX, .null, .null, .null, .int 0, .int 0, .int 0, .int 0])), (hX, .inl (cX, 1100, .inl (fun _ => 0)))] := hD
  refine lv_aload_n C.1 C.2.1 dX2_init_13 rfl (lv_at hl 0 rfl) ?_
  refine i_sipush C dX2_init_14 (by decide +kernel) ?_
  refine va_newa (atype := .int) C.1 C.2.1 (C.2.2.2.2 _ aw_a_int) rfl hK hP hD hS hA (a0 := (1100, .inl (fun _ => 0))) (N' := 1100) (fun cA => rfl) (by decide +kernel) (by decide +kernel) (Nat.le_of_ble_eq_true rfl) (Nat.le_of_ble_eq_true rfl) (Nat.le_of_ble_eq_true rfl) dX2_init_17 (fun hY cY H1 hK hP hD hS => ?_)
  have hP : va_P D clX [(hm, .inr (2, [.int 0, .int 0, .int 0, .int 0, .int 0, .int 0, .int 0, .ref hX, .null, .null, .null, .int 0, .int 0, .int 0, .int 0])), (hX, .inl (cX, 1100, .inl (fun _ => 0))), (hY, .inl (cY, 1100, .inl (fun _ => 0)))] H1 := hP
  have hD : va_D A [(hm, .inr (2, [.int 0, .int 0, .int 0, .int 0, .int 0, .int 0, .int 0, .ref hX, .null, .null, .null, .int 0, .int 0, .int 0, .int 0])), (hX, .inl (cX, 1100, .inl (fun _ => 0))), (hY, .inl (cY, 1100, .inl (fun _ => 0)))] := hD
  have hK : va_K D clX [(cX, .int), (cY, .int)] S0 := hK
  refine p_f C hK hP hD hS 0 rfl rfl aw_uX2 tyX2 tyX2_ok nmX2 8 (by decide) aw_f_X2_13 rfl rfl rfl (Nat.le_of_ble_eq_true rfl) dX2_init_19 (fun H1 locs1 hP hD hS => ?_)
  have hP : va_P D clX [(hm, .inr (2, [.int 0, .int 0, .int 0, .int 0, .int 0, .int 0, .int 0, .ref hX, .ref hY, .null, .null, .int 0, .int 0, .int 0, .int 0])), (hX, .inl (cX, 1100, .inl (fun _ => 0))), (hY, .inl (cY, 1100, .inl (fun _ => 0)))] H1 := hP
  have hD : va_D A [(hm, .inr (2, [.int 0, .int 0, .int 0, .int 0, .int 0, .int 0, .int 0, .ref hX, .ref hY, .null, .null, .int 0, .int 0, .int 0, .int 0])), (hX, .inl (cX, 1100, .inl (fun _ => 0))), (hY, .inl (cY, 1100, .inl (fun _ => 0)))] := hD
  refine lv_aload_n C.1 C.2.1 dX2_init_22 rfl (lv_at hl 0 rfl) ?_
  refine i_const C dX2_init_23 ?_
  refine va_newa (atype := .int) C.1 C.2.1 (C.2.2.2.2 _ aw_a_int) rfl hK hP hD hS hA (a0 := (4, .inl (fun _ => 0))) (N' := 4) (fun cA => rfl) (by decide +kernel) (by decide +kernel) (Nat.le_of_ble_eq_true rfl) (Nat.le_of_ble_eq_true rfl) (Nat.le_of_ble_eq_true rfl) dX2_init_24 (fun hR cR H1 hK hP hD hS => ?_)
  have hP : va_P D clX [(hm, .inr (2, [.int 0, .int 0, .int 0, .int 0, .int 0, .int 0, .int 0, .ref hX, .ref hY, .null, .null, .int 0, .int 0, .int 0, .int 0])), (hX, .inl (cX, 1100, .inl (fun _ => 0))), (hY, .inl (cY, 1100, .inl (fun _ => 0))), (hR, .inl (cR, 4, .inl (fun _ => 0)))] H1 := hP
  have hD : va_D A [(hm, .inr (2, [.int 0, .int 0, .int 0, .int 0, .int 0, .int 0, .int 0, .ref hX, .ref hY, .null, .null, .int 0, .int 0, .int 0, .int 0])), (hX, .inl (cX, 1100, .inl (fun _ => 0))), (hY, .inl (cY, 1100, .inl (fun _ => 0))), (hR, .inl (cR, 4, .inl (fun _ => 0)))] := hD
  have hK : va_K D clX [(cX, .int), (cY, .int), (cR, .int)] S0 := hK
  refine p_f C hK hP hD hS 0 rfl rfl aw_uX2 tyX2 tyX2_ok nmX2 9 (by decide) aw_f_X2_16 rfl rfl rfl (Nat.le_of_ble_eq_true rfl) dX2_init_26 (fun H1 locs1 hP hD hS => ?_)
  have hP : va_P D clX [(hm, .inr (2, [.int 0, .int 0, .int 0, .int 0, .int 0, .int 0, .int 0, .ref hX, .ref hY, .ref hR, .null, .int 0, .int 0, .int 0, .int 0])), (hX, .inl (cX, 1100, .inl (fun _ => 0))), (hY, .inl (cY, 1100, .inl (fun _ => 0))), (hR, .inl (cR, 4, .inl (fun _ => 0)))] H1 := hP
  have hD : va_D A [(hm, .inr (2, [.int 0, .int 0, .int 0, .int 0, .int 0, .int 0, .int 0, .ref hX, .ref hY, .ref hR, .null, .int 0, .int 0, .int 0, .int 0])), (hX, .inl (cX, 1100, .inl (fun _ => 0))), (hY, .inl (cY, 1100, .inl (fun _ => 0))), (hR, .inl (cR, 4, .inl (fun _ => 0)))] := hD
  refine lv_aload_n C.1 C.2.1 dX2_init_29 rfl (lv_at hl 0 rfl) ?_
  refine i_sipush C dX2_init_30 (by decide +kernel) ?_
  refine va_newa (atype := .int) C.1 C.2.1 (C.2.2.2.2 _ aw_a_int) rfl hK hP hD hS hA (a0 := (1024, .inl (fun _ => 0))) (N' := 1024) (fun cA => rfl) (by decide +kernel) (by decide +kernel) (Nat.le_of_ble_eq_true rfl) (Nat.le_of_ble_eq_true rfl) (Nat.le_of_ble_eq_true rfl) dX2_init_33 (fun hO cO H1 hK hP hD hS => ?_)
  have hP : va_P D clX [(hm, .inr (2, [.int 0, .int 0, .int 0, .int 0, .int 0, .int 0, .int 0, .ref hX, .ref hY, .ref hR, .null, .int 0, .int 0, .int 0, .int 0])), (hX, .inl (cX, 1100, .inl (fun _ => 0))), (hY, .inl (cY, 1100, .inl (fun _ => 0))), (hR, .inl (cR, 4, .inl (fun _ => 0))), (hO, .inl (cO, 1024, .inl (fun _ => 0)))] H1 := hP
  have hD : va_D A [(hm, .inr (2, [.int 0, .int 0, .int 0, .int 0, .int 0, .int 0, .int 0, .ref hX, .ref hY, .ref hR, .null, .int 0, .int 0, .int 0, .int 0])), (hX, .inl (cX, 1100, .inl (fun _ => 0))), (hY, .inl (cY, 1100, .inl (fun _ => 0))), (hR, .inl (cR, 4, .inl (fun _ => 0))), (hO, .inl (cO, 1024, .inl (fun _ => 0)))] := hD
  have hK : va_K D clX [(cX, .int), (cY, .int), (cR, .int), (cO, .int)] S0 := hK
  refine p_f C hK hP hD hS 0 rfl rfl aw_uX2 tyX2 tyX2_ok nmX2 10 (by decide) aw_f_X2_19 rfl rfl rfl (Nat.le_of_ble_eq_true rfl) dX2_init_35 (fun H1 locs1 hP hD hS => ?_)
  have hP : va_P D clX [(hm, .inr (2, [.int 0, .int 0, .int 0, .int 0, .int 0, .int 0, .int 0, .ref hX, .ref hY, .ref hR, .ref hO, .int 0, .int 0, .int 0, .int 0])), (hX, .inl (cX, 1100, .inl (fun _ => 0))), (hY, .inl (cY, 1100, .inl (fun _ => 0))), (hR, .inl (cR, 4, .inl (fun _ => 0))), (hO, .inl (cO, 1024, .inl (fun _ => 0)))] H1 := hP
  have hD : va_D A [(hm, .inr (2, [.int 0, .int 0, .int 0, .int 0, .int 0, .int 0, .int 0, .ref hX, .ref hY, .ref hR, .ref hO, .int 0, .int 0, .int 0, .int 0])), (hX, .inl (cX, 1100, .inl (fun _ => 0))), (hY, .inl (cY, 1100, .inl (fun _ => 0))), (hR, .inl (cR, 4, .inl (fun _ => 0))), (hO, .inl (cO, 1024, .inl (fun _ => 0)))] := hD
  exact pz_v C hr hk hS trivial (fun t ht hvm => ⟨hX, hY, hR, hO, cX, cY, cR, cO, by rw [ht]; exact hP, va_K.moved hvm hK, hD⟩) dX2_init_38 (Nat.le_of_ble_eq_true rfl) (Nat.le_of_ble_eq_true rfl)
