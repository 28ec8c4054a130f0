/-! Arrays.fill; the class: countPoints, the constructors. By wip/whole/tools/gen10.py. -/
set_option maxRecDepth 100000 in
set_option maxHeartbeats 4000000 in
theorem c_fill (l : Launch) (D : va_G) (z0 sz : Nat) (ha n : Nat) (cI : ClassId) (f : Nat → Int32) (v : Int32) (hn : n ≤ 2000) : Met l yJA_fill (Cond.code yJA_fill cJA_fill 4 none :: AW) ({ frames := 0, cells := 0, slots := 0, locals := 0 } : Room) (PcM D z0 sz [(ha, .inl (cI, n, .inl f))] [(cI, .int)] [.ref ha, .int v]) (QcM none True (Wd D [(ha, .inl (cI, n, .inl (fun _ => v)))] [(cI, .int)] (va_A [(ha, .inl (cI, n, .inl f))] sz)) (va_A [(ha, .inl (cI, n, .inl f))] sz)) 0 0 (va_A [(ha, .inl (cI, n, .inl f))] sz) := by
  refine mt_N (by decide +kernel) (Nat.le_of_ble_eq_true rfl) ?_
  intro P0 E0 S0 M0 A0 B0 T0 K0 C hN hZ hsz hz hP hK hD hAz hA hr hk hin ls hl
  have hl : lv_has ls 4 [(0, .ref ha), (1, .int v)] := hl
  generalize hAe : va_A [(ha, .inl (cI, n, .inl f))] sz = A at hD hAz hA ⊢
  have hS : va_S A S0.heap S0.heap [] := va_S.rf
  have loop : ∀ (k : Nat) (ls : Array Slot) (H : Heap) (locs : List Loc) (g : Nat → Int32) (i : Nat), i + k = n → (∀ j, j < i → g j = v) → va_P D clX [(ha, .inl (cI, n, .inl g))] H → va_D A [(ha, .inl (cI, n, .inl g))] → va_S A S0.heap H locs → lv_has ls 4 [(0, .ref ha), (1, .int v), (2, .int (ii (i : Int))), (3, .int (ii (n : Int)))] → W P0 l E0 ({ frames := 0, cells := 0, slots := 0, locals := 0 } : Room) S0 M0 A0 B0 T0 K0 H locs 0 0 (MQ B0 (QcM none True (Wd D [(ha, .inl (cI, n, .inl (fun _ => v)))] [(cI, .int)] A) A) A0 S0 0 0 A) (F0 M0 5 ls []) := by
    intro k
    induction k with
    | zero =>
    intro ls H locs g i hi hg hP hD hS hl
    refine lv_iload_n C.1 C.2.1 dJA_fill_5 rfl (lv_at hl 2 rfl) ?_
    refine lv_iload_n C.1 C.2.1 dJA_fill_6 rfl (lv_at hl 3 rfl) ?_
    refine i_icmp_ge (tgt := 20) C dJA_fill_7 (by decide) ⟨by omega, by omega⟩ ⟨by omega, by omega⟩ (fun h1 => ?_) (fun h1 => ?_)
    · have hP : va_P D clX [(ha, .inl (cI, n, .inl (fun _ => v)))] H := hP.arr (q0 := 0) rfl (fun j hj => hg j (by omega))
      have hD : va_D A [(ha, .inl (cI, n, .inl (fun _ => v)))] := hD.arr (q0 := 0) rfl
      exact pz_v C hr hk hS trivial (fun t ht hvm => ⟨by rw [ht]; exact hP, va_K.moved hvm hK, hD⟩) dJA_fill_20 (by decide) (by decide)
    · omega
    | succ k ih =>
    intro ls H locs g i hi hg hP hD hS hl
    refine lv_iload_n C.1 C.2.1 dJA_fill_5 rfl (lv_at hl 2 rfl) ?_
    refine lv_iload_n C.1 C.2.1 dJA_fill_6 rfl (lv_at hl 3 rfl) ?_
    refine i_icmp_ge (tgt := 20) C dJA_fill_7 (by decide) ⟨by omega, by omega⟩ ⟨by omega, by omega⟩ (fun h1 => ?_) (fun h1 => ?_)
    · omega
    · refine lv_aload_n C.1 C.2.1 dJA_fill_10 rfl (lv_at hl 0 rfl) ?_
      refine lv_iload_n C.1 C.2.1 dJA_fill_11 rfl (lv_at hl 2 rfl) ?_
      refine lv_iload_n C.1 C.2.1 dJA_fill_12 rfl (lv_at hl 1 rfl) ?_
      refine i_ast C hK hP hD hS 0 0 rfl rfl i rfl (by omega) (by omega) dJA_fill_13 (fun H1 locs1 hP hD hS => ?_)
      refine lv_iinc C.1 C.2.1 dJA_fill_14 hl (k := 2) rfl (ii_add (i : Int) 1) (by decide) rfl (fun ls hl => ?_)
      have hl : lv_has ls 4 [(2, .int (ii ((i : Int) + 1))), (0, .ref ha), (1, .int v), (3, .int (ii (n : Int)))] := hl
      refine lv_goto (tgt := 5) C.1 C.2.1 dJA_fill_17 (by decide) ?_
      exact ih ls H1 locs1 _ (i + 1) (by omega) (fun j hj => by
        unfold va_up
        split
        · rfl
        · exact hg j (by omega)) hP hD hS (lv_sub (l' := [(0, .ref ha), (1, .int v), (2, .int (ii ((i : Int) + 1))), (3, .int (ii (n : Int)))]) hl [1, 2, 0, 3] rfl)
  refine i_const C dJA_fill_0 ?_
  refine lv_istore_n C.1 C.2.1 dJA_fill_1 rfl hl (by decide) rfl (fun ls hl => ?_)
  have hl : lv_has ls 4 [(2, .int (ii 0)), (0, .ref ha), (1, .int v)] := hl
  refine lv_aload_n C.1 C.2.1 dJA_fill_2 rfl (lv_at hl 1 rfl) ?_
  refine va_alen C.1 C.2.1 hK hP 0 0 rfl rfl (v := ii (n : Int)) (ii_nI n).symm dJA_fill_3 ?_
  refine lv_istore_n C.1 C.2.1 dJA_fill_4 rfl hl (by decide) rfl (fun ls hl => ?_)
  have hl : lv_has ls 4 [(3, .int (ii (n : Int))), (2, .int (ii 0)), (0, .ref ha), (1, .int v)] := hl
  exact loop n ls S0.heap [] f 0 (by omega) (fun j hj => absurd hj (Nat.not_lt_zero j)) hP hD hS (lv_sub (l' := [(0, .ref ha), (1, .int v), (2, .int (ii 0)), (3, .int (ii (n : Int)))]) hl [2, 3, 1, 0] rfl)
/-- how many of the first k numbers have the square v -/
noncomputable def rc (p k v : Nat) : Nat := sm (fun t => if (t * t % p == v) = true then 1 else 0) k
theorem rc_rt (p v : Nat) : rc p p v = rt p v := (sm_filter _ p).symm
theorem rc_s (p k v : Nat) : rc p (k + 1) v = rc p k v + (if (k * k % p == v) = true then 1 else 0) := rfl
theorem rc_le (p k v : Nat) : rc p k v ≤ k := by
  have := sm_le (f := fun t => if (t * t % p == v) = true then 1 else 0) (c := 1) (n := k) (fun t _ => by
    show (if (t * t % p == v) = true then 1 else 0) ≤ 1
    split <;> omega)
  unfold rc
  omega
theorem rc_up (p k : Nat) : va_up (fun v => ii ((rc p k v : Nat) : Int)) (k * k % p) (ii ((rc p k (k * k % p) : Nat) + 1)) = fun v => ii ((rc p (k + 1) v : Nat) : Int) := by
  funext v
  unfold va_up
  rw [rc_s]
  split
  · rename_i h
    subst h
    rw [if_pos (by simp)]
    rfl
  · rename_i h
    rw [if_neg (by simp; omega)]
    rfl
/-- the count so far -/
noncomputable def cs (p a b k : Nat) : Nat := 1 + sm (fun x => rc p p (cub p a b x)) k
theorem cs_cnt (p a b : Nat) : cs p a b p = cnt p a b := by
  unfold cs cnt
  rw [sm_range]
  congr 1
  exact sm_congr fun x _ => rc_rt p _
theorem cs_s (p a b k : Nat) : cs p a b (k + 1) = cs p a b k + rc p p (cub p a b k) := by
  unfold cs
  rw [sm_s]
  omega
theorem cs_le (p a b k : Nat) : cs p a b k ≤ 1 + k * p := by
  have := sm_le (f := fun x => rc p p (cub p a b x)) (c := p) (n := k) (fun x _ => rc_le p p _)
  unfold cs
  omega
set_option maxRecDepth 100000 in
set_option maxHeartbeats 4000000 in
theorem c_X1_countPoints (l : Launch) (D : va_G) (z0 sz : Nat) (hx hr0 hq0 : Nat) (tk : Value) (sec dr : Int) (cQ : ClassId) (f : Nat → Int32) (p a b : Nat) (hp : 5 ≤ p ∧ p ≤ 1021) (ha : a < p) (hb : b < p) : Met l yX1_countPoints (Cond.code yX1_countPoints cX1_countPoints 6 (some .int) :: AW) ({ frames := 1, cells := 0, slots := 0, locals := 24 } : Room) (PcM D z0 sz [(hx, .inr (1, [.ref hr0, .ref hq0, tk, .int (ii sec), .int (ii dr)])), (hq0, .inl (cQ, 1021, .inl f))] [(cQ, .int)] [.ref hx, .int (ii (p : Int)), .int (ii (a : Int)), .int (ii (b : Int))]) (QcM (some (.int (ii ((cnt p a b : Nat) : Int)))) True (Wd D [(hx, .inr (1, [.ref hr0, .ref hq0, tk, .int (ii sec), .int (ii dr)])), (hq0, .inl (cQ, 1021, .inl (fun v => ii ((rc p p v : Nat) : Int))))] [(cQ, .int)] (va_A [(hx, .inr (1, [.ref hr0, .ref hq0, tk, .int (ii sec), .int (ii dr)])), (hq0, .inl (cQ, 1021, .inl f))] sz)) (va_A [(hx, .inr (1, [.ref hr0, .ref hq0, tk, .int (ii sec), .int (ii dr)])), (hq0, .inl (cQ, 1021, .inl f))] sz)) 0 0 (va_A [(hx, .inr (1, [.ref hr0, .ref hq0, tk, .int (ii sec), .int (ii dr)])), (hq0, .inl (cQ, 1021, .inl f))] sz) := by
  refine mt_N (by decide +kernel) (Nat.le_of_ble_eq_true rfl) ?_
  intro P0 E0 S0 M0 A0 B0 T0 K0 C hN hZ hsz hz hP hK hD hAz hA hr hk hin ls hl
  have hl : lv_has ls 6 [(0, .ref hx), (1, .int (ii (p : Int))), (2, .int (ii (a : Int))), (3, .int (ii (b : Int)))] := hl
  generalize hAe : va_A [(hx, .inr (1, [.ref hr0, .ref hq0, tk, .int (ii sec), .int (ii dr)])), (hq0, .inl (cQ, 1021, .inl f))] sz = A at hD hAz hA ⊢
  have hS : va_S A S0.heap S0.heap [] := va_S.rf
  have loop2 : ∀ (k : Nat) (ls : Array Slot) (H : Heap) (locs : List Loc) (x : Nat), x + k = p → va_P D clX [(hx, .inr (1, [.ref hr0, .ref hq0, tk, .int (ii sec), .int (ii dr)])), (hq0, .inl (cQ, 1021, .inl (fun v => ii ((rc p p v : Nat) : Int))))] H → va_D A [(hx, .inr (1, [.ref hr0, .ref hq0, tk, .int (ii sec), .int (ii dr)])), (hq0, .inl (cQ, 1021, .inl (fun v => ii ((rc p p v : Nat) : Int))))] → va_S A S0.heap H locs → lv_has ls 6 [(0, .ref hx), (1, .int (ii (p : Int))), (2, .int (ii (a : Int))), (3, .int (ii (b : Int))), (4, .int (ii ((cs p a b x : Nat) : Int))), (5, .int (ii (x : Int)))] → W P0 l E0 ({ frames := 1, cells := 0, slots := 0, locals := 24 } : Room) S0 M0 A0 B0 T0 K0 H locs 0 0 (MQ B0 (QcM (some (.int (ii ((cnt p a b : Nat) : Int)))) True (Wd D [(hx, .inr (1, [.ref hr0, .ref hq0, tk, .int (ii sec), .int (ii dr)])), (hq0, .inl (cQ, 1021, .inl (fun v => ii ((rc p p v : Nat) : Int))))] [(cQ, .int)] A) A) A0 S0 0 0 A) (F0 M0 45 ls []) := by
    intro k
    induction k with
    | zero =>
    intro ls H locs x hxk hP hD hS hl
    have b1 := cs_le p a b x
    have b2 := Nat.mul_le_mul (show x ≤ 1021 by omega) (show p ≤ 1021 by omega)
    refine lv_iload C.1 C.2.1 dX1_countPoints_45 (lv_at hl 5 rfl) ?_
    refine lv_iload_n C.1 C.2.1 dX1_countPoints_47 rfl (lv_at hl 1 rfl) ?_
    refine i_icmp_ge (tgt := 75) C dX1_countPoints_48 (by decide) ⟨by omega, by omega⟩ ⟨by omega, by omega⟩ (fun h1 => ?_) (fun h1 => ?_)
    · refine lv_iload C.1 C.2.1 dX1_countPoints_75 (lv_at hl 4 rfl) ?_
      have e : x = p := by omega
      subst e
      rw [cs_cnt]
      exact pz_i C hr hk hS trivial (fun t ht hvm => ⟨by rw [ht]; exact hP, va_K.moved hvm hK, hD⟩) dX1_countPoints_77 rfl (by decide) (by decide)
    · omega
    | succ k ih =>
    intro ls H locs x hxk hP hD hS hl
    have b1 := cs_le p a b x
    have b2 := Nat.mul_le_mul (show x ≤ 1021 by omega) (show p ≤ 1021 by omega)
    have b3 := rc_le p p (cub p a b x)
    have m1 : cub p a b x < p := Nat.mod_lt _ (by omega)
    refine lv_iload C.1 C.2.1 dX1_countPoints_45 (lv_at hl 5 rfl) ?_
    refine lv_iload_n C.1 C.2.1 dX1_countPoints_47 rfl (lv_at hl 1 rfl) ?_
    refine i_icmp_ge (tgt := 75) C dX1_countPoints_48 (by decide) ⟨by omega, by omega⟩ ⟨by omega, by omega⟩ (fun h1 => ?_) (fun h1 => ?_)
    · omega
    · refine lv_iload C.1 C.2.1 dX1_countPoints_51 (lv_at hl 4 rfl) ?_
      refine lv_aload_n C.1 C.2.1 dX1_countPoints_53 rfl (lv_at hl 0 rfl) ?_
      refine gf C hK hP 0 rfl rfl aw_uX1 1 (by decide) aw_f_X1_13 rfl dX1_countPoints_54 ?_
      refine lv_iload_n C.1 C.2.1 dX1_countPoints_57 rfl (lv_at hl 1 rfl) ?_
      refine lv_iload_n C.1 C.2.1 dX1_countPoints_58 rfl (lv_at hl 2 rfl) ?_
      refine lv_iload_n C.1 C.2.1 dX1_countPoints_59 rfl (lv_at hl 3 rfl) ?_
      refine lv_iload C.1 C.2.1 dX1_countPoints_60 (lv_at hl 5 rfl) ?_
      refine ca_S (As := [.int (ii (p : Int)), .int (ii (a : Int)), .int (ii (b : Int)), .int (ii (x : Int))]) (rest := [.ref hq0, .int (ii ((cs p a b x : Nat) : Int))]) C (c_X1_cubic l (p : Int) (a : Int) (b : Int) (x : Int) (by omega) (by omega) (by omega) (by omega)) (pcn_pre _ hN) aw_b_X1_cubic aw_m_X1_150 aw_s_X1_cubic aw_i_X1 ⟨rfl, rfl⟩ 4 (by decide +kernel) rfl ⟨by decide, by decide⟩ hl.1 rfl (Nat.le_of_ble_eq_true rfl) dX1_countPoints_62 ⟨by decide, by decide⟩ ?_
      refine i_top (b := ((cub p a b x : Nat) : Int)) rfl ?_
      refine i_ald C hK hP 1 0 rfl rfl (cub p a b x) (by omega) (by omega) (by omega) dX1_countPoints_65 ?_
      refine i_add C dX1_countPoints_66 ?_
      refine i_top (b := ((cs p a b (x + 1) : Nat) : Int)) (by rw [cs_s]; omega) ?_
      refine lv_istore C.1 C.2.1 dX1_countPoints_67 hl (by decide) rfl (fun ls hl => ?_)
      have hl : lv_has ls 6 [(4, .int (ii ((cs p a b (x + 1) : Nat) : Int))), (0, .ref hx), (1, .int (ii (p : Int))), (2, .int (ii (a : Int))), (3, .int (ii (b : Int))), (5, .int (ii (x : Int)))] := hl
      refine lv_iinc C.1 C.2.1 dX1_countPoints_69 hl (k := 5) rfl (ii_add (x : Int) 1) (by decide) rfl (fun ls hl => ?_)
      have hl : lv_has ls 6 [(5, .int (ii ((x : Int) + 1))), (4, .int (ii ((cs p a b (x + 1) : Nat) : Int))), (0, .ref hx), (1, .int (ii (p : Int))), (2, .int (ii (a : Int))), (3, .int (ii (b : Int)))] := hl
      refine lv_goto (tgt := 45) C.1 C.2.1 dX1_countPoints_72 (by decide) ?_
      exact ih ls H locs (x + 1) (by omega) hP hD hS (lv_sub (l' := [(0, .ref hx), (1, .int (ii (p : Int))), (2, .int (ii (a : Int))), (3, .int (ii (b : Int))), (4, .int (ii ((cs p a b (x + 1) : Nat) : Int))), (5, .int (ii ((x : Int) + 1)))]) hl [2, 3, 4, 5, 1, 0] rfl)
  have loop1 : ∀ (k : Nat) (ls : Array Slot) (H : Heap) (locs : List Loc) (y : Nat), y + k = p → va_P D clX [(hx, .inr (1, [.ref hr0, .ref hq0, tk, .int (ii sec), .int (ii dr)])), (hq0, .inl (cQ, 1021, .inl (fun v => ii ((rc p y v : Nat) : Int))))] H → va_D A [(hx, .inr (1, [.ref hr0, .ref hq0, tk, .int (ii sec), .int (ii dr)])), (hq0, .inl (cQ, 1021, .inl (fun v => ii ((rc p y v : Nat) : Int))))] → va_S A S0.heap H locs → lv_has ls 6 [(0, .ref hx), (1, .int (ii (p : Int))), (2, .int (ii (a : Int))), (3, .int (ii (b : Int))), (4, .int (ii (y : Int)))] → W P0 l E0 ({ frames := 1, cells := 0, slots := 0, locals := 24 } : Room) S0 M0 A0 B0 T0 K0 H locs 0 0 (MQ B0 (QcM (some (.int (ii ((cnt p a b : Nat) : Int)))) True (Wd D [(hx, .inr (1, [.ref hr0, .ref hq0, tk, .int (ii sec), .int (ii dr)])), (hq0, .inl (cQ, 1021, .inl (fun v => ii ((rc p p v : Nat) : Int))))] [(cQ, .int)] A) A) A0 S0 0 0 A) (F0 M0 11 ls []) := by
    intro k
    induction k with
    | zero =>
    intro ls H locs y hyk hP hD hS hl
    refine lv_iload C.1 C.2.1 dX1_countPoints_11 (lv_at hl 4 rfl) ?_
    refine lv_iload_n C.1 C.2.1 dX1_countPoints_13 rfl (lv_at hl 1 rfl) ?_
    refine i_icmp_ge (tgt := 39) C dX1_countPoints_14 (by decide) ⟨by omega, by omega⟩ ⟨by omega, by omega⟩ (fun h1 => ?_) (fun h1 => ?_)
    · have e : p = y := by omega
      subst e
      refine i_const C dX1_countPoints_39 ?_
      refine lv_istore C.1 C.2.1 dX1_countPoints_40 hl (by decide) rfl (fun ls hl => ?_)
      have hl : lv_has ls 6 [(4, .int (ii 1)), (0, .ref hx), (1, .int (ii (p : Int))), (2, .int (ii (a : Int))), (3, .int (ii (b : Int)))] := hl
      refine i_const C dX1_countPoints_42 ?_
      refine lv_istore C.1 C.2.1 dX1_countPoints_43 hl (by decide) rfl (fun ls hl => ?_)
      have hl : lv_has ls 6 [(5, .int (ii 0)), (4, .int (ii 1)), (0, .ref hx), (1, .int (ii (p : Int))), (2, .int (ii (a : Int))), (3, .int (ii (b : Int)))] := hl
      have hl : lv_has ls 6 [(0, .ref hx), (1, .int (ii (p : Int))), (2, .int (ii (a : Int))), (3, .int (ii (b : Int))), (4, .int (ii ((cs p a b 0 : Nat) : Int))), (5, .int (ii ((0 : Nat) : Int)))] := lv_sub hl [2, 3, 4, 5, 1, 0] rfl
      exact loop2 p ls H locs 0 (by omega) hP hD hS hl
    · omega
    | succ k ih =>
    intro ls H locs y hyk hP hD hS hl
    have b1 := rc_le p y (y * y % p)
    have b2 := nmul_b (show y ≤ 1100 by omega) (show y ≤ 1100 by omega)
    have b3 := Nat.mod_lt (y * y) (show 0 < p by omega)
    refine lv_iload C.1 C.2.1 dX1_countPoints_11 (lv_at hl 4 rfl) ?_
    refine lv_iload_n C.1 C.2.1 dX1_countPoints_13 rfl (lv_at hl 1 rfl) ?_
    refine i_icmp_ge (tgt := 39) C dX1_countPoints_14 (by decide) ⟨by omega, by omega⟩ ⟨by omega, by omega⟩ (fun h1 => ?_) (fun h1 => ?_)
    · omega
    · refine lv_aload_n C.1 C.2.1 dX1_countPoints_17 rfl (lv_at hl 0 rfl) ?_
      refine gf C hK hP 0 rfl rfl aw_uX1 1 (by decide) aw_f_X1_13 rfl dX1_countPoints_18 ?_
      refine lv_iload C.1 C.2.1 dX1_countPoints_21 (lv_at hl 4 rfl) ?_
      refine lv_iload C.1 C.2.1 dX1_countPoints_23 (lv_at hl 4 rfl) ?_
      refine i_mul C dX1_countPoints_25 ?_
      refine lv_iload_n C.1 C.2.1 dX1_countPoints_26 rfl (lv_at hl 1 rfl) ?_
      refine i_rem C dX1_countPoints_27 ⟨by omega, by omega⟩ ⟨by omega, by omega⟩ ?_
      refine i_top (b := ((y * y % p : Nat) : Int)) rfl ?_
      refine lv_dup2_11 C.1 C.2.1 dX1_countPoints_28 rfl rfl ?_
      refine i_ald C hK hP 1 0 rfl rfl (y * y % p) (by omega) (by omega) (by omega) dX1_countPoints_29 ?_
      refine i_const C dX1_countPoints_30 ?_
      refine i_add C dX1_countPoints_31 ?_
      refine i_ast C hK hP hD hS 1 0 rfl rfl (y * y % p) rfl (by omega) (by omega) dX1_countPoints_32 (fun H1 locs1 hP hD hS => ?_)
      rw [rc_up] at hP hD
      have hP : va_P D clX [(hx, .inr (1, [.ref hr0, .ref hq0, tk, .int (ii sec), .int (ii dr)])), (hq0, .inl (cQ, 1021, .inl (fun v => ii ((rc p (y + 1) v : Nat) : Int))))] H1 := hP
      have hD : va_D A [(hx, .inr (1, [.ref hr0, .ref hq0, tk, .int (ii sec), .int (ii dr)])), (hq0, .inl (cQ, 1021, .inl (fun v => ii ((rc p (y + 1) v : Nat) : Int))))] := hD
      refine lv_iinc C.1 C.2.1 dX1_countPoints_33 hl (k := 4) rfl (ii_add (y : Int) 1) (by decide) rfl (fun ls hl => ?_)
      have hl : lv_has ls 6 [(4, .int (ii ((y : Int) + 1))), (0, .ref hx), (1, .int (ii (p : Int))), (2, .int (ii (a : Int))), (3, .int (ii (b : Int)))] := hl
      refine lv_goto (tgt := 11) C.1 C.2.1 dX1_countPoints_36 (by decide) ?_
      exact ih ls H1 locs1 (y + 1) (by omega) hP hD hS (lv_sub (l' := [(0, .ref hx), (1, .int (ii (p : Int))), (2, .int (ii (a : Int))), (3, .int (ii (b : Int))), (4, .int (ii ((y : Int) + 1)))]) hl [1, 2, 3, 4, 0] rfl)
  refine lv_aload_n C.1 C.2.1 dX1_countPoints_0 rfl (lv_at hl 0 rfl) ?_
  refine gf C hK hP 0 rfl rfl aw_uX1 1 (by decide) aw_f_X1_13 rfl dX1_countPoints_1 ?_
  refine i_const C dX1_countPoints_4 ?_
  have hFc := va_free (wc := [(hq0, .inl (cQ, 1021, .inl f))]) hD hS hA [1] rfl
  refine cn_S (As := [.ref hq0, .int (ii 0)]) (rest := []) C (c_fill l D z0 S0.heap.size hq0 1021 cQ f (ii 0) (by omega)) (pcm_pre _ hN (Zs.on hZ hS hAz) (by have := hS.1; omega) (hP.sub (ws' := [(hq0, .inl (cQ, 1021, .inl f))]) [1] rfl) (hK.sub (tys' := [(cQ, .int)]) [0] rfl) ((hD.sub (ws' := [(hq0, .inl (cQ, 1021, .inl f))]) [1] (by decide) rfl).weaken (fun _ _ _ h => hAz _ h))) hS hFc aw_b_JA_fill aw_m_X1_16 aw_s_JA_fill aw_i_JA ⟨rfl, rfl⟩ 2 (by decide +kernel) rfl ⟨by decide, by decide⟩ hl.1 rfl (Nat.le_of_ble_eq_true rfl) dX1_countPoints_5 ⟨by decide, by decide⟩ (fun t H1 locs1 ht hvm _ hB hz1 hk1 hS => ?_)
  obtain ⟨hP1, hK1, hD1⟩ := hB
  rw [ht] at hP1
  obtain ⟨hP, hD⟩ := va_join (wr := [(hx, .inr (1, [.ref hr0, .ref hq0, tk, .int (ii sec), .int (ii dr)]))]) (w1 := [(hq0, .inl (cQ, 1021, .inl (fun _ => ii 0)))]) hP hD [1] [0] rfl rfl (by decide) (by decide) hk1 hFc hP1 hD1
  have hP : va_P D clX [(hx, .inr (1, [.ref hr0, .ref hq0, tk, .int (ii sec), .int (ii dr)])), (hq0, .inl (cQ, 1021, .inl (fun _ => ii 0)))] H1 := hP
  have hD : va_D A [(hx, .inr (1, [.ref hr0, .ref hq0, tk, .int (ii sec), .int (ii dr)])), (hq0, .inl (cQ, 1021, .inl (fun _ => ii 0)))] := hD
  refine i_const C dX1_countPoints_8 ?_
  refine lv_istore C.1 C.2.1 dX1_countPoints_9 hl (by decide) rfl (fun ls hl => ?_)
  have hl : lv_has ls 6 [(4, .int (ii 0)), (0, .ref hx), (1, .int (ii (p : Int))), (2, .int (ii (a : Int))), (3, .int (ii (b : Int)))] := hl
  exact loop1 p ls H1 locs1 0 (by omega) hP hD hS (lv_sub (l' := [(0, .ref hx), (1, .int (ii (p : Int))), (2, .int (ii (a : Int))), (3, .int (ii (b : Int))), (4, .int (ii 0))]) hl [1, 2, 3, 4, 0] rfl)
