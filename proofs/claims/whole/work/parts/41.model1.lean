/-! The reference: what only reads (1). By wip/whole/tools/gen13.py. -/
/-- the reference's object: its fields in their order -/
abbrev MO (p a b n key dr th : Int) (hX hY hR hO : Nat) (sx sy dk dv : Int32) : List Value := [.int (ii p), .int (ii a), .int (ii b), .int (ii n), .int (ii key), .int (ii dr), .int (ii th), .ref hX, .ref hY, .ref hR, .ref hO, .int sx, .int sy, .int dk, .int dv]
theorem pcw_preV0 {D : va_G} {ws : va_W} {tys : List (ClassId × FieldType)} {s : State} {H : Heap} {b : Nat} (As : List Value) (hN : Nw s) (hP : va_P D clX ws H) (hK : va_K D clX tys s) (q0 : Nat) {ci : Nat} {q : vw_C} {fs : List Value} (hc : clX[ci]? = some q) (he : ws[q0]? = some (b, .inr (ci, fs))) : PreV s H q.1 b (PcW D [] [] (.ref b :: As)) As :=
  ⟨pcw_blind D [] [] _, va_recv hK hP hc he, fun U hU hW => ⟨rfl, Nw.warm hW hN, by rw [hU]; exact hP.sub (ws' := []) [] rfl, va_K.moved hW.alike (hK.sub (tys' := []) [] rfl)⟩⟩
theorem l_rem {p : Program} {l : Launch} {e : Env} {R : Room} {s : State} {m : MethodId} {args : Array Value} {below : List Frame} {meth : Method} {c : Code} {H : Heap} {locs : List Loc} {cells slots : Nat} {Q : State → Prop} {cc : ByteArray} {nL pc : Nat} {own : String} {ls : Array Slot} {rest : List Value} (C : Cx p m c cc nL s args own) {a d : Int} (hdg : decode cc pc = .ok (.lrem, 1)) (ha : 0 ≤ a ∧ a < 9223372036854775808) (hd : 0 < d ∧ d < 9223372036854775808) (k : W p l e R s m args below meth c H locs cells slots Q (F0 m (pc + 1) ls (.long (li (a % d)) :: rest))) : W p l e R s m args below meth c H locs cells slots Q (F0 m pc ls (.long (li d) :: .long (li a) :: rest)) :=
  l_remT C hdg ⟨by omega, by omega⟩ hd (by rw [Int.tmod_eq_emod_of_nonneg ha.1]; exact k)
def nrF (r : Int) : Int := if r < 0 then 1 else if r ≤ 3 then 0 else 1
set_option maxRecDepth 100000 in
set_option maxHeartbeats 1000000 in
theorem c_X2_noRegister (l : Launch) (D : va_G) (hm : Nat) (r : Int) (hr1 : rg r) : Met l yX2_noRegister (Cond.code yX2_noRegister cX2_noRegister 2 (some .boolean) :: AW) ({ frames := 0, cells := 0, slots := 0, locals := 0 } : Room) (PcW D [] [] [.ref hm, .int (ii r)]) (QcV (some (.int (ii (nrF r))))) 0 0 (fun _ => False) := by
  refine mt_W (by decide +kernel) (Nat.le_of_ble_eq_true rfl) ?_
  intro P0 E0 S0 M0 A0 B0 T0 K0 C hN hP hK hr hk ls hl
  have hl : lv_has ls 2 [(0, .ref hm), (1, .int (ii r))] := hl
  generalize hV : nrF r = V
  unfold nrF at hV
  refine lv_iload_n C.1 C.2.1 dX2_noRegister_0 rfl (lv_at hl 1 rfl) ?_
  refine i_if_lt (tgt := 9) C dX2_noRegister_1 (by decide) ⟨by omega, by omega⟩ (fun h1 => ?_) (fun h1 => ?_)
  · rw [if_pos h1] at hV
    refine i_const C dX2_noRegister_9 ?_
    refine lv_goto (tgt := 14) C.1 C.2.1 dX2_noRegister_10 (by decide) ?_
    subst hV
    exact rt_z C hr hk dX2_noRegister_14 (Or.inr rfl) rfl
  · rw [if_neg h1] at hV
    refine lv_iload_n C.1 C.2.1 dX2_noRegister_4 rfl (lv_at hl 1 rfl) ?_
    refine i_const C dX2_noRegister_5 ?_
    refine i_icmp_le (tgt := 13) C dX2_noRegister_6 (by decide) ⟨by omega, by omega⟩ ⟨by omega, by omega⟩ (fun h2 => ?_) (fun h2 => ?_)
    · rw [if_pos h2] at hV
      refine i_const C dX2_noRegister_13 ?_
      subst hV
      exact rt_z C hr hk dX2_noRegister_14 (Or.inl rfl) rfl
    · rw [if_neg h2] at hV
      refine i_const C dX2_noRegister_9 ?_
      refine lv_goto (tgt := 14) C.1 C.2.1 dX2_noRegister_10 (by decide) ?_
      subst hV
      exact rt_z C hr hk dX2_noRegister_14 (Or.inr rfl) rfl
def pmF (n : Nat) : Nat → Nat → Nat → Nat
  | 0, _, ok => ok
  | f + 1, d, ok => if n < d * d then ok else if ok = 0 then ok else pmF n f (d + 1) (if n % d = 0 then 0 else 1)
theorem pmF_s (n f d ok : Nat) : pmF n (f + 1) d ok = if n < d * d then ok else if ok = 0 then ok else pmF n f (d + 1) (if n % d = 0 then 0 else 1) := rfl
theorem pmF_b (n : Nat) : ∀ (f d ok : Nat), ok ≤ 1 → pmF n f d ok ≤ 1
  | 0, _, _, h => h
  | f + 1, d, ok, h => by
    rw [pmF_s]
    split
    · exact h
    · split
      · exact h
      · exact pmF_b n f (d + 1) _ (by split <;> omega)
set_option maxRecDepth 100000 in
set_option maxHeartbeats 1000000 in
theorem c_X2_prime (l : Launch) (D : va_G) (hm n : Nat) (hn : n ≤ 1100000) : Met l yX2_prime (Cond.code yX2_prime cX2_prime 4 (some .boolean) :: AW) ({ frames := 0, cells := 0, slots := 0, locals := 0 } : Room) (PcW D [] [] [.ref hm, .int (ii (n : Int))]) (QcV (some (.int (ii ((pmF n 1100 2 (if n < 2 then 0 else 1) : Nat) : Int))))) 0 0 (fun _ => False) := by
  refine mt_W (by decide +kernel) (Nat.le_of_ble_eq_true rfl) ?_
  intro P0 E0 S0 M0 A0 B0 T0 K0 C hN hP hK hr hk ls hl
  have hl : lv_has ls 4 [(0, .ref hm), (1, .int (ii (n : Int)))] := hl
  have hV0 := pmF_b n 1100 2 (if n < 2 then 0 else 1) (by split <;> omega)
  generalize hV : pmF n 1100 2 (if n < 2 then 0 else 1) = V at hV0 ⊢
  have loop : ∀ (f : Nat) (ls : Array Slot) (d ok : Nat), 2 ≤ d → d + f = 1102 → d ≤ 1050 → ok ≤ 1 → pmF n f d ok = V → lv_has ls 4 [(0, .ref hm), (1, .int (ii (n : Int))), (2, .int (ii (ok : Int))), (3, .int (ii (d : Int)))] → W P0 l E0 ({ frames := 0, cells := 0, slots := 0, locals := 0 } : Room) S0 M0 A0 B0 T0 K0 S0.heap [] 0 0 (MQ B0 (QcV (some (.int (ii (V : Nat))))) A0 S0 0 0 (fun _ => False)) (F0 M0 13 ls []) := by
    intro f
    induction f with
    | zero =>
      intro ls d ok h2 hf hd
      omega
    | succ f ih =>
    intro ls d ok h2 hf hd1 ho hV hl
    rw [pmF_s] at hV
    have m1 := Nat.mul_le_mul (show d ≤ 1050 by omega) (show d ≤ 1050 by omega)
    refine lv_iload_n C.1 C.2.1 dX2_prime_13 rfl (lv_at hl 3 rfl) ?_
    refine lv_iload_n C.1 C.2.1 dX2_prime_14 rfl (lv_at hl 3 rfl) ?_
    refine i_mul C dX2_prime_15 ?_
    refine i_top (b := ((d * d : Nat) : Int)) rfl ?_
    refine lv_iload_n C.1 C.2.1 dX2_prime_16 rfl (lv_at hl 1 rfl) ?_
    refine i_icmp_gt (tgt := 42) C dX2_prime_17 (by decide) ⟨by omega, by omega⟩ ⟨by omega, by omega⟩ (fun h1 => ?_) (fun h1 => ?_)
    · rw [if_pos (show n < d * d by omega)] at hV
      refine lv_iload_n C.1 C.2.1 dX2_prime_42 rfl (lv_at hl 2 rfl) ?_
      exact rt_z C hr hk dX2_prime_43 (by omega) (by rw [hV])
    · rw [if_neg (show ¬ n < d * d by omega)] at hV
      refine lv_iload_n C.1 C.2.1 dX2_prime_20 rfl (lv_at hl 2 rfl) ?_
      refine i_if_eq (tgt := 42) C dX2_prime_21 (by decide) ⟨by omega, by omega⟩ (fun h2 => ?_) (fun h2 => ?_)
      · rw [if_pos (show ok = 0 by omega)] at hV
        refine lv_iload_n C.1 C.2.1 dX2_prime_42 rfl (lv_at hl 2 rfl) ?_
        exact rt_z C hr hk dX2_prime_43 (by omega) (by rw [hV])
      · rw [if_neg (show ¬ ok = 0 by omega)] at hV
        have m2 := dd_b (show d * d ≤ n by omega) hn
        refine lv_iload_n C.1 C.2.1 dX2_prime_24 rfl (lv_at hl 1 rfl) ?_
        refine lv_iload_n C.1 C.2.1 dX2_prime_25 rfl (lv_at hl 3 rfl) ?_
        refine i_rem C dX2_prime_26 ⟨by omega, by omega⟩ ⟨by omega, by omega⟩ ?_
        refine i_top (b := ((n % d : Nat) : Int)) rfl ?_
        have m3 := Nat.mod_lt n (show 0 < d by omega)
        refine i_if_eq (tgt := 34) C dX2_prime_27 (by decide) ⟨by omega, by omega⟩ (fun h3 => ?_) (fun h3 => ?_)
        · rw [if_pos (show n % d = 0 by omega)] at hV
          refine i_const C dX2_prime_34 ?_
          refine lv_istore_n C.1 C.2.1 dX2_prime_35 rfl hl (by decide) rfl (fun ls hl => ?_)
          have hl : lv_has ls 4 [(2, .int (ii 0)), (0, .ref hm), (1, .int (ii (n : Int))), (3, .int (ii (d : Int)))] := hl
          refine lv_iinc C.1 C.2.1 dX2_prime_36 hl (k := 3) rfl (ii_add (d : Int) 1) (by decide) rfl (fun ls hl => ?_)
          have hl : lv_has ls 4 [(3, .int (ii ((d : Int) + 1))), (2, .int (ii 0)), (0, .ref hm), (1, .int (ii (n : Int)))] := hl
          refine lv_goto (tgt := 13) C.1 C.2.1 dX2_prime_39 (by decide) ?_
          exact ih ls (d + 1) 0 (by omega) (by omega) (by omega) (by omega) hV (lv_sub (l' := [(0, .ref hm), (1, .int (ii (n : Int))), (2, .int (ii 0)), (3, .int (ii ((d : Int) + 1)))]) hl [2, 3, 1, 0] rfl)
        · rw [if_neg (show ¬ n % d = 0 by omega)] at hV
          refine i_const C dX2_prime_30 ?_
          refine lv_goto (tgt := 35) C.1 C.2.1 dX2_prime_31 (by decide) ?_
          refine lv_istore_n C.1 C.2.1 dX2_prime_35 rfl hl (by decide) rfl (fun ls hl => ?_)
          have hl : lv_has ls 4 [(2, .int (ii 1)), (0, .ref hm), (1, .int (ii (n : Int))), (3, .int (ii (d : Int)))] := hl
          refine lv_iinc C.1 C.2.1 dX2_prime_36 hl (k := 3) rfl (ii_add (d : Int) 1) (by decide) rfl (fun ls hl => ?_)
          have hl : lv_has ls 4 [(3, .int (ii ((d : Int) + 1))), (2, .int (ii 1)), (0, .ref hm), (1, .int (ii (n : Int)))] := hl
          refine lv_goto (tgt := 13) C.1 C.2.1 dX2_prime_39 (by decide) ?_
          exact ih ls (d + 1) 1 (by omega) (by omega) (by omega) (by omega) hV (lv_sub (l' := [(0, .ref hm), (1, .int (ii (n : Int))), (2, .int (ii 1)), (3, .int (ii ((d : Int) + 1)))]) hl [2, 3, 1, 0] rfl)
  refine lv_iload_n C.1 C.2.1 dX2_prime_0 rfl (lv_at hl 1 rfl) ?_
  refine i_const C dX2_prime_1 ?_
  refine i_icmp_lt (tgt := 9) C dX2_prime_2 (by decide) ⟨by omega, by omega⟩ ⟨by omega, by omega⟩ (fun h1 => ?_) (fun h1 => ?_)
  · rw [if_pos (show n < 2 by omega)] at hV
    refine i_const C dX2_prime_9 ?_
    refine lv_istore_n C.1 C.2.1 dX2_prime_10 rfl hl (by decide) rfl (fun ls hl => ?_)
    have hl : lv_has ls 4 [(2, .int (ii 0)), (0, .ref hm), (1, .int (ii (n : Int)))] := hl
    refine i_const C dX2_prime_11 ?_
    refine lv_istore_n C.1 C.2.1 dX2_prime_12 rfl hl (by decide) rfl (fun ls hl => ?_)
    have hl : lv_has ls 4 [(3, .int (ii 2)), (2, .int (ii 0)), (0, .ref hm), (1, .int (ii (n : Int)))] := hl
    exact loop 1100 ls 2 0 (by omega) (by omega) (by omega) (by omega) hV (lv_sub (l' := [(0, .ref hm), (1, .int (ii (n : Int))), (2, .int (ii 0)), (3, .int (ii 2))]) hl [2, 3, 1, 0] rfl)
  · rw [if_neg (show ¬ n < 2 by omega)] at hV
    refine i_const C dX2_prime_5 ?_
    refine lv_goto (tgt := 10) C.1 C.2.1 dX2_prime_6 (by decide) ?_
    refine lv_istore_n C.1 C.2.1 dX2_prime_10 rfl hl (by decide) rfl (fun ls hl => ?_)
    have hl : lv_has ls 4 [(2, .int (ii 1)), (0, .ref hm), (1, .int (ii (n : Int)))] := hl
    refine i_const C dX2_prime_11 ?_
    refine lv_istore_n C.1 C.2.1 dX2_prime_12 rfl hl (by decide) rfl (fun ls hl => ?_)
    have hl : lv_has ls 4 [(3, .int (ii 2)), (2, .int (ii 1)), (0, .ref hm), (1, .int (ii (n : Int)))] := hl
    exact loop 1100 ls 2 1 (by omega) (by omega) (by omega) (by omega) hV (lv_sub (l' := [(0, .ref hm), (1, .int (ii (n : Int))), (2, .int (ii 1)), (3, .int (ii 2))]) hl [2, 3, 1, 0] rfl)
set_option maxRecDepth 100000 in
set_option maxHeartbeats 1000000 in
theorem c_X2_cube (l : Launch) (D : va_G) (hm x p a b : Nat) (hp : 5 ≤ p ∧ p ≤ 1021) (ha : a < p) (hb : b < p) (hx0 : x < p) : Met l yX2_cube (Cond.code yX2_cube cX2_cube 7 (some .int) :: AW) ({ frames := 0, cells := 0, slots := 0, locals := 0 } : Room) (PcW D [] [] [.ref hm, .int (ii (x : Int)), .int (ii (p : Int)), .int (ii (a : Int)), .int (ii (b : Int))]) (QcV (some (.int (ii ((cub p a b x : Nat) : Int))))) 0 0 (fun _ => False) := by
  refine mt_W (by decide +kernel) (Nat.le_of_ble_eq_true rfl) ?_
  intro P0 E0 S0 M0 A0 B0 T0 K0 C hN hP hK hr hk ls hl
  have hl : lv_has ls 7 [(0, .ref hm), (1, .int (ii (x : Int))), (2, .int (ii (p : Int))), (3, .int (ii (a : Int))), (4, .int (ii (b : Int)))] := hl
  have m1 := nmul_b (show x ≤ 1100 by omega) (show x ≤ 1100 by omega)
  have m2 := Nat.mod_lt (x * x) (show 0 < p by omega)
  have m3 := nmul_b (show x * x % p ≤ 1100 by omega) (show x ≤ 1100 by omega)
  have m4 := nmul_b (show a ≤ 1100 by omega) (show x ≤ 1100 by omega)
  have m5 : cub p a b x < p := Nat.mod_lt _ (by omega)
  refine lv_iload_n C.1 C.2.1 dX2_cube_0 rfl (lv_at hl 1 rfl) ?_
  refine l_i2l C dX2_cube_1 ⟨by omega, by omega⟩ ?_
  refine lv_iload_n C.1 C.2.1 dX2_cube_2 rfl (lv_at hl 1 rfl) ?_
  refine l_i2l C dX2_cube_3 ⟨by omega, by omega⟩ ?_
  refine l_mul C dX2_cube_4 ?_
  refine l_top (b := ((x * x : Nat) : Int)) rfl ?_
  refine lv_iload_n C.1 C.2.1 dX2_cube_5 rfl (lv_at hl 2 rfl) ?_
  refine l_i2l C dX2_cube_6 ⟨by omega, by omega⟩ ?_
  refine l_rem C dX2_cube_7 ⟨by omega, by omega⟩ ⟨by omega, by omega⟩ ?_
  refine l_top (b := ((x * x % p : Nat) : Int)) rfl ?_
  refine lv_iload_n C.1 C.2.1 dX2_cube_8 rfl (lv_at hl 1 rfl) ?_
  refine l_i2l C dX2_cube_9 ⟨by omega, by omega⟩ ?_
  refine l_mul C dX2_cube_10 ?_
  refine l_top (b := ((x * x % p * x : Nat) : Int)) rfl ?_
  refine lv_iload_n C.1 C.2.1 dX2_cube_11 rfl (lv_at hl 3 rfl) ?_
  refine l_i2l C dX2_cube_12 ⟨by omega, by omega⟩ ?_
  refine lv_iload_n C.1 C.2.1 dX2_cube_13 rfl (lv_at hl 1 rfl) ?_
  refine l_i2l C dX2_cube_14 ⟨by omega, by omega⟩ ?_
  refine l_mul C dX2_cube_15 ?_
  refine l_top (b := ((a * x : Nat) : Int)) rfl ?_
  refine l_add C dX2_cube_16 ?_
  refine lv_iload C.1 C.2.1 dX2_cube_17 (lv_at hl 4 rfl) ?_
  refine l_i2l C dX2_cube_19 ⟨by omega, by omega⟩ ?_
  refine l_add C dX2_cube_20 ?_
  refine l_top (b := ((x * x % p * x + a * x + b : Nat) : Int)) rfl ?_
  refine lv_lstore C.1 C.2.1 dX2_cube_21 hl (by decide) rfl (fun ls hl => ?_)
  have hl : lv_has ls 7 [(5, .long (li ((x * x % p * x + a * x + b : Nat) : Int))), (0, .ref hm), (1, .int (ii (x : Int))), (2, .int (ii (p : Int))), (3, .int (ii (a : Int))), (4, .int (ii (b : Int)))] := hl
  refine lv_lload C.1 C.2.1 dX2_cube_23 (lv_at hl 0 rfl) ?_
  refine lv_iload_n C.1 C.2.1 dX2_cube_25 rfl (lv_at hl 3 rfl) ?_
  refine l_i2l C dX2_cube_26 ⟨by omega, by omega⟩ ?_
  refine l_rem C dX2_cube_27 ⟨by omega, by omega⟩ ⟨by omega, by omega⟩ ?_
  refine l_top (b := ((cub p a b x : Nat) : Int)) (by rw [cub_eq, ← Int.natCast_emod, Int.natCast_inj, Nat.add_assoc, Nat.add_mod, Nat.mod_mul_mod, ← Nat.add_mod, ← Nat.add_assoc]) ?_
  refine l_l2i C dX2_cube_28 ⟨by omega, by omega⟩ ?_
  exact rt_i C hr hk dX2_cube_29 rfl
def ivF (v m : Nat) : Nat → Nat → Nat
  | 0, _ => 0
  | f + 1, t => if m ≤ t then 0 else if v * t % m = 1 then t else ivF v m f (t + 1)
theorem ivF_s (v m f t : Nat) : ivF v m (f + 1) t = if m ≤ t then 0 else if v * t % m = 1 then t else ivF v m f (t + 1) := rfl
set_option maxRecDepth 100000 in
set_option maxHeartbeats 1000000 in
theorem c_X2_inverse (l : Launch) (D : va_G) (hm v m : Nat) (hv : v ≤ 1100) (hm0 : 2 ≤ m ∧ m ≤ 1100) : Met l yX2_inverse (Cond.code yX2_inverse cX2_inverse 4 (some .int) :: AW) ({ frames := 0, cells := 0, slots := 0, locals := 0 } : Room) (PcW D [] [] [.ref hm, .int (ii (v : Int)), .int (ii (m : Int))]) (QcV (some (.int (ii ((ivF v m 1100 1 : Nat) : Int))))) 0 0 (fun _ => False) := by
  refine mt_W (by decide +kernel) (Nat.le_of_ble_eq_true rfl) ?_
  intro P0 E0 S0 M0 A0 B0 T0 K0 C hN hP hK hr hk ls hl
  have hl : lv_has ls 4 [(0, .ref hm), (1, .int (ii (v : Int))), (2, .int (ii (m : Int)))] := hl
  generalize hV : ivF v m 1100 1 = V
  have loop : ∀ (f : Nat) (ls : Array Slot) (t : Nat), t + f = 1101 → t ≤ m → ivF v m f t = V → lv_has ls 4 [(0, .ref hm), (1, .int (ii (v : Int))), (2, .int (ii (m : Int))), (3, .int (ii (t : Int)))] → W P0 l E0 ({ frames := 0, cells := 0, slots := 0, locals := 0 } : Room) S0 M0 A0 B0 T0 K0 S0.heap [] 0 0 (MQ B0 (QcV (some (.int (ii (V : Nat))))) A0 S0 0 0 (fun _ => False)) (F0 M0 2 ls []) := by
    intro f
    induction f with
    | zero =>
      intro ls t hf ht
      omega
    | succ f ih =>
    intro ls t hf ht hV hl
    rw [ivF_s] at hV
    have m1 := nmul_b hv (show t ≤ 1100 by omega)
    have m2 := Nat.mod_lt (v * t) (show 0 < m by omega)
    refine lv_iload_n C.1 C.2.1 dX2_inverse_2 rfl (lv_at hl 3 rfl) ?_
    refine lv_iload_n C.1 C.2.1 dX2_inverse_3 rfl (lv_at hl 2 rfl) ?_
    refine i_icmp_ge (tgt := 24) C dX2_inverse_4 (by decide) ⟨by omega, by omega⟩ ⟨by omega, by omega⟩ (fun h1 => ?_) (fun h1 => ?_)
    · rw [if_pos (show m ≤ t by omega)] at hV
      refine i_const C dX2_inverse_24 ?_
      exact rt_i C hr hk dX2_inverse_25 (by subst hV; rfl)
    · rw [if_neg (show ¬ m ≤ t by omega)] at hV
      refine lv_iload_n C.1 C.2.1 dX2_inverse_7 rfl (lv_at hl 1 rfl) ?_
      refine lv_iload_n C.1 C.2.1 dX2_inverse_8 rfl (lv_at hl 3 rfl) ?_
      refine i_mul C dX2_inverse_9 ?_
      refine lv_iload_n C.1 C.2.1 dX2_inverse_10 rfl (lv_at hl 2 rfl) ?_
      refine i_rem C dX2_inverse_11 ⟨by omega, by omega⟩ ⟨by omega, by omega⟩ ?_
      refine i_top (b := ((v * t % m : Nat) : Int)) rfl ?_
      refine i_const C dX2_inverse_12 ?_
      refine i_icmp_ne (tgt := 18) C dX2_inverse_13 (by decide) ⟨by omega, by omega⟩ ⟨by omega, by omega⟩ (fun h2 => ?_) (fun h2 => ?_)
      · rw [if_neg (show ¬ v * t % m = 1 by omega)] at hV
        refine lv_iinc C.1 C.2.1 dX2_inverse_18 hl (k := 3) rfl (ii_add (t : Int) 1) (by decide) rfl (fun ls hl => ?_)
        have hl : lv_has ls 4 [(3, .int (ii ((t : Int) + 1))), (0, .ref hm), (1, .int (ii (v : Int))), (2, .int (ii (m : Int)))] := hl
        refine lv_goto (tgt := 2) C.1 C.2.1 dX2_inverse_21 (by decide) ?_
        exact ih ls (t + 1) (by omega) (by omega) hV (lv_sub (l' := [(0, .ref hm), (1, .int (ii (v : Int))), (2, .int (ii (m : Int))), (3, .int (ii ((t : Int) + 1)))]) hl [1, 2, 3, 0] rfl)
      · rw [if_pos (show v * t % m = 1 by omega)] at hV
        refine lv_iload_n C.1 C.2.1 dX2_inverse_16 rfl (lv_at hl 3 rfl) ?_
        exact rt_i C hr hk dX2_inverse_17 (by subst hV; rfl)
  refine i_const C dX2_inverse_0 ?_
  refine lv_istore_n C.1 C.2.1 dX2_inverse_1 rfl hl (by decide) rfl (fun ls hl => ?_)
  have hl : lv_has ls 4 [(3, .int (ii 1)), (0, .ref hm), (1, .int (ii (v : Int))), (2, .int (ii (m : Int)))] := hl
  exact loop 1100 ls 1 (by omega) (by omega) hV (lv_sub (l' := [(0, .ref hm), (1, .int (ii (v : Int))), (2, .int (ii (m : Int))), (3, .int (ii 1))]) hl [1, 2, 3, 0] rfl)
set_option maxRecDepth 100000 in
set_option maxHeartbeats 1000000 in
theorem c_X2_mix (l : Launch) (D : va_G) (hm : Nat) (u v : Int32) : Met l yX2_mix (Cond.code yX2_mix cX2_mix 4 (some .int) :: AW) ({ frames := 0, cells := 0, slots := 0, locals := 0 } : Room) (PcW D [] [] [.ref hm, .int u, .int v]) (QcV (some (.int (mxF u v)))) 0 0 (fun _ => False) := by
  refine mt_W (by decide +kernel) (Nat.le_of_ble_eq_true rfl) ?_
  intro P0 E0 S0 M0 A0 B0 T0 K0 C hN hP hK hr hk ls hl
  have hl : lv_has ls 4 [(0, .ref hm), (1, .int u), (2, .int v)] := hl
  refine lv_iload_n C.1 C.2.1 dX2_mix_0 rfl (lv_at hl 1 rfl) ?_
  refine lv_iload_n C.1 C.2.1 dX2_mix_1 rfl (lv_at hl 2 rfl) ?_
  refine lv_ixor C.1 C.2.1 dX2_mix_2 ?_
  refine i_ldc (n := 668265261) C dX2_mix_3 aw_k_X2_102 (by decide +kernel) ?_
  refine lv_imul C.1 C.2.1 dX2_mix_5 ?_
  refine lv_iload_n C.1 C.2.1 dX2_mix_6 rfl (lv_at hl 1 rfl) ?_
  refine lv_iadd C.1 C.2.1 dX2_mix_7 ?_
  refine lv_istore_n C.1 C.2.1 dX2_mix_8 rfl hl (by decide) rfl (fun ls hl => ?_)
  have hl : lv_has ls 4 [(3, .int (((u ^^^ v) * (ii 668265261)) + u)), (0, .ref hm), (1, .int u), (2, .int v)] := hl
  refine lv_iload_n C.1 C.2.1 dX2_mix_9 rfl (lv_at hl 0 rfl) ?_
  refine lv_iload_n C.1 C.2.1 dX2_mix_10 rfl (lv_at hl 0 rfl) ?_
  refine i_bipush C dX2_mix_11 (by decide +kernel) ?_
  refine lv_ishl C.1 C.2.1 dX2_mix_13 ?_
  refine lv_iload_n C.1 C.2.1 dX2_mix_14 rfl (lv_at hl 0 rfl) ?_
  refine i_bipush C dX2_mix_15 (by decide +kernel) ?_
  refine lv_iushr C.1 C.2.1 dX2_mix_17 rfl ?_
  refine lv_ior C.1 C.2.1 dX2_mix_18 ?_
  refine lv_iadd C.1 C.2.1 dX2_mix_19 ?_
  exact rt_r C hr hk dX2_mix_20 rfl
set_option maxRecDepth 100000 in
set_option maxHeartbeats 1000000 in
theorem c_X2_thrown (l : Launch) (D : va_G) (hm : Nat) (p a b : Int) (n : Nat) (key dr th : Int) (hX hY hR hO : Nat) (sx sy dk dv : Int32) : Met l yX2_thrown (Cond.code yX2_thrown cX2_thrown 1 (some .int) :: AW) ({ frames := 0, cells := 0, slots := 0, locals := 0 } : Room) (PcW D [(hm, .inr (2, MO p a b n key dr th hX hY hR hO sx sy dk dv))] [] [.ref hm]) (QcV (some (.int (ii th)))) 0 0 (fun _ => False) := by
  refine mt_W (by decide +kernel) (Nat.le_of_ble_eq_true rfl) ?_
  intro P0 E0 S0 M0 A0 B0 T0 K0 C hN hP hK hr hk ls hl
  have hl : lv_has ls 1 [(0, .ref hm)] := hl
  refine lv_aload_n C.1 C.2.1 dX2_thrown_0 rfl (lv_at hl 0 rfl) ?_
  refine gf C hK hP 0 rfl rfl aw_uX2 6 (by decide) aw_f_X2_22 rfl dX2_thrown_1 ?_
  exact rt_i C hr hk dX2_thrown_4 rfl
set_option maxRecDepth 100000 in
set_option maxHeartbeats 1000000 in
theorem c_X2_modulo (l : Launch) (D : va_G) (hm : Nat) (p a b : Int) (n : Nat) (key dr th : Int) (hX hY hR hO : Nat) (sx sy dk dv : Int32) (hn : 0 < n ∧ n ≤ 1100) (z : Int) (hz : rl z) : Met l yX2_modulo (Cond.code yX2_modulo cX2_modulo 5 (some .int) :: AW) ({ frames := 0, cells := 0, slots := 0, locals := 0 } : Room) (PcW D [(hm, .inr (2, MO p a b n key dr th hX hY hR hO sx sy dk dv))] [] [.ref hm, .long (li z)]) (QcV (some (.int (ii (z % (n : Int)))))) 0 0 (fun _ => False) := by
  refine mt_W (by decide +kernel) (Nat.le_of_ble_eq_true rfl) ?_
  intro P0 E0 S0 M0 A0 B0 T0 K0 C hN hP hK hr hk ls hl
  have hl : lv_has ls 5 [(0, .ref hm), (1, .long (li z))] := hl
  have q := tmod_emod (a := z) (show (0 : Int) < n by omega)
  have z2 := Int.lt_tmod_of_pos z (show (0 : Int) < n by omega)
  have z3 := Int.tmod_lt_of_pos z (show (0 : Int) < n by omega)
  have q1 := em_b z (show (0 : Int) < n by omega)
  refine lv_lload_n C.1 C.2.1 dX2_modulo_0 rfl (lv_at hl 1 rfl) ?_
  refine lv_aload_n C.1 C.2.1 dX2_modulo_1 rfl (lv_at hl 0 rfl) ?_
  refine gf C hK hP 0 rfl rfl aw_uX2 3 (by decide) aw_f_X2_65 rfl dX2_modulo_2 ?_
  refine l_i2l C dX2_modulo_5 ⟨by omega, by omega⟩ ?_
  refine l_remT C dX2_modulo_6 hz ⟨by omega, by omega⟩ ?_
  refine lv_lstore_n C.1 C.2.1 dX2_modulo_7 rfl hl (by decide) rfl (fun ls hl => ?_)
  have hl : lv_has ls 5 [(3, .long (li (z.tmod (n : Int)))), (0, .ref hm), (1, .long (li z))] := hl
  refine lv_lload_n C.1 C.2.1 dX2_modulo_8 rfl (lv_at hl 0 rfl) ?_
  refine l_const0 C dX2_modulo_9 ?_
  refine l_cmp C dX2_modulo_10 ⟨by omega, by omega⟩ ⟨by omega, by omega⟩ ?_
  have cb10 := cmI_b (z.tmod (n : Int)) 0
  have ce10 := cmI_eq (a := z.tmod (n : Int)) (b := 0)
  have cl10 := cmI_lt (a := z.tmod (n : Int)) (b := 0)
  refine i_if_ge (tgt := 24) C dX2_modulo_11 (by decide) ⟨by omega, by omega⟩ (fun h1 => ?_) (fun h1 => ?_)
  · rw [if_neg (show ¬ z.tmod (n : Int) < 0 by omega)] at q
    refine lv_lload_n C.1 C.2.1 dX2_modulo_24 rfl (lv_at hl 0 rfl) ?_
    refine l_l2i C dX2_modulo_25 ⟨by omega, by omega⟩ ?_
    exact rt_i C hr hk dX2_modulo_26 (by rw [q])
  · rw [if_pos (show z.tmod (n : Int) < 0 by omega)] at q
    refine lv_lload_n C.1 C.2.1 dX2_modulo_14 rfl (lv_at hl 0 rfl) ?_
    refine lv_aload_n C.1 C.2.1 dX2_modulo_15 rfl (lv_at hl 1 rfl) ?_
    refine gf C hK hP 0 rfl rfl aw_uX2 3 (by decide) aw_f_X2_65 rfl dX2_modulo_16 ?_
    refine l_i2l C dX2_modulo_19 ⟨by omega, by omega⟩ ?_
    refine l_add C dX2_modulo_20 ?_
    refine lv_goto (tgt := 25) C.1 C.2.1 dX2_modulo_21 (by decide) ?_
    refine l_l2i C dX2_modulo_25 ⟨by omega, by omega⟩ ?_
    exact rt_i C hr hk dX2_modulo_26 (by rw [q])
