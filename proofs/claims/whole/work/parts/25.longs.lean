/-! Longs of the machine by integers. -/
def li (k : Int) : Int64 := Int64.ofInt k
abbrev rl (k : Int) : Prop := -9223372036854775808 ≤ k ∧ k < 9223372036854775808
theorem li_toInt {k : Int} (h : rl k) : (li k).toInt = k := Int64.toInt_ofInt_of_le (by omega) (by omega)
theorem li_of (x : Int64) : ∃ k : Int, rl k ∧ x = li k := by
  refine ⟨x.toInt, ⟨by have := Int64.le_toInt x; omega, by have := Int64.toInt_lt x; omega⟩, ?_⟩
  unfold li
  rw [Int64.ofInt_toInt]
theorem li_inj {a b : Int} (ha : rl a) (hb : rl b) : li a = li b ↔ a = b := by
  rw [← Int64.toInt_inj, li_toInt ha, li_toInt hb]
theorem li_add (a b : Int) : li a + li b = li (a + b) := (Int64.ofInt_add a b).symm
theorem li_sub (a b : Int) : li a - li b = li (a - b) := (Int64.ofInt_sub a b).symm
theorem li_mul (a b : Int) : li a * li b = li (a * b) := (Int64.ofInt_mul a b).symm
theorem ii_li {k : Int} (h : rg k) : (ii k).toInt64 = li k := by
  apply Int64.toInt_inj.mp
  rw [Int32.toInt_toInt64, ii_toInt h, li_toInt ⟨by omega, by omega⟩]
theorem li_ii {k : Int} (h : rg k) : (li k).toInt32 = ii k := by
  apply Int32.toInt_inj.mp
  rw [Int64.toInt_toInt32, li_toInt ⟨by omega, by omega⟩, ii_toInt h]
  exact Int.bmod_eq_of_le (by omega) (by omega)
/-- how two longs compare, as lcmp says it -/
def cmI (a b : Int) : Int := if b < a then 1 else if a = b then 0 else -1
theorem cmI_b (a b : Int) : -1 ≤ cmI a b ∧ cmI a b ≤ 1 := by
  unfold cmI
  split
  · omega
  · split <;> omega
theorem cmI_eq {a b : Int} : cmI a b = 0 ↔ a = b := by
  unfold cmI
  split
  · omega
  · split <;> omega
theorem cmI_lt {a b : Int} : cmI a b < 0 ↔ a < b := by
  unfold cmI
  split
  · omega
  · split <;> omega
theorem li_cmp {a b : Int} (ha : rl a) (hb : rl b) : lg_cmp (li a) (li b) = ii (cmI a b) := by
  unfold lg_cmp cmI
  have e1 : li a > li b ↔ b < a := by
    show li b < li a ↔ b < a
    rw [Int64.lt_iff_toInt_lt, li_toInt ha, li_toInt hb]
  have e2 := li_inj ha hb
  by_cases h1 : b < a
  · rw [if_pos h1, if_pos (e1.mpr h1)]
    decide +kernel
  · rw [if_neg h1, if_neg (fun z => h1 (e1.mp z))]
    by_cases h2 : a = b
    · rw [if_pos h2, if_pos (e2.mpr h2)]
      decide +kernel
    · rw [if_neg h2, if_neg (fun z => h2 (e2.mp z))]
      decide +kernel
theorem li_div {a d : Int} (ha : rl a) (hd : 0 < d ∧ d < 9223372036854775808) : li a / li d = li (a.tdiv d) := by
  apply Int64.toInt_inj.mp
  have h1 : (li d) ≠ -1 := by
    intro z
    have := congrArg Int64.toInt z
    rw [li_toInt ⟨by omega, by omega⟩] at this
    have e : ((-1 : Int64)).toInt = -1 := by decide +kernel
    omega
  rw [Int64.toInt_div_of_ne_right _ _ h1, li_toInt ha, li_toInt ⟨by omega, by omega⟩]
  have b : rl (a.tdiv d) := by
    rcases Int.le_total 0 a with h0 | h0
    · rw [Int.tdiv_eq_ediv_of_nonneg h0]
      have k1 := Int.ediv_nonneg h0 (show 0 ≤ d by omega)
      have k2 := Int.ediv_le_self d h0
      constructor <;> omega
    · have e : a = -(-a) := by omega
      rw [e, Int.neg_tdiv, Int.tdiv_eq_ediv_of_nonneg (show 0 ≤ -a by omega)]
      have k1 := Int.ediv_nonneg (show 0 ≤ -a by omega) (show 0 ≤ d by omega)
      have k2 := Int.ediv_le_self d (show 0 ≤ -a by omega)
      constructor <;> omega
  rw [li_toInt b]
theorem li_remT {a d : Int} (ha : rl a) (hd : 0 < d ∧ d < 9223372036854775808) : li a - li a / li d * li d = li (a.tmod d) := by
  rw [li_div ha hd, li_mul, li_sub, Int.tmod_def, Int.mul_comm]
theorem li_neg {k : Int} (h : rl k) : (li k).toBitVec.msb = decide (k < 0) := by
  rw [BitVec.msb_eq_toInt]
  show decide ((li k).toInt < 0) = decide (k < 0)
  rw [li_toInt h]
theorem li_xor {a b : Int} (ha : rl a) (hb : rl b) : ∃ k, rl k ∧ li a ^^^ li b = li k ∧ (0 ≤ k ↔ (a < 0 ↔ b < 0)) := by
  obtain ⟨k, hk, e⟩ := li_of (li a ^^^ li b)
  refine ⟨k, hk, e, ?_⟩
  have h : (li a ^^^ li b).toBitVec.msb = (decide (a < 0) ^^ decide (b < 0)) := by
    rw [Int64.toBitVec_xor, BitVec.msb_xor, li_neg ha, li_neg hb]
  rw [e, li_neg hk] at h
  by_cases h1 : a < 0 <;> by_cases h2 : b < 0 <;> simp [h1, h2] at h ⊢ <;> omega
theorem li_shr {k : Int} (h : rl k) (s : Int64) (n : Nat) (hs : (s.toBitVec.smod 64).toNat = n) : li k >>> s = li (k / 2 ^ n) := by
  apply Int64.toInt_inj.mp
  have e : (li k >>> s).toInt = (li k).toInt >>> n := by
    show (BitVec.sshiftRight (li k).toBitVec (s.toBitVec.smod 64).toNat).toInt = (li k).toBitVec.toInt >>> n
    rw [hs, BitVec.toInt_sshiftRight]
  have p2 : (0 : Int) < 2 ^ n := Int.pow_pos (by omega)
  have b : rl (k / 2 ^ n) := by
    rcases Int.le_total 0 k with h0 | h0
    · have k1 := Int.ediv_nonneg h0 (Int.le_of_lt p2)
      have k2 := Int.ediv_le_self (2 ^ n) h0
      constructor <;> omega
    · have k1 : k ≤ k / 2 ^ n := by
        rw [Int.le_ediv_iff_mul_le p2]
        have t := Int.mul_nonneg (show 0 ≤ -k by omega) (show (0 : Int) ≤ 2 ^ n - 1 by omega)
        rw [Int.neg_mul, Int.mul_sub, Int.mul_one] at t
        omega
      have k2 : k / 2 ^ n ≤ 0 := Int.ediv_nonpos_of_nonpos_of_neg h0 p2
      constructor <;> omega
  rw [e, li_toInt h, li_toInt b, Int.shiftRight_eq_div_pow]
  rfl
theorem li_and {k : Int} (n : Nat) (hn : n ≤ 32) (m : Int64) (hm : m.toBitVec.toNat = 2 ^ n - 1) : li k &&& m = li (k % 2 ^ n) := by
  apply Int64.toBitVec_inj.mp
  rw [Int64.toBitVec_and]
  apply BitVec.eq_of_toNat_eq
  rw [BitVec.toNat_and, hm, Nat.and_two_pow_sub_one_eq_mod]
  have e1 : (li k).toBitVec.toNat = (k % 2 ^ 64).toNat := by
    show (BitVec.ofInt 64 k).toNat = _
    rw [BitVec.toNat_ofInt]
    rfl
  have e2 : (li (k % 2 ^ n)).toBitVec.toNat = ((k % 2 ^ n) % 2 ^ 64).toNat := by
    show (BitVec.ofInt 64 (k % 2 ^ n)).toNat = _
    rw [BitVec.toNat_ofInt]
    rfl
  rw [e1, e2]
  have p1 : (0 : Int) < 2 ^ n := Int.pow_pos (by omega)
  have a1 := Int.emod_nonneg k (show (2 : Int) ^ n ≠ 0 by omega)
  have a2 := Int.emod_lt_of_pos k p1
  have le : (2 : Int) ^ n ≤ 2 ^ 64 := by
    have : (2 : Nat) ^ n ≤ 2 ^ 64 := Nat.pow_le_pow_right (by omega) (by omega)
    exact_mod_cast this
  have b1 := Int.emod_nonneg k (show (2 : Int) ^ 64 ≠ 0 by omega)
  rw [Int.emod_eq_of_lt a1 (by omega)]
  have d : (2 : Int) ^ n ∣ 2 ^ 64 := ⟨2 ^ (64 - n), by rw [← Int.pow_add]; congr 1; omega⟩
  have key : k % 2 ^ 64 % 2 ^ n = k % 2 ^ n := Int.emod_emod_of_dvd k d
  have c : (((k % 2 ^ 64).toNat % 2 ^ n : Nat) : Int) = k % 2 ^ n := by
    rw [Int.natCast_emod, Int.toNat_of_nonneg b1]
    have : (((2 ^ n : Nat)) : Int) = 2 ^ n := by exact_mod_cast rfl
    rw [this, key]
  omega
section Longs
variable {p : Program} {l : Launch} {e : Env} {R : Room} {s : State} {m : MethodId} {args : Array Value} {below : List Frame} {meth : Method} {c : Code} {H : Heap} {locs : List Loc} {cells slots : Nat} {Q : State → Prop}
variable {cc : ByteArray} {nL pc : Nat} {own : String} {ls : Array Slot} {rest : List Value}
theorem l_add (C : Cx p m c cc nL s args own) {a b : Int} (hdg : decode cc pc = .ok (.ladd, 1)) (k : W p l e R s m args below meth c H locs cells slots Q (F0 m (pc + 1) ls (.long (li (a + b)) :: rest))) : W p l e R s m args below meth c H locs cells slots Q (F0 m pc ls (.long (li b) :: .long (li a) :: rest)) := lv_ladd C.1 C.2.1 hdg (by rw [li_add]; exact k)
theorem l_sub (C : Cx p m c cc nL s args own) {a b : Int} (hdg : decode cc pc = .ok (.lsub, 1)) (k : W p l e R s m args below meth c H locs cells slots Q (F0 m (pc + 1) ls (.long (li (a - b)) :: rest))) : W p l e R s m args below meth c H locs cells slots Q (F0 m pc ls (.long (li b) :: .long (li a) :: rest)) := lv_lsub C.1 C.2.1 hdg (by rw [li_sub]; exact k)
theorem l_mul (C : Cx p m c cc nL s args own) {a b : Int} (hdg : decode cc pc = .ok (.lmul, 1)) (k : W p l e R s m args below meth c H locs cells slots Q (F0 m (pc + 1) ls (.long (li (a * b)) :: rest))) : W p l e R s m args below meth c H locs cells slots Q (F0 m pc ls (.long (li b) :: .long (li a) :: rest)) := lv_lmul C.1 C.2.1 hdg (by rw [li_mul]; exact k)
theorem l_remT (C : Cx p m c cc nL s args own) {a d : Int} (hdg : decode cc pc = .ok (.lrem, 1)) (ha : rl a) (hd : 0 < d ∧ d < 9223372036854775808) (k : W p l e R s m args below meth c H locs cells slots Q (F0 m (pc + 1) ls (.long (li (a.tmod d)) :: rest))) : W p l e R s m args below meth c H locs cells slots Q (F0 m pc ls (.long (li d) :: .long (li a) :: rest)) :=
  lv_lrem C.1 C.2.1 hdg (fun z => by rw [show (0 : Int64) = li 0 by decide +kernel, li_inj ⟨by omega, by omega⟩ ⟨by omega, by omega⟩] at z; omega) (by rw [li_remT ha hd]; exact k)
theorem l_const0 (C : Cx p m c cc nL s args own) (hdg : decode cc pc = .ok (.lconst 0, 1)) (k : W p l e R s m args below meth c H locs cells slots Q (F0 m (pc + 1) ls (.long (li 0) :: rest))) : W p l e R s m args below meth c H locs cells slots Q (F0 m pc ls rest) := lv_lconst C.1 C.2.1 hdg (by decide +kernel) k
theorem l_ldc2 (C : Cx p m c cc nL s args own) {i : Nat} {n : Int} {v : Int64} (hdg : decode cc pc = .ok (.ldc2_w i, 3)) (hw : Cond.constantLong own i v ∈ AW) (hv : v = li n) (k : W p l e R s m args below meth c H locs cells slots Q (F0 m (pc + 3) ls (.long (li n) :: rest))) : W p l e R s m args below meth c H locs cells slots Q (F0 m pc ls rest) := by
  subst hv
  exact lv_ldc2 C.1 C.2.1 C.2.2.2.1 (C.2.2.2.2 _ hw) hdg k
theorem l_i2l (C : Cx p m c cc nL s args own) {a : Int} (hdg : decode cc pc = .ok (.i2l, 1)) (ha : rg a) (k : W p l e R s m args below meth c H locs cells slots Q (F0 m (pc + 1) ls (.long (li a) :: rest))) : W p l e R s m args below meth c H locs cells slots Q (F0 m pc ls (.int (ii a) :: rest)) := lv_i2l C.1 C.2.1 hdg (ii_li ha) k
theorem l_l2i (C : Cx p m c cc nL s args own) {a : Int} (hdg : decode cc pc = .ok (.l2i, 1)) (ha : rg a) (k : W p l e R s m args below meth c H locs cells slots Q (F0 m (pc + 1) ls (.int (ii a) :: rest))) : W p l e R s m args below meth c H locs cells slots Q (F0 m pc ls (.long (li a) :: rest)) := lv_l2i C.1 C.2.1 hdg (li_ii ha) k
theorem l_cmp (C : Cx p m c cc nL s args own) {a b : Int} (hdg : decode cc pc = .ok (.lcmp, 1)) (ha : rl a) (hb : rl b) (k : W p l e R s m args below meth c H locs cells slots Q (F0 m (pc + 1) ls (.int (ii (cmI a b)) :: rest))) : W p l e R s m args below meth c H locs cells slots Q (F0 m pc ls (.long (li b) :: .long (li a) :: rest)) := W.lcmp C.1 C.2.1 hdg (by rw [li_cmp ha hb]; exact k)
theorem l_shr (C : Cx p m c cc nL s args own) {a : Int} {y : Int32} (n : Nat) (hdg : decode cc pc = .ok (.lshr, 1)) (ha : rl a) (hs : ((y.toInt64 &&& 63).toBitVec.smod 64).toNat = n) (k : W p l e R s m args below meth c H locs cells slots Q (F0 m (pc + 1) ls (.long (li (a / 2 ^ n)) :: rest))) : W p l e R s m args below meth c H locs cells slots Q (F0 m pc ls (.int y :: .long (li a) :: rest)) := lv_lshr C.1 C.2.1 hdg (li_shr ha _ n hs) k
theorem l_and16 (C : Cx p m c cc nL s args own) {a : Int} (hdg : decode cc pc = .ok (.land, 1)) (k : W p l e R s m args below meth c H locs cells slots Q (F0 m (pc + 1) ls (.long (li (a % 65536)) :: rest))) : W p l e R s m args below meth c H locs cells slots Q (F0 m pc ls (.long (li 65535) :: .long (li a) :: rest)) := lv_land C.1 C.2.1 hdg (by rw [li_and 16 (by omega) (li 65535) (by decide +kernel)]; exact k)
theorem l_top {a b : Int} (h : a = b) (k : W p l e R s m args below meth c H locs cells slots Q (F0 m pc ls (.long (li b) :: rest))) : W p l e R s m args below meth c H locs cells slots Q (F0 m pc ls (.long (li a) :: rest)) := by rw [h]; exact k
theorem rt_l (C : Cx p m c cc nL s args own) (hr : meth.sig.returnType = some .long) (hk : meth.locks = false) {a : Int} {v : Int64} (hdg : decode cc pc = .ok (.lreturn, 1)) (hv : li a = v) : W p l e R s m args below meth c s.heap [] 0 0 (MQ below (QcV (some (.long v))) args s 0 0 (fun _ => False)) (F0 m pc ls [.long (li a)]) := by
  subst hv
  exact W.lret C.1 C.2.1 hr (fun t ht _ => ⟨rfl, ht⟩) (fun q h => by cases h) hdg hk
end Longs
