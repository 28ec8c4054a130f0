/-! Ints of the machine by integers: rows that reckon with integers. -/
def ii (k : Int) : Int32 := Int32.ofInt k
abbrev rg (k : Int) : Prop := -2147483648 ≤ k ∧ k < 2147483648
theorem ii_toInt {k : Int} (h : rg k) : (ii k).toInt = k := by
  unfold ii
  rw [Int32.toInt_ofInt]
  have hs : ((Int32.size : Nat) : Int) = 4294967296 := rfl
  exact Int.bmod_eq_of_le (by omega) (by omega)
theorem ii_nI (n : Nat) : ii (n : Int) = nI n := by
  unfold ii nI
  exact Int32.ofInt_eq_ofNat
theorem ii_add (a b : Int) : ii a + ii b = ii (a + b) := (Int32.ofInt_add a b).symm
theorem ii_sub (a b : Int) : ii a - ii b = ii (a - b) := (Int32.ofInt_sub a b).symm
theorem ii_mul (a b : Int) : ii a * ii b = ii (a * b) := (Int32.ofInt_mul a b).symm
theorem ii_lt {a b : Int} (ha : rg a) (hb : rg b) : ii a < ii b ↔ a < b := by
  rw [Int32.lt_iff_toInt_lt, ii_toInt ha, ii_toInt hb]
theorem ii_le {a b : Int} (ha : rg a) (hb : rg b) : ii a ≤ ii b ↔ a ≤ b := by
  rw [Int32.le_iff_toInt_le, ii_toInt ha, ii_toInt hb]
theorem ii_eq {a b : Int} (ha : rg a) (hb : rg b) : ii a = ii b ↔ a = b := by
  rw [← Int32.toInt_inj, ii_toInt ha, ii_toInt hb]
theorem ii_0 : ii 0 = 0 := by decide +kernel
theorem ii_of (x : Int32) : ∃ k : Int, rg k ∧ x = ii k := by
  refine ⟨x.toInt, ⟨by have := Int32.le_toInt x; omega, by have := Int32.toInt_lt x; omega⟩, ?_⟩
  unfold ii
  rw [Int32.ofInt_toInt]
theorem ii_rem {a d : Int} (h0 : 0 ≤ a) (h1 : a < 2147483648) (hd : 0 < d) (h2 : d < 2147483648) : ii a - ii a / ii d * ii d = ii (a % d) := by
  obtain ⟨n, rfl⟩ := Int.eq_ofNat_of_zero_le h0
  obtain ⟨k, rfl⟩ := Int.eq_ofNat_of_zero_le (show 0 ≤ d by omega)
  rw [ii_nI, ii_nI, pk_rem (by omega) (by omega) (by omega), ← ii_nI, Int.natCast_emod]
section Ints
variable {p : Program} {l : Launch} {e : Env} {R : Room} {s : State} {m : MethodId} {args : Array Value} {below : List Frame} {meth : Method} {c : Code} {H : Heap} {locs : List Loc} {cells slots : Nat} {Q : State → Prop}
variable {cc : ByteArray} {nL pc : Nat} {own : String} {ls : Array Slot} {rest : List Value}
theorem i_add (C : Cx p m c cc nL s args own) {a b : Int} (hdg : decode cc pc = .ok (.iadd, 1)) (k : W p l e R s m args below meth c H locs cells slots Q (F0 m (pc + 1) ls (.int (ii (a + b)) :: rest))) : W p l e R s m args below meth c H locs cells slots Q (F0 m pc ls (.int (ii b) :: .int (ii a) :: rest)) := lv_iadd C.1 C.2.1 hdg (by rw [ii_add]; exact k)
theorem i_sub (C : Cx p m c cc nL s args own) {a b : Int} (hdg : decode cc pc = .ok (.isub, 1)) (k : W p l e R s m args below meth c H locs cells slots Q (F0 m (pc + 1) ls (.int (ii (a - b)) :: rest))) : W p l e R s m args below meth c H locs cells slots Q (F0 m pc ls (.int (ii b) :: .int (ii a) :: rest)) := lv_isub C.1 C.2.1 hdg (by rw [ii_sub]; exact k)
theorem i_mul (C : Cx p m c cc nL s args own) {a b : Int} (hdg : decode cc pc = .ok (.imul, 1)) (k : W p l e R s m args below meth c H locs cells slots Q (F0 m (pc + 1) ls (.int (ii (a * b)) :: rest))) : W p l e R s m args below meth c H locs cells slots Q (F0 m pc ls (.int (ii b) :: .int (ii a) :: rest)) := lv_imul C.1 C.2.1 hdg (by rw [ii_mul]; exact k)
theorem i_rem (C : Cx p m c cc nL s args own) {a d : Int} (hdg : decode cc pc = .ok (.irem, 1)) (h0 : 0 ≤ a ∧ a < 2147483648) (hd : 0 < d ∧ d < 2147483648) (k : W p l e R s m args below meth c H locs cells slots Q (F0 m (pc + 1) ls (.int (ii (a % d)) :: rest))) : W p l e R s m args below meth c H locs cells slots Q (F0 m pc ls (.int (ii d) :: .int (ii a) :: rest)) :=
  lv_irem C.1 C.2.1 hdg (fun z => by rw [← ii_0, ii_eq ⟨by omega, by omega⟩ ⟨by omega, by omega⟩] at z; omega) (by rw [ii_rem h0.1 h0.2 hd.1 hd.2]; exact k)
theorem i_const (C : Cx p m c cc nL s args own) {n : Int} (hdg : decode cc pc = .ok (.iconst n, 1)) (k : W p l e R s m args below meth c H locs cells slots Q (F0 m (pc + 1) ls (.int (ii n) :: rest))) : W p l e R s m args below meth c H locs cells slots Q (F0 m pc ls rest) := lv_iconst C.1 C.2.1 hdg rfl k
theorem i_bipush (C : Cx p m c cc nL s args own) {n : Int} (hdg : decode cc pc = .ok (.bipush n, 2)) (hn : (Int8.ofInt n).toInt32 = ii n) (k : W p l e R s m args below meth c H locs cells slots Q (F0 m (pc + 2) ls (.int (ii n) :: rest))) : W p l e R s m args below meth c H locs cells slots Q (F0 m pc ls rest) := lv_bipush C.1 C.2.1 hdg hn k
theorem i_sipush (C : Cx p m c cc nL s args own) {n : Int} (hdg : decode cc pc = .ok (.sipush n, 3)) (hn : (Int16.ofInt n).toInt32 = ii n) (k : W p l e R s m args below meth c H locs cells slots Q (F0 m (pc + 3) ls (.int (ii n) :: rest))) : W p l e R s m args below meth c H locs cells slots Q (F0 m pc ls rest) := lv_sipush C.1 C.2.1 hdg hn k
theorem i_ldc (C : Cx p m c cc nL s args own) {i : Nat} {n : Int} {v : Int32} (hdg : decode cc pc = .ok (.ldc i, 2)) (hw : Cond.constant own i v ∈ AW) (hv : v = ii n) (k : W p l e R s m args below meth c H locs cells slots Q (F0 m (pc + 2) ls (.int (ii n) :: rest))) : W p l e R s m args below meth c H locs cells slots Q (F0 m pc ls rest) := by
  subst hv
  exact lv_ldc C.1 C.2.1 C.2.2.2.1 (C.2.2.2.2 _ hw) hdg k
/-- one value on the stack replaced by an equal one -/
theorem i_top {a b : Int} (h : a = b) (k : W p l e R s m args below meth c H locs cells slots Q (F0 m pc ls (.int (ii b) :: rest))) : W p l e R s m args below meth c H locs cells slots Q (F0 m pc ls (.int (ii a) :: rest)) := by rw [h]; exact k
theorem i_icmp_eq (C : Cx p m c cc nL s args own) {a b : Int} {off : Int} {tgt : Nat} (hdg : decode cc pc = .ok (.if_icmp .eq off, 3)) (ht : (pc : Int) + off = (tgt : Int)) (ha : rg a) (hb : rg b) (kt : a = b → W p l e R s m args below meth c H locs cells slots Q (F0 m tgt ls rest)) (kf : ¬ (a = b) → W p l e R s m args below meth c H locs cells slots Q (F0 m (pc + 3) ls rest)) : W p l e R s m args below meth c H locs cells slots Q (F0 m pc ls (.int (ii b) :: .int (ii a) :: rest)) := lv_icmp_eq C.1 C.2.1 hdg ht (fun h => kt ((ii_eq ha hb).mp h)) (fun h => kf (fun z => h ((ii_eq ha hb).mpr z)))
theorem i_icmp_ne (C : Cx p m c cc nL s args own) {a b : Int} {off : Int} {tgt : Nat} (hdg : decode cc pc = .ok (.if_icmp .ne off, 3)) (ht : (pc : Int) + off = (tgt : Int)) (ha : rg a) (hb : rg b) (kt : ¬ a = b → W p l e R s m args below meth c H locs cells slots Q (F0 m tgt ls rest)) (kf : ¬ (¬ a = b) → W p l e R s m args below meth c H locs cells slots Q (F0 m (pc + 3) ls rest)) : W p l e R s m args below meth c H locs cells slots Q (F0 m pc ls (.int (ii b) :: .int (ii a) :: rest)) := lv_icmp_ne C.1 C.2.1 hdg ht (fun h => kt (fun z => h ((ii_eq ha hb).mpr z))) (fun h => kf (fun z => z ((ii_eq ha hb).mp h)))
theorem i_icmp_lt (C : Cx p m c cc nL s args own) {a b : Int} {off : Int} {tgt : Nat} (hdg : decode cc pc = .ok (.if_icmp .lt off, 3)) (ht : (pc : Int) + off = (tgt : Int)) (ha : rg a) (hb : rg b) (kt : a < b → W p l e R s m args below meth c H locs cells slots Q (F0 m tgt ls rest)) (kf : ¬ (a < b) → W p l e R s m args below meth c H locs cells slots Q (F0 m (pc + 3) ls rest)) : W p l e R s m args below meth c H locs cells slots Q (F0 m pc ls (.int (ii b) :: .int (ii a) :: rest)) := lv_icmp_lt C.1 C.2.1 hdg ht (fun h => kt ((ii_lt ha hb).mp h)) (fun h => kf (fun z => h ((ii_lt ha hb).mpr z)))
theorem i_icmp_ge (C : Cx p m c cc nL s args own) {a b : Int} {off : Int} {tgt : Nat} (hdg : decode cc pc = .ok (.if_icmp .ge off, 3)) (ht : (pc : Int) + off = (tgt : Int)) (ha : rg a) (hb : rg b) (kt : b ≤ a → W p l e R s m args below meth c H locs cells slots Q (F0 m tgt ls rest)) (kf : ¬ (b ≤ a) → W p l e R s m args below meth c H locs cells slots Q (F0 m (pc + 3) ls rest)) : W p l e R s m args below meth c H locs cells slots Q (F0 m pc ls (.int (ii b) :: .int (ii a) :: rest)) := lv_icmp_ge C.1 C.2.1 hdg ht (fun h => kt ((ii_le hb ha).mp h)) (fun h => kf (fun z => h ((ii_le hb ha).mpr z)))
theorem i_icmp_gt (C : Cx p m c cc nL s args own) {a b : Int} {off : Int} {tgt : Nat} (hdg : decode cc pc = .ok (.if_icmp .gt off, 3)) (ht : (pc : Int) + off = (tgt : Int)) (ha : rg a) (hb : rg b) (kt : b < a → W p l e R s m args below meth c H locs cells slots Q (F0 m tgt ls rest)) (kf : ¬ (b < a) → W p l e R s m args below meth c H locs cells slots Q (F0 m (pc + 3) ls rest)) : W p l e R s m args below meth c H locs cells slots Q (F0 m pc ls (.int (ii b) :: .int (ii a) :: rest)) := lv_icmp_gt C.1 C.2.1 hdg ht (fun h => kt ((ii_lt hb ha).mp h)) (fun h => kf (fun z => h ((ii_lt hb ha).mpr z)))
theorem i_icmp_le (C : Cx p m c cc nL s args own) {a b : Int} {off : Int} {tgt : Nat} (hdg : decode cc pc = .ok (.if_icmp .le off, 3)) (ht : (pc : Int) + off = (tgt : Int)) (ha : rg a) (hb : rg b) (kt : a ≤ b → W p l e R s m args below meth c H locs cells slots Q (F0 m tgt ls rest)) (kf : ¬ (a ≤ b) → W p l e R s m args below meth c H locs cells slots Q (F0 m (pc + 3) ls rest)) : W p l e R s m args below meth c H locs cells slots Q (F0 m pc ls (.int (ii b) :: .int (ii a) :: rest)) := lv_icmp_le C.1 C.2.1 hdg ht (fun h => kt ((ii_le ha hb).mp h)) (fun h => kf (fun z => h ((ii_le ha hb).mpr z)))
theorem i_if_eq (C : Cx p m c cc nL s args own) {a : Int} {off : Int} {tgt : Nat} (hdg : decode cc pc = .ok (.ifCond .eq off, 3)) (ht : (pc : Int) + off = (tgt : Int)) (ha : rg a) (kt : a = 0 → W p l e R s m args below meth c H locs cells slots Q (F0 m tgt ls rest)) (kf : ¬ (a = 0) → W p l e R s m args below meth c H locs cells slots Q (F0 m (pc + 3) ls rest)) : W p l e R s m args below meth c H locs cells slots Q (F0 m pc ls (.int (ii a) :: rest)) := by
  have hb : rg 0 := ⟨by omega, by omega⟩
  exact lv_if_eq C.1 C.2.1 hdg ht (fun h => kt ((ii_eq ha hb).mp (by rw [ii_0]; exact h))) (fun h => kf (fun z => h (by rw [← ii_0]; exact (ii_eq ha hb).mpr z)))
theorem i_if_ne (C : Cx p m c cc nL s args own) {a : Int} {off : Int} {tgt : Nat} (hdg : decode cc pc = .ok (.ifCond .ne off, 3)) (ht : (pc : Int) + off = (tgt : Int)) (ha : rg a) (kt : ¬ a = 0 → W p l e R s m args below meth c H locs cells slots Q (F0 m tgt ls rest)) (kf : ¬ (¬ a = 0) → W p l e R s m args below meth c H locs cells slots Q (F0 m (pc + 3) ls rest)) : W p l e R s m args below meth c H locs cells slots Q (F0 m pc ls (.int (ii a) :: rest)) := by
  have hb : rg 0 := ⟨by omega, by omega⟩
  exact lv_if_ne C.1 C.2.1 hdg ht (fun h => kt (fun z => h (by rw [z]; exact ii_0))) (fun h => kf (fun z => z ((ii_eq ha hb).mp (by rw [ii_0]; exact h))))
theorem i_if_lt (C : Cx p m c cc nL s args own) {a : Int} {off : Int} {tgt : Nat} (hdg : decode cc pc = .ok (.ifCond .lt off, 3)) (ht : (pc : Int) + off = (tgt : Int)) (ha : rg a) (kt : a < 0 → W p l e R s m args below meth c H locs cells slots Q (F0 m tgt ls rest)) (kf : ¬ (a < 0) → W p l e R s m args below meth c H locs cells slots Q (F0 m (pc + 3) ls rest)) : W p l e R s m args below meth c H locs cells slots Q (F0 m pc ls (.int (ii a) :: rest)) := by
  have hb : rg 0 := ⟨by omega, by omega⟩
  exact lv_if_lt C.1 C.2.1 hdg ht (fun h => kt ((ii_lt ha hb).mp (by rw [ii_0]; exact h))) (fun h => kf (fun z => h (by rw [← ii_0]; exact (ii_lt ha hb).mpr z)))
theorem i_if_ge (C : Cx p m c cc nL s args own) {a : Int} {off : Int} {tgt : Nat} (hdg : decode cc pc = .ok (.ifCond .ge off, 3)) (ht : (pc : Int) + off = (tgt : Int)) (ha : rg a) (kt : 0 ≤ a → W p l e R s m args below meth c H locs cells slots Q (F0 m tgt ls rest)) (kf : ¬ (0 ≤ a) → W p l e R s m args below meth c H locs cells slots Q (F0 m (pc + 3) ls rest)) : W p l e R s m args below meth c H locs cells slots Q (F0 m pc ls (.int (ii a) :: rest)) := by
  have hb : rg 0 := ⟨by omega, by omega⟩
  exact lv_if_ge C.1 C.2.1 hdg ht (fun h => kt ((ii_le hb ha).mp (by rw [ii_0]; exact h))) (fun h => kf (fun z => h (by rw [← ii_0]; exact (ii_le hb ha).mpr z)))
theorem i_if_gt (C : Cx p m c cc nL s args own) {a : Int} {off : Int} {tgt : Nat} (hdg : decode cc pc = .ok (.ifCond .gt off, 3)) (ht : (pc : Int) + off = (tgt : Int)) (ha : rg a) (kt : 0 < a → W p l e R s m args below meth c H locs cells slots Q (F0 m tgt ls rest)) (kf : ¬ (0 < a) → W p l e R s m args below meth c H locs cells slots Q (F0 m (pc + 3) ls rest)) : W p l e R s m args below meth c H locs cells slots Q (F0 m pc ls (.int (ii a) :: rest)) := by
  have hb : rg 0 := ⟨by omega, by omega⟩
  exact lv_if_gt C.1 C.2.1 hdg ht (fun h => kt ((ii_lt hb ha).mp (by rw [ii_0]; exact h))) (fun h => kf (fun z => h (by rw [← ii_0]; exact (ii_lt hb ha).mpr z)))
theorem i_if_le (C : Cx p m c cc nL s args own) {a : Int} {off : Int} {tgt : Nat} (hdg : decode cc pc = .ok (.ifCond .le off, 3)) (ht : (pc : Int) + off = (tgt : Int)) (ha : rg a) (kt : a ≤ 0 → W p l e R s m args below meth c H locs cells slots Q (F0 m tgt ls rest)) (kf : ¬ (a ≤ 0) → W p l e R s m args below meth c H locs cells slots Q (F0 m (pc + 3) ls rest)) : W p l e R s m args below meth c H locs cells slots Q (F0 m pc ls (.int (ii a) :: rest)) := by
  have hb : rg 0 := ⟨by omega, by omega⟩
  exact lv_if_le C.1 C.2.1 hdg ht (fun h => kt ((ii_le ha hb).mp (by rw [ii_0]; exact h))) (fun h => kf (fun z => h (by rw [← ii_0]; exact (ii_le ha hb).mpr z)))
end Ints
/-- the head of a method that only reads ints and tables -/
theorem mt_pure {l : Launch} {y : MethodName} {cc : ByteArray} {maxL : Nat} {ret : Option FieldType} {rm : Room} {av : List Value} {v : Option Value} (hy : plainName y.cls = true) (hn : (lg_sl av).length ≤ maxL)
    (body : ∀ p e s m args below meth c, Cx p m c cc maxL s args y.cls → Nw s → meth.sig.returnType = ret → meth.locks = false → ∀ ls, lv_has ls maxL (lv_args 0 av) → W p l e rm s m args below meth c s.heap [] 0 0 (MQ below (QcV v) args s 0 0 (fun _ => False)) (F0 m 0 ls [])) :
    Met l y (Cond.code y cc maxL ret :: AW) rm (PcN av) (QcV v) 0 0 (fun _ => False) := by
  refine Met.ofW (cc := cc) (maxL := maxL) (ret := ret) hy rfl ?_
  intro p e s m args below meth c s₁ B hml hv
  obtain ⟨rfl, hN⟩ := hv
  have hts := atoms_spec (ws := Cond.code y cc maxL ret :: AW) B.pre
  have hl := lv_entry av (n := maxL) hn
  rw [lg_entry_eq]
  generalize (lg_sl av ++ List.replicate (maxL - (lg_sl av).length) Slot.unset).toArray = ls at hl ⊢
  exact body p e s m _ below meth c ⟨B.exec, B.bytes, hml, findClass_of_methodNamed B.named, fun w h => hts w (List.mem_cons_of_mem _ h)⟩ hN B.returns B.notSynchronized ls hl
section Ends
variable {p : Program} {l : Launch} {e : Env} {R : Room} {s : State} {m : MethodId} {args : Array Value} {below : List Frame} {meth : Method} {c : Code}
variable {cc : ByteArray} {nL pc : Nat} {own : String} {ls : Array Slot}
theorem rt_i (C : Cx p m c cc nL s args own) (hr : meth.sig.returnType = some .int) (hk : meth.locks = false) {a : Int} {v : Int32} (hdg : decode cc pc = .ok (.ireturn, 1)) (hv : ii a = v) : W p l e R s m args below meth c s.heap [] 0 0 (MQ below (QcV (some (.int v))) args s 0 0 (fun _ => False)) (F0 m pc ls [.int (ii a)]) := by
  subst hv
  exact W.iret C.1 C.2.1 hr (fun t ht _ => ⟨rfl, ht⟩) (fun q h => by cases h) hdg hk
theorem rt_z (C : Cx p m c cc nL s args own) (hr : meth.sig.returnType = some .boolean) (hk : meth.locks = false) {a : Int} {v : Int32} (hdg : decode cc pc = .ok (.ireturn, 1)) (h01 : a = 0 ∨ a = 1) (hv : ii a = v) : W p l e R s m args below meth c s.heap [] 0 0 (MQ below (QcV (some (.int v))) args s 0 0 (fun _ => False)) (F0 m pc ls [.int (ii a)]) := by
  subst hv
  exact W.zret C.1 C.2.1 hr (by rcases h01 with rfl | rfl <;> decide +kernel) (fun t ht _ => ⟨rfl, ht⟩) (fun q h => by cases h) hdg hk
end Ends
