/-! More rows: signed remainder, division, signs, longs, calls inside the nest. -/
theorem ii_div {a d : Int} (ha : rg a) (hd : 0 < d ∧ d < 2147483648) : ii a / ii d = ii (a.tdiv d) := by
  apply Int32.toInt_inj.mp
  have h1 : (ii d) ≠ -1 := by
    intro z
    have := congrArg Int32.toInt z
    rw [ii_toInt ⟨by omega, by omega⟩] at this
    have e : ((-1 : Int32)).toInt = -1 := by decide +kernel
    omega
  rw [Int32.toInt_div_of_ne_right _ _ h1, ii_toInt ha, ii_toInt ⟨by omega, by omega⟩]
  have b : rg (a.tdiv d) := by
    rcases Int.le_total 0 a with h0 | h0
    · rw [Int.tdiv_eq_ediv_of_nonneg h0]
      have k1 := Int.ediv_nonneg h0 (show 0 ≤ d by omega)
      have k2 := Int.ediv_le_self d h0
      constructor <;> omega
    · have e : a = -(-a) := by omega
      rw [e, Int.neg_tdiv, Int.tdiv_eq_ediv_of_nonneg (show 0 ≤ -a by omega)]
      have k1 := Int.ediv_nonneg (show 0 ≤ -a by omega) (show 0 ≤ d by omega)
      have k2 := Int.ediv_le_self d (show 0 ≤ -a by omega)
      constructor <;> omega
  rw [ii_toInt b]
theorem ii_remT {a d : Int} (ha : rg a) (hd : 0 < d ∧ d < 2147483648) : ii a - ii a / ii d * ii d = ii (a.tmod d) := by
  rw [ii_div ha hd, ii_mul, ii_sub, Int.tmod_def, Int.mul_comm]
theorem tmod_emod {a d : Int} (hd : 0 < d) : a % d = if a.tmod d < 0 then a.tmod d + d else a.tmod d := by
  rw [Int.tmod_eq_emod]
  have h1 := Int.emod_nonneg a (show d ≠ 0 by omega)
  have h2 := Int.emod_lt_of_pos a hd
  split
  · split <;> omega
  · split
    · omega
    · omega
theorem ii_neg {k : Int} (h : rg k) : (ii k).toBitVec.msb = decide (k < 0) := by
  rw [BitVec.msb_eq_toInt]
  show decide ((ii k).toInt < 0) = decide (k < 0)
  rw [ii_toInt h]
theorem ii_xor {a b : Int} (ha : rg a) (hb : rg b) : (0 ≤ ii a ^^^ ii b) ↔ (a < 0 ↔ b < 0) := by
  rw [Int32.le_iff_toInt_le]
  have e0 : (0 : Int32).toInt = 0 := rfl
  rw [e0]
  have h : (ii a ^^^ ii b).toBitVec.msb = (decide (a < 0) ^^ decide (b < 0)) := by
    rw [Int32.toBitVec_xor, BitVec.msb_xor, ii_neg ha, ii_neg hb]
  rw [BitVec.msb_eq_toInt] at h
  have h : decide ((ii a ^^^ ii b).toInt < 0) = (decide (a < 0) ^^ decide (b < 0)) := h
  by_cases h1 : a < 0 <;> by_cases h2 : b < 0 <;> simp [h1, h2] at h ⊢ <;> omega
section More
variable {p : Program} {l : Launch} {e : Env} {R : Room} {s : State} {m : MethodId} {args : Array Value} {below : List Frame} {meth : Method} {c : Code} {H : Heap} {locs : List Loc} {cells slots : Nat} {Q : State → Prop}
variable {cc : ByteArray} {nL pc : Nat} {own : String} {ls : Array Slot} {rest : List Value}
theorem i_remT (C : Cx p m c cc nL s args own) {a d : Int} (hdg : decode cc pc = .ok (.irem, 1)) (ha : rg a) (hd : 0 < d ∧ d < 2147483648) (k : W p l e R s m args below meth c H locs cells slots Q (F0 m (pc + 1) ls (.int (ii (a.tmod d)) :: rest))) : W p l e R s m args below meth c H locs cells slots Q (F0 m pc ls (.int (ii d) :: .int (ii a) :: rest)) :=
  lv_irem C.1 C.2.1 hdg (fun z => by rw [← ii_0, ii_eq ⟨by omega, by omega⟩ ⟨by omega, by omega⟩] at z; omega) (by rw [ii_remT ha hd]; exact k)
theorem i_div (C : Cx p m c cc nL s args own) {a d : Int} (hdg : decode cc pc = .ok (.idiv, 1)) (h0 : 0 ≤ a ∧ a < 2147483648) (hd : 0 < d ∧ d < 2147483648) (k : W p l e R s m args below meth c H locs cells slots Q (F0 m (pc + 1) ls (.int (ii (a / d)) :: rest))) : W p l e R s m args below meth c H locs cells slots Q (F0 m pc ls (.int (ii d) :: .int (ii a) :: rest)) :=
  lv_idiv C.1 C.2.1 hdg (fun z => by rw [← ii_0, ii_eq ⟨by omega, by omega⟩ ⟨by omega, by omega⟩] at z; omega) (by rw [ii_div ⟨by omega, by omega⟩ hd, Int.tdiv_eq_ediv_of_nonneg h0.1]; exact k)
/-- a call of a static method of a nest mate that only reads -/
theorem ca_SN {bytes : ByteArray} {maxL index : Nat} {host : String} {y : MethodName} {ret : Option FieldType} {rm : Room} {As st0 : List Value} {v : Option Value} {Pc : Array Value → State → Prop}
    (C : Cx p m c cc nL s args own) (hM : Met l y (Cond.code y bytes maxL ret :: AW) rm Pc (QcV v) 0 0 (fun _ => False)) (hN : Nw s) (hp : PreS s H Pc As)
    (h1 : Cond.code y bytes maxL ret ∈ AW) (h2 : Cond.methodLinkNest own index y host ∈ NWL) (h3 : Cond.static y ∈ AW) (h4 : Cond.initialized y.cls ∈ AW) (hrc : rm.cells = 0 ∧ rm.slots = 0) (n : Nat)
    (hd : y.cls ≠ "java/lang/invoke/MethodHandle" ∧ y.cls ≠ "java/lang/invoke/VarHandle" ∧ (parseMethodDescriptor y.desc).map (fun d => d.parameters.length) = some n) (hn : As.length = n) (hR : rm.frames + 1 ≤ R.frames ∧ 8 + (maxL + 11) + rm.locals ≤ R.locals)
    (hsize : ls.size = nL) (hst : st0 = As.reverse ++ rest) (hrest : (rest.map fun v => v.category).sum ≤ 8) (hdg : decode cc pc = .ok (.invokestatic index, 3)) (hcs : cells ≤ R.cells ∧ slots ≤ R.slots)
    (kk : W p l e R s m args below meth c H locs cells slots Q (F0 m (pc + 3) ls (v.toList ++ rest))) : W p l e R s m args below meth c H locs cells slots Q (F0 m pc ls st0) := by
  subst hst
  subst hn
  obtain ⟨hx, hb, hml, hown, hts⟩ := C
  have hr := va_runSN (l := l) (e := e) (R := R) (below := below) (meth := meth) (H := H) (locs := locs) (cells := cells) (slots := slots) (g := F0 m pc ls (As.reverse ++ rest)) (As := As) (rest := rest) ⟨hx, hb, hml, hown, hts⟩ hM ⟨va_cnB As.length hts (aw_ina h1) rfl hrc.1 hrc.2 (hN.1 _ h2) (hts _ h4) hd hR, hts _ h3, trivial⟩ hp rfl rfl hsize rfl (lv_room hrest) hdg hcs
  intro T hT X
  obtain ⟨v', st₀, t, T', L, h0, X', hL, e1, e2, ⟨hv, hh⟩, st⟩ := hr T hT X
  cases hv
  obtain ⟨t2, a1, b1⟩ := kk T' (by rw [e1, hh, h0]) (Stand.forget X' (fun q h => (hL q h).elim))
  exact ⟨t2, st t2 a1, b1⟩
end More
theorem nw_X0_31 : Cond.methodLinkNest RX0 31 yX1_cubic RX1 ∈ NWL := List.mem_filter.mpr ⟨List.mem_of_getElem? (i := 170) (by decide +kernel), rfl⟩
theorem nw_X0_39 : Cond.methodLinkNest RX0 39 yX1_pointAt RX1 ∈ NWL := List.mem_filter.mpr ⟨List.mem_of_getElem? (i := 174) (by decide +kernel), rfl⟩
theorem nw_X0_48 : Cond.methodLinkNest RX0 48 yX1_xOf RX1 ∈ NWL := List.mem_filter.mpr ⟨List.mem_of_getElem? (i := 268) (by decide +kernel), rfl⟩
theorem nw_X0_52 : Cond.methodLinkNest RX0 52 yX1_yOf RX1 ∈ NWL := List.mem_filter.mpr ⟨List.mem_of_getElem? (i := 271) (by decide +kernel), rfl⟩
theorem nw_X0_60 : Cond.methodLinkNest RX0 60 yX1_quotient RX1 ∈ NWL := List.mem_filter.mpr ⟨List.mem_of_getElem? (i := 279) (by decide +kernel), rfl⟩
theorem nw_X0_94 : Cond.methodLinkNest RX0 94 yX1_inverse RX1 ∈ NWL := List.mem_filter.mpr ⟨List.mem_of_getElem? (i := 427) (by decide +kernel), rfl⟩
/-- the same head for a method of java.lang.Math that is run by its code -/
theorem mt_pureF {l : Launch} {y : MethodName} {cc : ByteArray} {maxL : Nat} {ret : Option FieldType} {rm : Room} {av : List Value} {v : Option Value} (hy : plainFor y = true) (hn : (lg_sl av).length ≤ maxL)
    (body : ∀ p e s m args below meth c, Cx p m c cc maxL s args y.cls → Nw s → meth.sig.returnType = ret → meth.locks = false → ∀ ls, lv_has ls maxL (lv_args 0 av) → W p l e rm s m args below meth c s.heap [] 0 0 (MQ below (QcV v) args s 0 0 (fun _ => False)) (F0 m 0 ls [])) :
    Met l y (Cond.code y cc maxL ret :: AW) rm (PcN av) (QcV v) 0 0 (fun _ => False) := by
  refine MetFree.of_bodySF (code := cc) (maxLocals := maxL) (ret := ret) hy ?_ ?_
  · intro args s m h hn
    obtain ⟨meth, c, h1, h2, h3, h4, h5, h6, -, -⟩ := Cond.code_spec hn (atoms_spec (ws := Cond.code y cc maxL ret :: AW) h _ List.mem_cons_self)
    exact ⟨meth, c, h1, h2, h3, h4, h5, h6⟩
  · intro p e s m args below meth c s₁ B hml hv _
    obtain ⟨rfl, hN⟩ := hv
    have hh0 : s₁.heap = s.heap := by rw [B.state]; rfl
    have hts := atoms_spec (ws := Cond.code y cc maxL ret :: AW) B.pre
    have hl := lv_entry av (n := maxL) hn
    rw [lg_entry_eq]
    generalize (lg_sl av ++ List.replicate (maxL - (lg_sl av).length) Slot.unset).toArray = ls at hl ⊢
    obtain ⟨t, a1, o, b1, b2, b3⟩ := body p e s m _ below meth c ⟨B.exec, B.bytes, hml, findClass_of_methodNamed B.named, fun w h => hts w (List.mem_cons_of_mem _ h)⟩ hN B.returns B.notSynchronized ls hl s₁ hh0 (Stand.of_body B)
    exact ⟨t, o, a1, b1, b2, b3⟩
