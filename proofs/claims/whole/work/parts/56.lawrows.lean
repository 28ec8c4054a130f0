/-! The law: heads of methods with handlers, calls that may throw and write, worlds out of parts. -/
/-- casts that the law's handlers ask for: those that go, those that don't -/
def XK : List (String × String) := [("java/lang/IllegalStateException", "java/lang/IllegalStateException"), ("java/lang/IndexOutOfBoundsException", "java/lang/IndexOutOfBoundsException"), ("java/lang/IllegalArgumentException", "java/lang/IllegalArgumentException"), ("java/lang/ArithmeticException", "java/lang/ArithmeticException")]
def XN : List (String × String) := [("java/lang/IndexOutOfBoundsException", "java/lang/IllegalStateException"), ("java/lang/IllegalArgumentException", "java/lang/IllegalStateException"), ("java/lang/IllegalArgumentException", "java/lang/IndexOutOfBoundsException"), ("java/lang/ArithmeticException", "java/lang/IllegalStateException")]
def Xc (U : State) : Prop := (∀ q, q ∈ XK → va_Nw (.castable q.1 q.2) U) ∧ ∀ q, q ∈ XN → va_Nc q.1 q.2 U
theorem Xc.warm {s U : State} (hW : s.WarmedH U.vm) (h : Xc s) : Xc U := ⟨fun q hq => va_Nw.warmC hW (h.1 q hq), fun q hq => va_Nc.moved hW.alike (h.2 q hq)⟩
theorem Xc.same {u U : State} (hvm : u.vm = U.vm) (h : Xc u) : Xc U := ⟨fun q hq => va_Nw.same rfl hvm (h.1 q hq), fun q hq => va_Nc.moved (by rw [hvm]; exact Vm.Alike.refl _) (h.2 q hq)⟩
theorem Xc.go {s : State} {args : Array Value} (h : Xc s) {q : String × String} (hq : q ∈ XK) : (Cond.castable q.1 q.2).before args s = true := va_Nw.use rfl (h.1 q hq)
/-- the start of one of the law's own methods -/
def PcH (D : va_G) (z0 sz : Nat) (ws : va_W) (tys : List (ClassId × FieldType)) (av : List Value) : Array Value → State → Prop := fun v U => PcM D z0 sz ws tys av v U ∧ Xc U
theorem pch_pre {D : va_G} {z0 : Nat} {ws : va_W} {tys : List (ClassId × FieldType)} {s : State} {H : Heap} (As : List Value) (hX : Xc s) (h : PreS s H (PcM D z0 H.size ws tys As) As) : PreS s H (PcH D z0 H.size ws tys As) As := ⟨fun a U g mk q => ⟨h.1 a U g mk q.1, Xc.same (u := U) (U := U.calling g mk a) rfl q.2⟩, fun U hU hW => ⟨h.2 U hU hW, Xc.warm hW hX⟩⟩
theorem mt_H {l : Launch} {y : MethodName} {cc : ByteArray} {maxL : Nat} {ret : Option FieldType} {hh : List (Nat × Nat × Nat × Nat)} {rm : Room} {D : va_G} {z0 sz : Nat} {ws : va_W} {tys : List (ClassId × FieldType)} {av : List Value} {Qc : Array Value → State → Outcome → State → Prop} {XC : String → State → State → Prop} {mc ms : Nat} {free : Addr → Prop} (hy : plainName y.cls = true) (hn : (lg_sl av).length ≤ maxL)
    (body : ∀ p e s m args below meth c, Cx p m c cc maxL s args y.cls → Nw s → Zs z0 s s.heap → s.heap.size = sz → z0 ≤ sz → va_P D clX ws s.heap → va_K D clX tys s → va_D (va_A ws sz) ws → (∀ q, va_A ws sz q → z0 ≤ q) → (∀ q, s.heap.size ≤ q → va_A ws sz q) → meth.sig.returnType = ret → meth.locks = false → c.exceptionTable.toList = tableOf hh → Xc s → ∀ ls, lv_has ls maxL (lv_args 0 av) → W p l e rm s m args below meth c s.heap [] 0 0 (vx_MQ below Qc XC args s mc ms free) (F0 m 0 ls [])) :
    vx_Met l y (Cond.codeWith y cc maxL ret hh :: AW) rm (PcH D z0 sz ws tys av) Qc XC mc ms free := by
  refine vx_ofWH (cc := cc) (maxL := maxL) (ret := ret) (hh := hh) hy rfl ?_
  intro p e s m args below meth c s₁ B hml hv
  obtain ⟨⟨rfl, hN, hZ, hsz, hz, hP, hK, hD⟩, hX⟩ := hv
  have hts := atoms_spec (ws := Cond.codeWith y cc maxL ret hh :: AW) B.pre
  have hl := lv_entry av (n := maxL) hn
  rw [lg_entry_eq]
  generalize (lg_sl av ++ List.replicate (maxL - (lg_sl av).length) Slot.unset).toArray = ls at hl ⊢
  exact body p e s m _ below meth c ⟨B.exec, B.bytes, hml, findClass_of_methodNamed B.named, fun w h => hts w (List.mem_cons_of_mem _ h)⟩ hN hZ hsz hz hP hK hD.self (az_of hD hz) (fun q h => Or.inr (by omega)) B.returns B.notSynchronized (vx_table (x := y) B (hts _ List.mem_cons_self)) hX ls hl
theorem va_S.on {A : Nat → Prop} {H0 H H1 : Heap} {locs : List Loc} (h : va_S A H0 H locs) (z1 : H.size ≤ H1.size) (z2 : ∀ q : Nat, q < H.size → H1[q]? = H[q]?) : va_S A H0 H1 locs := ⟨Nat.le_trans h.1 z1, fun q h1 h2 => (z2 q (Nat.lt_of_lt_of_le h1 h.1)).trans (h.2.1 q h1 h2), h.2.2⟩
section CY
variable {p : Program} {l : Launch} {e : Env} {R : Room} {s : State} {m : MethodId} {args : Array Value} {below : List Frame} {meth : Method} {c : Code} {H : Heap} {locs : List Loc} {cells slots : Nat} {Q : State → Prop}
variable {cc : ByteArray} {nL pc : Nat} {own : String} {ls : Array Slot} {rest : List Value} {A : Nat → Prop} {H0 : Heap}
theorem cy_go {v : Option Value} {ok : Prop} {why : String → Prop} {B BX : State → Prop} {A1 : Nat → Prop} {a : Array Value} {mc ms : Nat} {g : JFrame} (hr : vx_Run p l e R s m args below meth c H locs cells slots mc ms g rest (QcM v ok B A1 a) (XcM why BX A1) A1) (hS : va_S A H0 H locs) (hA : ∀ q, A1 q → A q)
    (kx : ∀ (E : String) (t : State) (H1 : Heap) (locs1 : List Loc) (q9 : Addr) (ce : Cell), t.heap = H1 → s.vm.Alike t.vm → why E → BX t → H.size ≤ H1.size → (∀ q : Nat, q < H.size → ¬ A1 q → H1[q]? = H[q]?) → va_S A H0 H1 locs1 → H1[q9]? = some ce → ce.vm = .none → s.vm.findClass E = some ce.cls → vx_W p l e R s m args below meth c H1 locs1 (cells + mc) (slots + ms) Q { g with stack := rest } q9)
    (kk : ∀ (t : State) (H1 : Heap) (locs1 : List Loc), t.heap = H1 → s.vm.Alike t.vm → ok → B t → H.size ≤ H1.size → (∀ q : Nat, q < H.size → ¬ A1 q → H1[q]? = H[q]?) → va_S A H0 H1 locs1 → W p l e R s m args below meth c H1 locs1 (cells + mc) (slots + ms) Q { g with pc := g.pc + 3, stack := v.toList ++ rest }) : W p l e R s m args below meth c H locs cells slots Q g := by
  intro T hT X
  rcases hr T hT X with ⟨v', st₀, t, T', L, h0, X', hL, e1, e2, ⟨hv, hok, hB, hF⟩, st⟩ | ⟨q, st₀, t, T', L, E, ce, h0, X', hL, e1, e2, ⟨hwhy, hB, hF⟩, hce, hcv, hcl, st⟩
  · cases hv
    obtain ⟨k1, k2, k3⟩ := vx_keep h0 e1 hS (fun q _ h => hA q h) hA hL hF
    obtain ⟨t2, a1, b1⟩ := kk t T'.heap (locs ++ L) e1.symm (by rw [← e2]; exact X'.warmed.alike) hok hB k1 k2 k3 T' rfl X'
    exact ⟨t2, st t2 a1, b1⟩
  · obtain ⟨k1, k2, k3⟩ := vx_keep h0 e1 hS (fun q _ h => hA q h) hA hL hF
    obtain ⟨t2, a1, b1⟩ := kx E t T'.heap (locs ++ L) q ce e1.symm (by rw [← e2]; exact X'.warmed.alike) hwhy hB k1 k2 k3 (by rw [e1]; exact hce) hcv hcl T' rfl X'
    exact ⟨t2, st.trans a1, b1⟩
/-- a call of a method that writes and may throw -/
theorem cy_V {bytes : ByteArray} {maxL index b : Nat} {Cn : String} {y : MethodName} {ret : Option FieldType} {rm : Room} {As st0 : List Value} {v : Option Value} {ok : Prop} {why : String → Prop} {B BX : State → Prop} {A1 : Nat → Prop} {Pc : Array Value → State → Prop} {mc ms : Nat}
    (C : Cx p m c cc nL s args own) (hM : vx_Met l y (Cond.code y bytes maxL ret :: AW) rm Pc (QcM v ok B A1) (XcM why BX A1) mc ms A1) (hp : PreV s H Cn b Pc As) (hS : va_S A H0 H locs) (hA : ∀ q, A1 q → A q)
    (h1 : Cond.code y bytes maxL ret ∈ AW) (h2 : Cond.methodLink own index y ∈ AW) (h3 : Cond.instanceMethod y ∈ AW) (h4 : Cond.initialized y.cls ∈ AW) (h5 : Cond.selects Cn y y ∈ AW) (hrc : rm.cells = mc ∧ rm.slots = ms) (n : Nat)
    (hd : y.cls ≠ "java/lang/invoke/MethodHandle" ∧ y.cls ≠ "java/lang/invoke/VarHandle" ∧ (parseMethodDescriptor y.desc).map (fun d => d.parameters.length) = some n) (hn : As.length = n) (hR : rm.frames + 1 ≤ R.frames ∧ 8 + (maxL + 11) + rm.locals ≤ R.locals)
    (hsize : ls.size = nL) (hst : st0 = As.reverse ++ .ref b :: rest) (hrest : (rest.map fun v => v.category).sum ≤ 8) (hdg : decode cc pc = .ok (.invokevirtual index, 3)) (hcs : cells + mc ≤ R.cells ∧ slots + ms ≤ R.slots)
    (kx : ∀ (E : String) (t : State) (H1 : Heap) (locs1 : List Loc) (q9 : Addr) (ce : Cell), t.heap = H1 → s.vm.Alike t.vm → why E → BX t → H.size ≤ H1.size → (∀ q : Nat, q < H.size → ¬ A1 q → H1[q]? = H[q]?) → va_S A H0 H1 locs1 → H1[q9]? = some ce → ce.vm = .none → s.vm.findClass E = some ce.cls → vx_W p l e R s m args below meth c H1 locs1 (cells + mc) (slots + ms) Q (F0 m pc ls rest) q9)
    (kk : ∀ (t : State) (H1 : Heap) (locs1 : List Loc), t.heap = H1 → s.vm.Alike t.vm → ok → B t → H.size ≤ H1.size → (∀ q : Nat, q < H.size → ¬ A1 q → H1[q]? = H[q]?) → va_S A H0 H1 locs1 → W p l e R s m args below meth c H1 locs1 (cells + mc) (slots + ms) Q (F0 m (pc + 3) ls (v.toList ++ rest))) : W p l e R s m args below meth c H locs cells slots Q (F0 m pc ls st0) := by
  subst hst
  subst hn
  obtain ⟨hx, hb, hml, hown, hts⟩ := C
  exact cy_go (vx_runV (g := F0 m pc ls (As.reverse ++ .ref b :: rest)) (As := As) (rest := rest) ⟨hx, hb, hml, hown, hts⟩ hM ⟨callB_of As.length hts (aw_ina h1) rfl hrc.1 hrc.2 (hts _ h4) (hts _ h2) hd hR, hts _ h3, hts _ h5⟩ hp rfl rfl hsize rfl (lv_room hrest) hdg hcs) hS hA kx kk
/-- a call of one of the law's own methods: it returns -/
theorem lc_S {bytes : ByteArray} {maxL index : Nat} {y : MethodName} {ret : Option FieldType} {hh : List (Nat × Nat × Nat × Nat)} {rm : Room} {As st0 : List Value} {v : Option Value} {ok : Prop} {B BX : State → Prop} {A1 : Nat → Prop} {Pc : Array Value → State → Prop} {mc ms : Nat}
    (C : Cx p m c cc nL s args own) (hM : vx_Met l y (Cond.codeWith y bytes maxL ret hh :: AW) rm Pc (QcM v ok B A1) (XcM (fun _ => False) BX A1) mc ms A1) (hp : PreS s H Pc As) (hS : va_S A H0 H locs) (hA : ∀ q, A1 q → A q)
    (h1 : Cond.codeWith y bytes maxL ret hh ∈ AW) (h2 : Cond.methodLink own index y ∈ AW) (h3 : Cond.static y ∈ AW) (h4 : Cond.initialized y.cls ∈ AW) (hrc : rm.cells = mc ∧ rm.slots = ms) (n : Nat)
    (hd : y.cls ≠ "java/lang/invoke/MethodHandle" ∧ y.cls ≠ "java/lang/invoke/VarHandle" ∧ (parseMethodDescriptor y.desc).map (fun d => d.parameters.length) = some n) (hn : As.length = n) (hR : rm.frames + 1 ≤ R.frames ∧ 8 + (maxL + 11) + rm.locals ≤ R.locals)
    (hsize : ls.size = nL) (hst : st0 = As.reverse ++ rest) (hrest : (rest.map fun v => v.category).sum ≤ 8) (hdg : decode cc pc = .ok (.invokestatic index, 3)) (hcs : cells + mc ≤ R.cells ∧ slots + ms ≤ R.slots)
    (kk : ∀ (t : State) (H1 : Heap) (locs1 : List Loc), t.heap = H1 → s.vm.Alike t.vm → ok → B t → H.size ≤ H1.size → (∀ q : Nat, q < H.size → ¬ A1 q → H1[q]? = H[q]?) → va_S A H0 H1 locs1 → W p l e R s m args below meth c H1 locs1 (cells + mc) (slots + ms) Q (F0 m (pc + 3) ls (v.toList ++ rest))) : W p l e R s m args below meth c H locs cells slots Q (F0 m pc ls st0) := by
  subst hst
  subst hn
  obtain ⟨hx, hb, hml, hown, hts⟩ := C
  exact cy_go (vx_runSX (hh := hh) (g := F0 m pc ls (As.reverse ++ rest)) (As := As) (rest := rest) ⟨hx, hb, hml, hown, hts⟩ hM ⟨⟨hrc.1, hrc.2, hR.1, hR.2, pay_in hts (aw_ina h1), List.mem_cons_self⟩, hts _ h1, hts _ h4, ⟨hd.1, hd.2.1⟩, fun sig h => by
    have h2 := hd.2.2
    rw [h] at h2
    exact (Option.some.inj h2).symm, hts _ h2, hts _ h3⟩ hp rfl rfl hsize rfl (lv_room hrest) hdg hcs) hS hA (fun _ _ _ _ _ _ _ _ hw => hw.elim) kk
/-- new cells need no mention -/
theorem w_drop {g : JFrame} (h : ∀ y ∈ locs, s.heap.size ≤ y.base) (k : W p l e R s m args below meth c H [] cells slots Q g) : W p l e R s m args below meth c H locs cells slots Q g := fun T hT X => k T hT (Stand.forget (locs := []) X h)
variable {D : va_G} {ws : va_W} {tys : List (ClassId × FieldType)}
/-- the one long of an array of one -/
theorem l_ald0 (C : Cx p m c cc nL s args own) (hK : va_K D clX tys s) (hP : va_P D clX ws H) (q0 t0 : Nat) {a : Nat} {cA : ClassId} {f : Nat → Int64} (ha : ws[q0]? = some (a, .inl (cA, 1, .inr (.inl f)))) (ht : tys[t0]? = some (cA, .long)) (hdg : decode cc pc = .ok (.laload, 1))
    (kk : W p l e R s m args below meth c H locs cells slots Q (F0 m (pc + 1) ls (.long (f 0) :: rest))) : W p l e R s m args below meth c H locs cells slots Q (F0 m pc ls (.int (ii 0) :: .ref a :: rest)) := by
  refine va_lald C.1 C.2.1 hK hP q0 t0 ha ht (by rw [show (0 : Int) = ((0 : Nat) : Int) from rfl, ii_nI]; exact vp_in_nI (by omega) (by omega)) hdg ?_
  rw [show (ii 0).toNatClampNeg = 0 from by decide +kernel]
  exact kk
theorem l_ast0 (C : Cx p m c cc nL s args own) (hK : va_K D clX tys s) (hP : va_P D clX ws H) (hD : va_D A ws) (hS : va_S A H0 H locs) (q0 t0 : Nat) {a : Nat} {cA : ClassId} {f : Nat → Int64} (ha : ws[q0]? = some (a, .inl (cA, 1, .inr (.inl f)))) (ht : tys[t0]? = some (cA, .long)) {x : Int64} (hdg : decode cc pc = .ok (.lastore, 1))
    (kk : ∀ (H1 : Heap) (locs1 : List Loc) (g : Nat → Int64), g 0 = x → va_P D clX (ws.set q0 (a, .inl (cA, 1, .inr (.inl g)))) H1 → va_D A (ws.set q0 (a, .inl (cA, 1, .inr (.inl g)))) → va_S A H0 H1 locs1 → W p l e R s m args below meth c H1 locs1 cells slots Q (F0 m (pc + 1) ls rest)) : W p l e R s m args below meth c H locs cells slots Q (F0 m pc ls (.long x :: .int (ii 0) :: .ref a :: rest)) := by
  refine va_last C.1 C.2.1 hK hP hD hS q0 t0 ha ht (by rw [show (0 : Int) = ((0 : Nat) : Int) from rfl, ii_nI]; exact vp_in_nI (by omega) (by omega)) hdg (fun H1 locs1 => ?_)
  rw [show (ii 0).toNatClampNeg = 0 from by decide +kernel]
  exact kk H1 locs1 _ (if_pos rfl)
theorem l_const1 (C : Cx p m c cc nL s args own) (hdg : decode cc pc = .ok (.lconst 1, 1)) (k : W p l e R s m args below meth c H locs cells slots Q (F0 m (pc + 1) ls (.long (li 1) :: rest))) : W p l e R s m args below meth c H locs cells slots Q (F0 m pc ls rest) := lv_lconst C.1 C.2.1 hdg (by decide +kernel) k
theorem cmp_self (x : Int64) : lg_cmp x x = ii 0 := by
  obtain ⟨k, hk, rfl⟩ := li_of x
  rw [li_cmp hk hk]
  congr 1
  exact cmI_eq.mpr rfl
theorem l_cmpS (C : Cx p m c cc nL s args own) {x : Int64} (hdg : decode cc pc = .ok (.lcmp, 1)) (k : W p l e R s m args below meth c H locs cells slots Q (F0 m (pc + 1) ls (.int (ii 0) :: rest))) : W p l e R s m args below meth c H locs cells slots Q (F0 m pc ls (.long x :: .long x :: rest)) := W.lcmp C.1 C.2.1 hdg (by rw [cmp_self]; exact k)
theorem ic_eq (C : Cx p m c cc nL s args own) {x : Int32} {off : Int} {tgt : Nat} (hdg : decode cc pc = .ok (.if_icmp .eq off, 3)) (ht : (pc : Int) + off = (tgt : Int)) (k : W p l e R s m args below meth c H locs cells slots Q (F0 m tgt ls rest)) : W p l e R s m args below meth c H locs cells slots Q (F0 m pc ls (.int x :: .int x :: rest)) := lv_icmp_eq C.1 C.2.1 hdg ht (fun _ => k) (fun h => absurd rfl h)
/-- a script's int -/
theorem s_ald (C : Cx p m c cc nL s args own) {b L : Nat} {xs : Nat → Int32} (hX : va_X b L xs s H0) (hbl : b < H0.size) (hbA : ¬ A b) (hS : va_S A H0 H locs) {i : Int} (j : Nat) (hi : i = (j : Int)) (hj : j < L) (hL : L ≤ 100000) (hdg : decode cc pc = .ok (.iaload, 1))
    (kk : W p l e R s m args below meth c H locs cells slots Q (F0 m (pc + 1) ls (.int (ii (xs j).toInt) :: rest))) : W p l e R s m args below meth c H locs cells slots Q (F0 m pc ls (.int (ii i) :: .ref b :: rest)) := by
  subst hi
  refine va_sld C.1 C.2.1 hX hbl hbA hS (by rw [ii_nI]; exact vp_in_nI hj (by omega)) hdg ?_
  rw [ii_nI, nI_clamp (by omega), ← ii_self (xs j)]
  rw [ii_self (xs j)] at kk
  rw [ii_self (xs j)]
  exact kk
end CY
/-- a part of a world -/
theorem fr_1 {w0 w1 w2 : va_W} {i : Nat} {q : Nat × va_E} (h : w1[i]? = some q) : (w0 ++ (w1 ++ w2))[w0.length + i]? = some q := by
  have hi : i < w1.length := (List.getElem?_eq_some_iff.mp h).1
  rw [List.getElem?_append_right (by omega), Nat.add_sub_cancel_left, List.getElem?_append_left hi]
  exact h
theorem fr_0 {w0 w : va_W} {i : Nat} {q : Nat × va_E} (h : w0[i]? = some q) : (w0 ++ w)[i]? = some q := by
  rw [List.getElem?_append_left (List.getElem?_eq_some_iff.mp h).1]
  exact h
theorem fr_2 {w0 w1 w2 : va_W} {i : Nat} {q : Nat × va_E} (h : w2[i]? = some q) : (w0 ++ (w1 ++ w2))[w0.length + (w1.length + i)]? = some q := by
  rw [List.getElem?_append_right (by omega), Nat.add_sub_cancel_left, List.getElem?_append_right (by omega), Nat.add_sub_cancel_left]
  exact h
theorem fr_sub {D : va_G} {w0 w1 w2 : va_W} {A : Nat → Prop} {H : Heap} (hP : va_P D clX (w0 ++ (w1 ++ w2)) H) (hD : va_D A (w0 ++ (w1 ++ w2))) : va_P D clX w1 H ∧ va_D A w1 := by
  refine ⟨fun k q hk => hP _ q (fr_1 hk), fun i j p q hi hj h => ?_, fun k q hk => hD.2 _ q (fr_1 hk)⟩
  have := hD.1 _ _ p q (fr_1 hi) (fr_1 hj) h
  omega
theorem fr_free {w0 w1 w2 : va_W} {z0 : Nat} {H : Heap} (hz : z0 ≤ H.size) (hD : va_D (AZ z0) (w0 ++ (w1 ++ w2))) : ∀ q, va_A w1 H.size q → z0 ≤ q := by
  intro q h
  rcases h with ⟨k, e, hk⟩ | h
  · exact hD.2 _ _ (fr_1 hk)
  · omega
theorem fr_mid {D : va_G} {w0 w1 w2 w3 : va_W} {A : Nat → Prop} {H H1 : Heap} (hP : va_P D clX (w0 ++ (w1 ++ w2)) H) (hD : va_D A (w0 ++ (w1 ++ w2))) (hz : H.size ≤ H1.size) (hk : ∀ q : Nat, q < H.size → ¬ va_A w1 H.size q → H1[q]? = H[q]?) (hA : ∀ q, va_A w1 H.size q → A q) (hP1 : va_P D clX w3 H1) (hD1 : va_D (va_A w1 H.size) w3) : va_P D clX (w0 ++ (w3 ++ w2)) H1 ∧ va_D A (w0 ++ (w3 ++ w2)) := by
  have n0 : ∀ (i : Nat) (q : Nat × va_E), w0[i]? = some q → ¬ va_A w1 H.size q.1 := by
    rintro i q hi (⟨k, e, h⟩ | h)
    · have := hD.1 _ _ q (q.1, e) (fr_0 hi) (fr_1 h) rfl
      have := (List.getElem?_eq_some_iff.mp hi).1
      omega
    · have := (hP _ q (fr_0 hi)).lt
      omega
  have n2 : ∀ (i : Nat) (q : Nat × va_E), w2[i]? = some q → ¬ va_A w1 H.size q.1 := by
    rintro i q hi (⟨k, e, h⟩ | h)
    · have := hD.1 _ _ q (q.1, e) (fr_2 hi) (fr_1 h) rfl
      have := (List.getElem?_eq_some_iff.mp h).1
      omega
    · have := (hP _ q (fr_2 hi)).lt
      omega
  have P0 : va_P D clX w0 H1 := fun k q hq => (hP _ q (fr_0 hq)).kept (hk q.1 (hP _ q (fr_0 hq)).lt (n0 k q hq))
  have P2 : va_P D clX w2 H1 := fun k q hq => (hP _ q (fr_2 hq)).kept (hk q.1 (hP _ q (fr_2 hq)).lt (n2 k q hq))
  have D0 : va_D A w0 := ⟨fun i j p q hi hj h => hD.1 _ _ p q (fr_0 hi) (fr_0 hj) h, fun k q hq => hD.2 _ q (fr_0 hq)⟩
  have D2 : va_D A w2 := ⟨fun i j p q hi hj h => by
    have := hD.1 _ _ p q (fr_2 hi) (fr_2 hj) h
    omega, fun k q hq => hD.2 _ q (fr_2 hq)⟩
  have D1 : va_D A w3 := ⟨hD1.1, fun k q hq => hA _ (hD1.2 k q hq)⟩
  refine ⟨P0.app (hP1.app P2), D0.app (D1.app D2 fun i j p q hi hj z => n2 j q hj (by rw [← z]; exact hD1.2 i p hi)) fun i j p q hi hj z => ?_⟩
  by_cases hl : j < w3.length
  · rw [List.getElem?_append_left hl] at hj
    exact n0 i p hi (by rw [z]; exact hD1.2 j q hj)
  · rw [List.getElem?_append_right (by omega)] at hj
    have := hD.1 _ _ p q (fr_0 hi) (fr_2 hj) z
    have := (List.getElem?_eq_some_iff.mp hi).1
    omega
