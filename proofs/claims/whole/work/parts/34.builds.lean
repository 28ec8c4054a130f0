/-! Writers that never throw: head, calls, ends; arrays by their first places. -/
theorem va_P.arr {D : va_G} {ws : va_W} {H : Heap} {q0 a : Nat} {cA : ClassId} {n : Nat} {f g : Nat → Int32} (hP : va_P D clX ws H) (he : ws[q0]? = some (a, .inl (cA, n, .inl f))) (h : ∀ j, j < n → f j = g j) : va_P D clX (ws.set q0 (a, .inl (cA, n, .inl g))) H := by
  have e : vp_cell cA (n, .inl f) = vp_cell cA (n, .inl g) := by
    show arrV cA n (fun j => .int (f j)) = arrV cA n (fun j => .int (g j))
    unfold arrV
    congr 1
    congr 1
    funext j
    show Value.int (f j.val) = Value.int (g j.val)
    rw [h j.val j.isLt]
  intro k q hk
  by_cases hkq : k = q0
  · subst hkq
    have hlt : k < ws.length := (List.getElem?_eq_some_iff.mp he).1
    rw [List.getElem?_set_self hlt] at hk
    cases hk
    have h0 := hP k _ he
    show H[a]? = some (vp_cell cA (n, .inl g))
    rw [← e]
    exact h0
  · rw [List.getElem?_set_ne (fun z => hkq z.symm)] at hk
    exact hP k q hk
theorem va_D.arr {A : Nat → Prop} {ws : va_W} {q0 a : Nat} {e0 e : va_E} (hD : va_D A ws) (he : ws[q0]? = some (a, e0)) : va_D A (ws.set q0 (a, e)) := hD.set he
theorem mt_N {l : Launch} {y : MethodName} {cc : ByteArray} {maxL : Nat} {ret : Option FieldType} {rm : Room} {D : va_G} {z0 sz : Nat} {ws : va_W} {tys : List (ClassId × FieldType)} {av : List Value} {Qc : Array Value → State → Outcome → State → Prop} {mc ms : Nat} {free : Addr → Prop} (hy : plainName y.cls = true) (hn : (lg_sl av).length ≤ maxL)
    (body : ∀ p e s m args below meth c, Cx p m c cc maxL s args y.cls → Nw s → Zs z0 s s.heap → s.heap.size = sz → z0 ≤ sz → va_P D clX ws s.heap → va_K D clX tys s → va_D (va_A ws sz) ws → (∀ q, va_A ws sz q → z0 ≤ q) → (∀ q, s.heap.size ≤ q → va_A ws sz q) → meth.sig.returnType = ret → meth.locks = false → (y.name = "<init>" → meth.name = "<init>") → ∀ ls, lv_has ls maxL (lv_args 0 av) → W p l e rm s m args below meth c s.heap [] 0 0 (MQ below Qc args s mc ms free) (F0 m 0 ls [])) :
    Met l y (Cond.code y cc maxL ret :: AW) rm (PcM D z0 sz ws tys av) Qc mc ms free := by
  refine Met.ofW (cc := cc) (maxL := maxL) (ret := ret) hy rfl ?_
  intro p e s m args below meth c s₁ B hml hv
  obtain ⟨rfl, hN, hZ, hsz, hz, hP, hK, hD⟩ := hv
  have hts := atoms_spec (ws := Cond.code y cc maxL ret :: AW) B.pre
  have hl := lv_entry av (n := maxL) hn
  rw [lg_entry_eq]
  generalize (lg_sl av ++ List.replicate (maxL - (lg_sl av).length) Slot.unset).toArray = ls at hl ⊢
  exact body p e s m _ below meth c ⟨B.exec, B.bytes, hml, findClass_of_methodNamed B.named, fun w h => hts w (List.mem_cons_of_mem _ h)⟩ hN hZ hsz hz hP hK hD.self (az_of hD hz) (fun q h => Or.inr (by omega)) B.returns B.notSynchronized (fun h => (name_of_methodNamed B.named B.method).1.trans h) ls hl
section BN
variable {p : Program} {l : Launch} {e : Env} {R : Room} {s : State} {m : MethodId} {args : Array Value} {below : List Frame} {meth : Method} {c : Code} {H : Heap} {locs : List Loc} {cells slots : Nat} {Q : State → Prop}
variable {cc : ByteArray} {nL pc : Nat} {own : String} {ls : Array Slot} {rest : List Value} {A : Nat → Prop} {H0 : Heap}
theorem pz_v (C : Cx p m c cc nL s args own) (hr : meth.sig.returnType = none) (hk : meth.locks = false) {mc ms : Nat} {ok : Prop} {B : State → Prop} (hS : va_S A s.heap H locs) (hok : ok) (hB : ∀ t : State, t.heap = H → s.vm.Alike t.vm → B t) (hdg : decode cc pc = .ok (.return_, 1)) (hc : cells ≤ mc) (hs : slots ≤ ms) : W p l e R s m args below meth c H locs cells slots (MQ below (QcM none ok B A) args s mc ms A) (F0 m pc ls []) :=
  W.widen hc hs (W.vret C.1 C.2.1 hr (fun t ht hW => ⟨rfl, hok, hB t ht hW.alike, hS.F ht⟩) hS.2.2 hdg hk)
theorem pz_i (C : Cx p m c cc nL s args own) (hr : meth.sig.returnType = some .int) (hk : meth.locks = false) {mc ms : Nat} {ok : Prop} {B : State → Prop} {x v : Int32} (hS : va_S A s.heap H locs) (hok : ok) (hB : ∀ t : State, t.heap = H → s.vm.Alike t.vm → B t) (hdg : decode cc pc = .ok (.ireturn, 1)) (hv : x = v) (hc : cells ≤ mc) (hs : slots ≤ ms) : W p l e R s m args below meth c H locs cells slots (MQ below (QcM (some (.int v)) ok B A) args s mc ms A) (F0 m pc ls [.int x]) := by
  subst hv
  exact W.widen hc hs (W.iret C.1 C.2.1 hr (fun t ht hW => ⟨rfl, hok, hB t ht hW.alike, hS.F ht⟩) hS.2.2 hdg hk)
theorem pz_z (C : Cx p m c cc nL s args own) (hr : meth.sig.returnType = some .boolean) (hk : meth.locks = false) {mc ms : Nat} {ok : Prop} {B : State → Prop} {a : Int} {v : Int32} (hS : va_S A s.heap H locs) (hok : ok) (hB : ∀ t : State, t.heap = H → s.vm.Alike t.vm → B t) (hdg : decode cc pc = .ok (.ireturn, 1)) (h01 : a = 0 ∨ a = 1) (hv : ii a = v) (hc : cells ≤ mc) (hs : slots ≤ ms) : W p l e R s m args below meth c H locs cells slots (MQ below (QcM (some (.int v)) ok B A) args s mc ms A) (F0 m pc ls [.int (ii a)]) := by
  subst hv
  exact W.widen hc hs (W.zret C.1 C.2.1 hr (by rcases h01 with rfl | rfl <;> decide +kernel) (fun t ht hW => ⟨rfl, hok, hB t ht hW.alike, hS.F ht⟩) hS.2.2 hdg hk)
theorem pz_l (C : Cx p m c cc nL s args own) (hr : meth.sig.returnType = some .long) (hk : meth.locks = false) {mc ms : Nat} {ok : Prop} {B : State → Prop} {x v : Int64} (hS : va_S A s.heap H locs) (hok : ok) (hB : ∀ t : State, t.heap = H → s.vm.Alike t.vm → B t) (hdg : decode cc pc = .ok (.lreturn, 1)) (hv : x = v) (hc : cells ≤ mc) (hs : slots ≤ ms) : W p l e R s m args below meth c H locs cells slots (MQ below (QcM (some (.long v)) ok B A) args s mc ms A) (F0 m pc ls [.long x]) := by
  subst hv
  exact W.widen hc hs (W.lret C.1 C.2.1 hr (fun t ht hW => ⟨rfl, hok, hB t ht hW.alike, hS.F ht⟩) hS.2.2 hdg hk)
theorem cn_go {v : Option Value} {ok : Prop} {B : State → Prop} {A1 : Nat → Prop} {a : Array Value} {mc ms : Nat} {g : JFrame} (hr : va_Run p l e R s m args below meth c H locs cells slots mc ms g rest (QcM v ok B A1 a) A1) (hS : va_S A H0 H locs) (hA : ∀ q, A1 q → A q)
    (kk : ∀ (t : State) (H1 : Heap) (locs1 : List Loc), t.heap = H1 → s.vm.Alike t.vm → ok → B t → H.size ≤ H1.size → (∀ q : Nat, q < H.size → ¬ A1 q → H1[q]? = H[q]?) → va_S A H0 H1 locs1 → W p l e R s m args below meth c H1 locs1 (cells + mc) (slots + ms) Q { g with pc := g.pc + 3, stack := v.toList ++ rest }) : W p l e R s m args below meth c H locs cells slots Q g := by
  intro T hT X
  obtain ⟨v', st₀, t, T', L, h0, X', hL, e1, e2, ⟨hv, hok, hB, hF⟩, st⟩ := hr T hT X
  cases hv
  obtain ⟨k1, k2, k3⟩ := vx_keep h0 e1 hS (fun q _ h => hA q h) hA hL hF
  obtain ⟨t2, a1, b1⟩ := kk t T'.heap (locs ++ L) e1.symm (by rw [← e2]; exact X'.warmed.alike) hok hB k1 k2 k3 T' rfl X'
  exact ⟨t2, st t2 a1, b1⟩
theorem cn_S {bytes : ByteArray} {maxL index : Nat} {y : MethodName} {ret : Option FieldType} {rm : Room} {As st0 : List Value} {v : Option Value} {ok : Prop} {B : State → Prop} {A1 : Nat → Prop} {Pc : Array Value → State → Prop} {mc ms : Nat}
    (C : Cx p m c cc nL s args own) (hM : Met l y (Cond.code y bytes maxL ret :: AW) rm Pc (QcM v ok B A1) mc ms A1) (hp : PreS s H Pc As) (hS : va_S A H0 H locs) (hA : ∀ q, A1 q → A q)
    (h1 : Cond.code y bytes maxL ret ∈ AW) (h2 : Cond.methodLink own index y ∈ AW) (h3 : Cond.static y ∈ AW) (h4 : Cond.initialized y.cls ∈ AW) (hrc : rm.cells = mc ∧ rm.slots = ms) (n : Nat)
    (hd : y.cls ≠ "java/lang/invoke/MethodHandle" ∧ y.cls ≠ "java/lang/invoke/VarHandle" ∧ (parseMethodDescriptor y.desc).map (fun d => d.parameters.length) = some n) (hn : As.length = n) (hR : rm.frames + 1 ≤ R.frames ∧ 8 + (maxL + 11) + rm.locals ≤ R.locals)
    (hsize : ls.size = nL) (hst : st0 = As.reverse ++ rest) (hrest : (rest.map fun v => v.category).sum ≤ 8) (hdg : decode cc pc = .ok (.invokestatic index, 3)) (hcs : cells + mc ≤ R.cells ∧ slots + ms ≤ R.slots)
    (kk : ∀ (t : State) (H1 : Heap) (locs1 : List Loc), t.heap = H1 → s.vm.Alike t.vm → ok → B t → H.size ≤ H1.size → (∀ q : Nat, q < H.size → ¬ A1 q → H1[q]? = H[q]?) → va_S A H0 H1 locs1 → W p l e R s m args below meth c H1 locs1 (cells + mc) (slots + ms) Q (F0 m (pc + 3) ls (v.toList ++ rest))) : W p l e R s m args below meth c H locs cells slots Q (F0 m pc ls st0) := by
  subst hst
  subst hn
  obtain ⟨hx, hb, hml, hown, hts⟩ := C
  exact cn_go (va_runS (g := F0 m pc ls (As.reverse ++ rest)) (As := As) (rest := rest) ⟨hx, hb, hml, hown, hts⟩ hM ⟨callB_of As.length hts (aw_ina h1) rfl hrc.1 hrc.2 (hts _ h4) (hts _ h2) hd hR, hts _ h3⟩ hp rfl rfl hsize rfl (lv_room hrest) hdg hcs) hS hA kk
theorem cn_V {bytes : ByteArray} {maxL index b : Nat} {Cn : String} {y : MethodName} {ret : Option FieldType} {rm : Room} {As st0 : List Value} {v : Option Value} {ok : Prop} {B : State → Prop} {A1 : Nat → Prop} {Pc : Array Value → State → Prop} {mc ms : Nat}
    (C : Cx p m c cc nL s args own) (hM : Met l y (Cond.code y bytes maxL ret :: AW) rm Pc (QcM v ok B A1) mc ms A1) (hp : PreV s H Cn b Pc As) (hS : va_S A H0 H locs) (hA : ∀ q, A1 q → A q)
    (h1 : Cond.code y bytes maxL ret ∈ AW) (h2 : Cond.methodLink own index y ∈ AW) (h3 : Cond.instanceMethod y ∈ AW) (h4 : Cond.initialized y.cls ∈ AW) (h5 : Cond.selects Cn y y ∈ AW) (hrc : rm.cells = mc ∧ rm.slots = ms) (n : Nat)
    (hd : y.cls ≠ "java/lang/invoke/MethodHandle" ∧ y.cls ≠ "java/lang/invoke/VarHandle" ∧ (parseMethodDescriptor y.desc).map (fun d => d.parameters.length) = some n) (hn : As.length = n) (hR : rm.frames + 1 ≤ R.frames ∧ 8 + (maxL + 11) + rm.locals ≤ R.locals)
    (hsize : ls.size = nL) (hst : st0 = As.reverse ++ .ref b :: rest) (hrest : (rest.map fun v => v.category).sum ≤ 8) (hdg : decode cc pc = .ok (.invokevirtual index, 3)) (hcs : cells + mc ≤ R.cells ∧ slots + ms ≤ R.slots)
    (kk : ∀ (t : State) (H1 : Heap) (locs1 : List Loc), t.heap = H1 → s.vm.Alike t.vm → ok → B t → H.size ≤ H1.size → (∀ q : Nat, q < H.size → ¬ A1 q → H1[q]? = H[q]?) → va_S A H0 H1 locs1 → W p l e R s m args below meth c H1 locs1 (cells + mc) (slots + ms) Q (F0 m (pc + 3) ls (v.toList ++ rest))) : W p l e R s m args below meth c H locs cells slots Q (F0 m pc ls st0) := by
  subst hst
  subst hn
  obtain ⟨hx, hb, hml, hown, hts⟩ := C
  exact cn_go (va_runV (g := F0 m pc ls (As.reverse ++ .ref b :: rest)) (As := As) (rest := rest) ⟨hx, hb, hml, hown, hts⟩ hM ⟨callB_of As.length hts (aw_ina h1) rfl hrc.1 hrc.2 (hts _ h4) (hts _ h2) hd hR, hts _ h3, hts _ h5⟩ hp rfl rfl hsize rfl (lv_room hrest) hdg hcs) hS hA kk
theorem cn_I {bytes : ByteArray} {maxL index b : Nat} {y : MethodName} {rm : Room} {As st0 : List Value} {v : Option Value} {ok : Prop} {B : State → Prop} {A1 : Nat → Prop} {Pc : Array Value → State → Prop} {mc ms : Nat}
    (C : Cx p m c cc nL s args own) (hM : Met l y (Cond.code y bytes maxL none :: AW) rm Pc (QcM v ok B A1) mc ms A1) (hp : PreS s H Pc (.ref b :: As)) (hS : va_S A H0 H locs) (hA : ∀ q, A1 q → A q)
    (h1 : Cond.code y bytes maxL none ∈ AW) (h2 : Cond.methodLink own index y ∈ AW) (h3 : Cond.instanceMethod y ∈ AW) (h4 : Cond.initialized y.cls ∈ AW) (h5 : y.name = "<init>") (hrc : rm.cells = mc ∧ rm.slots = ms) (n : Nat)
    (hd : y.cls ≠ "java/lang/invoke/MethodHandle" ∧ y.cls ≠ "java/lang/invoke/VarHandle" ∧ (parseMethodDescriptor y.desc).map (fun d => d.parameters.length) = some n) (hn : As.length = n) (hR : rm.frames + 1 ≤ R.frames ∧ 8 + (maxL + 11) + rm.locals ≤ R.locals)
    (hsize : ls.size = nL) (hst : st0 = As.reverse ++ .ref b :: rest) (hrest : (rest.map fun v => v.category).sum ≤ 8) (hdg : decode cc pc = .ok (.invokespecial index, 3)) (hcs : cells + mc ≤ R.cells ∧ slots + ms ≤ R.slots)
    (kk : ∀ (t : State) (H1 : Heap) (locs1 : List Loc), t.heap = H1 → s.vm.Alike t.vm → ok → B t → H.size ≤ H1.size → (∀ q : Nat, q < H.size → ¬ A1 q → H1[q]? = H[q]?) → va_S A H0 H1 locs1 → W p l e R s m args below meth c H1 locs1 (cells + mc) (slots + ms) Q (F0 m (pc + 3) ls (v.toList ++ rest))) : W p l e R s m args below meth c H locs cells slots Q (F0 m pc ls st0) := by
  subst hst
  subst hn
  obtain ⟨hx, hb, hml, hown, hts⟩ := C
  exact cn_go (va_runI (g := F0 m pc ls (As.reverse ++ .ref b :: rest)) (As := As) (rest := rest) ⟨hx, hb, hml, hown, hts⟩ hM ⟨callB_of As.length hts (aw_ina h1) rfl hrc.1 hrc.2 (hts _ h4) (hts _ h2) hd hR, h5, hts _ h3⟩ hp rfl rfl hsize rfl (lv_room hrest) hdg hcs) hS hA kk
theorem o_init (C : Cx p m c cc nL s args own) {idx : Nat} (h : Cond.methodLink own idx objectInit ∈ AW) (hsize : ls.size = nL) {a : Nat} (hd : decode cc pc = .ok (.invokespecial idx, 3)) (hR : 1 ≤ R.frames ∧ 12 ≤ R.locals) (kk : W p l e R s m args below meth c H locs cells slots Q (F0 m (pc + 3) ls [])) : W p l e R s m args below meth c H locs cells slots Q (F0 m pc ls [.ref a]) :=
  W.objInit C.1 C.2.1 C.2.2.2.1 (C.2.2.2.2 _ h) (C.2.2.2.2 _ aw_o_inst) (C.2.2.2.2 _ aw_o_code) rfl (hsize.trans C.2.2.1.symm) rfl hd hR.1 (by show 2 * 0 + 0 + 12 ≤ R.locals; omega) kk
end BN
