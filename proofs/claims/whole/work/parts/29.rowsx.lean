/-! Calls of methods that read and may throw; their ends; ints out of arrays. -/
section CX
variable {p : Program} {l : Launch} {e : Env} {R : Room} {s : State} {m : MethodId} {args : Array Value} {below : List Frame} {meth : Method} {c : Code} {H : Heap} {locs : List Loc} {cells slots : Nat} {Q : State → Prop}
variable {cc : ByteArray} {nL pc : Nat} {own : String} {ls : Array Slot} {rest : List Value}
theorem cx_go {g : JFrame} {v : Option Value} {ok why : Prop} {E0 : String} {a : Array Value} {mc ms : Nat} (hr : vx_Run p l e R s m args below meth c H locs cells slots mc ms g rest (QcP v ok a) (XcP E0 why) (fun _ => False))
    (kx : why → ∀ (H1 : Heap) (q9 : Addr) (ce : Cell), H.size ≤ H1.size → (∀ q : Nat, q < H.size → H1[q]? = H[q]?) → H1[q9]? = some ce → ce.vm = .none → s.vm.findClass E0 = some ce.cls → vx_W p l e R s m args below meth c H1 locs (cells + mc) (slots + ms) Q { g with stack := rest } q9)
    (kk : ok → W p l e R s m args below meth c H locs (cells + mc) (slots + ms) Q { g with pc := g.pc + 3, stack := v.toList ++ rest }) : W p l e R s m args below meth c H locs cells slots Q g := by
  intro T hT X
  rcases hr T hT X with ⟨v', st₀, t, T', L, h0, X', hL, e1, e2, ⟨hv, hok, hh⟩, st⟩ | ⟨q, st₀, t, T', L, E, ce, h0, X', hL, e1, e2, ⟨rfl, hwhy, hz1, hz2⟩, hce, hcv, hcl, st⟩
  · cases hv
    obtain ⟨t2, a1, b1⟩ := kk hok T' (by rw [e1, hh, h0]) (Stand.forget X' (fun q h => (hL q h).elim))
    exact ⟨t2, st t2 a1, b1⟩
  · obtain ⟨t2, a1, b1⟩ := kx hwhy t.heap q ce (by rw [← h0]; exact hz1) (fun x hx => by rw [hz2 x (by rw [h0]; exact hx), h0]) hce hcv hcl T' e1 (Stand.forget X' (fun q h => (hL q h).elim))
    exact ⟨t2, st.trans a1, b1⟩
theorem cx_S {bytes : ByteArray} {maxL index : Nat} {y : MethodName} {ret : Option FieldType} {rm : Room} {As st0 : List Value} {v : Option Value} {ok why : Prop} {E0 : String} {Pc : Array Value → State → Prop} {mc ms : Nat}
    (C : Cx p m c cc nL s args own) (hM : vx_Met l y (Cond.code y bytes maxL ret :: AW) rm Pc (QcP v ok) (XcP E0 why) mc ms (fun _ => False)) (hp : PreS s H Pc As)
    (h1 : Cond.code y bytes maxL ret ∈ AW) (h2 : Cond.methodLink own index y ∈ AW) (h3 : Cond.static y ∈ AW) (h4 : Cond.initialized y.cls ∈ AW) (hrc : rm.cells = mc ∧ rm.slots = ms) (n : Nat)
    (hd : y.cls ≠ "java/lang/invoke/MethodHandle" ∧ y.cls ≠ "java/lang/invoke/VarHandle" ∧ (parseMethodDescriptor y.desc).map (fun d => d.parameters.length) = some n) (hn : As.length = n) (hR : rm.frames + 1 ≤ R.frames ∧ 8 + (maxL + 11) + rm.locals ≤ R.locals)
    (hsize : ls.size = nL) (hst : st0 = As.reverse ++ rest) (hrest : (rest.map fun v => v.category).sum ≤ 8) (hdg : decode cc pc = .ok (.invokestatic index, 3)) (hcs : cells + mc ≤ R.cells ∧ slots + ms ≤ R.slots)
    (kx : why → ∀ (H1 : Heap) (q9 : Addr) (ce : Cell), H.size ≤ H1.size → (∀ q : Nat, q < H.size → H1[q]? = H[q]?) → H1[q9]? = some ce → ce.vm = .none → s.vm.findClass E0 = some ce.cls → vx_W p l e R s m args below meth c H1 locs (cells + mc) (slots + ms) Q (F0 m pc ls rest) q9)
    (kk : ok → W p l e R s m args below meth c H locs (cells + mc) (slots + ms) Q (F0 m (pc + 3) ls (v.toList ++ rest))) : W p l e R s m args below meth c H locs cells slots Q (F0 m pc ls st0) := by
  subst hst
  subst hn
  obtain ⟨hx, hb, hml, hown, hts⟩ := C
  exact cx_go (vx_runS (g := F0 m pc ls (As.reverse ++ rest)) (As := As) (rest := rest) ⟨hx, hb, hml, hown, hts⟩ hM ⟨callB_of As.length hts (aw_ina h1) rfl hrc.1 hrc.2 (hts _ h4) (hts _ h2) hd hR, hts _ h3⟩ hp rfl rfl hsize rfl (lv_room hrest) hdg hcs) kx kk
theorem cx_V {bytes : ByteArray} {maxL index b : Nat} {Cn : String} {y : MethodName} {ret : Option FieldType} {rm : Room} {As st0 : List Value} {v : Option Value} {ok why : Prop} {E0 : String} {Pc : Array Value → State → Prop} {mc ms : Nat}
    (C : Cx p m c cc nL s args own) (hM : vx_Met l y (Cond.code y bytes maxL ret :: AW) rm Pc (QcP v ok) (XcP E0 why) mc ms (fun _ => False)) (hp : PreV s H Cn b Pc As)
    (h1 : Cond.code y bytes maxL ret ∈ AW) (h2 : Cond.methodLink own index y ∈ AW) (h3 : Cond.instanceMethod y ∈ AW) (h4 : Cond.initialized y.cls ∈ AW) (h5 : Cond.selects Cn y y ∈ AW) (hrc : rm.cells = mc ∧ rm.slots = ms) (n : Nat)
    (hd : y.cls ≠ "java/lang/invoke/MethodHandle" ∧ y.cls ≠ "java/lang/invoke/VarHandle" ∧ (parseMethodDescriptor y.desc).map (fun d => d.parameters.length) = some n) (hn : As.length = n) (hR : rm.frames + 1 ≤ R.frames ∧ 8 + (maxL + 11) + rm.locals ≤ R.locals)
    (hsize : ls.size = nL) (hst : st0 = As.reverse ++ .ref b :: rest) (hrest : (rest.map fun v => v.category).sum ≤ 8) (hdg : decode cc pc = .ok (.invokevirtual index, 3)) (hcs : cells + mc ≤ R.cells ∧ slots + ms ≤ R.slots)
    (kx : why → ∀ (H1 : Heap) (q9 : Addr) (ce : Cell), H.size ≤ H1.size → (∀ q : Nat, q < H.size → H1[q]? = H[q]?) → H1[q9]? = some ce → ce.vm = .none → s.vm.findClass E0 = some ce.cls → vx_W p l e R s m args below meth c H1 locs (cells + mc) (slots + ms) Q (F0 m pc ls rest) q9)
    (kk : ok → W p l e R s m args below meth c H locs (cells + mc) (slots + ms) Q (F0 m (pc + 3) ls (v.toList ++ rest))) : W p l e R s m args below meth c H locs cells slots Q (F0 m pc ls st0) := by
  subst hst
  subst hn
  obtain ⟨hx, hb, hml, hown, hts⟩ := C
  exact cx_go (vx_runV (g := F0 m pc ls (As.reverse ++ .ref b :: rest)) (As := As) (rest := rest) ⟨hx, hb, hml, hown, hts⟩ hM ⟨callB_of As.length hts (aw_ina h1) rfl hrc.1 hrc.2 (hts _ h4) (hts _ h2) hd hR, hts _ h3, hts _ h5⟩ hp rfl rfl hsize rfl (lv_room hrest) hdg hcs) kx kk
/-- what was thrown inside goes on, out of this method: no old cell has changed -/
theorem ox {Qc : Array Value → State → Outcome → State → Prop} {XC : String → State → State → Prop} {mc ms : Nat} {free : Addr → Prop} {E0 : String} {H1 : Heap} {q9 : Addr} {ce : Cell} (hex : ∀ x ∈ c.exceptionTable.toList, False) (hk : meth.locks = false) (hcell : H1[q9]? = some ce) (hv : ce.vm = .none) (hcl : s.vm.findClass E0 = some ce.cls)
    (hx : ∀ t : State, t.heap = H1 → s.vm.Alike t.vm → XC E0 s t) (hf : ∀ z ∈ locs, free z.base) (hc : cells ≤ mc) (hs : slots ≤ ms) : vx_W p l e R s m args below meth c H1 locs cells slots (vx_MQ below Qc XC args s mc ms free) (F0 m pc ls rest) q9 := vx_out (fun x hx => (hex x hx).elim) hk hcell hv hcl hx hf hc hs
theorem ox_P {Qc : Array Value → State → Outcome → State → Prop} {mc ms : Nat} {free : Addr → Prop} {E0 E1 : String} {why : Prop} {H1 : Heap} {q9 : Addr} {ce : Cell} (hex : ∀ x ∈ c.exceptionTable.toList, False) (hk : meth.locks = false) (hcell : H1[q9]? = some ce) (hv : ce.vm = .none) (hcl : s.vm.findClass E0 = some ce.cls)
    (hE : E0 = E1) (hwhy : why) (z1 : s.heap.size ≤ H1.size) (z2 : ∀ q : Nat, q < s.heap.size → H1[q]? = s.heap[q]?) (hf : ∀ z ∈ locs, free z.base) (hc : cells ≤ mc) (hs : slots ≤ ms) : vx_W p l e R s m args below meth c H1 locs cells slots (vx_MQ below Qc (XcP E1 why) args s mc ms free) (F0 m pc ls rest) q9 :=
  ox hex hk hcell hv hcl (fun t ht _ => ⟨hE, hwhy, by rw [ht]; exact z1, fun q hq => by rw [ht]; exact z2 q hq⟩) hf hc hs
/-- ends -/
theorem px_v (C : Cx p m c cc nL s args own) (hr : meth.sig.returnType = none) (hk : meth.locks = false) {XC : String → State → State → Prop} {mc ms : Nat} {ok : Prop} (hok : ok) (hdg : decode cc pc = .ok (.return_, 1)) (hc : cells ≤ mc) (hs : slots ≤ ms) : W p l e R s m args below meth c s.heap [] cells slots (vx_MQ below (QcP none ok) XC args s mc ms (fun _ => False)) (F0 m pc ls []) :=
  vx_ret (W.widen hc hs (W.vret C.1 C.2.1 hr (fun t ht _ => ⟨rfl, hok, ht⟩) (fun q h => by cases h) hdg hk))
theorem px_i (C : Cx p m c cc nL s args own) (hr : meth.sig.returnType = some .int) (hk : meth.locks = false) {XC : String → State → State → Prop} {mc ms : Nat} {ok : Prop} {x v : Int32} (hok : ok) (hdg : decode cc pc = .ok (.ireturn, 1)) (hv : x = v) (hc : cells ≤ mc) (hs : slots ≤ ms) : W p l e R s m args below meth c s.heap [] cells slots (vx_MQ below (QcP (some (.int v)) ok) XC args s mc ms (fun _ => False)) (F0 m pc ls [.int x]) := by
  subst hv
  exact vx_ret (W.widen hc hs (W.iret C.1 C.2.1 hr (fun t ht _ => ⟨rfl, hok, ht⟩) (fun q h => by cases h) hdg hk))
theorem px_z (C : Cx p m c cc nL s args own) (hr : meth.sig.returnType = some .boolean) (hk : meth.locks = false) {XC : String → State → State → Prop} {mc ms : Nat} {ok : Prop} {a : Int} {v : Int32} (hok : ok) (hdg : decode cc pc = .ok (.ireturn, 1)) (h01 : a = 0 ∨ a = 1) (hv : ii a = v) (hc : cells ≤ mc) (hs : slots ≤ ms) : W p l e R s m args below meth c s.heap [] cells slots (vx_MQ below (QcP (some (.int v)) ok) XC args s mc ms (fun _ => False)) (F0 m pc ls [.int (ii a)]) := by
  subst hv
  exact vx_ret (W.widen hc hs (W.zret C.1 C.2.1 hr (by rcases h01 with rfl | rfl <;> decide +kernel) (fun t ht _ => ⟨rfl, hok, ht⟩) (fun q h => by cases h) hdg hk))
theorem px_l (C : Cx p m c cc nL s args own) (hr : meth.sig.returnType = some .long) (hk : meth.locks = false) {XC : String → State → State → Prop} {mc ms : Nat} {ok : Prop} {a : Int} {v : Int64} (hok : ok) (hdg : decode cc pc = .ok (.lreturn, 1)) (hv : li a = v) (hc : cells ≤ mc) (hs : slots ≤ ms) : W p l e R s m args below meth c s.heap [] cells slots (vx_MQ below (QcP (some (.long v)) ok) XC args s mc ms (fun _ => False)) (F0 m pc ls [.long (li a)]) := by
  subst hv
  exact vx_ret (W.widen hc hs (W.lret C.1 C.2.1 hr (fun t ht _ => ⟨rfl, hok, ht⟩) (fun q h => by cases h) hdg hk))
theorem rt_a (C : Cx p m c cc nL s args own) {rt : FieldType} (hr : meth.sig.returnType = some rt) (hrt : ∃ n, rt = .object n) (hk : meth.locks = false) {a : Nat} {v : Value} (hdg : decode cc pc = .ok (.areturn, 1)) (hv : Value.ref a = v) : W p l e R s m args below meth c s.heap [] 0 0 (MQ below (QcV (some v)) args s 0 0 (fun _ => False)) (F0 m pc ls [.ref a]) := by
  subst hv
  exact W.aret C.1 C.2.1 hr (Or.inl hrt) (Or.inr ⟨a, rfl⟩) (fun t ht _ => ⟨rfl, ht⟩) (fun q h => by cases h) hdg hk
variable {D : va_G} {ws : va_W} {tys : List (ClassId × FieldType)}
theorem i_ald (C : Cx p m c cc nL s args own) (hK : va_K D clX tys s) (hP : va_P D clX ws H) (q0 t0 : Nat) {a : Nat} {cA : ClassId} {n : Nat} {f : Nat → Int32} (ha : ws[q0]? = some (a, .inl (cA, n, .inl f))) (ht : tys[t0]? = some (cA, .int)) {i : Int} (j : Nat) (hi : i = (j : Int)) (hj : j < n) (hn : n < 2147483648) (hdg : decode cc pc = .ok (.iaload, 1))
    (kk : W p l e R s m args below meth c H locs cells slots Q (F0 m (pc + 1) ls (.int (f j) :: rest))) : W p l e R s m args below meth c H locs cells slots Q (F0 m pc ls (.int (ii i) :: .ref a :: rest)) := by
  subst hi
  refine va_iald C.1 C.2.1 hK hP q0 t0 ha ht (by rw [ii_nI]; exact vp_in_nI hj (by omega)) hdg ?_
  rw [ii_nI, nI_clamp (by omega)]
  exact kk
end CX
