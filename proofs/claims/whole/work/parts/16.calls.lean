/-! Calls of methods that only read: the heap stays. -/
/-- a method's contract that leaves the heap as it is -/
def QcV (v : Option Value) : Array Value → State → Outcome → State → Prop := fun _ st o t => o = .returned v ∧ t.heap = st.heap
/-- words that no step undoes, though they aren't among the kept ones: links inside the nest -/
def NWL : List Cond := lw_tbl.filter (fun w => match w with | .methodLinkNest _ _ _ _ => true | _ => false)
def Nw (U : State) : Prop := ∀ w, w ∈ NWL → va_Nw w U
theorem nw_shape {w : Cond} (h : w ∈ NWL) : ∃ a i x b, w = .methodLinkNest a i x b := by
  have h2 := (List.mem_filter.mp h).2
  cases w <;> first | exact ⟨_, _, _, _, rfl⟩ | cases h2
theorem Nw.warm {s U : State} (hW : s.WarmedH U.vm) (h : Nw s) : Nw U := by
  intro w hw
  obtain ⟨a, i, x, b, rfl⟩ := nw_shape hw
  exact va_Nw.warmM hW (h _ hw)
theorem Nw.same {u U : State} (hvm : u.vm = U.vm) (h : Nw u) : Nw U := by
  intro w hw
  obtain ⟨a, i, x, b, rfl⟩ := nw_shape hw
  exact va_Nw.same rfl hvm (h _ hw)
section Reads
variable {p : Program} {l : Launch} {e : Env} {R : Room} {s : State} {m : MethodId} {args : Array Value} {below : List Frame} {meth : Method} {c : Code} {H : Heap} {locs : List Loc} {cells slots : Nat} {Q : State → Prop}
theorem rd_go {g : JFrame} {rest : List Value} {v : Option Value} {a : Array Value} (hr : CallRun p l e R s m args below meth c H locs cells slots 0 0 g rest (QcV v a) (fun _ => False)) (kk : W p l e R s m args below meth c H locs cells slots Q { g with pc := g.pc + 3, stack := v.toList ++ rest }) : W p l e R s m args below meth c H locs cells slots Q g := by
  intro T hT X
  obtain ⟨v', st₀, t, T', L, h0, X', hL, e1, ⟨hv, hh⟩, st⟩ := hr T hT X
  cases hv
  obtain ⟨t2, a1, b1⟩ := kk T' (by rw [e1, hh, h0]) (Stand.forget X' (fun q h => (hL q h).elim))
  exact ⟨t2, st t2 a1, b1⟩
end Reads
/-- the context of a walk: the machine, the code, the words -/
def Cx (p : Program) (m : MethodId) (c : Code) (cc : ByteArray) (nL : Nat) (s : State) (args : Array Value) (own : String) : Prop := p.tables.exec = Jvm.exec ∧ c.code = cc ∧ c.maxLocals = nL ∧ s.vm.findClass own = some m.cls ∧ ∀ w ∈ AW, w.before args s = true
/-- a pure function of ints: its contract -/
def PcN (av : List Value) : Array Value → State → Prop := fun v U => v = av.toArray ∧ Nw U
theorem pcn_blind (av : List Value) : FrameBlind (PcN av) := fun a U g mk h => ⟨h.1, Nw.same (u := U) (U := U.calling g mk a) rfl h.2⟩
theorem pcn_pre {s : State} {H : Heap} (As : List Value) (h : Nw s) : PreS s H (PcN As) As := ⟨pcn_blind As, fun U _ hW => ⟨rfl, Nw.warm hW h⟩⟩
section Pure
variable {p : Program} {l : Launch} {e : Env} {R : Room} {s : State} {m : MethodId} {args : Array Value} {below : List Frame} {meth : Method} {c : Code} {H : Heap} {locs : List Loc} {cells slots : Nat} {Q : State → Prop}
/-- a call of a static method that only reads -/
theorem ca_S {cc bytes : ByteArray} {nL maxL index pc : Nat} {own : String} {y : MethodName} {ret : Option FieldType} {rm : Room} {As rest st0 : List Value} {ls : Array Slot} {v : Option Value} {Pc : Array Value → State → Prop}
    (C : Cx p m c cc nL s args own) (hM : Met l y (Cond.code y bytes maxL ret :: AW) rm Pc (QcV v) 0 0 (fun _ => False)) (hp : PreS s H Pc As)
    (h1 : Cond.code y bytes maxL ret ∈ AW) (h2 : Cond.methodLink own index y ∈ AW) (h3 : Cond.static y ∈ AW) (h4 : Cond.initialized y.cls ∈ AW) (hrc : rm.cells = 0 ∧ rm.slots = 0) (n : Nat)
    (hd : y.cls ≠ "java/lang/invoke/MethodHandle" ∧ y.cls ≠ "java/lang/invoke/VarHandle" ∧ (parseMethodDescriptor y.desc).map (fun d => d.parameters.length) = some n) (hn : As.length = n) (hR : rm.frames + 1 ≤ R.frames ∧ 8 + (maxL + 11) + rm.locals ≤ R.locals)
    (hsize : ls.size = nL) (hst : st0 = As.reverse ++ rest) (hrest : (rest.map fun v => v.category).sum ≤ 8) (hdg : decode cc pc = .ok (.invokestatic index, 3)) (hcs : cells ≤ R.cells ∧ slots ≤ R.slots)
    (kk : W p l e R s m args below meth c H locs cells slots Q (F0 m (pc + 3) ls (v.toList ++ rest))) : W p l e R s m args below meth c H locs cells slots Q (F0 m pc ls st0) := by
  subst hst
  subst hn
  obtain ⟨hx, hb, hml, hown, hts⟩ := C
  refine rd_go (W.runS (g := F0 m pc ls (As.reverse ++ rest)) (As := As) (rest := rest) ⟨hx, hb, hml, hown, hts⟩ hM ⟨callB_of As.length hts (aw_ina h1) rfl hrc.1 hrc.2 (hts _ h4) (hts _ h2) hd hR, hts _ h3⟩ hp rfl rfl hsize rfl (lv_room hrest) hdg hcs) kk
end Pure
