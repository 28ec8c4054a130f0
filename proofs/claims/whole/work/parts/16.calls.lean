/-! Calls of methods that only read: the heap stays. -/
/-- a method's contract that leaves the heap as it is -/
def QcV (v : Option Value) : Array Value → State → Outcome → State → Prop := fun _ st o t => o = .returned v ∧ t.heap = st.heap
/-- words that no step undoes, though they aren't among the kept ones: links inside the nest, casts, declarations -/
def nwS (w : Cond) : Bool := match w with
  | .methodLinkNest _ _ _ _ => true
  | .castable _ _ => true
  | .declares _ => true
  | _ => false
def NWL : List Cond := lw_tbl.filter nwS
/-- the class's texts: their places in its pool -/
def SL : List (Nat × String) := [(39, "no curve"), (52, "the order is no prime greater than 2"), (143, "no curve was taken yet"), (147, "no such register"), (74, "no point of the curve"), (107, "not well-formed"), (112, "no key of the curve"), (116, "no key"), (136, "signing fails")]
def Nw (U : State) : Prop := (∀ w, w ∈ NWL → va_Nw w U) ∧ ∀ q, q ∈ SL → ∃ a, vk_R RX1 q.1 q.2 a U
theorem nw_shape {w : Cond} (h : nwS w = true) : (∃ a i x b, w = .methodLinkNest a i x b) ∨ (∃ a b, w = .castable a b) ∨ ∃ x, w = .declares x := by
  cases w <;> first | exact Or.inl ⟨_, _, _, _, rfl⟩ | exact Or.inr (Or.inl ⟨_, _, rfl⟩) | exact Or.inr (Or.inr ⟨_, rfl⟩) | cases h
theorem Nw.warm {s U : State} (hW : s.WarmedH U.vm) (h : Nw s) : Nw U := by
  refine ⟨fun w hw => ?_, fun q hq => ?_⟩
  · rcases nw_shape (List.mem_filter.mp hw).2 with ⟨a, i, x, b, rfl⟩ | ⟨a, b, rfl⟩ | ⟨x, rfl⟩
    · exact va_Nw.warmM hW (h.1 _ hw)
    · exact va_Nw.warmC hW (h.1 _ hw)
    · exact va_Nw.warmD hW (h.1 _ hw)
  · obtain ⟨a, ha⟩ := h.2 q hq
    exact ⟨a, vk_R.warm hW ha⟩
theorem Nw.same {u U : State} (hvm : u.vm = U.vm) (h : Nw u) : Nw U := by
  refine ⟨fun w hw => ?_, fun q hq => ?_⟩
  · rcases nw_shape (List.mem_filter.mp hw).2 with ⟨a, i, x, b, rfl⟩ | ⟨a, b, rfl⟩ | ⟨x, rfl⟩
    · exact va_Nw.same rfl hvm (h.1 _ hw)
    · exact va_Nw.same rfl hvm (h.1 _ hw)
    · exact va_Nw.same rfl hvm (h.1 _ hw)
  · obtain ⟨a, ha⟩ := h.2 q hq
    exact ⟨a, vk_R.same hvm.symm ha⟩
section Reads
variable {p : Program} {l : Launch} {e : Env} {R : Room} {s : State} {m : MethodId} {args : Array Value} {below : List Frame} {meth : Method} {c : Code} {H : Heap} {locs : List Loc} {cells slots : Nat} {Q : State → Prop}
theorem rd_go {g : JFrame} {rest : List Value} {v : Option Value} {a : Array Value} (hr : CallRun p l e R s m args below meth c H locs cells slots 0 0 g rest (QcV v a) (fun _ => False)) (kk : W p l e R s m args below meth c H locs cells slots Q { g with pc := g.pc + 3, stack := v.toList ++ rest }) : W p l e R s m args below meth c H locs cells slots Q g := by
  intro T hT X
  obtain ⟨v', st₀, t, T', L, h0, X', hL, e1, ⟨hv, hh⟩, st⟩ := hr T hT X
  cases hv
  obtain ⟨t2, a1, b1⟩ := kk T' (by rw [e1, hh, h0]) (Stand.forget X' (fun q h => (hL q h).elim))
  exact ⟨t2, st t2 a1, b1⟩
end Reads
/-- the context of a walk: the machine, the code, the words -/
def Cx (p : Program) (m : MethodId) (c : Code) (cc : ByteArray) (nL : Nat) (s : State) (args : Array Value) (own : String) : Prop := p.tables.exec = Jvm.exec ∧ c.code = cc ∧ c.maxLocals = nL ∧ s.vm.findClass own = some m.cls ∧ ∀ w ∈ AW, w.before args s = true
/-- a pure function of ints: its contract -/
def PcN (av : List Value) : Array Value → State → Prop := fun v U => v = av.toArray ∧ Nw U
theorem pcn_blind (av : List Value) : FrameBlind (PcN av) := fun a U g mk h => ⟨h.1, Nw.same (u := U) (U := U.calling g mk a) rfl h.2⟩
theorem pcn_pre {s : State} {H : Heap} (As : List Value) (h : Nw s) : PreS s H (PcN As) As := ⟨pcn_blind As, fun U _ hW => ⟨rfl, Nw.warm hW h⟩⟩
section Pure
variable {p : Program} {l : Launch} {e : Env} {R : Room} {s : State} {m : MethodId} {args : Array Value} {below : List Frame} {meth : Method} {c : Code} {H : Heap} {locs : List Loc} {cells slots : Nat} {Q : State → Prop}
/-- a call of a static method that only reads -/
theorem ca_S {cc bytes : ByteArray} {nL maxL index pc : Nat} {own : String} {y : MethodName} {ret : Option FieldType} {rm : Room} {As rest st0 : List Value} {ls : Array Slot} {v : Option Value} {Pc : Array Value → State → Prop}
    (C : Cx p m c cc nL s args own) (hM : Met l y (Cond.code y bytes maxL ret :: AW) rm Pc (QcV v) 0 0 (fun _ => False)) (hp : PreS s H Pc As)
    (h1 : Cond.code y bytes maxL ret ∈ AW) (h2 : Cond.methodLink own index y ∈ AW) (h3 : Cond.static y ∈ AW) (h4 : Cond.initialized y.cls ∈ AW) (hrc : rm.cells = 0 ∧ rm.slots = 0) (n : Nat)
    (hd : y.cls ≠ "java/lang/invoke/MethodHandle" ∧ y.cls ≠ "java/lang/invoke/VarHandle" ∧ (parseMethodDescriptor y.desc).map (fun d => d.parameters.length) = some n) (hn : As.length = n) (hR : rm.frames + 1 ≤ R.frames ∧ 8 + (maxL + 11) + rm.locals ≤ R.locals)
    (hsize : ls.size = nL) (hst : st0 = As.reverse ++ rest) (hrest : (rest.map fun v => v.category).sum ≤ 8) (hdg : decode cc pc = .ok (.invokestatic index, 3)) (hcs : cells ≤ R.cells ∧ slots ≤ R.slots)
    (kk : W p l e R s m args below meth c H locs cells slots Q (F0 m (pc + 3) ls (v.toList ++ rest))) : W p l e R s m args below meth c H locs cells slots Q (F0 m pc ls st0) := by
  subst hst
  subst hn
  obtain ⟨hx, hb, hml, hown, hts⟩ := C
  refine rd_go (W.runS (g := F0 m pc ls (As.reverse ++ rest)) (As := As) (rest := rest) ⟨hx, hb, hml, hown, hts⟩ hM ⟨callB_of As.length hts (aw_ina h1) rfl hrc.1 hrc.2 (hts _ h4) (hts _ h2) hd hR, hts _ h3⟩ hp rfl rfl hsize rfl (lv_room hrest) hdg hcs) kk
end Pure
