/-! Methods that read objects and leave the heap as it is. -/
def PcW (D : va_G) (ws : va_W) (tys : List (ClassId × FieldType)) (av : List Value) : Array Value → State → Prop := fun v U => v = av.toArray ∧ Nw U ∧ va_P D clX ws U.heap ∧ va_K D clX tys U
theorem pcw_blind (D : va_G) (ws : va_W) (tys : List (ClassId × FieldType)) (av : List Value) : FrameBlind (PcW D ws tys av) := fun a U g mk h => ⟨h.1, Nw.same (u := U) (U := U.calling g mk a) rfl h.2.1, h.2.2.1, va_K.moved (u := U) (U := U.calling g mk a) (Vm.Alike.refl U.vm) h.2.2.2⟩
theorem pcw_pre {D : va_G} {ws : va_W} {tys : List (ClassId × FieldType)} {s : State} {H : Heap} (As : List Value) (hN : Nw s) (hP : va_P D clX ws H) (hK : va_K D clX tys s) : PreS s H (PcW D ws tys As) As := ⟨pcw_blind D ws tys As, fun U hU hW => ⟨rfl, Nw.warm hW hN, by rw [hU]; exact hP, va_K.moved hW.alike hK⟩⟩
theorem pcw_preV {D : va_G} {ws : va_W} {tys : List (ClassId × FieldType)} {s : State} {H : Heap} {b : Nat} (As : List Value) (hN : Nw s) (hP : va_P D clX ws H) (hK : va_K D clX tys s) (q0 : Nat) {ci : Nat} {q : vw_C} {fs : List Value} (hc : clX[ci]? = some q) (he : ws[q0]? = some (b, .inr (ci, fs))) : PreV s H q.1 b (PcW D ws tys (.ref b :: As)) As :=
  ⟨pcw_blind D ws tys _, va_recv hK hP hc he, fun U hU hW => ⟨rfl, Nw.warm hW hN, by rw [hU]; exact hP, va_K.moved hW.alike hK⟩⟩
/-- the head of such a method -/
theorem mt_W {l : Launch} {y : MethodName} {cc : ByteArray} {maxL : Nat} {ret : Option FieldType} {rm : Room} {D : va_G} {ws : va_W} {tys : List (ClassId × FieldType)} {av : List Value} {v : Option Value} (hy : plainName y.cls = true) (hn : (lg_sl av).length ≤ maxL)
    (body : ∀ p e s m args below meth c, Cx p m c cc maxL s args y.cls → Nw s → va_P D clX ws s.heap → va_K D clX tys s → meth.sig.returnType = ret → meth.locks = false → ∀ ls, lv_has ls maxL (lv_args 0 av) → W p l e rm s m args below meth c s.heap [] 0 0 (MQ below (QcV v) args s 0 0 (fun _ => False)) (F0 m 0 ls [])) :
    Met l y (Cond.code y cc maxL ret :: AW) rm (PcW D ws tys av) (QcV v) 0 0 (fun _ => False) := by
  refine Met.ofW (cc := cc) (maxL := maxL) (ret := ret) hy rfl ?_
  intro p e s m args below meth c s₁ B hml hv
  obtain ⟨rfl, hN, hP, hK⟩ := hv
  have hts := atoms_spec (ws := Cond.code y cc maxL ret :: AW) B.pre
  have hl := lv_entry av (n := maxL) hn
  rw [lg_entry_eq]
  generalize (lg_sl av ++ List.replicate (maxL - (lg_sl av).length) Slot.unset).toArray = ls at hl ⊢
  exact body p e s m _ below meth c ⟨B.exec, B.bytes, hml, findClass_of_methodNamed B.named, fun w h => hts w (List.mem_cons_of_mem _ h)⟩ hN hP hK B.returns B.notSynchronized ls hl
section Rows
variable {p : Program} {l : Launch} {e : Env} {R : Room} {s : State} {m : MethodId} {args : Array Value} {below : List Frame} {meth : Method} {c : Code} {H : Heap} {locs : List Loc} {cells slots : Nat} {Q : State → Prop}
variable {cc : ByteArray} {nL pc : Nat} {own : String} {ls : Array Slot} {rest : List Value} {D : va_G} {ws : va_W} {tys : List (ClassId × FieldType)}
theorem gf (C : Cx p m c cc nL s args own) (hK : va_K D clX tys s) (hP : va_P D clX ws H) (q0 : Nat) {a ci : Nat} {fs : List Value} (he : ws[q0]? = some (a, .inr (ci, fs))) {Cn : String} {T : u_T} {N : Nat} (hc : clX[ci]? = some (Cn, T, N)) (hu : ∀ w, w ∈ u_ws Cn T N → w ∈ AW) (k : Nat) (hk : k < N) {idx : Nat} (hw : Cond.fieldLink own idx (T k).1 (T k).2.1 (T k).2.2.1 ∈ AW) {v : Value} (hv : fs[k]? = some v) (hdg : decode cc pc = .ok (.getfield idx, 3))
    (kk : W p l e R s m args below meth c H locs cells slots Q (F0 m (pc + 3) ls (v :: rest))) : W p l e R s m args below meth c H locs cells slots Q (F0 m pc ls (.ref a :: rest)) :=
  va_get C.1 C.2.1 C.2.2.2.2 hu C.2.2.2.1 hK hP q0 he hc k hk (C.2.2.2.2 _ hw) (fun _ h => h) hv hdg kk
/-- a call of an instance method that only reads -/
theorem ca_V {bytes : ByteArray} {maxL index b : Nat} {Cn : String} {y : MethodName} {ret : Option FieldType} {rm : Room} {As st0 : List Value} {v : Option Value} {Pc : Array Value → State → Prop}
    (C : Cx p m c cc nL s args own) (hM : Met l y (Cond.code y bytes maxL ret :: AW) rm Pc (QcV v) 0 0 (fun _ => False)) (hp : PreV s H Cn b Pc As)
    (h1 : Cond.code y bytes maxL ret ∈ AW) (h2 : Cond.methodLink own index y ∈ AW) (h3 : Cond.instanceMethod y ∈ AW) (h4 : Cond.initialized y.cls ∈ AW) (h5 : Cond.selects Cn y y ∈ AW) (hrc : rm.cells = 0 ∧ rm.slots = 0) (n : Nat)
    (hd : y.cls ≠ "java/lang/invoke/MethodHandle" ∧ y.cls ≠ "java/lang/invoke/VarHandle" ∧ (parseMethodDescriptor y.desc).map (fun d => d.parameters.length) = some n) (hn : As.length = n) (hR : rm.frames + 1 ≤ R.frames ∧ 8 + (maxL + 11) + rm.locals ≤ R.locals)
    (hsize : ls.size = nL) (hst : st0 = As.reverse ++ .ref b :: rest) (hrest : (rest.map fun v => v.category).sum ≤ 8) (hdg : decode cc pc = .ok (.invokevirtual index, 3)) (hcs : cells ≤ R.cells ∧ slots ≤ R.slots)
    (kk : W p l e R s m args below meth c H locs cells slots Q (F0 m (pc + 3) ls (v.toList ++ rest))) : W p l e R s m args below meth c H locs cells slots Q (F0 m pc ls st0) := by
  subst hst
  subst hn
  obtain ⟨hx, hb, hml, hown, hts⟩ := C
  exact rd_go (W.runV (g := F0 m pc ls (As.reverse ++ .ref b :: rest)) (As := As) (rest := rest) ⟨hx, hb, hml, hown, hts⟩ hM ⟨callB_of As.length hts (aw_ina h1) rfl hrc.1 hrc.2 (hts _ h4) (hts _ h2) hd hR, hts _ h3, hts _ h5⟩ hp rfl rfl hsize rfl (lv_room hrest) hdg hcs) kk
end Rows
