/-! What throws: the two statics that a new exception reads, and the head of a method that may throw. -/
abbrev AZ (z0 : Nat) : Nat → Prop := fun q => z0 ≤ q
def Zs (z0 : Nat) (U : State) (H : Heap) : Prop := vx_Zq Jvm.Bundle.tN "UNASSIGNED_STACK" Jvm.Bundle.steD (AZ z0) U H ∧ vx_Zq Jvm.Bundle.tN "SUPPRESSED_SENTINEL" Jvm.Bundle.listD (AZ z0) U H
theorem Zs.moved {z0 : Nat} {u U : State} {H : Heap} (hvm : u.vm.Alike U.vm) (h : Zs z0 u H) : Zs z0 U H := ⟨vx_Zq.moved hvm h.1, vx_Zq.moved hvm h.2⟩
theorem Zs.kept {z0 : Nat} {U : State} {H H1 : Heap} (h : Zs z0 U H) (hq : ∀ a : Nat, a < H.size → ¬ z0 ≤ a → H1[a]? = H[a]?) : Zs z0 U H1 := ⟨vx_Zq.kept h.1 hq, vx_Zq.kept h.2 hq⟩
/-- the start of a method that may throw and reads the world ws -/
def PcX (D : va_G) (z0 : Nat) (ws : va_W) (tys : List (ClassId × FieldType)) (av : List Value) : Array Value → State → Prop := fun v U => v = av.toArray ∧ Nw U ∧ Zs z0 U U.heap ∧ va_P D clX ws U.heap ∧ va_K D clX tys U
theorem pcx_blind (D : va_G) (z0 : Nat) (ws : va_W) (tys : List (ClassId × FieldType)) (av : List Value) : FrameBlind (PcX D z0 ws tys av) := fun a U g mk h => ⟨h.1, Nw.same (u := U) (U := U.calling g mk a) rfl h.2.1, Zs.moved (u := U) (U := U.calling g mk a) (Vm.Alike.refl U.vm) h.2.2.1, h.2.2.2.1, va_K.moved (u := U) (U := U.calling g mk a) (Vm.Alike.refl U.vm) h.2.2.2.2⟩
theorem pcx_pre {D : va_G} {z0 : Nat} {ws : va_W} {tys : List (ClassId × FieldType)} {s : State} {H : Heap} (As : List Value) (hN : Nw s) (hZ : Zs z0 s H) (hP : va_P D clX ws H) (hK : va_K D clX tys s) : PreS s H (PcX D z0 ws tys As) As := ⟨pcx_blind D z0 ws tys As, fun U hU hW => ⟨rfl, Nw.warm hW hN, by rw [hU]; exact Zs.moved hW.alike hZ, by rw [hU]; exact hP, va_K.moved hW.alike hK⟩⟩
theorem pcx_preV {D : va_G} {z0 : Nat} {ws : va_W} {tys : List (ClassId × FieldType)} {s : State} {H : Heap} {b : Nat} (As : List Value) (hN : Nw s) (hZ : Zs z0 s H) (hP : va_P D clX ws H) (hK : va_K D clX tys s) (q0 : Nat) {ci : Nat} {q : vw_C} {fs : List Value} (hc : clX[ci]? = some q) (he : ws[q0]? = some (b, .inr (ci, fs))) : PreV s H q.1 b (PcX D z0 ws tys (.ref b :: As)) As :=
  ⟨pcx_blind D z0 ws tys _, va_recv hK hP hc he, fun U hU hW => ⟨rfl, Nw.warm hW hN, by rw [hU]; exact Zs.moved hW.alike hZ, by rw [hU]; exact hP, va_K.moved hW.alike hK⟩⟩
/-- a returned end that says why it returned -/
def QcP (v : Option Value) (ok : Prop) : Array Value → State → Outcome → State → Prop := fun _ st o t => o = .returned v ∧ ok ∧ t.heap = st.heap
/-- thrown: which, why; no old cell has changed -/
def XcP (E0 : String) (why : Prop) : String → State → State → Prop := fun E st t => E = E0 ∧ why ∧ st.heap.size ≤ t.heap.size ∧ ∀ q : Nat, q < st.heap.size → t.heap[q]? = st.heap[q]?
theorem mt_X {l : Launch} {y : MethodName} {cc : ByteArray} {maxL : Nat} {ret : Option FieldType} {rm : Room} {D : va_G} {z0 : Nat} {ws : va_W} {tys : List (ClassId × FieldType)} {av : List Value} {Qc : Array Value → State → Outcome → State → Prop} {XC : String → State → State → Prop} {mc ms : Nat} {free : Addr → Prop} (hy : plainName y.cls = true) (hn : (lg_sl av).length ≤ maxL)
    (body : ∀ p e s m args below meth c, Cx p m c cc maxL s args y.cls → Nw s → Zs z0 s s.heap → va_P D clX ws s.heap → va_K D clX tys s → meth.sig.returnType = ret → meth.locks = false → (∀ x ∈ c.exceptionTable.toList, False) → ∀ ls, lv_has ls maxL (lv_args 0 av) → W p l e rm s m args below meth c s.heap [] 0 0 (vx_MQ below Qc XC args s mc ms free) (F0 m 0 ls [])) :
    vx_Met l y (Cond.code y cc maxL ret :: AW) rm (PcX D z0 ws tys av) Qc XC mc ms free := by
  refine vx_ofW (cc := cc) (maxL := maxL) (ret := ret) hy rfl ?_
  intro p e s m args below meth c s₁ B hml hex hv
  obtain ⟨rfl, hN, hZ, hP, hK⟩ := hv
  have hts := atoms_spec (ws := Cond.code y cc maxL ret :: AW) B.pre
  have hl := lv_entry av (n := maxL) hn
  rw [lg_entry_eq]
  generalize (lg_sl av ++ List.replicate (maxL - (lg_sl av).length) Slot.unset).toArray = ls at hl ⊢
  exact body p e s m _ below meth c ⟨B.exec, B.bytes, hml, findClass_of_methodNamed B.named, fun w h => hts w (List.mem_cons_of_mem _ h)⟩ hN hZ hP hK B.returns B.notSynchronized hex ls hl
/-- the words of a throw: among the kept, or among the others -/
def thW (ik ic : Nat) (E : String) : List Cond := Cond.classLink RX1 ik E :: Cond.initialized E :: vx_atS RX1 ic E ["java/lang/RuntimeException", "java/lang/Exception"]
theorem th_ok {ik ic : Nat} {E : String} (h : ∀ w ∈ thW ik ic E, w ∈ lw_tbl ∧ (goodWord w = true ∨ nwS w = true)) {s : State} {args : Array Value} (hA : ∀ w ∈ AW, w.before args s = true) (hN : Nw s) : ∀ w ∈ thW ik ic E, w.before args s = true := by
  intro w hw
  obtain ⟨h1, h2⟩ := h w hw
  rcases h2 with g | g
  · exact hA w (aw_of h1 g)
  · have hm : w ∈ NWL := List.mem_filter.mpr ⟨h1, g⟩
    refine va_Nw.use ?_ (hN.1 w hm)
    rcases nw_shape g with ⟨a, i, x, b, rfl⟩ | ⟨a, b, rfl⟩ | ⟨x, rfl⟩ <;> rfl
theorem th_ot {ik ic : Nat} {E : String} (h : ∀ w ∈ thW ik ic E, w ∈ lw_tbl ∧ (goodWord w = true ∨ nwS w = true)) : ∀ w ∈ thW ik ic E, vx_ot w = true := by
  intro w hw
  obtain ⟨h1, h2⟩ := h w hw
  unfold vx_ot
  rcases h2 with g | g
  · rw [g, Bool.or_true]
  · rcases nw_shape g with ⟨a, i, x, b, rfl⟩ | ⟨a, b, rfl⟩ | ⟨x, rfl⟩ <;> rfl
section Th
variable {p : Program} {l : Launch} {e : Env} {R : Room} {s : State} {m : MethodId} {args : Array Value} {below : List Frame} {meth : Method} {c : Code} {H : Heap} {locs : List Loc} {cells slots : Nat}
variable {cc : ByteArray} {nL pc : Nat} {ls : Array Slot} {rest : List Value} {Qc : Array Value → State → Outcome → State → Prop} {XC : String → State → State → Prop} {mc ms : Nat} {free : Addr → Prop} {z0 : Nat}
/-- 'throw new E("text")' in a method of the class -/
theorem th_S (C : Cx p m c cc nL s args RX1) (hl : l.stackTraces = false) (hN : Nw s) (hZ : Zs z0 s s.heap) (hS : va_S (AZ z0) s.heap H locs) {ik is ic : Nat} {E text : String}
    (hE : Jvm.Bundle.fit E = true) (hq : (is, text) ∈ SL) (hw : ∀ w ∈ thW ik ic E, w ∈ lw_tbl ∧ (goodWord w = true ∨ nwS w = true)) (hsize : ls.size = nL)
    (d0 : decode cc pc = .ok (.new ik, 3)) (d3 : decode cc (pc + 3) = .ok (.dup, 1)) (d4 : decode cc (pc + 4) = .ok (.ldc is, 2)) (d6 : decode cc (pc + 6) = .ok (.invokespecial ic, 3)) (d9 : decode cc (pc + 9) = .ok (.athrow, 1))
    (hex : ∀ x ∈ c.exceptionTable.toList, False) (hR : 6 ≤ R.frames ∧ 100 ≤ R.locals ∧ cells + 1 ≤ R.cells ∧ slots + 6 ≤ R.slots) (hrest : (rest.map fun v => v.category).sum ≤ 8) (hlocks : meth.locks = false)
    (hx : ∀ t : State, s.vm.Alike t.vm → H.size ≤ t.heap.size → (∀ q : Nat, q < H.size → t.heap[q]? = H[q]?) → XC E s t)
    (hf : ∀ z ∈ locs, free z.base) (hc : cells + 1 ≤ mc) (hs : slots + 6 ≤ ms) : W p l e R s m args below meth c H locs cells slots (vx_MQ below Qc XC args s mc ms free) (F0 m pc ls rest) := by
  have h1 := th_ok hw C.2.2.2.2 hN
  have h2 := th_ot hw
  obtain ⟨sa, hsa⟩ := hN.2 _ hq
  refine vx_throwS (A := AZ z0) C.1 C.2.1 hl C.2.2.2.1 hE (by decide +kernel) (h1 _ List.mem_cons_self) (h1 _ (List.mem_cons_of_mem _ List.mem_cons_self)) hsa (fun w hw => h1 w (List.mem_cons_of_mem _ (List.mem_cons_of_mem _ hw))) h2 hZ.1 hZ.2 hS (hsize.trans C.2.2.1.symm) d0 d3 d4 d6 d9 (fun x hx => (hex x hx).elim) (by show 2 + 3 < R.frames; omega) (by show _ + (13 * (2 + 1) + 43) ≤ R.locals; omega) (by omega) (by omega) hlocks hx hf hc hs
end Th
