/-! Methods that write: worlds before and behind. -/
/-- the world ws stands, its cells in A -/
def Wd (D : va_G) (ws : va_W) (tys : List (ClassId × FieldType)) (A : Nat → Prop) (t : State) : Prop := va_P D clX ws t.heap ∧ va_K D clX tys t ∧ va_D A ws
def PcM (D : va_G) (z0 sz : Nat) (ws : va_W) (tys : List (ClassId × FieldType)) (av : List Value) : Array Value → State → Prop := fun v U => v = av.toArray ∧ Nw U ∧ Zs z0 U U.heap ∧ U.heap.size = sz ∧ z0 ≤ sz ∧ Wd D ws tys (AZ z0) U
theorem Wd.moved {D : va_G} {ws : va_W} {tys : List (ClassId × FieldType)} {A : Nat → Prop} {u U : State} (hvm : u.vm.Alike U.vm) (hh : U.heap = u.heap) (h : Wd D ws tys A u) : Wd D ws tys A U := ⟨by rw [hh]; exact h.1, va_K.moved hvm h.2.1, h.2.2⟩
theorem pcm_blind (D : va_G) (z0 sz : Nat) (ws : va_W) (tys : List (ClassId × FieldType)) (av : List Value) : FrameBlind (PcM D z0 sz ws tys av) := fun a U g mk h => ⟨h.1, Nw.same (u := U) (U := U.calling g mk a) rfl h.2.1, Zs.moved (u := U) (U := U.calling g mk a) (Vm.Alike.refl U.vm) h.2.2.1, h.2.2.2.1, h.2.2.2.2.1, Wd.moved (u := U) (U := U.calling g mk a) (Vm.Alike.refl U.vm) rfl h.2.2.2.2.2⟩
theorem pcm_pre {D : va_G} {z0 : Nat} {ws : va_W} {tys : List (ClassId × FieldType)} {s : State} {H : Heap} (As : List Value) (hN : Nw s) (hZ : Zs z0 s H) (hz : z0 ≤ H.size) (hP : va_P D clX ws H) (hK : va_K D clX tys s) (hD : va_D (AZ z0) ws) : PreS s H (PcM D z0 H.size ws tys As) As := ⟨pcm_blind D z0 H.size ws tys As, fun U hU hW => ⟨rfl, Nw.warm hW hN, by rw [hU]; exact Zs.moved hW.alike hZ, by rw [hU], hz, by rw [hU]; exact hP, va_K.moved hW.alike hK, hD⟩⟩
theorem pcm_preV {D : va_G} {z0 : Nat} {ws : va_W} {tys : List (ClassId × FieldType)} {s : State} {H : Heap} {b : Nat} (As : List Value) (hN : Nw s) (hZ : Zs z0 s H) (hz : z0 ≤ H.size) (hP : va_P D clX ws H) (hK : va_K D clX tys s) (hD : va_D (AZ z0) ws) (q0 : Nat) {ci : Nat} {q : vw_C} {fs : List Value} (hc : clX[ci]? = some q) (he : ws[q0]? = some (b, .inr (ci, fs))) : PreV s H q.1 b (PcM D z0 H.size ws tys (.ref b :: As)) As :=
  ⟨pcm_blind D z0 H.size ws tys _, va_recv hK hP hc he, fun U hU hW => ⟨rfl, Nw.warm hW hN, by rw [hU]; exact Zs.moved hW.alike hZ, by rw [hU], hz, by rw [hU]; exact hP, va_K.moved hW.alike hK, hD⟩⟩
/-- ends: what is answered, the world behind it, what stayed -/
def QcM (v : Option Value) (ok : Prop) (B : State → Prop) (A : Nat → Prop) : Array Value → State → Outcome → State → Prop := fun _ st o t => o = .returned v ∧ ok ∧ B t ∧ va_F A st t
def XcM (why : String → Prop) (B : State → Prop) (A : Nat → Prop) : String → State → State → Prop := fun E st t => why E ∧ B t ∧ va_F A st t
theorem va_S.mono {A B : Nat → Prop} {H0 H : Heap} {locs : List Loc} (h : va_S A H0 H locs) (hAB : ∀ q, A q → B q) : va_S B H0 H locs := ⟨h.1, fun q h1 h2 => h.2.1 q h1 (fun z => h2 (hAB q z)), fun z hz => hAB _ (h.2.2 z hz)⟩
theorem va_P.on {D : va_G} {cl : List vw_C} {ws : va_W} {H H1 : Heap} (hP : va_P D cl ws H) (z2 : ∀ q : Nat, q < H.size → H1[q]? = H[q]?) : va_P D cl ws H1 := hP.kept (fun k q hk => z2 q.1 (hP k q hk).lt)
theorem az_of {z0 sz : Nat} {ws : va_W} (hD : va_D (AZ z0) ws) (hz : z0 ≤ sz) : ∀ q, va_A ws sz q → z0 ≤ q := by
  intro q h
  rcases h with ⟨k, e, hk⟩ | h
  · exact hD.2 k _ hk
  · omega
theorem Zs.on {z0 : Nat} {s : State} {H : Heap} {A : Nat → Prop} {locs : List Loc} (h : Zs z0 s s.heap) (hS : va_S A s.heap H locs) (hA : ∀ q, A q → z0 ≤ q) : Zs z0 s H := h.kept (fun a h1 h2 => hS.2.1 a h1 (fun z => h2 (hA a z)))
theorem mt_M {l : Launch} {y : MethodName} {cc : ByteArray} {maxL : Nat} {ret : Option FieldType} {rm : Room} {D : va_G} {z0 sz : Nat} {ws : va_W} {tys : List (ClassId × FieldType)} {av : List Value} {Qc : Array Value → State → Outcome → State → Prop} {XC : String → State → State → Prop} {mc ms : Nat} {free : Addr → Prop} (hy : plainName y.cls = true) (hn : (lg_sl av).length ≤ maxL)
    (body : ∀ p e s m args below meth c, Cx p m c cc maxL s args y.cls → Nw s → Zs z0 s s.heap → s.heap.size = sz → z0 ≤ sz → va_P D clX ws s.heap → va_K D clX tys s → va_D (va_A ws sz) ws → (∀ q, va_A ws sz q → z0 ≤ q) → (∀ q, s.heap.size ≤ q → va_A ws sz q) → meth.sig.returnType = ret → meth.locks = false → (∀ x ∈ c.exceptionTable.toList, False) → (y.name = "<init>" → meth.name = "<init>") → ∀ ls, lv_has ls maxL (lv_args 0 av) → W p l e rm s m args below meth c s.heap [] 0 0 (vx_MQ below Qc XC args s mc ms free) (F0 m 0 ls [])) :
    vx_Met l y (Cond.code y cc maxL ret :: AW) rm (PcM D z0 sz ws tys av) Qc XC mc ms free := by
  refine vx_ofW (cc := cc) (maxL := maxL) (ret := ret) hy rfl ?_
  intro p e s m args below meth c s₁ B hml hex hv
  obtain ⟨rfl, hN, hZ, hsz, hz, hP, hK, hD⟩ := hv
  have hts := atoms_spec (ws := Cond.code y cc maxL ret :: AW) B.pre
  have hl := lv_entry av (n := maxL) hn
  rw [lg_entry_eq]
  generalize (lg_sl av ++ List.replicate (maxL - (lg_sl av).length) Slot.unset).toArray = ls at hl ⊢
  exact body p e s m _ below meth c ⟨B.exec, B.bytes, hml, findClass_of_methodNamed B.named, fun w h => hts w (List.mem_cons_of_mem _ h)⟩ hN hZ hsz hz hP hK hD.self (az_of hD hz) (fun q h => Or.inr (by omega)) B.returns B.notSynchronized hex (fun h => (name_of_methodNamed B.named B.method).1.trans h) ls hl
section WR
variable {p : Program} {l : Launch} {e : Env} {R : Room} {s : State} {m : MethodId} {args : Array Value} {below : List Frame} {meth : Method} {c : Code} {H : Heap} {locs : List Loc} {cells slots : Nat} {Q : State → Prop}
variable {cc : ByteArray} {nL pc : Nat} {own : String} {ls : Array Slot} {rest : List Value} {D : va_G} {ws : va_W} {tys : List (ClassId × FieldType)} {A : Nat → Prop} {H0 : Heap}
theorem i_ast (C : Cx p m c cc nL s args own) (hK : va_K D clX tys s) (hP : va_P D clX ws H) (hD : va_D A ws) (hS : va_S A H0 H locs) (q0 t0 : Nat) {a : Nat} {cA : ClassId} {n : Nat} {f : Nat → Int32} (ha : ws[q0]? = some (a, .inl (cA, n, .inl f))) (ht : tys[t0]? = some (cA, .int)) {i : Int} {x : Int32} (j : Nat) (hi : i = (j : Int)) (hj : j < n) (hn : n < 2147483648) (hdg : decode cc pc = .ok (.iastore, 1))
    (kk : ∀ (H1 : Heap) (locs1 : List Loc), va_P D clX (ws.set q0 (a, .inl (cA, n, .inl (va_up f j x)))) H1 → va_D A (ws.set q0 (a, .inl (cA, n, .inl (va_up f j x)))) → va_S A H0 H1 locs1 → W p l e R s m args below meth c H1 locs1 cells slots Q (F0 m (pc + 1) ls rest)) : W p l e R s m args below meth c H locs cells slots Q (F0 m pc ls (.int x :: .int (ii i) :: .ref a :: rest)) := by
  subst hi
  refine va_iast C.1 C.2.1 hK hP hD hS q0 t0 ha ht (by rw [ii_nI]; exact vp_in_nI hj (by omega)) hdg ?_
  rw [ii_nI, nI_clamp (by omega)]
  have e : upd f j x = va_up f j x := rfl
  rw [e]
  exact kk
/-- putfield of a field that isn't final -/
theorem p_f (C : Cx p m c cc nL s args own) (hK : va_K D clX tys s) (hP : va_P D clX ws H) (hD : va_D A ws) (hS : va_S A H0 H locs) (q0 : Nat) {a ci : Nat} {fs : List Value} (he : ws[q0]? = some (a, .inr (ci, fs))) {Cn : String} {T : u_T} {N : Nat} (hc : clX[ci]? = some (Cn, T, N)) (hu : ∀ w, w ∈ u_ws Cn T N → w ∈ AW) (ty0 : Nat → FieldType) (hty : ∀ k, k < N → parseFieldDescriptor (T k).2.2.1 = some (ty0 k)) (hnm : ∀ a, a < N → ∀ b, b < N → a ≠ b → (T a).2.1 ≠ (T b).2.1) (k : Nat) (hk : k < N) {idx : Nat} (hw : Cond.fieldLink own idx (T k).1 (T k).2.1 (T k).2.2.1 ∈ AW) (hfin : (T k).2.2.2 = false) {v : Value} (hn : narrow (ty0 k) v = v) (hfit : fits (ty0 k) v = true) (hl : k < fs.length) (hdg : decode cc pc = .ok (.putfield idx, 3))
    (kk : ∀ (H1 : Heap) (locs1 : List Loc), va_P D clX (ws.set q0 (a, .inr (ci, fs.set k v))) H1 → va_D A (ws.set q0 (a, .inr (ci, fs.set k v))) → va_S A H0 H1 locs1 → W p l e R s m args below meth c H1 locs1 cells slots Q (F0 m (pc + 3) ls rest)) : W p l e R s m args below meth c H locs cells slots Q (F0 m pc ls (v :: .ref a :: rest)) :=
  va_put C.1 C.2.1 C.2.2.2.2 hu ty0 hty hnm C.2.2.2.1 hK hP hD hS q0 he hc k hk (C.2.2.2.2 _ hw) (fun _ h => h) hfin (hty k hk) hn hfit hl hdg kk
/-- and of a final one, in the constructor -/
theorem p_ff (C : Cx p m c cc nL s args own) (hK : va_K D clX tys s) (hP : va_P D clX ws H) (hD : va_D A ws) (hS : va_S A H0 H locs) (q0 : Nat) {a ci : Nat} {fs : List Value} (he : ws[q0]? = some (a, .inr (ci, fs))) {Cn : String} {T : u_T} {N : Nat} (hc : clX[ci]? = some (Cn, T, N)) (hu : ∀ w, w ∈ u_ws Cn T N → w ∈ AW) (ty0 : Nat → FieldType) (hty : ∀ k, k < N → parseFieldDescriptor (T k).2.2.1 = some (ty0 k)) (hnm : ∀ a, a < N → ∀ b, b < N → a ≠ b → (T a).2.1 ≠ (T b).2.1) (k : Nat) (hk : k < N) {idx : Nat} (hw : Cond.fieldLink own idx (T k).1 (T k).2.1 (T k).2.2.1 ∈ AW) (hfin : (T k).2.2.2 = true) (hin : meth.name = "<init>") (hdecl : (T k).1 = own) {v : Value} (hn : narrow (ty0 k) v = v) (hfit : fits (ty0 k) v = true) (hl : k < fs.length) (hdg : decode cc pc = .ok (.putfield idx, 3))
    (kk : ∀ (H1 : Heap) (locs1 : List Loc), va_P D clX (ws.set q0 (a, .inr (ci, fs.set k v))) H1 → va_D A (ws.set q0 (a, .inr (ci, fs.set k v))) → va_S A H0 H1 locs1 → W p l e R s m args below meth c H1 locs1 cells slots Q (F0 m (pc + 3) ls rest)) : W p l e R s m args below meth c H locs cells slots Q (F0 m pc ls (v :: .ref a :: rest)) :=
  va_putF C.1 C.2.1 C.2.2.2.2 hu ty0 hty hnm C.2.2.2.1 hK hP hD hS q0 he hc k hk (C.2.2.2.2 _ hw) (fun _ h => h) hfin hin hdecl (hty k hk) hn hfit hl hdg kk
theorem py_v (C : Cx p m c cc nL s args own) (hr : meth.sig.returnType = none) (hk : meth.locks = false) {XC : String → State → State → Prop} {mc ms : Nat} {ok : Prop} {B : State → Prop} (hS : va_S A s.heap H locs) (hok : ok) (hB : ∀ t : State, t.heap = H → s.vm.Alike t.vm → B t) (hdg : decode cc pc = .ok (.return_, 1)) (hc : cells ≤ mc) (hs : slots ≤ ms) : W p l e R s m args below meth c H locs cells slots (vx_MQ below (QcM none ok B A) XC args s mc ms A) (F0 m pc ls []) :=
  vx_ret (W.widen hc hs (W.vret C.1 C.2.1 hr (fun t ht hW => ⟨rfl, hok, hB t ht hW.alike, hS.F ht⟩) hS.2.2 hdg hk))
theorem py_i (C : Cx p m c cc nL s args own) (hr : meth.sig.returnType = some .int) (hk : meth.locks = false) {XC : String → State → State → Prop} {mc ms : Nat} {ok : Prop} {B : State → Prop} {x v : Int32} (hS : va_S A s.heap H locs) (hok : ok) (hB : ∀ t : State, t.heap = H → s.vm.Alike t.vm → B t) (hdg : decode cc pc = .ok (.ireturn, 1)) (hv : x = v) (hc : cells ≤ mc) (hs : slots ≤ ms) : W p l e R s m args below meth c H locs cells slots (vx_MQ below (QcM (some (.int v)) ok B A) XC args s mc ms A) (F0 m pc ls [.int x]) := by
  subst hv
  exact vx_ret (W.widen hc hs (W.iret C.1 C.2.1 hr (fun t ht hW => ⟨rfl, hok, hB t ht hW.alike, hS.F ht⟩) hS.2.2 hdg hk))
theorem py_z (C : Cx p m c cc nL s args own) (hr : meth.sig.returnType = some .boolean) (hk : meth.locks = false) {XC : String → State → State → Prop} {mc ms : Nat} {ok : Prop} {B : State → Prop} {a : Int} {v : Int32} (hS : va_S A s.heap H locs) (hok : ok) (hB : ∀ t : State, t.heap = H → s.vm.Alike t.vm → B t) (hdg : decode cc pc = .ok (.ireturn, 1)) (h01 : a = 0 ∨ a = 1) (hv : ii a = v) (hc : cells ≤ mc) (hs : slots ≤ ms) : W p l e R s m args below meth c H locs cells slots (vx_MQ below (QcM (some (.int v)) ok B A) XC args s mc ms A) (F0 m pc ls [.int (ii a)]) := by
  subst hv
  exact vx_ret (W.widen hc hs (W.zret C.1 C.2.1 hr (by rcases h01 with rfl | rfl <;> decide +kernel) (fun t ht hW => ⟨rfl, hok, hB t ht hW.alike, hS.F ht⟩) hS.2.2 hdg hk))
theorem py_l (C : Cx p m c cc nL s args own) (hr : meth.sig.returnType = some .long) (hk : meth.locks = false) {XC : String → State → State → Prop} {mc ms : Nat} {ok : Prop} {B : State → Prop} {x v : Int64} (hS : va_S A s.heap H locs) (hok : ok) (hB : ∀ t : State, t.heap = H → s.vm.Alike t.vm → B t) (hdg : decode cc pc = .ok (.lreturn, 1)) (hv : x = v) (hc : cells ≤ mc) (hs : slots ≤ ms) : W p l e R s m args below meth c H locs cells slots (vx_MQ below (QcM (some (.long v)) ok B A) XC args s mc ms A) (F0 m pc ls [.long x]) := by
  subst hv
  exact vx_ret (W.widen hc hs (W.lret C.1 C.2.1 hr (fun t ht hW => ⟨rfl, hok, hB t ht hW.alike, hS.F ht⟩) hS.2.2 hdg hk))
/-- thrown on out of a writer -/
theorem ox_M {Qc : Array Value → State → Outcome → State → Prop} {mc ms : Nat} {E0 : String} {why : String → Prop} {B : State → Prop} {H1 : Heap} {q9 : Addr} {ce : Cell} (hex : ∀ x ∈ c.exceptionTable.toList, False) (hk : meth.locks = false) (hcell : H1[q9]? = some ce) (hv : ce.vm = .none) (hcl : s.vm.findClass E0 = some ce.cls)
    (hwhy : why E0) (hS : va_S A s.heap H locs) (z1 : H.size ≤ H1.size) (z2 : ∀ q : Nat, q < H.size → H1[q]? = H[q]?) (hB : ∀ t : State, t.heap = H1 → s.vm.Alike t.vm → B t) (hc : cells ≤ mc) (hs : slots ≤ ms) : vx_W p l e R s m args below meth c H1 locs cells slots (vx_MQ below Qc (XcM why B A) args s mc ms A) (F0 m pc ls rest) q9 :=
  ox hex hk hcell hv hcl (fun t ht hvm => ⟨hwhy, hB t ht hvm, by rw [ht]; exact Nat.le_trans hS.1 z1, fun q h1 h2 => by rw [ht, z2 q (Nat.lt_of_lt_of_le h1 hS.1)]; exact hS.2.1 q h1 h2⟩) hS.2.2 hc hs
end WR
