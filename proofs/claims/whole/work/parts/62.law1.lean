/-! The law: what stands through its loop. -/
def LwC (p : Program) (l : Launch) (s : State) (m : MethodId) (c : Code) (b L : Nat) (xs : Nat → Int32) : Prop :=
  l.stackTraces = false ∧ Cx p m c code maxLocals s #[Value.ref b] RL ∧ Nw s ∧ Xc s ∧ Zs s.heap.size s s.heap ∧ va_X b L xs s s.heap ∧ b < s.heap.size ∧ L ≤ 4096
def LI (D : va_G) (z0 hx hr0 hq0 : Nat) (cI cQ : ClassId) (hm hX hY hR hO : Nat) (cX cY cR cO : ClassId) (ho : Nat) (cL : ClassId) (H : Heap) : Prop :=
  ∃ (n p a b gx gy : Nat) (sec dr th : Int) (ix tx ty : Nat → Nat) (kw mw : va_W) (f : Nat → Int64), KR hx hr0 hq0 cI cQ n p a b gx gy sec dr ix tx ty kw ∧ MR hm hX hY hR hO cX cY cR cO n sec dr th ix tx ty mw ∧ va_P D clX (KO ho cL f :: (kw ++ mw)) H ∧ va_D (AZ z0) (KO ho cL f :: (kw ++ mw))
theorem veb (tx ix : Nat → Nat) (n : Nat) (q z r s : Int) : veF tx ix n q z r s = 0 ∨ veF tx ix n q z r s = 1 := by
  unfold veF
  split
  · exact mfF_b _ _ _ _ _ _
  · exact Or.inl rfl
theorem vab (tx ty : Nat → Nat) (n : Nat) (k y z r s : Int) : vaF tx ty n k y z r s = 0 ∨ vaF tx ty n k y z r s = 1 := by
  unfold vaF
  split
  · exact mfF_b _ _ _ _ _ _
  · exact Or.inl rfl
theorem thS_b (n : Nat) (key : Int) (V : Option (Nat × Int)) : 0 ≤ thS n key V ∧ thS n key V ≤ 2 := by
  unfold thS
  repeat' split
  all_goals omega
theorem tbX_le {p a b : Int} {tx ty : Nat → Nat} (h : cvF p a b = 0) (hT : ∀ j, tx j ≤ 1020 ∧ ty j ≤ 1020) : ∀ j, tbX (fun j => (tpF p.toNat a.toNat (bxF p.toNat a.toNat b.toNat) (byF p.toNat a.toNat b.toNat) j).1) tx (coF p a b) j ≤ 1020 ∧ tbX (fun j => (tpF p.toNat a.toNat (bxF p.toNat a.toNat b.toNat) (byF p.toNat a.toNat b.toNat) j).2) ty (coF p a b) j ≤ 1020 := by
  obtain ⟨-, -, -, hk⟩ := tk_new ((tk_cv p a b).mpr h) tx ty
  have p5 := hk.p5
  intro j
  have q := tpF_b (p := p.toNat) (a := a.toNat) (x := bxF p.toNat a.toNat b.toNat) (y := byF p.toNat a.toNat b.toNat) (by omega) (bxF_b (by omega)) (byF_b (by omega)) j
  have := hT j
  unfold tbX
  split
  · have h1 : ((tpF p.toNat a.toNat (bxF p.toNat a.toNat b.toNat) (byF p.toNat a.toNat b.toNat) j).1) ≤ 1020 := by omega
    have h2 : ((tpF p.toNat a.toNat (bxF p.toNat a.toNat b.toNat) (byF p.toNat a.toNat b.toNat) j).2) ≤ 1020 := by omega
    exact ⟨h1, h2⟩
  · exact this
