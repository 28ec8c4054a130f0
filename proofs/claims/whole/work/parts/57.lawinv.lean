/-! The law: the class's world and the reference's, side by side. -/
abbrev KX (hx hr0 hq0 : Nat) (tk : Value) (sec dr : Int) : Nat × va_E := (hx, .inr (1, [.ref hr0, .ref hq0, tk, .int (ii sec), .int (ii dr)]))
abbrev KP (hr0 : Nat) (cI : ClassId) (P : Nat → Option (Nat × Nat)) : Nat × va_E := (hr0, .inl (cI, 4, .inl (fun j => ii (ecd (P j)))))
abbrev KQ (hq0 : Nat) (cQ : ClassId) (gq : Nat → Int32) : Nat × va_E := (hq0, .inl (cQ, 1021, .inl gq))
abbrev KC (hc p a b n : Nat) (G : Option (Nat × Nat)) : Nat × va_E := (hc, .inr (0, [.int (ii (p : Int)), .int (ii (a : Int)), .int (ii (b : Int)), .int (ii (n : Int)), .int (ii (ecd G))]))
abbrev KO (ho : Nat) (cL : ClassId) (f : Nat → Int64) : Nat × va_E := (ho, .inl (cL, 1, .inr (.inl f)))
/-- the class's world: no curve taken, or one -/
def KR (hx hr0 hq0 : Nat) (cI cQ : ClassId) (n p a b gx gy : Nat) (sec dr : Int) (ix tx ty : Nat → Nat) (kw : va_W) : Prop :=
  (n = 0 ∧ sec = 0 ∧ (∀ j, ix j = 0) ∧ ∃ gq, kw = [KX hx hr0 hq0 .null 0 dr, KP hr0 cI (fun _ => none), KQ hq0 cQ gq]) ∨
  (TK n p a b gx gy sec ix tx ty ∧ ∃ hc gq, kw = [KX hx hr0 hq0 (.ref hc) sec dr, KP hr0 cI (fun j => tbN p a gx gy (ix j)), KQ hq0 cQ gq, KC hc p a b n (some (gx, gy))])
section Kr
variable {hx hr0 hq0 : Nat} {cI cQ : ClassId} {n p a b gx gy : Nat} {sec dr : Int} {ix tx ty : Nat → Nat} {kw : va_W}
theorem KR.nle (h : KR hx hr0 hq0 cI cQ n p a b gx gy sec dr ix tx ty kw) : n ≤ 1100 := by
  rcases h with ⟨h, -⟩ | ⟨h, -⟩
  · omega
  · exact h.2.2.1
theorem KR.ixle (h : KR hx hr0 hq0 cI cQ n p a b gx gy sec dr ix tx ty kw) : ∀ j, ix j ≤ 1099 := by
  intro j
  rcases h with ⟨-, -, h, -⟩ | ⟨h, -⟩
  · have := h j
    omega
  · have := h.2.2.2.1 j
    have := h.2.2.1
    omega
theorem KR.secle (h : KR hx hr0 hq0 cI cQ n p a b gx gy sec dr ix tx ty kw) : 0 ≤ sec ∧ sec ≤ 1099 := by
  rcases h with ⟨-, h, -⟩ | ⟨h, -⟩
  · omega
  · have := h.2.2.2.2.1
    have := h.2.2.1
    omega
end Kr
abbrev MX (hX : Nat) (cX : ClassId) (tx : Nat → Nat) : Nat × va_E := (hX, .inl (cX, 1100, .inl (fun j => ii ((tx j : Nat) : Int))))
abbrev MI (hR : Nat) (cR : ClassId) (ix : Nat → Nat) : Nat × va_E := (hR, .inl (cR, 4, .inl (fun j => ii ((ix j : Nat) : Int))))
abbrev MG (hO : Nat) (cO : ClassId) (g : Nat → Int32) : Nat × va_E := (hO, .inl (cO, 1024, .inl g))
/-- the reference's world -/
def MR (hm hX hY hR hO : Nat) (cX cY cR cO : ClassId) (n : Nat) (sec dr th : Int) (ix tx ty : Nat → Nat) (mw : va_W) : Prop :=
  (∀ j, tx j ≤ 1020 ∧ ty j ≤ 1020) ∧ ∃ (p a b : Int) (sx sy dk dv : Int32) (g : Nat → Int32), mw = [(hm, .inr (2, MO p a b n sec dr th hX hY hR hO sx sy dk dv)), MX hX cX tx, MX hY cY ty, MI hR cR ix, MG hO cO g]
theorem nr_0 {r : Int} (h : okr r) : nrF r = 0 := nrF_0.mpr h
theorem nr_1 {r : Int} (h : ¬ okr r) : nrF r = 1 := (nrF_b r).resolve_left fun z => h (nrF_0.mp z)
theorem gd_1 (k2 k3 : Int) : gdF (zb 0) k2 k3 = 1 := rfl
theorem gd_2 {k2 k3 : Int} (h : k2 = 1) : gdF 0 k2 k3 = 2 := by
  rw [h]
  rfl
theorem gd_3 {k2 k3 : Int} (h : k2 = 0) (h3 : k3 = 1) : gdF 0 k2 k3 = 3 := by
  rw [h, h3]
  rfl
theorem gd_0 {k2 k3 : Int} (h : k2 = 0) (h3 : k3 = 0) : gdF 0 k2 k3 = 0 := by
  rw [h, h3]
  rfl
theorem gd_i (k : Int) (h : k = 1) : gdF k 0 0 = 1 := by
  rw [h]
  rfl
theorem or_1 {u v w : Int} (hu : u = 0 ∨ u = 1) (hv : v = 0 ∨ v = 1) (hw : w = 0 ∨ w = 1) (h : ¬ (u = 0 ∧ v = 0 ∧ w = 0)) : or3 u v w = 1 := (or3_b hu hv hw).resolve_left fun z => h (or3_0.mp z)
theorem and15 (x : Int32) : ∃ d : Nat, d < 16 ∧ x &&& ii 15 = ii (d : Int) := by
  refine ⟨(x &&& ii 15).toBitVec.toNat, ?_, ?_⟩
  · have e : (x &&& ii 15).toBitVec = x.toBitVec &&& 15#32 := by
      rw [Int32.toBitVec_and]
      rfl
    rw [e, BitVec.toNat_and]
    exact Nat.and_lt_two_pow _ (show 15 < 2 ^ 4 by decide)
  · have l : (x &&& ii 15).toBitVec.toNat < 16 := by
      have e : (x &&& ii 15).toBitVec = x.toBitVec &&& 15#32 := by
        rw [Int32.toBitVec_and]
        rfl
      rw [e, BitVec.toNat_and]
      exact Nat.and_lt_two_pow _ (show 15 < 2 ^ 4 by decide)
    generalize x &&& ii 15 = y at l
    apply Int32.toBitVec_inj.mp
    apply BitVec.eq_of_toNat_eq
    unfold ii
    rw [Int32.toBitVec_ofInt, BitVec.toNat_ofInt]
    have := y.toBitVec.isLt
    omega
