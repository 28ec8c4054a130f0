section
/-! The curve y*y = x*x*x + a*x + b over a commutative ring without zero divisors: chord and tangent in one relation of slopes, and what associativity rests on. -/
def ec_on {F : Type} [Lean.Grind.CommRing F] (a b x y : F) : Prop := y * y = x * x * x + a * x + b
/-- m is the slope of the chord, or of the tangent -/
def ec_sl {F : Type} [Lean.Grind.CommRing F] (a x1 y1 x2 y2 m : F) : Prop := m * (x2 - x1) = y2 - y1 ∧ m * (y1 + y2) = x1 * x1 + x1 * x2 + x2 * x2 + a
theorem ec_sl_a {F : Type} [Lean.Grind.CommRing F] {a x1 y1 x2 y2 m : F} (h : ec_sl a x1 y1 x2 y2 m) : y2 = y1 + m * (x2 - x1) ∧ a = m * (y1 + (y1 + m * (x2 - x1))) - x1 * x1 - x1 * x2 - x2 * x2 := by
  obtain ⟨h1, h2⟩ := h
  have e : y2 = y1 + m * (x2 - x1) := by rw [h1]; grind
  refine ⟨e, ?_⟩
  rw [← e, h2]
  grind
theorem ec_on_b {F : Type} [Lean.Grind.CommRing F] {a b x y : F} (h : ec_on a b x y) : b = y * y - x * x * x - a * x := by
  unfold ec_on at h
  rw [h]
  grind
theorem ec_sl_sym {F : Type} [Lean.Grind.CommRing F] {a x1 y1 x2 y2 m : F} (h : ec_sl a x1 y1 x2 y2 m) : ec_sl a x2 y2 x1 y1 m := by
  obtain ⟨h1, h2⟩ := h
  refine ⟨?_, ?_⟩
  · grind
  · grind
/-- of two points that aren't opposite there is one slope -/
theorem ec_sl_one {F : Type} [Lean.Grind.CommRing F] (dom : ∀ u v : F, u * v = 0 → u = 0 ∨ v = 0) {a x1 y1 x2 y2 m k : F} (hn : ¬ (x1 = x2 ∧ y1 + y2 = 0)) (h : ec_sl a x1 y1 x2 y2 m) (g : ec_sl a x1 y1 x2 y2 k) : m = k := by
  obtain ⟨h1, h2⟩ := h
  obtain ⟨g1, g2⟩ := g
  have e1 : (m - k) * (x2 - x1) = 0 := by grind
  have e2 : (m - k) * (y1 + y2) = 0 := by grind
  rcases dom _ _ e1 with z | z
  · grind
  · rcases dom _ _ e2 with w | w
    · grind
    · exact absurd ⟨by grind, w⟩ hn
/-- the cubic less the line's square -/
theorem ec_line {F : Type} [Lean.Grind.CommRing F] {a b x1 y1 x2 y2 m : F} (h : ec_sl a x1 y1 x2 y2 m) (o : ec_on a b x1 y1) (x : F) : x * x * x + a * x + b - (y1 + m * (x - x1)) * (y1 + m * (x - x1)) = (x - x1) * (x - x2) * (x - (m * m - x1 - x2)) := by
  obtain ⟨e1, e2⟩ := ec_sl_a h
  have e3 := ec_on_b o
  rw [e3, e2]
  grind
/-- a secant of that difference -/
theorem ec_sec {F : Type} [Lean.Grind.CommRing F] {a x1 y1 x2 y2 m : F} (h : ec_sl a x1 y1 x2 y2 m) (x u : F) : x * x + x * u + u * u + a - m * ((y1 + m * (x - x1)) + (y1 + m * (u - x1))) = x * x + x * u + u * u - m * m * (x + u) + (x1 * x2 + (x1 + x2) * (m * m - x1 - x2)) := by
  obtain ⟨e1, e2⟩ := ec_sl_a h
  rw [e2]
  grind
/-- the sum lies on the curve -/
theorem ec_sum_on {F : Type} [Lean.Grind.CommRing F] {a b x1 y1 x2 y2 m : F} (h : ec_sl a x1 y1 x2 y2 m) (o : ec_on a b x1 y1) : ec_on a b (m * m - x1 - x2) (m * (x1 - (m * m - x1 - x2)) - y1) := by
  have e := ec_line h o (m * m - x1 - x2)
  unfold ec_on
  grind
/-- the other point's line is the same -/
theorem ec_sum_y {F : Type} [Lean.Grind.CommRing F] {a x1 y1 x2 y2 m : F} (h : ec_sl a x1 y1 x2 y2 m) (x : F) : m * (x1 - x) - y1 = m * (x2 - x) - y2 := by
  obtain ⟨h1, h2⟩ := h
  grind
/-- (P + Q) - Q: the slope is the first one's negative -/
theorem ec_back_sl {F : Type} [Lean.Grind.CommRing F] {a x1 y1 x2 y2 m : F} (h : ec_sl a x1 y1 x2 y2 m) : ec_sl a (m * m - x1 - x2) (m * (x1 - (m * m - x1 - x2)) - y1) x2 (-y2) (-m) := by
  obtain ⟨e1, e2⟩ := ec_sl_a h
  refine ⟨?_, ?_⟩
  · rw [e1]; grind
  · rw [e1, e2]; grind
theorem ec_back_x {F : Type} [Lean.Grind.CommRing F] {x1 x2 m : F} : (-m) * (-m) - (m * m - x1 - x2) - x2 = x1 := by grind
theorem ec_back_y {F : Type} [Lean.Grind.CommRing F] {x1 y1 x2 m : F} : (-m) * ((m * m - x1 - x2) - x1) - (m * (x1 - (m * m - x1 - x2)) - y1) = y1 := by grind
theorem ec_c1 {F : Type} [Lean.Grind.CommRing F] {v s w : F} (hv : v * s = 1) : v * w * s = w := by grind
theorem ec_c2 {F : Type} [Lean.Grind.CommRing F] {v s t w q : F} (hv : v * s = 1) (K : t * s = q * w) : v * w * q = t := by
  have e : v * w * q = v * (q * w) := by grind
  rw [e, ← K]
  grind
theorem ec_c3 {F : Type} [Lean.Grind.CommRing F] {v s t w q : F} (hv : v * q = 1) (K : t * s = q * w) : v * t * s = w := by
  have e : v * t * s = v * (t * s) := by grind
  rw [e, K]
  grind
theorem ec_c4 {F : Type} [Lean.Grind.CommRing F] {y l q w : F} (e : y * y - l * l = q * w) : (y - l) * (y + l) = q * w := by rw [← e]; grind
theorem ec_c5 {F : Type} [Lean.Grind.CommRing F] {x u : F} (w : x - u = 0) : u = x := by grind
theorem ec_c6 {F : Type} [Lean.Grind.CommRing F] {x u y1 y3 m l : F} (w : x - u = 0) (hl : y1 + m * (x - u) = l) (z : y3 + l = 0) : y1 + y3 = 0 := by
  rw [w] at hl
  grind
theorem ec_c7 {F : Type} [Lean.Grind.CommRing F] {x1 x2 x3 y1 y2 y3 m l : F} (w : x3 - x2 = 0) (e : y2 = y1 + m * (x2 - x1)) (hl : y1 + m * (x3 - x1) = l) (z : y3 + l = 0) : y2 + y3 = 0 := by
  have h : x2 = x3 := ec_c5 w
  rw [← h, ← e] at hl
  grind
/-- what the third point's number is: the second divided difference, by one of two rows -/
theorem ec_three {F : Type} [Lean.Grind.CommRing F] (dom : ∀ u v : F, u * v = 0 → u = 0 ∨ v = 0) (hinv : ∀ u : F, u ≠ 0 → ∃ v, v * u = 1) {a b x1 y1 x2 y2 x3 y3 m : F} (h : ec_sl a x1 y1 x2 y2 m) (o1 : ec_on a b x1 y1) (o3 : ec_on a b x3 y3)
    (n13 : ¬ (x1 = x3 ∧ y1 + y3 = 0)) (n23 : ¬ (x2 = x3 ∧ y2 + y3 = 0)) : ∃ k : F, k * ((x3 - x1) * (x3 - x2)) = y3 - (y1 + m * (x3 - x1)) ∧ k * (y3 + (y1 + m * (x3 - x1))) = x3 - (m * m - x1 - x2) := by
  have e := ec_line h o1 x3
  unfold ec_on at o3
  obtain ⟨e1, e2⟩ := ec_sl_a h
  rw [← o3] at e
  generalize hl : y1 + m * (x3 - x1) = l3 at e ⊢
  generalize hq : (x3 - x1) * (x3 - x2) = q3 at e ⊢
  generalize hx : m * m - x1 - x2 = x' at e ⊢
  have K : (y3 - l3) * (y3 + l3) = q3 * (x3 - x') := ec_c4 e
  by_cases q0 : q3 = 0
  · have hs : y3 + l3 ≠ 0 := by
      intro z
      rw [q0] at hq
      rcases dom _ _ hq with w | w
      · exact n13 ⟨ec_c5 w, ec_c6 w hl z⟩
      · exact n23 ⟨ec_c5 w, ec_c7 w e1 hl z⟩
    obtain ⟨v, hv⟩ := hinv _ hs
    exact ⟨v * (x3 - x'), ec_c2 hv K, ec_c1 hv⟩
  · obtain ⟨v, hv⟩ := hinv _ q0
    exact ⟨v * (y3 - l3), ec_c1 hv, ec_c3 hv K⟩
/-- the second and the third point change places: the slope .. -/
theorem ec_swap_sl {F : Type} [Lean.Grind.CommRing F] {a x1 y1 x2 y2 x3 y3 m k : F} (h : ec_sl a x1 y1 x2 y2 m) (k1 : k * ((x3 - x1) * (x3 - x2)) = y3 - (y1 + m * (x3 - x1))) (k2 : k * (y3 + (y1 + m * (x3 - x1))) = x3 - (m * m - x1 - x2)) :
    ec_sl a x1 y1 x3 y3 (m + k * (x3 - x2)) := by
  obtain ⟨e1, e2⟩ := ec_sl_a h
  have e3 : y3 = y1 + m * (x3 - x1) + k * ((x3 - x1) * (x3 - x2)) := by rw [k1]; grind
  refine ⟨?_, ?_⟩
  · rw [e3]; grind
  · have k3 : (x3 - x2) * (k * (y3 + (y1 + m * (x3 - x1)))) = (x3 - x2) * (x3 - (m * m - x1 - x2)) := by rw [k2]
    rw [e2]
    rw [e3] at k3 ⊢
    grind
/-- .. and the number stays -/
theorem ec_swap_k1 {F : Type} [Lean.Grind.CommRing F] {a x1 y1 x2 y2 x3 m k : F} (h : ec_sl a x1 y1 x2 y2 m) :
    k * ((x2 - x1) * (x2 - x3)) = y2 - (y1 + (m + k * (x3 - x2)) * (x2 - x1)) := by
  obtain ⟨e1, e2⟩ := ec_sl_a h
  rw [e1]; grind
theorem ec_swap_k2 {F : Type} [Lean.Grind.CommRing F] {a x1 y1 x2 y2 x3 y3 m k : F} (h : ec_sl a x1 y1 x2 y2 m) (k1 : k * ((x3 - x1) * (x3 - x2)) = y3 - (y1 + m * (x3 - x1))) (k2 : k * (y3 + (y1 + m * (x3 - x1))) = x3 - (m * m - x1 - x2)) :
    k * (y2 + (y1 + (m + k * (x3 - x2)) * (x2 - x1))) = x2 - ((m + k * (x3 - x2)) * (m + k * (x3 - x2)) - x1 - x3) := by
  obtain ⟨e1, e2⟩ := ec_sl_a h
  have e3 : y3 = y1 + m * (x3 - x1) + k * ((x3 - x1) * (x3 - x2)) := by rw [k1]; grind
  rw [e1]
  rw [e3] at k2
  grind
theorem ec_c8a {F : Type} [Lean.Grind.CommRing F] {a x1 x2 x3 M w X : F} (s : x3 * x3 + x3 * X + X * X + a - w = x3 * x3 + x3 * X + X * X - M * (x3 + X) + (x1 * x2 + (x1 + x2) * X)) (hX : M = X + x1 + x2) :
    X * X + X * x3 + x3 * x3 + a = w + (x3 - x1) * (x3 - x2) := by
  subst hX
  grind
theorem ec_c8b {F : Type} [Lean.Grind.CommRing F] {x1 y1 y3 l3 m r u X : F} (e : r * (y3 - l3) + m * u = r * (m * (x1 - X) - y1 + y3)) (hu : u = y3 + l3) :
    (r - m) * (m * (x1 - X) - y1 + y3) = m * (l3 + (y1 + m * (X - x1))) + r * (y3 - l3) := by
  subst hu
  have : (r - m) * (m * (x1 - X) - y1 + y3) = r * (m * (x1 - X) - y1 + y3) - m * (m * (x1 - X) - y1 + y3) := by grind
  rw [this, ← e]
  grind
theorem ec_c8 {F : Type} [Lean.Grind.CommRing F] {a x1 y1 x2 x3 y3 m r X : F} (s : x3 * x3 + x3 * X + X * X + a - m * ((y1 + m * (x3 - x1)) + (y1 + m * (X - x1))) = x3 * x3 + x3 * X + X * X - m * m * (x3 + X) + (x1 * x2 + (x1 + x2) * X)) (r1 : (x3 - x1) * (x3 - x2) = r * (y3 - (y1 + m * (x3 - x1)))) (r2 : y3 + (y1 + m * (x3 - x1)) = r * (x3 - X)) (hX : m * m = X + x1 + x2) :
    (r - m) * (m * (x1 - X) - y1 + y3) = X * X + X * x3 + x3 * x3 + a := by
  rw [ec_c8a s hX, r1]
  refine ec_c8b (u := r * (x3 - X)) ?_ r2.symm
  clear s r1 r2 hX
  grind
/-- the slope of the second chord -/
theorem ec_third_sl {F : Type} [Lean.Grind.CommRing F] {a x1 y1 x2 y2 x3 y3 m k r : F} (h : ec_sl a x1 y1 x2 y2 m) (k1 : k * ((x3 - x1) * (x3 - x2)) = y3 - (y1 + m * (x3 - x1))) (k2 : k * (y3 + (y1 + m * (x3 - x1))) = x3 - (m * m - x1 - x2)) (hr : r * k = 1) :
    ec_sl a (m * m - x1 - x2) (m * (x1 - (m * m - x1 - x2)) - y1) x3 y3 (r - m) := by
  obtain ⟨e1, e2⟩ := ec_sl_a h
  have r1 : (x3 - x1) * (x3 - x2) = r * (y3 - (y1 + m * (x3 - x1))) := by rw [← k1]; grind
  have r2 : y3 + (y1 + m * (x3 - x1)) = r * (x3 - (m * m - x1 - x2)) := by rw [← k2]; grind
  refine ⟨?_, ?_⟩
  · grind
  · have s := ec_sec h x3 (m * m - x1 - x2)
    exact ec_c8 s r1 r2 (by grind)
theorem ec_third_x {F : Type} [Lean.Grind.CommRing F] {x1 x2 x3 m k r : F} (hr : r * k = 1) :
    (r - m) * (r - m) - (m * m - x1 - x2) - x3 = (r - (m + k * (x3 - x2))) * (r - (m + k * (x3 - x2))) - ((m + k * (x3 - x2)) * (m + k * (x3 - x2)) - x1 - x3) - x2 := by
  have e : r * (k * (x3 - x2)) = x3 - x2 := by grind
  grind
theorem ec_third_y {F : Type} [Lean.Grind.CommRing F] {a x1 y1 x2 y2 x3 y3 m k r X : F} (h : ec_sl a x1 y1 x2 y2 m) (k1 : k * ((x3 - x1) * (x3 - x2)) = y3 - (y1 + m * (x3 - x1))) (hr : r * k = 1) (hX : X = (r - m) * (r - m) - (m * m - x1 - x2) - x3) :
    (r - m) * (x3 - X) - y3 = (r - (m + k * (x3 - x2))) * (x2 - X) - y2 := by
  obtain ⟨e1, e2⟩ := ec_sl_a h
  have e3 : y3 = y1 + m * (x3 - x1) + k * ((x3 - x1) * (x3 - x2)) := by rw [k1]; grind
  have e4 : k * X = k * ((r - m) * (r - m) - (m * m - x1 - x2) - x3) := by rw [hX]
  have e5 : k * X = r - (m + m) + k * (x1 + x2 - x3) := by
    have : k * (r * r) = r := by grind
    have : k * (r * m) = m := by grind
    grind
  rw [e1, e3]
  have e6 : k * (x3 - x2) * (x2 - X) = (x3 - x2) * (k * x2 - k * X) := by grind
  have e7 : (r - (m + k * (x3 - x2))) * (x2 - X) = (r - m) * (x2 - X) - k * (x3 - x2) * (x2 - X) := by grind
  rw [e7, e6, e5]
  grind
/-- a point that is its own opposite, where the tangent is no chord: the curve is singular -/
theorem ec_sing {F : Type} [Lean.Grind.CommRing F] {a b x : F} (o : x * x * x + a * x + b = 0) (d : x * x + x * x + x * x + a = 0) : (1 + 1 + 1 + 1) * (a * a * a) + (1 + 1 + 1) * (1 + 1 + 1) * (1 + 1 + 1) * (b * b) = 0 := by
  have e : a = -(x * x + x * x + x * x) := by grind
  have e2 : b = -(x * x * x) - a * x := by grind
  rw [e2, e]
  grind
end
section
/-! The points of the curve, none being the one at infinity: an abelian group. -/
def ec_P {F : Type} [Lean.Grind.CommRing F] (a b : F) (P : Option (F × F)) : Prop := ∀ q, P = some q → ec_on a b q.1 q.2
def ec_op {F : Type} [Lean.Grind.CommRing F] (P Q : F × F) : Prop := P.1 = Q.1 ∧ P.2 + Q.2 = 0
def ec_at {F : Type} [Lean.Grind.CommRing F] (P Q : F × F) (m : F) : F × F := (m * m - P.1 - Q.1, m * (P.1 - (m * m - P.1 - Q.1)) - P.2)
def ec_m {F : Type} [Lean.Grind.CommRing F] [DecidableEq F] (iv : F → F) (a : F) (P Q : F × F) : F := if P.1 = Q.1 then (P.1 * P.1 + P.1 * Q.1 + Q.1 * Q.1 + a) * iv (P.2 + Q.2) else (Q.2 - P.2) * iv (Q.1 - P.1)
def ec_add {F : Type} [Lean.Grind.CommRing F] [DecidableEq F] (iv : F → F) (a : F) (P Q : Option (F × F)) : Option (F × F) :=
  match P, Q with
  | none, Q => Q
  | some P, none => some P
  | some P, some Q => if P.1 = Q.1 ∧ P.2 + Q.2 = 0 then none else some (ec_at P Q (ec_m iv a P Q))
def ec_neg {F : Type} [Lean.Grind.CommRing F] (P : Option (F × F)) : Option (F × F) :=
  match P with
  | none => none
  | some q => some (q.1, -q.2)
/-- what the theory asks of the field and of the curve -/
def ec_F {F : Type} [Lean.Grind.CommRing F] (iv : F → F) (a b : F) : Prop := (∀ u v : F, u * v = 0 → u = 0 ∨ v = 0) ∧ (∀ u : F, u ≠ 0 → u * iv u = 1) ∧ (∀ u : F, u + u = 0 → u = 0) ∧ (∀ x : F, x * x * x + a * x + b = 0 → x * x + x * x + x * x + a = 0 → False)
theorem ec_add_none_l {F : Type} [Lean.Grind.CommRing F] [DecidableEq F] (iv : F → F) (a : F) (Q : Option (F × F)) : ec_add iv a none Q = Q := by
  cases Q <;> rfl
theorem ec_add_none_r {F : Type} [Lean.Grind.CommRing F] [DecidableEq F] (iv : F → F) (a : F) (Q : Option (F × F)) : ec_add iv a Q none = Q := by
  cases Q <;> rfl
theorem ec_add_op {F : Type} [Lean.Grind.CommRing F] [DecidableEq F] (iv : F → F) (a : F) {P Q : F × F} (h : P.1 = Q.1 ∧ P.2 + Q.2 = 0) : ec_add iv a (some P) (some Q) = none := by
  show (if P.1 = Q.1 ∧ P.2 + Q.2 = 0 then none else some (ec_at P Q (ec_m iv a P Q))) = none
  rw [if_pos h]
theorem ec_add_no {F : Type} [Lean.Grind.CommRing F] [DecidableEq F] (iv : F → F) (a : F) {P Q : F × F} (h : ¬ (P.1 = Q.1 ∧ P.2 + Q.2 = 0)) : ec_add iv a (some P) (some Q) = some (ec_at P Q (ec_m iv a P Q)) := by
  show (if P.1 = Q.1 ∧ P.2 + Q.2 = 0 then none else some (ec_at P Q (ec_m iv a P Q))) = _
  rw [if_neg h]
theorem ec_m_sl {F : Type} [Lean.Grind.CommRing F] [DecidableEq F] {iv : F → F} {a b : F} (hF : ec_F iv a b) {P Q : F × F} (oP : ec_on a b P.1 P.2) (oQ : ec_on a b Q.1 Q.2) (h : ¬ (P.1 = Q.1 ∧ P.2 + Q.2 = 0)) : ec_sl a P.1 P.2 Q.1 Q.2 (ec_m iv a P Q) := by
  obtain ⟨dom, hiv, h2, hs⟩ := hF
  obtain ⟨x1, y1⟩ := P
  obtain ⟨x2, y2⟩ := Q
  simp only at oP oQ h ⊢
  unfold ec_on at oP oQ
  unfold ec_m
  by_cases hx : x1 = x2
  · have hy : y1 + y2 ≠ 0 := fun z => h ⟨hx, z⟩
    have e := hiv _ hy
    simp only [if_pos hx]
    subst hx
    have e0 : (y1 - y2) * (y1 + y2) = 0 := by grind
    have e1 : y1 = y2 := by
      rcases dom _ _ e0 with z | z
      · grind
      · exact absurd z hy
    refine ⟨?_, ?_⟩
    · grind
    · generalize iv (y1 + y2) = v at e ⊢
      grind
  · have hd : x2 - x1 ≠ 0 := fun z => hx (by grind)
    have e := hiv _ hd
    simp only [if_neg hx]
    generalize iv (x2 - x1) = v at e ⊢
    have s1 : (y2 - y1) * v * (x2 - x1) = y2 - y1 := by grind
    refine ⟨s1, ?_⟩
    generalize (y2 - y1) * v = m at s1 ⊢
    have e3 : (x2 - x1) * (m * (y1 + y2) - (x1 * x1 + x1 * x2 + x2 * x2 + a)) = 0 := by
      have : (x2 - x1) * (m * (y1 + y2)) = (m * (x2 - x1)) * (y1 + y2) := by grind
      have : (x2 - x1) * (m * (y1 + y2)) = (y2 - y1) * (y1 + y2) := by rw [this, s1]
      grind
    rcases dom _ _ e3 with z | z
    · exact absurd z hd
    · grind
theorem ec_add_of {F : Type} [Lean.Grind.CommRing F] [DecidableEq F] {iv : F → F} {a b : F} (hF : ec_F iv a b) {P Q : F × F} (oP : ec_on a b P.1 P.2) (oQ : ec_on a b Q.1 Q.2) (h : ¬ (P.1 = Q.1 ∧ P.2 + Q.2 = 0)) {m : F} (hm : ec_sl a P.1 P.2 Q.1 Q.2 m) : ec_add iv a (some P) (some Q) = some (ec_at P Q m) := by
  rw [ec_add_no iv a h, ec_sl_one hF.1 h (ec_m_sl hF oP oQ h) hm]
theorem ec_at_on {F : Type} [Lean.Grind.CommRing F] {a b : F} {P Q : F × F} (oP : ec_on a b P.1 P.2) {m : F} (hm : ec_sl a P.1 P.2 Q.1 Q.2 m) : ec_on a b (ec_at P Q m).1 (ec_at P Q m).2 := ec_sum_on hm oP
theorem ec_P_none {F : Type} [Lean.Grind.CommRing F] (a b : F) : ec_P a b none := fun q h => by cases h
theorem ec_P_some {F : Type} [Lean.Grind.CommRing F] {a b : F} {q : F × F} (h : ec_on a b q.1 q.2) : ec_P a b (some q) := fun q' e => by cases e; exact h
theorem ec_P_neg {F : Type} [Lean.Grind.CommRing F] {a b : F} {P : Option (F × F)} (h : ec_P a b P) : ec_P a b (ec_neg P) := by
  cases P with
  | none => exact ec_P_none a b
  | some q =>
    have o := h q rfl
    refine ec_P_some (q := (q.1, -q.2)) ?_
    unfold ec_on at o ⊢
    simp only
    grind
theorem ec_P_add {F : Type} [Lean.Grind.CommRing F] [DecidableEq F] {iv : F → F} {a b : F} (hF : ec_F iv a b) {P Q : Option (F × F)} (hP : ec_P a b P) (hQ : ec_P a b Q) : ec_P a b (ec_add iv a P Q) := by
  cases P with
  | none => rw [ec_add_none_l]; exact hQ
  | some P =>
    cases Q with
    | none => exact hP
    | some Q =>
      by_cases h : P.1 = Q.1 ∧ P.2 + Q.2 = 0
      · rw [ec_add_op iv a h]; exact ec_P_none a b
      · rw [ec_add_no iv a h]
        exact ec_P_some (ec_at_on (hP P rfl) (ec_m_sl hF (hP P rfl) (hQ Q rfl) h))
theorem ec_comm {F : Type} [Lean.Grind.CommRing F] [DecidableEq F] {iv : F → F} {a b : F} (hF : ec_F iv a b) {P Q : Option (F × F)} (hP : ec_P a b P) (hQ : ec_P a b Q) : ec_add iv a P Q = ec_add iv a Q P := by
  cases P with
  | none => rw [ec_add_none_l, ec_add_none_r]
  | some P =>
    cases Q with
    | none => rw [ec_add_none_l, ec_add_none_r]
    | some Q =>
      by_cases h : P.1 = Q.1 ∧ P.2 + Q.2 = 0
      · rw [ec_add_op iv a h, ec_add_op iv a (P := Q) (Q := P) ⟨h.1.symm, by have := h.2; grind⟩]
      · have h' : ¬ (Q.1 = P.1 ∧ Q.2 + P.2 = 0) := fun z => h ⟨z.1.symm, by have := z.2; grind⟩
        have hm := ec_m_sl hF (hP P rfl) (hQ Q rfl) h
        rw [ec_add_no iv a h, ec_add_of hF (hQ Q rfl) (hP P rfl) h' (ec_sl_sym hm)]
        generalize ec_m iv a P Q = m at hm ⊢
        unfold ec_at
        have e1 : m * m - P.1 - Q.1 = m * m - Q.1 - P.1 := by grind
        rw [← e1, ec_sum_y hm]
theorem ec_back {F : Type} [Lean.Grind.CommRing F] [DecidableEq F] {iv : F → F} {a b : F} (hF : ec_F iv a b) {P Q : Option (F × F)} (hP : ec_P a b P) (hQ : ec_P a b Q) : ec_add iv a (ec_add iv a P Q) (ec_neg Q) = P := by
  cases Q with
  | none => rw [ec_add_none_r]; exact ec_add_none_r iv a P
  | some Q =>
    cases P with
    | none =>
      rw [ec_add_none_l]
      exact ec_add_op iv a (P := Q) (Q := (Q.1, -Q.2)) ⟨rfl, by simp only; grind⟩
    | some P =>
      by_cases h : P.1 = Q.1 ∧ P.2 + Q.2 = 0
      · rw [ec_add_op iv a h, ec_add_none_l]
        obtain ⟨x1, y1⟩ := P
        obtain ⟨x2, y2⟩ := Q
        simp only at h
        show some (x2, -y2) = some (x1, y1)
        have e : -y2 = y1 := by have := h.2; grind
        rw [h.1, e]
      · have hm := ec_m_sl hF (hP P rfl) (hQ Q rfl) h
        rw [ec_add_no iv a h]
        generalize ec_m iv a P Q = m at hm ⊢
        have oS := ec_at_on (hP P rfl) hm
        have oQ := ec_P_neg hQ (Q.1, -Q.2) rfl
        have hb := ec_back_sl hm
        have hn : ¬ ((ec_at P Q m).1 = (Q.1, -Q.2).1 ∧ (ec_at P Q m).2 + (Q.1, -Q.2).2 = 0) := by
          intro z
          obtain ⟨z1, z2⟩ := z
          have y := ec_sum_y hm (ec_at P Q m).1
          have q := hQ Q rfl
          obtain ⟨b1, b2⟩ := hb
          obtain ⟨dom, hiv, h2, hs⟩ := hF
          unfold ec_on at q
          unfold ec_at at z1 z2 y
          simp only at z1 z2 y b1 b2
          rw [z2] at b2
          rw [z1] at b2 y z2
          have y0 : Q.2 + Q.2 = 0 := by grind
          have y1 := h2 _ y0
          rw [y1] at q
          exact hs Q.1 (by grind) (by grind)
        show ec_add iv a (some (ec_at P Q m)) (some (Q.1, -Q.2)) = some P
        rw [ec_add_of hF oS oQ hn hb]
        unfold ec_at
        simp only
        rw [ec_back_x, ec_back_y]
theorem ec_nop {F : Type} [Lean.Grind.CommRing F] (dom : ∀ u v : F, u * v = 0 → u = 0 ∨ v = 0) (h2 : ∀ u : F, u + u = 0 → u = 0) {a x1 y1 x2 y2 x3 y3 m k : F} (h : ec_sl a x1 y1 x2 y2 m) (k1 : k * ((x3 - x1) * (x3 - x2)) = y3 - (y1 + m * (x3 - x1))) (k2 : k * (y3 + (y1 + m * (x3 - x1))) = x3 - (m * m - x1 - x2)) (k0 : k ≠ 0)
    (n13 : ¬ (x1 = x3 ∧ y1 + y3 = 0)) (n23 : ¬ (x2 = x3 ∧ y2 + y3 = 0)) : ¬ (m * m - x1 - x2 = x3 ∧ m * (x1 - (m * m - x1 - x2)) - y1 + y3 = 0) := by
  intro z
  obtain ⟨z1, z2⟩ := z
  obtain ⟨e1, e2⟩ := ec_sl_a h
  rw [z1] at z2 k2
  have l0 : y3 - (y1 + m * (x3 - x1)) = 0 := by grind
  have l1 : k * (y3 + (y1 + m * (x3 - x1))) = 0 := by rw [k2]; grind
  have l2 : y3 + (y1 + m * (x3 - x1)) = 0 := (dom _ _ l1).resolve_left k0
  have l3 : y3 = 0 := h2 _ (by grind)
  rw [l0] at k1
  rcases dom _ _ ((dom _ _ k1).resolve_left k0) with w | w
  · exact n13 ⟨by grind, by grind⟩
  · exact n23 ⟨by grind, by grind⟩
theorem ec_swap {F : Type} [Lean.Grind.CommRing F] [DecidableEq F] {iv : F → F} {a b : F} (hF : ec_F iv a b) {P Q R : Option (F × F)} (hP : ec_P a b P) (hQ : ec_P a b Q) (hR : ec_P a b R) : ec_add iv a (ec_add iv a P Q) R = ec_add iv a (ec_add iv a P R) Q := by
  cases P with
  | none => rw [ec_add_none_l, ec_add_none_l, ec_comm hF hQ hR]
  | some P =>
    cases Q with
    | none => rw [ec_add_none_r, ec_add_none_r]
    | some Q =>
      cases R with
      | none => rw [ec_add_none_r, ec_add_none_r]
      | some R =>
        by_cases n12 : P.1 = Q.1 ∧ P.2 + Q.2 = 0
        · have e : some Q = ec_neg (some P) := by
            obtain ⟨x1, y1⟩ := P
            obtain ⟨x2, y2⟩ := Q
            simp only at n12
            show some (x2, y2) = some (x1, -y1)
            have : y2 = -y1 := by have := n12.2; grind
            rw [n12.1, this]
          rw [ec_add_op iv a n12, ec_add_none_l, ec_comm hF hP hR, e, ec_back hF hR hP]
        · by_cases n13 : P.1 = R.1 ∧ P.2 + R.2 = 0
          · have e : some R = ec_neg (some P) := by
              obtain ⟨x1, y1⟩ := P
              obtain ⟨x2, y2⟩ := R
              simp only at n13
              show some (x2, y2) = some (x1, -y1)
              have : y2 = -y1 := by have := n13.2; grind
              rw [n13.1, this]
            rw [ec_add_op iv a n13, ec_add_none_l, ec_comm hF hP hQ, e, ec_back hF hQ hP]
          · by_cases n23 : Q.1 = R.1 ∧ Q.2 + R.2 = 0
            · have e : some R = ec_neg (some Q) := by
                obtain ⟨x1, y1⟩ := Q
                obtain ⟨x2, y2⟩ := R
                simp only at n23
                show some (x2, y2) = some (x1, -y1)
                have : y2 = -y1 := by have := n23.2; grind
                rw [n23.1, this]
              have e' : some Q = ec_neg (some R) := by
                obtain ⟨x1, y1⟩ := Q
                obtain ⟨x2, y2⟩ := R
                simp only at n23
                show some (x1, y1) = some (x2, -y2)
                have : y1 = -y2 := by have := n23.2; grind
                rw [n23.1, this]
              have r1 := ec_back hF hP hQ
              have r2 := ec_back hF hP hR
              rw [← e] at r1
              rw [← e'] at r2
              rw [r1, r2]
            · have oP := hP P rfl
              have oQ := hQ Q rfl
              have oR := hR R rfl
              have hm := ec_m_sl hF oP oQ n12
              rw [ec_add_no iv a n12]
              generalize ec_m iv a P Q = m at hm ⊢
              obtain ⟨dom, hiv, h2, hs⟩ := id hF
              obtain ⟨k, k1, k2⟩ := ec_three dom (fun u hu => ⟨iv u, by rw [← hiv u hu]; grind⟩) hm oP oR n13 n23
              have sm := ec_swap_sl hm k1 k2
              have s1 := ec_swap_k1 (x3 := R.1) (k := k) hm
              have s2 := ec_swap_k2 hm k1 k2
              rw [ec_add_of hF oP oR n13 sm]
              have n32 : ¬ (R.1 = Q.1 ∧ R.2 + Q.2 = 0) := fun z => n23 ⟨z.1.symm, by have := z.2; grind⟩
              have oS := ec_at_on oP hm
              have oT := ec_at_on (Q := R) oP sm
              by_cases k0 : k = 0
              · subst k0
                rw [ec_add_op iv a (P := ec_at P Q m) (Q := R), ec_add_op iv a (P := ec_at P R (m + 0 * (R.1 - Q.1))) (Q := Q)]
                · unfold ec_at
                  simp only
                  obtain ⟨e1, e2⟩ := ec_sl_a hm
                  refine ⟨?_, ?_⟩
                  · grind
                  · grind
                · unfold ec_at
                  simp only
                  refine ⟨?_, ?_⟩
                  · grind
                  · grind
              · have hr : iv k * k = 1 := by rw [← hiv k k0]; grind
                generalize iv k = r at hr
                have nS := ec_nop dom h2 hm k1 k2 k0 n13 n23
                have nT := ec_nop dom h2 sm s1 s2 k0 n12 n32
                have tS := ec_third_sl hm k1 k2 hr
                have tT := ec_third_sl sm s1 s2 hr
                rw [ec_add_of hF (P := ec_at P Q m) (Q := R) oS oR nS tS, ec_add_of hF (P := ec_at P R (m + k * (R.1 - Q.1))) (Q := Q) oT oQ nT tT]
                have yS := ec_sum_y tS
                have yT := ec_sum_y tT
                have ex := ec_third_x (x1 := P.1) (x2 := Q.1) (x3 := R.1) (m := m) hr
                have ey := ec_third_y hm k1 hr (X := (r - m) * (r - m) - (m * m - P.1 - Q.1) - R.1) rfl
                unfold ec_at
                simp only
                rw [yS, yT, ← ex, ey]
theorem ec_assoc {F : Type} [Lean.Grind.CommRing F] [DecidableEq F] {iv : F → F} {a b : F} (hF : ec_F iv a b) {P Q R : Option (F × F)} (hP : ec_P a b P) (hQ : ec_P a b Q) (hR : ec_P a b R) : ec_add iv a (ec_add iv a P Q) R = ec_add iv a P (ec_add iv a Q R) := by
  rw [ec_comm hF hP (ec_P_add hF hQ hR), ec_comm hF hP hQ, ec_swap hF hQ hP hR]
theorem ec_neg_r {F : Type} [Lean.Grind.CommRing F] [DecidableEq F] {iv : F → F} {a b : F} (hF : ec_F iv a b) {P : Option (F × F)} (hP : ec_P a b P) : ec_add iv a P (ec_neg P) = none := by
  have h := ec_back hF (ec_P_none a b) hP
  rwa [ec_add_none_l] at h
end
section
/-! Finite abelian groups as lists; primes by trial division; Fermat. -/
def gp_pow {α : Type} (op : α → α → α) (e g : α) : Nat → α
  | 0 => e
  | k + 1 => op (gp_pow op e g k) g
def gp_ok {α : Type} (S : α → Prop) (op : α → α → α) (e : α) : Prop := S e ∧ (∀ x y, S x → S y → S (op x y)) ∧ (∀ x y, S x → S y → op x y = op y x) ∧ (∀ x y z, S x → S y → S z → op (op x y) z = op x (op y z)) ∧ (∀ x, S x → op e x = x) ∧ (∀ x y z, S x → S y → S z → op x y = op x z → y = z)
theorem gp_pow_S {α : Type} {S : α → Prop} {op : α → α → α} {e g : α} (h : gp_ok S op e) (hg : S g) : ∀ k, S (gp_pow op e g k)
  | 0 => h.1
  | k + 1 => h.2.1 _ _ (gp_pow_S h hg k) hg
theorem gp_add {α : Type} {S : α → Prop} {op : α → α → α} {e g : α} (h : gp_ok S op e) (hg : S g) (i : Nat) : ∀ j, op (gp_pow op e g i) (gp_pow op e g j) = gp_pow op e g (i + j)
  | 0 => by
    obtain ⟨he, hc, hm, ha, hi, hk⟩ := h
    show op (gp_pow op e g i) e = gp_pow op e g i
    rw [hm _ _ (gp_pow_S ⟨he, hc, hm, ha, hi, hk⟩ hg i) he, hi _ (gp_pow_S ⟨he, hc, hm, ha, hi, hk⟩ hg i)]
  | j + 1 => by
    have ih := gp_add h hg i j
    show op (gp_pow op e g i) (op (gp_pow op e g j) g) = op (gp_pow op e g (i + j)) g
    rw [← ih, h.2.2.2.1 _ _ _ (gp_pow_S h hg i) (gp_pow_S h hg j) hg]
theorem gp_mul {α : Type} {S : α → Prop} {op : α → α → α} {e g : α} (h : gp_ok S op e) (hg : S g) (i : Nat) : ∀ j, gp_pow op e (gp_pow op e g i) j = gp_pow op e g (i * j)
  | 0 => rfl
  | j + 1 => by
    show op (gp_pow op e (gp_pow op e g i) j) (gp_pow op e g i) = _
    rw [gp_mul h hg i j, gp_add h hg, Nat.mul_succ]
theorem gp_e {α : Type} {S : α → Prop} {op : α → α → α} {e : α} (h : gp_ok S op e) : ∀ j, gp_pow op e e j = e
  | 0 => rfl
  | j + 1 => by
    show op (gp_pow op e e j) e = e
    rw [gp_e h j, h.2.2.2.2.1 _ h.1]
/-- a list of different members of L that is as long as L holds all of L -/
theorem gp_full {α : Type} {l L : List α} (hn : l.Nodup) (hs : ∀ x, x ∈ l → x ∈ L) (hl : L.length ≤ l.length) {x : α} (hx : x ∈ L) : x ∈ l := by
  apply Classical.byContradiction
  intro z
  have h1 : (x :: l).Nodup := List.nodup_cons.mpr ⟨z, hn⟩
  have h2 : (x :: l) ⊆ L := by
    intro w hw
    rcases List.mem_cons.mp hw with rfl | hw
    · exact hx
    · exact hs w hw
  have h3 := h1.length_le_of_subset h2
  simp only [List.length_cons] at h3
  omega
theorem gp_map_nodup {α β : Type} {f : α → β} : ∀ {l : List α}, (∀ x, x ∈ l → ∀ y, y ∈ l → f x = f y → x = y) → l.Nodup → (l.map f).Nodup
  | [], _, _ => List.nodup_nil
  | a :: l, hi, hn => by
    rw [List.nodup_cons] at hn
    rw [List.map_cons, List.nodup_cons]
    refine ⟨?_, gp_map_nodup (fun x hx y hy => hi x (List.mem_cons_of_mem _ hx) y (List.mem_cons_of_mem _ hy)) hn.2⟩
    intro z
    obtain ⟨y, hy, e⟩ := List.mem_map.mp z
    have := hi y (List.mem_cons_of_mem _ hy) a List.mem_cons_self e
    exact hn.1 (this ▸ hy)
theorem gp_fold_S {α : Type} {S : α → Prop} {op : α → α → α} {e : α} (h : gp_ok S op e) : ∀ l : List α, (∀ x, x ∈ l → S x) → S (l.foldr op e)
  | [], _ => h.1
  | a :: l, hl => h.2.1 _ _ (hl a List.mem_cons_self) (gp_fold_S h l fun x hx => hl x (List.mem_cons_of_mem _ hx))
theorem gp_fold {α : Type} {S : α → Prop} {op : α → α → α} {e g : α} (h : gp_ok S op e) (hg : S g) : ∀ l : List α, (∀ x, x ∈ l → S x) → (l.map (op g)).foldr op e = op (gp_pow op e g l.length) (l.foldr op e)
  | [], _ => by
    show e = op e e
    rw [h.2.2.2.2.1 _ h.1]
  | a :: l, hl => by
    have ih := gp_fold h hg l fun x hx => hl x (List.mem_cons_of_mem _ hx)
    have sa := hl a List.mem_cons_self
    have sl := gp_fold_S h l fun x hx => hl x (List.mem_cons_of_mem _ hx)
    have sp := gp_pow_S h hg l.length
    obtain ⟨he, hc, hm, ha, hi, hk⟩ := h
    show op (op g a) ((l.map (op g)).foldr op e) = op (op (gp_pow op e g l.length) g) (op a (l.foldr op e))
    rw [ih]
    generalize gp_pow op e g l.length = P at sp ⊢
    generalize l.foldr op e = T at sl ⊢
    rw [ha g a _ hg sa (hc _ _ sp sl), ← ha a P T sa sp sl, hm a P sa sp, ha P a T sp sa sl, ← ha g P _ hg sp (hc _ _ sa sl), hm g P hg sp]
/-- every member's power by the number of members is e -/
theorem gp_order {α : Type} {S : α → Prop} {op : α → α → α} {e g : α} (h : gp_ok S op e) (hg : S g) (L : List α) (hn : L.Nodup) (hL : ∀ x, x ∈ L ↔ S x) : gp_pow op e g L.length = e := by
  have inj : ∀ x, x ∈ L → ∀ y, y ∈ L → op g x = op g y → x = y := fun x hx y hy z => h.2.2.2.2.2 _ _ _ hg ((hL x).mp hx) ((hL y).mp hy) z
  have hm := gp_map_nodup inj hn
  have sub : ∀ x, x ∈ L.map (op g) → x ∈ L := by
    intro x hx
    obtain ⟨y, hy, rfl⟩ := List.mem_map.mp hx
    exact (hL _).mpr (h.2.1 _ _ hg ((hL y).mp hy))
  have perm : (L.map (op g)).Perm L := by
    rw [List.perm_ext_iff_of_nodup hm hn]
    intro x
    exact ⟨sub x, fun hx => gp_full hm sub (by simp) hx⟩
  have hS : ∀ x, x ∈ L → S x := fun x hx => (hL x).mp hx
  have key : ∀ (l : List α), (∀ x, x ∈ l → S x) → ∀ l' : List α, l.Perm l' → l.foldr op e = l'.foldr op e := by
    intro l hl l' hp
    induction hp with
    | nil => rfl
    | cons x hp ih =>
      simp only [List.foldr_cons]
      rw [ih fun y hy => hl y (List.mem_cons_of_mem _ hy)]
    | swap x y l =>
      simp only [List.foldr_cons]
      have sx := hl x (List.mem_cons_of_mem _ List.mem_cons_self)
      have sy := hl y List.mem_cons_self
      have sl := gp_fold_S h l fun z hz => hl z (List.mem_cons_of_mem _ (List.mem_cons_of_mem _ hz))
      rw [← h.2.2.2.1 _ _ _ sy sx sl, h.2.2.1 _ _ sy sx, h.2.2.2.1 _ _ _ sx sy sl]
    | trans h1 h2 ih1 ih2 =>
      rw [ih1 hl, ih2 fun x hx => hl x (h1.mem_iff.mpr hx)]
  have e1 := gp_fold h hg L hS
  have e2 := key (L.map (op g)) (fun x hx => hS x (sub x hx)) L perm
  rw [e2] at e1
  have sT := gp_fold_S h L hS
  have sp := gp_pow_S h hg L.length
  obtain ⟨he, hc, hm', ha, hi, hk⟩ := h
  generalize L.foldr op e = T at e1 sT
  generalize gp_pow op e g L.length = P at e1 sp ⊢
  apply hk T P e sT sp he
  rw [hm' T P sT sp, ← e1, hm' T e sT he, hi T sT]
/-- prime, by trial division -/
def pr (m : Nat) : Prop := 2 ≤ m ∧ ∀ d, 2 ≤ d → d * d ≤ m → m % d ≠ 0
theorem pr_dvd {m d : Nat} (h : pr m) (hd : d ∣ m) : d = 1 ∨ d = m := by
  obtain ⟨k, rfl⟩ := hd
  obtain ⟨h1, h2⟩ := h
  rcases Nat.lt_or_ge d 2 with hd | hd
  · left
    rcases (show d = 0 ∨ d = 1 by omega) with rfl | rfl
    · simp at h1
    · rfl
  · rcases Nat.lt_or_ge k 2 with hk | hk
    · right
      rcases (show k = 0 ∨ k = 1 by omega) with rfl | rfl
      · simp at h1
      · simp
    · exfalso
      rcases Nat.le_total d k with g | g
      · exact h2 d hd (Nat.mul_le_mul_left d g) (Nat.mul_mod_right d k)
      · exact h2 k hk (Nat.mul_le_mul_right k g) (Nat.mul_mod_left d k)
theorem pr_cop {m a : Nat} (h : pr m) (ha : ¬ m ∣ a) : Nat.Coprime m a := by
  rcases pr_dvd h (Nat.gcd_dvd_left m a) with g | g
  · exact g
  · exact absurd (g ▸ Nat.gcd_dvd_right m a) ha
theorem pr_euclid {m a b : Nat} (h : pr m) (hd : m ∣ a * b) : m ∣ a ∨ m ∣ b := by
  by_cases ha : m ∣ a
  · exact Or.inl ha
  · exact Or.inr ((pr_cop h ha).dvd_of_dvd_mul_left hd)
theorem pr_small {m a : Nat} (h0 : 0 < a) (h1 : a < m) : ¬ m ∣ a := fun z => absurd (Nat.le_of_dvd h0 z) (by omega)
/-- the units modulo a prime -/
theorem pr_units {m : Nat} (h : pr m) : gp_ok (fun x => 1 ≤ x ∧ x < m) (fun x y => x * y % m) 1 := by
  have h2 := h.1
  refine ⟨⟨by omega, by omega⟩, ?_, ?_, ?_, ?_, ?_⟩
  · intro x y hx hy
    refine ⟨?_, Nat.mod_lt _ (by omega)⟩
    apply Nat.pos_of_ne_zero
    intro z
    rcases pr_euclid h (Nat.dvd_of_mod_eq_zero z) with g | g
    · exact pr_small (by omega) hx.2 g
    · exact pr_small (by omega) hy.2 g
  · intro x y _ _
    show x * y % m = y * x % m
    rw [Nat.mul_comm]
  · intro x y z _ _ _
    show x * y % m * z % m = x * (y * z % m) % m
    rw [Nat.mod_mul_mod, Nat.mul_mod_mod, Nat.mul_assoc]
  · intro x hx
    show 1 * x % m = x
    rw [Nat.one_mul, Nat.mod_eq_of_lt hx.2]
  · intro x y z hx hy hz e
    have e : x * y % m = x * z % m := e
    have key : ∀ y z : Nat, y < m → z < m → y ≤ z → x * y % m = x * z % m → y = z := by
      intro y z hy hz hyz e
      have d : m ∣ x * z - x * y := Nat.dvd_of_mod_eq_zero (Nat.sub_mod_eq_zero_of_mod_eq e.symm)
      rw [← Nat.mul_sub] at d
      rcases pr_euclid h d with g | g
      · exact absurd g (pr_small (by omega) hx.2)
      · rcases Nat.eq_zero_or_pos (z - y) with w | w
        · omega
        · exact absurd g (pr_small w (by omega))
    rcases Nat.le_total y z with g | g
    · exact key y z hy.2 hz.2 g e
    · exact (key z y hz.2 hy.2 g e.symm).symm
theorem pr_pow (m a : Nat) (h : 1 < m) : ∀ k, gp_pow (fun x y => x * y % m) 1 a k = a ^ k % m
  | 0 => by
    show 1 = 1 % m
    rw [Nat.mod_eq_of_lt h]
  | k + 1 => by
    show gp_pow (fun x y => x * y % m) 1 a k * a % m = a ^ (k + 1) % m
    rw [pr_pow m a h k, Nat.mod_mul_mod, Nat.pow_succ]
/-- Fermat -/
theorem pr_fermat {m a : Nat} (h : pr m) (h0 : 1 ≤ a) (h1 : a < m) : a ^ (m - 1) % m = 1 := by
  have h2 := h.1
  have f := gp_order (pr_units h) (g := a) ⟨h0, h1⟩ (List.range' 1 (m - 1)) (List.nodup_range' (s := 1) (n := m - 1)) (by
    intro x
    rw [List.mem_range'_1]
    omega)
  rw [List.length_range', pr_pow m a (by omega)] at f
  exact f
theorem pr_inv {m a : Nat} (h : pr m) (h0 : 1 ≤ a) (h1 : a < m) : a ^ (m - 2) % m * a % m = 1 := by
  have f := pr_fermat h h0 h1
  have h2 := h.1
  rw [Nat.mod_mul_mod, ← Nat.pow_succ, show (m - 2).succ = m - 1 by omega]
  exact f
/-- two inverses are one -/
theorem pr_inv_one {m a s t : Nat} (h : pr m) (h0 : 1 ≤ a) (h1 : a < m) (hs : s < m) (ht : t < m) (es : a * s % m = 1) (et : a * t % m = 1) : s = t := by
  have h2 := h.1
  have s0 : 1 ≤ s := by
    rcases Nat.eq_zero_or_pos s with rfl | z
    · simp at es
    · exact z
  have t0 : 1 ≤ t := by
    rcases Nat.eq_zero_or_pos t with rfl | z
    · simp at et
    · exact z
  exact (pr_units h).2.2.2.2.2 a s t ⟨h0, h1⟩ ⟨s0, hs⟩ ⟨t0, ht⟩ (es.trans et.symm)
end
section
/-! The whole numbers modulo a prime p, as Fin p, and the way there from the integers. -/
def fz (p : Nat) [NeZero p] (k : Int) : Fin p := Fin.ofNat p (k % (p : Int)).toNat
theorem fz_p0 (p : Nat) [NeZero p] : 0 < p := Nat.pos_of_ne_zero (NeZero.ne p)
theorem fz_val (p : Nat) [NeZero p] (k : Int) : ((fz p k).val : Int) = k % (p : Int) := by
  have hp : (0 : Int) < (p : Int) := by have := fz_p0 p; omega
  have h0 := Int.emod_nonneg k (Int.ne_of_gt hp)
  have h1 := Int.emod_lt_of_pos k hp
  show (((k % (p : Int)).toNat % p : Nat) : Int) = k % (p : Int)
  rw [Nat.mod_eq_of_lt (by omega)]
  omega
theorem fz_ext {p : Nat} {u v : Fin p} (h : (u.val : Int) = (v.val : Int)) : u = v := Fin.ext (by omega)
theorem fz_eq {p : Nat} [NeZero p] {j k : Int} : fz p j = fz p k ↔ j % (p : Int) = k % (p : Int) := by
  constructor
  · intro h
    rw [← fz_val, ← fz_val, h]
  · intro h
    apply fz_ext
    rw [fz_val, fz_val, h]
theorem fz_add (p : Nat) [NeZero p] (j k : Int) : fz p (j + k) = fz p j + fz p k := by
  apply fz_ext
  rw [fz_val, Fin.val_add, Int.natCast_emod, Int.natCast_add, fz_val, fz_val, ← Int.add_emod]
theorem fz_mul (p : Nat) [NeZero p] (j k : Int) : fz p (j * k) = fz p j * fz p k := by
  apply fz_ext
  rw [fz_val, Fin.val_mul, Int.natCast_emod, Int.natCast_mul, fz_val, fz_val, ← Int.mul_emod]
theorem fz_zero (p : Nat) [NeZero p] : fz p 0 = 0 := by
  apply fz_ext
  rw [fz_val, Int.zero_emod]
  simp
theorem fz_sub (p : Nat) [NeZero p] (j k : Int) : fz p (j - k) = fz p j - fz p k := by
  have h := fz_add p (j - k) k
  rw [show j - k + k = j by omega] at h
  rw [h]
  generalize fz p (j - k) = u
  generalize fz p k = v
  grind
theorem fz_one (p : Nat) [NeZero p] : fz p 1 = 1 := by
  apply fz_ext
  rw [fz_val]
  rfl
theorem fz_nat (p : Nat) [NeZero p] (n : Nat) : (fz p (n : Int)).val = n % p := by
  have h := fz_val p (n : Int)
  rw [← Int.natCast_emod] at h
  omega
theorem fz_self {p : Nat} [NeZero p] (u : Fin p) : fz p (u.val : Int) = u := by
  apply Fin.ext
  rw [fz_nat, Nat.mod_eq_of_lt u.isLt]
theorem fz_0iff {p : Nat} [NeZero p] {k : Int} : fz p k = 0 ↔ k % (p : Int) = 0 := by
  rw [← fz_zero p, fz_eq, Int.zero_emod]
theorem fz_lt {p : Nat} [NeZero p] {n : Nat} (h : n < p) : (fz p (n : Int)).val = n := by
  rw [fz_nat, Nat.mod_eq_of_lt h]
theorem fz_inj {p : Nat} [NeZero p] {m n : Nat} (hm : m < p) (hn : n < p) (h : fz p (m : Int) = fz p (n : Int)) : m = n := by
  rw [← fz_lt hm, ← fz_lt hn, h]
/-- the inverse, by Fermat -/
def fi (p : Nat) [NeZero p] (u : Fin p) : Fin p := fz p ((u.val ^ (p - 2) : Nat) : Int)
theorem fi_mul {p : Nat} [NeZero p] (hp : pr p) {u : Fin p} (h : u ≠ 0) : u * fi p u = 1 := by
  have h0 : 1 ≤ u.val := by
    apply Nat.pos_of_ne_zero
    intro z
    exact h (Fin.ext (by rw [z]; simp))
  have f := pr_inv hp h0 u.isLt
  have h2 := hp.1
  apply Fin.ext
  show u.val * (fz p ((u.val ^ (p - 2) : Nat) : Int)).val % p = (1 : Fin p).val
  rw [fz_nat, Nat.mul_comm, f]
  have : (fz p 1).val = 1 % p := fz_nat p 1
  rw [fz_one] at this
  rw [this, Nat.mod_eq_of_lt (by omega)]
theorem fz_dom {p : Nat} [NeZero p] (hp : pr p) (u v : Fin p) (h : u * v = 0) : u = 0 ∨ v = 0 := by
  have e : u.val * v.val % p = 0 := by
    have := congrArg Fin.val h
    rw [Fin.val_mul] at this
    simpa using this
  have key : ∀ w : Fin p, p ∣ w.val → w = 0 := by
    intro w hw
    apply Fin.ext
    rcases Nat.eq_zero_or_pos w.val with z | z
    · rw [z]; simp
    · exact absurd hw (pr_small z w.isLt)
  rcases pr_euclid hp (Nat.dvd_of_mod_eq_zero e) with g | g
  · exact Or.inl (key u g)
  · exact Or.inr (key v g)
/-- a curve over it -/
theorem fz_F {p a b : Nat} [NeZero p] (hp : pr p) (h3 : 3 ≤ p) (hd : (4 * (a * a * a) + 27 * (b * b)) % p ≠ 0) : ec_F (fi p) (fz p (a : Int)) (fz p (b : Int)) := by
  refine ⟨fz_dom hp, fun u hu => fi_mul hp hu, ?_, ?_⟩
  · intro u hu
    have e : fz p 2 * u = 0 := by
      rw [show (2 : Int) = 1 + 1 by rfl, fz_add, fz_one]
      grind
    rcases fz_dom hp _ _ e with z | z
    · have := congrArg Fin.val z
      have h2 : (fz p 2).val = 2 := fz_lt (n := 2) (by omega)
      rw [h2] at this
      simp at this
    · exact z
  · intro x h1 h2
    have e := ec_sing h1 h2
    apply hd
    have k : fz p ((4 * (a * a * a) + 27 * (b * b) : Nat) : Int) = 0 := by
      have h4 : fz p ((4 : Nat) : Int) = 1 + 1 + 1 + 1 := by
        rw [show ((4 : Nat) : Int) = 1 + 1 + 1 + 1 by rfl]
        simp only [fz_add, fz_one]
      have h27 : fz p ((27 : Nat) : Int) = (1 + 1 + 1) * (1 + 1 + 1) * (1 + 1 + 1) := by
        rw [show ((27 : Nat) : Int) = (1 + 1 + 1) * (1 + 1 + 1) * (1 + 1 + 1) by rfl]
        simp only [fz_mul, fz_add, fz_one]
      simp only [Int.natCast_add, Int.natCast_mul, fz_add, fz_mul]
      rw [h4, h27]
      exact e
    have := congrArg Fin.val k
    rw [fz_nat] at this
    simpa using this
end
section
/-! The points as pairs of naturals, their number, and the multiples of a point. -/
def cub (p a b x : Nat) : Nat := ((x * x + a) % p * x + b) % p
theorem cub_eq (p a b x : Nat) : cub p a b x = (x * x * x + a * x + b) % p := by
  unfold cub
  rw [Nat.add_mod, Nat.mod_mul_mod, ← Nat.add_mod, Nat.add_mul]
/-- how many y below p have y * y = v modulo p -/
def rt (p v : Nat) : Nat := ((List.range p).filter fun y => y * y % p == v).length
def cnt (p a b : Nat) : Nat := 1 + ((List.range p).map fun x => rt p (cub p a b x)).sum
/-- all points, as pairs of naturals -/
def pts (p a b : Nat) : List (Option (Nat × Nat)) := none :: (List.range p).flatMap fun x => ((List.range p).filter fun y => y * y % p == cub p a b x).map fun y => some (x, y)
theorem pts_len (p a b : Nat) : (pts p a b).length = cnt p a b := by
  unfold pts cnt
  rw [List.length_cons, List.length_flatMap, Nat.add_comm]
  congr 3
  funext x
  rw [List.length_map]
  rfl
theorem pts_mem {p a b : Nat} {P : Option (Nat × Nat)} : P ∈ pts p a b ↔ (P = none ∨ ∃ x y, P = some (x, y) ∧ x < p ∧ y < p ∧ y * y % p = cub p a b x) := by
  unfold pts
  rw [List.mem_cons, List.mem_flatMap]
  constructor
  · rintro (h | ⟨x, hx, h⟩)
    · exact Or.inl h
    · obtain ⟨y, hy, rfl⟩ := List.mem_map.mp h
      rw [List.mem_filter] at hy
      exact Or.inr ⟨x, y, rfl, List.mem_range.mp hx, List.mem_range.mp hy.1, by simpa using hy.2⟩
  · rintro (h | ⟨x, y, rfl, hx, hy, e⟩)
    · exact Or.inl h
    · exact Or.inr ⟨x, List.mem_range.mpr hx, List.mem_map.mpr ⟨y, List.mem_filter.mpr ⟨List.mem_range.mpr hy, by simpa using e⟩, rfl⟩⟩
theorem pts_nodup (p a b : Nat) : (pts p a b).Nodup := by
  unfold pts
  rw [List.nodup_cons]
  refine ⟨?_, ?_⟩
  · intro h
    obtain ⟨x, _, h⟩ := List.mem_flatMap.mp h
    obtain ⟨y, _, h⟩ := List.mem_map.mp h
    cases h
  · unfold List.Nodup
    rw [List.pairwise_flatMap]
    refine ⟨?_, ?_⟩
    · intro x _
      exact gp_map_nodup (fun y _ z _ e => by cases e; rfl) (List.Pairwise.filter _ List.nodup_range)
    · refine List.Pairwise.imp ?_ (List.nodup_range (n := p))
      intro x x' hx P hP Q hQ e
      obtain ⟨y, _, rfl⟩ := List.mem_map.mp hP
      obtain ⟨y', _, rfl⟩ := List.mem_map.mp hQ
      cases e
      exact hx rfl
/-- a pair of naturals as a point over the field, and back -/
def pf (p : Nat) [NeZero p] (P : Option (Nat × Nat)) : Option (Fin p × Fin p) := P.map fun q => (fz p (q.1 : Int), fz p (q.2 : Int))
def pn {p : Nat} (P : Option (Fin p × Fin p)) : Option (Nat × Nat) := P.map fun q => (q.1.val, q.2.val)
theorem pf_pn {p : Nat} [NeZero p] (P : Option (Fin p × Fin p)) : pf p (pn P) = P := by
  cases P with
  | none => rfl
  | some q =>
    show some (fz p (q.1.val : Int), fz p (q.2.val : Int)) = some q
    rw [fz_self, fz_self]
theorem pn_inj {p : Nat} [NeZero p] {P Q : Option (Fin p × Fin p)} (h : pn P = pn Q) : P = Q := by
  rw [← pf_pn P, h, pf_pn]
theorem on_iff {p a b x y : Nat} [NeZero p] : ec_on (fz p (a : Int)) (fz p (b : Int)) (fz p (x : Int)) (fz p (y : Int)) ↔ y * y % p = cub p a b x := by
  have e1 : fz p (y : Int) * fz p (y : Int) = fz p ((y * y : Nat) : Int) := by
    simp only [Int.natCast_mul, fz_mul]
  have e2 : fz p (x : Int) * fz p (x : Int) * fz p (x : Int) + fz p (a : Int) * fz p (x : Int) + fz p (b : Int) = fz p ((x * x * x + a * x + b : Nat) : Int) := by
    simp only [Int.natCast_add, Int.natCast_mul, fz_add, fz_mul]
  unfold ec_on
  rw [e1, e2, cub_eq, fz_eq, ← Int.natCast_emod, ← Int.natCast_emod]
  exact Int.ofNat_inj
theorem pn_mem {p a b : Nat} [NeZero p] {P : Option (Fin p × Fin p)} : pn P ∈ pts p a b ↔ ec_P (fz p (a : Int)) (fz p (b : Int)) P := by
  rw [pts_mem]
  cases P with
  | none => exact ⟨fun _ => ec_P_none _ _, fun _ => Or.inl rfl⟩
  | some q =>
    obtain ⟨u, v⟩ := q
    constructor
    · rintro (h | ⟨x, y, e, hx, hy, h⟩)
      · cases h
      · have e1 : u.val = x := by
          have : some (u.val, v.val) = some (x, y) := e
          cases this; rfl
        have e2 : v.val = y := by
          have : some (u.val, v.val) = some (x, y) := e
          cases this; rfl
        refine ec_P_some (q := (u, v)) ?_
        show ec_on _ _ u v
        rw [← fz_self u, ← fz_self v, e1, e2]
        exact on_iff.mpr h
    · intro h
      have o := h (u, v) rfl
      refine Or.inr ⟨u.val, v.val, rfl, u.isLt, v.isLt, ?_⟩
      rw [← fz_self u, ← fz_self v] at o
      exact on_iff.mp o
/-- a curve that is taken, with its number of points and one of them -/
def Cv (p a b n gx gy : Nat) : Prop := pr p ∧ 5 ≤ p ∧ a < p ∧ b < p ∧ (4 * (a * a * a) + 27 * (b * b)) % p ≠ 0 ∧ n = cnt p a b ∧ 3 ≤ n ∧ pr n ∧ gx < p ∧ gy < p ∧ gy * gy % p = cub p a b gx
def tF (p a gx gy : Nat) [NeZero p] (i : Nat) : Option (Fin p × Fin p) := gp_pow (ec_add (fi p) (fz p (a : Int))) none (some (fz p (gx : Int), fz p (gy : Int))) i
def tb (p a gx gy : Nat) [NeZero p] (i : Nat) : Option (Nat × Nat) := pn (tF p a gx gy i)
theorem Cv.ne {p a b n gx gy : Nat} (h : Cv p a b n gx gy) : NeZero p := ⟨by have := h.2.1; omega⟩
theorem Cv.F {p a b n gx gy : Nat} [NeZero p] (h : Cv p a b n gx gy) : ec_F (fi p) (fz p (a : Int)) (fz p (b : Int)) := fz_F h.1 (by have := h.2.1; omega) h.2.2.2.2.1
theorem Cv.gp {p a b n gx gy : Nat} [NeZero p] (h : Cv p a b n gx gy) : gp_ok (ec_P (fz p (a : Int)) (fz p (b : Int))) (ec_add (fi p) (fz p (a : Int))) none := by
  have hF := h.F
  refine ⟨ec_P_none _ _, fun x y hx hy => ec_P_add hF hx hy, fun x y hx hy => ec_comm hF hx hy, fun x y z hx hy hz => ec_assoc hF hx hy hz, fun x _ => ec_add_none_l _ _ x, ?_⟩
  intro x y z hx hy hz e
  have h1 := ec_back hF hy hx
  have h2 := ec_back hF hz hx
  rw [← h1, ← h2, ec_comm hF hy hx, ec_comm hF hz hx, e]
theorem Cv.G {p a b n gx gy : Nat} [NeZero p] (h : Cv p a b n gx gy) : ec_P (fz p (a : Int)) (fz p (b : Int)) (some (fz p (gx : Int), fz p (gy : Int))) := ec_P_some (q := (fz p (gx : Int), fz p (gy : Int))) (on_iff.mpr h.2.2.2.2.2.2.2.2.2.2)
theorem Cv.tP {p a b n gx gy : Nat} [NeZero p] (h : Cv p a b n gx gy) (i : Nat) : ec_P (fz p (a : Int)) (fz p (b : Int)) (tF p a gx gy i) := gp_pow_S h.gp h.G i
/-- n times any point is none -/
theorem Cv.n0 {p a b n gx gy : Nat} [NeZero p] (h : Cv p a b n gx gy) {P : Option (Fin p × Fin p)} (hP : ec_P (fz p (a : Int)) (fz p (b : Int)) P) : gp_pow (ec_add (fi p) (fz p (a : Int))) none P n = none := by
  have hn : ((pts p a b).map (pf p)).Nodup := gp_map_nodup (by
    intro x hx y hy e
    rw [pts_mem] at hx hy
    rcases hx with rfl | ⟨x1, x2, rfl, hx1, hx2, _⟩
    · rcases hy with rfl | ⟨y1, y2, rfl, hy1, hy2, _⟩
      · rfl
      · cases e
    · rcases hy with rfl | ⟨y1, y2, rfl, hy1, hy2, _⟩
      · cases e
      · have e : some (fz p (x1 : Int), fz p (x2 : Int)) = some (fz p (y1 : Int), fz p (y2 : Int)) := e
        have e1 := congrArg Prod.fst (Option.some.inj e)
        have e2 := congrArg Prod.snd (Option.some.inj e)
        rw [fz_inj hx1 hy1 e1, fz_inj hx2 hy2 e2]) (pts_nodup p a b)
  have hl : ((pts p a b).map (pf p)).length = n := by
    rw [List.length_map, pts_len, h.2.2.2.2.2.1]
  rw [← hl]
  refine gp_order h.gp hP _ hn ?_
  intro Q
  rw [← pn_mem, List.mem_map]
  constructor
  · rintro ⟨R, hR, rfl⟩
    have : pn (pf p R) = R := by
      rw [pts_mem] at hR
      rcases hR with rfl | ⟨x, y, rfl, hx, hy, _⟩
      · rfl
      · show some ((fz p (x : Int)).val, (fz p (y : Int)).val) = some (x, y)
        rw [fz_lt hx, fz_lt hy]
    rw [this]
    exact hR
  · intro hQ
    exact ⟨pn Q, hQ, pf_pn Q⟩
theorem Cv.step {p a b n gx gy : Nat} [NeZero p] (h : Cv p a b n gx gy) (i j : Nat) : ec_add (fi p) (fz p (a : Int)) (tF p a gx gy i) (tF p a gx gy j) = tF p a gx gy (i + j) := gp_add h.gp h.G i j
theorem Cv.mod {p a b n gx gy : Nat} [NeZero p] (h : Cv p a b n gx gy) (i : Nat) : tF p a gx gy i = tF p a gx gy (i % n) := by
  have e : tF p a gx gy (n * (i / n)) = none := by
    unfold tF
    rw [← gp_mul h.gp h.G, h.n0 h.G, gp_e h.gp]
  have := h.step (n * (i / n)) (i % n)
  rw [e, ec_add_none_l, Nat.div_add_mod] at this
  exact this.symm
theorem Cv.zero {p a b n gx gy : Nat} [NeZero p] (h : Cv p a b n gx gy) {i : Nat} (hi : i < n) (e : tF p a gx gy i = none) : i = 0 := by
  apply Classical.byContradiction
  intro z
  have hpn := h.2.2.2.2.2.2.2.1
  have key := (pr_inv hpn (a := i) (by omega) hi)
  have e1 : tF p a gx gy (i * (i ^ (n - 2) % n)) = none := by
    unfold tF at e ⊢
    rw [← gp_mul h.gp h.G, e, gp_e h.gp]
  rw [h.mod, Nat.mul_comm, key] at e1
  have : tF p a gx gy 1 = some (fz p (gx : Int), fz p (gy : Int)) := ec_add_none_l (fi p) (fz p (a : Int)) _
  rw [this] at e1
  cases e1
theorem Cv.inj {p a b n gx gy : Nat} [NeZero p] (h : Cv p a b n gx gy) {i j : Nat} (hi : i < n) (hj : j < n) (e : tF p a gx gy i = tF p a gx gy j) : i = j := by
  have key : ∀ i j : Nat, i ≤ j → j < n → tF p a gx gy i = tF p a gx gy j → i = j := by
    intro i j hij hj e
    have s := h.step i (j - i)
    rw [show i + (j - i) = j by omega, ← e] at s
    have s0 : ec_add (fi p) (fz p (a : Int)) (tF p a gx gy i) none = tF p a gx gy i := ec_add_none_r _ _ _
    have c := h.gp.2.2.2.2.2 _ _ _ (h.tP i) (h.tP (j - i)) (ec_P_none _ _) (s.trans s0.symm)
    have := h.zero (by omega) c
    omega
  rcases Nat.le_total i j with g | g
  · exact key i j g hj e
  · exact (key j i g hi e.symm).symm
/-- every point is a multiple -/
theorem Cv.all {p a b n gx gy : Nat} [NeZero p] (h : Cv p a b n gx gy) {P : Option (Fin p × Fin p)} (hP : ec_P (fz p (a : Int)) (fz p (b : Int)) P) : ∃ i, i < n ∧ tF p a gx gy i = P := by
  have hn : ((List.range n).map fun i => pn (tF p a gx gy i)).Nodup := gp_map_nodup (fun i hi j hj e => h.inj (List.mem_range.mp hi) (List.mem_range.mp hj) (pn_inj e)) List.nodup_range
  have hs : ∀ x, x ∈ ((List.range n).map fun i => pn (tF p a gx gy i)) → x ∈ pts p a b := by
    intro x hx
    obtain ⟨i, _, rfl⟩ := List.mem_map.mp hx
    exact pn_mem.mpr (h.tP i)
  have hm := gp_full hn hs (by rw [pts_len, List.length_map, List.length_range, h.2.2.2.2.2.1]; exact Nat.le_refl _) (pn_mem.mpr hP)
  obtain ⟨i, hi, e⟩ := List.mem_map.mp hm
  exact ⟨i, List.mem_range.mp hi, pn_inj e⟩
end
section
/-! What the walk of the two classes asks of the points: in naturals. -/
theorem Cv.tb0 {p a gx gy : Nat} [NeZero p] : tb p a gx gy 0 = none := rfl
theorem Cv.tb1 {p a b n gx gy : Nat} [NeZero p] (h : Cv p a b n gx gy) : tb p a gx gy 1 = some (gx, gy) := by
  have e : tF p a gx gy 1 = some (fz p (gx : Int), fz p (gy : Int)) := ec_add_none_l (fi p) (fz p (a : Int)) _
  unfold tb
  rw [e]
  show some ((fz p (gx : Int)).val, (fz p (gy : Int)).val) = some (gx, gy)
  rw [fz_lt h.2.2.2.2.2.2.2.2.1, fz_lt h.2.2.2.2.2.2.2.2.2.1]
theorem Cv.tmod {p a b n gx gy : Nat} [NeZero p] (h : Cv p a b n gx gy) (i : Nat) : tb p a gx gy i = tb p a gx gy (i % n) := by
  unfold tb
  rw [h.mod]
theorem Cv.tinj {p a b n gx gy : Nat} [NeZero p] (h : Cv p a b n gx gy) {i j : Nat} (hi : i < n) (hj : j < n) (e : tb p a gx gy i = tb p a gx gy j) : i = j := h.inj hi hj (pn_inj e)
theorem Cv.tnone {p a b n gx gy : Nat} [NeZero p] (h : Cv p a b n gx gy) {i : Nat} (hi : i < n) (e : tb p a gx gy i = none) : i = 0 := h.tinj hi (by have := h.2.2.2.2.2.2.1; omega) (e.trans Cv.tb0.symm)
theorem Cv.tsome {p a b n gx gy : Nat} [NeZero p] (h : Cv p a b n gx gy) {i : Nat} (h0 : 1 ≤ i) (hi : i < n) : ∃ x y, tb p a gx gy i = some (x, y) := by
  cases e : tb p a gx gy i with
  | none => have := h.tnone hi e; omega
  | some q => exact ⟨q.1, q.2, rfl⟩
theorem Cv.tof {p a gx gy i x y : Nat} [NeZero p] (e : tb p a gx gy i = some (x, y)) : tF p a gx gy i = some (fz p (x : Int), fz p (y : Int)) := by
  rw [← pf_pn (tF p a gx gy i)]
  show pf p (tb p a gx gy i) = _
  rw [e]
  rfl
theorem Cv.tpt {p a b n gx gy : Nat} [NeZero p] (h : Cv p a b n gx gy) {i x y : Nat} (e : tb p a gx gy i = some (x, y)) : x < p ∧ y < p ∧ y * y % p = cub p a b x ∧ 0 < y := by
  have m := pn_mem.mpr (h.tP i)
  have m : tb p a gx gy i ∈ pts p a b := m
  rw [e, pts_mem] at m
  rcases m with z | ⟨x', y', e', hx, hy, ho⟩
  · cases z
  · cases e'
    refine ⟨hx, hy, ho, ?_⟩
    apply Nat.pos_of_ne_zero
    intro z
    subst z
    have s := h.step i i
    rw [Cv.tof e, ec_add_op _ _ (P := (fz p (x : Int), fz p ((0 : Nat) : Int))) (Q := (fz p (x : Int), fz p ((0 : Nat) : Int))) ⟨rfl, by
      show fz p ((0 : Nat) : Int) + fz p ((0 : Nat) : Int) = 0
      rw [← fz_add]
      exact fz_zero p⟩] at s
    have hn := h.2.2.2.2.2.2.2.1
    have h3 := h.2.2.2.2.2.2.1
    rw [h.mod] at s
    have d := h.zero (Nat.mod_lt _ (by omega)) s.symm
    have d2 : n ∣ 2 * i := Nat.dvd_of_mod_eq_zero (by rw [show 2 * i = i + i by omega]; exact d)
    rcases pr_euclid hn d2 with g | g
    · exact pr_small (by omega) (by omega) g
    · have e2 := h.tmod i
      rw [Nat.mod_eq_zero_of_dvd g, Cv.tb0, e] at e2
      cases e2
theorem Cv.tfind {p a b n gx gy : Nat} [NeZero p] (h : Cv p a b n gx gy) {x y : Nat} (hx : x < p) (hy : y < p) (ho : y * y % p = cub p a b x) : ∃ i, 1 ≤ i ∧ i < n ∧ tb p a gx gy i = some (x, y) := by
  obtain ⟨i, hi, e⟩ := h.all (P := some (fz p (x : Int), fz p (y : Int))) (ec_P_some (q := (fz p (x : Int), fz p (y : Int))) (on_iff.mpr ho))
  have e2 : tb p a gx gy i = some (x, y) := by
    unfold tb
    rw [e]
    show some ((fz p (x : Int)).val, (fz p (y : Int)).val) = some (x, y)
    rw [fz_lt hx, fz_lt hy]
  refine ⟨i, ?_, hi, e2⟩
  apply Nat.pos_of_ne_zero
  intro z
  subst z
  rw [Cv.tb0] at e2
  cases e2
theorem Cv.padd0 {p a b n gx gy : Nat} [NeZero p] (h : Cv p a b n gx gy) {i j x y v : Nat} (ei : tb p a gx gy i = some (x, y)) (ej : tb p a gx gy j = some (x, v)) (hs : y + v = p) : tb p a gx gy (i + j) = none := by
  unfold tb
  rw [← h.step i j, Cv.tof ei, Cv.tof ej, ec_add_op]
  · rfl
  · refine ⟨rfl, ?_⟩
    show fz p (y : Int) + fz p (v : Int) = 0
    rw [← fz_add, ← Int.natCast_add, hs, fz_0iff]
    exact Int.emod_self
/-- two points that aren't opposite: any slope will do -/
theorem Cv.padd {p a b n gx gy : Nat} [NeZero p] (h : Cv p a b n gx gy) {i j x y u v : Nat} (ei : tb p a gx gy i = some (x, y)) (ej : tb p a gx gy j = some (u, v)) (hs : ¬ (x = u ∧ y + v = p)) {m : Int} {w z : Nat}
    (h1 : x ≠ u → m * ((u : Int) - x) % p = ((v : Int) - y) % p) (h2 : x = u → m * (2 * (y : Int)) % p = (3 * (x : Int) * x + a) % p)
    (hw : w < p) (hz : z < p) (ew : (w : Int) % p = (m * m - x - u) % p) (ez : (z : Int) % p = (m * ((x : Int) - w) - y) % p) : tb p a gx gy (i + j) = some (w, z) := by
  obtain ⟨hx, hy, ox, y0⟩ := h.tpt ei
  obtain ⟨hu, hv, ou, v0⟩ := h.tpt ej
  have hF := h.F
  have o1 : ec_on (fz p (a : Int)) (fz p (b : Int)) (fz p (x : Int)) (fz p (y : Int)) := on_iff.mpr ox
  have o2 : ec_on (fz p (a : Int)) (fz p (b : Int)) (fz p (u : Int)) (fz p (v : Int)) := on_iff.mpr ou
  have hn : ¬ ((fz p (x : Int), fz p (y : Int)).1 = (fz p (u : Int), fz p (v : Int)).1 ∧ (fz p (x : Int), fz p (y : Int)).2 + (fz p (u : Int), fz p (v : Int)).2 = 0) := by
    rintro ⟨z1, z2⟩
    have z1 : fz p (x : Int) = fz p (u : Int) := z1
    have z2 : fz p (y : Int) + fz p (v : Int) = 0 := z2
    refine hs ⟨fz_inj hx hu z1, ?_⟩
    rw [← fz_add, ← Int.natCast_add, fz_0iff, ← Int.natCast_emod] at z2
    have z3 : (y + v) % p = 0 := by omega
    obtain ⟨c, hc⟩ := Nat.dvd_of_mod_eq_zero z3
    rcases (show c = 0 ∨ c = 1 ∨ 2 ≤ c by omega) with rfl | rfl | g
    · omega
    · omega
    · have := Nat.mul_le_mul_left p g
      omega
  have hm := ec_m_sl (P := (fz p (x : Int), fz p (y : Int))) (Q := (fz p (u : Int), fz p (v : Int))) hF o1 o2 hn
  have add := ec_add_no (fi p) (fz p (a : Int)) hn
  generalize ec_m (fi p) (fz p (a : Int)) (fz p (x : Int), fz p (y : Int)) (fz p (u : Int), fz p (v : Int)) = k at hm add
  obtain ⟨s1, s2⟩ := hm
  have s1 : k * (fz p (u : Int) - fz p (x : Int)) = fz p (v : Int) - fz p (y : Int) := s1
  have s2 : k * (fz p (y : Int) + fz p (v : Int)) = fz p (x : Int) * fz p (x : Int) + fz p (x : Int) * fz p (u : Int) + fz p (u : Int) * fz p (u : Int) + fz p (a : Int) := s2
  have ek : fz p m = k := by
    by_cases hxu : x = u
    · have q := h2 hxu
      subst hxu
      have hyv : fz p (y : Int) = fz p (v : Int) := by
        have : k * (fz p (x : Int) - fz p (x : Int)) = 0 := by grind
        rw [this] at s1
        grind
      have q : fz p m * (fz p (y : Int) + fz p (y : Int)) = fz p (x : Int) * fz p (x : Int) + fz p (x : Int) * fz p (x : Int) + fz p (x : Int) * fz p (x : Int) + fz p (a : Int) := by
        rw [← fz_add, ← fz_mul, ← fz_mul, ← fz_add, ← fz_add, ← fz_add, fz_eq, show (y : Int) + y = 2 * y by omega, q]
        congr 1
        rw [Int.mul_assoc]
        omega
      rw [← hyv] at s2
      have d : (fz p m - k) * (fz p (y : Int) + fz p (y : Int)) = 0 := by grind
      rcases hF.1 _ _ d with g | g
      · grind
      · refine absurd ⟨rfl, ?_⟩ hn
        show fz p (y : Int) + fz p (v : Int) = 0
        rw [← hyv, g]
    · have q := h1 hxu
      have q : fz p m * (fz p (u : Int) - fz p (x : Int)) = fz p (v : Int) - fz p (y : Int) := by
        rw [← fz_sub, ← fz_sub, ← fz_mul, fz_eq, q]
      have d : (fz p m - k) * (fz p (u : Int) - fz p (x : Int)) = 0 := by grind
      rcases hF.1 _ _ d with g | g
      · grind
      · refine absurd ?_ hxu
        exact fz_inj hx hu (by grind)
  subst ek
  have e1 : (ec_at (fz p (x : Int), fz p (y : Int)) (fz p (u : Int), fz p (v : Int)) (fz p m)) = (fz p (w : Int), fz p (z : Int)) := by
    have w1 : fz p (w : Int) = fz p m * fz p m - fz p (x : Int) - fz p (u : Int) := by
      rw [← fz_mul, ← fz_sub, ← fz_sub, fz_eq, ew]
    have w2 : fz p (z : Int) = fz p m * (fz p (x : Int) - fz p (w : Int)) - fz p (y : Int) := by
      rw [← fz_sub, ← fz_mul, ← fz_sub, fz_eq, ez]
    unfold ec_at
    simp only
    rw [w2, w1]
  unfold tb
  rw [← h.step i j, Cv.tof ei, Cv.tof ej, add, e1]
  show some ((fz p (w : Int)).val, (fz p (z : Int)).val) = some (w, z)
  rw [fz_lt hw, fz_lt hz]
end
section
/-! No curve over a prime up to 1021 has more than 1100 points: counted for one curve of each kind, in digits of large numbers. -/
noncomputable def sm (f : Nat → Nat) (n : Nat) : Nat := Nat.rec (motive := fun _ => Nat) 0 (fun k ih => Nat.add ih (f k)) n
theorem sm_0 (f : Nat → Nat) : sm f 0 = 0 := rfl
theorem sm_s (f : Nat → Nat) (k : Nat) : sm f (k + 1) = sm f k + f k := rfl
theorem sm_add (f : Nat → Nat) (a : Nat) : ∀ b, sm f (a + b) = sm f a + sm (fun j => f (a + j)) b
  | 0 => rfl
  | b + 1 => by
    rw [← Nat.add_assoc, sm_s, sm_s, sm_add f a b, Nat.add_assoc]
theorem sm_mul (f : Nat → Nat) (c : Nat) : ∀ m, sm (fun i => sm (fun j => f (c * i + j)) c) m = sm f (c * m)
  | 0 => rfl
  | m + 1 => by
    rw [sm_s, sm_mul f c m, Nat.mul_succ, sm_add]
theorem sm_congr {f g : Nat → Nat} : ∀ {n : Nat}, (∀ k, k < n → f k = g k) → sm f n = sm g n
  | 0, _ => rfl
  | n + 1, h => by
    rw [sm_s, sm_s, sm_congr (fun k hk => h k (by omega)), h n (by omega)]
theorem sm_le {f : Nat → Nat} {c : Nat} : ∀ {n : Nat}, (∀ k, k < n → f k ≤ c) → sm f n ≤ n * c
  | 0, _ => by simp [sm_0]
  | n + 1, h => by
    have h1 := sm_le (fun k hk => h k (show k < n + 1 by omega)) (n := n)
    have h2 := h n (by omega)
    rw [sm_s, Nat.succ_mul]
    omega
theorem sm_pos {f : Nat → Nat} : ∀ {n : Nat}, sm f n ≠ 0 → ∃ k, k < n ∧ f k ≠ 0
  | 0, h => absurd (sm_0 f) h
  | n + 1, h => by
    rw [sm_s] at h
    by_cases z : f n = 0
    · obtain ⟨k, hk, e⟩ := sm_pos (f := f) (n := n) (by omega)
      exact ⟨k, by omega, e⟩
    · exact ⟨n, by omega, z⟩
theorem sm_none {f : Nat → Nat} : ∀ {n : Nat}, sm f n = 0 → ∀ k, k < n → f k = 0
  | 0, _, k, hk => by omega
  | n + 1, h, k, hk => by
    rw [sm_s] at h
    rcases (show k < n ∨ k = n by omega) with g | rfl
    · exact sm_none (by omega) k g
    · omega
/-- the same sum, in pieces of 32, which the kernel sums without depth -/
noncomputable def sk (f : Nat → Nat) (n : Nat) : Nat := Nat.add (sm (fun i => sm (fun j => f (Nat.add (Nat.mul 32 i) j)) 32) (Nat.div n 32)) (sm (fun j => f (Nat.add (Nat.mul 32 (Nat.div n 32)) j)) (Nat.mod n 32))
theorem sk_eq (f : Nat → Nat) (n : Nat) : sk f n = sm f n := by
  show sm (fun i => sm (fun j => f (32 * i + j)) 32) (n / 32) + sm (fun j => f (32 * (n / 32) + j)) (n % 32) = sm f n
  rw [sm_mul, ← sm_add, Nat.div_add_mod]
theorem sm_range (f : Nat → Nat) : ∀ n, ((List.range n).map f).sum = sm f n
  | 0 => rfl
  | n + 1 => by
    rw [List.range_succ, List.map_append, List.sum_append, sm_range f n, sm_s]
    simp
theorem sm_filter (q : Nat → Bool) : ∀ n, ((List.range n).filter q).length = sm (fun y => if q y = true then 1 else 0) n
  | 0 => rfl
  | n + 1 => by
    rw [List.range_succ, List.filter_append, List.length_append, sm_filter q n, sm_s]
    by_cases h : q n = true
    · simp [h]
    · simp [h]
/-- the digit at place b, base 2 ^ 20 -/
def dg (n b : Nat) : Nat := n / 2 ^ (20 * b) % 2 ^ 20
theorem dg_s (n b : Nat) : dg n (b + 1) = dg (n / 2 ^ 20) b := by
  unfold dg
  rw [Nat.mul_succ, Nat.pow_add, Nat.mul_comm, Nat.div_div_eq_div_mul]
theorem dg_0 (n : Nat) : dg n 0 = n % 2 ^ 20 := by
  unfold dg
  simp
theorem dg_add : ∀ (b m n : Nat), (∀ v, dg m v + dg n v < 2 ^ 20) → dg (m + n) b = dg m b + dg n b
  | 0, m, n, h => by
    have := h 0
    rw [dg_0, dg_0] at this
    rw [dg_0, dg_0, dg_0]
    omega
  | b + 1, m, n, h => by
    have h0 := h 0
    rw [dg_0, dg_0] at h0
    have e : (m + n) / 2 ^ 20 = m / 2 ^ 20 + n / 2 ^ 20 := by omega
    rw [dg_s, dg_s, dg_s, e]
    refine dg_add b _ _ ?_
    intro v
    have := h (v + 1)
    rwa [dg_s, dg_s] at this
theorem dg_div (n g b : Nat) : dg (n / 2 ^ (20 * g)) b = dg n (g + b) := by
  unfold dg
  rw [Nat.div_div_eq_div_mul, ← Nat.pow_add, ← Nat.mul_add]
theorem dg_pow : ∀ (k v : Nat), dg (2 ^ (20 * k)) v = if v = k then 1 else 0
  | 0, 0 => by simp [dg_0]
  | 0, v + 1 => by
    rw [dg_s]
    have : 2 ^ (20 * 0) / 2 ^ 20 = 0 := by simp
    rw [this]
    unfold dg
    simp
  | k + 1, 0 => by
    rw [dg_0, Nat.mul_succ, Nat.pow_add, Nat.mul_mod_left]
    simp
  | k + 1, v + 1 => by
    rw [dg_s, Nat.mul_succ, Nat.pow_add, Nat.mul_div_cancel _ (by decide), dg_pow k v]
    simp
theorem dg_sm {f : Nat → Nat} : ∀ {n : Nat}, (∀ v, sm (fun y => dg (f y) v) n < 2 ^ 20) → ∀ v, dg (sm f n) v = sm (fun y => dg (f y) v) n
  | 0, _, v => by
    show dg 0 v = 0
    unfold dg
    simp
  | n + 1, h, v => by
    have ih := dg_sm (f := f) (n := n) (fun v => by
      have := h v
      rw [sm_s] at this
      omega)
    rw [sm_s, sm_s, dg_add, ih v]
    intro w
    have := h w
    rw [sm_s] at this
    rw [ih w]
    exact this
/-- the squares, laid twice -/
noncomputable def hsR (p : Nat) : Nat := sk (fun y => Nat.add (Nat.pow 2 (Nat.mul 20 (Nat.mod (Nat.mul y y) p))) (Nat.pow 2 (Nat.mul 20 (Nat.add (Nat.mod (Nat.mul y y) p) p)))) p
noncomputable def hsT (p a R : Nat) : Nat := sk (fun x => Nat.shiftRight R (Nat.mul 20 (Nat.mod (Nat.mul (Nat.mod (Nat.add (Nat.mul x x) a) p) x) p))) p
noncomputable def hsD (p T : Nat) : Nat := sk (fun b => cond (Nat.ble (Nat.mod (Nat.shiftRight T (Nat.mul 20 b)) 1048576) 1099) 0 1) p
/-- n is reckoned first -/
noncomputable def hsF (n : Nat) (f : Nat → Nat) : Nat := Nat.rec (motive := fun _ => Nat) (f 0) (fun k _ => f (Nat.succ k)) n
theorem hsF_eq (n : Nat) (f : Nat → Nat) : hsF n f = f n := by cases n <;> rfl
/-- fourth powers times g ^ 0 .. g ^ 3: which numbers they reach -/
noncomputable def hsC (p g : Nat) : Nat := sk (fun w => hsF (Nat.mod (Nat.mul (Nat.mul w w) (Nat.mul w w)) p) (fun q => Nat.add (Nat.add (Nat.pow 2 (Nat.mul 20 q)) (Nat.pow 2 (Nat.mul 20 (Nat.mod (Nat.mul q g) p)))) (Nat.add (Nat.pow 2 (Nat.mul 20 (Nat.mod (Nat.mul q (Nat.mul g g)) p))) (Nat.pow 2 (Nat.mul 20 (Nat.mod (Nat.mul q (Nat.mul (Nat.mul g g) g)) p)))))) p
noncomputable def hsE (p C : Nat) : Nat := sk (fun a => cond (Nat.ble 1 (Nat.mod (Nat.shiftRight C (Nat.mul 20 a)) 1048576)) 0 1) p
noncomputable def hsX (p a : Nat) : Nat := hsF (hsR p) fun R => hsF (hsT p a R) fun T => hsD p T
noncomputable def hsY (p g : Nat) : Nat := hsF (hsC p g) fun C => hsE p C
end
section
theorem hs_two (k j v : Nat) : dg (2 ^ (20 * k) + 2 ^ (20 * j)) v = (if v = k then 1 else 0) + (if v = j then 1 else 0) := by
  rw [dg_add, dg_pow, dg_pow]
  intro w
  rw [dg_pow, dg_pow]
  split <;> split <;> decide
theorem hsR_dg {p : Nat} (hp : p ≤ 1021) (v : Nat) : dg (hsR p) v = sm (fun y => (if v = y * y % p then 1 else 0) + (if v = y * y % p + p then 1 else 0)) p := by
  unfold hsR
  rw [sk_eq]
  show dg (sm (fun y => 2 ^ (20 * (y * y % p)) + 2 ^ (20 * (y * y % p + p))) p) v = _
  rw [dg_sm]
  · exact sm_congr fun y _ => hs_two _ _ v
  · intro w
    have e : sm (fun y => dg (2 ^ (20 * (y * y % p)) + 2 ^ (20 * (y * y % p + p))) w) p ≤ p * 2 := sm_le fun y _ => by
      show dg (2 ^ (20 * (y * y % p)) + 2 ^ (20 * (y * y % p + p))) w ≤ 2
      rw [hs_two]
      split <;> split <;> decide
    have : (2 : Nat) ^ 20 = 1048576 := by decide
    omega
theorem hsR_le {p : Nat} (h0 : 0 < p) (hp : p ≤ 1021) (v : Nat) : dg (hsR p) v ≤ p := by
  rw [hsR_dg hp]
  have e := sm_le (f := fun y => (if v = y * y % p then 1 else 0) + (if v = y * y % p + p then 1 else 0)) (c := 1) (n := p) (fun y _ => by
    show (if v = y * y % p then 1 else 0) + (if v = y * y % p + p then 1 else 0) ≤ 1
    split <;> split <;> omega)
  omega
theorem hsR_rt {p : Nat} (h0 : 0 < p) (hp : p ≤ 1021) {v : Nat} (hv : v < 2 * p) : dg (hsR p) v = rt p (v % p) := by
  rw [hsR_dg hp]
  unfold rt
  rw [sm_filter]
  refine sm_congr fun y _ => ?_
  have hk := Nat.mod_lt (y * y) h0
  generalize y * y % p = k at hk
  show (if v = k then 1 else 0) + (if v = k + p then 1 else 0) = if (k == v % p) = true then 1 else 0
  rcases Nat.lt_or_ge v p with g | g
  · rw [Nat.mod_eq_of_lt g, if_neg (show ¬ v = k + p by omega)]
    by_cases z : v = k
    · rw [if_pos z, if_pos (by simp [z])]
    · rw [if_neg z, if_neg (by simp; omega)]
  · rw [Nat.mod_eq_sub_mod g, Nat.mod_eq_of_lt (show v - p < p by omega), if_neg (show ¬ v = k by omega)]
    by_cases z : v = k + p
    · rw [if_pos z, if_pos (by simp; omega)]
    · rw [if_neg z, if_neg (by simp; omega)]
theorem hsT_dg {p a b : Nat} (h0 : 0 < p) (hp : p ≤ 1021) (hb : b < p) : dg (hsT p a (hsR p)) b + 1 = cnt p a b := by
  have sq : p * p ≤ 1021 * 1021 := Nat.mul_le_mul hp hp
  unfold hsT
  rw [sk_eq]
  have e1 : (fun x => Nat.shiftRight (hsR p) (Nat.mul 20 (Nat.mod (Nat.mul (Nat.mod (Nat.add (Nat.mul x x) a) p) x) p))) = fun x => hsR p / 2 ^ (20 * ((x * x + a) % p * x % p)) := by
    funext x
    exact Nat.shiftRight_eq_div_pow _ _
  rw [e1, dg_sm]
  · unfold cnt
    rw [sm_range, Nat.add_comm]
    congr 1
    refine sm_congr fun x _ => ?_
    show dg (hsR p / 2 ^ (20 * ((x * x + a) % p * x % p))) b = rt p (cub p a b x)
    have hg := Nat.mod_lt ((x * x + a) % p * x) h0
    rw [dg_div, hsR_rt h0 hp (by omega), Nat.mod_add_mod]
    rfl
  · intro w
    have e : sm (fun x => dg (hsR p / 2 ^ (20 * ((x * x + a) % p * x % p))) w) p ≤ p * p := sm_le fun x _ => by
      show dg (hsR p / 2 ^ (20 * ((x * x + a) % p * x % p))) w ≤ p
      rw [dg_div]
      exact hsR_le h0 hp _
    have : (2 : Nat) ^ 20 = 1048576 := by decide
    omega
theorem hsX_ok {p a b : Nat} (h0 : 0 < p) (hp : p ≤ 1021) (hb : b < p) (h : hsX p a = 0) : cnt p a b ≤ 1100 := by
  unfold hsX at h
  rw [hsF_eq, hsF_eq] at h
  unfold hsD at h
  rw [sk_eq] at h
  have e := sm_none h b hb
  have e : cond (Nat.ble (Nat.mod (Nat.shiftRight (hsT p a (hsR p)) (Nat.mul 20 b)) 1048576) 1099) 0 1 = 0 := e
  have e2 : Nat.mod (Nat.shiftRight (hsT p a (hsR p)) (Nat.mul 20 b)) 1048576 = dg (hsT p a (hsR p)) b := by
    unfold dg
    rw [← Nat.shiftRight_eq_div_pow]
    rfl
  rw [e2] at e
  have k := hsT_dg (a := a) h0 hp hb
  cases z : Nat.ble (dg (hsT p a (hsR p)) b) 1099 with
  | true =>
    have := Nat.le_of_ble_eq_true z
    omega
  | false =>
    rw [z] at e
    cases e
theorem hs_four (k1 k2 k3 k4 v : Nat) : dg ((2 ^ (20 * k1) + 2 ^ (20 * k2)) + (2 ^ (20 * k3) + 2 ^ (20 * k4))) v = ((if v = k1 then 1 else 0) + (if v = k2 then 1 else 0)) + ((if v = k3 then 1 else 0) + (if v = k4 then 1 else 0)) := by
  rw [dg_add, hs_two, hs_two]
  intro w
  rw [hs_two, hs_two]
  split <;> split <;> split <;> split <;> decide
theorem hsY_ok {p g a : Nat} (hp : p ≤ 1021) (ha : a < p) (h : hsY p g = 0) : ∃ w, w < p ∧ (a = w * w * (w * w) % p ∨ a = w * w * (w * w) % p * g % p ∨ a = w * w * (w * w) % p * (g * g) % p ∨ a = w * w * (w * w) % p * (g * g * g) % p) := by
  unfold hsY at h
  rw [hsF_eq] at h
  unfold hsE at h
  rw [sk_eq] at h
  have e := sm_none h a ha
  have e : cond (Nat.ble 1 (Nat.mod (Nat.shiftRight (hsC p g) (Nat.mul 20 a)) 1048576)) 0 1 = 0 := e
  have e2 : Nat.mod (Nat.shiftRight (hsC p g) (Nat.mul 20 a)) 1048576 = dg (hsC p g) a := by
    unfold dg
    rw [← Nat.shiftRight_eq_div_pow]
    rfl
  rw [e2] at e
  have pos : dg (hsC p g) a ≠ 0 := by
    cases z : Nat.ble 1 (dg (hsC p g) a) with
    | true =>
      have := Nat.le_of_ble_eq_true z
      omega
    | false =>
      rw [z] at e
      cases e
  have eC : hsC p g = sm (fun w => (2 ^ (20 * (w * w * (w * w) % p)) + 2 ^ (20 * (w * w * (w * w) % p * g % p))) + (2 ^ (20 * (w * w * (w * w) % p * (g * g) % p)) + 2 ^ (20 * (w * w * (w * w) % p * (g * g * g) % p)))) p := by
    unfold hsC
    rw [sk_eq]
    refine sm_congr fun w _ => ?_
    rw [hsF_eq]
    rfl
  rw [eC, dg_sm] at pos
  · obtain ⟨w, hw, z⟩ := sm_pos pos
    refine ⟨w, hw, ?_⟩
    rw [hs_four] at z
    by_cases z1 : a = w * w * (w * w) % p
    · exact Or.inl z1
    · by_cases z2 : a = w * w * (w * w) % p * g % p
      · exact Or.inr (Or.inl z2)
      · by_cases z3 : a = w * w * (w * w) % p * (g * g) % p
        · exact Or.inr (Or.inr (Or.inl z3))
        · by_cases z4 : a = w * w * (w * w) % p * (g * g * g) % p
          · exact Or.inr (Or.inr (Or.inr z4))
          · rw [if_neg z1, if_neg z2, if_neg z3, if_neg z4] at z
            exact absurd rfl z
  · intro v
    have e : sm (fun w => dg ((2 ^ (20 * (w * w * (w * w) % p)) + 2 ^ (20 * (w * w * (w * w) % p * g % p))) + (2 ^ (20 * (w * w * (w * w) % p * (g * g) % p)) + 2 ^ (20 * (w * w * (w * w) % p * (g * g * g) % p)))) v) p ≤ p * 4 := sm_le fun w _ => by
      show dg ((2 ^ (20 * (w * w * (w * w) % p)) + 2 ^ (20 * (w * w * (w * w) % p * g % p))) + (2 ^ (20 * (w * w * (w * w) % p * (g * g) % p)) + 2 ^ (20 * (w * w * (w * w) % p * (g * g * g) % p)))) v ≤ 4
      rw [hs_four]
      split <;> split <;> split <;> split <;> decide
    have : (2 : Nat) ^ 20 = 1048576 := by decide
    omega
theorem fz_mod (p : Nat) [NeZero p] (n : Nat) : fz p ((n % p : Nat) : Int) = fz p (n : Int) := by
  rw [fz_eq, Int.natCast_emod, Int.emod_emod]
/-- curves of one kind have equally many points (one direction) -/
theorem cnt_iso {p a b u : Nat} (hp : pr p) (h0 : 1 ≤ u) (hu : u < p) : cnt p a b ≤ cnt p (u * u * u * u * a % p) (u * u * u * u * u * u * b % p) := by
  have : NeZero p := ⟨by have := hp.1; omega⟩
  have p0 := fz_p0 p
  have U0 : fz p (u : Int) ≠ 0 := by
    intro z
    have := congrArg Fin.val z
    rw [fz_lt hu] at this
    simp at this
    omega
  have can : ∀ X Y : Fin p, fz p (u : Int) * X = fz p (u : Int) * Y → X = Y := by
    intro X Y e
    have d : fz p (u : Int) * (X - Y) = 0 := by grind
    rcases fz_dom hp _ _ d with g | g
    · exact absurd g U0
    · grind
  have hn : ((pts p a b).map fun P => P.map fun q => (u * u * q.1 % p, u * u * u * q.2 % p)).Nodup := gp_map_nodup (by
    intro x hx y hy e
    rw [pts_mem] at hx hy
    rcases hx with rfl | ⟨x1, x2, rfl, hx1, hx2, _⟩
    · rcases hy with rfl | ⟨y1, y2, rfl, hy1, hy2, _⟩
      · rfl
      · cases e
    · rcases hy with rfl | ⟨y1, y2, rfl, hy1, hy2, _⟩
      · cases e
      · have e : some (u * u * x1 % p, u * u * u * x2 % p) = some (u * u * y1 % p, u * u * u * y2 % p) := e
        have e1 := congrArg (fun n : Nat => fz p (n : Int)) (congrArg Prod.fst (Option.some.inj e))
        have e2 := congrArg (fun n : Nat => fz p (n : Int)) (congrArg Prod.snd (Option.some.inj e))
        simp only [fz_mod, Int.natCast_mul, fz_mul] at e1 e2
        have i1 : fz p (x1 : Int) = fz p (y1 : Int) := can _ _ (can _ _ (by grind))
        have i2 : fz p (x2 : Int) = fz p (y2 : Int) := can _ _ (can _ _ (can _ _ (by grind)))
        rw [fz_inj hx1 hy1 i1, fz_inj hx2 hy2 i2]) (pts_nodup p a b)
  have hs : ((pts p a b).map fun P => P.map fun q => (u * u * q.1 % p, u * u * u * q.2 % p)) ⊆ pts p (u * u * u * u * a % p) (u * u * u * u * u * u * b % p) := by
    intro Q hQ
    obtain ⟨P, hP, rfl⟩ := List.mem_map.mp hQ
    rw [pts_mem] at hP ⊢
    rcases hP with rfl | ⟨x, y, rfl, hx, hy, o⟩
    · exact Or.inl rfl
    · refine Or.inr ⟨u * u * x % p, u * u * u * y % p, rfl, Nat.mod_lt _ p0, Nat.mod_lt _ p0, ?_⟩
      have o := on_iff.mpr o
      refine on_iff.mp ?_
      unfold ec_on at o ⊢
      simp only [fz_mod, Int.natCast_mul, fz_mul]
      generalize fz p (u : Int) = U
      generalize fz p (x : Int) = X at o ⊢
      generalize fz p (y : Int) = Y at o ⊢
      generalize fz p (a : Int) = A at o ⊢
      generalize fz p (b : Int) = B at o ⊢
      have : U * U * U * Y * (U * U * U * Y) = U * U * U * U * U * U * (Y * Y) := by grind
      rw [this, o]
      grind
  have := hn.length_le_of_subset hs
  rwa [List.length_map, pts_len, pts_len] at this
noncomputable def hsZ (p g : Nat) : Nat := Nat.add (Nat.add (Nat.add (hsX p 0) (hsX p 1)) (Nat.add (hsX p g) (hsX p (Nat.mod (Nat.mul g g) p)))) (Nat.add (hsX p (Nat.mod (Nat.mul (Nat.mul g g) g) p)) (hsY p g))
theorem hsZ_ok {p g a b : Nat} (hp : pr p) (h1 : p ≤ 1021) (hg : g < p) (ha : a < p) (hb : b < p) (h : hsZ p g = 0) : cnt p a b ≤ 1100 := by
  have h : ((hsX p 0 + hsX p 1) + (hsX p g + hsX p (g * g % p))) + (hsX p (g * g * g % p) + hsY p g) = 0 := h
  have p0 : 0 < p := by omega
  have p2 := hp.1
  by_cases a0 : a = 0
  · subst a0
    exact hsX_ok p0 h1 hb (by omega)
  · obtain ⟨w, hw, hc⟩ := hsY_ok (g := g) h1 ha (by omega)
    have w0 : 1 ≤ w := by
      apply Nat.pos_of_ne_zero
      intro z
      subst z
      simp at hc
      omega
    have : NeZero p := ⟨by omega⟩
    have key : ∀ r, a = w * w * (w * w) % p * r % p → hsX p (r % p) = 0 → cnt p a b ≤ 1100 := by
      intro r e hr
      have i := pr_inv hp w0 hw
      have hu := Nat.mod_lt (w ^ (p - 2)) p0
      generalize w ^ (p - 2) % p = u at i hu
      have u0 : 1 ≤ u := by
        apply Nat.pos_of_ne_zero
        intro z
        subst z
        simp at i
      have c := cnt_iso (a := a) (b := b) hp u0 hu
      have e2 : u * u * u * u * a % p = r % p := by
        have f : fz p ((u * u * u * u * a : Nat) : Int) = fz p (r : Int) := by
          have f1 : fz p (u : Int) * fz p (w : Int) = 1 := by
            rw [← fz_mul, ← Int.natCast_mul, ← fz_mod, i]
            exact fz_one p
          rw [e]
          simp only [fz_mod, Int.natCast_mul, fz_mul]
          generalize fz p (u : Int) = U at f1 ⊢
          generalize fz p (w : Int) = W at f1 ⊢
          generalize fz p (r : Int) = T
          have : U * U * U * U * (W * W * (W * W) * T) = (U * W) * (U * W) * (U * W) * (U * W) * T := by grind
          rw [this, f1]
          grind
        have := congrArg Fin.val f
        rwa [fz_nat, fz_nat] at this
      rw [e2] at c
      exact Nat.le_trans c (hsX_ok p0 h1 (Nat.mod_lt _ p0) hr)
    rcases hc with z | z | z | z
    · refine key 1 (by rw [Nat.mul_one, Nat.mod_mod]; exact z) ?_
      rw [Nat.mod_eq_of_lt (by omega)]
      omega
    · refine key g z ?_
      rw [Nat.mod_eq_of_lt hg]
      omega
    · exact key (g * g) z (by omega)
    · exact key (g * g * g) z (by omega)
end
section
theorem hs_5 : hsZ 5 2 = 0 := by decide +kernel
theorem hs_7 : hsZ 7 3 = 0 := by decide +kernel
theorem hs_11 : hsZ 11 2 = 0 := by decide +kernel
theorem hs_13 : hsZ 13 2 = 0 := by decide +kernel
theorem hs_17 : hsZ 17 3 = 0 := by decide +kernel
theorem hs_19 : hsZ 19 2 = 0 := by decide +kernel
theorem hs_23 : hsZ 23 5 = 0 := by decide +kernel
theorem hs_29 : hsZ 29 2 = 0 := by decide +kernel
theorem hs_31 : hsZ 31 3 = 0 := by decide +kernel
theorem hs_37 : hsZ 37 2 = 0 := by decide +kernel
theorem hs_41 : hsZ 41 3 = 0 := by decide +kernel
theorem hs_43 : hsZ 43 2 = 0 := by decide +kernel
theorem hs_47 : hsZ 47 5 = 0 := by decide +kernel
theorem hs_53 : hsZ 53 2 = 0 := by decide +kernel
theorem hs_59 : hsZ 59 2 = 0 := by decide +kernel
theorem hs_61 : hsZ 61 2 = 0 := by decide +kernel
theorem hs_67 : hsZ 67 2 = 0 := by decide +kernel
theorem hs_71 : hsZ 71 7 = 0 := by decide +kernel
theorem hs_73 : hsZ 73 5 = 0 := by decide +kernel
theorem hs_79 : hsZ 79 3 = 0 := by decide +kernel
theorem hs_83 : hsZ 83 2 = 0 := by decide +kernel
theorem hs_89 : hsZ 89 3 = 0 := by decide +kernel
theorem hs_97 : hsZ 97 5 = 0 := by decide +kernel
theorem hs_101 : hsZ 101 2 = 0 := by decide +kernel
theorem hs_103 : hsZ 103 3 = 0 := by decide +kernel
theorem hs_107 : hsZ 107 2 = 0 := by decide +kernel
theorem hs_109 : hsZ 109 2 = 0 := by decide +kernel
theorem hs_113 : hsZ 113 3 = 0 := by decide +kernel
theorem hs_127 : hsZ 127 3 = 0 := by decide +kernel
theorem hs_131 : hsZ 131 2 = 0 := by decide +kernel
theorem hs_137 : hsZ 137 3 = 0 := by decide +kernel
theorem hs_139 : hsZ 139 2 = 0 := by decide +kernel
theorem hs_149 : hsZ 149 2 = 0 := by decide +kernel
theorem hs_151 : hsZ 151 3 = 0 := by decide +kernel
theorem hs_157 : hsZ 157 2 = 0 := by decide +kernel
theorem hs_163 : hsZ 163 2 = 0 := by decide +kernel
theorem hs_167 : hsZ 167 5 = 0 := by decide +kernel
theorem hs_173 : hsZ 173 2 = 0 := by decide +kernel
theorem hs_179 : hsZ 179 2 = 0 := by decide +kernel
theorem hs_181 : hsZ 181 2 = 0 := by decide +kernel
theorem hs_191 : hsZ 191 7 = 0 := by decide +kernel
theorem hs_193 : hsZ 193 5 = 0 := by decide +kernel
theorem hs_197 : hsZ 197 2 = 0 := by decide +kernel
theorem hs_199 : hsZ 199 3 = 0 := by decide +kernel
theorem hs_211 : hsZ 211 2 = 0 := by decide +kernel
theorem hs_223 : hsZ 223 3 = 0 := by decide +kernel
theorem hs_227 : hsZ 227 2 = 0 := by decide +kernel
theorem hs_229 : hsZ 229 2 = 0 := by decide +kernel
theorem hs_233 : hsZ 233 3 = 0 := by decide +kernel
theorem hs_239 : hsZ 239 7 = 0 := by decide +kernel
theorem hs_241 : hsZ 241 7 = 0 := by decide +kernel
theorem hs_251 : hsZ 251 2 = 0 := by decide +kernel
theorem hs_257 : hsZ 257 3 = 0 := by decide +kernel
theorem hs_263 : hsZ 263 5 = 0 := by decide +kernel
theorem hs_269 : hsZ 269 2 = 0 := by decide +kernel
theorem hs_271 : hsZ 271 3 = 0 := by decide +kernel
theorem hs_277 : hsZ 277 2 = 0 := by decide +kernel
theorem hs_281 : hsZ 281 3 = 0 := by decide +kernel
theorem hs_283 : hsZ 283 2 = 0 := by decide +kernel
theorem hs_293 : hsZ 293 2 = 0 := by decide +kernel
theorem hs_307 : hsZ 307 2 = 0 := by decide +kernel
theorem hs_311 : hsZ 311 11 = 0 := by decide +kernel
theorem hs_313 : hsZ 313 5 = 0 := by decide +kernel
theorem hs_317 : hsZ 317 2 = 0 := by decide +kernel
theorem hs_331 : hsZ 331 2 = 0 := by decide +kernel
theorem hs_337 : hsZ 337 5 = 0 := by decide +kernel
theorem hs_347 : hsZ 347 2 = 0 := by decide +kernel
theorem hs_349 : hsZ 349 2 = 0 := by decide +kernel
theorem hs_353 : hsZ 353 3 = 0 := by decide +kernel
theorem hs_359 : hsZ 359 7 = 0 := by decide +kernel
theorem hs_367 : hsZ 367 3 = 0 := by decide +kernel
theorem hs_373 : hsZ 373 2 = 0 := by decide +kernel
theorem hs_379 : hsZ 379 2 = 0 := by decide +kernel
theorem hs_383 : hsZ 383 5 = 0 := by decide +kernel
theorem hs_389 : hsZ 389 2 = 0 := by decide +kernel
theorem hs_397 : hsZ 397 2 = 0 := by decide +kernel
theorem hs_401 : hsZ 401 3 = 0 := by decide +kernel
theorem hs_409 : hsZ 409 7 = 0 := by decide +kernel
theorem hs_419 : hsZ 419 2 = 0 := by decide +kernel
theorem hs_421 : hsZ 421 2 = 0 := by decide +kernel
theorem hs_431 : hsZ 431 7 = 0 := by decide +kernel
theorem hs_433 : hsZ 433 5 = 0 := by decide +kernel
theorem hs_439 : hsZ 439 3 = 0 := by decide +kernel
theorem hs_443 : hsZ 443 2 = 0 := by decide +kernel
theorem hs_449 : hsZ 449 3 = 0 := by decide +kernel
theorem hs_457 : hsZ 457 5 = 0 := by decide +kernel
theorem hs_461 : hsZ 461 2 = 0 := by decide +kernel
theorem hs_463 : hsZ 463 3 = 0 := by decide +kernel
theorem hs_467 : hsZ 467 2 = 0 := by decide +kernel
theorem hs_479 : hsZ 479 13 = 0 := by decide +kernel
theorem hs_487 : hsZ 487 3 = 0 := by decide +kernel
theorem hs_491 : hsZ 491 2 = 0 := by decide +kernel
theorem hs_499 : hsZ 499 2 = 0 := by decide +kernel
theorem hs_503 : hsZ 503 5 = 0 := by decide +kernel
theorem hs_509 : hsZ 509 2 = 0 := by decide +kernel
theorem hs_521 : hsZ 521 3 = 0 := by decide +kernel
theorem hs_523 : hsZ 523 2 = 0 := by decide +kernel
theorem hs_541 : hsZ 541 2 = 0 := by decide +kernel
theorem hs_547 : hsZ 547 2 = 0 := by decide +kernel
theorem hs_557 : hsZ 557 2 = 0 := by decide +kernel
theorem hs_563 : hsZ 563 2 = 0 := by decide +kernel
theorem hs_569 : hsZ 569 3 = 0 := by decide +kernel
theorem hs_571 : hsZ 571 2 = 0 := by decide +kernel
theorem hs_577 : hsZ 577 5 = 0 := by decide +kernel
theorem hs_587 : hsZ 587 2 = 0 := by decide +kernel
theorem hs_593 : hsZ 593 3 = 0 := by decide +kernel
theorem hs_599 : hsZ 599 7 = 0 := by decide +kernel
theorem hs_601 : hsZ 601 7 = 0 := by decide +kernel
theorem hs_607 : hsZ 607 3 = 0 := by decide +kernel
theorem hs_613 : hsZ 613 2 = 0 := by decide +kernel
theorem hs_617 : hsZ 617 3 = 0 := by decide +kernel
theorem hs_619 : hsZ 619 2 = 0 := by decide +kernel
theorem hs_631 : hsZ 631 3 = 0 := by decide +kernel
theorem hs_641 : hsZ 641 3 = 0 := by decide +kernel
theorem hs_643 : hsZ 643 2 = 0 := by decide +kernel
theorem hs_647 : hsZ 647 5 = 0 := by decide +kernel
theorem hs_653 : hsZ 653 2 = 0 := by decide +kernel
theorem hs_659 : hsZ 659 2 = 0 := by decide +kernel
theorem hs_661 : hsZ 661 2 = 0 := by decide +kernel
theorem hs_673 : hsZ 673 5 = 0 := by decide +kernel
theorem hs_677 : hsZ 677 2 = 0 := by decide +kernel
theorem hs_683 : hsZ 683 2 = 0 := by decide +kernel
theorem hs_691 : hsZ 691 2 = 0 := by decide +kernel
theorem hs_701 : hsZ 701 2 = 0 := by decide +kernel
theorem hs_709 : hsZ 709 2 = 0 := by decide +kernel
theorem hs_719 : hsZ 719 11 = 0 := by decide +kernel
theorem hs_727 : hsZ 727 3 = 0 := by decide +kernel
theorem hs_733 : hsZ 733 2 = 0 := by decide +kernel
theorem hs_739 : hsZ 739 2 = 0 := by decide +kernel
theorem hs_743 : hsZ 743 5 = 0 := by decide +kernel
theorem hs_751 : hsZ 751 3 = 0 := by decide +kernel
theorem hs_757 : hsZ 757 2 = 0 := by decide +kernel
theorem hs_761 : hsZ 761 3 = 0 := by decide +kernel
theorem hs_769 : hsZ 769 7 = 0 := by decide +kernel
theorem hs_773 : hsZ 773 2 = 0 := by decide +kernel
theorem hs_787 : hsZ 787 2 = 0 := by decide +kernel
theorem hs_797 : hsZ 797 2 = 0 := by decide +kernel
theorem hs_809 : hsZ 809 3 = 0 := by decide +kernel
theorem hs_811 : hsZ 811 2 = 0 := by decide +kernel
theorem hs_821 : hsZ 821 2 = 0 := by decide +kernel
theorem hs_823 : hsZ 823 3 = 0 := by decide +kernel
theorem hs_827 : hsZ 827 2 = 0 := by decide +kernel
theorem hs_829 : hsZ 829 2 = 0 := by decide +kernel
theorem hs_839 : hsZ 839 11 = 0 := by decide +kernel
theorem hs_853 : hsZ 853 2 = 0 := by decide +kernel
theorem hs_857 : hsZ 857 3 = 0 := by decide +kernel
theorem hs_859 : hsZ 859 2 = 0 := by decide +kernel
theorem hs_863 : hsZ 863 5 = 0 := by decide +kernel
theorem hs_877 : hsZ 877 2 = 0 := by decide +kernel
theorem hs_881 : hsZ 881 3 = 0 := by decide +kernel
theorem hs_883 : hsZ 883 2 = 0 := by decide +kernel
theorem hs_887 : hsZ 887 5 = 0 := by decide +kernel
theorem hs_907 : hsZ 907 2 = 0 := by decide +kernel
theorem hs_911 : hsZ 911 7 = 0 := by decide +kernel
theorem hs_919 : hsZ 919 3 = 0 := by decide +kernel
theorem hs_929 : hsZ 929 3 = 0 := by decide +kernel
theorem hs_937 : hsZ 937 5 = 0 := by decide +kernel
theorem hs_941 : hsZ 941 2 = 0 := by decide +kernel
theorem hs_947 : hsZ 947 2 = 0 := by decide +kernel
theorem hs_953 : hsZ 953 3 = 0 := by decide +kernel
theorem hs_967 : hsZ 967 3 = 0 := by decide +kernel
theorem hs_971 : hsZ 971 2 = 0 := by decide +kernel
theorem hs_977 : hsZ 977 3 = 0 := by decide +kernel
theorem hs_983 : hsZ 983 5 = 0 := by decide +kernel
theorem hs_991 : hsZ 991 3 = 0 := by decide +kernel
theorem hs_997 : hsZ 997 2 = 0 := by decide +kernel
theorem hs_1009 : hsZ 1009 11 = 0 := by decide +kernel
theorem hs_1013 : hsZ 1013 2 = 0 := by decide +kernel
theorem hs_1019 : hsZ 1019 2 = 0 := by decide +kernel
theorem hs_1021 : hsZ 1021 2 = 0 := by decide +kernel
end
section
def hsL : List (Nat × Nat) := [(5, 2), (7, 3), (11, 2), (13, 2), (17, 3), (19, 2), (23, 5), (29, 2), (31, 3), (37, 2), (41, 3), (43, 2), (47, 5), (53, 2), (59, 2), (61, 2), (67, 2), (71, 7), (73, 5), (79, 3), (83, 2), (89, 3), (97, 5), (101, 2), (103, 3), (107, 2), (109, 2), (113, 3), (127, 3), (131, 2), (137, 3), (139, 2), (149, 2), (151, 3), (157, 2), (163, 2), (167, 5), (173, 2), (179, 2), (181, 2), (191, 7), (193, 5), (197, 2), (199, 3), (211, 2), (223, 3), (227, 2), (229, 2), (233, 3), (239, 7), (241, 7), (251, 2), (257, 3), (263, 5), (269, 2), (271, 3), (277, 2), (281, 3), (283, 2), (293, 2), (307, 2), (311, 11), (313, 5), (317, 2), (331, 2), (337, 5), (347, 2), (349, 2), (353, 3), (359, 7), (367, 3), (373, 2), (379, 2), (383, 5), (389, 2), (397, 2), (401, 3), (409, 7), (419, 2), (421, 2), (431, 7), (433, 5), (439, 3), (443, 2), (449, 3), (457, 5), (461, 2), (463, 3), (467, 2), (479, 13), (487, 3), (491, 2), (499, 2), (503, 5), (509, 2), (521, 3), (523, 2), (541, 2), (547, 2), (557, 2), (563, 2), (569, 3), (571, 2), (577, 5), (587, 2), (593, 3), (599, 7), (601, 7), (607, 3), (613, 2), (617, 3), (619, 2), (631, 3), (641, 3), (643, 2), (647, 5), (653, 2), (659, 2), (661, 2), (673, 5), (677, 2), (683, 2), (691, 2), (701, 2), (709, 2), (719, 11), (727, 3), (733, 2), (739, 2), (743, 5), (751, 3), (757, 2), (761, 3), (769, 7), (773, 2), (787, 2), (797, 2), (809, 3), (811, 2), (821, 2), (823, 3), (827, 2), (829, 2), (839, 11), (853, 2), (857, 3), (859, 2), (863, 5), (877, 2), (881, 3), (883, 2), (887, 5), (907, 2), (911, 7), (919, 3), (929, 3), (937, 5), (941, 2), (947, 2), (953, 3), (967, 3), (971, 2), (977, 3), (983, 5), (991, 3), (997, 2), (1009, 11), (1013, 2), (1019, 2), (1021, 2)]
set_option maxRecDepth 100000 in
theorem hsL_ok : ∀ q, q ∈ hsL → hsZ q.1 q.2 = 0 := List.forall_mem_cons.mpr ⟨hs_5, List.forall_mem_cons.mpr ⟨hs_7, List.forall_mem_cons.mpr ⟨hs_11, List.forall_mem_cons.mpr ⟨hs_13, List.forall_mem_cons.mpr ⟨hs_17, List.forall_mem_cons.mpr ⟨hs_19, List.forall_mem_cons.mpr ⟨hs_23, List.forall_mem_cons.mpr ⟨hs_29, List.forall_mem_cons.mpr ⟨hs_31, List.forall_mem_cons.mpr ⟨hs_37, List.forall_mem_cons.mpr ⟨hs_41, List.forall_mem_cons.mpr ⟨hs_43, List.forall_mem_cons.mpr ⟨hs_47, List.forall_mem_cons.mpr ⟨hs_53, List.forall_mem_cons.mpr ⟨hs_59, List.forall_mem_cons.mpr ⟨hs_61, List.forall_mem_cons.mpr ⟨hs_67, List.forall_mem_cons.mpr ⟨hs_71, List.forall_mem_cons.mpr ⟨hs_73, List.forall_mem_cons.mpr ⟨hs_79, List.forall_mem_cons.mpr ⟨hs_83, List.forall_mem_cons.mpr ⟨hs_89, List.forall_mem_cons.mpr ⟨hs_97, List.forall_mem_cons.mpr ⟨hs_101, List.forall_mem_cons.mpr ⟨hs_103, List.forall_mem_cons.mpr ⟨hs_107, List.forall_mem_cons.mpr ⟨hs_109, List.forall_mem_cons.mpr ⟨hs_113, List.forall_mem_cons.mpr ⟨hs_127, List.forall_mem_cons.mpr ⟨hs_131, List.forall_mem_cons.mpr ⟨hs_137, List.forall_mem_cons.mpr ⟨hs_139, List.forall_mem_cons.mpr ⟨hs_149, List.forall_mem_cons.mpr ⟨hs_151, List.forall_mem_cons.mpr ⟨hs_157, List.forall_mem_cons.mpr ⟨hs_163, List.forall_mem_cons.mpr ⟨hs_167, List.forall_mem_cons.mpr ⟨hs_173, List.forall_mem_cons.mpr ⟨hs_179, List.forall_mem_cons.mpr ⟨hs_181, List.forall_mem_cons.mpr ⟨hs_191, List.forall_mem_cons.mpr ⟨hs_193, List.forall_mem_cons.mpr ⟨hs_197, List.forall_mem_cons.mpr ⟨hs_199, List.forall_mem_cons.mpr ⟨hs_211, List.forall_mem_cons.mpr ⟨hs_223, List.forall_mem_cons.mpr ⟨hs_227, List.forall_mem_cons.mpr ⟨hs_229, List.forall_mem_cons.mpr ⟨hs_233, List.forall_mem_cons.mpr ⟨hs_239, List.forall_mem_cons.mpr ⟨hs_241, List.forall_mem_cons.mpr ⟨hs_251, List.forall_mem_cons.mpr ⟨hs_257, List.forall_mem_cons.mpr ⟨hs_263, List.forall_mem_cons.mpr ⟨hs_269, List.forall_mem_cons.mpr ⟨hs_271, List.forall_mem_cons.mpr ⟨hs_277, List.forall_mem_cons.mpr ⟨hs_281, List.forall_mem_cons.mpr ⟨hs_283, List.forall_mem_cons.mpr ⟨hs_293, List.forall_mem_cons.mpr ⟨hs_307, List.forall_mem_cons.mpr ⟨hs_311, List.forall_mem_cons.mpr ⟨hs_313, List.forall_mem_cons.mpr ⟨hs_317, List.forall_mem_cons.mpr ⟨hs_331, List.forall_mem_cons.mpr ⟨hs_337, List.forall_mem_cons.mpr ⟨hs_347, List.forall_mem_cons.mpr ⟨hs_349, List.forall_mem_cons.mpr ⟨hs_353, List.forall_mem_cons.mpr ⟨hs_359, List.forall_mem_cons.mpr ⟨hs_367, List.forall_mem_cons.mpr ⟨hs_373, List.forall_mem_cons.mpr ⟨hs_379, List.forall_mem_cons.mpr ⟨hs_383, List.forall_mem_cons.mpr ⟨hs_389, List.forall_mem_cons.mpr ⟨hs_397, List.forall_mem_cons.mpr ⟨hs_401, List.forall_mem_cons.mpr ⟨hs_409, List.forall_mem_cons.mpr ⟨hs_419, List.forall_mem_cons.mpr ⟨hs_421, List.forall_mem_cons.mpr ⟨hs_431, List.forall_mem_cons.mpr ⟨hs_433, List.forall_mem_cons.mpr ⟨hs_439, List.forall_mem_cons.mpr ⟨hs_443, List.forall_mem_cons.mpr ⟨hs_449, List.forall_mem_cons.mpr ⟨hs_457, List.forall_mem_cons.mpr ⟨hs_461, List.forall_mem_cons.mpr ⟨hs_463, List.forall_mem_cons.mpr ⟨hs_467, List.forall_mem_cons.mpr ⟨hs_479, List.forall_mem_cons.mpr ⟨hs_487, List.forall_mem_cons.mpr ⟨hs_491, List.forall_mem_cons.mpr ⟨hs_499, List.forall_mem_cons.mpr ⟨hs_503, List.forall_mem_cons.mpr ⟨hs_509, List.forall_mem_cons.mpr ⟨hs_521, List.forall_mem_cons.mpr ⟨hs_523, List.forall_mem_cons.mpr ⟨hs_541, List.forall_mem_cons.mpr ⟨hs_547, List.forall_mem_cons.mpr ⟨hs_557, List.forall_mem_cons.mpr ⟨hs_563, List.forall_mem_cons.mpr ⟨hs_569, List.forall_mem_cons.mpr ⟨hs_571, List.forall_mem_cons.mpr ⟨hs_577, List.forall_mem_cons.mpr ⟨hs_587, List.forall_mem_cons.mpr ⟨hs_593, List.forall_mem_cons.mpr ⟨hs_599, List.forall_mem_cons.mpr ⟨hs_601, List.forall_mem_cons.mpr ⟨hs_607, List.forall_mem_cons.mpr ⟨hs_613, List.forall_mem_cons.mpr ⟨hs_617, List.forall_mem_cons.mpr ⟨hs_619, List.forall_mem_cons.mpr ⟨hs_631, List.forall_mem_cons.mpr ⟨hs_641, List.forall_mem_cons.mpr ⟨hs_643, List.forall_mem_cons.mpr ⟨hs_647, List.forall_mem_cons.mpr ⟨hs_653, List.forall_mem_cons.mpr ⟨hs_659, List.forall_mem_cons.mpr ⟨hs_661, List.forall_mem_cons.mpr ⟨hs_673, List.forall_mem_cons.mpr ⟨hs_677, List.forall_mem_cons.mpr ⟨hs_683, List.forall_mem_cons.mpr ⟨hs_691, List.forall_mem_cons.mpr ⟨hs_701, List.forall_mem_cons.mpr ⟨hs_709, List.forall_mem_cons.mpr ⟨hs_719, List.forall_mem_cons.mpr ⟨hs_727, List.forall_mem_cons.mpr ⟨hs_733, List.forall_mem_cons.mpr ⟨hs_739, List.forall_mem_cons.mpr ⟨hs_743, List.forall_mem_cons.mpr ⟨hs_751, List.forall_mem_cons.mpr ⟨hs_757, List.forall_mem_cons.mpr ⟨hs_761, List.forall_mem_cons.mpr ⟨hs_769, List.forall_mem_cons.mpr ⟨hs_773, List.forall_mem_cons.mpr ⟨hs_787, List.forall_mem_cons.mpr ⟨hs_797, List.forall_mem_cons.mpr ⟨hs_809, List.forall_mem_cons.mpr ⟨hs_811, List.forall_mem_cons.mpr ⟨hs_821, List.forall_mem_cons.mpr ⟨hs_823, List.forall_mem_cons.mpr ⟨hs_827, List.forall_mem_cons.mpr ⟨hs_829, List.forall_mem_cons.mpr ⟨hs_839, List.forall_mem_cons.mpr ⟨hs_853, List.forall_mem_cons.mpr ⟨hs_857, List.forall_mem_cons.mpr ⟨hs_859, List.forall_mem_cons.mpr ⟨hs_863, List.forall_mem_cons.mpr ⟨hs_877, List.forall_mem_cons.mpr ⟨hs_881, List.forall_mem_cons.mpr ⟨hs_883, List.forall_mem_cons.mpr ⟨hs_887, List.forall_mem_cons.mpr ⟨hs_907, List.forall_mem_cons.mpr ⟨hs_911, List.forall_mem_cons.mpr ⟨hs_919, List.forall_mem_cons.mpr ⟨hs_929, List.forall_mem_cons.mpr ⟨hs_937, List.forall_mem_cons.mpr ⟨hs_941, List.forall_mem_cons.mpr ⟨hs_947, List.forall_mem_cons.mpr ⟨hs_953, List.forall_mem_cons.mpr ⟨hs_967, List.forall_mem_cons.mpr ⟨hs_971, List.forall_mem_cons.mpr ⟨hs_977, List.forall_mem_cons.mpr ⟨hs_983, List.forall_mem_cons.mpr ⟨hs_991, List.forall_mem_cons.mpr ⟨hs_997, List.forall_mem_cons.mpr ⟨hs_1009, List.forall_mem_cons.mpr ⟨hs_1013, List.forall_mem_cons.mpr ⟨hs_1019, List.forall_mem_cons.mpr ⟨hs_1021, (fun q h => absurd h List.not_mem_nil)⟩⟩⟩⟩⟩⟩⟩⟩⟩⟩⟩⟩⟩⟩⟩⟩⟩⟩⟩⟩⟩⟩⟩⟩⟩⟩⟩⟩⟩⟩⟩⟩⟩⟩⟩⟩⟩⟩⟩⟩⟩⟩⟩⟩⟩⟩⟩⟩⟩⟩⟩⟩⟩⟩⟩⟩⟩⟩⟩⟩⟩⟩⟩⟩⟩⟩⟩⟩⟩⟩⟩⟩⟩⟩⟩⟩⟩⟩⟩⟩⟩⟩⟩⟩⟩⟩⟩⟩⟩⟩⟩⟩⟩⟩⟩⟩⟩⟩⟩⟩⟩⟩⟩⟩⟩⟩⟩⟩⟩⟩⟩⟩⟩⟩⟩⟩⟩⟩⟩⟩⟩⟩⟩⟩⟩⟩⟩⟩⟩⟩⟩⟩⟩⟩⟩⟩⟩⟩⟩⟩⟩⟩⟩⟩⟩⟩⟩⟩⟩⟩⟩⟩⟩⟩⟩⟩⟩⟩⟩⟩⟩⟩⟩⟩⟩⟩⟩⟩⟩⟩
noncomputable def lkL (l : List (Nat × Nat)) (p : Nat) : Nat := List.rec (motive := fun _ => Nat) 0 (fun q _ ih => cond (Nat.beq q.1 p) q.2 ih) l
theorem lkL_c (q : Nat × Nat) (l : List (Nat × Nat)) (p : Nat) : lkL (q :: l) p = cond (Nat.beq q.1 p) q.2 (lkL l p) := rfl
theorem lkL_in : ∀ (l : List (Nat × Nat)) (p : Nat), lkL l p ≠ 0 → (p, lkL l p) ∈ l
  | [], p, h => absurd rfl h
  | q :: l, p, h => by
    rw [lkL_c] at h ⊢
    cases e : Nat.beq q.1 p with
    | true =>
      have e1 : q.1 = p := Nat.eq_of_beq_eq_true e
      show (p, q.2) ∈ q :: l
      rw [← e1]
      exact List.mem_cons_self
    | false =>
      rw [e] at h
      exact List.mem_cons_of_mem _ (lkL_in l p h)
noncomputable def hsW (p : Nat) : Nat := sm (fun d => cond (Nat.ble (Nat.mul (Nat.add d 2) (Nat.add d 2)) p) (cond (Nat.beq (Nat.mod p (Nat.add d 2)) 0) 1 0) 0) 30
theorem hsW_ok {p : Nat} (h : pr p) : hsW p = 0 := by
  apply Classical.byContradiction
  intro z
  obtain ⟨d, hd, e⟩ := sm_pos z
  have e : cond (Nat.ble ((d + 2) * (d + 2)) p) (cond (Nat.beq (p % (d + 2)) 0) 1 0) 0 ≠ 0 := e
  cases e1 : Nat.ble ((d + 2) * (d + 2)) p with
  | false => rw [e1] at e; exact e rfl
  | true =>
    rw [e1] at e
    cases e2 : Nat.beq (p % (d + 2)) 0 with
    | false => rw [e2] at e; exact e rfl
    | true => exact h.2 (d + 2) (by omega) (Nat.le_of_ble_eq_true e1) (Nat.eq_of_beq_eq_true e2)
noncomputable def hsV (p : Nat) : Nat := cond (Nat.beq (hsW p) 0) (cond (Nat.ble 1 (lkL hsL p)) (cond (Nat.ble p (lkL hsL p)) 1 0) 1) 0
theorem hsV_all : sk (fun i => hsV (Nat.add i 5)) 1017 = 0 := by decide +kernel
theorem cnt_le {p a b : Nat} (hp : pr p) (h5 : 5 ≤ p) (h1 : p ≤ 1021) (ha : a < p) (hb : b < p) : cnt p a b ≤ 1100 := by
  have z := hsV_all
  rw [sk_eq] at z
  have e := sm_none z (p - 5) (by omega)
  have e : hsV (p - 5 + 5) = 0 := e
  rw [Nat.sub_add_cancel h5] at e
  unfold hsV at e
  rw [hsW_ok hp] at e
  have e : cond (Nat.ble 1 (lkL hsL p)) (cond (Nat.ble p (lkL hsL p)) 1 0) 1 = 0 := e
  cases e1 : Nat.ble 1 (lkL hsL p) with
  | false => rw [e1] at e; cases e
  | true =>
    rw [e1] at e
    cases e2 : Nat.ble p (lkL hsL p) with
    | true => rw [e2] at e; cases e
    | false =>
      have l1 := Nat.le_of_ble_eq_true e1
      have l2 : lkL hsL p < p := by
        apply Nat.lt_of_not_le
        intro w
        rw [Nat.ble_eq_true_of_le w] at e2
        cases e2
      have hq := lkL_in hsL p (by omega)
      generalize lkL hsL p = g at l2 hq
      have hz := hsL_ok (p, g) hq
      simp only at hz
      exact hsZ_ok hp h1 l2 ha hb hz
end
section
-- ===== PART A: goes FIRST, ahead of the names: the tables' words, and 'selects' of the private methods out of them =====
/-- a private method of a class that the tables say can be made, by its rows of tables_1 -/
def lw_okq (q : MethodName × Nat) : Prop := (q.1.cls ≠ "java/lang/invoke/MethodHandle" ∧ q.1.cls ≠ "java/lang/invoke/VarHandle") ∧ Cond.instantiable q.1.cls q.2 ∈ tables_1 ∧ Cond.privateMethod q.1 ∈ tables_1 ∧ Cond.instanceMethod q.1 ∈ tables_1
theorem lw_p0 : lw_okq (⟨"java/lang/Throwable", "fillInStackTrace", "(I)Ljava/lang/Throwable;"⟩, 6) := ⟨⟨by decide +kernel, by decide +kernel⟩, List.mem_of_getElem? (i := 103) (by decide +kernel), List.mem_of_getElem? (i := 101) (by decide +kernel), List.mem_of_getElem? (i := 102) (by decide +kernel)⟩
theorem lw_p1 : lw_okq (⟨"PrimeCurveSigner", "countPoints", "(III)I"⟩, 5) := ⟨⟨by decide +kernel, by decide +kernel⟩, List.mem_of_getElem? (i := 14) (by decide +kernel), List.mem_of_getElem? (i := 133) (by decide +kernel), List.mem_of_getElem? (i := 134) (by decide +kernel)⟩
theorem lw_p2 : lw_okq (⟨"PrimeCurveSigner", "takenCurve", "()LPrimeCurveSigner$Curve;"⟩, 5) := ⟨⟨by decide +kernel, by decide +kernel⟩, List.mem_of_getElem? (i := 14) (by decide +kernel), List.mem_of_getElem? (i := 185) (by decide +kernel), List.mem_of_getElem? (i := 186) (by decide +kernel)⟩
theorem lw_p3 : lw_okq (⟨"PrimeCurveSigner$Curve", "slope", "(II)I"⟩, 5) := ⟨⟨by decide +kernel, by decide +kernel⟩, List.mem_of_getElem? (i := 141) (by decide +kernel), List.mem_of_getElem? (i := 255) (by decide +kernel), List.mem_of_getElem? (i := 256) (by decide +kernel)⟩
theorem lw_p4 : lw_okq (⟨"PrimeCurveSigner$Curve", "pointOfShort", "(J)I"⟩, 5) := ⟨⟨by decide +kernel, by decide +kernel⟩, List.mem_of_getElem? (i := 141) (by decide +kernel), List.mem_of_getElem? (i := 323) (by decide +kernel), List.mem_of_getElem? (i := 324) (by decide +kernel)⟩
theorem lw_p5 : lw_okq (⟨"PrimeCurveSigner$Curve", "pointOfPlain", "(J)I"⟩, 5) := ⟨⟨by decide +kernel, by decide +kernel⟩, List.mem_of_getElem? (i := 141) (by decide +kernel), List.mem_of_getElem? (i := 330) (by decide +kernel), List.mem_of_getElem? (i := 331) (by decide +kernel)⟩
theorem lw_p6 : lw_okq (⟨"PrimeCurveSignerModel", "count", "(III)I"⟩, 15) := ⟨⟨by decide +kernel, by decide +kernel⟩, List.mem_of_getElem? (i := 416) (by decide +kernel), List.mem_of_getElem? (i := 476) (by decide +kernel), List.mem_of_getElem? (i := 477) (by decide +kernel)⟩
theorem lw_p7 : lw_okq (⟨"PrimeCurveSignerModel", "prime", "(I)Z"⟩, 15) := ⟨⟨by decide +kernel, by decide +kernel⟩, List.mem_of_getElem? (i := 416) (by decide +kernel), List.mem_of_getElem? (i := 480) (by decide +kernel), List.mem_of_getElem? (i := 481) (by decide +kernel)⟩
theorem lw_p8 : lw_okq (⟨"PrimeCurveSignerModel", "cube", "(IIII)I"⟩, 15) := ⟨⟨by decide +kernel, by decide +kernel⟩, List.mem_of_getElem? (i := 416) (by decide +kernel), List.mem_of_getElem? (i := 486) (by decide +kernel), List.mem_of_getElem? (i := 487) (by decide +kernel)⟩
theorem lw_p9 : lw_okq (⟨"PrimeCurveSignerModel", "good", "(ZZZ)Z"⟩, 15) := ⟨⟨by decide +kernel, by decide +kernel⟩, List.mem_of_getElem? (i := 416) (by decide +kernel), List.mem_of_getElem? (i := 490) (by decide +kernel), List.mem_of_getElem? (i := 491) (by decide +kernel)⟩
theorem lw_p10 : lw_okq (⟨"PrimeCurveSignerModel", "findBase", "()V"⟩, 15) := ⟨⟨by decide +kernel, by decide +kernel⟩, List.mem_of_getElem? (i := 416) (by decide +kernel), List.mem_of_getElem? (i := 494) (by decide +kernel), List.mem_of_getElem? (i := 495) (by decide +kernel)⟩
theorem lw_p11 : lw_okq (⟨"PrimeCurveSignerModel", "add", "(IIII)V"⟩, 15) := ⟨⟨by decide +kernel, by decide +kernel⟩, List.mem_of_getElem? (i := 416) (by decide +kernel), List.mem_of_getElem? (i := 498) (by decide +kernel), List.mem_of_getElem? (i := 499) (by decide +kernel)⟩
theorem lw_p12 : lw_okq (⟨"PrimeCurveSignerModel", "inverse", "(II)I"⟩, 15) := ⟨⟨by decide +kernel, by decide +kernel⟩, List.mem_of_getElem? (i := 416) (by decide +kernel), List.mem_of_getElem? (i := 502) (by decide +kernel), List.mem_of_getElem? (i := 503) (by decide +kernel)⟩
theorem lw_p13 : lw_okq (⟨"PrimeCurveSignerModel", "find", "(II)I"⟩, 15) := ⟨⟨by decide +kernel, by decide +kernel⟩, List.mem_of_getElem? (i := 416) (by decide +kernel), List.mem_of_getElem? (i := 514) (by decide +kernel), List.mem_of_getElem? (i := 515) (by decide +kernel)⟩
theorem lw_p14 : lw_okq (⟨"PrimeCurveSignerModel", "noRegister", "(I)Z"⟩, 15) := ⟨⟨by decide +kernel, by decide +kernel⟩, List.mem_of_getElem? (i := 416) (by decide +kernel), List.mem_of_getElem? (i := 518) (by decide +kernel), List.mem_of_getElem? (i := 519) (by decide +kernel)⟩
theorem lw_p15 : lw_okq (⟨"PrimeCurveSignerModel", "modulo", "(J)I"⟩, 15) := ⟨⟨by decide +kernel, by decide +kernel⟩, List.mem_of_getElem? (i := 416) (by decide +kernel), List.mem_of_getElem? (i := 534) (by decide +kernel), List.mem_of_getElem? (i := 535) (by decide +kernel)⟩
def lw_privs_1 : List (MethodName × Nat) := [(⟨"java/lang/Throwable", "fillInStackTrace", "(I)Ljava/lang/Throwable;"⟩, 6), (⟨"PrimeCurveSigner", "countPoints", "(III)I"⟩, 5), (⟨"PrimeCurveSigner", "takenCurve", "()LPrimeCurveSigner$Curve;"⟩, 5), (⟨"PrimeCurveSigner$Curve", "slope", "(II)I"⟩, 5), (⟨"PrimeCurveSigner$Curve", "pointOfShort", "(J)I"⟩, 5), (⟨"PrimeCurveSigner$Curve", "pointOfPlain", "(J)I"⟩, 5), (⟨"PrimeCurveSignerModel", "count", "(III)I"⟩, 15), (⟨"PrimeCurveSignerModel", "prime", "(I)Z"⟩, 15), (⟨"PrimeCurveSignerModel", "cube", "(IIII)I"⟩, 15), (⟨"PrimeCurveSignerModel", "good", "(ZZZ)Z"⟩, 15), (⟨"PrimeCurveSignerModel", "findBase", "()V"⟩, 15), (⟨"PrimeCurveSignerModel", "add", "(IIII)V"⟩, 15), (⟨"PrimeCurveSignerModel", "inverse", "(II)I"⟩, 15), (⟨"PrimeCurveSignerModel", "find", "(II)I"⟩, 15), (⟨"PrimeCurveSignerModel", "noRegister", "(I)Z"⟩, 15), (⟨"PrimeCurveSignerModel", "modulo", "(J)I"⟩, 15)]
theorem lw_r1 : ∀ q ∈ lw_privs_1, lw_okq q := List.forall_mem_cons.mpr ⟨lw_p0, List.forall_mem_cons.mpr ⟨lw_p1, List.forall_mem_cons.mpr ⟨lw_p2, List.forall_mem_cons.mpr ⟨lw_p3, List.forall_mem_cons.mpr ⟨lw_p4, List.forall_mem_cons.mpr ⟨lw_p5, List.forall_mem_cons.mpr ⟨lw_p6, List.forall_mem_cons.mpr ⟨lw_p7, List.forall_mem_cons.mpr ⟨lw_p8, List.forall_mem_cons.mpr ⟨lw_p9, List.forall_mem_cons.mpr ⟨lw_p10, List.forall_mem_cons.mpr ⟨lw_p11, List.forall_mem_cons.mpr ⟨lw_p12, List.forall_mem_cons.mpr ⟨lw_p13, List.forall_mem_cons.mpr ⟨lw_p14, List.forall_mem_cons.mpr ⟨lw_p15, fun _ h => absurd h List.not_mem_nil⟩⟩⟩⟩⟩⟩⟩⟩⟩⟩⟩⟩⟩⟩⟩⟩
theorem lw_p16 : lw_okq (⟨"PrimeCurveSignerModel", "bytesOf", "(IZ)J"⟩, 15) := ⟨⟨by decide +kernel, by decide +kernel⟩, List.mem_of_getElem? (i := 416) (by decide +kernel), List.mem_of_getElem? (i := 550) (by decide +kernel), List.mem_of_getElem? (i := 551) (by decide +kernel)⟩
theorem lw_p17 : lw_okq (⟨"PrimeCurveSignerModel", "read", "(IJ)I"⟩, 15) := ⟨⟨by decide +kernel, by decide +kernel⟩, List.mem_of_getElem? (i := 416) (by decide +kernel), List.mem_of_getElem? (i := 561) (by decide +kernel), List.mem_of_getElem? (i := 562) (by decide +kernel)⟩
theorem lw_p18 : lw_okq (⟨"PrimeCurveSignerModel", "stir", "(I)V"⟩, 15) := ⟨⟨by decide +kernel, by decide +kernel⟩, List.mem_of_getElem? (i := 416) (by decide +kernel), List.mem_of_getElem? (i := 573) (by decide +kernel), List.mem_of_getElem? (i := 574) (by decide +kernel)⟩
theorem lw_p19 : lw_okq (⟨"PrimeCurveSignerModel", "mix", "(II)I"⟩, 15) := ⟨⟨by decide +kernel, by decide +kernel⟩, List.mem_of_getElem? (i := 416) (by decide +kernel), List.mem_of_getElem? (i := 577) (by decide +kernel), List.mem_of_getElem? (i := 578) (by decide +kernel)⟩
theorem lw_p20 : lw_okq (⟨"PrimeCurveSignerModel", "fits", "(IJII)Z"⟩, 15) := ⟨⟨by decide +kernel, by decide +kernel⟩, List.mem_of_getElem? (i := 416) (by decide +kernel), List.mem_of_getElem? (i := 590) (by decide +kernel), List.mem_of_getElem? (i := 591) (by decide +kernel)⟩
def lw_privs_2 : List (MethodName × Nat) := [(⟨"PrimeCurveSignerModel", "bytesOf", "(IZ)J"⟩, 15), (⟨"PrimeCurveSignerModel", "read", "(IJ)I"⟩, 15), (⟨"PrimeCurveSignerModel", "stir", "(I)V"⟩, 15), (⟨"PrimeCurveSignerModel", "mix", "(II)I"⟩, 15), (⟨"PrimeCurveSignerModel", "fits", "(IJII)Z"⟩, 15)]
theorem lw_r2 : ∀ q ∈ lw_privs_2, lw_okq q := List.forall_mem_cons.mpr ⟨lw_p16, List.forall_mem_cons.mpr ⟨lw_p17, List.forall_mem_cons.mpr ⟨lw_p18, List.forall_mem_cons.mpr ⟨lw_p19, List.forall_mem_cons.mpr ⟨lw_p20, fun _ h => absurd h List.not_mem_nil⟩⟩⟩⟩⟩
def lw_privs : List (MethodName × Nat) := lw_privs_1 ++ (lw_privs_2)
def lw_tbl : List Cond := k2_sels lw_privs ++ tables_1
theorem lw_privs_ok : ∀ q ∈ lw_privs, lw_okq q := by
  show ∀ q ∈ lw_privs_1 ++ (lw_privs_2), lw_okq q
  exact List.forall_mem_append.mpr ⟨lw_r1, lw_r2⟩
end
section
/-! ===== BEGIN words of one list among another's, by their places ===== -/
theorem goodIn_r {big : List Cond} (ws : List Cond) (ps : List Nat) (hp : ws = ps.filterMap (fun i => big[i]?)) (h : ws.all goodWord = true) : GoodIn big ws := by
  intro w hw
  have h1 := List.all_eq_true.mp h w hw
  rw [hp] at hw
  obtain ⟨i, -, hi⟩ := List.mem_filterMap.mp hw
  have hm : w ∈ big := by first | exact List.mem_of_getElem? hi | exact List.getElem?_mem hi
  exact ⟨hm, good_of_word h1⟩
theorem goodIn_app {big a b : List Cond} (ha : GoodIn big a) (hb : GoodIn big b) : GoodIn big (a ++ b) := fun w h => (List.mem_append.mp h).elim (ha w) (hb w)
theorem goodIn_ca {big a b : List Cond} {c : Cond} (ha : GoodIn big (c :: a)) (hb : GoodIn big b) : GoodIn big (c :: (a ++ b)) := fun w h => (List.mem_cons.mp h).elim (fun e => ha w (List.mem_cons.mpr (Or.inl e))) (fun h => (List.mem_append.mp h).elim (fun h => ha w (List.mem_cons.mpr (Or.inr h))) (hb w))
theorem goodIn_sub {big ws : List Cond} (hm : ∀ w ∈ ws, w ∈ big) (h : ws.all goodWord = true) : GoodIn big ws := fun w hw => ⟨hm w hw, good_of_word (List.all_eq_true.mp h w hw)⟩
/-! ===== END ===== -/

/-! ===== BEGIN exceptions that leave a method, and their catching by the caller (launches without stack traces) ===== -/
section VXA
/-! The laws vx_back, vx_callV, vx_callS, vx_callSW, vx_throw0, vx_throwS follow proofs of the library, with one case more: JvmDerived/Free/Laws.lean (Back.of_free), Shelf42/LK1.lean (callV, callS), Shelf/KitTraced.lean (throwNew0V, throwNewS). -/
/-- where a method has thrown q: the class by its name, the cell, what was written, the world -/
def vx_T (XC : String → State → State → Prop) (st : State) (q : Addr) (t : State) (mc ms : Nat) (free : Addr → Prop) : Prop :=
  ∃ (E : String) (ce : Cell) (L : List Loc), XC E st t ∧ t.heap[q]? = some ce ∧ ce.vm = .none ∧ st.vm.findClass E = some ce.cls ∧ st.WarmedH t.vm ∧ st.sameButNew ({ t with vm := st.vm } : State) L mc ms ∧ ∀ z ∈ L, free z.base
def vx_Q (Qc : Array Value → State → Outcome → State → Prop) (XC : String → State → State → Prop) (mc ms : Nat) (free : Addr → Prop) : Array Value → State → Outcome → State → Prop := fun a st o t =>
  (Qc a st o t ∧ ∃ L, FrameEnd st o t L mc ms ∧ ∀ q ∈ L, free q.base) ∨ ∃ q, o = .threw q ∧ vx_T XC st q t mc ms free
/-- a callee that returns or throws -/
def vx_Met (l : Launch) (y : MethodName) (ws : List Cond) (rm : Room) (Pc : Array Value → State → Prop) (Qc : Array Value → State → Outcome → State → Prop) (XC : String → State → State → Prop) (mc ms : Nat) (free : Addr → Prop) : Prop :=
  MetFree l y (headSpec ws rm) Pc (fun _ _ _ _ _ => True) (vx_Q Qc XC mc ms free)
def vx_Post (XC : String → State → State → Prop) (mc ms : Nat) (free : Addr → Prop) : Pt → Array Value → Addr → Pt → Prop := fun A a q B =>
  ∃ (g : JFrame) (mk : MethodId) (t : State) (L : List Loc) (E : String) (ce : Cell), B.U.heap = t.heap ∧ B.U.vm = t.vm ∧ XC E (A.U.calling g mk a) t ∧ t.heap[q]? = some ce ∧ ce.vm = .none ∧ A.U.vm.findClass E = some ce.cls ∧ B.locs = A.locs ++ L ∧ (∀ z ∈ L, free z.base) ∧ B.cells = A.cells + mc ∧ B.slots = A.slots + ms
def vx_Back (l : Launch) (R : Room) (p : Program) (e : Env) (below : List Frame) (s : State) (sargs : Array Value) (y : MethodName) (len W9 : Nat)
    (Pre : Pt → Array Value → Prop) (Post : Pt → Array Value → Option Value → Pt → Prop) (PostX : Pt → Array Value → Addr → Pt → Prop) : Prop :=
  ∀ (m : MethodId) (meth : Method) (c : Code) (A : Pt) (g : JFrame) (ig : Instr) (mk : MethodId) (a : Array Value),
    Stand p l e R s m sargs below meth c A.U A.locs A.cells A.slots → g.method = m → g.locals.size = c.maxLocals → decode c.code g.pc = .ok (ig, len) →
    2 * g.monitorRoom + (g.stack.map fun v => v.category).sum ≤ W9 → A.U.methodNamed? y = some mk → Pre A a →
    (∃ (v : Option Value) (B : Pt), Stand p l e R s m sargs below meth c B.U B.locs B.cells B.slots ∧ Post A a v B ∧
      Steps p.tables e below (doInvoke e (A.U.setTop g) [] mk a).1 (B.U.setTop { g with pc := g.pc + len, stack := v.toList ++ g.stack })) ∨
    (∃ (q : Addr) (B : Pt), Stand p l e R s m sargs below meth c B.U B.locs B.cells B.slots ∧ PostX A a q B ∧
      Steps p.tables e below (doInvoke e (A.U.setTop g) [] mk a).1 ((B.U.setTop g).pushFrame (.throwing q)))
section Payer
variable {l : Launch} {R : Room} {p : Program} {e : Env} {below : List Frame} {s : State} {sargs : Array Value} {y : MethodName} {len W9 : Nat}
theorem vx_back {ws : List Cond} {rm : Room} {Pc : Array Value → State → Prop} {Qc : Array Value → State → Outcome → State → Prop} {XC : String → State → State → Prop} {mc ms : Nat} {free : Addr → Prop} {bytes : ByteArray} {maxL : Nat} {ret : Option FieldType}
    (hM : vx_Met l y ws rm Pc Qc XC mc ms free) (hblind : FrameBlind Pc) (hrc : rm.cells = mc) (hrs : rm.slots = ms)
    (hframes : rm.frames + 1 ≤ R.frames) (hlocals : W9 + (maxL + 11) + rm.locals ≤ R.locals)
    (hws : ∀ w ∈ ws, ∀ a' U, s.WarmedH U.vm → w.before a' U = true) (hcode : Cond.code y bytes maxL ret ∈ ws) (hinit : ∀ a' U, s.WarmedH U.vm → (Cond.initialized y.cls).before a' U = true) :
    vx_Back l R p e below s sargs y len W9 (PreOf R mc ms Pc) (PostOf Qc mc ms free) (vx_Post XC mc ms free) := by
  intro m meth c A g ig mk a X hg hsize hdg hW hn hp
  have h1 : (headSpec ws rm).pre.before a A.U = true := atoms_intro fun w hw => hws w hw _ _ X.warmed
  have h2 : (Cond.code y bytes maxL ret).before a A.U = true := hws _ hcode _ _ X.warmed
  have h3 : (Cond.initialized y.cls).before a A.U = true := hinit _ _ X.warmed
  have h4 : A.cells + (headSpec ws rm).room.cells ≤ R.cells := by rw [show (headSpec ws rm).room.cells = mc from hrc]; exact hp.1
  have h5 : A.slots + (headSpec ws rm).room.slots ≤ R.slots := by rw [show (headSpec ws rm).room.slots = ms from hrs]; exact hp.2.1
  have hPc : Pc a (A.U.calling g mk a) := hblind _ _ _ _ hp.2.2
  obtain ⟨U, Ls, c0, s0⟩ := A
  dsimp only [Pt.U, Pt.locs, Pt.cells, Pt.slots] at h1 h2 h3 h4 h5 X hn hPc ⊢
  obtain ⟨methY, cY, hmY, hcY, -, hlY, -, -, -, -⟩ := Cond.code_spec hn h2
  obtain ⟨kY, hkY, -⟩ := className_of_methodNamed hn
  have hinitY : kY.init = .initialized := Cond.initialized_spec (findClass_of_methodNamed hn) hkY h3
  have h : At U g.method c below := by rw [hg]; exact X.here
  have hlocals9 : W9 + (maxL + 11) + (headSpec ws rm).room.locals ≤ R.locals := hlocals
  have happ : (headSpec ws rm).appliesLoose y e.platform (U.calling g mk a) = true :=
    Spec.appliesLoose_calling (g := g) h hdg hn hkY hinitY
      (X.room_calling (g := g) (R' := (headSpec ws rm).room) hsize hmY hcY hframes (by rw [hlY]; omega) h4 h5) h1
  obtain ⟨mid, hmid⟩ := h.above
  have hfr : (U.setTop g).frames = (.java g :: mid) ++ below := by rw [State.frames_setTop' g h.top, hmid]; rfl
  obtain ⟨o, s₂, hsteps, -, hend, hq⟩ := Steps.callFree hM p X.admits X.cas X.clock (acts := []) hfr happ hPc trivial
  have hq' : vx_Q Qc XC mc ms free a (U.calling g mk a) o s₂ := hq
  rw [State.frames_setTop' g h.top] at hend
  obtain ⟨g₀, hg0⟩ := Option.isSome_iff_exists.mp h.top
  obtain ⟨r, hr⟩ := State.topJava?_eq_some.mp hg0
  have hr' : (({ U with heap := s₂.heap, slotsUsed := s₂.slotsUsed } : State).setVm s₂.vm).frames = .java g₀ :: r := hr
  rcases hq' with ⟨hqc, L, hfe, hL⟩ | ⟨q, rfl, E, ce, L, hx, hce, hcv, hcl, hW₂, hsm, hL⟩
  · obtain ⟨⟨v, rfl⟩, hW₂, e2, q2, q3, q4, q5, q6⟩ := id hfe
    have e3 : s₂ = ({ (U.calling g mk a).setFrames s₂.frames with heap := s₂.heap, slotsUsed := s₂.slotsUsed } : State).setVm s₂.vm := by
      have : s₂ = ({ s₂ with vm := (U.calling g mk a).vm } : State).setVm s₂.vm := rfl
      rw [e2] at this
      exact this
    obtain ⟨c₂, i₂, len₂, hc₂, hd₂, hf₂⟩ := hend
    have hW' : U.WarmedH s₂.vm := hW₂
    have hcc : c₂ = c := by
      have h1 : s₂.code? g.method = U.code? g.method := by
        rw [State.code?_eq, State.code?_eq, hW'.alike.method?]
      exact Option.some.inj (hc₂.symm.trans (h1.trans h.code))
    subst hcc
    have hlen : len₂ = len := by rw [hdg] at hd₂; cases hd₂; rfl
    subst hlen
    have hs₂ : s₂ = (({ U with heap := s₂.heap, slotsUsed := s₂.slotsUsed } : State).setVm s₂.vm).setTop { g with pc := g.pc + len₂, stack := v.toList ++ g.stack } := by
      refine e3.trans ?_
      rw [hf₂, State.calling_eq h.top, State.setFrames_setFrames, State.setTop_of_frames _ hr', hr]
      rfl
    have hsame : U.sameButNew ({ U with heap := s₂.heap, slotsUsed := s₂.slotsUsed } : State) L mc ms := by
      refine ⟨?_, q2, q3, q4, q5, q6⟩
      obtain ⟨t, ht, -⟩ := State.frames_cons hr
      show ({ U with heap := s₂.heap, slotsUsed := s₂.slotsUsed } : State) = { U.setFrames U.frames with heap := s₂.heap, slotsUsed := s₂.slotsUsed }
      rw [State.setFrames_self ht]
    subst hg
    refine Or.inl ⟨v, ⟨(({ U with heap := s₂.heap, slotsUsed := s₂.slotsUsed } : State).setVm s₂.vm), Ls ++ L, c0 + mc, s0 + ms⟩,
      ⟨X.admits, X.cas, X.clock, X.frames, X.room, X.hears, X.method, X.code, (X.here.setHeapUsed s₂.heap s₂.slotsUsed).setVm hW'.alike, X.tail, State.WarmedH.trans X.warmed hW', X.limits, X.bytes, X.same.trans (hsame.setVm s.vm)⟩,
      ⟨g, mk, s₂, L, rfl, rfl, hqc, rfl, hL, rfl, rfl⟩, ?_⟩
    show Steps p.tables e below _ ((({ U with heap := s₂.heap, slotsUsed := s₂.slotsUsed } : State).setVm s₂.vm).setTop { g with pc := g.pc + len₂, stack := v.toList ++ g.stack })
    rw [← hs₂]
    exact hsteps
  · obtain ⟨e2, q2, q3, q4, q5, q6⟩ := id hsm
    have e3 : s₂ = ({ (U.calling g mk a).setFrames s₂.frames with heap := s₂.heap, slotsUsed := s₂.slotsUsed } : State).setVm s₂.vm := by
      have : s₂ = ({ s₂ with vm := (U.calling g mk a).vm } : State).setVm s₂.vm := rfl
      rw [e2] at this
      exact this
    have hf₂ : s₂.frames = .throwing q :: .java g :: U.frames.tail := hend
    have hW' : U.WarmedH s₂.vm := hW₂
    have hs₂ : s₂ = ((({ U with heap := s₂.heap, slotsUsed := s₂.slotsUsed } : State).setVm s₂.vm).setTop g).pushFrame (.throwing q) := by
      refine e3.trans ?_
      rw [hf₂, State.calling_eq h.top, State.setFrames_setFrames, State.pushFrame, State.frames_setTop _ hr', State.setTop_of_frames _ hr', State.setFrames_setFrames, hr]
      rfl
    have hsame : U.sameButNew ({ U with heap := s₂.heap, slotsUsed := s₂.slotsUsed } : State) L mc ms := by
      refine ⟨?_, q2, q3, q4, q5, q6⟩
      obtain ⟨t, ht, -⟩ := State.frames_cons hr
      show ({ U with heap := s₂.heap, slotsUsed := s₂.slotsUsed } : State) = { U.setFrames U.frames with heap := s₂.heap, slotsUsed := s₂.slotsUsed }
      rw [State.setFrames_self ht]
    subst hg
    refine Or.inr ⟨q, ⟨(({ U with heap := s₂.heap, slotsUsed := s₂.slotsUsed } : State).setVm s₂.vm), Ls ++ L, c0 + mc, s0 + ms⟩,
      ⟨X.admits, X.cas, X.clock, X.frames, X.room, X.hears, X.method, X.code, (X.here.setHeapUsed s₂.heap s₂.slotsUsed).setVm hW'.alike, X.tail, State.WarmedH.trans X.warmed hW', X.limits, X.bytes, X.same.trans (hsame.setVm s.vm)⟩,
      ⟨g, mk, s₂, L, E, ce, rfl, rfl, hx, hce, hcv, hcl, rfl, hL, rfl, rfl⟩, ?_⟩
    show Steps p.tables e below _ (((({ U with heap := s₂.heap, slotsUsed := s₂.slotsUsed } : State).setVm s₂.vm).setTop g).pushFrame (.throwing q))
    rw [← hs₂]
    exact hsteps
end Payer
section Calls
variable {p : Program} {l : Launch} {e : Env} {R : Room} {s : State} {m : MethodId} {args : Array Value} {below : List Frame} {meth : Method} {c : Code} {T : State} {locs : List Loc} {cells slots : Nat}
theorem vx_callV (X : Stand p l e R s m args below meth c T locs cells slots) (hexec : p.tables.exec = Jvm.exec) {own C : String} {index : Nat} {y : MethodName} {bytes : ByteArray} {maxL : Nat} {ret : Option FieldType}
    (hown : s.vm.findClass own = some m.cls) (hlink : (Cond.methodLink own index y).before args s = true) (hinst : (Cond.instanceMethod y).before args s = true) (hsel : (Cond.selects C y y).before args s = true)
    (hcode : (Cond.code y bytes maxL ret).before args s = true) (hy : y.cls ≠ "java/lang/invoke/MethodHandle" ∧ y.cls ≠ "java/lang/invoke/VarHandle")
    {W9 : Nat} {Pre : Pt → Array Value → Prop} {Post : Pt → Array Value → Option Value → Pt → Prop} {PostX : Pt → Array Value → Addr → Pt → Prop} (hK : vx_Back l R p e below s args y 3 W9 Pre Post PostX)
    {b : Addr} {cellB : Cell} (hcell : T.heap[b]? = some cellB) (hobj : cellB.vm.isStatics = false) (hcls : s.vm.findClass C = some cellB.cls)
    {g : JFrame} (hg : g.method = m) (hsize : g.locals.size = c.maxLocals) {argsL rest : List Value} (hlen : ∀ sig, parseMethodDescriptor y.desc = some sig → argsL.length = sig.parameters.length)
    (hstack : g.stack = argsL.reverse ++ .ref b :: rest) (hW : 2 * g.monitorRoom + (rest.map fun v => v.category).sum ≤ W9) (hdg : decode c.code g.pc = .ok (.invokevirtual index, 3))
    (hpre : ∀ vm₁, s.WarmedH vm₁ → Pre ⟨T.setVm vm₁, locs, cells, slots⟩ (Value.ref b :: argsL).toArray) :
    (∃ (v : Option Value) (vm₁ : Vm) (B : Pt), s.WarmedH vm₁ ∧ Stand p l e R s m args below meth c B.U B.locs B.cells B.slots ∧ Post ⟨T.setVm vm₁, locs, cells, slots⟩ (Value.ref b :: argsL).toArray v B ∧
      ∀ target, Steps p.tables e below (B.U.setTop { g with pc := g.pc + 3, stack := v.toList ++ rest }) target → Steps p.tables e below (T.setTop g) target) ∨
    (∃ (q : Addr) (vm₁ : Vm) (B : Pt), s.WarmedH vm₁ ∧ Stand p l e R s m args below meth c B.U B.locs B.cells B.slots ∧ PostX ⟨T.setVm vm₁, locs, cells, slots⟩ (Value.ref b :: argsL).toArray q B ∧
      Steps p.tables e below (T.setTop g) ((B.U.setTop { g with stack := rest }).pushFrame (.throwing q))) := by
  obtain ⟨mk, methM, hnamed, hmethM, hstM, habM⟩ := Cond.instanceMethod_spec hinst
  obtain ⟨methM', cM, hmethM', -, -, -, -, -, -, hsigM⟩ := Cond.code_spec hnamed hcode
  cases hmethM.symm.trans hmethM'
  obtain ⟨c2, r2, m2, q1, q2, q3, q4, kP, hkP, hkPi⟩ := Cond.selects_spec hsel
  cases hcls.symm.trans q1
  cases (State.methodFound?_of_named hnamed hy).symm.trans q2
  cases hnamed.symm.trans q3
  have hselP : selectMethod e.platform s.vm cellB.cls mk = .method mk := by rw [Launch.admits_selectMethod X.admits]; exact q4
  obtain ⟨vm₁, X₁, hstep₁⟩ := X.invokevirtual hexec hown hlink hnamed hmethM hstM hkP hkPi hy (a := b) (cell := cellB) hcell
    (fun z h => by rw [h] at hobj; cases hobj) hselP hmethM habM hkP hkPi (g := g) hg (argsL := argsL) (rest := rest) (hlen _ hsigM) hstack hdg
  rcases hK m meth c ⟨T.setVm vm₁, locs, cells, slots⟩ { g with stack := rest } (.invokevirtual index) mk (Value.ref b :: argsL).toArray X₁ hg hsize hdg hW (X₁.named hnamed) (hpre vm₁ X₁.warmed) with ⟨v, B, X', hpost, hsteps⟩ | ⟨q, B, X', hpost, hsteps⟩
  · exact Or.inl ⟨v, vm₁, B, X₁.warmed, X', hpost, fun target h => hstep₁ _ fun acts => by rw [doInvoke_state]; exact hsteps.trans h⟩
  · exact Or.inr ⟨q, vm₁, B, X₁.warmed, X', hpost, hstep₁ _ fun acts => by rw [doInvoke_state]; exact hsteps⟩
theorem vx_callS (X : Stand p l e R s m args below meth c T locs cells slots) (hexec : p.tables.exec = Jvm.exec) {own : String} {index : Nat} {y : MethodName} {bytes : ByteArray} {maxL : Nat} {ret : Option FieldType}
    (hown : s.vm.findClass own = some m.cls) (hlink : (Cond.methodLink own index y).before args s = true) (hstat : (Cond.static y).before args s = true) (hinit : (Cond.initialized y.cls).before args s = true)
    (hcode : (Cond.code y bytes maxL ret).before args s = true) (hy : y.cls ≠ "java/lang/invoke/MethodHandle" ∧ y.cls ≠ "java/lang/invoke/VarHandle")
    {W9 : Nat} {Pre : Pt → Array Value → Prop} {Post : Pt → Array Value → Option Value → Pt → Prop} {PostX : Pt → Array Value → Addr → Pt → Prop} (hK : vx_Back l R p e below s args y 3 W9 Pre Post PostX)
    {g : JFrame} (hg : g.method = m) (hsize : g.locals.size = c.maxLocals) {argsL rest : List Value} (hlen : ∀ sig, parseMethodDescriptor y.desc = some sig → argsL.length = sig.parameters.length)
    (hstack : g.stack = argsL.reverse ++ rest) (hW : 2 * g.monitorRoom + (rest.map fun v => v.category).sum ≤ W9) (hdg : decode c.code g.pc = .ok (.invokestatic index, 3))
    (hpre : ∀ vm₁, s.WarmedH vm₁ → Pre ⟨T.setVm vm₁, locs, cells, slots⟩ argsL.toArray) :
    (∃ (v : Option Value) (vm₁ : Vm) (B : Pt), s.WarmedH vm₁ ∧ Stand p l e R s m args below meth c B.U B.locs B.cells B.slots ∧ Post ⟨T.setVm vm₁, locs, cells, slots⟩ argsL.toArray v B ∧
      ∀ target, Steps p.tables e below (B.U.setTop { g with pc := g.pc + 3, stack := v.toList ++ rest }) target → Steps p.tables e below (T.setTop g) target) ∨
    (∃ (q : Addr) (vm₁ : Vm) (B : Pt), s.WarmedH vm₁ ∧ Stand p l e R s m args below meth c B.U B.locs B.cells B.slots ∧ PostX ⟨T.setVm vm₁, locs, cells, slots⟩ argsL.toArray q B ∧
      Steps p.tables e below (T.setTop g) ((B.U.setTop { g with stack := rest }).pushFrame (.throwing q))) := by
  obtain ⟨mk, hnamed⟩ := Cond.code_named hcode
  obtain ⟨methM, cM, hmethM, -, -, -, -, -, -, hsigM⟩ := Cond.code_spec hnamed hcode
  have hstatic : methM.isStatic = true := Cond.static_spec hnamed hmethM hstat
  obtain ⟨kP, hkP, -⟩ := className_of_methodNamed hnamed
  have hinitP : kP.init = .initialized := Cond.initialized_spec (findClass_of_methodNamed hnamed) hkP hinit
  obtain ⟨vm₁, X₁, hstep₁⟩ := X.invokestatic hexec hown hlink hnamed hmethM hstatic hkP hinitP hy (g := g) hg (argsL := argsL) (rest := rest) (hlen _ hsigM) hstack hdg
  rcases hK m meth c ⟨T.setVm vm₁, locs, cells, slots⟩ { g with stack := rest } (.invokestatic index) mk argsL.toArray X₁ hg hsize hdg hW (X₁.named hnamed) (hpre vm₁ X₁.warmed) with ⟨v, B, X', hpost, hsteps⟩ | ⟨q, B, X', hpost, hsteps⟩
  · exact Or.inl ⟨v, vm₁, B, X₁.warmed, X', hpost, fun target h => hstep₁ _ fun acts => by rw [doInvoke_state]; exact hsteps.trans h⟩
  · exact Or.inr ⟨q, vm₁, B, X₁.warmed, X', hpost, hstep₁ _ fun acts => by rw [doInvoke_state]; exact hsteps⟩
end Calls
theorem vx_cls {s : State} {T : State} {vm₁ : Vm} {E : String} {k : ClassId} (hW : s.WarmedH vm₁) (h : (T.setVm vm₁).vm.findClass E = some k) : s.vm.findClass E = some k := by
  have h1 : vm₁.findClass E = some k := h
  rw [hW.alike.findClass] at h1
  exact h1
/-- the method's frame g, with q thrown over it -/
def vx_W (p : Program) (l : Launch) (e : Env) (R : Room) (s : State) (m : MethodId) (args : Array Value) (below : List Frame) (meth : Method) (c : Code) (H : Heap) (locs : List Loc) (cells slots : Nat) (Q : State → Prop) (g : JFrame) (q : Addr) : Prop :=
  ∀ T : State, T.heap = H → Stand p l e R s m args below meth c T locs cells slots → ∃ t, Steps p.tables e below ((T.setTop g).pushFrame (.throwing q)) t ∧ Q t
def vx_Run (p : Program) (l : Launch) (e : Env) (R : Room) (s : State) (m : MethodId) (args : Array Value) (below : List Frame) (meth : Method) (c : Code) (H : Heap) (locs : List Loc) (cells slots mc ms : Nat) (g : JFrame) (rest : List Value) (Qa : State → Outcome → State → Prop) (XC : String → State → State → Prop) (free : Addr → Prop) : Prop :=
  ∀ T : State, T.heap = H → Stand p l e R s m args below meth c T locs cells slots →
    (∃ (v : Option Value) (st₀ t T' : State) (L : List Loc), st₀.heap = H ∧ Stand p l e R s m args below meth c T' (locs ++ L) (cells + mc) (slots + ms) ∧ (∀ q ∈ L, free q.base) ∧ T'.heap = t.heap ∧ T'.vm = t.vm ∧ Qa st₀ (.returned v) t ∧
      Goes p e below T g T' { g with pc := g.pc + 3, stack := v.toList ++ rest }) ∨
    (∃ (q : Addr) (st₀ t T' : State) (L : List Loc) (E : String) (ce : Cell), st₀.heap = H ∧ Stand p l e R s m args below meth c T' (locs ++ L) (cells + mc) (slots + ms) ∧ (∀ z ∈ L, free z.base) ∧ T'.heap = t.heap ∧ T'.vm = t.vm ∧ XC E st₀ t ∧ t.heap[q]? = some ce ∧ ce.vm = .none ∧ s.vm.findClass E = some ce.cls ∧
      Steps p.tables e below (T.setTop g) ((T'.setTop { g with stack := rest }).pushFrame (.throwing q)))
def vx_X {S : Type} (px : S → Prop) (B : String → S → State → Prop) (A : Nat → Prop) : String → State → State → Prop := fun E st t => ∃ u : S, px u ∧ B E u t ∧ va_F A st t
section Runs
variable {p : Program} {l : Launch} {e : Env} {R : Room} {s : State} {m : MethodId} {args : Array Value} {below : List Frame} {meth : Method} {c : Code} {H : Heap} {locs : List Loc} {cells slots : Nat}
variable {y : MethodName} {bytes cc : ByteArray} {maxL nL mc ms n index : Nat} {ret : Option FieldType} {ws : List Cond} {rm : Room} {Pc : Array Value → State → Prop} {Qc : Array Value → State → Outcome → State → Prop} {XC : String → State → State → Prop} {free : Addr → Prop} {Ts : List Cond} {own C : String} {b : Addr} {As rest : List Value} {g : JFrame}
theorem vx_callBack (cb : CallB R s args own index y bytes maxL ret ws rm mc ms n) (hM : vx_Met l y ws rm Pc Qc XC mc ms free) (hbl : FrameBlind Pc) : vx_Back l R p e below s args y 3 8 (PreOf R mc ms Pc) (PostOf Qc mc ms free) (vx_Post XC mc ms free) := by
  obtain ⟨hrc, hrs, hfr, hlo, hws, hcw, -, hini, -⟩ := cb
  exact vx_back (bytes := bytes) (maxL := maxL) (ret := ret) hM hbl hrc hrs hfr hlo hws hcw (fun a' U hW => word_at hW (Or.inl (by first | rfl | simp [Cond.onTables, Cond.keeps, Cond.steady])) hini)
theorem vx_runV (S : CallFix p m c cc nL s args Ts own) (hM : vx_Met l y ws rm Pc Qc XC mc ms free) (cw : CallW R s args own C index y bytes maxL ret ws rm mc ms n) (hp : PreV s H C b Pc As)
    (hg : g.method = m) (hn : As.length = n) (hsize : g.locals.size = nL) (hstack : g.stack = As.reverse ++ .ref b :: rest) (hW : 2 * g.monitorRoom + (rest.map fun v => v.category).sum ≤ 8) (hdg : decode cc g.pc = .ok (.invokevirtual index, 3)) (hf : cells + mc ≤ R.cells ∧ slots + ms ≤ R.slots) :
    vx_Run p l e R s m args below meth c H locs cells slots mc ms g rest (Qc (Value.ref b :: As).toArray) XC free := by
  have hK : vx_Back l R p e below s args y 3 8 (PreOf R mc ms Pc) (PostOf Qc mc ms free) (vx_Post XC mc ms free) := vx_callBack cw.1 hM hp.1
  obtain ⟨⟨-, -, -, -, -, -, hcode, -, hy, hlen, hl⟩, hin, hse⟩ := cw
  obtain ⟨hx, hb, hml, ho, -⟩ := S
  obtain ⟨-, ⟨cellB, hcB, hoB, hclB⟩, hPc⟩ := hp
  intro T hT X
  rcases vx_callV X hx (C := C) (bytes := bytes) (maxL := maxL) (ret := ret) ho hl hin hse hcode hy hK (by rw [hT]; exact hcB) hoB hclB hg (hsize.trans hml.symm) (argsL := As) (rest := rest) (fun sig h => hn.trans (hlen sig h)) hstack hW (by rw [hb]; exact hdg)
    (fun vm₁ hW₁ => ⟨hf.1, hf.2, hPc (T.setVm vm₁) hT hW₁⟩) with ⟨v, vm₁, ⟨U', l2, c2, s2⟩, hW₁, X', ⟨g', mk, t, L, e1, e2, hq, h1, hL, h2, h3⟩, st⟩ | ⟨q, vm₁, ⟨U', l2, c2, s2⟩, hW₁, X', ⟨g', mk, t, L, E, ce, e1, e2, hq, hce, hcv, hcl, h1, hL, h2, h3⟩, st⟩
  · dsimp only [Pt.U, Pt.locs, Pt.cells, Pt.slots] at X' e1 e2 h1 h2 h3 st
    subst h1; subst h2; subst h3
    exact Or.inl ⟨v, (T.setVm vm₁).calling g' mk (Value.ref b :: As).toArray, t, U', L, hT, X', hL, e1, e2, hq, st⟩
  · dsimp only [Pt.U, Pt.locs, Pt.cells, Pt.slots] at X' e1 e2 h1 h2 h3 st hcl
    subst h1; subst h2; subst h3
    exact Or.inr ⟨q, (T.setVm vm₁).calling g' mk (Value.ref b :: As).toArray, t, U', L, E, ce, hT, X', hL, e1, e2, hq, hce, hcv, vx_cls hW₁ hcl, st⟩
theorem vx_runS (S : CallFix p m c cc nL s args Ts own) (hM : vx_Met l y ws rm Pc Qc XC mc ms free) (cw : CallB R s args own index y bytes maxL ret ws rm mc ms n ∧ (Cond.static y).before args s = true) (hp : PreS s H Pc As)
    (hg : g.method = m) (hn : As.length = n) (hsize : g.locals.size = nL) (hstack : g.stack = As.reverse ++ rest) (hW : 2 * g.monitorRoom + (rest.map fun v => v.category).sum ≤ 8) (hdg : decode cc g.pc = .ok (.invokestatic index, 3)) (hf : cells + mc ≤ R.cells ∧ slots + ms ≤ R.slots) :
    vx_Run p l e R s m args below meth c H locs cells slots mc ms g rest (Qc As.toArray) XC free := by
  have hK : vx_Back l R p e below s args y 3 8 (PreOf R mc ms Pc) (PostOf Qc mc ms free) (vx_Post XC mc ms free) := vx_callBack cw.1 hM hp.1
  obtain ⟨⟨-, -, -, -, -, -, hcode, hini, hy, hlen, hl⟩, hstt⟩ := cw
  obtain ⟨hx, hb, hml, ho, -⟩ := S
  intro T hT X
  rcases vx_callS X hx (bytes := bytes) (maxL := maxL) (ret := ret) ho hl hstt hini hcode hy hK hg (hsize.trans hml.symm) (argsL := As) (rest := rest) (fun sig h => hn.trans (hlen sig h)) hstack hW (by rw [hb]; exact hdg)
    (fun vm₁ hW₁ => ⟨hf.1, hf.2, hp.2 (T.setVm vm₁) hT hW₁⟩) with ⟨v, vm₁, ⟨U', l2, c2, s2⟩, hW₁, X', ⟨g', mk, t, L, e1, e2, hq, h1, hL, h2, h3⟩, st⟩ | ⟨q, vm₁, ⟨U', l2, c2, s2⟩, hW₁, X', ⟨g', mk, t, L, E, ce, e1, e2, hq, hce, hcv, hcl, h1, hL, h2, h3⟩, st⟩
  · dsimp only [Pt.U, Pt.locs, Pt.cells, Pt.slots] at X' e1 e2 h1 h2 h3 st
    subst h1; subst h2; subst h3
    exact Or.inl ⟨v, (T.setVm vm₁).calling g' mk As.toArray, t, U', L, hT, X', hL, e1, e2, hq, st⟩
  · dsimp only [Pt.U, Pt.locs, Pt.cells, Pt.slots] at X' e1 e2 h1 h2 h3 st hcl
    subst h1; subst h2; subst h3
    exact Or.inr ⟨q, (T.setVm vm₁).calling g' mk As.toArray, t, U', L, E, ce, hT, X', hL, e1, e2, hq, hce, hcv, vx_cls hW₁ hcl, st⟩
end Runs
section Rows
variable {p : Program} {l : Launch} {e : Env} {R : Room} {s : State} {m : MethodId} {args : Array Value} {below : List Frame} {meth : Method} {c : Code} {H : Heap} {locs : List Loc} {cells slots : Nat} {Q : State → Prop}
variable {mc ms : Nat} {free : Addr → Prop} {A0 A1 : Nat → Prop} {H0 : Heap} {a : Array Value} {pc : Nat} {ls : Array Slot} {st0 rest : List Value}
theorem vx_keep {st₀ t T' : State} {L : List Loc} (h0 : st₀.heap = H) (e1 : T'.heap = t.heap) (hS : va_S A0 H0 H locs) (hA : ∀ q, q < H.size → A1 q → A0 q) (hf : ∀ q, free q → A0 q) (hL : ∀ q ∈ L, free q.base) (hF : va_F A1 st₀ t) :
    H.size ≤ T'.heap.size ∧ (∀ q : Nat, q < H.size → ¬ A1 q → T'.heap[q]? = H[q]?) ∧ va_S A0 H0 T'.heap (locs ++ L) := by
  obtain ⟨hz, hk⟩ := hF
  rw [h0] at hz hk
  exact ⟨by rw [e1]; exact hz, fun q h1 h2 => by rw [e1]; exact hk q h1 h2,
    ⟨Nat.le_trans hS.1 (by rw [e1]; exact hz), fun q h1 h2 => by rw [e1, hk q (Nat.lt_of_lt_of_le h1 hS.1) (fun z => h2 (hA q (Nat.lt_of_lt_of_le h1 hS.1) z))]; exact hS.2.1 q h1 h2, fun q hq => by
      rcases List.mem_append.mp hq with h | h
      · exact hS.2.2 q h
      · exact hf _ (hL q h)⟩⟩
theorem vx_calli {S SX : Type} {post : Int32 → S → Prop} {px : SX → Prop} {B : S → State → Prop} {BX : String → SX → State → Prop} {AX : Nat → Prop} (hr : vx_Run p l e R s m args below meth c H locs cells slots mc ms (F0 m pc ls st0) rest (va_Qi post B A1 a) (vx_X px BX AX) free) (hS : va_S A0 H0 H locs) (hA : ∀ q, q < H.size → A1 q → A0 q) (hf : ∀ q, free q → A0 q) (hAX : ∀ q, q < H.size → AX q → A0 q)
    (kx : ∀ (E : String) (ce : Cell) (q9 : Addr) (u : SX) (t : State) (H1 : Heap) (locs1 : List Loc), t.heap = H1 → s.vm.Alike t.vm → px u → BX E u t → H.size ≤ H1.size → (∀ q : Nat, q < H.size → ¬ AX q → H1[q]? = H[q]?) → va_S A0 H0 H1 locs1 → H1[q9]? = some ce → ce.vm = .none → s.vm.findClass E = some ce.cls → vx_W p l e R s m args below meth c H1 locs1 (cells + mc) (slots + ms) Q (F0 m pc ls rest) q9)
    (kk : ∀ (r : Int32) (u : S) (t : State) (H1 : Heap) (locs1 : List Loc), t.heap = H1 → s.vm.Alike t.vm → post r u → B u t → H.size ≤ H1.size → (∀ q : Nat, q < H.size → ¬ A1 q → H1[q]? = H[q]?) → va_S A0 H0 H1 locs1 → W p l e R s m args below meth c H1 locs1 (cells + mc) (slots + ms) Q (F0 m (pc + 3) ls (.int r :: rest))) : W p l e R s m args below meth c H locs cells slots Q (F0 m pc ls st0) := by
  intro T hT X
  rcases hr T hT X with ⟨v, st₀, t, T', L, h0, X', hL, e1, e2, ⟨⟨r, u, hv, hp, hb⟩, hF⟩, st⟩ | ⟨q, st₀, t, T', L, E, ce, h0, X', hL, e1, e2, ⟨u, hp, hb, hF⟩, hce, hcv, hcl, st⟩
  · cases hv
    obtain ⟨k1, k2, k3⟩ := vx_keep h0 e1 hS hA hf hL hF
    obtain ⟨t2, a1, b1⟩ := kk r u t T'.heap (locs ++ L) e1.symm (by rw [← e2]; exact X'.warmed.alike) hp hb k1 k2 k3 T' rfl X'
    exact ⟨t2, st t2 a1, b1⟩
  · obtain ⟨k1, k2, k3⟩ := vx_keep h0 e1 hS hAX hf hL hF
    obtain ⟨t2, a1, b1⟩ := kx E ce q u t T'.heap (locs ++ L) e1.symm (by rw [← e2]; exact X'.warmed.alike) hp hb k1 k2 k3 (by rw [e1]; exact hce) hcv hcl T' rfl X'
    exact ⟨t2, st.trans a1, b1⟩
theorem vx_calll {S SX : Type} {post : Int64 → S → Prop} {px : SX → Prop} {B : S → State → Prop} {BX : String → SX → State → Prop} {AX : Nat → Prop} (hr : vx_Run p l e R s m args below meth c H locs cells slots mc ms (F0 m pc ls st0) rest (va_Ql post B A1 a) (vx_X px BX AX) free) (hS : va_S A0 H0 H locs) (hA : ∀ q, q < H.size → A1 q → A0 q) (hf : ∀ q, free q → A0 q) (hAX : ∀ q, q < H.size → AX q → A0 q)
    (kx : ∀ (E : String) (ce : Cell) (q9 : Addr) (u : SX) (t : State) (H1 : Heap) (locs1 : List Loc), t.heap = H1 → s.vm.Alike t.vm → px u → BX E u t → H.size ≤ H1.size → (∀ q : Nat, q < H.size → ¬ AX q → H1[q]? = H[q]?) → va_S A0 H0 H1 locs1 → H1[q9]? = some ce → ce.vm = .none → s.vm.findClass E = some ce.cls → vx_W p l e R s m args below meth c H1 locs1 (cells + mc) (slots + ms) Q (F0 m pc ls rest) q9)
    (kk : ∀ (r : Int64) (u : S) (t : State) (H1 : Heap) (locs1 : List Loc), t.heap = H1 → s.vm.Alike t.vm → post r u → B u t → H.size ≤ H1.size → (∀ q : Nat, q < H.size → ¬ A1 q → H1[q]? = H[q]?) → va_S A0 H0 H1 locs1 → W p l e R s m args below meth c H1 locs1 (cells + mc) (slots + ms) Q (F0 m (pc + 3) ls (.long r :: rest))) : W p l e R s m args below meth c H locs cells slots Q (F0 m pc ls st0) := by
  intro T hT X
  rcases hr T hT X with ⟨v, st₀, t, T', L, h0, X', hL, e1, e2, ⟨⟨r, u, hv, hp, hb⟩, hF⟩, st⟩ | ⟨q, st₀, t, T', L, E, ce, h0, X', hL, e1, e2, ⟨u, hp, hb, hF⟩, hce, hcv, hcl, st⟩
  · cases hv
    obtain ⟨k1, k2, k3⟩ := vx_keep h0 e1 hS hA hf hL hF
    obtain ⟨t2, a1, b1⟩ := kk r u t T'.heap (locs ++ L) e1.symm (by rw [← e2]; exact X'.warmed.alike) hp hb k1 k2 k3 T' rfl X'
    exact ⟨t2, st t2 a1, b1⟩
  · obtain ⟨k1, k2, k3⟩ := vx_keep h0 e1 hS hAX hf hL hF
    obtain ⟨t2, a1, b1⟩ := kx E ce q u t T'.heap (locs ++ L) e1.symm (by rw [← e2]; exact X'.warmed.alike) hp hb k1 k2 k3 (by rw [e1]; exact hce) hcv hcl T' rfl X'
    exact ⟨t2, st.trans a1, b1⟩
theorem vx_callf {S SX : Type} {post : UInt32 → S → Prop} {px : SX → Prop} {B : S → State → Prop} {BX : String → SX → State → Prop} {AX : Nat → Prop} (hr : vx_Run p l e R s m args below meth c H locs cells slots mc ms (F0 m pc ls st0) rest (va_Qf post B A1 a) (vx_X px BX AX) free) (hS : va_S A0 H0 H locs) (hA : ∀ q, q < H.size → A1 q → A0 q) (hf : ∀ q, free q → A0 q) (hAX : ∀ q, q < H.size → AX q → A0 q)
    (kx : ∀ (E : String) (ce : Cell) (q9 : Addr) (u : SX) (t : State) (H1 : Heap) (locs1 : List Loc), t.heap = H1 → s.vm.Alike t.vm → px u → BX E u t → H.size ≤ H1.size → (∀ q : Nat, q < H.size → ¬ AX q → H1[q]? = H[q]?) → va_S A0 H0 H1 locs1 → H1[q9]? = some ce → ce.vm = .none → s.vm.findClass E = some ce.cls → vx_W p l e R s m args below meth c H1 locs1 (cells + mc) (slots + ms) Q (F0 m pc ls rest) q9)
    (kk : ∀ (r : UInt32) (u : S) (t : State) (H1 : Heap) (locs1 : List Loc), t.heap = H1 → s.vm.Alike t.vm → post r u → B u t → H.size ≤ H1.size → (∀ q : Nat, q < H.size → ¬ A1 q → H1[q]? = H[q]?) → va_S A0 H0 H1 locs1 → W p l e R s m args below meth c H1 locs1 (cells + mc) (slots + ms) Q (F0 m (pc + 3) ls (.float r :: rest))) : W p l e R s m args below meth c H locs cells slots Q (F0 m pc ls st0) := by
  intro T hT X
  rcases hr T hT X with ⟨v, st₀, t, T', L, h0, X', hL, e1, e2, ⟨⟨r, u, hv, hp, hb⟩, hF⟩, st⟩ | ⟨q, st₀, t, T', L, E, ce, h0, X', hL, e1, e2, ⟨u, hp, hb, hF⟩, hce, hcv, hcl, st⟩
  · cases hv
    obtain ⟨k1, k2, k3⟩ := vx_keep h0 e1 hS hA hf hL hF
    obtain ⟨t2, a1, b1⟩ := kk r u t T'.heap (locs ++ L) e1.symm (by rw [← e2]; exact X'.warmed.alike) hp hb k1 k2 k3 T' rfl X'
    exact ⟨t2, st t2 a1, b1⟩
  · obtain ⟨k1, k2, k3⟩ := vx_keep h0 e1 hS hAX hf hL hF
    obtain ⟨t2, a1, b1⟩ := kx E ce q u t T'.heap (locs ++ L) e1.symm (by rw [← e2]; exact X'.warmed.alike) hp hb k1 k2 k3 (by rw [e1]; exact hce) hcv hcl T' rfl X'
    exact ⟨t2, st.trans a1, b1⟩
theorem vx_calld {S SX : Type} {post : UInt64 → S → Prop} {px : SX → Prop} {B : S → State → Prop} {BX : String → SX → State → Prop} {AX : Nat → Prop} (hr : vx_Run p l e R s m args below meth c H locs cells slots mc ms (F0 m pc ls st0) rest (va_Qd post B A1 a) (vx_X px BX AX) free) (hS : va_S A0 H0 H locs) (hA : ∀ q, q < H.size → A1 q → A0 q) (hf : ∀ q, free q → A0 q) (hAX : ∀ q, q < H.size → AX q → A0 q)
    (kx : ∀ (E : String) (ce : Cell) (q9 : Addr) (u : SX) (t : State) (H1 : Heap) (locs1 : List Loc), t.heap = H1 → s.vm.Alike t.vm → px u → BX E u t → H.size ≤ H1.size → (∀ q : Nat, q < H.size → ¬ AX q → H1[q]? = H[q]?) → va_S A0 H0 H1 locs1 → H1[q9]? = some ce → ce.vm = .none → s.vm.findClass E = some ce.cls → vx_W p l e R s m args below meth c H1 locs1 (cells + mc) (slots + ms) Q (F0 m pc ls rest) q9)
    (kk : ∀ (r : UInt64) (u : S) (t : State) (H1 : Heap) (locs1 : List Loc), t.heap = H1 → s.vm.Alike t.vm → post r u → B u t → H.size ≤ H1.size → (∀ q : Nat, q < H.size → ¬ A1 q → H1[q]? = H[q]?) → va_S A0 H0 H1 locs1 → W p l e R s m args below meth c H1 locs1 (cells + mc) (slots + ms) Q (F0 m (pc + 3) ls (.double r :: rest))) : W p l e R s m args below meth c H locs cells slots Q (F0 m pc ls st0) := by
  intro T hT X
  rcases hr T hT X with ⟨v, st₀, t, T', L, h0, X', hL, e1, e2, ⟨⟨r, u, hv, hp, hb⟩, hF⟩, st⟩ | ⟨q, st₀, t, T', L, E, ce, h0, X', hL, e1, e2, ⟨u, hp, hb, hF⟩, hce, hcv, hcl, st⟩
  · cases hv
    obtain ⟨k1, k2, k3⟩ := vx_keep h0 e1 hS hA hf hL hF
    obtain ⟨t2, a1, b1⟩ := kk r u t T'.heap (locs ++ L) e1.symm (by rw [← e2]; exact X'.warmed.alike) hp hb k1 k2 k3 T' rfl X'
    exact ⟨t2, st t2 a1, b1⟩
  · obtain ⟨k1, k2, k3⟩ := vx_keep h0 e1 hS hAX hf hL hF
    obtain ⟨t2, a1, b1⟩ := kx E ce q u t T'.heap (locs ++ L) e1.symm (by rw [← e2]; exact X'.warmed.alike) hp hb k1 k2 k3 (by rw [e1]; exact hce) hcv hcl T' rfl X'
    exact ⟨t2, st.trans a1, b1⟩
theorem vx_callv {S SX : Type} {post : S → Prop} {px : SX → Prop} {B : S → State → Prop} {BX : String → SX → State → Prop} {AX : Nat → Prop} (hr : vx_Run p l e R s m args below meth c H locs cells slots mc ms (F0 m pc ls st0) rest (va_Qv post B A1 a) (vx_X px BX AX) free) (hS : va_S A0 H0 H locs) (hA : ∀ q, q < H.size → A1 q → A0 q) (hf : ∀ q, free q → A0 q) (hAX : ∀ q, q < H.size → AX q → A0 q)
    (kx : ∀ (E : String) (ce : Cell) (q9 : Addr) (u : SX) (t : State) (H1 : Heap) (locs1 : List Loc), t.heap = H1 → s.vm.Alike t.vm → px u → BX E u t → H.size ≤ H1.size → (∀ q : Nat, q < H.size → ¬ AX q → H1[q]? = H[q]?) → va_S A0 H0 H1 locs1 → H1[q9]? = some ce → ce.vm = .none → s.vm.findClass E = some ce.cls → vx_W p l e R s m args below meth c H1 locs1 (cells + mc) (slots + ms) Q (F0 m pc ls rest) q9)
    (kk : ∀ (u : S) (t : State) (H1 : Heap) (locs1 : List Loc), t.heap = H1 → s.vm.Alike t.vm → post u → B u t → H.size ≤ H1.size → (∀ q : Nat, q < H.size → ¬ A1 q → H1[q]? = H[q]?) → va_S A0 H0 H1 locs1 → W p l e R s m args below meth c H1 locs1 (cells + mc) (slots + ms) Q (F0 m (pc + 3) ls (rest))) : W p l e R s m args below meth c H locs cells slots Q (F0 m pc ls st0) := by
  intro T hT X
  rcases hr T hT X with ⟨v, st₀, t, T', L, h0, X', hL, e1, e2, ⟨⟨u, hv, hp, hb⟩, hF⟩, st⟩ | ⟨q, st₀, t, T', L, E, ce, h0, X', hL, e1, e2, ⟨u, hp, hb, hF⟩, hce, hcv, hcl, st⟩
  · cases hv
    obtain ⟨k1, k2, k3⟩ := vx_keep h0 e1 hS hA hf hL hF
    obtain ⟨t2, a1, b1⟩ := kk u t T'.heap (locs ++ L) e1.symm (by rw [← e2]; exact X'.warmed.alike) hp hb k1 k2 k3 T' rfl X'
    exact ⟨t2, st t2 a1, b1⟩
  · obtain ⟨k1, k2, k3⟩ := vx_keep h0 e1 hS hAX hf hL hF
    obtain ⟨t2, a1, b1⟩ := kx E ce q u t T'.heap (locs ++ L) e1.symm (by rw [← e2]; exact X'.warmed.alike) hp hb k1 k2 k3 (by rw [e1]; exact hce) hcv hcl T' rfl X'
    exact ⟨t2, st.trans a1, b1⟩
/-- caught by the row x of this method's table; the rows ahead don't take it -/
theorem vx_catch {own name : String} {E : String} {ce : Cell} {q : Addr} (hown : s.vm.findClass own = some m.cls) (pre : List ExceptionTableEntry) (x : ExceptionTableEntry) (suf : List ExceptionTableEntry) (hsplit : c.exceptionTable.toList = pre ++ x :: suf)
    (hpass : ∀ z ∈ pre, covers z pc = false ∨ (z.catchType ≠ 0 ∧ ∃ nm : String, (Cond.classLink own z.catchType nm).before args s = true ∧ va_Nc E nm s)) (hx : covers x pc = true) (h0 : x.catchType ≠ 0)
    (hlink : (Cond.classLink own x.catchType name).before args s = true) (hcast : (Cond.castable E name).before args s = true) (hcell : H[q]? = some ce) (hv : ce.vm = .none) (hcl : s.vm.findClass E = some ce.cls)
    (kk : W p l e R s m args below meth c H locs cells slots Q (F0 m x.handlerPc ls [.ref q])) : vx_W p l e R s m args below meth c H locs cells slots Q (F0 m pc ls rest) q := by
  intro T hT X
  have hpl : e.platform.magicAccessors = ({} : Platform).magicAccessors := by rw [X.admits.platform]
  obtain ⟨c3, c4, hc3, hc4, hasg⟩ := Cond.castable_spec hcast
  cases Option.some.inj (hc3.symm.trans hcl)
  obtain ⟨c5, hc5, hcl5⟩ := Cond.classLink_spec hown hlink e.platform hpl
  cases Option.some.inj (hc4.symm.trans hc5)
  obtain ⟨vm', X', st⟩ := X.thenCaughtThrough q (g := F0 m pc ls rest) rfl (Steps.refl _) (by rw [hT]; exact hcell) (by rw [hv]; rfl) (by obtain ⟨k9, h9, -⟩ := Vm.findClass_spec hcl; exact ⟨k9, h9⟩) pre x suf hsplit
    (fun z hz => by
      rcases hpass z hz with h | ⟨hz0, nm, hl1, hn1⟩
      · exact Or.inl h
      · obtain ⟨c6, hc6, hcl6⟩ := Cond.classLink_spec hown hl1 e.platform hpl
        obtain ⟨a8, b8, h1, h2, h3⟩ := hn1
        cases Option.some.inj (h1.symm.trans hcl)
        cases Option.some.inj (h2.symm.trans hc6)
        exact Or.inr ⟨hz0, _, hcl6, h3⟩) hx (Or.inr ⟨h0, c4, hcl5, hasg⟩)
  obtain ⟨t, a1, b1⟩ := kk (T.setVm vm') hT X'
  exact ⟨t, st.trans a1, b1⟩
end Rows
section Ends
variable {p : Program} {l : Launch} {e : Env} {R : Room} {s : State} {m : MethodId} {args : Array Value} {below : List Frame} {meth : Method} {c : Code} {H : Heap} {locs : List Loc} {cells slots : Nat} {Q : State → Prop}
variable {mc ms : Nat} {free : Addr → Prop} {A0 A1 : Nat → Prop} {H0 : Heap} {a : Array Value} {ls : Array Slot} {st0 rest : List Value}
variable {Qc : Array Value → State → Outcome → State → Prop} {XC : String → State → State → Prop}
/-- what a body that may throw owes at its end -/
def vx_MQ (below : List Frame) (Qc : Array Value → State → Outcome → State → Prop) (XC : String → State → State → Prop) (a : Array Value) (s : State) (mc ms : Nat) (free : Addr → Prop) : State → Prop := fun t =>
  ∃ o, t.status = .running ∧ Ended t below o ∧ vx_Q Qc XC mc ms free a s o t
theorem vx_ret {g : JFrame} {mc ms : Nat} (k : W p l e R s m args below meth c H locs cells slots (MQ below Qc args s mc ms free) g) : W p l e R s m args below meth c H locs cells slots (vx_MQ below Qc XC args s mc ms free) g := by
  intro T hT X
  obtain ⟨t, a1, o, b1, b2, b3, b4⟩ := k T hT X
  exact ⟨t, a1, o, b1, b2, Or.inl ⟨b3, b4⟩⟩
/-- not caught here: it goes on to the caller -/
theorem vx_widen {g : JFrame} {q : Addr} {k n : Nat} (h1 : cells ≤ k) (h2 : slots ≤ n) (kk : vx_W p l e R s m args below meth c H locs k n Q g q) : vx_W p l e R s m args below meth c H locs cells slots Q g q := fun T hT X => kk T hT (stand_widen X h1 h2)
theorem vx_out {pc : Nat} {E : String} {ce : Cell} {q : Addr} {mc ms : Nat} (hout : ∀ x ∈ c.exceptionTable.toList, covers x pc = false) (hlocks : meth.locks = false) (hcell : H[q]? = some ce) (hv : ce.vm = .none) (hcl : s.vm.findClass E = some ce.cls)
    (hx : ∀ t : State, t.heap = H → s.vm.Alike t.vm → XC E s t) (hf : ∀ z ∈ locs, free z.base) (hc : cells ≤ mc) (hs : slots ≤ ms) :
    vx_W p l e R s m args below meth c H locs cells slots (vx_MQ below Qc XC args s mc ms free) (F0 m pc ls rest) q := by
  intro T hT X
  obtain ⟨st1, hrun, hend, hW, hsm⟩ := X.leaveThrown q (g := F0 m pc ls rest) rfl rfl rfl hout hlocks
  have hcell9 : (T.setFrames (.throwing q :: below)).heap[q]? = some ce := by
    show T.heap[q]? = some ce
    rw [hT]; exact hcell
  exact ⟨_, st1, .threw q, hrun, hend, Or.inr ⟨q, rfl, E, ce, locs, hx _ hT hW.alike, hcell9, hv, hcl, hW, hsm.mono hc hs, hf⟩⟩
theorem vx_frame {U : State} {k n : Nat} (h : s.sameButNew ({ U with vm := s.vm } : State) locs k n) : s.heap.size ≤ U.heap.size ∧ ∀ q : Nat, q < s.heap.size → (∀ z ∈ locs, z.base ≠ q) → U.heap[q]? = s.heap[q]? := by
  obtain ⟨-, h2, -, -, -, h6⟩ := h
  refine ⟨h2, fun q hq hz => ?_⟩
  obtain ⟨c9, e1, e2, e3, e4⟩ := h6 q _ (Array.getElem?_eq_getElem hq)
  have hs : c9.slots = (s.heap[q]).slots := Array.ext_getElem? fun i => e4 i fun hm => hz _ hm rfl
  have h9 : c9 = s.heap[q] := by
    rw [hs] at e2
    exact e2
  have e5 : U.heap[q]? = some c9 := e1
  rw [e5, h9, Array.getElem?_eq_getElem hq]
/-- the words of a throw but the four that speak of the heap -/
def vx_no (w : Cond) : Bool := decide (w ≠ .isRef (.static Jvm.Bundle.tN "UNASSIGNED_STACK" Jvm.Bundle.steD)) && decide (w ≠ .isRef (.static Jvm.Bundle.tN "SUPPRESSED_SENTINEL" Jvm.Bundle.listD)) && decide (w ≠ .laysStatic Jvm.Bundle.tN "UNASSIGNED_STACK" Jvm.Bundle.steD) && decide (w ≠ .laysStatic Jvm.Bundle.tN "SUPPRESSED_SENTINEL" Jvm.Bundle.listD)
def vx_at0 (own : String) (ic : Nat) (X : String) (names : List String) : List Cond := (Jvm.Bundle.ownAtoms0 own ic X names).filter vx_no
def vx_atS (own : String) (ic : Nat) (X : String) (names : List String) : List Cond := (Jvm.Bundle.ownAtoms own ic X names).filter vx_no
/-- a word that the tables alone decide, or a good one -/
def vx_ot (w : Cond) : Bool := w.onTables || goodWord w
theorem vx_ot_at {args a' : Array Value} {s U : State} {w : Cond} (hW : s.WarmedH U.vm) (hvm : s.vm = U.vm) (hg : vx_ot w = true) (h : w.before args s = true) : w.before a' U = true := by
  simp only [vx_ot, Bool.or_eq_true] at hg
  rcases hg with hg | hg
  · exact va_tabs hg hvm h
  · exact word_at hW (good_of_word hg) h
/-- a list's words: the good ones out of the method's own list, the others by premises of their own -/
theorem vx_hat {args : Array Value} {s : State} {L B : List Cond} (h1 : ∀ w ∈ L.filter goodWord, w.before args s = true) (h2 : ∀ w ∈ L.filter (fun w => !goodWord w), w ∈ B) (h3 : ∀ w ∈ B, w.before args s = true) : ∀ w ∈ L, w.before args s = true := by
  intro w hw
  by_cases g : goodWord w = true
  · exact h1 w (List.mem_filter.mpr ⟨hw, g⟩)
  · refine h3 w (h2 w (List.mem_filter.mpr ⟨hw, ?_⟩))
    show (!goodWord w) = true
    cases hgw : goodWord w
    · rfl
    · exact absurd hgw g
theorem vx_c {args : Array Value} {s : State} {w : Cond} {B : List Cond} (h : w.before args s = true) (t : ∀ w ∈ B, w.before args s = true) : ∀ w' ∈ w :: B, w'.before args s = true := fun w' h' => (List.mem_cons.mp h').elim (fun e => by rw [e]; exact h) (t w')
theorem vx_n {args : Array Value} {s : State} : ∀ w ∈ ([] : List Cond), w.before args s = true := fun _ h => nomatch h
theorem vx_own {args : Array Value} {s : State} {L : List Cond} (h1 : ∀ w ∈ L.filter vx_no, w.before args s = true)
    (hU : (Cond.isRef (.static Jvm.Bundle.tN "UNASSIGNED_STACK" Jvm.Bundle.steD)).before args s = true) (hN : (Cond.isRef (.static Jvm.Bundle.tN "SUPPRESSED_SENTINEL" Jvm.Bundle.listD)).before args s = true)
    (lU : (Cond.laysStatic Jvm.Bundle.tN "UNASSIGNED_STACK" Jvm.Bundle.steD).before args s = true) (lN : (Cond.laysStatic Jvm.Bundle.tN "SUPPRESSED_SENTINEL" Jvm.Bundle.listD).before args s = true) : ∀ w ∈ L, w.before args s = true := by
  intro w hw
  by_cases e1 : w = .isRef (.static Jvm.Bundle.tN "UNASSIGNED_STACK" Jvm.Bundle.steD)
  · rw [e1]; exact hU
  · by_cases e2 : w = .isRef (.static Jvm.Bundle.tN "SUPPRESSED_SENTINEL" Jvm.Bundle.listD)
    · rw [e2]; exact hN
    · by_cases e3 : w = .laysStatic Jvm.Bundle.tN "UNASSIGNED_STACK" Jvm.Bundle.steD
      · rw [e3]; exact lU
      · by_cases e4 : w = .laysStatic Jvm.Bundle.tN "SUPPRESSED_SENTINEL" Jvm.Bundle.listD
        · rw [e4]; exact lN
        · exact h1 w (List.mem_filter.mpr ⟨hw, by unfold vx_no; rw [decide_eq_true e1, decide_eq_true e2, decide_eq_true e3, decide_eq_true e4]; rfl⟩)
/-- where a static field lies, its class's statics cell in H -/
def vx_L (C n d : String) (A : Nat → Prop) (U : State) (H : Heap) : Prop := ∃ (c : ClassId) (k : Class) (i : Nat) (f : Field) (a : Nat) (cell : Cell), U.vm.findClass C = some c ∧ U.fieldFound? C n d = some (c, k, i, f) ∧ f.isStatic = true ∧ k.statics = some a ∧ H[a]? = some cell ∧ cell.vm.isStatics = true ∧ cell.cls = c ∧ f.slot < cell.slots.size ∧ k.staticTypes[f.slot]? = some f.type ∧ ¬ A a
theorem vx_L.moved {C n d : String} {A : Nat → Prop} {u U : State} {H : Heap} (hvm : u.vm.Alike U.vm) (h : vx_L C n d A u H) : vx_L C n d A U H := by
  obtain ⟨c, k, i, f, a, cell, h1, h2, h3, h4, h5, h6, h7, h8, h9, h10⟩ := h
  obtain ⟨k', hi', he⟩ := State.fieldFound?_setVm hvm h2
  exact ⟨c, k', i, f, a, cell, by rw [hvm.findClass]; exact h1, hi', h3, by rw [he]; exact h4, h5, h6, h7, h8, by rw [he]; exact h9, h10⟩
theorem vx_L.kept {C n d : String} {A : Nat → Prop} {U : State} {H H1 : Heap} (h : vx_L C n d A U H) (hq : ∀ a : Nat, a < H.size → ¬ A a → H1[a]? = H[a]?) : vx_L C n d A U H1 := by
  obtain ⟨c, k, i, f, a, cell, h1, h2, h3, h4, h5, h6, h7, h8, h9, h10⟩ := h
  exact ⟨c, k, i, f, a, cell, h1, h2, h3, h4, by rw [hq a (Array.getElem?_eq_some_iff.mp h5).1 h10]; exact h5, h6, h7, h8, h9, h10⟩
theorem vx_L.narrow {C n d : String} {A B : Nat → Prop} {U : State} {H : Heap} (h : vx_L C n d A U H) (hAB : ∀ q, B q → A q) : vx_L C n d B U H := by
  obtain ⟨c, k, i, f, a, cell, h1, h2, h3, h4, h5, h6, h7, h8, h9, h10⟩ := h
  exact ⟨c, k, i, f, a, cell, h1, h2, h3, h4, h5, h6, h7, h8, h9, fun z => h10 (hAB _ z)⟩
theorem vx_L.word {C n d : String} {A : Nat → Prop} {s : State} {args : Array Value} (h : vx_L C n d A s s.heap) : (Cond.laysStatic C n d).before args s = true := by
  obtain ⟨c, k, i, f, a, cell, h1, h2, h3, h4, h5, h6, h7, h8, h9, -⟩ := h
  show (Cond.laysStatic C n d).holds args s none s [] = true
  exact Cond.laysStatic_of h1 h2 h3 h4 h5 h6 h7 h8 h9
/-- .. and what it holds: null or some reference -/
def vx_Zq (C n d : String) (A : Nat → Prop) (U : State) (H : Heap) : Prop := va_Zq C n d A U H ∧ vx_L C n d A U H
theorem vx_Zq.moved {C n d : String} {A : Nat → Prop} {u U : State} {H : Heap} (hvm : u.vm.Alike U.vm) (h : vx_Zq C n d A u H) : vx_Zq C n d A U H := ⟨va_Zq.moved hvm h.1, vx_L.moved hvm h.2⟩
theorem vx_Zq.kept {C n d : String} {A : Nat → Prop} {U : State} {H H1 : Heap} (h : vx_Zq C n d A U H) (hq : ∀ a : Nat, a < H.size → ¬ A a → H1[a]? = H[a]?) : vx_Zq C n d A U H1 := ⟨va_Zq.kept h.1 hq, vx_L.kept h.2 hq⟩
theorem vx_Zq.narrow {C n d : String} {A B : Nat → Prop} {U : State} {H : Heap} (h : vx_Zq C n d A U H) (hAB : ∀ q, B q → A q) : vx_Zq C n d B U H := ⟨va_Zq.narrow h.1 hAB, vx_L.narrow h.2 hAB⟩
theorem vx_Zqof {args : Array Value} {s : State} {C n d : String} {A : Nat → Prop} (hl : (Cond.laysStatic C n d).before args s = true) (hini : (Cond.initialized C).before args s = true) (h : (Cond.isRef (.static C n d)).before args s = true) (hA : ∀ a : Nat, a < s.heap.size → ¬ A a) : vx_Zq C n d A s s.heap := by
  refine ⟨va_Zqof hl hini h hA, ?_⟩
  obtain ⟨c, k, i, f, a, cell, h1, h2, h3, h4, h5, h6, h7, h8, h9⟩ := Cond.laysStatic_spec hl
  exact ⟨c, k, i, f, a, cell, h1, h2, h3, h4, h5, h6, h7, h8, h9, hA a (Array.getElem?_eq_some_iff.mp h5).1⟩
theorem vx_isRef {C n d : String} {v : Value} {A : Nat → Prop} {s : State} {args : Array Value} (h : va_Z C n d v A s s.heap) (hv : v.isRef = true) : (Cond.isRef (.static C n d)).before args s = true := by
  obtain ⟨cf, kf, fi, f, a, cell, h1, h2, h3, h4, h5, h6, h7, -⟩ := h
  have he : (Term.static C n d).eval args s none [] s = some v := by
    simp [Term.eval, State.fieldNamed?, h1, h2, h4, h5, h6, h7]
  simp only [Cond.before, Cond.holds, Cond.value, he]
  cases v <;> simp_all [Value.isRef]
theorem vx_isRefq {C n d : String} {A : Nat → Prop} {s : State} {args : Array Value} (h : va_Zq C n d A s s.heap) : (Cond.isRef (.static C n d)).before args s = true := by
  rcases h with h | ⟨t, h⟩
  · exact vx_isRef h rfl
  · exact vx_isRef h rfl
/-- the same frame, seen from here: as if the method were called anew in this heap -/
theorem vx_rebase {T : State} (X : Stand p l e R s m args below meth c T locs cells slots) {R' : Room} (hf : R'.frames ≤ R.frames) (hl : R'.locals ≤ R.locals) (hc : cells + R'.cells ≤ R.cells) (hs : slots + R'.slots ≤ R.slots) :
    Stand p l e R' ((T.setVm s.vm).setFrames (.invoking m args :: below)) m args below meth c T [] 0 0 := by
  have htop : (T.setVm s.vm).topJava?.isSome := X.here.top
  have hF : ((T.setVm s.vm).setFrames (.invoking m args :: below)).frames = .invoking m args :: below := State.frames_setFrames _ (State.cur_lt_of_top htop)
  obtain ⟨g₀, hg0⟩ := Option.isSome_iff_exists.mp htop
  obtain ⟨r, hr⟩ := State.topJava?_eq_some.mp hg0
  have hl9 : e.platform.stackLimits (T.setVm s.vm).me = e.platform.stackLimits s.me := X.limits
  have hb9 : (T.setVm s.vm).me.stackBytes = s.me.stackBytes := X.bytes
  refine ⟨X.admits, X.cas, X.clock, hF, ?_, X.hears, X.method, X.code, X.here, X.tail, X.warmed, ?_, ?_, ?_⟩
  · have h := X.room
    have hU : ((T.setVm s.vm).setFrames (.invoking m args :: below)).localsInUse = s.localsInUse := by
      rw [State.localsInUse_invoking hF (meth := meth) (c := c) X.method X.code, State.localsInUse_invoking X.frames X.method X.code]
    simp only [State.hasRoom, Bool.and_eq_true, decide_eq_true_eq] at h ⊢
    obtain ⟨⟨⟨⟨h1, h2, h3, h4, h5, h6⟩, h7⟩, h8⟩, h9⟩ := h
    rw [X.frames, List.length_cons] at h2 h3
    have q1 := X.heapSize
    have q2 := X.used
    simp only [hF, hU, List.length_cons, State.stackLimits_setFrames, State.stackBytes_setFrames, hl9, hb9]
    refine ⟨⟨⟨⟨by omega, by omega, by omega, by omega, by omega, h6⟩, ?_⟩, ?_⟩, X.book⟩
    · show T.heap.size + R'.cells ≤ e.platform.maxCells
      omega
    · show T.slotsUsed + R'.slots ≤ e.platform.maxSlots
      omega
  · rw [State.stackLimits_setFrames]; rfl
  · rw [State.stackBytes_setFrames]; rfl
  · refine ⟨?_, Nat.le_refl _, Nat.le_refl _, ?_, ?_, fun a c9 h9 => ⟨c9, h9, rfl, rfl, fun _ _ => rfl⟩⟩
    · obtain ⟨t, ht, -⟩ := State.frames_cons hr
      show T.setVm s.vm = { ((T.setVm s.vm).setFrames (.invoking m args :: below)).setFrames (T.setVm s.vm).frames with heap := T.heap, slotsUsed := T.slotsUsed }
      rw [State.setFrames_setFrames, State.setFrames_self ht]
      rfl
    · show T.slotsUsed = T.slotsUsed + ((T.heap.toList.drop T.heap.size).map (·.slots.size)).sum
      rw [List.drop_eq_nil_of_le (Nat.le_of_eq Array.length_toList)]
      rfl
    · show ((T.heap.toList.drop T.heap.size).map (·.slots.size)).sum ≤ 0
      rw [List.drop_eq_nil_of_le (Nat.le_of_eq Array.length_toList)]
      exact Nat.le_refl _
/-- 'throw new E()': new; dup; invokespecial; athrow -/
theorem vx_throw0 {cc : ByteArray} {pc : Nat} (hexec : p.tables.exec = Jvm.exec) (hb : c.code = cc) (hl : l.stackTraces = false) {own cls : String} {names : List String} {ik ic mc ms : Nat} {A : Nat → Prop}
    (hown : s.vm.findClass own = some m.cls) (hcls : Jvm.Bundle.fit cls = true) (hnames : ∀ n ∈ names, Jvm.Bundle.fit n = true)
    (hk : (Cond.classLink own ik cls).before args s = true) (hini : (Cond.initialized cls).before args s = true) (hat : ∀ w ∈ vx_at0 own ic cls names, w.before args s = true)
    (hgood : ∀ w ∈ Cond.classLink own ik cls :: Cond.initialized cls :: vx_at0 own ic cls names, vx_ot w = true)
    (hU : vx_Zq Jvm.Bundle.tN "UNASSIGNED_STACK" Jvm.Bundle.steD A s s.heap) (hN : vx_Zq Jvm.Bundle.tN "SUPPRESSED_SENTINEL" Jvm.Bundle.listD A s s.heap) (hS : va_S A s.heap H locs) (hsize : ls.size = c.maxLocals)
    (d0 : decode cc pc = .ok (.new ik, 3)) (d3 : decode cc (pc + 3) = .ok (.dup, 1)) (d4 : decode cc (pc + 4) = .ok (.invokespecial ic, 3)) (d7 : decode cc (pc + 7) = .ok (.athrow, 1))
    (hout : ∀ x ∈ c.exceptionTable.toList, covers x (pc + 7) = false)
    (hRframes : names.length + 3 < R.frames) (hRlocals : (rest.map fun v => v.category).sum + (13 * (names.length + 1) + 42) ≤ R.locals) (hRcells : cells + 1 ≤ R.cells) (hRslots : slots + 6 ≤ R.slots) (hlocks : meth.locks = false)
    (hx : ∀ t : State, s.vm.Alike t.vm → H.size ≤ t.heap.size → (∀ q : Nat, q < H.size → t.heap[q]? = H[q]?) → XC cls s t)
    (hf : ∀ z ∈ locs, free z.base) (hc : cells + 1 ≤ mc) (hs : slots + 6 ≤ ms) :
    W p l e R s m args below meth c H locs cells slots (vx_MQ below Qc XC args s mc ms free) (F0 m pc ls rest) := by
  intro T hT X
  have htr : e.platform.stackTraces = false := (show e.platform.stackTraces = l.stackTraces by rw [X.admits.platform]).trans hl
  have Y := vx_rebase X (R' := { frames := R.frames, locals := R.locals, cells := 1, slots := 6 }) (Nat.le_refl _) (Nat.le_refl _) hRcells hRslots
  obtain ⟨s', hA⟩ : ∃ z, z = (T.setVm s.vm).setFrames (.invoking m args :: below) := ⟨_, rfl⟩
  rw [← hA] at Y
  have hvm : s'.vm = s.vm := by rw [hA]; rfl
  have hhp : s'.heap = H := by rw [hA]; exact hT
  have hW0 : s.WarmedH s'.vm := by rw [hvm]; exact State.WarmedH.refl s
  have hat' : ∀ w ∈ vx_at0 own ic cls names, w.before args s' = true := fun w hw => vx_ot_at hW0 hvm.symm (hgood w (List.mem_cons_of_mem _ (List.mem_cons_of_mem _ hw))) (hat w hw)
  have hk' : (Cond.classLink own ik cls).before args s' = true := vx_ot_at hW0 hvm.symm (hgood _ List.mem_cons_self) hk
  have hini' : (Cond.initialized cls).before args s' = true := vx_ot_at hW0 hvm.symm (hgood _ (List.mem_cons_of_mem _ List.mem_cons_self)) hini
  have hU' : vx_Zq Jvm.Bundle.tN "UNASSIGNED_STACK" Jvm.Bundle.steD A s' s'.heap := by rw [hhp]; exact vx_Zq.moved hW0.alike (hU.kept hS.2.1)
  have hN' : vx_Zq Jvm.Bundle.tN "SUPPRESSED_SENTINEL" Jvm.Bundle.listD A s' s'.heap := by rw [hhp]; exact vx_Zq.moved hW0.alike (hN.kept hS.2.1)
  have h : ∀ w ∈ Jvm.Bundle.ownAtoms0 own ic cls names, w.before args s' = true := vx_own hat' (vx_isRefq hU'.1) (vx_isRefq hN'.1) hU'.2.word hN'.2.word
  have hown' : s'.vm.findClass own = some m.cls := by rw [hvm]; exact hown
  have hins : (Cond.instantiable cls 6).before args s' = true := h _ (by simp [Jvm.Bundle.ownAtoms0])
  obtain ⟨vm₁, cX, kX, hfX, hkX, -, -, X₁, st1⟩ := Y.newCold hexec (own := own) (C := cls) (index := ik) (n := 6) hown' hk' hins hini'
    (g := F0 m pc ls rest) rfl (by rw [hb]; exact d0) (Nat.le_refl _) (Nat.le_refl _)
  generalize hT1 : (T.setVm vm₁).pushCell { cls := cX, slots := kX.instanceTypes.map defaultValue, vm := .none } = T1 at X₁ st1
  have hcat : (Value.ref T.heap.size).category = 1 := rfl
  have hcellA : T1.heap[T.heap.size]? = some (freshCell cX kX) := by rw [← hT1]; exact State.heap_pushCell_size _ _
  have d3' : decode c.code (pc + 3) = .ok (.dup, 1) := by rw [hb]; exact d3
  obtain ⟨U, hsteps, hrun, hend, hW, hsame, ce, hce, hO⟩ := X₁.ctorThrow0 hexec htr (own := own) (cls := cls) (names := names) (ic := ic) hown' hcls hnames h (fun x hx => nomatch hx) hfX hkX hcellA (by rw [hhp, hT]; exact Nat.le_refl _)
    (g := { method := m, pc := pc + 4, locals := ls, stack := .ref T.heap.size :: .ref T.heap.size :: rest, locked := none }) rfl hsize rfl rfl (rest := rest) rfl
    (by rw [hb]; exact d4) (by rw [hb]; exact d7) hout hRframes (by simp only [List.map_cons, List.sum_cons, hcat]; omega) hlocks
  obtain ⟨f1, f2⟩ := vx_frame hsame
  rw [hhp] at f1 f2
  have hWs : s.WarmedH U.vm := State.WarmedH.trans hW0 hW
  have hcl : s.vm.findClass cls = some ce.cls := by
    have h9 := hO.cls
    rw [hvm] at h9
    exact h9
  have hall : s.sameButNew ({ U with vm := s.vm } : State) locs mc ms := by
    subst hA
    obtain ⟨e1, e2⟩ := hsame
    rw [State.setFrames_setFrames] at e1
    have h2 : (T.setVm s.vm).sameButNew ({ U with vm := s.vm } : State) [] (0 + 1) (0 + 6) := ⟨e1, e2⟩
    have h3 := X.same.trans h2
    rw [List.append_nil] at h3
    exact h3.mono hc hs
  refine ⟨U, ?_, .threw T.heap.size, hrun, hend, Or.inr ⟨T.heap.size, rfl, cls, ce, locs, hx U hWs.alike f1 (fun q hq => f2 q hq (fun z hz => nomatch hz)), hce, hO.vm, hcl, hWs, hall, hf⟩⟩
  refine st1 _ ?_
  show Steps p.tables e below (T1.setTop { method := m, pc := pc + 3, locals := ls, stack := .ref T.heap.size :: rest, locked := none }) _
  jvm_step X₁.here [X₁.here.top, hexec, d3', Value.category]
  exact hsteps
/-- 'throw new E("text")': new; dup; ldc; invokespecial; athrow -/
theorem vx_throwS {cc : ByteArray} {pc : Nat} (hexec : p.tables.exec = Jvm.exec) (hb : c.code = cc) (hl : l.stackTraces = false) {own cls text : String} {names : List String} {ik is ic mc ms sa : Nat} {A : Nat → Prop}
    (hown : s.vm.findClass own = some m.cls) (hcls : Jvm.Bundle.fit cls = true) (hnames : ∀ n ∈ names, Jvm.Bundle.fit n = true)
    (hk : (Cond.classLink own ik cls).before args s = true) (hini : (Cond.initialized cls).before args s = true) (hstr : vk_R own is text sa s) (hat : ∀ w ∈ vx_atS own ic cls names, w.before args s = true)
    (hgood : ∀ w ∈ Cond.classLink own ik cls :: Cond.initialized cls :: vx_atS own ic cls names, vx_ot w = true)
    (hU : vx_Zq Jvm.Bundle.tN "UNASSIGNED_STACK" Jvm.Bundle.steD A s s.heap) (hN : vx_Zq Jvm.Bundle.tN "SUPPRESSED_SENTINEL" Jvm.Bundle.listD A s s.heap) (hS : va_S A s.heap H locs) (hsize : ls.size = c.maxLocals)
    (d0 : decode cc pc = .ok (.new ik, 3)) (d3 : decode cc (pc + 3) = .ok (.dup, 1)) (d4 : decode cc (pc + 4) = .ok (.ldc is, 2)) (d6 : decode cc (pc + 6) = .ok (.invokespecial ic, 3)) (d9 : decode cc (pc + 9) = .ok (.athrow, 1))
    (hout : ∀ x ∈ c.exceptionTable.toList, covers x (pc + 9) = false)
    (hRframes : names.length + 3 < R.frames) (hRlocals : (rest.map fun v => v.category).sum + (13 * (names.length + 1) + 43) ≤ R.locals) (hRcells : cells + 1 ≤ R.cells) (hRslots : slots + 6 ≤ R.slots) (hlocks : meth.locks = false)
    (hx : ∀ t : State, s.vm.Alike t.vm → H.size ≤ t.heap.size → (∀ q : Nat, q < H.size → t.heap[q]? = H[q]?) → XC cls s t)
    (hf : ∀ z ∈ locs, free z.base) (hc : cells + 1 ≤ mc) (hs : slots + 6 ≤ ms) :
    W p l e R s m args below meth c H locs cells slots (vx_MQ below Qc XC args s mc ms free) (F0 m pc ls rest) := by
  intro T hT X
  have htr : e.platform.stackTraces = false := (show e.platform.stackTraces = l.stackTraces by rw [X.admits.platform]).trans hl
  have Y := vx_rebase X (R' := { frames := R.frames, locals := R.locals, cells := 1, slots := 6 }) (Nat.le_refl _) (Nat.le_refl _) hRcells hRslots
  obtain ⟨s', hA⟩ : ∃ z, z = (T.setVm s.vm).setFrames (.invoking m args :: below) := ⟨_, rfl⟩
  rw [← hA] at Y
  have hvm : s'.vm = s.vm := by rw [hA]; rfl
  have hhp : s'.heap = H := by rw [hA]; exact hT
  have hW0 : s.WarmedH s'.vm := by rw [hvm]; exact State.WarmedH.refl s
  have hat' : ∀ w ∈ vx_atS own ic cls names, w.before args s' = true := fun w hw => vx_ot_at hW0 hvm.symm (hgood w (List.mem_cons_of_mem _ (List.mem_cons_of_mem _ hw))) (hat w hw)
  have hk' : (Cond.classLink own ik cls).before args s' = true := vx_ot_at hW0 hvm.symm (hgood _ List.mem_cons_self) hk
  have hini' : (Cond.initialized cls).before args s' = true := vx_ot_at hW0 hvm.symm (hgood _ (List.mem_cons_of_mem _ List.mem_cons_self)) hini
  have hU' : vx_Zq Jvm.Bundle.tN "UNASSIGNED_STACK" Jvm.Bundle.steD A s' s'.heap := by rw [hhp]; exact vx_Zq.moved hW0.alike (hU.kept hS.2.1)
  have hN' : vx_Zq Jvm.Bundle.tN "SUPPRESSED_SENTINEL" Jvm.Bundle.listD A s' s'.heap := by rw [hhp]; exact vx_Zq.moved hW0.alike (hN.kept hS.2.1)
  have h : ∀ w ∈ Jvm.Bundle.ownAtoms own ic cls names, w.before args s' = true := vx_own hat' (vx_isRefq hU'.1) (vx_isRefq hN'.1) hU'.2.word hN'.2.word
  have hown' : s'.vm.findClass own = some m.cls := by rw [hvm]; exact hown
  have hins : (Cond.instantiable cls 6).before args s' = true := h _ (by simp [Jvm.Bundle.ownAtoms])
  obtain ⟨vm₁, cX, kX, hfX, hkX, -, -, X₁, st1⟩ := Y.newCold hexec (own := own) (C := cls) (index := ik) (n := 6) hown' hk' hins hini'
    (g := F0 m pc ls rest) rfl (by rw [hb]; exact d0) (Nat.le_refl _) (Nat.le_refl _)
  generalize hT1 : (T.setVm vm₁).pushCell { cls := cX, slots := kX.instanceTypes.map defaultValue, vm := .none } = T1 at X₁ st1
  have hcat : (Value.ref T.heap.size).category = 1 := rfl
  have hcellA : T1.heap[T.heap.size]? = some (freshCell cX kX) := by rw [← hT1]; exact State.heap_pushCell_size _ _
  have d3' : decode c.code (pc + 3) = .ok (.dup, 1) := by rw [hb]; exact d3
  have d4' : decode c.code (pc + 4) = .ok (.ldc is, 2) := by rw [hb]; exact d4
  have hstr' : vk_R own is text sa s' := vk_R.warm hW0 hstr
  obtain ⟨U, hsteps, hrun, hend, hW, hsame, ce, hce, hO⟩ := X₁.ctorThrowS hexec htr (own := own) (cls := cls) (names := names) (ic := ic) hown' hcls hnames h (fun x hx => nomatch hx) hfX hkX hcellA (by rw [hhp, hT]; exact Nat.le_refl _) (msg := .ref sa) rfl
    (g := { method := m, pc := pc + 6, locals := ls, stack := .ref sa :: .ref T.heap.size :: .ref T.heap.size :: rest, locked := none }) rfl hsize rfl rfl (rest := rest) rfl
    (by rw [hb]; exact d6) (by rw [hb]; exact d9) hout hRframes (by simp only [List.map_cons, List.sum_cons, hcat]; omega) hlocks
  obtain ⟨f1, f2⟩ := vx_frame hsame
  rw [hhp] at f1 f2
  have hWs : s.WarmedH U.vm := State.WarmedH.trans hW0 hW
  have hcl : s.vm.findClass cls = some ce.cls := by
    have h9 := hO.cls
    rw [hvm] at h9
    exact h9
  have hall : s.sameButNew ({ U with vm := s.vm } : State) locs mc ms := by
    subst hA
    obtain ⟨e1, e2⟩ := hsame
    rw [State.setFrames_setFrames] at e1
    have h2 : (T.setVm s.vm).sameButNew ({ U with vm := s.vm } : State) [] (0 + 1) (0 + 6) := ⟨e1, e2⟩
    have h3 := X.same.trans h2
    rw [List.append_nil] at h3
    exact h3.mono hc hs
  refine ⟨U, ?_, .threw T.heap.size, hrun, hend, Or.inr ⟨T.heap.size, rfl, cls, ce, locs, hx U hWs.alike f1 (fun q hq => f2 q hq (fun z hz => nomatch hz)), hce, hO.vm, hcl, hWs, hall, hf⟩⟩
  refine st1 _ ?_
  show Steps p.tables e below (T1.setTop { method := m, pc := pc + 3, locals := ls, stack := .ref T.heap.size :: rest, locked := none }) _
  jvm_step X₁.here [X₁.here.top, hexec, d3', Value.category]
  exact X₁.ldcString hexec (own := own) (text := text) (index := is) (a := sa) hown' hstr'.1 hstr'.2
    (g := { method := m, pc := pc + 4, locals := ls, stack := .ref T.heap.size :: .ref T.heap.size :: rest, locked := none }) rfl d4' _ hsteps
/-- 'throw new E("text")', the text by a wide index -/
theorem vx_throwSW {cc : ByteArray} {pc : Nat} (hexec : p.tables.exec = Jvm.exec) (hb : c.code = cc) (hl : l.stackTraces = false) {own cls text : String} {names : List String} {ik is ic mc ms sa : Nat} {A : Nat → Prop}
    (hown : s.vm.findClass own = some m.cls) (hcls : Jvm.Bundle.fit cls = true) (hnames : ∀ n ∈ names, Jvm.Bundle.fit n = true)
    (hk : (Cond.classLink own ik cls).before args s = true) (hini : (Cond.initialized cls).before args s = true) (hstr : vk_R own is text sa s) (hat : ∀ w ∈ vx_atS own ic cls names, w.before args s = true)
    (hgood : ∀ w ∈ Cond.classLink own ik cls :: Cond.initialized cls :: vx_atS own ic cls names, vx_ot w = true)
    (hU : vx_Zq Jvm.Bundle.tN "UNASSIGNED_STACK" Jvm.Bundle.steD A s s.heap) (hN : vx_Zq Jvm.Bundle.tN "SUPPRESSED_SENTINEL" Jvm.Bundle.listD A s s.heap) (hS : va_S A s.heap H locs) (hsize : ls.size = c.maxLocals)
    (d0 : decode cc pc = .ok (.new ik, 3)) (d3 : decode cc (pc + 3) = .ok (.dup, 1)) (d4 : decode cc (pc + 4) = .ok (.ldc_w is, 3)) (d7 : decode cc (pc + 7) = .ok (.invokespecial ic, 3)) (d10 : decode cc (pc + 10) = .ok (.athrow, 1))
    (hout : ∀ x ∈ c.exceptionTable.toList, covers x (pc + 10) = false)
    (hRframes : names.length + 3 < R.frames) (hRlocals : (rest.map fun v => v.category).sum + (13 * (names.length + 1) + 43) ≤ R.locals) (hRcells : cells + 1 ≤ R.cells) (hRslots : slots + 6 ≤ R.slots) (hlocks : meth.locks = false)
    (hx : ∀ t : State, s.vm.Alike t.vm → H.size ≤ t.heap.size → (∀ q : Nat, q < H.size → t.heap[q]? = H[q]?) → XC cls s t)
    (hf : ∀ z ∈ locs, free z.base) (hc : cells + 1 ≤ mc) (hs : slots + 6 ≤ ms) :
    W p l e R s m args below meth c H locs cells slots (vx_MQ below Qc XC args s mc ms free) (F0 m pc ls rest) := by
  intro T hT X
  have htr : e.platform.stackTraces = false := (show e.platform.stackTraces = l.stackTraces by rw [X.admits.platform]).trans hl
  have Y := vx_rebase X (R' := { frames := R.frames, locals := R.locals, cells := 1, slots := 6 }) (Nat.le_refl _) (Nat.le_refl _) hRcells hRslots
  obtain ⟨s', hA⟩ : ∃ z, z = (T.setVm s.vm).setFrames (.invoking m args :: below) := ⟨_, rfl⟩
  rw [← hA] at Y
  have hvm : s'.vm = s.vm := by rw [hA]; rfl
  have hhp : s'.heap = H := by rw [hA]; exact hT
  have hW0 : s.WarmedH s'.vm := by rw [hvm]; exact State.WarmedH.refl s
  have hat' : ∀ w ∈ vx_atS own ic cls names, w.before args s' = true := fun w hw => vx_ot_at hW0 hvm.symm (hgood w (List.mem_cons_of_mem _ (List.mem_cons_of_mem _ hw))) (hat w hw)
  have hk' : (Cond.classLink own ik cls).before args s' = true := vx_ot_at hW0 hvm.symm (hgood _ List.mem_cons_self) hk
  have hini' : (Cond.initialized cls).before args s' = true := vx_ot_at hW0 hvm.symm (hgood _ (List.mem_cons_of_mem _ List.mem_cons_self)) hini
  have hU' : vx_Zq Jvm.Bundle.tN "UNASSIGNED_STACK" Jvm.Bundle.steD A s' s'.heap := by rw [hhp]; exact vx_Zq.moved hW0.alike (hU.kept hS.2.1)
  have hN' : vx_Zq Jvm.Bundle.tN "SUPPRESSED_SENTINEL" Jvm.Bundle.listD A s' s'.heap := by rw [hhp]; exact vx_Zq.moved hW0.alike (hN.kept hS.2.1)
  have h : ∀ w ∈ Jvm.Bundle.ownAtoms own ic cls names, w.before args s' = true := vx_own hat' (vx_isRefq hU'.1) (vx_isRefq hN'.1) hU'.2.word hN'.2.word
  have hown' : s'.vm.findClass own = some m.cls := by rw [hvm]; exact hown
  have hins : (Cond.instantiable cls 6).before args s' = true := h _ (by simp [Jvm.Bundle.ownAtoms])
  obtain ⟨vm₁, cX, kX, hfX, hkX, -, -, X₁, st1⟩ := Y.newCold hexec (own := own) (C := cls) (index := ik) (n := 6) hown' hk' hins hini'
    (g := F0 m pc ls rest) rfl (by rw [hb]; exact d0) (Nat.le_refl _) (Nat.le_refl _)
  generalize hT1 : (T.setVm vm₁).pushCell { cls := cX, slots := kX.instanceTypes.map defaultValue, vm := .none } = T1 at X₁ st1
  have hcat : (Value.ref T.heap.size).category = 1 := rfl
  have hcellA : T1.heap[T.heap.size]? = some (freshCell cX kX) := by rw [← hT1]; exact State.heap_pushCell_size _ _
  have d3' : decode c.code (pc + 3) = .ok (.dup, 1) := by rw [hb]; exact d3
  have d4' : decode c.code (pc + 4) = .ok (.ldc_w is, 3) := by rw [hb]; exact d4
  have hstr' : vk_R own is text sa s' := vk_R.warm hW0 hstr
  obtain ⟨U, hsteps, hrun, hend, hW, hsame, ce, hce, hO⟩ := X₁.ctorThrowS hexec htr (own := own) (cls := cls) (names := names) (ic := ic) hown' hcls hnames h (fun x hx => nomatch hx) hfX hkX hcellA (by rw [hhp, hT]; exact Nat.le_refl _) (msg := .ref sa) rfl
    (g := { method := m, pc := pc + 7, locals := ls, stack := .ref sa :: .ref T.heap.size :: .ref T.heap.size :: rest, locked := none }) rfl hsize rfl rfl (rest := rest) rfl
    (by rw [hb]; exact d7) (by rw [hb]; exact d10) hout hRframes (by simp only [List.map_cons, List.sum_cons, hcat]; omega) hlocks
  obtain ⟨f1, f2⟩ := vx_frame hsame
  rw [hhp] at f1 f2
  have hWs : s.WarmedH U.vm := State.WarmedH.trans hW0 hW
  have hcl : s.vm.findClass cls = some ce.cls := by
    have h9 := hO.cls
    rw [hvm] at h9
    exact h9
  have hall : s.sameButNew ({ U with vm := s.vm } : State) locs mc ms := by
    subst hA
    obtain ⟨e1, e2⟩ := hsame
    rw [State.setFrames_setFrames] at e1
    have h2 : (T.setVm s.vm).sameButNew ({ U with vm := s.vm } : State) [] (0 + 1) (0 + 6) := ⟨e1, e2⟩
    have h3 := X.same.trans h2
    rw [List.append_nil] at h3
    exact h3.mono hc hs
  refine ⟨U, ?_, .threw T.heap.size, hrun, hend, Or.inr ⟨T.heap.size, rfl, cls, ce, locs, hx U hWs.alike f1 (fun q hq => f2 q hq (fun z hz => nomatch hz)), hce, hO.vm, hcl, hWs, hall, hf⟩⟩
  refine st1 _ ?_
  show Steps p.tables e below (T1.setTop { method := m, pc := pc + 3, locals := ls, stack := .ref T.heap.size :: rest, locked := none }) _
  jvm_step X₁.here [X₁.here.top, hexec, d3', Value.category]
  exact X₁.ldcStringW hexec (own := own) (text := text) (index := is) (a := sa) hown' hstr'.1 hstr'.2
    (g := { method := m, pc := pc + 4, locals := ls, stack := .ref T.heap.size :: .ref T.heap.size :: rest, locked := none }) rfl d4' _ hsteps
end Ends
section Bodies
variable {l : Launch}
theorem vx_ofW {y : MethodName} {ws ws' : List Cond} {rm : Room} {Pc : Array Value → State → Prop} {Qc : Array Value → State → Outcome → State → Prop} {XC : String → State → State → Prop} {mc ms : Nat} {free : Addr → Prop} {cc : ByteArray} {maxL : Nat} {ret : Option FieldType}
    (hy : plainName y.cls = true) (hw : ws = Cond.code y cc maxL ret :: ws')
    (body : ∀ p e s m args below meth c s₁, BodyLoose p l y (headSpec ws rm) cc maxL ret e s m args below meth c s₁ → c.maxLocals = maxL → (∀ x ∈ c.exceptionTable.toList, False) → Pc args s →
      W p l e (headSpec ws rm).room s m args below meth c s.heap [] 0 0 (vx_MQ below Qc XC args s mc ms free) (entryFrame m args maxL)) : vx_Met l y ws rm Pc Qc XC mc ms free := by
  refine MetFree.of_bodyS (code := cc) (maxLocals := maxL) (ret := ret) hy ?_ ?_
  · intro args s m h hn
    obtain ⟨meth, c, h1, h2, h3, h4, h5, h6, -, -⟩ := Cond.code_spec hn (atoms_spec (ws := ws) h _ (by rw [hw]; exact List.mem_cons_self))
    exact ⟨meth, c, h1, h2, h3, h4, h5, h6⟩
  · intro p e s m args below meth c s₁ B hml hP _
    have hh0 : s₁.heap = s.heap := by rw [B.state]; rfl
    have ht : ∀ x ∈ c.exceptionTable.toList, False := by
      obtain ⟨meth9, c9, h1, h2, -, -, -, -, h7, -⟩ := Cond.code_spec B.named (atoms_spec (ws := ws) B.pre _ (by rw [hw]; exact List.mem_cons_self))
      cases Option.some.inj (h1.symm.trans B.method)
      cases Option.some.inj (h2.symm.trans (Stand.of_body B).code)
      intro x hx
      rw [Array.isEmpty_iff.mp h7] at hx
      cases hx
    obtain ⟨t, a1, o, b1, b2, b3⟩ := body p e s m args below meth c s₁ B hml ht hP s₁ hh0 (Stand.of_body B)
    exact ⟨t, o, a1, b1, b2, b3⟩
/-- the table of a body with handlers -/
theorem vx_table {p : Program} {x y : MethodName} {S : Spec} {cc bytes : ByteArray} {maxL maxL' : Nat} {ret ret' : Option FieldType} {e : Env} {s s₁ : State} {m : MethodId} {args : Array Value} {below : List Frame} {meth : Method} {c : Code} {hh : List (Nat × Nat × Nat × Nat)}
    (B : BodyLoose p l y S cc maxL ret e s m args below meth c s₁) (h : (Cond.codeWith y bytes maxL' ret' hh).before args s = true) : c.exceptionTable.toList = tableOf hh := by
  obtain ⟨m9, meth9, c9, hn9, h1, h2, -, -, h6, -⟩ := Cond.codeWith_spec h
  cases Option.some.inj (hn9.symm.trans B.named)
  cases Option.some.inj (h1.symm.trans B.method)
  cases Option.some.inj (h2.symm.trans (Stand.of_body B).code)
  rw [← h6, table_eq]
end Bodies
end VXA
/-! ===== END ===== -/
/-! ===== BEGIN a static call of a method with an exception table ===== -/
section VXS
variable {p : Program} {l : Launch} {e : Env} {R : Room} {s : State} {m : MethodId} {args : Array Value} {below : List Frame} {meth : Method} {c : Code} {T : State} {H : Heap} {locs : List Loc} {cells slots : Nat}
abbrev vx_CSW (R : Room) (s : State) (args : Array Value) (own : String) (index : Nat) (y : MethodName) (bytes : ByteArray) (maxL : Nat) (ret : Option FieldType) (hh : List (Nat × Nat × Nat × Nat)) (ws : List Cond) (rm : Room) (mc ms n : Nat) : Prop :=
  (rm.cells = mc ∧ rm.slots = ms ∧ rm.frames + 1 ≤ R.frames ∧ 8 + (maxL + 11) + rm.locals ≤ R.locals ∧ (∀ w ∈ ws, ∀ (a' : Array Value) (U : State), s.WarmedH U.vm → w.before a' U = true) ∧ Cond.codeWith y bytes maxL ret hh ∈ ws) ∧
  (Cond.codeWith y bytes maxL ret hh).before args s = true ∧ (Cond.initialized y.cls).before args s = true ∧ (y.cls ≠ "java/lang/invoke/MethodHandle" ∧ y.cls ≠ "java/lang/invoke/VarHandle") ∧
  (∀ sig, parseMethodDescriptor y.desc = some sig → n = sig.parameters.length) ∧ (Cond.methodLink own index y).before args s = true ∧ (Cond.static y).before args s = true
theorem vx_cwSW {own : String} {index maxL mc ms : Nat} {y : MethodName} {bytes : ByteArray} {ret : Option FieldType} {hh : List (Nat × Nat × Nat × Nat)} {Ts ws ws' : List Cond} {rm : Room} (n : Nat) (ht : ∀ w ∈ Ts, w.before args s = true) (hT : GoodIn Ts (va_wsS own index y ws)) (hw : ws = Cond.codeWith y bytes maxL ret hh :: ws') (hrc : rm.cells = mc) (hrs : rm.slots = ms)
    (hd : y.cls ≠ "java/lang/invoke/MethodHandle" ∧ y.cls ≠ "java/lang/invoke/VarHandle" ∧ (parseMethodDescriptor y.desc).map (fun d => d.parameters.length) = some n) (hR : rm.frames + 1 ≤ R.frames ∧ 8 + (maxL + 11) + rm.locals ≤ R.locals) :
    vx_CSW R s args own index y bytes maxL ret hh ws rm mc ms n := by
  have ok : ∀ w ∈ va_wsS own index y ws, w.before args s = true := fun w h => ht w (hT w h).1
  have hG : GoodIn Ts ws := fun w h => hT w (by unfold va_wsS; exact List.mem_append_right _ h)
  have hc : Cond.codeWith y bytes maxL ret hh ∈ ws := by rw [hw]; exact List.mem_cons_self
  refine ⟨⟨hrc, hrs, hR.1, hR.2, pay_in ht hG, hc⟩, ht _ (hG _ hc).1, ok _ (by simp [va_wsS]), ⟨hd.1, hd.2.1⟩, fun sig h => ?_, ok _ (by simp [va_wsS]), ok _ (by simp [va_wsS])⟩
  have h2 := hd.2.2
  rw [h] at h2
  exact (Option.some.inj h2).symm
theorem vx_callSW (X : Stand p l e R s m args below meth c T locs cells slots) (hexec : p.tables.exec = Jvm.exec) {own : String} {index : Nat} {y : MethodName} {bytes : ByteArray} {maxL : Nat} {ret : Option FieldType} {hh : List (Nat × Nat × Nat × Nat)}
    (hown : s.vm.findClass own = some m.cls) (hlink : (Cond.methodLink own index y).before args s = true) (hstat : (Cond.static y).before args s = true) (hinit : (Cond.initialized y.cls).before args s = true)
    (hcode : (Cond.codeWith y bytes maxL ret hh).before args s = true) (hy : y.cls ≠ "java/lang/invoke/MethodHandle" ∧ y.cls ≠ "java/lang/invoke/VarHandle")
    {W9 : Nat} {Pre : Pt → Array Value → Prop} {Post : Pt → Array Value → Option Value → Pt → Prop} (hK : Back l R p e below s args y 3 W9 Pre Post)
    {g : JFrame} (hg : g.method = m) (hsize : g.locals.size = c.maxLocals) {argsL rest : List Value} (hlen : ∀ sig, parseMethodDescriptor y.desc = some sig → argsL.length = sig.parameters.length)
    (hstack : g.stack = argsL.reverse ++ rest) (hW : 2 * g.monitorRoom + (rest.map fun v => v.category).sum ≤ W9) (hdg : decode c.code g.pc = .ok (.invokestatic index, 3))
    (hpre : ∀ vm₁, s.WarmedH vm₁ → Pre ⟨T.setVm vm₁, locs, cells, slots⟩ argsL.toArray) :
    ∃ (v : Option Value) (vm₁ : Vm) (B : Pt), s.WarmedH vm₁ ∧ Stand p l e R s m args below meth c B.U B.locs B.cells B.slots ∧ Post ⟨T.setVm vm₁, locs, cells, slots⟩ argsL.toArray v B ∧
      ∀ target, Steps p.tables e below (B.U.setTop { g with pc := g.pc + 3, stack := v.toList ++ rest }) target → Steps p.tables e below (T.setTop g) target := by
  obtain ⟨mk, methM, cM, hnamed, hmethM, -, -, -, -, -, -, hsigM⟩ := Cond.codeWith_spec hcode
  have hstatic : methM.isStatic = true := Cond.static_spec hnamed hmethM hstat
  obtain ⟨kP, hkP, -⟩ := className_of_methodNamed hnamed
  have hinitP : kP.init = .initialized := Cond.initialized_spec (findClass_of_methodNamed hnamed) hkP hinit
  obtain ⟨vm₁, X₁, hstep₁⟩ := X.invokestatic hexec hown hlink hnamed hmethM hstatic hkP hinitP hy (g := g) hg (argsL := argsL) (rest := rest) (hlen _ hsigM) hstack hdg
  obtain ⟨v, B, X', hpost, hsteps⟩ := hK m meth c ⟨T.setVm vm₁, locs, cells, slots⟩ { g with stack := rest } (.invokestatic index) mk argsL.toArray X₁ hg hsize hdg hW (X₁.named hnamed) (hpre vm₁ X₁.warmed)
  exact ⟨v, vm₁, B, X₁.warmed, X', hpost, fun target h => hstep₁ _ fun acts => by rw [doInvoke_state]; exact hsteps.trans h⟩
theorem vx_runSW {y : MethodName} {bytes cc : ByteArray} {maxL nL mc ms n index : Nat} {ret : Option FieldType} {hh : List (Nat × Nat × Nat × Nat)} {ws : List Cond} {rm : Room} {Pc : Array Value → State → Prop} {Qc : Array Value → State → Outcome → State → Prop} {free : Addr → Prop} {Ts : List Cond} {own : String} {As rest : List Value} {g : JFrame}
    (S : CallFix p m c cc nL s args Ts own) (hM : Met l y ws rm Pc Qc mc ms free) (cw : vx_CSW R s args own index y bytes maxL ret hh ws rm mc ms n) (hp : PreS s H Pc As)
    (hg : g.method = m) (hn : As.length = n) (hsize : g.locals.size = nL) (hstack : g.stack = As.reverse ++ rest) (hW : 2 * g.monitorRoom + (rest.map fun v => v.category).sum ≤ 8) (hdg : decode cc g.pc = .ok (.invokestatic index, 3)) (hf : cells + mc ≤ R.cells ∧ slots + ms ≤ R.slots) :
    va_Run p l e R s m args below meth c H locs cells slots mc ms g rest (Qc As.toArray) (free) := by
  obtain ⟨⟨hrc, hrs, hfr, hlo, hws, hcw⟩, hcode, hini, hy, hlen, hl, hstt⟩ := cw
  have hK : Back l R p e below s args y 3 8 (PreOf R mc ms Pc) (PostOf Qc mc ms free) := va_backW (hh := hh) (bytes := bytes) (maxL := maxL) (ret := ret) hM hp.1 hrc hrs hfr hlo hws hcw (fun a' U hW => word_at hW (Or.inl (by first | rfl | simp [Cond.onTables, Cond.keeps, Cond.steady])) hini)
  obtain ⟨hx, hb, hml, ho, -⟩ := S
  intro T hT X
  obtain ⟨v, vm₁, ⟨U', l2, c2, s2⟩, hW₁, X', ⟨g', mk, t, L, e1, e2, hq, h1, hL, h2, h3⟩, st⟩ := vx_callSW X hx (hh := hh) (bytes := bytes) (maxL := maxL) (ret := ret) ho hl hstt hini hcode hy hK hg (hsize.trans hml.symm) (argsL := As) (rest := rest) (fun sig h => hn.trans (hlen sig h)) hstack hW (by rw [hb]; exact hdg)
    (fun vm₁ hW₁ => ⟨hf.1, hf.2, hp.2 (T.setVm vm₁) hT hW₁⟩)
  dsimp only [Pt.U, Pt.locs, Pt.cells, Pt.slots] at X' e1 e2 h1 h2 h3 st
  subst h1; subst h2; subst h3
  exact ⟨v, (T.setVm vm₁).calling g' mk As.toArray, t, U', L, hT, X', hL, e1, e2, hq, st⟩
/-- not caught here, past rows that name other classes: it goes on to the caller -/
theorem vx_outP {p : Program} {l : Launch} {e : Env} {R : Room} {s : State} {m : MethodId} {args : Array Value} {below : List Frame} {meth : Method} {c : Code} {H : Heap} {locs : List Loc} {cells slots : Nat} {free : Addr → Prop} {ls : Array Slot} {rest : List Value} {Qc : Array Value → State → Outcome → State → Prop} {XC : String → State → State → Prop}
    {pc : Nat} {own E : String} {ce : Cell} {q : Addr} {mc ms : Nat} (hown : s.vm.findClass own = some m.cls) (hlocks : meth.locks = false)
    (hpass : ∀ z ∈ c.exceptionTable.toList, covers z pc = false ∨ (z.catchType ≠ 0 ∧ ∃ nm : String, (Cond.classLink own z.catchType nm).before args s = true ∧ va_Nc E nm s)) (hcell : H[q]? = some ce) (hv : ce.vm = .none) (hcl : s.vm.findClass E = some ce.cls)
    (hx : ∀ t : State, t.heap = H → s.vm.Alike t.vm → XC E s t) (hf : ∀ z ∈ locs, free z.base) (hc : cells ≤ mc) (hs : slots ≤ ms) :
    vx_W p l e R s m args below meth c H locs cells slots (vx_MQ below Qc XC args s mc ms free) (F0 m pc ls rest) q := by
  intro T hT X
  have hpl : e.platform.magicAccessors = ({} : Platform).magicAccessors := by rw [X.admits.platform]
  obtain ⟨vm', hW', X', st⟩ := X.outThrough hlocks q (g := F0 m pc ls rest) rfl rfl rfl (cell := ce) (by rw [hT]; exact hcell) (by rw [hv]; rfl)
    (by obtain ⟨k9, h9, -⟩ := Vm.findClass_spec hcl; exact ⟨k9, h9⟩) (fun z hz => by
      rcases hpass z hz with h | ⟨hz0, nm, hl1, hn1⟩
      · exact Or.inl h
      · obtain ⟨c6, hc6, hcl6⟩ := Cond.classLink_spec hown hl1 e.platform hpl
        obtain ⟨a8, b8, h1, h2, h3⟩ := hn1
        cases Option.some.inj (h1.symm.trans hcl)
        cases Option.some.inj (h2.symm.trans hc6)
        exact Or.inr ⟨hz0, _, hcl6, h3⟩)
  obtain ⟨g₀, hfr⟩ := X'.frames_eq
  have hcell9 : ((T.setVm vm').setFrames (.throwing q :: below)).heap[q]? = some ce := by
    show T.heap[q]? = some ce
    rw [hT]; exact hcell
  have hend : Ended ((T.setVm vm').setFrames (.throwing q :: below)) below (.threw q) := State.frames_setFrames _ (State.cur_lt_of_frames hfr)
  refine ⟨(T.setVm vm').setFrames (.throwing q :: below), ?_, .threw q, X'.here.running, hend, Or.inr ⟨q, rfl, E, ce, locs, hx _ hT (X'.ends _).1.alike, hcell9, hv, hcl, (X'.ends _).1, (X'.ends _).2.mono hc hs, hf⟩⟩
  rw [X.pushThrowing_eq]
  exact st
/-- a thing of a world lies in the heap -/
theorem vx_lt {D : va_G} {cl : List vw_C} {ws : va_W} {H1 : Heap} (h : va_P D cl ws H1) {k : Nat} {q : Nat × va_E} (hk : ws[k]? = some q) : q.1 < H1.size := (h k q hk).lt
end VXS
/-! ===== END ===== -/
/-! ===== BEGIN methods with a table of their own: called by a name, returning or throwing ===== -/
section VXH
/-! vx_backW, vx_callVX, vx_callSX, vx_callVW, vx_runVW, vx_runVX, vx_runSX, vx_ofWH follow the same proofs as their sisters above (Free/Laws.lean, Shelf42/LK1.lean); vx_outP calls Shelf42/NT130.lean (outThrough). -/
section
variable {l : Launch} {R : Room} {p : Program} {e : Env} {below : List Frame} {s : State} {sargs : Array Value} {y : MethodName} {len W9 : Nat}
theorem vx_backW {ws : List Cond} {rm : Room} {Pc : Array Value → State → Prop} {Qc : Array Value → State → Outcome → State → Prop} {XC : String → State → State → Prop} {mc ms : Nat} {free : Addr → Prop} {bytes : ByteArray} {maxL : Nat} {ret : Option FieldType} {hh : List (Nat × Nat × Nat × Nat)}
    (hM : vx_Met l y ws rm Pc Qc XC mc ms free) (hblind : FrameBlind Pc) (hrc : rm.cells = mc) (hrs : rm.slots = ms)
    (hframes : rm.frames + 1 ≤ R.frames) (hlocals : W9 + (maxL + 11) + rm.locals ≤ R.locals)
    (hws : ∀ w ∈ ws, ∀ a' U, s.WarmedH U.vm → w.before a' U = true) (hcode : Cond.codeWith y bytes maxL ret hh ∈ ws) (hinit : ∀ a' U, s.WarmedH U.vm → (Cond.initialized y.cls).before a' U = true) :
    vx_Back l R p e below s sargs y len W9 (PreOf R mc ms Pc) (PostOf Qc mc ms free) (vx_Post XC mc ms free) := by
  intro m meth c A g ig mk a X hg hsize hdg hW hn hp
  have h1 : (headSpec ws rm).pre.before a A.U = true := atoms_intro fun w hw => hws w hw _ _ X.warmed
  have h2 : (Cond.codeWith y bytes maxL ret hh).before a A.U = true := hws _ hcode _ _ X.warmed
  have h3 : (Cond.initialized y.cls).before a A.U = true := hinit _ _ X.warmed
  have h4 : A.cells + (headSpec ws rm).room.cells ≤ R.cells := by rw [show (headSpec ws rm).room.cells = mc from hrc]; exact hp.1
  have h5 : A.slots + (headSpec ws rm).room.slots ≤ R.slots := by rw [show (headSpec ws rm).room.slots = ms from hrs]; exact hp.2.1
  have hPc : Pc a (A.U.calling g mk a) := hblind _ _ _ _ hp.2.2
  obtain ⟨U, Ls, c0, s0⟩ := A
  dsimp only [Pt.U, Pt.locs, Pt.cells, Pt.slots] at h1 h2 h3 h4 h5 X hn hPc ⊢
  obtain ⟨m9, methY, cY, hn9, hmY, hcY, -, hlY, -⟩ := Cond.codeWith_spec h2
  cases Option.some.inj (hn9.symm.trans hn)
  obtain ⟨kY, hkY, -⟩ := className_of_methodNamed hn
  have hinitY : kY.init = .initialized := Cond.initialized_spec (findClass_of_methodNamed hn) hkY h3
  have h : At U g.method c below := by rw [hg]; exact X.here
  have hlocals9 : W9 + (maxL + 11) + (headSpec ws rm).room.locals ≤ R.locals := hlocals
  have happ : (headSpec ws rm).appliesLoose y e.platform (U.calling g mk a) = true :=
    Spec.appliesLoose_calling (g := g) h hdg hn hkY hinitY
      (X.room_calling (g := g) (R' := (headSpec ws rm).room) hsize hmY hcY hframes (by rw [hlY]; omega) h4 h5) h1
  obtain ⟨mid, hmid⟩ := h.above
  have hfr : (U.setTop g).frames = (.java g :: mid) ++ below := by rw [State.frames_setTop' g h.top, hmid]; rfl
  obtain ⟨o, s₂, hsteps, -, hend, hq⟩ := Steps.callFree hM p X.admits X.cas X.clock (acts := []) hfr happ hPc trivial
  have hq' : vx_Q Qc XC mc ms free a (U.calling g mk a) o s₂ := hq
  rw [State.frames_setTop' g h.top] at hend
  obtain ⟨g₀, hg0⟩ := Option.isSome_iff_exists.mp h.top
  obtain ⟨r, hr⟩ := State.topJava?_eq_some.mp hg0
  have hr' : (({ U with heap := s₂.heap, slotsUsed := s₂.slotsUsed } : State).setVm s₂.vm).frames = .java g₀ :: r := hr
  rcases hq' with ⟨hqc, L, hfe, hL⟩ | ⟨q, rfl, E, ce, L, hx, hce, hcv, hcl, hW₂, hsm, hL⟩
  · obtain ⟨⟨v, rfl⟩, hW₂, e2, q2, q3, q4, q5, q6⟩ := id hfe
    have e3 : s₂ = ({ (U.calling g mk a).setFrames s₂.frames with heap := s₂.heap, slotsUsed := s₂.slotsUsed } : State).setVm s₂.vm := by
      have : s₂ = ({ s₂ with vm := (U.calling g mk a).vm } : State).setVm s₂.vm := rfl
      rw [e2] at this
      exact this
    obtain ⟨c₂, i₂, len₂, hc₂, hd₂, hf₂⟩ := hend
    have hW' : U.WarmedH s₂.vm := hW₂
    have hcc : c₂ = c := by
      have h1 : s₂.code? g.method = U.code? g.method := by
        rw [State.code?_eq, State.code?_eq, hW'.alike.method?]
      exact Option.some.inj (hc₂.symm.trans (h1.trans h.code))
    subst hcc
    have hlen : len₂ = len := by rw [hdg] at hd₂; cases hd₂; rfl
    subst hlen
    have hs₂ : s₂ = (({ U with heap := s₂.heap, slotsUsed := s₂.slotsUsed } : State).setVm s₂.vm).setTop { g with pc := g.pc + len₂, stack := v.toList ++ g.stack } := by
      refine e3.trans ?_
      rw [hf₂, State.calling_eq h.top, State.setFrames_setFrames, State.setTop_of_frames _ hr', hr]
      rfl
    have hsame : U.sameButNew ({ U with heap := s₂.heap, slotsUsed := s₂.slotsUsed } : State) L mc ms := by
      refine ⟨?_, q2, q3, q4, q5, q6⟩
      obtain ⟨t, ht, -⟩ := State.frames_cons hr
      show ({ U with heap := s₂.heap, slotsUsed := s₂.slotsUsed } : State) = { U.setFrames U.frames with heap := s₂.heap, slotsUsed := s₂.slotsUsed }
      rw [State.setFrames_self ht]
    subst hg
    refine Or.inl ⟨v, ⟨(({ U with heap := s₂.heap, slotsUsed := s₂.slotsUsed } : State).setVm s₂.vm), Ls ++ L, c0 + mc, s0 + ms⟩,
      ⟨X.admits, X.cas, X.clock, X.frames, X.room, X.hears, X.method, X.code, (X.here.setHeapUsed s₂.heap s₂.slotsUsed).setVm hW'.alike, X.tail, State.WarmedH.trans X.warmed hW', X.limits, X.bytes, X.same.trans (hsame.setVm s.vm)⟩,
      ⟨g, mk, s₂, L, rfl, rfl, hqc, rfl, hL, rfl, rfl⟩, ?_⟩
    show Steps p.tables e below _ ((({ U with heap := s₂.heap, slotsUsed := s₂.slotsUsed } : State).setVm s₂.vm).setTop { g with pc := g.pc + len₂, stack := v.toList ++ g.stack })
    rw [← hs₂]
    exact hsteps
  · obtain ⟨e2, q2, q3, q4, q5, q6⟩ := id hsm
    have e3 : s₂ = ({ (U.calling g mk a).setFrames s₂.frames with heap := s₂.heap, slotsUsed := s₂.slotsUsed } : State).setVm s₂.vm := by
      have : s₂ = ({ s₂ with vm := (U.calling g mk a).vm } : State).setVm s₂.vm := rfl
      rw [e2] at this
      exact this
    have hf₂ : s₂.frames = .throwing q :: .java g :: U.frames.tail := hend
    have hW' : U.WarmedH s₂.vm := hW₂
    have hs₂ : s₂ = ((({ U with heap := s₂.heap, slotsUsed := s₂.slotsUsed } : State).setVm s₂.vm).setTop g).pushFrame (.throwing q) := by
      refine e3.trans ?_
      rw [hf₂, State.calling_eq h.top, State.setFrames_setFrames, State.pushFrame, State.frames_setTop _ hr', State.setTop_of_frames _ hr', State.setFrames_setFrames, hr]
      rfl
    have hsame : U.sameButNew ({ U with heap := s₂.heap, slotsUsed := s₂.slotsUsed } : State) L mc ms := by
      refine ⟨?_, q2, q3, q4, q5, q6⟩
      obtain ⟨t, ht, -⟩ := State.frames_cons hr
      show ({ U with heap := s₂.heap, slotsUsed := s₂.slotsUsed } : State) = { U.setFrames U.frames with heap := s₂.heap, slotsUsed := s₂.slotsUsed }
      rw [State.setFrames_self ht]
    subst hg
    refine Or.inr ⟨q, ⟨(({ U with heap := s₂.heap, slotsUsed := s₂.slotsUsed } : State).setVm s₂.vm), Ls ++ L, c0 + mc, s0 + ms⟩,
      ⟨X.admits, X.cas, X.clock, X.frames, X.room, X.hears, X.method, X.code, (X.here.setHeapUsed s₂.heap s₂.slotsUsed).setVm hW'.alike, X.tail, State.WarmedH.trans X.warmed hW', X.limits, X.bytes, X.same.trans (hsame.setVm s.vm)⟩,
      ⟨g, mk, s₂, L, E, ce, rfl, rfl, hx, hce, hcv, hcl, rfl, hL, rfl, rfl⟩, ?_⟩
    show Steps p.tables e below _ (((({ U with heap := s₂.heap, slotsUsed := s₂.slotsUsed } : State).setVm s₂.vm).setTop g).pushFrame (.throwing q))
    rw [← hs₂]
    exact hsteps
end
variable {p : Program} {l : Launch} {e : Env} {R : Room} {s : State} {m : MethodId} {args : Array Value} {below : List Frame} {meth : Method} {c : Code} {T : State} {H : Heap} {locs : List Loc} {cells slots : Nat}
theorem vx_callVX (X : Stand p l e R s m args below meth c T locs cells slots) (hexec : p.tables.exec = Jvm.exec) {own C : String} {index : Nat} {y : MethodName} {bytes : ByteArray} {maxL : Nat} {ret : Option FieldType} {hh : List (Nat × Nat × Nat × Nat)}
    (hown : s.vm.findClass own = some m.cls) (hlink : (Cond.methodLink own index y).before args s = true) (hinst : (Cond.instanceMethod y).before args s = true) (hsel : (Cond.selects C y y).before args s = true)
    (hcode : (Cond.codeWith y bytes maxL ret hh).before args s = true) (hy : y.cls ≠ "java/lang/invoke/MethodHandle" ∧ y.cls ≠ "java/lang/invoke/VarHandle")
    {W9 : Nat} {Pre : Pt → Array Value → Prop} {Post : Pt → Array Value → Option Value → Pt → Prop} {PostX : Pt → Array Value → Addr → Pt → Prop} (hK : vx_Back l R p e below s args y 3 W9 Pre Post PostX)
    {b : Addr} {cellB : Cell} (hcell : T.heap[b]? = some cellB) (hobj : cellB.vm.isStatics = false) (hcls : s.vm.findClass C = some cellB.cls)
    {g : JFrame} (hg : g.method = m) (hsize : g.locals.size = c.maxLocals) {argsL rest : List Value} (hlen : ∀ sig, parseMethodDescriptor y.desc = some sig → argsL.length = sig.parameters.length)
    (hstack : g.stack = argsL.reverse ++ .ref b :: rest) (hW : 2 * g.monitorRoom + (rest.map fun v => v.category).sum ≤ W9) (hdg : decode c.code g.pc = .ok (.invokevirtual index, 3))
    (hpre : ∀ vm₁, s.WarmedH vm₁ → Pre ⟨T.setVm vm₁, locs, cells, slots⟩ (Value.ref b :: argsL).toArray) :
    (∃ (v : Option Value) (vm₁ : Vm) (B : Pt), s.WarmedH vm₁ ∧ Stand p l e R s m args below meth c B.U B.locs B.cells B.slots ∧ Post ⟨T.setVm vm₁, locs, cells, slots⟩ (Value.ref b :: argsL).toArray v B ∧
      ∀ target, Steps p.tables e below (B.U.setTop { g with pc := g.pc + 3, stack := v.toList ++ rest }) target → Steps p.tables e below (T.setTop g) target) ∨
    (∃ (q : Addr) (vm₁ : Vm) (B : Pt), s.WarmedH vm₁ ∧ Stand p l e R s m args below meth c B.U B.locs B.cells B.slots ∧ PostX ⟨T.setVm vm₁, locs, cells, slots⟩ (Value.ref b :: argsL).toArray q B ∧
      Steps p.tables e below (T.setTop g) ((B.U.setTop { g with stack := rest }).pushFrame (.throwing q))) := by
  obtain ⟨mk, methM, hnamed, hmethM, hstM, habM⟩ := Cond.instanceMethod_spec hinst
  obtain ⟨m8, methM', cM, hn8, hmethM', -, -, -, -, -, -, hsigM⟩ := Cond.codeWith_spec hcode
  cases Option.some.inj (hn8.symm.trans hnamed)
  cases hmethM.symm.trans hmethM'
  obtain ⟨c2, r2, m2, q1, q2, q3, q4, kP, hkP, hkPi⟩ := Cond.selects_spec hsel
  cases hcls.symm.trans q1
  cases (State.methodFound?_of_named hnamed hy).symm.trans q2
  cases hnamed.symm.trans q3
  have hselP : selectMethod e.platform s.vm cellB.cls mk = .method mk := by rw [Launch.admits_selectMethod X.admits]; exact q4
  obtain ⟨vm₁, X₁, hstep₁⟩ := X.invokevirtual hexec hown hlink hnamed hmethM hstM hkP hkPi hy (a := b) (cell := cellB) hcell
    (fun z h => by rw [h] at hobj; cases hobj) hselP hmethM habM hkP hkPi (g := g) hg (argsL := argsL) (rest := rest) (hlen _ hsigM) hstack hdg
  rcases hK m meth c ⟨T.setVm vm₁, locs, cells, slots⟩ { g with stack := rest } (.invokevirtual index) mk (Value.ref b :: argsL).toArray X₁ hg hsize hdg hW (X₁.named hnamed) (hpre vm₁ X₁.warmed) with ⟨v, B, X', hpost, hsteps⟩ | ⟨q, B, X', hpost, hsteps⟩
  · exact Or.inl ⟨v, vm₁, B, X₁.warmed, X', hpost, fun target h => hstep₁ _ fun acts => by rw [doInvoke_state]; exact hsteps.trans h⟩
  · exact Or.inr ⟨q, vm₁, B, X₁.warmed, X', hpost, hstep₁ _ fun acts => by rw [doInvoke_state]; exact hsteps⟩
theorem vx_callSX (X : Stand p l e R s m args below meth c T locs cells slots) (hexec : p.tables.exec = Jvm.exec) {own : String} {index : Nat} {y : MethodName} {bytes : ByteArray} {maxL : Nat} {ret : Option FieldType} {hh : List (Nat × Nat × Nat × Nat)}
    (hown : s.vm.findClass own = some m.cls) (hlink : (Cond.methodLink own index y).before args s = true) (hstat : (Cond.static y).before args s = true) (hinit : (Cond.initialized y.cls).before args s = true)
    (hcode : (Cond.codeWith y bytes maxL ret hh).before args s = true) (hy : y.cls ≠ "java/lang/invoke/MethodHandle" ∧ y.cls ≠ "java/lang/invoke/VarHandle")
    {W9 : Nat} {Pre : Pt → Array Value → Prop} {Post : Pt → Array Value → Option Value → Pt → Prop} {PostX : Pt → Array Value → Addr → Pt → Prop} (hK : vx_Back l R p e below s args y 3 W9 Pre Post PostX)
    {g : JFrame} (hg : g.method = m) (hsize : g.locals.size = c.maxLocals) {argsL rest : List Value} (hlen : ∀ sig, parseMethodDescriptor y.desc = some sig → argsL.length = sig.parameters.length)
    (hstack : g.stack = argsL.reverse ++ rest) (hW : 2 * g.monitorRoom + (rest.map fun v => v.category).sum ≤ W9) (hdg : decode c.code g.pc = .ok (.invokestatic index, 3))
    (hpre : ∀ vm₁, s.WarmedH vm₁ → Pre ⟨T.setVm vm₁, locs, cells, slots⟩ argsL.toArray) :
    (∃ (v : Option Value) (vm₁ : Vm) (B : Pt), s.WarmedH vm₁ ∧ Stand p l e R s m args below meth c B.U B.locs B.cells B.slots ∧ Post ⟨T.setVm vm₁, locs, cells, slots⟩ argsL.toArray v B ∧
      ∀ target, Steps p.tables e below (B.U.setTop { g with pc := g.pc + 3, stack := v.toList ++ rest }) target → Steps p.tables e below (T.setTop g) target) ∨
    (∃ (q : Addr) (vm₁ : Vm) (B : Pt), s.WarmedH vm₁ ∧ Stand p l e R s m args below meth c B.U B.locs B.cells B.slots ∧ PostX ⟨T.setVm vm₁, locs, cells, slots⟩ argsL.toArray q B ∧
      Steps p.tables e below (T.setTop g) ((B.U.setTop { g with stack := rest }).pushFrame (.throwing q))) := by
  obtain ⟨mk, methM, cM, hnamed, hmethM, -, -, -, -, -, -, hsigM⟩ := Cond.codeWith_spec hcode
  have hstatic : methM.isStatic = true := Cond.static_spec hnamed hmethM hstat
  obtain ⟨kP, hkP, -⟩ := className_of_methodNamed hnamed
  have hinitP : kP.init = .initialized := Cond.initialized_spec (findClass_of_methodNamed hnamed) hkP hinit
  obtain ⟨vm₁, X₁, hstep₁⟩ := X.invokestatic hexec hown hlink hnamed hmethM hstatic hkP hinitP hy (g := g) hg (argsL := argsL) (rest := rest) (hlen _ hsigM) hstack hdg
  rcases hK m meth c ⟨T.setVm vm₁, locs, cells, slots⟩ { g with stack := rest } (.invokestatic index) mk argsL.toArray X₁ hg hsize hdg hW (X₁.named hnamed) (hpre vm₁ X₁.warmed) with ⟨v, B, X', hpost, hsteps⟩ | ⟨q, B, X', hpost, hsteps⟩
  · exact Or.inl ⟨v, vm₁, B, X₁.warmed, X', hpost, fun target h => hstep₁ _ fun acts => by rw [doInvoke_state]; exact hsteps.trans h⟩
  · exact Or.inr ⟨q, vm₁, B, X₁.warmed, X', hpost, hstep₁ _ fun acts => by rw [doInvoke_state]; exact hsteps⟩
theorem vx_callVW (X : Stand p l e R s m args below meth c T locs cells slots) (hexec : p.tables.exec = Jvm.exec) {own C : String} {index : Nat} {y : MethodName} {bytes : ByteArray} {maxL : Nat} {ret : Option FieldType} {hh : List (Nat × Nat × Nat × Nat)}
    (hown : s.vm.findClass own = some m.cls) (hlink : (Cond.methodLink own index y).before args s = true) (hinst : (Cond.instanceMethod y).before args s = true) (hsel : (Cond.selects C y y).before args s = true)
    (hcode : (Cond.codeWith y bytes maxL ret hh).before args s = true) (hy : y.cls ≠ "java/lang/invoke/MethodHandle" ∧ y.cls ≠ "java/lang/invoke/VarHandle")
    {W9 : Nat} {Pre : Pt → Array Value → Prop} {Post : Pt → Array Value → Option Value → Pt → Prop} (hK : Back l R p e below s args y 3 W9 Pre Post)
    {b : Addr} {cellB : Cell} (hcell : T.heap[b]? = some cellB) (hobj : cellB.vm.isStatics = false) (hcls : s.vm.findClass C = some cellB.cls)
    {g : JFrame} (hg : g.method = m) (hsize : g.locals.size = c.maxLocals) {argsL rest : List Value} (hlen : ∀ sig, parseMethodDescriptor y.desc = some sig → argsL.length = sig.parameters.length)
    (hstack : g.stack = argsL.reverse ++ .ref b :: rest) (hW : 2 * g.monitorRoom + (rest.map fun v => v.category).sum ≤ W9) (hdg : decode c.code g.pc = .ok (.invokevirtual index, 3))
    (hpre : ∀ vm₁, s.WarmedH vm₁ → Pre ⟨T.setVm vm₁, locs, cells, slots⟩ (Value.ref b :: argsL).toArray) :
    ∃ (v : Option Value) (vm₁ : Vm) (B : Pt), s.WarmedH vm₁ ∧ Stand p l e R s m args below meth c B.U B.locs B.cells B.slots ∧ Post ⟨T.setVm vm₁, locs, cells, slots⟩ (Value.ref b :: argsL).toArray v B ∧
      ∀ target, Steps p.tables e below (B.U.setTop { g with pc := g.pc + 3, stack := v.toList ++ rest }) target → Steps p.tables e below (T.setTop g) target := by
  obtain ⟨mk, methM, hnamed, hmethM, hstM, habM⟩ := Cond.instanceMethod_spec hinst
  obtain ⟨m8, methM', cM, hn8, hmethM', -, -, -, -, -, -, hsigM⟩ := Cond.codeWith_spec hcode
  cases Option.some.inj (hn8.symm.trans hnamed)
  cases hmethM.symm.trans hmethM'
  obtain ⟨c2, r2, m2, q1, q2, q3, q4, kP, hkP, hkPi⟩ := Cond.selects_spec hsel
  cases hcls.symm.trans q1
  cases (State.methodFound?_of_named hnamed hy).symm.trans q2
  cases hnamed.symm.trans q3
  have hselP : selectMethod e.platform s.vm cellB.cls mk = .method mk := by rw [Launch.admits_selectMethod X.admits]; exact q4
  obtain ⟨vm₁, X₁, hstep₁⟩ := X.invokevirtual hexec hown hlink hnamed hmethM hstM hkP hkPi hy (a := b) (cell := cellB) hcell
    (fun z h => by rw [h] at hobj; cases hobj) hselP hmethM habM hkP hkPi (g := g) hg (argsL := argsL) (rest := rest) (hlen _ hsigM) hstack hdg
  obtain ⟨v, B, X', hpost, hsteps⟩ := hK m meth c ⟨T.setVm vm₁, locs, cells, slots⟩ { g with stack := rest } (.invokevirtual index) mk (Value.ref b :: argsL).toArray X₁ hg hsize hdg hW (X₁.named hnamed) (hpre vm₁ X₁.warmed)
  exact ⟨v, vm₁, B, X₁.warmed, X', hpost, fun target h => hstep₁ _ fun acts => by rw [doInvoke_state]; exact hsteps.trans h⟩
abbrev vx_CVW (R : Room) (s : State) (args : Array Value) (own C : String) (index : Nat) (y : MethodName) (bytes : ByteArray) (maxL : Nat) (ret : Option FieldType) (hh : List (Nat × Nat × Nat × Nat)) (ws : List Cond) (rm : Room) (mc ms n : Nat) : Prop :=
  (rm.cells = mc ∧ rm.slots = ms ∧ rm.frames + 1 ≤ R.frames ∧ 8 + (maxL + 11) + rm.locals ≤ R.locals ∧ (∀ w ∈ ws, ∀ (a' : Array Value) (U : State), s.WarmedH U.vm → w.before a' U = true) ∧ Cond.codeWith y bytes maxL ret hh ∈ ws) ∧
  (Cond.codeWith y bytes maxL ret hh).before args s = true ∧ (Cond.initialized y.cls).before args s = true ∧ (y.cls ≠ "java/lang/invoke/MethodHandle" ∧ y.cls ≠ "java/lang/invoke/VarHandle") ∧
  (∀ sig, parseMethodDescriptor y.desc = some sig → n = sig.parameters.length) ∧ (Cond.methodLink own index y).before args s = true ∧ (Cond.instanceMethod y).before args s = true ∧ (Cond.selects C y y).before args s = true
theorem vx_cwVW {own C : String} {index maxL mc ms : Nat} {y : MethodName} {bytes : ByteArray} {ret : Option FieldType} {hh : List (Nat × Nat × Nat × Nat)} {Ts ws ws' : List Cond} {rm : Room} (n : Nat) (ht : ∀ w ∈ Ts, w.before args s = true) (hT : GoodIn Ts (wsV own index C y ws)) (hw : ws = Cond.codeWith y bytes maxL ret hh :: ws') (hrc : rm.cells = mc) (hrs : rm.slots = ms)
    (hd : y.cls = C ∧ y.cls ≠ "java/lang/invoke/MethodHandle" ∧ y.cls ≠ "java/lang/invoke/VarHandle" ∧ (parseMethodDescriptor y.desc).map (fun d => d.parameters.length) = some n) (hR : rm.frames + 1 ≤ R.frames ∧ 8 + (maxL + 11) + rm.locals ≤ R.locals) :
    vx_CVW R s args own C index y bytes maxL ret hh ws rm mc ms n := by
  obtain ⟨hC, hd⟩ := hd
  subst hC
  have ok : ∀ w ∈ wsV own index y.cls y ws, w.before args s = true := fun w h => ht w (hT w h).1
  have hG : GoodIn Ts ws := fun w h => hT w (by unfold wsV; exact List.mem_append_right _ h)
  have hc : Cond.codeWith y bytes maxL ret hh ∈ ws := by rw [hw]; exact List.mem_cons_self
  refine ⟨⟨hrc, hrs, hR.1, hR.2, pay_in ht hG, hc⟩, ht _ (hG _ hc).1, ok _ (by simp [wsV]), ⟨hd.1, hd.2.1⟩, fun sig h => ?_, ok _ (by simp [wsV]), ok _ (by simp [wsV]), ok _ (by simp [wsV])⟩
  have h2 := hd.2.2
  rw [h] at h2
  exact (Option.some.inj h2).symm
theorem vx_runVW {y : MethodName} {bytes cc : ByteArray} {maxL nL mc ms n index : Nat} {ret : Option FieldType} {hh : List (Nat × Nat × Nat × Nat)} {ws : List Cond} {rm : Room} {Pc : Array Value → State → Prop} {Qc : Array Value → State → Outcome → State → Prop} {free : Addr → Prop} {Ts : List Cond} {own C : String} {b : Addr} {As rest : List Value} {g : JFrame}
    (S : CallFix p m c cc nL s args Ts own) (hM : Met l y ws rm Pc Qc mc ms free) (cw : vx_CVW R s args own C index y bytes maxL ret hh ws rm mc ms n) (hp : PreV s H C b Pc As)
    (hg : g.method = m) (hn : As.length = n) (hsize : g.locals.size = nL) (hstack : g.stack = As.reverse ++ .ref b :: rest) (hW : 2 * g.monitorRoom + (rest.map fun v => v.category).sum ≤ 8) (hdg : decode cc g.pc = .ok (.invokevirtual index, 3)) (hf : cells + mc ≤ R.cells ∧ slots + ms ≤ R.slots) :
    va_Run p l e R s m args below meth c H locs cells slots mc ms g rest (Qc (Value.ref b :: As).toArray) free := by
  obtain ⟨⟨hrc, hrs, hfr, hlo, hws, hcw⟩, hcode, hini, hy, hlen, hl, hin, hse⟩ := cw
  have hK : Back l R p e below s args y 3 8 (PreOf R mc ms Pc) (PostOf Qc mc ms free) := va_backW (hh := hh) (bytes := bytes) (maxL := maxL) (ret := ret) hM hp.1 hrc hrs hfr hlo hws hcw (fun a' U hW => word_at hW (Or.inl (by first | rfl | simp [Cond.onTables, Cond.keeps, Cond.steady])) hini)
  obtain ⟨hx, hb, hml, ho, -⟩ := S
  obtain ⟨-, ⟨cellB, hcB, hoB, hclB⟩, hPc⟩ := hp
  intro T hT X
  obtain ⟨v, vm₁, ⟨U', l2, c2, s2⟩, hW₁, X', ⟨g', mk, t, L, e1, e2, hq, h1, hL, h2, h3⟩, st⟩ := vx_callVW X hx (C := C) (hh := hh) (bytes := bytes) (maxL := maxL) (ret := ret) ho hl hin hse hcode hy hK (by rw [hT]; exact hcB) hoB hclB hg (hsize.trans hml.symm) (argsL := As) (rest := rest) (fun sig h => hn.trans (hlen sig h)) hstack hW (by rw [hb]; exact hdg)
    (fun vm₁ hW₁ => ⟨hf.1, hf.2, hPc (T.setVm vm₁) hT hW₁⟩)
  dsimp only [Pt.U, Pt.locs, Pt.cells, Pt.slots] at X' e1 e2 h1 h2 h3 st
  subst h1; subst h2; subst h3
  exact ⟨v, (T.setVm vm₁).calling g' mk (Value.ref b :: As).toArray, t, U', L, hT, X', hL, e1, e2, hq, st⟩
section
variable {y : MethodName} {bytes cc : ByteArray} {maxL nL mc ms n index : Nat} {ret : Option FieldType} {ws : List Cond} {rm : Room} {Pc : Array Value → State → Prop} {Qc : Array Value → State → Outcome → State → Prop} {XC : String → State → State → Prop} {free : Addr → Prop} {Ts : List Cond} {own C : String} {b : Addr} {As rest : List Value} {g : JFrame}
theorem vx_runVX {hh : List (Nat × Nat × Nat × Nat)} (S : CallFix p m c cc nL s args Ts own) (hM : vx_Met l y ws rm Pc Qc XC mc ms free) (cw : vx_CVW R s args own C index y bytes maxL ret hh ws rm mc ms n) (hp : PreV s H C b Pc As)
    (hg : g.method = m) (hn : As.length = n) (hsize : g.locals.size = nL) (hstack : g.stack = As.reverse ++ .ref b :: rest) (hW : 2 * g.monitorRoom + (rest.map fun v => v.category).sum ≤ 8) (hdg : decode cc g.pc = .ok (.invokevirtual index, 3)) (hf : cells + mc ≤ R.cells ∧ slots + ms ≤ R.slots) :
    vx_Run p l e R s m args below meth c H locs cells slots mc ms g rest (Qc (Value.ref b :: As).toArray) XC free := by
  obtain ⟨⟨hrc, hrs, hfr, hlo, hws, hcw⟩, hcode, hini, hy, hlen, hl, hin, hse⟩ := cw
  have hK : vx_Back l R p e below s args y 3 8 (PreOf R mc ms Pc) (PostOf Qc mc ms free) (vx_Post XC mc ms free) := vx_backW (hh := hh) (bytes := bytes) (maxL := maxL) (ret := ret) hM hp.1 hrc hrs hfr hlo hws hcw (fun a' U hW => word_at hW (Or.inl (by first | rfl | simp [Cond.onTables, Cond.keeps, Cond.steady])) hini)
  obtain ⟨hx, hb, hml, ho, -⟩ := S
  obtain ⟨-, ⟨cellB, hcB, hoB, hclB⟩, hPc⟩ := hp
  intro T hT X
  rcases vx_callVX X hx (C := C) (hh := hh) (bytes := bytes) (maxL := maxL) (ret := ret) ho hl hin hse hcode hy hK (by rw [hT]; exact hcB) hoB hclB hg (hsize.trans hml.symm) (argsL := As) (rest := rest) (fun sig h => hn.trans (hlen sig h)) hstack hW (by rw [hb]; exact hdg)
    (fun vm₁ hW₁ => ⟨hf.1, hf.2, hPc (T.setVm vm₁) hT hW₁⟩) with ⟨v, vm₁, ⟨U', l2, c2, s2⟩, hW₁, X', ⟨g', mk, t, L, e1, e2, hq, h1, hL, h2, h3⟩, st⟩ | ⟨q, vm₁, ⟨U', l2, c2, s2⟩, hW₁, X', ⟨g', mk, t, L, E, ce, e1, e2, hq, hce, hcv, hcl, h1, hL, h2, h3⟩, st⟩
  · dsimp only [Pt.U, Pt.locs, Pt.cells, Pt.slots] at X' e1 e2 h1 h2 h3 st
    subst h1; subst h2; subst h3
    exact Or.inl ⟨v, (T.setVm vm₁).calling g' mk (Value.ref b :: As).toArray, t, U', L, hT, X', hL, e1, e2, hq, st⟩
  · dsimp only [Pt.U, Pt.locs, Pt.cells, Pt.slots] at X' e1 e2 h1 h2 h3 st hcl
    subst h1; subst h2; subst h3
    exact Or.inr ⟨q, (T.setVm vm₁).calling g' mk (Value.ref b :: As).toArray, t, U', L, E, ce, hT, X', hL, e1, e2, hq, hce, hcv, vx_cls hW₁ hcl, st⟩
theorem vx_runSX {hh : List (Nat × Nat × Nat × Nat)} (S : CallFix p m c cc nL s args Ts own) (hM : vx_Met l y ws rm Pc Qc XC mc ms free) (cw : vx_CSW R s args own index y bytes maxL ret hh ws rm mc ms n) (hp : PreS s H Pc As)
    (hg : g.method = m) (hn : As.length = n) (hsize : g.locals.size = nL) (hstack : g.stack = As.reverse ++ rest) (hW : 2 * g.monitorRoom + (rest.map fun v => v.category).sum ≤ 8) (hdg : decode cc g.pc = .ok (.invokestatic index, 3)) (hf : cells + mc ≤ R.cells ∧ slots + ms ≤ R.slots) :
    vx_Run p l e R s m args below meth c H locs cells slots mc ms g rest (Qc As.toArray) XC free := by
  obtain ⟨⟨hrc, hrs, hfr, hlo, hws, hcw⟩, hcode, hini, hy, hlen, hl, hstt⟩ := cw
  have hK : vx_Back l R p e below s args y 3 8 (PreOf R mc ms Pc) (PostOf Qc mc ms free) (vx_Post XC mc ms free) := vx_backW (hh := hh) (bytes := bytes) (maxL := maxL) (ret := ret) hM hp.1 hrc hrs hfr hlo hws hcw (fun a' U hW => word_at hW (Or.inl (by first | rfl | simp [Cond.onTables, Cond.keeps, Cond.steady])) hini)
  obtain ⟨hx, hb, hml, ho, -⟩ := S
  intro T hT X
  rcases vx_callSX X hx (hh := hh) (bytes := bytes) (maxL := maxL) (ret := ret) ho hl hstt hini hcode hy hK hg (hsize.trans hml.symm) (argsL := As) (rest := rest) (fun sig h => hn.trans (hlen sig h)) hstack hW (by rw [hb]; exact hdg)
    (fun vm₁ hW₁ => ⟨hf.1, hf.2, hp.2 (T.setVm vm₁) hT hW₁⟩) with ⟨v, vm₁, ⟨U', l2, c2, s2⟩, hW₁, X', ⟨g', mk, t, L, e1, e2, hq, h1, hL, h2, h3⟩, st⟩ | ⟨q, vm₁, ⟨U', l2, c2, s2⟩, hW₁, X', ⟨g', mk, t, L, E, ce, e1, e2, hq, hce, hcv, hcl, h1, hL, h2, h3⟩, st⟩
  · dsimp only [Pt.U, Pt.locs, Pt.cells, Pt.slots] at X' e1 e2 h1 h2 h3 st
    subst h1; subst h2; subst h3
    exact Or.inl ⟨v, (T.setVm vm₁).calling g' mk As.toArray, t, U', L, hT, X', hL, e1, e2, hq, st⟩
  · dsimp only [Pt.U, Pt.locs, Pt.cells, Pt.slots] at X' e1 e2 h1 h2 h3 st hcl
    subst h1; subst h2; subst h3
    exact Or.inr ⟨q, (T.setVm vm₁).calling g' mk As.toArray, t, U', L, E, ce, hT, X', hL, e1, e2, hq, hce, hcv, vx_cls hW₁ hcl, st⟩
end
end VXH
theorem vx_ofWH {l : Launch} {y : MethodName} {ws ws' : List Cond} {rm : Room} {Pc : Array Value → State → Prop} {Qc : Array Value → State → Outcome → State → Prop} {XC : String → State → State → Prop} {mc ms : Nat} {free : Addr → Prop} {cc : ByteArray} {maxL : Nat} {ret : Option FieldType} {hh : List (Nat × Nat × Nat × Nat)}
    (hy : plainName y.cls = true) (hw : ws = Cond.codeWith y cc maxL ret hh :: ws')
    (body : ∀ p e s m args below meth c s₁, BodyLoose p l y (headSpec ws rm) cc maxL ret e s m args below meth c s₁ → c.maxLocals = maxL → Pc args s →
      W p l e (headSpec ws rm).room s m args below meth c s.heap [] 0 0 (vx_MQ below Qc XC args s mc ms free) (entryFrame m args maxL)) : vx_Met l y ws rm Pc Qc XC mc ms free := by
  refine MetFree.of_bodyS (code := cc) (maxLocals := maxL) (ret := ret) hy ?_ ?_
  · intro args s m h hn
    obtain ⟨m9, meth, c, hn9, h1, h2, h3, h4, -, h5, h6, -⟩ := Cond.codeWith_spec (atoms_spec (ws := ws) h _ (by rw [hw]; exact List.mem_cons_self))
    cases hn.symm.trans hn9
    exact ⟨meth, c, h1, h2, h3, h4, h5, h6⟩
  · intro p e s m args below meth c s₁ B hml hP _
    have hh0 : s₁.heap = s.heap := by rw [B.state]; rfl
    obtain ⟨t, a1, o, b1, b2, b3⟩ := body p e s m args below meth c s₁ B hml hP s₁ hh0 (Stand.of_body B)
    exact ⟨t, o, a1, b1, b2, b3⟩
/-! ===== END ===== -/
end
section
/-! Names: classes, fields, methods, words, decode rows; by wip/whole/tools/names.py out of the task. -/
def RX0 : String := "PrimeCurveSigner$Curve"
def RX1 : String := "PrimeCurveSigner"
def RX2 : String := "PrimeCurveSignerModel"
def RJM : String := "java/lang/Math"
def RJA : String := "java/util/Arrays"
def RL : String := "PrimeCurveSignerLaw"
def TX0 : u_T := fun k => match k with
  | 0 => ("PrimeCurveSigner$Curve", "p", "I", true)
  | 1 => ("PrimeCurveSigner$Curve", "a", "I", true)
  | 2 => ("PrimeCurveSigner$Curve", "b", "I", true)
  | 3 => ("PrimeCurveSigner$Curve", "n", "I", true)
  | _ => ("PrimeCurveSigner$Curve", "basePoint", "I", true)
def tyX0 : Nat → FieldType := fun k => match k with
  | 0 => .int
  | 1 => .int
  | 2 => .int
  | 3 => .int
  | _ => .int
theorem nmX0 : ∀ a, a < 5 → ∀ b, b < 5 → a ≠ b → (TX0 a).2.1 ≠ (TX0 b).2.1 := by decide +kernel
theorem tyX0_ok : ∀ k, k < 5 → parseFieldDescriptor (TX0 k).2.2.1 = some (tyX0 k) := by decide +kernel
def TX1 : u_T := fun k => match k with
  | 0 => ("PrimeCurveSigner", "registers", "[I", true)
  | 1 => ("PrimeCurveSigner", "rootCounts", "[I", true)
  | 2 => ("PrimeCurveSigner", "taken", "LPrimeCurveSigner$Curve;", false)
  | 3 => ("PrimeCurveSigner", "secret", "I", false)
  | _ => ("PrimeCurveSigner", "latestDraws", "I", false)
def tyX1 : Nat → FieldType := fun k => match k with
  | 0 => .array .int
  | 1 => .array .int
  | 2 => .object "PrimeCurveSigner$Curve"
  | 3 => .int
  | _ => .int
theorem nmX1 : ∀ a, a < 5 → ∀ b, b < 5 → a ≠ b → (TX1 a).2.1 ≠ (TX1 b).2.1 := by decide +kernel
theorem tyX1_ok : ∀ k, k < 5 → parseFieldDescriptor (TX1 k).2.2.1 = some (tyX1 k) := by decide +kernel
def TX2 : u_T := fun k => match k with
  | 0 => ("PrimeCurveSignerModel", "p", "I", false)
  | 1 => ("PrimeCurveSignerModel", "a", "I", false)
  | 2 => ("PrimeCurveSignerModel", "b", "I", false)
  | 3 => ("PrimeCurveSignerModel", "n", "I", false)
  | 4 => ("PrimeCurveSignerModel", "key", "I", false)
  | 5 => ("PrimeCurveSignerModel", "draws", "I", false)
  | 6 => ("PrimeCurveSignerModel", "thrown", "I", false)
  | 7 => ("PrimeCurveSignerModel", "tableX", "[I", false)
  | 8 => ("PrimeCurveSignerModel", "tableY", "[I", false)
  | 9 => ("PrimeCurveSignerModel", "register", "[I", false)
  | 10 => ("PrimeCurveSignerModel", "roots", "[I", false)
  | 11 => ("PrimeCurveSignerModel", "sumX", "I", false)
  | 12 => ("PrimeCurveSignerModel", "sumY", "I", false)
  | 13 => ("PrimeCurveSignerModel", "drawK", "I", false)
  | _ => ("PrimeCurveSignerModel", "drawV", "I", false)
def tyX2 : Nat → FieldType := fun k => match k with
  | 0 => .int
  | 1 => .int
  | 2 => .int
  | 3 => .int
  | 4 => .int
  | 5 => .int
  | 6 => .int
  | 7 => .array .int
  | 8 => .array .int
  | 9 => .array .int
  | 10 => .array .int
  | 11 => .int
  | 12 => .int
  | 13 => .int
  | _ => .int
theorem nmX2 : ∀ a, a < 15 → ∀ b, b < 15 → a ≠ b → (TX2 a).2.1 ≠ (TX2 b).2.1 := by decide +kernel
theorem tyX2_ok : ∀ k, k < 15 → parseFieldDescriptor (TX2 k).2.2.1 = some (tyX2 k) := by decide +kernel
abbrev clX : List vw_C := [(RX0, TX0, 5), (RX1, TX1, 5), (RX2, TX2, 15)]
abbrev cX1_init : ByteArray := prog_1_method_1_code
def yX1_init : MethodName := ⟨RX1, "<init>", "()V"⟩
abbrev cJA_fill : ByteArray := prog_14_method_103_code
def yJA_fill : MethodName := ⟨RJA, "fill", "([II)V"⟩
abbrev cX1_order : ByteArray := prog_1_method_3_code
def yX1_order : MethodName := ⟨RX1, "order", "()I"⟩
abbrev cX1_draws : ByteArray := prog_1_method_14_code
def yX1_draws : MethodName := ⟨RX1, "draws", "()I"⟩
abbrev cL_curve : ByteArray := method_3_code
def yL_curve : MethodName := ⟨RL, "curve", "(LPrimeCurveSigner;III[J)I"⟩
abbrev cX1_curve : ByteArray := prog_1_method_2_code
def yX1_curve : MethodName := ⟨RX1, "curve", "(III)I"⟩
abbrev cX1_isCurve : ByteArray := prog_1_method_19_code
def yX1_isCurve : MethodName := ⟨RX1, "isCurve", "(III)Z"⟩
abbrev cX1_isPrime : ByteArray := prog_1_method_20_code
def yX1_isPrime : MethodName := ⟨RX1, "isPrime", "(I)Z"⟩
abbrev cX1_countPoints : ByteArray := prog_1_method_21_code
def yX1_countPoints : MethodName := ⟨RX1, "countPoints", "(III)I"⟩
abbrev cX1_cubic : ByteArray := prog_1_method_22_code
def yX1_cubic : MethodName := ⟨RX1, "cubic", "(IIII)I"⟩
abbrev cX0_init : ByteArray := prog_2_method_1_code
def yX0_init : MethodName := ⟨RX0, "<init>", "(IIII)V"⟩
abbrev cX0_leastPoint : ByteArray := prog_2_method_2_code
def yX0_leastPoint : MethodName := ⟨RX0, "leastPoint", "(III)I"⟩
abbrev cX0_lesserRoot : ByteArray := prog_2_method_3_code
def yX0_lesserRoot : MethodName := ⟨RX0, "lesserRoot", "(II)I"⟩
abbrev cX1_pointAt : ByteArray := prog_1_method_23_code
def yX1_pointAt : MethodName := ⟨RX1, "pointAt", "(II)I"⟩
abbrev cL_load : ByteArray := method_4_code
def yL_load : MethodName := ⟨RL, "load", "(LPrimeCurveSigner;III)I"⟩
abbrev cX1_load : ByteArray := prog_1_method_4_code
def yX1_load : MethodName := ⟨RX1, "load", "(III)V"⟩
abbrev cX1_takenCurve : ByteArray := prog_1_method_17_code
def yX1_takenCurve : MethodName := ⟨RX1, "takenCurve", "()LPrimeCurveSigner$Curve;"⟩
abbrev cX1_checkRegister : ByteArray := prog_1_method_18_code
def yX1_checkRegister : MethodName := ⟨RX1, "checkRegister", "(I)V"⟩
abbrev cX0_holds : ByteArray := prog_2_method_4_code
def yX0_holds : MethodName := ⟨RX0, "holds", "(II)Z"⟩
abbrev cL_base : ByteArray := method_5_code
def yL_base : MethodName := ⟨RL, "base", "(LPrimeCurveSigner;I)I"⟩
abbrev cX1_base : ByteArray := prog_1_method_5_code
def yX1_base : MethodName := ⟨RX1, "base", "(I)V"⟩
abbrev cL_sum : ByteArray := method_6_code
def yL_sum : MethodName := ⟨RL, "sum", "(LPrimeCurveSigner;III)I"⟩
abbrev cX1_sum : ByteArray := prog_1_method_6_code
def yX1_sum : MethodName := ⟨RX1, "sum", "(III)V"⟩
abbrev cX0_plus : ByteArray := prog_2_method_7_code
def yX0_plus : MethodName := ⟨RX0, "plus", "(II)I"⟩
abbrev cX1_xOf : ByteArray := prog_1_method_24_code
def yX1_xOf : MethodName := ⟨RX1, "xOf", "(I)I"⟩
abbrev cX1_yOf : ByteArray := prog_1_method_25_code
def yX1_yOf : MethodName := ⟨RX1, "yOf", "(I)I"⟩
abbrev cX0_slope : ByteArray := prog_2_method_8_code
def yX0_slope : MethodName := ⟨RX0, "slope", "(II)I"⟩
abbrev cX1_quotient : ByteArray := prog_1_method_29_code
def yX1_quotient : MethodName := ⟨RX1, "quotient", "(III)I"⟩
abbrev cJM_floorModI : ByteArray := prog_10_method_50_code
def yJM_floorModI : MethodName := ⟨RJM, "floorMod", "(II)I"⟩
abbrev cX1_inverse : ByteArray := prog_1_method_30_code
def yX1_inverse : MethodName := ⟨RX1, "inverse", "(II)I"⟩
abbrev cL_times : ByteArray := method_7_code
def yL_times : MethodName := ⟨RL, "times", "(LPrimeCurveSigner;III)I"⟩
abbrev cX1_times : ByteArray := prog_1_method_7_code
def yX1_times : MethodName := ⟨RX1, "times", "(III)V"⟩
abbrev cX0_multiple : ByteArray := prog_2_method_9_code
def yX0_multiple : MethodName := ⟨RX0, "multiple", "(II)I"⟩
abbrev cL_x : ByteArray := method_8_code
def yL_x : MethodName := ⟨RL, "x", "(LPrimeCurveSigner;I[J)I"⟩
abbrev cX1_x : ByteArray := prog_1_method_8_code
def yX1_x : MethodName := ⟨RX1, "x", "(I)I"⟩
abbrev cL_y : ByteArray := method_9_code
def yL_y : MethodName := ⟨RL, "y", "(LPrimeCurveSigner;I[J)I"⟩
abbrev cX1_y : ByteArray := prog_1_method_9_code
def yX1_y : MethodName := ⟨RX1, "y", "(I)I"⟩
abbrev cL_code : ByteArray := method_10_code
def yL_code : MethodName := ⟨RL, "code", "(LPrimeCurveSigner;IZ[J)I"⟩
abbrev cX1_code : ByteArray := prog_1_method_10_code
def yX1_code : MethodName := ⟨RX1, "code", "(IZ)J"⟩
abbrev cX1_shortNumber : ByteArray := prog_1_method_26_code
def yX1_shortNumber : MethodName := ⟨RX1, "shortNumber", "(I)J"⟩
abbrev cX1_plainNumber : ByteArray := prog_1_method_27_code
def yX1_plainNumber : MethodName := ⟨RX1, "plainNumber", "(I)J"⟩
abbrev cL_decode : ByteArray := method_11_code
def yL_decode : MethodName := ⟨RL, "decode", "(LPrimeCurveSigner;IIJ)I"⟩
abbrev cX1_decode : ByteArray := prog_1_method_11_code
def yX1_decode : MethodName := ⟨RX1, "decode", "(IIJ)V"⟩
abbrev cX0_pointOfBytes : ByteArray := prog_2_method_10_code
def yX0_pointOfBytes : MethodName := ⟨RX0, "pointOfBytes", "(IJ)I"⟩
abbrev cX0_pointOfShort : ByteArray := prog_2_method_11_code
def yX0_pointOfShort : MethodName := ⟨RX0, "pointOfShort", "(J)I"⟩
abbrev cX0_pointOfPlain : ByteArray := prog_2_method_12_code
def yX0_pointOfPlain : MethodName := ⟨RX0, "pointOfPlain", "(J)I"⟩
abbrev cL_key : ByteArray := method_12_code
def yL_key : MethodName := ⟨RL, "key", "(LPrimeCurveSigner;II)I"⟩
abbrev cX1_key : ByteArray := prog_1_method_12_code
def yX1_key : MethodName := ⟨RX1, "key", "(II)V"⟩
abbrev cX0_isUnit : ByteArray := prog_2_method_5_code
def yX0_isUnit : MethodName := ⟨RX0, "isUnit", "(I)Z"⟩
abbrev cL_sign : ByteArray := method_13_code
def yL_sign : MethodName := ⟨RL, "sign", "(LPrimeCurveSigner;J[J)I"⟩
abbrev cX1_sign : ByteArray := prog_1_method_13_code
def yX1_sign : MethodName := ⟨RX1, "sign", "(J)J"⟩
abbrev cX0_messageResidue : ByteArray := prog_2_method_6_code
def yX0_messageResidue : MethodName := ⟨RX0, "messageResidue", "(J)I"⟩
abbrev cJM_floorModJ : ByteArray := prog_10_method_52_code
def yJM_floorModJ : MethodName := ⟨RJM, "floorMod", "(JJ)J"⟩
abbrev cX0_drawMask : ByteArray := prog_2_method_13_code
def yX0_drawMask : MethodName := ⟨RX0, "drawMask", "()I"⟩
abbrev cX1_mix : ByteArray := prog_1_method_28_code
def yX1_mix : MethodName := ⟨RX1, "mix", "(II)I"⟩
abbrev cX0_signatureFrom : ByteArray := prog_2_method_14_code
def yX0_signatureFrom : MethodName := ⟨RX0, "signatureFrom", "(III)J"⟩
abbrev cL_verify : ByteArray := method_14_code
def yL_verify : MethodName := ⟨RL, "verify", "(LPrimeCurveSigner;IJII[J)I"⟩
abbrev cX1_verify : ByteArray := prog_1_method_15_code
def yX1_verify : MethodName := ⟨RX1, "verify", "(IJII)Z"⟩
abbrev cX0_fits : ByteArray := prog_2_method_15_code
def yX0_fits : MethodName := ⟨RX0, "fits", "(IJII)Z"⟩
abbrev cL_accepts : ByteArray := method_15_code
def yL_accepts : MethodName := ⟨RL, "accepts", "(LPrimeCurveSigner;IJJII[J)I"⟩
abbrev cX1_accepts : ByteArray := prog_1_method_16_code
def yX1_accepts : MethodName := ⟨RX1, "accepts", "(IJJII)Z"⟩
abbrev cX2_init : ByteArray := prog_4_method_1_code
def yX2_init : MethodName := ⟨RX2, "<init>", "()V"⟩
abbrev cX2_thrown : ByteArray := prog_4_method_2_code
def yX2_thrown : MethodName := ⟨RX2, "thrown", "()I"⟩
abbrev cX2_curve : ByteArray := prog_4_method_10_code
def yX2_curve : MethodName := ⟨RX2, "curve", "(III)I"⟩
abbrev cX2_count : ByteArray := prog_4_method_7_code
def yX2_count : MethodName := ⟨RX2, "count", "(III)I"⟩
abbrev cX2_prime : ByteArray := prog_4_method_5_code
def yX2_prime : MethodName := ⟨RX2, "prime", "(I)Z"⟩
abbrev cX2_cube : ByteArray := prog_4_method_6_code
def yX2_cube : MethodName := ⟨RX2, "cube", "(IIII)I"⟩
abbrev cX2_good : ByteArray := prog_4_method_4_code
def yX2_good : MethodName := ⟨RX2, "good", "(ZZZ)Z"⟩
abbrev cX2_findBase : ByteArray := prog_4_method_11_code
def yX2_findBase : MethodName := ⟨RX2, "findBase", "()V"⟩
abbrev cX2_add : ByteArray := prog_4_method_9_code
def yX2_add : MethodName := ⟨RX2, "add", "(IIII)V"⟩
abbrev cX2_inverse : ByteArray := prog_4_method_8_code
def yX2_inverse : MethodName := ⟨RX2, "inverse", "(II)I"⟩
abbrev cX2_order : ByteArray := prog_4_method_12_code
def yX2_order : MethodName := ⟨RX2, "order", "()I"⟩
abbrev cX2_load : ByteArray := prog_4_method_14_code
def yX2_load : MethodName := ⟨RX2, "load", "(III)V"⟩
abbrev cX2_find : ByteArray := prog_4_method_13_code
def yX2_find : MethodName := ⟨RX2, "find", "(II)I"⟩
abbrev cX2_noRegister : ByteArray := prog_4_method_3_code
def yX2_noRegister : MethodName := ⟨RX2, "noRegister", "(I)Z"⟩
abbrev cX2_base : ByteArray := prog_4_method_15_code
def yX2_base : MethodName := ⟨RX2, "base", "(I)V"⟩
abbrev cX2_sum : ByteArray := prog_4_method_16_code
def yX2_sum : MethodName := ⟨RX2, "sum", "(III)V"⟩
abbrev cX2_times : ByteArray := prog_4_method_18_code
def yX2_times : MethodName := ⟨RX2, "times", "(III)V"⟩
abbrev cX2_modulo : ByteArray := prog_4_method_17_code
def yX2_modulo : MethodName := ⟨RX2, "modulo", "(J)I"⟩
abbrev cX2_x : ByteArray := prog_4_method_19_code
def yX2_x : MethodName := ⟨RX2, "x", "(I)I"⟩
abbrev cX2_y : ByteArray := prog_4_method_20_code
def yX2_y : MethodName := ⟨RX2, "y", "(I)I"⟩
abbrev cX2_code : ByteArray := prog_4_method_23_code
def yX2_code : MethodName := ⟨RX2, "code", "(IZ)J"⟩
abbrev cX2_bytesOf : ByteArray := prog_4_method_21_code
def yX2_bytesOf : MethodName := ⟨RX2, "bytesOf", "(IZ)J"⟩
abbrev cX2_decode : ByteArray := prog_4_method_24_code
def yX2_decode : MethodName := ⟨RX2, "decode", "(IIJ)V"⟩
abbrev cX2_read : ByteArray := prog_4_method_22_code
def yX2_read : MethodName := ⟨RX2, "read", "(IJ)I"⟩
abbrev cX2_key : ByteArray := prog_4_method_25_code
def yX2_key : MethodName := ⟨RX2, "key", "(II)V"⟩
abbrev cX2_sign : ByteArray := prog_4_method_28_code
def yX2_sign : MethodName := ⟨RX2, "sign", "(J)J"⟩
abbrev cX2_stir : ByteArray := prog_4_method_27_code
def yX2_stir : MethodName := ⟨RX2, "stir", "(I)V"⟩
abbrev cX2_mix : ByteArray := prog_4_method_26_code
def yX2_mix : MethodName := ⟨RX2, "mix", "(II)I"⟩
abbrev cX2_draws : ByteArray := prog_4_method_29_code
def yX2_draws : MethodName := ⟨RX2, "draws", "()I"⟩
abbrev cX2_verify : ByteArray := prog_4_method_31_code
def yX2_verify : MethodName := ⟨RX2, "verify", "(IJII)Z"⟩
abbrev cX2_fits : ByteArray := prog_4_method_30_code
def yX2_fits : MethodName := ⟨RX2, "fits", "(IJII)Z"⟩
abbrev cX2_accepts : ByteArray := prog_4_method_32_code
def yX2_accepts : MethodName := ⟨RX2, "accepts", "(IJJII)Z"⟩
/-- all the tables' words that every state keeps: each method's own list is its code and these -/
def AW : List Cond := lw_tbl.filter goodWord
theorem aw_tbl {w : Cond} (h : w ∈ AW) : w ∈ lw_tbl := (List.mem_filter.mp h).1
theorem aw_of {w : Cond} (h : w ∈ lw_tbl) (g : goodWord w = true) : w ∈ AW := List.mem_filter.mpr ⟨h, g⟩
theorem aw_in {c d : Cond} (h : d ∈ AW) : GoodIn (c :: AW) (d :: AW) := by
  intro w hw
  have hA : w ∈ AW := by
    rcases List.mem_cons.mp hw with rfl | hw
    · exact h
    · exact hw
  exact ⟨List.mem_cons_of_mem _ hA, good_of_word (List.mem_filter.mp hA).2⟩
theorem aw_ina {d : Cond} (h : d ∈ AW) : GoodIn AW (d :: AW) := by
  intro w hw
  have hA : w ∈ AW := by
    rcases List.mem_cons.mp hw with rfl | hw
    · exact h
    · exact hw
  exact ⟨hA, good_of_word (List.mem_filter.mp hA).2⟩
theorem aw_i_L : Cond.initialized RL ∈ AW := aw_of (List.mem_of_getElem? (i := 21) (by decide +kernel)) (by decide +kernel)
theorem aw_i_X1 : Cond.initialized RX1 ∈ AW := aw_of (List.mem_of_getElem? (i := 22) (by decide +kernel)) (by decide +kernel)
theorem aw_i_JA : Cond.initialized RJA ∈ AW := aw_of (List.mem_of_getElem? (i := 23) (by decide +kernel)) (by decide +kernel)
theorem aw_i_X2 : Cond.initialized RX2 ∈ AW := aw_of (List.mem_of_getElem? (i := 24) (by decide +kernel)) (by decide +kernel)
theorem aw_i_X0 : Cond.initialized RX0 ∈ AW := aw_of (List.mem_of_getElem? (i := 29) (by decide +kernel)) (by decide +kernel)
theorem aw_i_JM : Cond.initialized RJM ∈ AW := aw_of (List.mem_of_getElem? (i := 32) (by decide +kernel)) (by decide +kernel)
theorem aw_c_L_8 : Cond.classLink RL 8 RX1 ∈ AW := aw_of (List.mem_of_getElem? (i := 34) (by decide +kernel)) (by decide +kernel)
theorem aw_n_X1 : Cond.instantiable RX1 5 ∈ AW := aw_of (List.mem_of_getElem? (i := 35) (by decide +kernel)) (by decide +kernel)
theorem aw_m_L_66 : Cond.methodLink RL 66 yX1_init ∈ AW := aw_of (List.mem_of_getElem? (i := 36) (by decide +kernel)) (by decide +kernel)
theorem aw_v_X1_init : Cond.instanceMethod yX1_init ∈ AW := aw_of (List.mem_of_getElem? (i := 37) (by decide +kernel)) (by decide +kernel)
theorem aw_b_X1_init : Cond.code yX1_init cX1_init 1 none ∈ AW := aw_of (List.mem_of_getElem? (i := 38) (by decide +kernel)) (by decide +kernel)
theorem aw_m_X1_1 : Cond.methodLink RX1 1 objectInit ∈ AW := aw_of (List.mem_of_getElem? (i := 39) (by decide +kernel)) (by decide +kernel)
theorem aw_o_inst : Cond.instanceMethod objectInit ∈ AW := aw_of (List.mem_of_getElem? (i := 40) (by decide +kernel)) (by decide +kernel)
theorem aw_o_code : Cond.code objectInit ⟨#[0xb1]⟩ 1 none ∈ AW := aw_of (List.mem_of_getElem? (i := 41) (by decide +kernel)) (by decide +kernel)
theorem aw_m_X1_16 : Cond.methodLink RX1 16 yJA_fill ∈ AW := aw_of (List.mem_of_getElem? (i := 42) (by decide +kernel)) (by decide +kernel)
theorem aw_s_JA_fill : Cond.static yJA_fill ∈ AW := aw_of (List.mem_of_getElem? (i := 43) (by decide +kernel)) (by decide +kernel)
theorem aw_b_JA_fill : Cond.code yJA_fill cJA_fill 4 none ∈ AW := aw_of (List.mem_of_getElem? (i := 44) (by decide +kernel)) (by decide +kernel)
theorem aw_f_X1_9 : Cond.fieldLink RX1 9 "PrimeCurveSigner" "registers" "[I" ∈ AW := aw_of (List.mem_of_getElem? (i := 45) (by decide +kernel)) (by decide +kernel)
theorem aw_f_X1_13 : Cond.fieldLink RX1 13 "PrimeCurveSigner" "rootCounts" "[I" ∈ AW := aw_of (List.mem_of_getElem? (i := 46) (by decide +kernel)) (by decide +kernel)
theorem aw_f_X1_22 : Cond.fieldLink RX1 22 "PrimeCurveSigner" "taken" "LPrimeCurveSigner$Curve;" ∈ AW := aw_of (List.mem_of_getElem? (i := 47) (by decide +kernel)) (by decide +kernel)
theorem aw_f_X1_26 : Cond.fieldLink RX1 26 "PrimeCurveSigner" "secret" "I" ∈ AW := aw_of (List.mem_of_getElem? (i := 48) (by decide +kernel)) (by decide +kernel)
theorem aw_f_X1_30 : Cond.fieldLink RX1 30 "PrimeCurveSigner" "latestDraws" "I" ∈ AW := aw_of (List.mem_of_getElem? (i := 49) (by decide +kernel)) (by decide +kernel)
theorem aw_a_int : Cond.arrayClass .int ∈ AW := aw_of (List.mem_of_getElem? (i := 61) (by decide +kernel)) (by decide +kernel)
theorem aw_m_L_80 : Cond.methodLink RL 80 yX1_order ∈ AW := aw_of (List.mem_of_getElem? (i := 62) (by decide +kernel)) (by decide +kernel)
theorem aw_v_X1_order : Cond.instanceMethod yX1_order ∈ AW := aw_of (List.mem_of_getElem? (i := 63) (by decide +kernel)) (by decide +kernel)
theorem aw_e_X1_order : Cond.selects RX1 yX1_order yX1_order ∈ AW := aw_of (List.mem_of_getElem? (i := 64) (by decide +kernel)) (by decide +kernel)
theorem aw_b_X1_order : Cond.code yX1_order cX1_order 1 (some .int) ∈ AW := aw_of (List.mem_of_getElem? (i := 65) (by decide +kernel)) (by decide +kernel)
theorem aw_m_L_123 : Cond.methodLink RL 123 yX1_draws ∈ AW := aw_of (List.mem_of_getElem? (i := 66) (by decide +kernel)) (by decide +kernel)
theorem aw_v_X1_draws : Cond.instanceMethod yX1_draws ∈ AW := aw_of (List.mem_of_getElem? (i := 67) (by decide +kernel)) (by decide +kernel)
theorem aw_e_X1_draws : Cond.selects RX1 yX1_draws yX1_draws ∈ AW := aw_of (List.mem_of_getElem? (i := 68) (by decide +kernel)) (by decide +kernel)
theorem aw_b_X1_draws : Cond.code yX1_draws cX1_draws 1 (some .int) ∈ AW := aw_of (List.mem_of_getElem? (i := 69) (by decide +kernel)) (by decide +kernel)
theorem aw_m_L_70 : Cond.methodLink RL 70 yL_curve ∈ AW := aw_of (List.mem_of_getElem? (i := 70) (by decide +kernel)) (by decide +kernel)
theorem aw_s_L_curve : Cond.static yL_curve ∈ AW := aw_of (List.mem_of_getElem? (i := 71) (by decide +kernel)) (by decide +kernel)
theorem aw_c_L_13 : Cond.classLink RL 13 "java/lang/IllegalArgumentException" ∈ AW := aw_of (List.mem_of_getElem? (i := 73) (by decide +kernel)) (by decide +kernel)
theorem aw_m_L_7 : Cond.methodLink RL 7 yX1_curve ∈ AW := aw_of (List.mem_of_getElem? (i := 74) (by decide +kernel)) (by decide +kernel)
theorem aw_v_X1_curve : Cond.instanceMethod yX1_curve ∈ AW := aw_of (List.mem_of_getElem? (i := 75) (by decide +kernel)) (by decide +kernel)
theorem aw_e_X1_curve : Cond.selects RX1 yX1_curve yX1_curve ∈ AW := aw_of (List.mem_of_getElem? (i := 76) (by decide +kernel)) (by decide +kernel)
theorem aw_b_X1_curve : Cond.code yX1_curve cX1_curve 5 (some .int) ∈ AW := aw_of (List.mem_of_getElem? (i := 77) (by decide +kernel)) (by decide +kernel)
theorem aw_m_X1_33 : Cond.methodLink RX1 33 yX1_isCurve ∈ AW := aw_of (List.mem_of_getElem? (i := 78) (by decide +kernel)) (by decide +kernel)
theorem aw_s_X1_isCurve : Cond.static yX1_isCurve ∈ AW := aw_of (List.mem_of_getElem? (i := 79) (by decide +kernel)) (by decide +kernel)
theorem aw_b_X1_isCurve : Cond.code yX1_isCurve cX1_isCurve 3 (some .boolean) ∈ AW := aw_of (List.mem_of_getElem? (i := 80) (by decide +kernel)) (by decide +kernel)
theorem aw_m_X1_48 : Cond.methodLink RX1 48 yX1_isPrime ∈ AW := aw_of (List.mem_of_getElem? (i := 81) (by decide +kernel)) (by decide +kernel)
theorem aw_s_X1_isPrime : Cond.static yX1_isPrime ∈ AW := aw_of (List.mem_of_getElem? (i := 82) (by decide +kernel)) (by decide +kernel)
theorem aw_b_X1_isPrime : Cond.code yX1_isPrime cX1_isPrime 2 (some .boolean) ∈ AW := aw_of (List.mem_of_getElem? (i := 83) (by decide +kernel)) (by decide +kernel)
theorem aw_c_X1_37 : Cond.classLink RX1 37 "java/lang/IllegalArgumentException" ∈ AW := aw_of (List.mem_of_getElem? (i := 84) (by decide +kernel)) (by decide +kernel)
theorem aw_a_byte : Cond.arrayClass .byte ∈ AW := aw_of (List.mem_of_getElem? (i := 152) (by decide +kernel)) (by decide +kernel)
theorem aw_m_X1_44 : Cond.methodLink RX1 44 yX1_countPoints ∈ AW := aw_of (List.mem_of_getElem? (i := 153) (by decide +kernel)) (by decide +kernel)
theorem aw_v_X1_countPoints : Cond.instanceMethod yX1_countPoints ∈ AW := aw_of (List.mem_of_getElem? (i := 155) (by decide +kernel)) (by decide +kernel)
theorem aw_b_X1_countPoints : Cond.code yX1_countPoints cX1_countPoints 6 (some .int) ∈ AW := aw_of (List.mem_of_getElem? (i := 156) (by decide +kernel)) (by decide +kernel)
theorem aw_m_X1_150 : Cond.methodLink RX1 150 yX1_cubic ∈ AW := aw_of (List.mem_of_getElem? (i := 157) (by decide +kernel)) (by decide +kernel)
theorem aw_s_X1_cubic : Cond.static yX1_cubic ∈ AW := aw_of (List.mem_of_getElem? (i := 158) (by decide +kernel)) (by decide +kernel)
theorem aw_b_X1_cubic : Cond.code yX1_cubic cX1_cubic 4 (some .int) ∈ AW := aw_of (List.mem_of_getElem? (i := 159) (by decide +kernel)) (by decide +kernel)
theorem aw_c_X1_54 : Cond.classLink RX1 54 RX0 ∈ AW := aw_of (List.mem_of_getElem? (i := 161) (by decide +kernel)) (by decide +kernel)
theorem aw_n_X0 : Cond.instantiable RX0 5 ∈ AW := aw_of (List.mem_of_getElem? (i := 162) (by decide +kernel)) (by decide +kernel)
theorem aw_m_X1_56 : Cond.methodLink RX1 56 yX0_init ∈ AW := aw_of (List.mem_of_getElem? (i := 163) (by decide +kernel)) (by decide +kernel)
theorem aw_v_X0_init : Cond.instanceMethod yX0_init ∈ AW := aw_of (List.mem_of_getElem? (i := 164) (by decide +kernel)) (by decide +kernel)
theorem aw_b_X0_init : Cond.code yX0_init cX0_init 5 none ∈ AW := aw_of (List.mem_of_getElem? (i := 165) (by decide +kernel)) (by decide +kernel)
theorem aw_m_X0_3 : Cond.methodLink RX0 3 objectInit ∈ AW := aw_of (List.mem_of_getElem? (i := 166) (by decide +kernel)) (by decide +kernel)
theorem aw_m_X0_24 : Cond.methodLink RX0 24 yX0_leastPoint ∈ AW := aw_of (List.mem_of_getElem? (i := 167) (by decide +kernel)) (by decide +kernel)
theorem aw_s_X0_leastPoint : Cond.static yX0_leastPoint ∈ AW := aw_of (List.mem_of_getElem? (i := 168) (by decide +kernel)) (by decide +kernel)
theorem aw_b_X0_leastPoint : Cond.code yX0_leastPoint cX0_leastPoint 5 (some .int) ∈ AW := aw_of (List.mem_of_getElem? (i := 169) (by decide +kernel)) (by decide +kernel)
theorem aw_m_X0_35 : Cond.methodLink RX0 35 yX0_lesserRoot ∈ AW := aw_of (List.mem_of_getElem? (i := 171) (by decide +kernel)) (by decide +kernel)
theorem aw_s_X0_lesserRoot : Cond.static yX0_lesserRoot ∈ AW := aw_of (List.mem_of_getElem? (i := 172) (by decide +kernel)) (by decide +kernel)
theorem aw_b_X0_lesserRoot : Cond.code yX0_lesserRoot cX0_lesserRoot 3 (some .int) ∈ AW := aw_of (List.mem_of_getElem? (i := 173) (by decide +kernel)) (by decide +kernel)
theorem aw_s_X1_pointAt : Cond.static yX1_pointAt ∈ AW := aw_of (List.mem_of_getElem? (i := 175) (by decide +kernel)) (by decide +kernel)
theorem aw_b_X1_pointAt : Cond.code yX1_pointAt cX1_pointAt 2 (some .int) ∈ AW := aw_of (List.mem_of_getElem? (i := 176) (by decide +kernel)) (by decide +kernel)
theorem aw_k_X1_154 : Cond.constant RX1 154 (65536) ∈ AW := aw_of (List.mem_of_getElem? (i := 177) (by decide +kernel)) (by decide +kernel)
theorem aw_f_X0_9 : Cond.fieldLink RX0 9 "PrimeCurveSigner$Curve" "p" "I" ∈ AW := aw_of (List.mem_of_getElem? (i := 178) (by decide +kernel)) (by decide +kernel)
theorem aw_f_X0_15 : Cond.fieldLink RX0 15 "PrimeCurveSigner$Curve" "a" "I" ∈ AW := aw_of (List.mem_of_getElem? (i := 179) (by decide +kernel)) (by decide +kernel)
theorem aw_f_X0_18 : Cond.fieldLink RX0 18 "PrimeCurveSigner$Curve" "b" "I" ∈ AW := aw_of (List.mem_of_getElem? (i := 180) (by decide +kernel)) (by decide +kernel)
theorem aw_f_X0_21 : Cond.fieldLink RX0 21 "PrimeCurveSigner$Curve" "n" "I" ∈ AW := aw_of (List.mem_of_getElem? (i := 181) (by decide +kernel)) (by decide +kernel)
theorem aw_f_X1_59 : Cond.fieldLink RX1 59 "PrimeCurveSigner$Curve" "n" "I" ∈ AW := aw_of (List.mem_of_getElem? (i := 182) (by decide +kernel)) (by decide +kernel)
theorem aw_f_X0_28 : Cond.fieldLink RX0 28 "PrimeCurveSigner$Curve" "basePoint" "I" ∈ AW := aw_of (List.mem_of_getElem? (i := 183) (by decide +kernel)) (by decide +kernel)
theorem aw_f_X1_80 : Cond.fieldLink RX1 80 "PrimeCurveSigner$Curve" "basePoint" "I" ∈ AW := aw_of (List.mem_of_getElem? (i := 184) (by decide +kernel)) (by decide +kernel)
theorem aw_m_L_84 : Cond.methodLink RL 84 yL_load ∈ AW := aw_of (List.mem_of_getElem? (i := 196) (by decide +kernel)) (by decide +kernel)
theorem aw_s_L_load : Cond.static yL_load ∈ AW := aw_of (List.mem_of_getElem? (i := 197) (by decide +kernel)) (by decide +kernel)
theorem aw_c_L_19 : Cond.classLink RL 19 "java/lang/IllegalStateException" ∈ AW := aw_of (List.mem_of_getElem? (i := 199) (by decide +kernel)) (by decide +kernel)
theorem aw_c_L_21 : Cond.classLink RL 21 "java/lang/IndexOutOfBoundsException" ∈ AW := aw_of (List.mem_of_getElem? (i := 200) (by decide +kernel)) (by decide +kernel)
theorem aw_m_L_15 : Cond.methodLink RL 15 yX1_load ∈ AW := aw_of (List.mem_of_getElem? (i := 201) (by decide +kernel)) (by decide +kernel)
theorem aw_v_X1_load : Cond.instanceMethod yX1_load ∈ AW := aw_of (List.mem_of_getElem? (i := 202) (by decide +kernel)) (by decide +kernel)
theorem aw_e_X1_load : Cond.selects RX1 yX1_load yX1_load ∈ AW := aw_of (List.mem_of_getElem? (i := 203) (by decide +kernel)) (by decide +kernel)
theorem aw_b_X1_load : Cond.code yX1_load cX1_load 5 none ∈ AW := aw_of (List.mem_of_getElem? (i := 204) (by decide +kernel)) (by decide +kernel)
theorem aw_m_X1_62 : Cond.methodLink RX1 62 yX1_takenCurve ∈ AW := aw_of (List.mem_of_getElem? (i := 205) (by decide +kernel)) (by decide +kernel)
theorem aw_v_X1_takenCurve : Cond.instanceMethod yX1_takenCurve ∈ AW := aw_of (List.mem_of_getElem? (i := 207) (by decide +kernel)) (by decide +kernel)
theorem aw_b_X1_takenCurve : Cond.code yX1_takenCurve cX1_takenCurve 1 (some (.object "PrimeCurveSigner$Curve")) ∈ AW := aw_of (List.mem_of_getElem? (i := 208) (by decide +kernel)) (by decide +kernel)
theorem aw_c_X1_114 : Cond.classLink RX1 114 "java/lang/IllegalStateException" ∈ AW := aw_of (List.mem_of_getElem? (i := 209) (by decide +kernel)) (by decide +kernel)
theorem aw_m_X1_66 : Cond.methodLink RX1 66 yX1_checkRegister ∈ AW := aw_of (List.mem_of_getElem? (i := 225) (by decide +kernel)) (by decide +kernel)
theorem aw_s_X1_checkRegister : Cond.static yX1_checkRegister ∈ AW := aw_of (List.mem_of_getElem? (i := 226) (by decide +kernel)) (by decide +kernel)
theorem aw_b_X1_checkRegister : Cond.code yX1_checkRegister cX1_checkRegister 1 none ∈ AW := aw_of (List.mem_of_getElem? (i := 227) (by decide +kernel)) (by decide +kernel)
theorem aw_c_X1_145 : Cond.classLink RX1 145 "java/lang/IndexOutOfBoundsException" ∈ AW := aw_of (List.mem_of_getElem? (i := 228) (by decide +kernel)) (by decide +kernel)
theorem aw_m_X1_70 : Cond.methodLink RX1 70 yX0_holds ∈ AW := aw_of (List.mem_of_getElem? (i := 244) (by decide +kernel)) (by decide +kernel)
theorem aw_v_X0_holds : Cond.instanceMethod yX0_holds ∈ AW := aw_of (List.mem_of_getElem? (i := 245) (by decide +kernel)) (by decide +kernel)
theorem aw_e_X0_holds : Cond.selects RX0 yX0_holds yX0_holds ∈ AW := aw_of (List.mem_of_getElem? (i := 246) (by decide +kernel)) (by decide +kernel)
theorem aw_b_X0_holds : Cond.code yX0_holds cX0_holds 3 (some .boolean) ∈ AW := aw_of (List.mem_of_getElem? (i := 247) (by decide +kernel)) (by decide +kernel)
theorem aw_m_X1_76 : Cond.methodLink RX1 76 yX1_pointAt ∈ AW := aw_of (List.mem_of_getElem? (i := 249) (by decide +kernel)) (by decide +kernel)
theorem aw_m_L_88 : Cond.methodLink RL 88 yL_base ∈ AW := aw_of (List.mem_of_getElem? (i := 250) (by decide +kernel)) (by decide +kernel)
theorem aw_s_L_base : Cond.static yL_base ∈ AW := aw_of (List.mem_of_getElem? (i := 251) (by decide +kernel)) (by decide +kernel)
theorem aw_m_L_23 : Cond.methodLink RL 23 yX1_base ∈ AW := aw_of (List.mem_of_getElem? (i := 253) (by decide +kernel)) (by decide +kernel)
theorem aw_v_X1_base : Cond.instanceMethod yX1_base ∈ AW := aw_of (List.mem_of_getElem? (i := 254) (by decide +kernel)) (by decide +kernel)
theorem aw_e_X1_base : Cond.selects RX1 yX1_base yX1_base ∈ AW := aw_of (List.mem_of_getElem? (i := 255) (by decide +kernel)) (by decide +kernel)
theorem aw_b_X1_base : Cond.code yX1_base cX1_base 3 none ∈ AW := aw_of (List.mem_of_getElem? (i := 256) (by decide +kernel)) (by decide +kernel)
theorem aw_m_L_92 : Cond.methodLink RL 92 yL_sum ∈ AW := aw_of (List.mem_of_getElem? (i := 257) (by decide +kernel)) (by decide +kernel)
theorem aw_s_L_sum : Cond.static yL_sum ∈ AW := aw_of (List.mem_of_getElem? (i := 258) (by decide +kernel)) (by decide +kernel)
theorem aw_m_L_27 : Cond.methodLink RL 27 yX1_sum ∈ AW := aw_of (List.mem_of_getElem? (i := 260) (by decide +kernel)) (by decide +kernel)
theorem aw_v_X1_sum : Cond.instanceMethod yX1_sum ∈ AW := aw_of (List.mem_of_getElem? (i := 261) (by decide +kernel)) (by decide +kernel)
theorem aw_e_X1_sum : Cond.selects RX1 yX1_sum yX1_sum ∈ AW := aw_of (List.mem_of_getElem? (i := 262) (by decide +kernel)) (by decide +kernel)
theorem aw_b_X1_sum : Cond.code yX1_sum cX1_sum 5 none ∈ AW := aw_of (List.mem_of_getElem? (i := 263) (by decide +kernel)) (by decide +kernel)
theorem aw_m_X1_83 : Cond.methodLink RX1 83 yX0_plus ∈ AW := aw_of (List.mem_of_getElem? (i := 264) (by decide +kernel)) (by decide +kernel)
theorem aw_v_X0_plus : Cond.instanceMethod yX0_plus ∈ AW := aw_of (List.mem_of_getElem? (i := 265) (by decide +kernel)) (by decide +kernel)
theorem aw_e_X0_plus : Cond.selects RX0 yX0_plus yX0_plus ∈ AW := aw_of (List.mem_of_getElem? (i := 266) (by decide +kernel)) (by decide +kernel)
theorem aw_b_X0_plus : Cond.code yX0_plus cX0_plus 7 (some .int) ∈ AW := aw_of (List.mem_of_getElem? (i := 267) (by decide +kernel)) (by decide +kernel)
theorem aw_s_X1_xOf : Cond.static yX1_xOf ∈ AW := aw_of (List.mem_of_getElem? (i := 269) (by decide +kernel)) (by decide +kernel)
theorem aw_b_X1_xOf : Cond.code yX1_xOf cX1_xOf 1 (some .int) ∈ AW := aw_of (List.mem_of_getElem? (i := 270) (by decide +kernel)) (by decide +kernel)
theorem aw_s_X1_yOf : Cond.static yX1_yOf ∈ AW := aw_of (List.mem_of_getElem? (i := 272) (by decide +kernel)) (by decide +kernel)
theorem aw_b_X1_yOf : Cond.code yX1_yOf cX1_yOf 1 (some .int) ∈ AW := aw_of (List.mem_of_getElem? (i := 273) (by decide +kernel)) (by decide +kernel)
theorem aw_k_X1_155 : Cond.constant RX1 155 (65535) ∈ AW := aw_of (List.mem_of_getElem? (i := 274) (by decide +kernel)) (by decide +kernel)
theorem aw_m_X0_55 : Cond.methodLink RX0 55 yX0_slope ∈ AW := aw_of (List.mem_of_getElem? (i := 275) (by decide +kernel)) (by decide +kernel)
theorem aw_v_X0_slope : Cond.instanceMethod yX0_slope ∈ AW := aw_of (List.mem_of_getElem? (i := 277) (by decide +kernel)) (by decide +kernel)
theorem aw_b_X0_slope : Cond.code yX0_slope cX0_slope 5 (some .int) ∈ AW := aw_of (List.mem_of_getElem? (i := 278) (by decide +kernel)) (by decide +kernel)
theorem aw_s_X1_quotient : Cond.static yX1_quotient ∈ AW := aw_of (List.mem_of_getElem? (i := 280) (by decide +kernel)) (by decide +kernel)
theorem aw_b_X1_quotient : Cond.code yX1_quotient cX1_quotient 3 (some .int) ∈ AW := aw_of (List.mem_of_getElem? (i := 281) (by decide +kernel)) (by decide +kernel)
theorem aw_m_X1_161 : Cond.methodLink RX1 161 yJM_floorModI ∈ AW := aw_of (List.mem_of_getElem? (i := 282) (by decide +kernel)) (by decide +kernel)
theorem aw_s_JM_floorModI : Cond.static yJM_floorModI ∈ AW := aw_of (List.mem_of_getElem? (i := 283) (by decide +kernel)) (by decide +kernel)
theorem aw_b_JM_floorModI : Cond.code yJM_floorModI cJM_floorModI 3 (some .int) ∈ AW := aw_of (List.mem_of_getElem? (i := 284) (by decide +kernel)) (by decide +kernel)
theorem aw_m_X1_166 : Cond.methodLink RX1 166 yX1_inverse ∈ AW := aw_of (List.mem_of_getElem? (i := 285) (by decide +kernel)) (by decide +kernel)
theorem aw_s_X1_inverse : Cond.static yX1_inverse ∈ AW := aw_of (List.mem_of_getElem? (i := 286) (by decide +kernel)) (by decide +kernel)
theorem aw_b_X1_inverse : Cond.code yX1_inverse cX1_inverse 5 (some .int) ∈ AW := aw_of (List.mem_of_getElem? (i := 287) (by decide +kernel)) (by decide +kernel)
theorem aw_m_X0_58 : Cond.methodLink RX0 58 yJM_floorModI ∈ AW := aw_of (List.mem_of_getElem? (i := 288) (by decide +kernel)) (by decide +kernel)
theorem aw_m_L_95 : Cond.methodLink RL 95 yL_times ∈ AW := aw_of (List.mem_of_getElem? (i := 289) (by decide +kernel)) (by decide +kernel)
theorem aw_s_L_times : Cond.static yL_times ∈ AW := aw_of (List.mem_of_getElem? (i := 290) (by decide +kernel)) (by decide +kernel)
theorem aw_m_L_30 : Cond.methodLink RL 30 yX1_times ∈ AW := aw_of (List.mem_of_getElem? (i := 292) (by decide +kernel)) (by decide +kernel)
theorem aw_v_X1_times : Cond.instanceMethod yX1_times ∈ AW := aw_of (List.mem_of_getElem? (i := 293) (by decide +kernel)) (by decide +kernel)
theorem aw_e_X1_times : Cond.selects RX1 yX1_times yX1_times ∈ AW := aw_of (List.mem_of_getElem? (i := 294) (by decide +kernel)) (by decide +kernel)
theorem aw_b_X1_times : Cond.code yX1_times cX1_times 5 none ∈ AW := aw_of (List.mem_of_getElem? (i := 295) (by decide +kernel)) (by decide +kernel)
theorem aw_m_X1_86 : Cond.methodLink RX1 86 yX0_multiple ∈ AW := aw_of (List.mem_of_getElem? (i := 296) (by decide +kernel)) (by decide +kernel)
theorem aw_v_X0_multiple : Cond.instanceMethod yX0_multiple ∈ AW := aw_of (List.mem_of_getElem? (i := 297) (by decide +kernel)) (by decide +kernel)
theorem aw_e_X0_multiple : Cond.selects RX0 yX0_multiple yX0_multiple ∈ AW := aw_of (List.mem_of_getElem? (i := 298) (by decide +kernel)) (by decide +kernel)
theorem aw_b_X0_multiple : Cond.code yX0_multiple cX0_multiple 6 (some .int) ∈ AW := aw_of (List.mem_of_getElem? (i := 299) (by decide +kernel)) (by decide +kernel)
theorem aw_m_X0_63 : Cond.methodLink RX0 63 yX0_plus ∈ AW := aw_of (List.mem_of_getElem? (i := 300) (by decide +kernel)) (by decide +kernel)
theorem aw_m_L_98 : Cond.methodLink RL 98 yL_x ∈ AW := aw_of (List.mem_of_getElem? (i := 301) (by decide +kernel)) (by decide +kernel)
theorem aw_s_L_x : Cond.static yL_x ∈ AW := aw_of (List.mem_of_getElem? (i := 302) (by decide +kernel)) (by decide +kernel)
theorem aw_m_L_33 : Cond.methodLink RL 33 yX1_x ∈ AW := aw_of (List.mem_of_getElem? (i := 304) (by decide +kernel)) (by decide +kernel)
theorem aw_v_X1_x : Cond.instanceMethod yX1_x ∈ AW := aw_of (List.mem_of_getElem? (i := 305) (by decide +kernel)) (by decide +kernel)
theorem aw_e_X1_x : Cond.selects RX1 yX1_x yX1_x ∈ AW := aw_of (List.mem_of_getElem? (i := 306) (by decide +kernel)) (by decide +kernel)
theorem aw_b_X1_x : Cond.code yX1_x cX1_x 2 (some .int) ∈ AW := aw_of (List.mem_of_getElem? (i := 307) (by decide +kernel)) (by decide +kernel)
theorem aw_m_X1_89 : Cond.methodLink RX1 89 yX1_xOf ∈ AW := aw_of (List.mem_of_getElem? (i := 308) (by decide +kernel)) (by decide +kernel)
theorem aw_m_L_102 : Cond.methodLink RL 102 yL_y ∈ AW := aw_of (List.mem_of_getElem? (i := 309) (by decide +kernel)) (by decide +kernel)
theorem aw_s_L_y : Cond.static yL_y ∈ AW := aw_of (List.mem_of_getElem? (i := 310) (by decide +kernel)) (by decide +kernel)
theorem aw_m_L_37 : Cond.methodLink RL 37 yX1_y ∈ AW := aw_of (List.mem_of_getElem? (i := 312) (by decide +kernel)) (by decide +kernel)
theorem aw_v_X1_y : Cond.instanceMethod yX1_y ∈ AW := aw_of (List.mem_of_getElem? (i := 313) (by decide +kernel)) (by decide +kernel)
theorem aw_e_X1_y : Cond.selects RX1 yX1_y yX1_y ∈ AW := aw_of (List.mem_of_getElem? (i := 314) (by decide +kernel)) (by decide +kernel)
theorem aw_b_X1_y : Cond.code yX1_y cX1_y 2 (some .int) ∈ AW := aw_of (List.mem_of_getElem? (i := 315) (by decide +kernel)) (by decide +kernel)
theorem aw_m_X1_93 : Cond.methodLink RX1 93 yX1_yOf ∈ AW := aw_of (List.mem_of_getElem? (i := 316) (by decide +kernel)) (by decide +kernel)
theorem aw_m_L_105 : Cond.methodLink RL 105 yL_code ∈ AW := aw_of (List.mem_of_getElem? (i := 317) (by decide +kernel)) (by decide +kernel)
theorem aw_s_L_code : Cond.static yL_code ∈ AW := aw_of (List.mem_of_getElem? (i := 318) (by decide +kernel)) (by decide +kernel)
theorem aw_m_L_40 : Cond.methodLink RL 40 yX1_code ∈ AW := aw_of (List.mem_of_getElem? (i := 320) (by decide +kernel)) (by decide +kernel)
theorem aw_v_X1_code : Cond.instanceMethod yX1_code ∈ AW := aw_of (List.mem_of_getElem? (i := 321) (by decide +kernel)) (by decide +kernel)
theorem aw_e_X1_code : Cond.selects RX1 yX1_code yX1_code ∈ AW := aw_of (List.mem_of_getElem? (i := 322) (by decide +kernel)) (by decide +kernel)
theorem aw_b_X1_code : Cond.code yX1_code cX1_code 4 (some .long) ∈ AW := aw_of (List.mem_of_getElem? (i := 323) (by decide +kernel)) (by decide +kernel)
theorem aw_m_X1_96 : Cond.methodLink RX1 96 yX1_shortNumber ∈ AW := aw_of (List.mem_of_getElem? (i := 324) (by decide +kernel)) (by decide +kernel)
theorem aw_s_X1_shortNumber : Cond.static yX1_shortNumber ∈ AW := aw_of (List.mem_of_getElem? (i := 325) (by decide +kernel)) (by decide +kernel)
theorem aw_b_X1_shortNumber : Cond.code yX1_shortNumber cX1_shortNumber 1 (some .long) ∈ AW := aw_of (List.mem_of_getElem? (i := 326) (by decide +kernel)) (by decide +kernel)
theorem aw_k_X1_156 : Cond.constantLong RX1 156 (65536) ∈ AW := aw_of (List.mem_of_getElem? (i := 327) (by decide +kernel)) (by decide +kernel)
theorem aw_m_X1_100 : Cond.methodLink RX1 100 yX1_plainNumber ∈ AW := aw_of (List.mem_of_getElem? (i := 328) (by decide +kernel)) (by decide +kernel)
theorem aw_s_X1_plainNumber : Cond.static yX1_plainNumber ∈ AW := aw_of (List.mem_of_getElem? (i := 329) (by decide +kernel)) (by decide +kernel)
theorem aw_b_X1_plainNumber : Cond.code yX1_plainNumber cX1_plainNumber 1 (some .long) ∈ AW := aw_of (List.mem_of_getElem? (i := 330) (by decide +kernel)) (by decide +kernel)
theorem aw_k_X1_158 : Cond.constantLong RX1 158 (17179869184) ∈ AW := aw_of (List.mem_of_getElem? (i := 331) (by decide +kernel)) (by decide +kernel)
theorem aw_m_L_111 : Cond.methodLink RL 111 yL_decode ∈ AW := aw_of (List.mem_of_getElem? (i := 332) (by decide +kernel)) (by decide +kernel)
theorem aw_s_L_decode : Cond.static yL_decode ∈ AW := aw_of (List.mem_of_getElem? (i := 333) (by decide +kernel)) (by decide +kernel)
theorem aw_m_L_44 : Cond.methodLink RL 44 yX1_decode ∈ AW := aw_of (List.mem_of_getElem? (i := 335) (by decide +kernel)) (by decide +kernel)
theorem aw_v_X1_decode : Cond.instanceMethod yX1_decode ∈ AW := aw_of (List.mem_of_getElem? (i := 336) (by decide +kernel)) (by decide +kernel)
theorem aw_e_X1_decode : Cond.selects RX1 yX1_decode yX1_decode ∈ AW := aw_of (List.mem_of_getElem? (i := 337) (by decide +kernel)) (by decide +kernel)
theorem aw_b_X1_decode : Cond.code yX1_decode cX1_decode 7 none ∈ AW := aw_of (List.mem_of_getElem? (i := 338) (by decide +kernel)) (by decide +kernel)
theorem aw_m_X1_103 : Cond.methodLink RX1 103 yX0_pointOfBytes ∈ AW := aw_of (List.mem_of_getElem? (i := 339) (by decide +kernel)) (by decide +kernel)
theorem aw_v_X0_pointOfBytes : Cond.instanceMethod yX0_pointOfBytes ∈ AW := aw_of (List.mem_of_getElem? (i := 340) (by decide +kernel)) (by decide +kernel)
theorem aw_e_X0_pointOfBytes : Cond.selects RX0 yX0_pointOfBytes yX0_pointOfBytes ∈ AW := aw_of (List.mem_of_getElem? (i := 341) (by decide +kernel)) (by decide +kernel)
theorem aw_b_X0_pointOfBytes : Cond.code yX0_pointOfBytes cX0_pointOfBytes 4 (some .int) ∈ AW := aw_of (List.mem_of_getElem? (i := 342) (by decide +kernel)) (by decide +kernel)
theorem aw_m_X0_66 : Cond.methodLink RX0 66 yX0_pointOfShort ∈ AW := aw_of (List.mem_of_getElem? (i := 343) (by decide +kernel)) (by decide +kernel)
theorem aw_v_X0_pointOfShort : Cond.instanceMethod yX0_pointOfShort ∈ AW := aw_of (List.mem_of_getElem? (i := 345) (by decide +kernel)) (by decide +kernel)
theorem aw_b_X0_pointOfShort : Cond.code yX0_pointOfShort cX0_pointOfShort 7 (some .int) ∈ AW := aw_of (List.mem_of_getElem? (i := 346) (by decide +kernel)) (by decide +kernel)
theorem aw_k_X0_73 : Cond.constantLong RX0 73 (65535) ∈ AW := aw_of (List.mem_of_getElem? (i := 347) (by decide +kernel)) (by decide +kernel)
theorem aw_k_X0_75 : Cond.constantLong RX0 75 (2) ∈ AW := aw_of (List.mem_of_getElem? (i := 348) (by decide +kernel)) (by decide +kernel)
theorem aw_k_X0_77 : Cond.constantLong RX0 77 (3) ∈ AW := aw_of (List.mem_of_getElem? (i := 349) (by decide +kernel)) (by decide +kernel)
theorem aw_m_X0_70 : Cond.methodLink RX0 70 yX0_pointOfPlain ∈ AW := aw_of (List.mem_of_getElem? (i := 350) (by decide +kernel)) (by decide +kernel)
theorem aw_v_X0_pointOfPlain : Cond.instanceMethod yX0_pointOfPlain ∈ AW := aw_of (List.mem_of_getElem? (i := 352) (by decide +kernel)) (by decide +kernel)
theorem aw_b_X0_pointOfPlain : Cond.code yX0_pointOfPlain cX0_pointOfPlain 5 (some .int) ∈ AW := aw_of (List.mem_of_getElem? (i := 353) (by decide +kernel)) (by decide +kernel)
theorem aw_k_X0_79 : Cond.constantLong RX0 79 (4) ∈ AW := aw_of (List.mem_of_getElem? (i := 354) (by decide +kernel)) (by decide +kernel)
theorem aw_m_X0_81 : Cond.methodLink RX0 81 yX0_holds ∈ AW := aw_of (List.mem_of_getElem? (i := 355) (by decide +kernel)) (by decide +kernel)
theorem aw_m_L_115 : Cond.methodLink RL 115 yL_key ∈ AW := aw_of (List.mem_of_getElem? (i := 357) (by decide +kernel)) (by decide +kernel)
theorem aw_s_L_key : Cond.static yL_key ∈ AW := aw_of (List.mem_of_getElem? (i := 358) (by decide +kernel)) (by decide +kernel)
theorem aw_m_L_48 : Cond.methodLink RL 48 yX1_key ∈ AW := aw_of (List.mem_of_getElem? (i := 360) (by decide +kernel)) (by decide +kernel)
theorem aw_v_X1_key : Cond.instanceMethod yX1_key ∈ AW := aw_of (List.mem_of_getElem? (i := 361) (by decide +kernel)) (by decide +kernel)
theorem aw_e_X1_key : Cond.selects RX1 yX1_key yX1_key ∈ AW := aw_of (List.mem_of_getElem? (i := 362) (by decide +kernel)) (by decide +kernel)
theorem aw_b_X1_key : Cond.code yX1_key cX1_key 4 none ∈ AW := aw_of (List.mem_of_getElem? (i := 363) (by decide +kernel)) (by decide +kernel)
theorem aw_m_X1_109 : Cond.methodLink RX1 109 yX0_isUnit ∈ AW := aw_of (List.mem_of_getElem? (i := 364) (by decide +kernel)) (by decide +kernel)
theorem aw_v_X0_isUnit : Cond.instanceMethod yX0_isUnit ∈ AW := aw_of (List.mem_of_getElem? (i := 365) (by decide +kernel)) (by decide +kernel)
theorem aw_e_X0_isUnit : Cond.selects RX0 yX0_isUnit yX0_isUnit ∈ AW := aw_of (List.mem_of_getElem? (i := 366) (by decide +kernel)) (by decide +kernel)
theorem aw_b_X0_isUnit : Cond.code yX0_isUnit cX0_isUnit 2 (some .boolean) ∈ AW := aw_of (List.mem_of_getElem? (i := 367) (by decide +kernel)) (by decide +kernel)
theorem aw_m_L_119 : Cond.methodLink RL 119 yL_sign ∈ AW := aw_of (List.mem_of_getElem? (i := 369) (by decide +kernel)) (by decide +kernel)
theorem aw_s_L_sign : Cond.static yL_sign ∈ AW := aw_of (List.mem_of_getElem? (i := 370) (by decide +kernel)) (by decide +kernel)
theorem aw_c_L_56 : Cond.classLink RL 56 "java/lang/ArithmeticException" ∈ AW := aw_of (List.mem_of_getElem? (i := 372) (by decide +kernel)) (by decide +kernel)
theorem aw_m_L_52 : Cond.methodLink RL 52 yX1_sign ∈ AW := aw_of (List.mem_of_getElem? (i := 373) (by decide +kernel)) (by decide +kernel)
theorem aw_v_X1_sign : Cond.instanceMethod yX1_sign ∈ AW := aw_of (List.mem_of_getElem? (i := 374) (by decide +kernel)) (by decide +kernel)
theorem aw_e_X1_sign : Cond.selects RX1 yX1_sign yX1_sign ∈ AW := aw_of (List.mem_of_getElem? (i := 375) (by decide +kernel)) (by decide +kernel)
theorem aw_b_X1_sign : Cond.code yX1_sign cX1_sign 11 (some .long) ∈ AW := aw_of (List.mem_of_getElem? (i := 376) (by decide +kernel)) (by decide +kernel)
theorem aw_m_X1_119 : Cond.methodLink RX1 119 yX0_messageResidue ∈ AW := aw_of (List.mem_of_getElem? (i := 378) (by decide +kernel)) (by decide +kernel)
theorem aw_v_X0_messageResidue : Cond.instanceMethod yX0_messageResidue ∈ AW := aw_of (List.mem_of_getElem? (i := 379) (by decide +kernel)) (by decide +kernel)
theorem aw_e_X0_messageResidue : Cond.selects RX0 yX0_messageResidue yX0_messageResidue ∈ AW := aw_of (List.mem_of_getElem? (i := 380) (by decide +kernel)) (by decide +kernel)
theorem aw_b_X0_messageResidue : Cond.code yX0_messageResidue cX0_messageResidue 3 (some .int) ∈ AW := aw_of (List.mem_of_getElem? (i := 381) (by decide +kernel)) (by decide +kernel)
theorem aw_m_X0_42 : Cond.methodLink RX0 42 yJM_floorModJ ∈ AW := aw_of (List.mem_of_getElem? (i := 382) (by decide +kernel)) (by decide +kernel)
theorem aw_s_JM_floorModJ : Cond.static yJM_floorModJ ∈ AW := aw_of (List.mem_of_getElem? (i := 383) (by decide +kernel)) (by decide +kernel)
theorem aw_b_JM_floorModJ : Cond.code yJM_floorModJ cJM_floorModJ 6 (some .long) ∈ AW := aw_of (List.mem_of_getElem? (i := 384) (by decide +kernel)) (by decide +kernel)
theorem aw_m_X1_123 : Cond.methodLink RX1 123 yX0_drawMask ∈ AW := aw_of (List.mem_of_getElem? (i := 385) (by decide +kernel)) (by decide +kernel)
theorem aw_v_X0_drawMask : Cond.instanceMethod yX0_drawMask ∈ AW := aw_of (List.mem_of_getElem? (i := 386) (by decide +kernel)) (by decide +kernel)
theorem aw_e_X0_drawMask : Cond.selects RX0 yX0_drawMask yX0_drawMask ∈ AW := aw_of (List.mem_of_getElem? (i := 387) (by decide +kernel)) (by decide +kernel)
theorem aw_b_X0_drawMask : Cond.code yX0_drawMask cX0_drawMask 3 (some .int) ∈ AW := aw_of (List.mem_of_getElem? (i := 388) (by decide +kernel)) (by decide +kernel)
theorem aw_m_X1_127 : Cond.methodLink RX1 127 yX1_mix ∈ AW := aw_of (List.mem_of_getElem? (i := 389) (by decide +kernel)) (by decide +kernel)
theorem aw_s_X1_mix : Cond.static yX1_mix ∈ AW := aw_of (List.mem_of_getElem? (i := 390) (by decide +kernel)) (by decide +kernel)
theorem aw_b_X1_mix : Cond.code yX1_mix cX1_mix 3 (some .int) ∈ AW := aw_of (List.mem_of_getElem? (i := 391) (by decide +kernel)) (by decide +kernel)
theorem aw_k_X1_160 : Cond.constant RX1 160 (668265261) ∈ AW := aw_of (List.mem_of_getElem? (i := 392) (by decide +kernel)) (by decide +kernel)
theorem aw_m_X1_130 : Cond.methodLink RX1 130 yX0_signatureFrom ∈ AW := aw_of (List.mem_of_getElem? (i := 393) (by decide +kernel)) (by decide +kernel)
theorem aw_v_X0_signatureFrom : Cond.instanceMethod yX0_signatureFrom ∈ AW := aw_of (List.mem_of_getElem? (i := 394) (by decide +kernel)) (by decide +kernel)
theorem aw_e_X0_signatureFrom : Cond.selects RX0 yX0_signatureFrom yX0_signatureFrom ∈ AW := aw_of (List.mem_of_getElem? (i := 395) (by decide +kernel)) (by decide +kernel)
theorem aw_b_X0_signatureFrom : Cond.code yX0_signatureFrom cX0_signatureFrom 6 (some .long) ∈ AW := aw_of (List.mem_of_getElem? (i := 396) (by decide +kernel)) (by decide +kernel)
theorem aw_m_X0_85 : Cond.methodLink RX0 85 yX0_isUnit ∈ AW := aw_of (List.mem_of_getElem? (i := 397) (by decide +kernel)) (by decide +kernel)
theorem aw_m_X0_89 : Cond.methodLink RX0 89 yX0_multiple ∈ AW := aw_of (List.mem_of_getElem? (i := 398) (by decide +kernel)) (by decide +kernel)
theorem aw_k_X0_92 : Cond.constantLong RX0 92 (65536) ∈ AW := aw_of (List.mem_of_getElem? (i := 399) (by decide +kernel)) (by decide +kernel)
theorem aw_c_X1_134 : Cond.classLink RX1 134 "java/lang/ArithmeticException" ∈ AW := aw_of (List.mem_of_getElem? (i := 400) (by decide +kernel)) (by decide +kernel)
theorem aw_m_L_127 : Cond.methodLink RL 127 yL_verify ∈ AW := aw_of (List.mem_of_getElem? (i := 416) (by decide +kernel)) (by decide +kernel)
theorem aw_s_L_verify : Cond.static yL_verify ∈ AW := aw_of (List.mem_of_getElem? (i := 417) (by decide +kernel)) (by decide +kernel)
theorem aw_m_L_58 : Cond.methodLink RL 58 yX1_verify ∈ AW := aw_of (List.mem_of_getElem? (i := 419) (by decide +kernel)) (by decide +kernel)
theorem aw_v_X1_verify : Cond.instanceMethod yX1_verify ∈ AW := aw_of (List.mem_of_getElem? (i := 420) (by decide +kernel)) (by decide +kernel)
theorem aw_e_X1_verify : Cond.selects RX1 yX1_verify yX1_verify ∈ AW := aw_of (List.mem_of_getElem? (i := 421) (by decide +kernel)) (by decide +kernel)
theorem aw_b_X1_verify : Cond.code yX1_verify cX1_verify 7 (some .boolean) ∈ AW := aw_of (List.mem_of_getElem? (i := 422) (by decide +kernel)) (by decide +kernel)
theorem aw_m_X1_139 : Cond.methodLink RX1 139 yX0_fits ∈ AW := aw_of (List.mem_of_getElem? (i := 423) (by decide +kernel)) (by decide +kernel)
theorem aw_v_X0_fits : Cond.instanceMethod yX0_fits ∈ AW := aw_of (List.mem_of_getElem? (i := 424) (by decide +kernel)) (by decide +kernel)
theorem aw_e_X0_fits : Cond.selects RX0 yX0_fits yX0_fits ∈ AW := aw_of (List.mem_of_getElem? (i := 425) (by decide +kernel)) (by decide +kernel)
theorem aw_b_X0_fits : Cond.code yX0_fits cX0_fits 9 (some .boolean) ∈ AW := aw_of (List.mem_of_getElem? (i := 426) (by decide +kernel)) (by decide +kernel)
theorem aw_m_X0_97 : Cond.methodLink RX0 97 yX0_messageResidue ∈ AW := aw_of (List.mem_of_getElem? (i := 428) (by decide +kernel)) (by decide +kernel)
theorem aw_m_L_131 : Cond.methodLink RL 131 yL_accepts ∈ AW := aw_of (List.mem_of_getElem? (i := 429) (by decide +kernel)) (by decide +kernel)
theorem aw_s_L_accepts : Cond.static yL_accepts ∈ AW := aw_of (List.mem_of_getElem? (i := 430) (by decide +kernel)) (by decide +kernel)
theorem aw_m_L_62 : Cond.methodLink RL 62 yX1_accepts ∈ AW := aw_of (List.mem_of_getElem? (i := 432) (by decide +kernel)) (by decide +kernel)
theorem aw_v_X1_accepts : Cond.instanceMethod yX1_accepts ∈ AW := aw_of (List.mem_of_getElem? (i := 433) (by decide +kernel)) (by decide +kernel)
theorem aw_e_X1_accepts : Cond.selects RX1 yX1_accepts yX1_accepts ∈ AW := aw_of (List.mem_of_getElem? (i := 434) (by decide +kernel)) (by decide +kernel)
theorem aw_b_X1_accepts : Cond.code yX1_accepts cX1_accepts 10 (some .boolean) ∈ AW := aw_of (List.mem_of_getElem? (i := 435) (by decide +kernel)) (by decide +kernel)
theorem aw_c_L_67 : Cond.classLink RL 67 RX2 ∈ AW := aw_of (List.mem_of_getElem? (i := 436) (by decide +kernel)) (by decide +kernel)
theorem aw_n_X2 : Cond.instantiable RX2 15 ∈ AW := aw_of (List.mem_of_getElem? (i := 437) (by decide +kernel)) (by decide +kernel)
theorem aw_m_L_69 : Cond.methodLink RL 69 yX2_init ∈ AW := aw_of (List.mem_of_getElem? (i := 438) (by decide +kernel)) (by decide +kernel)
theorem aw_v_X2_init : Cond.instanceMethod yX2_init ∈ AW := aw_of (List.mem_of_getElem? (i := 439) (by decide +kernel)) (by decide +kernel)
theorem aw_b_X2_init : Cond.code yX2_init cX2_init 1 none ∈ AW := aw_of (List.mem_of_getElem? (i := 440) (by decide +kernel)) (by decide +kernel)
theorem aw_m_X2_1 : Cond.methodLink RX2 1 objectInit ∈ AW := aw_of (List.mem_of_getElem? (i := 441) (by decide +kernel)) (by decide +kernel)
theorem aw_f_X2_41 : Cond.fieldLink RX2 41 "PrimeCurveSignerModel" "p" "I" ∈ AW := aw_of (List.mem_of_getElem? (i := 442) (by decide +kernel)) (by decide +kernel)
theorem aw_f_X2_38 : Cond.fieldLink RX2 38 "PrimeCurveSignerModel" "a" "I" ∈ AW := aw_of (List.mem_of_getElem? (i := 443) (by decide +kernel)) (by decide +kernel)
theorem aw_f_X2_62 : Cond.fieldLink RX2 62 "PrimeCurveSignerModel" "b" "I" ∈ AW := aw_of (List.mem_of_getElem? (i := 444) (by decide +kernel)) (by decide +kernel)
theorem aw_f_X2_65 : Cond.fieldLink RX2 65 "PrimeCurveSignerModel" "n" "I" ∈ AW := aw_of (List.mem_of_getElem? (i := 445) (by decide +kernel)) (by decide +kernel)
theorem aw_f_X2_68 : Cond.fieldLink RX2 68 "PrimeCurveSignerModel" "key" "I" ∈ AW := aw_of (List.mem_of_getElem? (i := 446) (by decide +kernel)) (by decide +kernel)
theorem aw_f_X2_116 : Cond.fieldLink RX2 116 "PrimeCurveSignerModel" "draws" "I" ∈ AW := aw_of (List.mem_of_getElem? (i := 447) (by decide +kernel)) (by decide +kernel)
theorem aw_f_X2_22 : Cond.fieldLink RX2 22 "PrimeCurveSignerModel" "thrown" "I" ∈ AW := aw_of (List.mem_of_getElem? (i := 448) (by decide +kernel)) (by decide +kernel)
theorem aw_f_X2_7 : Cond.fieldLink RX2 7 "PrimeCurveSignerModel" "tableX" "[I" ∈ AW := aw_of (List.mem_of_getElem? (i := 449) (by decide +kernel)) (by decide +kernel)
theorem aw_f_X2_13 : Cond.fieldLink RX2 13 "PrimeCurveSignerModel" "tableY" "[I" ∈ AW := aw_of (List.mem_of_getElem? (i := 450) (by decide +kernel)) (by decide +kernel)
theorem aw_f_X2_16 : Cond.fieldLink RX2 16 "PrimeCurveSignerModel" "register" "[I" ∈ AW := aw_of (List.mem_of_getElem? (i := 451) (by decide +kernel)) (by decide +kernel)
theorem aw_f_X2_19 : Cond.fieldLink RX2 19 "PrimeCurveSignerModel" "roots" "[I" ∈ AW := aw_of (List.mem_of_getElem? (i := 452) (by decide +kernel)) (by decide +kernel)
theorem aw_f_X2_48 : Cond.fieldLink RX2 48 "PrimeCurveSignerModel" "sumX" "I" ∈ AW := aw_of (List.mem_of_getElem? (i := 453) (by decide +kernel)) (by decide +kernel)
theorem aw_f_X2_51 : Cond.fieldLink RX2 51 "PrimeCurveSignerModel" "sumY" "I" ∈ AW := aw_of (List.mem_of_getElem? (i := 454) (by decide +kernel)) (by decide +kernel)
theorem aw_f_X2_103 : Cond.fieldLink RX2 103 "PrimeCurveSignerModel" "drawK" "I" ∈ AW := aw_of (List.mem_of_getElem? (i := 455) (by decide +kernel)) (by decide +kernel)
theorem aw_f_X2_109 : Cond.fieldLink RX2 109 "PrimeCurveSignerModel" "drawV" "I" ∈ AW := aw_of (List.mem_of_getElem? (i := 456) (by decide +kernel)) (by decide +kernel)
theorem aw_m_L_76 : Cond.methodLink RL 76 yX2_thrown ∈ AW := aw_of (List.mem_of_getElem? (i := 488) (by decide +kernel)) (by decide +kernel)
theorem aw_v_X2_thrown : Cond.instanceMethod yX2_thrown ∈ AW := aw_of (List.mem_of_getElem? (i := 489) (by decide +kernel)) (by decide +kernel)
theorem aw_e_X2_thrown : Cond.selects RX2 yX2_thrown yX2_thrown ∈ AW := aw_of (List.mem_of_getElem? (i := 490) (by decide +kernel)) (by decide +kernel)
theorem aw_b_X2_thrown : Cond.code yX2_thrown cX2_thrown 1 (some .int) ∈ AW := aw_of (List.mem_of_getElem? (i := 491) (by decide +kernel)) (by decide +kernel)
theorem aw_m_L_75 : Cond.methodLink RL 75 yX2_curve ∈ AW := aw_of (List.mem_of_getElem? (i := 492) (by decide +kernel)) (by decide +kernel)
theorem aw_v_X2_curve : Cond.instanceMethod yX2_curve ∈ AW := aw_of (List.mem_of_getElem? (i := 493) (by decide +kernel)) (by decide +kernel)
theorem aw_e_X2_curve : Cond.selects RX2 yX2_curve yX2_curve ∈ AW := aw_of (List.mem_of_getElem? (i := 494) (by decide +kernel)) (by decide +kernel)
theorem aw_b_X2_curve : Cond.code yX2_curve cX2_curve 6 (some .int) ∈ AW := aw_of (List.mem_of_getElem? (i := 495) (by decide +kernel)) (by decide +kernel)
theorem aw_m_X2_54 : Cond.methodLink RX2 54 yX2_count ∈ AW := aw_of (List.mem_of_getElem? (i := 496) (by decide +kernel)) (by decide +kernel)
theorem aw_v_X2_count : Cond.instanceMethod yX2_count ∈ AW := aw_of (List.mem_of_getElem? (i := 498) (by decide +kernel)) (by decide +kernel)
theorem aw_b_X2_count : Cond.code yX2_count cX2_count 8 (some .int) ∈ AW := aw_of (List.mem_of_getElem? (i := 499) (by decide +kernel)) (by decide +kernel)
theorem aw_m_X2_26 : Cond.methodLink RX2 26 yX2_prime ∈ AW := aw_of (List.mem_of_getElem? (i := 500) (by decide +kernel)) (by decide +kernel)
theorem aw_v_X2_prime : Cond.instanceMethod yX2_prime ∈ AW := aw_of (List.mem_of_getElem? (i := 502) (by decide +kernel)) (by decide +kernel)
theorem aw_b_X2_prime : Cond.code yX2_prime cX2_prime 4 (some .boolean) ∈ AW := aw_of (List.mem_of_getElem? (i := 503) (by decide +kernel)) (by decide +kernel)
theorem aw_k_X2_30 : Cond.constantLong RX2 30 (4) ∈ AW := aw_of (List.mem_of_getElem? (i := 504) (by decide +kernel)) (by decide +kernel)
theorem aw_k_X2_32 : Cond.constantLong RX2 32 (27) ∈ AW := aw_of (List.mem_of_getElem? (i := 505) (by decide +kernel)) (by decide +kernel)
theorem aw_m_X2_34 : Cond.methodLink RX2 34 yX2_cube ∈ AW := aw_of (List.mem_of_getElem? (i := 506) (by decide +kernel)) (by decide +kernel)
theorem aw_v_X2_cube : Cond.instanceMethod yX2_cube ∈ AW := aw_of (List.mem_of_getElem? (i := 508) (by decide +kernel)) (by decide +kernel)
theorem aw_b_X2_cube : Cond.code yX2_cube cX2_cube 7 (some .int) ∈ AW := aw_of (List.mem_of_getElem? (i := 509) (by decide +kernel)) (by decide +kernel)
theorem aw_m_X2_58 : Cond.methodLink RX2 58 yX2_good ∈ AW := aw_of (List.mem_of_getElem? (i := 510) (by decide +kernel)) (by decide +kernel)
theorem aw_v_X2_good : Cond.instanceMethod yX2_good ∈ AW := aw_of (List.mem_of_getElem? (i := 512) (by decide +kernel)) (by decide +kernel)
theorem aw_b_X2_good : Cond.code yX2_good cX2_good 4 (some .boolean) ∈ AW := aw_of (List.mem_of_getElem? (i := 513) (by decide +kernel)) (by decide +kernel)
theorem aw_m_X2_71 : Cond.methodLink RX2 71 yX2_findBase ∈ AW := aw_of (List.mem_of_getElem? (i := 514) (by decide +kernel)) (by decide +kernel)
theorem aw_v_X2_findBase : Cond.instanceMethod yX2_findBase ∈ AW := aw_of (List.mem_of_getElem? (i := 516) (by decide +kernel)) (by decide +kernel)
theorem aw_b_X2_findBase : Cond.code yX2_findBase cX2_findBase 3 none ∈ AW := aw_of (List.mem_of_getElem? (i := 517) (by decide +kernel)) (by decide +kernel)
theorem aw_m_X2_74 : Cond.methodLink RX2 74 yX2_add ∈ AW := aw_of (List.mem_of_getElem? (i := 518) (by decide +kernel)) (by decide +kernel)
theorem aw_v_X2_add : Cond.instanceMethod yX2_add ∈ AW := aw_of (List.mem_of_getElem? (i := 520) (by decide +kernel)) (by decide +kernel)
theorem aw_b_X2_add : Cond.code yX2_add cX2_add 8 none ∈ AW := aw_of (List.mem_of_getElem? (i := 521) (by decide +kernel)) (by decide +kernel)
theorem aw_m_X2_44 : Cond.methodLink RX2 44 yX2_inverse ∈ AW := aw_of (List.mem_of_getElem? (i := 522) (by decide +kernel)) (by decide +kernel)
theorem aw_v_X2_inverse : Cond.instanceMethod yX2_inverse ∈ AW := aw_of (List.mem_of_getElem? (i := 524) (by decide +kernel)) (by decide +kernel)
theorem aw_b_X2_inverse : Cond.code yX2_inverse cX2_inverse 4 (some .int) ∈ AW := aw_of (List.mem_of_getElem? (i := 525) (by decide +kernel)) (by decide +kernel)
theorem aw_m_L_83 : Cond.methodLink RL 83 yX2_order ∈ AW := aw_of (List.mem_of_getElem? (i := 526) (by decide +kernel)) (by decide +kernel)
theorem aw_v_X2_order : Cond.instanceMethod yX2_order ∈ AW := aw_of (List.mem_of_getElem? (i := 527) (by decide +kernel)) (by decide +kernel)
theorem aw_e_X2_order : Cond.selects RX2 yX2_order yX2_order ∈ AW := aw_of (List.mem_of_getElem? (i := 528) (by decide +kernel)) (by decide +kernel)
theorem aw_b_X2_order : Cond.code yX2_order cX2_order 1 (some .int) ∈ AW := aw_of (List.mem_of_getElem? (i := 529) (by decide +kernel)) (by decide +kernel)
theorem aw_m_L_87 : Cond.methodLink RL 87 yX2_load ∈ AW := aw_of (List.mem_of_getElem? (i := 530) (by decide +kernel)) (by decide +kernel)
theorem aw_v_X2_load : Cond.instanceMethod yX2_load ∈ AW := aw_of (List.mem_of_getElem? (i := 531) (by decide +kernel)) (by decide +kernel)
theorem aw_e_X2_load : Cond.selects RX2 yX2_load yX2_load ∈ AW := aw_of (List.mem_of_getElem? (i := 532) (by decide +kernel)) (by decide +kernel)
theorem aw_b_X2_load : Cond.code yX2_load cX2_load 5 none ∈ AW := aw_of (List.mem_of_getElem? (i := 533) (by decide +kernel)) (by decide +kernel)
theorem aw_m_X2_78 : Cond.methodLink RX2 78 yX2_find ∈ AW := aw_of (List.mem_of_getElem? (i := 534) (by decide +kernel)) (by decide +kernel)
theorem aw_v_X2_find : Cond.instanceMethod yX2_find ∈ AW := aw_of (List.mem_of_getElem? (i := 536) (by decide +kernel)) (by decide +kernel)
theorem aw_b_X2_find : Cond.code yX2_find cX2_find 5 (some .int) ∈ AW := aw_of (List.mem_of_getElem? (i := 537) (by decide +kernel)) (by decide +kernel)
theorem aw_m_X2_81 : Cond.methodLink RX2 81 yX2_noRegister ∈ AW := aw_of (List.mem_of_getElem? (i := 538) (by decide +kernel)) (by decide +kernel)
theorem aw_v_X2_noRegister : Cond.instanceMethod yX2_noRegister ∈ AW := aw_of (List.mem_of_getElem? (i := 540) (by decide +kernel)) (by decide +kernel)
theorem aw_b_X2_noRegister : Cond.code yX2_noRegister cX2_noRegister 2 (some .boolean) ∈ AW := aw_of (List.mem_of_getElem? (i := 541) (by decide +kernel)) (by decide +kernel)
theorem aw_m_L_91 : Cond.methodLink RL 91 yX2_base ∈ AW := aw_of (List.mem_of_getElem? (i := 542) (by decide +kernel)) (by decide +kernel)
theorem aw_v_X2_base : Cond.instanceMethod yX2_base ∈ AW := aw_of (List.mem_of_getElem? (i := 543) (by decide +kernel)) (by decide +kernel)
theorem aw_e_X2_base : Cond.selects RX2 yX2_base yX2_base ∈ AW := aw_of (List.mem_of_getElem? (i := 544) (by decide +kernel)) (by decide +kernel)
theorem aw_b_X2_base : Cond.code yX2_base cX2_base 2 none ∈ AW := aw_of (List.mem_of_getElem? (i := 545) (by decide +kernel)) (by decide +kernel)
theorem aw_m_L_94 : Cond.methodLink RL 94 yX2_sum ∈ AW := aw_of (List.mem_of_getElem? (i := 546) (by decide +kernel)) (by decide +kernel)
theorem aw_v_X2_sum : Cond.instanceMethod yX2_sum ∈ AW := aw_of (List.mem_of_getElem? (i := 547) (by decide +kernel)) (by decide +kernel)
theorem aw_e_X2_sum : Cond.selects RX2 yX2_sum yX2_sum ∈ AW := aw_of (List.mem_of_getElem? (i := 548) (by decide +kernel)) (by decide +kernel)
theorem aw_b_X2_sum : Cond.code yX2_sum cX2_sum 4 none ∈ AW := aw_of (List.mem_of_getElem? (i := 549) (by decide +kernel)) (by decide +kernel)
theorem aw_m_L_97 : Cond.methodLink RL 97 yX2_times ∈ AW := aw_of (List.mem_of_getElem? (i := 550) (by decide +kernel)) (by decide +kernel)
theorem aw_v_X2_times : Cond.instanceMethod yX2_times ∈ AW := aw_of (List.mem_of_getElem? (i := 551) (by decide +kernel)) (by decide +kernel)
theorem aw_e_X2_times : Cond.selects RX2 yX2_times yX2_times ∈ AW := aw_of (List.mem_of_getElem? (i := 552) (by decide +kernel)) (by decide +kernel)
theorem aw_b_X2_times : Cond.code yX2_times cX2_times 4 none ∈ AW := aw_of (List.mem_of_getElem? (i := 553) (by decide +kernel)) (by decide +kernel)
theorem aw_m_X2_84 : Cond.methodLink RX2 84 yX2_modulo ∈ AW := aw_of (List.mem_of_getElem? (i := 554) (by decide +kernel)) (by decide +kernel)
theorem aw_v_X2_modulo : Cond.instanceMethod yX2_modulo ∈ AW := aw_of (List.mem_of_getElem? (i := 556) (by decide +kernel)) (by decide +kernel)
theorem aw_b_X2_modulo : Cond.code yX2_modulo cX2_modulo 5 (some .int) ∈ AW := aw_of (List.mem_of_getElem? (i := 557) (by decide +kernel)) (by decide +kernel)
theorem aw_m_L_101 : Cond.methodLink RL 101 yX2_x ∈ AW := aw_of (List.mem_of_getElem? (i := 558) (by decide +kernel)) (by decide +kernel)
theorem aw_v_X2_x : Cond.instanceMethod yX2_x ∈ AW := aw_of (List.mem_of_getElem? (i := 559) (by decide +kernel)) (by decide +kernel)
theorem aw_e_X2_x : Cond.selects RX2 yX2_x yX2_x ∈ AW := aw_of (List.mem_of_getElem? (i := 560) (by decide +kernel)) (by decide +kernel)
theorem aw_b_X2_x : Cond.code yX2_x cX2_x 2 (some .int) ∈ AW := aw_of (List.mem_of_getElem? (i := 561) (by decide +kernel)) (by decide +kernel)
theorem aw_m_L_104 : Cond.methodLink RL 104 yX2_y ∈ AW := aw_of (List.mem_of_getElem? (i := 562) (by decide +kernel)) (by decide +kernel)
theorem aw_v_X2_y : Cond.instanceMethod yX2_y ∈ AW := aw_of (List.mem_of_getElem? (i := 563) (by decide +kernel)) (by decide +kernel)
theorem aw_e_X2_y : Cond.selects RX2 yX2_y yX2_y ∈ AW := aw_of (List.mem_of_getElem? (i := 564) (by decide +kernel)) (by decide +kernel)
theorem aw_b_X2_y : Cond.code yX2_y cX2_y 2 (some .int) ∈ AW := aw_of (List.mem_of_getElem? (i := 565) (by decide +kernel)) (by decide +kernel)
theorem aw_m_L_108 : Cond.methodLink RL 108 yX2_code ∈ AW := aw_of (List.mem_of_getElem? (i := 566) (by decide +kernel)) (by decide +kernel)
theorem aw_v_X2_code : Cond.instanceMethod yX2_code ∈ AW := aw_of (List.mem_of_getElem? (i := 567) (by decide +kernel)) (by decide +kernel)
theorem aw_e_X2_code : Cond.selects RX2 yX2_code yX2_code ∈ AW := aw_of (List.mem_of_getElem? (i := 568) (by decide +kernel)) (by decide +kernel)
theorem aw_b_X2_code : Cond.code yX2_code cX2_code 3 (some .long) ∈ AW := aw_of (List.mem_of_getElem? (i := 569) (by decide +kernel)) (by decide +kernel)
theorem aw_m_X2_94 : Cond.methodLink RX2 94 yX2_bytesOf ∈ AW := aw_of (List.mem_of_getElem? (i := 570) (by decide +kernel)) (by decide +kernel)
theorem aw_v_X2_bytesOf : Cond.instanceMethod yX2_bytesOf ∈ AW := aw_of (List.mem_of_getElem? (i := 572) (by decide +kernel)) (by decide +kernel)
theorem aw_b_X2_bytesOf : Cond.code yX2_bytesOf cX2_bytesOf 3 (some .long) ∈ AW := aw_of (List.mem_of_getElem? (i := 573) (by decide +kernel)) (by decide +kernel)
theorem aw_k_X2_88 : Cond.constantLong RX2 88 (2) ∈ AW := aw_of (List.mem_of_getElem? (i := 574) (by decide +kernel)) (by decide +kernel)
theorem aw_k_X2_90 : Cond.constantLong RX2 90 (65536) ∈ AW := aw_of (List.mem_of_getElem? (i := 575) (by decide +kernel)) (by decide +kernel)
theorem aw_k_X2_92 : Cond.constantLong RX2 92 (17179869184) ∈ AW := aw_of (List.mem_of_getElem? (i := 576) (by decide +kernel)) (by decide +kernel)
theorem aw_m_L_114 : Cond.methodLink RL 114 yX2_decode ∈ AW := aw_of (List.mem_of_getElem? (i := 577) (by decide +kernel)) (by decide +kernel)
theorem aw_v_X2_decode : Cond.instanceMethod yX2_decode ∈ AW := aw_of (List.mem_of_getElem? (i := 578) (by decide +kernel)) (by decide +kernel)
theorem aw_e_X2_decode : Cond.selects RX2 yX2_decode yX2_decode ∈ AW := aw_of (List.mem_of_getElem? (i := 579) (by decide +kernel)) (by decide +kernel)
theorem aw_b_X2_decode : Cond.code yX2_decode cX2_decode 6 none ∈ AW := aw_of (List.mem_of_getElem? (i := 580) (by decide +kernel)) (by decide +kernel)
theorem aw_m_X2_98 : Cond.methodLink RX2 98 yX2_read ∈ AW := aw_of (List.mem_of_getElem? (i := 581) (by decide +kernel)) (by decide +kernel)
theorem aw_v_X2_read : Cond.instanceMethod yX2_read ∈ AW := aw_of (List.mem_of_getElem? (i := 583) (by decide +kernel)) (by decide +kernel)
theorem aw_b_X2_read : Cond.code yX2_read cX2_read 7 (some .int) ∈ AW := aw_of (List.mem_of_getElem? (i := 584) (by decide +kernel)) (by decide +kernel)
theorem aw_m_L_118 : Cond.methodLink RL 118 yX2_key ∈ AW := aw_of (List.mem_of_getElem? (i := 585) (by decide +kernel)) (by decide +kernel)
theorem aw_v_X2_key : Cond.instanceMethod yX2_key ∈ AW := aw_of (List.mem_of_getElem? (i := 586) (by decide +kernel)) (by decide +kernel)
theorem aw_e_X2_key : Cond.selects RX2 yX2_key yX2_key ∈ AW := aw_of (List.mem_of_getElem? (i := 587) (by decide +kernel)) (by decide +kernel)
theorem aw_b_X2_key : Cond.code yX2_key cX2_key 3 none ∈ AW := aw_of (List.mem_of_getElem? (i := 588) (by decide +kernel)) (by decide +kernel)
theorem aw_m_L_122 : Cond.methodLink RL 122 yX2_sign ∈ AW := aw_of (List.mem_of_getElem? (i := 589) (by decide +kernel)) (by decide +kernel)
theorem aw_v_X2_sign : Cond.instanceMethod yX2_sign ∈ AW := aw_of (List.mem_of_getElem? (i := 590) (by decide +kernel)) (by decide +kernel)
theorem aw_e_X2_sign : Cond.selects RX2 yX2_sign yX2_sign ∈ AW := aw_of (List.mem_of_getElem? (i := 591) (by decide +kernel)) (by decide +kernel)
theorem aw_b_X2_sign : Cond.code yX2_sign cX2_sign 9 (some .long) ∈ AW := aw_of (List.mem_of_getElem? (i := 592) (by decide +kernel)) (by decide +kernel)
theorem aw_m_X2_112 : Cond.methodLink RX2 112 yX2_stir ∈ AW := aw_of (List.mem_of_getElem? (i := 593) (by decide +kernel)) (by decide +kernel)
theorem aw_v_X2_stir : Cond.instanceMethod yX2_stir ∈ AW := aw_of (List.mem_of_getElem? (i := 595) (by decide +kernel)) (by decide +kernel)
theorem aw_b_X2_stir : Cond.code yX2_stir cX2_stir 2 none ∈ AW := aw_of (List.mem_of_getElem? (i := 596) (by decide +kernel)) (by decide +kernel)
theorem aw_m_X2_106 : Cond.methodLink RX2 106 yX2_mix ∈ AW := aw_of (List.mem_of_getElem? (i := 597) (by decide +kernel)) (by decide +kernel)
theorem aw_v_X2_mix : Cond.instanceMethod yX2_mix ∈ AW := aw_of (List.mem_of_getElem? (i := 599) (by decide +kernel)) (by decide +kernel)
theorem aw_b_X2_mix : Cond.code yX2_mix cX2_mix 4 (some .int) ∈ AW := aw_of (List.mem_of_getElem? (i := 600) (by decide +kernel)) (by decide +kernel)
theorem aw_k_X2_102 : Cond.constant RX2 102 (668265261) ∈ AW := aw_of (List.mem_of_getElem? (i := 601) (by decide +kernel)) (by decide +kernel)
theorem aw_m_L_126 : Cond.methodLink RL 126 yX2_draws ∈ AW := aw_of (List.mem_of_getElem? (i := 602) (by decide +kernel)) (by decide +kernel)
theorem aw_v_X2_draws : Cond.instanceMethod yX2_draws ∈ AW := aw_of (List.mem_of_getElem? (i := 603) (by decide +kernel)) (by decide +kernel)
theorem aw_e_X2_draws : Cond.selects RX2 yX2_draws yX2_draws ∈ AW := aw_of (List.mem_of_getElem? (i := 604) (by decide +kernel)) (by decide +kernel)
theorem aw_b_X2_draws : Cond.code yX2_draws cX2_draws 1 (some .int) ∈ AW := aw_of (List.mem_of_getElem? (i := 605) (by decide +kernel)) (by decide +kernel)
theorem aw_m_L_130 : Cond.methodLink RL 130 yX2_verify ∈ AW := aw_of (List.mem_of_getElem? (i := 606) (by decide +kernel)) (by decide +kernel)
theorem aw_v_X2_verify : Cond.instanceMethod yX2_verify ∈ AW := aw_of (List.mem_of_getElem? (i := 607) (by decide +kernel)) (by decide +kernel)
theorem aw_e_X2_verify : Cond.selects RX2 yX2_verify yX2_verify ∈ AW := aw_of (List.mem_of_getElem? (i := 608) (by decide +kernel)) (by decide +kernel)
theorem aw_b_X2_verify : Cond.code yX2_verify cX2_verify 6 (some .boolean) ∈ AW := aw_of (List.mem_of_getElem? (i := 609) (by decide +kernel)) (by decide +kernel)
theorem aw_m_X2_119 : Cond.methodLink RX2 119 yX2_fits ∈ AW := aw_of (List.mem_of_getElem? (i := 610) (by decide +kernel)) (by decide +kernel)
theorem aw_v_X2_fits : Cond.instanceMethod yX2_fits ∈ AW := aw_of (List.mem_of_getElem? (i := 612) (by decide +kernel)) (by decide +kernel)
theorem aw_b_X2_fits : Cond.code yX2_fits cX2_fits 8 (some .boolean) ∈ AW := aw_of (List.mem_of_getElem? (i := 613) (by decide +kernel)) (by decide +kernel)
theorem aw_m_L_134 : Cond.methodLink RL 134 yX2_accepts ∈ AW := aw_of (List.mem_of_getElem? (i := 614) (by decide +kernel)) (by decide +kernel)
theorem aw_v_X2_accepts : Cond.instanceMethod yX2_accepts ∈ AW := aw_of (List.mem_of_getElem? (i := 615) (by decide +kernel)) (by decide +kernel)
theorem aw_e_X2_accepts : Cond.selects RX2 yX2_accepts yX2_accepts ∈ AW := aw_of (List.mem_of_getElem? (i := 616) (by decide +kernel)) (by decide +kernel)
theorem aw_b_X2_accepts : Cond.code yX2_accepts cX2_accepts 9 (some .boolean) ∈ AW := aw_of (List.mem_of_getElem? (i := 617) (by decide +kernel)) (by decide +kernel)
theorem aw_k_L_109 : Cond.constantLong RL 109 (4294967295) ∈ AW := aw_of (List.mem_of_getElem? (i := 618) (by decide +kernel)) (by decide +kernel)
theorem aw_a_long : Cond.arrayClass .long ∈ AW := aw_of (List.mem_of_getElem? (i := 619) (by decide +kernel)) (by decide +kernel)
theorem aw_e_X1_countPoints : Cond.selects RX1 yX1_countPoints yX1_countPoints ∈ AW := aw_of (List.mem_of_getElem? (i := 1) (by decide +kernel)) (by decide +kernel)
theorem aw_e_X1_takenCurve : Cond.selects RX1 yX1_takenCurve yX1_takenCurve ∈ AW := aw_of (List.mem_of_getElem? (i := 2) (by decide +kernel)) (by decide +kernel)
theorem aw_e_X0_slope : Cond.selects RX0 yX0_slope yX0_slope ∈ AW := aw_of (List.mem_of_getElem? (i := 3) (by decide +kernel)) (by decide +kernel)
theorem aw_e_X0_pointOfShort : Cond.selects RX0 yX0_pointOfShort yX0_pointOfShort ∈ AW := aw_of (List.mem_of_getElem? (i := 4) (by decide +kernel)) (by decide +kernel)
theorem aw_e_X0_pointOfPlain : Cond.selects RX0 yX0_pointOfPlain yX0_pointOfPlain ∈ AW := aw_of (List.mem_of_getElem? (i := 5) (by decide +kernel)) (by decide +kernel)
theorem aw_e_X2_count : Cond.selects RX2 yX2_count yX2_count ∈ AW := aw_of (List.mem_of_getElem? (i := 6) (by decide +kernel)) (by decide +kernel)
theorem aw_e_X2_prime : Cond.selects RX2 yX2_prime yX2_prime ∈ AW := aw_of (List.mem_of_getElem? (i := 7) (by decide +kernel)) (by decide +kernel)
theorem aw_e_X2_cube : Cond.selects RX2 yX2_cube yX2_cube ∈ AW := aw_of (List.mem_of_getElem? (i := 8) (by decide +kernel)) (by decide +kernel)
theorem aw_e_X2_good : Cond.selects RX2 yX2_good yX2_good ∈ AW := aw_of (List.mem_of_getElem? (i := 9) (by decide +kernel)) (by decide +kernel)
theorem aw_e_X2_findBase : Cond.selects RX2 yX2_findBase yX2_findBase ∈ AW := aw_of (List.mem_of_getElem? (i := 10) (by decide +kernel)) (by decide +kernel)
theorem aw_e_X2_add : Cond.selects RX2 yX2_add yX2_add ∈ AW := aw_of (List.mem_of_getElem? (i := 11) (by decide +kernel)) (by decide +kernel)
theorem aw_e_X2_inverse : Cond.selects RX2 yX2_inverse yX2_inverse ∈ AW := aw_of (List.mem_of_getElem? (i := 12) (by decide +kernel)) (by decide +kernel)
theorem aw_e_X2_find : Cond.selects RX2 yX2_find yX2_find ∈ AW := aw_of (List.mem_of_getElem? (i := 13) (by decide +kernel)) (by decide +kernel)
theorem aw_e_X2_noRegister : Cond.selects RX2 yX2_noRegister yX2_noRegister ∈ AW := aw_of (List.mem_of_getElem? (i := 14) (by decide +kernel)) (by decide +kernel)
theorem aw_e_X2_modulo : Cond.selects RX2 yX2_modulo yX2_modulo ∈ AW := aw_of (List.mem_of_getElem? (i := 15) (by decide +kernel)) (by decide +kernel)
theorem aw_e_X2_bytesOf : Cond.selects RX2 yX2_bytesOf yX2_bytesOf ∈ AW := aw_of (List.mem_of_getElem? (i := 16) (by decide +kernel)) (by decide +kernel)
theorem aw_e_X2_read : Cond.selects RX2 yX2_read yX2_read ∈ AW := aw_of (List.mem_of_getElem? (i := 17) (by decide +kernel)) (by decide +kernel)
theorem aw_e_X2_stir : Cond.selects RX2 yX2_stir yX2_stir ∈ AW := aw_of (List.mem_of_getElem? (i := 18) (by decide +kernel)) (by decide +kernel)
theorem aw_e_X2_mix : Cond.selects RX2 yX2_mix yX2_mix ∈ AW := aw_of (List.mem_of_getElem? (i := 19) (by decide +kernel)) (by decide +kernel)
theorem aw_e_X2_fits : Cond.selects RX2 yX2_fits yX2_fits ∈ AW := aw_of (List.mem_of_getElem? (i := 20) (by decide +kernel)) (by decide +kernel)
theorem aw_uX0 : ∀ w, w ∈ u_ws RX0 TX0 5 → w ∈ AW := fun w h => aw_of ((show ∀ w, w ∈ u_ws RX0 TX0 5 → w ∈ lw_tbl from by decide +kernel) w h) ((show ∀ w, w ∈ u_ws RX0 TX0 5 → goodWord w = true from by decide +kernel) w h)
theorem aw_uX1 : ∀ w, w ∈ u_ws RX1 TX1 5 → w ∈ AW := fun w h => aw_of ((show ∀ w, w ∈ u_ws RX1 TX1 5 → w ∈ lw_tbl from by decide +kernel) w h) ((show ∀ w, w ∈ u_ws RX1 TX1 5 → goodWord w = true from by decide +kernel) w h)
theorem aw_uX2 : ∀ w, w ∈ u_ws RX2 TX2 15 → w ∈ AW := fun w h => aw_of ((show ∀ w, w ∈ u_ws RX2 TX2 15 → w ∈ lw_tbl from by decide +kernel) w h) ((show ∀ w, w ∈ u_ws RX2 TX2 15 → goodWord w = true from by decide +kernel) w h)
end
section
/-! Decode rows, by wip/whole/tools/decode.py. -/
theorem dX1_init_0 : decode cX1_init 0 = .ok (.aload_n 0, 1) := by decide +kernel
theorem dX1_init_1 : decode cX1_init 1 = .ok (.invokespecial 1, 3) := by decide +kernel
theorem dX1_init_4 : decode cX1_init 4 = .ok (.aload_n 0, 1) := by decide +kernel
theorem dX1_init_5 : decode cX1_init 5 = .ok (.iconst 4, 1) := by decide +kernel
theorem dX1_init_6 : decode cX1_init 6 = .ok (.newarray .int, 2) := by decide +kernel
theorem dX1_init_8 : decode cX1_init 8 = .ok (.putfield 9, 3) := by decide +kernel
theorem dX1_init_11 : decode cX1_init 11 = .ok (.aload_n 0, 1) := by decide +kernel
theorem dX1_init_12 : decode cX1_init 12 = .ok (.sipush 1021, 3) := by decide +kernel
theorem dX1_init_15 : decode cX1_init 15 = .ok (.newarray .int, 2) := by decide +kernel
theorem dX1_init_17 : decode cX1_init 17 = .ok (.putfield 13, 3) := by decide +kernel
theorem dX1_init_20 : decode cX1_init 20 = .ok (.aload_n 0, 1) := by decide +kernel
theorem dX1_init_21 : decode cX1_init 21 = .ok (.getfield 9, 3) := by decide +kernel
theorem dX1_init_24 : decode cX1_init 24 = .ok (.iconst (-1), 1) := by decide +kernel
theorem dX1_init_25 : decode cX1_init 25 = .ok (.invokestatic 16, 3) := by decide +kernel
theorem dX1_init_28 : decode cX1_init 28 = .ok (.aload_n 0, 1) := by decide +kernel
theorem dX1_init_29 : decode cX1_init 29 = .ok (.aconst_null, 1) := by decide +kernel
theorem dX1_init_30 : decode cX1_init 30 = .ok (.putfield 22, 3) := by decide +kernel
theorem dX1_init_33 : decode cX1_init 33 = .ok (.aload_n 0, 1) := by decide +kernel
theorem dX1_init_34 : decode cX1_init 34 = .ok (.iconst 0, 1) := by decide +kernel
theorem dX1_init_35 : decode cX1_init 35 = .ok (.putfield 26, 3) := by decide +kernel
theorem dX1_init_38 : decode cX1_init 38 = .ok (.aload_n 0, 1) := by decide +kernel
theorem dX1_init_39 : decode cX1_init 39 = .ok (.iconst 0, 1) := by decide +kernel
theorem dX1_init_40 : decode cX1_init 40 = .ok (.putfield 30, 3) := by decide +kernel
theorem dX1_init_43 : decode cX1_init 43 = .ok (.return_, 1) := by decide +kernel
theorem dX1_curve_0 : decode cX1_curve 0 = .ok (.iload_n 1, 1) := by decide +kernel
theorem dX1_curve_1 : decode cX1_curve 1 = .ok (.iload_n 2, 1) := by decide +kernel
theorem dX1_curve_2 : decode cX1_curve 2 = .ok (.iload_n 3, 1) := by decide +kernel
theorem dX1_curve_3 : decode cX1_curve 3 = .ok (.invokestatic 33, 3) := by decide +kernel
theorem dX1_curve_6 : decode cX1_curve 6 = .ok (.ifCond .ne 13, 3) := by decide +kernel
theorem dX1_curve_9 : decode cX1_curve 9 = .ok (.new 37, 3) := by decide +kernel
theorem dX1_curve_12 : decode cX1_curve 12 = .ok (.dup, 1) := by decide +kernel
theorem dX1_curve_13 : decode cX1_curve 13 = .ok (.ldc 39, 2) := by decide +kernel
theorem dX1_curve_15 : decode cX1_curve 15 = .ok (.invokespecial 41, 3) := by decide +kernel
theorem dX1_curve_18 : decode cX1_curve 18 = .ok (.athrow, 1) := by decide +kernel
theorem dX1_curve_19 : decode cX1_curve 19 = .ok (.aload_n 0, 1) := by decide +kernel
theorem dX1_curve_20 : decode cX1_curve 20 = .ok (.iload_n 1, 1) := by decide +kernel
theorem dX1_curve_21 : decode cX1_curve 21 = .ok (.iload_n 2, 1) := by decide +kernel
theorem dX1_curve_22 : decode cX1_curve 22 = .ok (.iload_n 3, 1) := by decide +kernel
theorem dX1_curve_23 : decode cX1_curve 23 = .ok (.invokevirtual 44, 3) := by decide +kernel
theorem dX1_curve_26 : decode cX1_curve 26 = .ok (.istore 4, 2) := by decide +kernel
theorem dX1_curve_28 : decode cX1_curve 28 = .ok (.iload 4, 2) := by decide +kernel
theorem dX1_curve_30 : decode cX1_curve 30 = .ok (.iconst 2, 1) := by decide +kernel
theorem dX1_curve_31 : decode cX1_curve 31 = .ok (.if_icmp .le 11, 3) := by decide +kernel
theorem dX1_curve_34 : decode cX1_curve 34 = .ok (.iload 4, 2) := by decide +kernel
theorem dX1_curve_36 : decode cX1_curve 36 = .ok (.invokestatic 48, 3) := by decide +kernel
theorem dX1_curve_39 : decode cX1_curve 39 = .ok (.ifCond .ne 13, 3) := by decide +kernel
theorem dX1_curve_42 : decode cX1_curve 42 = .ok (.new 37, 3) := by decide +kernel
theorem dX1_curve_45 : decode cX1_curve 45 = .ok (.dup, 1) := by decide +kernel
theorem dX1_curve_46 : decode cX1_curve 46 = .ok (.ldc 52, 2) := by decide +kernel
theorem dX1_curve_48 : decode cX1_curve 48 = .ok (.invokespecial 41, 3) := by decide +kernel
theorem dX1_curve_51 : decode cX1_curve 51 = .ok (.athrow, 1) := by decide +kernel
theorem dX1_curve_52 : decode cX1_curve 52 = .ok (.aload_n 0, 1) := by decide +kernel
theorem dX1_curve_53 : decode cX1_curve 53 = .ok (.new 54, 3) := by decide +kernel
theorem dX1_curve_56 : decode cX1_curve 56 = .ok (.dup, 1) := by decide +kernel
theorem dX1_curve_57 : decode cX1_curve 57 = .ok (.iload_n 1, 1) := by decide +kernel
theorem dX1_curve_58 : decode cX1_curve 58 = .ok (.iload_n 2, 1) := by decide +kernel
theorem dX1_curve_59 : decode cX1_curve 59 = .ok (.iload_n 3, 1) := by decide +kernel
theorem dX1_curve_60 : decode cX1_curve 60 = .ok (.iload 4, 2) := by decide +kernel
theorem dX1_curve_62 : decode cX1_curve 62 = .ok (.invokespecial 56, 3) := by decide +kernel
theorem dX1_curve_65 : decode cX1_curve 65 = .ok (.putfield 22, 3) := by decide +kernel
theorem dX1_curve_68 : decode cX1_curve 68 = .ok (.aload_n 0, 1) := by decide +kernel
theorem dX1_curve_69 : decode cX1_curve 69 = .ok (.getfield 9, 3) := by decide +kernel
theorem dX1_curve_72 : decode cX1_curve 72 = .ok (.iconst (-1), 1) := by decide +kernel
theorem dX1_curve_73 : decode cX1_curve 73 = .ok (.invokestatic 16, 3) := by decide +kernel
theorem dX1_curve_76 : decode cX1_curve 76 = .ok (.aload_n 0, 1) := by decide +kernel
theorem dX1_curve_77 : decode cX1_curve 77 = .ok (.iconst 0, 1) := by decide +kernel
theorem dX1_curve_78 : decode cX1_curve 78 = .ok (.putfield 26, 3) := by decide +kernel
theorem dX1_curve_81 : decode cX1_curve 81 = .ok (.iload 4, 2) := by decide +kernel
theorem dX1_curve_83 : decode cX1_curve 83 = .ok (.ireturn, 1) := by decide +kernel
theorem dX1_order_0 : decode cX1_order 0 = .ok (.aload_n 0, 1) := by decide +kernel
theorem dX1_order_1 : decode cX1_order 1 = .ok (.getfield 22, 3) := by decide +kernel
theorem dX1_order_4 : decode cX1_order 4 = .ok (.ifnonnull 7, 3) := by decide +kernel
theorem dX1_order_7 : decode cX1_order 7 = .ok (.iconst 0, 1) := by decide +kernel
theorem dX1_order_8 : decode cX1_order 8 = .ok (.goto 10, 3) := by decide +kernel
theorem dX1_order_11 : decode cX1_order 11 = .ok (.aload_n 0, 1) := by decide +kernel
theorem dX1_order_12 : decode cX1_order 12 = .ok (.getfield 22, 3) := by decide +kernel
theorem dX1_order_15 : decode cX1_order 15 = .ok (.getfield 59, 3) := by decide +kernel
theorem dX1_order_18 : decode cX1_order 18 = .ok (.ireturn, 1) := by decide +kernel
theorem dX1_load_0 : decode cX1_load 0 = .ok (.aload_n 0, 1) := by decide +kernel
theorem dX1_load_1 : decode cX1_load 1 = .ok (.invokevirtual 62, 3) := by decide +kernel
theorem dX1_load_4 : decode cX1_load 4 = .ok (.astore 4, 2) := by decide +kernel
theorem dX1_load_6 : decode cX1_load 6 = .ok (.iload_n 1, 1) := by decide +kernel
theorem dX1_load_7 : decode cX1_load 7 = .ok (.invokestatic 66, 3) := by decide +kernel
theorem dX1_load_10 : decode cX1_load 10 = .ok (.aload 4, 2) := by decide +kernel
theorem dX1_load_12 : decode cX1_load 12 = .ok (.iload_n 2, 1) := by decide +kernel
theorem dX1_load_13 : decode cX1_load 13 = .ok (.iload_n 3, 1) := by decide +kernel
theorem dX1_load_14 : decode cX1_load 14 = .ok (.invokevirtual 70, 3) := by decide +kernel
theorem dX1_load_17 : decode cX1_load 17 = .ok (.ifCond .ne 13, 3) := by decide +kernel
theorem dX1_load_20 : decode cX1_load 20 = .ok (.new 37, 3) := by decide +kernel
theorem dX1_load_23 : decode cX1_load 23 = .ok (.dup, 1) := by decide +kernel
theorem dX1_load_24 : decode cX1_load 24 = .ok (.ldc 74, 2) := by decide +kernel
theorem dX1_load_26 : decode cX1_load 26 = .ok (.invokespecial 41, 3) := by decide +kernel
theorem dX1_load_29 : decode cX1_load 29 = .ok (.athrow, 1) := by decide +kernel
theorem dX1_load_30 : decode cX1_load 30 = .ok (.aload_n 0, 1) := by decide +kernel
theorem dX1_load_31 : decode cX1_load 31 = .ok (.getfield 9, 3) := by decide +kernel
theorem dX1_load_34 : decode cX1_load 34 = .ok (.iload_n 1, 1) := by decide +kernel
theorem dX1_load_35 : decode cX1_load 35 = .ok (.iload_n 2, 1) := by decide +kernel
theorem dX1_load_36 : decode cX1_load 36 = .ok (.iload_n 3, 1) := by decide +kernel
theorem dX1_load_37 : decode cX1_load 37 = .ok (.invokestatic 76, 3) := by decide +kernel
theorem dX1_load_40 : decode cX1_load 40 = .ok (.iastore, 1) := by decide +kernel
theorem dX1_load_41 : decode cX1_load 41 = .ok (.return_, 1) := by decide +kernel
theorem dX1_base_0 : decode cX1_base 0 = .ok (.aload_n 0, 1) := by decide +kernel
theorem dX1_base_1 : decode cX1_base 1 = .ok (.invokevirtual 62, 3) := by decide +kernel
theorem dX1_base_4 : decode cX1_base 4 = .ok (.astore_n 2, 1) := by decide +kernel
theorem dX1_base_5 : decode cX1_base 5 = .ok (.iload_n 1, 1) := by decide +kernel
theorem dX1_base_6 : decode cX1_base 6 = .ok (.invokestatic 66, 3) := by decide +kernel
theorem dX1_base_9 : decode cX1_base 9 = .ok (.aload_n 0, 1) := by decide +kernel
theorem dX1_base_10 : decode cX1_base 10 = .ok (.getfield 9, 3) := by decide +kernel
theorem dX1_base_13 : decode cX1_base 13 = .ok (.iload_n 1, 1) := by decide +kernel
theorem dX1_base_14 : decode cX1_base 14 = .ok (.aload_n 2, 1) := by decide +kernel
theorem dX1_base_15 : decode cX1_base 15 = .ok (.getfield 80, 3) := by decide +kernel
theorem dX1_base_18 : decode cX1_base 18 = .ok (.iastore, 1) := by decide +kernel
theorem dX1_base_19 : decode cX1_base 19 = .ok (.return_, 1) := by decide +kernel
theorem dX1_sum_0 : decode cX1_sum 0 = .ok (.aload_n 0, 1) := by decide +kernel
theorem dX1_sum_1 : decode cX1_sum 1 = .ok (.invokevirtual 62, 3) := by decide +kernel
theorem dX1_sum_4 : decode cX1_sum 4 = .ok (.astore 4, 2) := by decide +kernel
theorem dX1_sum_6 : decode cX1_sum 6 = .ok (.iload_n 1, 1) := by decide +kernel
theorem dX1_sum_7 : decode cX1_sum 7 = .ok (.invokestatic 66, 3) := by decide +kernel
theorem dX1_sum_10 : decode cX1_sum 10 = .ok (.iload_n 2, 1) := by decide +kernel
theorem dX1_sum_11 : decode cX1_sum 11 = .ok (.invokestatic 66, 3) := by decide +kernel
theorem dX1_sum_14 : decode cX1_sum 14 = .ok (.iload_n 3, 1) := by decide +kernel
theorem dX1_sum_15 : decode cX1_sum 15 = .ok (.invokestatic 66, 3) := by decide +kernel
theorem dX1_sum_18 : decode cX1_sum 18 = .ok (.aload_n 0, 1) := by decide +kernel
theorem dX1_sum_19 : decode cX1_sum 19 = .ok (.getfield 9, 3) := by decide +kernel
theorem dX1_sum_22 : decode cX1_sum 22 = .ok (.iload_n 1, 1) := by decide +kernel
theorem dX1_sum_23 : decode cX1_sum 23 = .ok (.aload 4, 2) := by decide +kernel
theorem dX1_sum_25 : decode cX1_sum 25 = .ok (.aload_n 0, 1) := by decide +kernel
theorem dX1_sum_26 : decode cX1_sum 26 = .ok (.getfield 9, 3) := by decide +kernel
theorem dX1_sum_29 : decode cX1_sum 29 = .ok (.iload_n 2, 1) := by decide +kernel
theorem dX1_sum_30 : decode cX1_sum 30 = .ok (.iaload, 1) := by decide +kernel
theorem dX1_sum_31 : decode cX1_sum 31 = .ok (.aload_n 0, 1) := by decide +kernel
theorem dX1_sum_32 : decode cX1_sum 32 = .ok (.getfield 9, 3) := by decide +kernel
theorem dX1_sum_35 : decode cX1_sum 35 = .ok (.iload_n 3, 1) := by decide +kernel
theorem dX1_sum_36 : decode cX1_sum 36 = .ok (.iaload, 1) := by decide +kernel
theorem dX1_sum_37 : decode cX1_sum 37 = .ok (.invokevirtual 83, 3) := by decide +kernel
theorem dX1_sum_40 : decode cX1_sum 40 = .ok (.iastore, 1) := by decide +kernel
theorem dX1_sum_41 : decode cX1_sum 41 = .ok (.return_, 1) := by decide +kernel
theorem dX1_times_0 : decode cX1_times 0 = .ok (.aload_n 0, 1) := by decide +kernel
theorem dX1_times_1 : decode cX1_times 1 = .ok (.invokevirtual 62, 3) := by decide +kernel
theorem dX1_times_4 : decode cX1_times 4 = .ok (.astore 4, 2) := by decide +kernel
theorem dX1_times_6 : decode cX1_times 6 = .ok (.iload_n 1, 1) := by decide +kernel
theorem dX1_times_7 : decode cX1_times 7 = .ok (.invokestatic 66, 3) := by decide +kernel
theorem dX1_times_10 : decode cX1_times 10 = .ok (.iload_n 3, 1) := by decide +kernel
theorem dX1_times_11 : decode cX1_times 11 = .ok (.invokestatic 66, 3) := by decide +kernel
theorem dX1_times_14 : decode cX1_times 14 = .ok (.aload_n 0, 1) := by decide +kernel
theorem dX1_times_15 : decode cX1_times 15 = .ok (.getfield 9, 3) := by decide +kernel
theorem dX1_times_18 : decode cX1_times 18 = .ok (.iload_n 1, 1) := by decide +kernel
theorem dX1_times_19 : decode cX1_times 19 = .ok (.aload 4, 2) := by decide +kernel
theorem dX1_times_21 : decode cX1_times 21 = .ok (.iload_n 2, 1) := by decide +kernel
theorem dX1_times_22 : decode cX1_times 22 = .ok (.aload_n 0, 1) := by decide +kernel
theorem dX1_times_23 : decode cX1_times 23 = .ok (.getfield 9, 3) := by decide +kernel
theorem dX1_times_26 : decode cX1_times 26 = .ok (.iload_n 3, 1) := by decide +kernel
theorem dX1_times_27 : decode cX1_times 27 = .ok (.iaload, 1) := by decide +kernel
theorem dX1_times_28 : decode cX1_times 28 = .ok (.invokevirtual 86, 3) := by decide +kernel
theorem dX1_times_31 : decode cX1_times 31 = .ok (.iastore, 1) := by decide +kernel
theorem dX1_times_32 : decode cX1_times 32 = .ok (.return_, 1) := by decide +kernel
theorem dX1_x_0 : decode cX1_x 0 = .ok (.iload_n 1, 1) := by decide +kernel
theorem dX1_x_1 : decode cX1_x 1 = .ok (.invokestatic 66, 3) := by decide +kernel
theorem dX1_x_4 : decode cX1_x 4 = .ok (.aload_n 0, 1) := by decide +kernel
theorem dX1_x_5 : decode cX1_x 5 = .ok (.getfield 9, 3) := by decide +kernel
theorem dX1_x_8 : decode cX1_x 8 = .ok (.iload_n 1, 1) := by decide +kernel
theorem dX1_x_9 : decode cX1_x 9 = .ok (.iaload, 1) := by decide +kernel
theorem dX1_x_10 : decode cX1_x 10 = .ok (.iconst (-1), 1) := by decide +kernel
theorem dX1_x_11 : decode cX1_x 11 = .ok (.if_icmp .ne 7, 3) := by decide +kernel
theorem dX1_x_14 : decode cX1_x 14 = .ok (.iconst (-1), 1) := by decide +kernel
theorem dX1_x_15 : decode cX1_x 15 = .ok (.goto 12, 3) := by decide +kernel
theorem dX1_x_18 : decode cX1_x 18 = .ok (.aload_n 0, 1) := by decide +kernel
theorem dX1_x_19 : decode cX1_x 19 = .ok (.getfield 9, 3) := by decide +kernel
theorem dX1_x_22 : decode cX1_x 22 = .ok (.iload_n 1, 1) := by decide +kernel
theorem dX1_x_23 : decode cX1_x 23 = .ok (.iaload, 1) := by decide +kernel
theorem dX1_x_24 : decode cX1_x 24 = .ok (.invokestatic 89, 3) := by decide +kernel
theorem dX1_x_27 : decode cX1_x 27 = .ok (.ireturn, 1) := by decide +kernel
theorem dX1_y_0 : decode cX1_y 0 = .ok (.iload_n 1, 1) := by decide +kernel
theorem dX1_y_1 : decode cX1_y 1 = .ok (.invokestatic 66, 3) := by decide +kernel
theorem dX1_y_4 : decode cX1_y 4 = .ok (.aload_n 0, 1) := by decide +kernel
theorem dX1_y_5 : decode cX1_y 5 = .ok (.getfield 9, 3) := by decide +kernel
theorem dX1_y_8 : decode cX1_y 8 = .ok (.iload_n 1, 1) := by decide +kernel
theorem dX1_y_9 : decode cX1_y 9 = .ok (.iaload, 1) := by decide +kernel
theorem dX1_y_10 : decode cX1_y 10 = .ok (.iconst (-1), 1) := by decide +kernel
theorem dX1_y_11 : decode cX1_y 11 = .ok (.if_icmp .ne 7, 3) := by decide +kernel
theorem dX1_y_14 : decode cX1_y 14 = .ok (.iconst (-1), 1) := by decide +kernel
theorem dX1_y_15 : decode cX1_y 15 = .ok (.goto 12, 3) := by decide +kernel
theorem dX1_y_18 : decode cX1_y 18 = .ok (.aload_n 0, 1) := by decide +kernel
theorem dX1_y_19 : decode cX1_y 19 = .ok (.getfield 9, 3) := by decide +kernel
theorem dX1_y_22 : decode cX1_y 22 = .ok (.iload_n 1, 1) := by decide +kernel
theorem dX1_y_23 : decode cX1_y 23 = .ok (.iaload, 1) := by decide +kernel
theorem dX1_y_24 : decode cX1_y 24 = .ok (.invokestatic 93, 3) := by decide +kernel
theorem dX1_y_27 : decode cX1_y 27 = .ok (.ireturn, 1) := by decide +kernel
theorem dX1_code_0 : decode cX1_code 0 = .ok (.iload_n 1, 1) := by decide +kernel
theorem dX1_code_1 : decode cX1_code 1 = .ok (.invokestatic 66, 3) := by decide +kernel
theorem dX1_code_4 : decode cX1_code 4 = .ok (.aload_n 0, 1) := by decide +kernel
theorem dX1_code_5 : decode cX1_code 5 = .ok (.getfield 9, 3) := by decide +kernel
theorem dX1_code_8 : decode cX1_code 8 = .ok (.iload_n 1, 1) := by decide +kernel
theorem dX1_code_9 : decode cX1_code 9 = .ok (.iaload, 1) := by decide +kernel
theorem dX1_code_10 : decode cX1_code 10 = .ok (.istore_n 3, 1) := by decide +kernel
theorem dX1_code_11 : decode cX1_code 11 = .ok (.iload_n 3, 1) := by decide +kernel
theorem dX1_code_12 : decode cX1_code 12 = .ok (.iconst (-1), 1) := by decide +kernel
theorem dX1_code_13 : decode cX1_code 13 = .ok (.if_icmp .ne 5, 3) := by decide +kernel
theorem dX1_code_16 : decode cX1_code 16 = .ok (.lconst 0, 1) := by decide +kernel
theorem dX1_code_17 : decode cX1_code 17 = .ok (.lreturn, 1) := by decide +kernel
theorem dX1_code_18 : decode cX1_code 18 = .ok (.iload_n 2, 1) := by decide +kernel
theorem dX1_code_19 : decode cX1_code 19 = .ok (.ifCond .eq 10, 3) := by decide +kernel
theorem dX1_code_22 : decode cX1_code 22 = .ok (.iload_n 3, 1) := by decide +kernel
theorem dX1_code_23 : decode cX1_code 23 = .ok (.invokestatic 96, 3) := by decide +kernel
theorem dX1_code_26 : decode cX1_code 26 = .ok (.goto 7, 3) := by decide +kernel
theorem dX1_code_29 : decode cX1_code 29 = .ok (.iload_n 3, 1) := by decide +kernel
theorem dX1_code_30 : decode cX1_code 30 = .ok (.invokestatic 100, 3) := by decide +kernel
theorem dX1_code_33 : decode cX1_code 33 = .ok (.lreturn, 1) := by decide +kernel
theorem dX1_decode_0 : decode cX1_decode 0 = .ok (.aload_n 0, 1) := by decide +kernel
theorem dX1_decode_1 : decode cX1_decode 1 = .ok (.invokevirtual 62, 3) := by decide +kernel
theorem dX1_decode_4 : decode cX1_decode 4 = .ok (.astore 5, 2) := by decide +kernel
theorem dX1_decode_6 : decode cX1_decode 6 = .ok (.iload_n 1, 1) := by decide +kernel
theorem dX1_decode_7 : decode cX1_decode 7 = .ok (.invokestatic 66, 3) := by decide +kernel
theorem dX1_decode_10 : decode cX1_decode 10 = .ok (.aload 5, 2) := by decide +kernel
theorem dX1_decode_12 : decode cX1_decode 12 = .ok (.iload_n 2, 1) := by decide +kernel
theorem dX1_decode_13 : decode cX1_decode 13 = .ok (.lload_n 3, 1) := by decide +kernel
theorem dX1_decode_14 : decode cX1_decode 14 = .ok (.invokevirtual 103, 3) := by decide +kernel
theorem dX1_decode_17 : decode cX1_decode 17 = .ok (.istore 6, 2) := by decide +kernel
theorem dX1_decode_19 : decode cX1_decode 19 = .ok (.iload 6, 2) := by decide +kernel
theorem dX1_decode_21 : decode cX1_decode 21 = .ok (.bipush (-2), 2) := by decide +kernel
theorem dX1_decode_23 : decode cX1_decode 23 = .ok (.if_icmp .ne 13, 3) := by decide +kernel
theorem dX1_decode_26 : decode cX1_decode 26 = .ok (.new 37, 3) := by decide +kernel
theorem dX1_decode_29 : decode cX1_decode 29 = .ok (.dup, 1) := by decide +kernel
theorem dX1_decode_30 : decode cX1_decode 30 = .ok (.ldc 107, 2) := by decide +kernel
theorem dX1_decode_32 : decode cX1_decode 32 = .ok (.invokespecial 41, 3) := by decide +kernel
theorem dX1_decode_35 : decode cX1_decode 35 = .ok (.athrow, 1) := by decide +kernel
theorem dX1_decode_36 : decode cX1_decode 36 = .ok (.aload_n 0, 1) := by decide +kernel
theorem dX1_decode_37 : decode cX1_decode 37 = .ok (.getfield 9, 3) := by decide +kernel
theorem dX1_decode_40 : decode cX1_decode 40 = .ok (.iload_n 1, 1) := by decide +kernel
theorem dX1_decode_41 : decode cX1_decode 41 = .ok (.iload 6, 2) := by decide +kernel
theorem dX1_decode_43 : decode cX1_decode 43 = .ok (.iastore, 1) := by decide +kernel
theorem dX1_decode_44 : decode cX1_decode 44 = .ok (.return_, 1) := by decide +kernel
theorem dX1_key_0 : decode cX1_key 0 = .ok (.aload_n 0, 1) := by decide +kernel
theorem dX1_key_1 : decode cX1_key 1 = .ok (.invokevirtual 62, 3) := by decide +kernel
theorem dX1_key_4 : decode cX1_key 4 = .ok (.astore_n 3, 1) := by decide +kernel
theorem dX1_key_5 : decode cX1_key 5 = .ok (.iload_n 1, 1) := by decide +kernel
theorem dX1_key_6 : decode cX1_key 6 = .ok (.invokestatic 66, 3) := by decide +kernel
theorem dX1_key_9 : decode cX1_key 9 = .ok (.aload_n 3, 1) := by decide +kernel
theorem dX1_key_10 : decode cX1_key 10 = .ok (.iload_n 2, 1) := by decide +kernel
theorem dX1_key_11 : decode cX1_key 11 = .ok (.invokevirtual 109, 3) := by decide +kernel
theorem dX1_key_14 : decode cX1_key 14 = .ok (.ifCond .ne 13, 3) := by decide +kernel
theorem dX1_key_17 : decode cX1_key 17 = .ok (.new 37, 3) := by decide +kernel
theorem dX1_key_20 : decode cX1_key 20 = .ok (.dup, 1) := by decide +kernel
theorem dX1_key_21 : decode cX1_key 21 = .ok (.ldc 112, 2) := by decide +kernel
theorem dX1_key_23 : decode cX1_key 23 = .ok (.invokespecial 41, 3) := by decide +kernel
theorem dX1_key_26 : decode cX1_key 26 = .ok (.athrow, 1) := by decide +kernel
theorem dX1_key_27 : decode cX1_key 27 = .ok (.aload_n 0, 1) := by decide +kernel
theorem dX1_key_28 : decode cX1_key 28 = .ok (.iload_n 2, 1) := by decide +kernel
theorem dX1_key_29 : decode cX1_key 29 = .ok (.putfield 26, 3) := by decide +kernel
theorem dX1_key_32 : decode cX1_key 32 = .ok (.aload_n 0, 1) := by decide +kernel
theorem dX1_key_33 : decode cX1_key 33 = .ok (.getfield 9, 3) := by decide +kernel
theorem dX1_key_36 : decode cX1_key 36 = .ok (.iload_n 1, 1) := by decide +kernel
theorem dX1_key_37 : decode cX1_key 37 = .ok (.aload_n 3, 1) := by decide +kernel
theorem dX1_key_38 : decode cX1_key 38 = .ok (.iload_n 2, 1) := by decide +kernel
theorem dX1_key_39 : decode cX1_key 39 = .ok (.aload_n 3, 1) := by decide +kernel
theorem dX1_key_40 : decode cX1_key 40 = .ok (.getfield 80, 3) := by decide +kernel
theorem dX1_key_43 : decode cX1_key 43 = .ok (.invokevirtual 86, 3) := by decide +kernel
theorem dX1_key_46 : decode cX1_key 46 = .ok (.iastore, 1) := by decide +kernel
theorem dX1_key_47 : decode cX1_key 47 = .ok (.return_, 1) := by decide +kernel
theorem dX1_sign_0 : decode cX1_sign 0 = .ok (.aload_n 0, 1) := by decide +kernel
theorem dX1_sign_1 : decode cX1_sign 1 = .ok (.invokevirtual 62, 3) := by decide +kernel
theorem dX1_sign_4 : decode cX1_sign 4 = .ok (.astore_n 3, 1) := by decide +kernel
theorem dX1_sign_5 : decode cX1_sign 5 = .ok (.aload_n 0, 1) := by decide +kernel
theorem dX1_sign_6 : decode cX1_sign 6 = .ok (.getfield 26, 3) := by decide +kernel
theorem dX1_sign_9 : decode cX1_sign 9 = .ok (.ifCond .ne 13, 3) := by decide +kernel
theorem dX1_sign_12 : decode cX1_sign 12 = .ok (.new 114, 3) := by decide +kernel
theorem dX1_sign_15 : decode cX1_sign 15 = .ok (.dup, 1) := by decide +kernel
theorem dX1_sign_16 : decode cX1_sign 16 = .ok (.ldc 116, 2) := by decide +kernel
theorem dX1_sign_18 : decode cX1_sign 18 = .ok (.invokespecial 118, 3) := by decide +kernel
theorem dX1_sign_21 : decode cX1_sign 21 = .ok (.athrow, 1) := by decide +kernel
theorem dX1_sign_22 : decode cX1_sign 22 = .ok (.aload_n 3, 1) := by decide +kernel
theorem dX1_sign_23 : decode cX1_sign 23 = .ok (.lload_n 1, 1) := by decide +kernel
theorem dX1_sign_24 : decode cX1_sign 24 = .ok (.invokevirtual 119, 3) := by decide +kernel
theorem dX1_sign_27 : decode cX1_sign 27 = .ok (.istore 4, 2) := by decide +kernel
theorem dX1_sign_29 : decode cX1_sign 29 = .ok (.aload_n 3, 1) := by decide +kernel
theorem dX1_sign_30 : decode cX1_sign 30 = .ok (.invokevirtual 123, 3) := by decide +kernel
theorem dX1_sign_33 : decode cX1_sign 33 = .ok (.istore 5, 2) := by decide +kernel
theorem dX1_sign_35 : decode cX1_sign 35 = .ok (.iconst 0, 1) := by decide +kernel
theorem dX1_sign_36 : decode cX1_sign 36 = .ok (.iconst 1, 1) := by decide +kernel
theorem dX1_sign_37 : decode cX1_sign 37 = .ok (.aload_n 0, 1) := by decide +kernel
theorem dX1_sign_38 : decode cX1_sign 38 = .ok (.getfield 26, 3) := by decide +kernel
theorem dX1_sign_41 : decode cX1_sign 41 = .ok (.iadd, 1) := by decide +kernel
theorem dX1_sign_42 : decode cX1_sign 42 = .ok (.invokestatic 127, 3) := by decide +kernel
theorem dX1_sign_45 : decode cX1_sign 45 = .ok (.istore 6, 2) := by decide +kernel
theorem dX1_sign_47 : decode cX1_sign 47 = .ok (.iload 6, 2) := by decide +kernel
theorem dX1_sign_49 : decode cX1_sign 49 = .ok (.iconst 1, 1) := by decide +kernel
theorem dX1_sign_50 : decode cX1_sign 50 = .ok (.invokestatic 127, 3) := by decide +kernel
theorem dX1_sign_53 : decode cX1_sign 53 = .ok (.istore 7, 2) := by decide +kernel
theorem dX1_sign_55 : decode cX1_sign 55 = .ok (.iload 6, 2) := by decide +kernel
theorem dX1_sign_57 : decode cX1_sign 57 = .ok (.iload 7, 2) := by decide +kernel
theorem dX1_sign_59 : decode cX1_sign 59 = .ok (.iload 4, 2) := by decide +kernel
theorem dX1_sign_61 : decode cX1_sign 61 = .ok (.ixor, 1) := by decide +kernel
theorem dX1_sign_62 : decode cX1_sign 62 = .ok (.invokestatic 127, 3) := by decide +kernel
theorem dX1_sign_65 : decode cX1_sign 65 = .ok (.istore 6, 2) := by decide +kernel
theorem dX1_sign_67 : decode cX1_sign 67 = .ok (.iload 6, 2) := by decide +kernel
theorem dX1_sign_69 : decode cX1_sign 69 = .ok (.iload 7, 2) := by decide +kernel
theorem dX1_sign_71 : decode cX1_sign 71 = .ok (.invokestatic 127, 3) := by decide +kernel
theorem dX1_sign_74 : decode cX1_sign 74 = .ok (.istore 7, 2) := by decide +kernel
theorem dX1_sign_76 : decode cX1_sign 76 = .ok (.iconst 1, 1) := by decide +kernel
theorem dX1_sign_77 : decode cX1_sign 77 = .ok (.istore 8, 2) := by decide +kernel
theorem dX1_sign_79 : decode cX1_sign 79 = .ok (.iload 8, 2) := by decide +kernel
theorem dX1_sign_81 : decode cX1_sign 81 = .ok (.bipush 24, 2) := by decide +kernel
theorem dX1_sign_83 : decode cX1_sign 83 = .ok (.if_icmp .gt 71, 3) := by decide +kernel
theorem dX1_sign_86 : decode cX1_sign 86 = .ok (.iload 6, 2) := by decide +kernel
theorem dX1_sign_88 : decode cX1_sign 88 = .ok (.iload 7, 2) := by decide +kernel
theorem dX1_sign_90 : decode cX1_sign 90 = .ok (.invokestatic 127, 3) := by decide +kernel
theorem dX1_sign_93 : decode cX1_sign 93 = .ok (.istore 7, 2) := by decide +kernel
theorem dX1_sign_95 : decode cX1_sign 95 = .ok (.aload_n 3, 1) := by decide +kernel
theorem dX1_sign_96 : decode cX1_sign 96 = .ok (.iload 7, 2) := by decide +kernel
theorem dX1_sign_98 : decode cX1_sign 98 = .ok (.iload 5, 2) := by decide +kernel
theorem dX1_sign_100 : decode cX1_sign 100 = .ok (.iand, 1) := by decide +kernel
theorem dX1_sign_101 : decode cX1_sign 101 = .ok (.iload 4, 2) := by decide +kernel
theorem dX1_sign_103 : decode cX1_sign 103 = .ok (.aload_n 0, 1) := by decide +kernel
theorem dX1_sign_104 : decode cX1_sign 104 = .ok (.getfield 26, 3) := by decide +kernel
theorem dX1_sign_107 : decode cX1_sign 107 = .ok (.invokevirtual 130, 3) := by decide +kernel
theorem dX1_sign_110 : decode cX1_sign 110 = .ok (.lstore 9, 2) := by decide +kernel
theorem dX1_sign_112 : decode cX1_sign 112 = .ok (.lload 9, 2) := by decide +kernel
theorem dX1_sign_114 : decode cX1_sign 114 = .ok (.lconst 0, 1) := by decide +kernel
theorem dX1_sign_115 : decode cX1_sign 115 = .ok (.lcmp, 1) := by decide +kernel
theorem dX1_sign_116 : decode cX1_sign 116 = .ok (.ifCond .eq 12, 3) := by decide +kernel
theorem dX1_sign_119 : decode cX1_sign 119 = .ok (.aload_n 0, 1) := by decide +kernel
theorem dX1_sign_120 : decode cX1_sign 120 = .ok (.iload 8, 2) := by decide +kernel
theorem dX1_sign_122 : decode cX1_sign 122 = .ok (.putfield 30, 3) := by decide +kernel
theorem dX1_sign_125 : decode cX1_sign 125 = .ok (.lload 9, 2) := by decide +kernel
theorem dX1_sign_127 : decode cX1_sign 127 = .ok (.lreturn, 1) := by decide +kernel
theorem dX1_sign_128 : decode cX1_sign 128 = .ok (.iload 6, 2) := by decide +kernel
theorem dX1_sign_130 : decode cX1_sign 130 = .ok (.iload 7, 2) := by decide +kernel
theorem dX1_sign_132 : decode cX1_sign 132 = .ok (.iconst 1, 1) := by decide +kernel
theorem dX1_sign_133 : decode cX1_sign 133 = .ok (.iadd, 1) := by decide +kernel
theorem dX1_sign_134 : decode cX1_sign 134 = .ok (.invokestatic 127, 3) := by decide +kernel
theorem dX1_sign_137 : decode cX1_sign 137 = .ok (.istore 6, 2) := by decide +kernel
theorem dX1_sign_139 : decode cX1_sign 139 = .ok (.iload 6, 2) := by decide +kernel
theorem dX1_sign_141 : decode cX1_sign 141 = .ok (.iload 7, 2) := by decide +kernel
theorem dX1_sign_143 : decode cX1_sign 143 = .ok (.invokestatic 127, 3) := by decide +kernel
theorem dX1_sign_146 : decode cX1_sign 146 = .ok (.istore 7, 2) := by decide +kernel
theorem dX1_sign_148 : decode cX1_sign 148 = .ok (.iinc 8 1, 3) := by decide +kernel
theorem dX1_sign_151 : decode cX1_sign 151 = .ok (.goto (-72), 3) := by decide +kernel
theorem dX1_sign_154 : decode cX1_sign 154 = .ok (.new 134, 3) := by decide +kernel
theorem dX1_sign_157 : decode cX1_sign 157 = .ok (.dup, 1) := by decide +kernel
theorem dX1_sign_158 : decode cX1_sign 158 = .ok (.ldc 136, 2) := by decide +kernel
theorem dX1_sign_160 : decode cX1_sign 160 = .ok (.invokespecial 138, 3) := by decide +kernel
theorem dX1_sign_163 : decode cX1_sign 163 = .ok (.athrow, 1) := by decide +kernel
theorem dX1_draws_0 : decode cX1_draws 0 = .ok (.aload_n 0, 1) := by decide +kernel
theorem dX1_draws_1 : decode cX1_draws 1 = .ok (.getfield 30, 3) := by decide +kernel
theorem dX1_draws_4 : decode cX1_draws 4 = .ok (.ireturn, 1) := by decide +kernel
theorem dX1_verify_0 : decode cX1_verify 0 = .ok (.aload_n 0, 1) := by decide +kernel
theorem dX1_verify_1 : decode cX1_verify 1 = .ok (.invokevirtual 62, 3) := by decide +kernel
theorem dX1_verify_4 : decode cX1_verify 4 = .ok (.astore 6, 2) := by decide +kernel
theorem dX1_verify_6 : decode cX1_verify 6 = .ok (.iload_n 1, 1) := by decide +kernel
theorem dX1_verify_7 : decode cX1_verify 7 = .ok (.invokestatic 66, 3) := by decide +kernel
theorem dX1_verify_10 : decode cX1_verify 10 = .ok (.aload 6, 2) := by decide +kernel
theorem dX1_verify_12 : decode cX1_verify 12 = .ok (.aload_n 0, 1) := by decide +kernel
theorem dX1_verify_13 : decode cX1_verify 13 = .ok (.getfield 9, 3) := by decide +kernel
theorem dX1_verify_16 : decode cX1_verify 16 = .ok (.iload_n 1, 1) := by decide +kernel
theorem dX1_verify_17 : decode cX1_verify 17 = .ok (.iaload, 1) := by decide +kernel
theorem dX1_verify_18 : decode cX1_verify 18 = .ok (.lload_n 2, 1) := by decide +kernel
theorem dX1_verify_19 : decode cX1_verify 19 = .ok (.iload 4, 2) := by decide +kernel
theorem dX1_verify_21 : decode cX1_verify 21 = .ok (.iload 5, 2) := by decide +kernel
theorem dX1_verify_23 : decode cX1_verify 23 = .ok (.invokevirtual 139, 3) := by decide +kernel
theorem dX1_verify_26 : decode cX1_verify 26 = .ok (.ireturn, 1) := by decide +kernel
theorem dX1_accepts_0 : decode cX1_accepts 0 = .ok (.aload_n 0, 1) := by decide +kernel
theorem dX1_accepts_1 : decode cX1_accepts 1 = .ok (.invokevirtual 62, 3) := by decide +kernel
theorem dX1_accepts_4 : decode cX1_accepts 4 = .ok (.astore 8, 2) := by decide +kernel
theorem dX1_accepts_6 : decode cX1_accepts 6 = .ok (.aload 8, 2) := by decide +kernel
theorem dX1_accepts_8 : decode cX1_accepts 8 = .ok (.iload_n 1, 1) := by decide +kernel
theorem dX1_accepts_9 : decode cX1_accepts 9 = .ok (.lload_n 2, 1) := by decide +kernel
theorem dX1_accepts_10 : decode cX1_accepts 10 = .ok (.invokevirtual 103, 3) := by decide +kernel
theorem dX1_accepts_13 : decode cX1_accepts 13 = .ok (.istore 9, 2) := by decide +kernel
theorem dX1_accepts_15 : decode cX1_accepts 15 = .ok (.iload 9, 2) := by decide +kernel
theorem dX1_accepts_17 : decode cX1_accepts 17 = .ok (.bipush (-2), 2) := by decide +kernel
theorem dX1_accepts_19 : decode cX1_accepts 19 = .ok (.if_icmp .eq 23, 3) := by decide +kernel
theorem dX1_accepts_22 : decode cX1_accepts 22 = .ok (.aload 8, 2) := by decide +kernel
theorem dX1_accepts_24 : decode cX1_accepts 24 = .ok (.iload 9, 2) := by decide +kernel
theorem dX1_accepts_26 : decode cX1_accepts 26 = .ok (.lload 4, 2) := by decide +kernel
theorem dX1_accepts_28 : decode cX1_accepts 28 = .ok (.iload 6, 2) := by decide +kernel
theorem dX1_accepts_30 : decode cX1_accepts 30 = .ok (.iload 7, 2) := by decide +kernel
theorem dX1_accepts_32 : decode cX1_accepts 32 = .ok (.invokevirtual 139, 3) := by decide +kernel
theorem dX1_accepts_35 : decode cX1_accepts 35 = .ok (.ifCond .eq 7, 3) := by decide +kernel
theorem dX1_accepts_38 : decode cX1_accepts 38 = .ok (.iconst 1, 1) := by decide +kernel
theorem dX1_accepts_39 : decode cX1_accepts 39 = .ok (.goto 4, 3) := by decide +kernel
theorem dX1_accepts_42 : decode cX1_accepts 42 = .ok (.iconst 0, 1) := by decide +kernel
theorem dX1_accepts_43 : decode cX1_accepts 43 = .ok (.ireturn, 1) := by decide +kernel
theorem dX1_takenCurve_0 : decode cX1_takenCurve 0 = .ok (.aload_n 0, 1) := by decide +kernel
theorem dX1_takenCurve_1 : decode cX1_takenCurve 1 = .ok (.getfield 22, 3) := by decide +kernel
theorem dX1_takenCurve_4 : decode cX1_takenCurve 4 = .ok (.ifnonnull 13, 3) := by decide +kernel
theorem dX1_takenCurve_7 : decode cX1_takenCurve 7 = .ok (.new 114, 3) := by decide +kernel
theorem dX1_takenCurve_10 : decode cX1_takenCurve 10 = .ok (.dup, 1) := by decide +kernel
theorem dX1_takenCurve_11 : decode cX1_takenCurve 11 = .ok (.ldc 143, 2) := by decide +kernel
theorem dX1_takenCurve_13 : decode cX1_takenCurve 13 = .ok (.invokespecial 118, 3) := by decide +kernel
theorem dX1_takenCurve_16 : decode cX1_takenCurve 16 = .ok (.athrow, 1) := by decide +kernel
theorem dX1_takenCurve_17 : decode cX1_takenCurve 17 = .ok (.aload_n 0, 1) := by decide +kernel
theorem dX1_takenCurve_18 : decode cX1_takenCurve 18 = .ok (.getfield 22, 3) := by decide +kernel
theorem dX1_takenCurve_21 : decode cX1_takenCurve 21 = .ok (.areturn, 1) := by decide +kernel
theorem dX1_checkRegister_0 : decode cX1_checkRegister 0 = .ok (.iload_n 0, 1) := by decide +kernel
theorem dX1_checkRegister_1 : decode cX1_checkRegister 1 = .ok (.ifCond .lt 8, 3) := by decide +kernel
theorem dX1_checkRegister_4 : decode cX1_checkRegister 4 = .ok (.iload_n 0, 1) := by decide +kernel
theorem dX1_checkRegister_5 : decode cX1_checkRegister 5 = .ok (.iconst 4, 1) := by decide +kernel
theorem dX1_checkRegister_6 : decode cX1_checkRegister 6 = .ok (.if_icmp .lt 13, 3) := by decide +kernel
theorem dX1_checkRegister_9 : decode cX1_checkRegister 9 = .ok (.new 145, 3) := by decide +kernel
theorem dX1_checkRegister_12 : decode cX1_checkRegister 12 = .ok (.dup, 1) := by decide +kernel
theorem dX1_checkRegister_13 : decode cX1_checkRegister 13 = .ok (.ldc 147, 2) := by decide +kernel
theorem dX1_checkRegister_15 : decode cX1_checkRegister 15 = .ok (.invokespecial 149, 3) := by decide +kernel
theorem dX1_checkRegister_18 : decode cX1_checkRegister 18 = .ok (.athrow, 1) := by decide +kernel
theorem dX1_checkRegister_19 : decode cX1_checkRegister 19 = .ok (.return_, 1) := by decide +kernel
theorem dX1_isCurve_0 : decode cX1_isCurve 0 = .ok (.iload_n 0, 1) := by decide +kernel
theorem dX1_isCurve_1 : decode cX1_isCurve 1 = .ok (.iconst 5, 1) := by decide +kernel
theorem dX1_isCurve_2 : decode cX1_isCurve 2 = .ok (.if_icmp .lt 17, 3) := by decide +kernel
theorem dX1_isCurve_5 : decode cX1_isCurve 5 = .ok (.iload_n 0, 1) := by decide +kernel
theorem dX1_isCurve_6 : decode cX1_isCurve 6 = .ok (.sipush 1021, 3) := by decide +kernel
theorem dX1_isCurve_9 : decode cX1_isCurve 9 = .ok (.if_icmp .gt 10, 3) := by decide +kernel
theorem dX1_isCurve_12 : decode cX1_isCurve 12 = .ok (.iload_n 0, 1) := by decide +kernel
theorem dX1_isCurve_13 : decode cX1_isCurve 13 = .ok (.invokestatic 48, 3) := by decide +kernel
theorem dX1_isCurve_16 : decode cX1_isCurve 16 = .ok (.ifCond .ne 5, 3) := by decide +kernel
theorem dX1_isCurve_19 : decode cX1_isCurve 19 = .ok (.iconst 0, 1) := by decide +kernel
theorem dX1_isCurve_20 : decode cX1_isCurve 20 = .ok (.ireturn, 1) := by decide +kernel
theorem dX1_isCurve_21 : decode cX1_isCurve 21 = .ok (.iload_n 1, 1) := by decide +kernel
theorem dX1_isCurve_22 : decode cX1_isCurve 22 = .ok (.ifCond .lt 17, 3) := by decide +kernel
theorem dX1_isCurve_25 : decode cX1_isCurve 25 = .ok (.iload_n 1, 1) := by decide +kernel
theorem dX1_isCurve_26 : decode cX1_isCurve 26 = .ok (.iload_n 0, 1) := by decide +kernel
theorem dX1_isCurve_27 : decode cX1_isCurve 27 = .ok (.if_icmp .ge 12, 3) := by decide +kernel
theorem dX1_isCurve_30 : decode cX1_isCurve 30 = .ok (.iload_n 2, 1) := by decide +kernel
theorem dX1_isCurve_31 : decode cX1_isCurve 31 = .ok (.ifCond .lt 8, 3) := by decide +kernel
theorem dX1_isCurve_34 : decode cX1_isCurve 34 = .ok (.iload_n 2, 1) := by decide +kernel
theorem dX1_isCurve_35 : decode cX1_isCurve 35 = .ok (.iload_n 0, 1) := by decide +kernel
theorem dX1_isCurve_36 : decode cX1_isCurve 36 = .ok (.if_icmp .lt 5, 3) := by decide +kernel
theorem dX1_isCurve_39 : decode cX1_isCurve 39 = .ok (.iconst 0, 1) := by decide +kernel
theorem dX1_isCurve_40 : decode cX1_isCurve 40 = .ok (.ireturn, 1) := by decide +kernel
theorem dX1_isCurve_41 : decode cX1_isCurve 41 = .ok (.iconst 4, 1) := by decide +kernel
theorem dX1_isCurve_42 : decode cX1_isCurve 42 = .ok (.iload_n 1, 1) := by decide +kernel
theorem dX1_isCurve_43 : decode cX1_isCurve 43 = .ok (.iload_n 1, 1) := by decide +kernel
theorem dX1_isCurve_44 : decode cX1_isCurve 44 = .ok (.imul, 1) := by decide +kernel
theorem dX1_isCurve_45 : decode cX1_isCurve 45 = .ok (.iload_n 0, 1) := by decide +kernel
theorem dX1_isCurve_46 : decode cX1_isCurve 46 = .ok (.irem, 1) := by decide +kernel
theorem dX1_isCurve_47 : decode cX1_isCurve 47 = .ok (.iload_n 1, 1) := by decide +kernel
theorem dX1_isCurve_48 : decode cX1_isCurve 48 = .ok (.imul, 1) := by decide +kernel
theorem dX1_isCurve_49 : decode cX1_isCurve 49 = .ok (.iload_n 0, 1) := by decide +kernel
theorem dX1_isCurve_50 : decode cX1_isCurve 50 = .ok (.irem, 1) := by decide +kernel
theorem dX1_isCurve_51 : decode cX1_isCurve 51 = .ok (.imul, 1) := by decide +kernel
theorem dX1_isCurve_52 : decode cX1_isCurve 52 = .ok (.bipush 27, 2) := by decide +kernel
theorem dX1_isCurve_54 : decode cX1_isCurve 54 = .ok (.iload_n 2, 1) := by decide +kernel
theorem dX1_isCurve_55 : decode cX1_isCurve 55 = .ok (.iload_n 2, 1) := by decide +kernel
theorem dX1_isCurve_56 : decode cX1_isCurve 56 = .ok (.imul, 1) := by decide +kernel
theorem dX1_isCurve_57 : decode cX1_isCurve 57 = .ok (.iload_n 0, 1) := by decide +kernel
theorem dX1_isCurve_58 : decode cX1_isCurve 58 = .ok (.irem, 1) := by decide +kernel
theorem dX1_isCurve_59 : decode cX1_isCurve 59 = .ok (.imul, 1) := by decide +kernel
theorem dX1_isCurve_60 : decode cX1_isCurve 60 = .ok (.iadd, 1) := by decide +kernel
theorem dX1_isCurve_61 : decode cX1_isCurve 61 = .ok (.iload_n 0, 1) := by decide +kernel
theorem dX1_isCurve_62 : decode cX1_isCurve 62 = .ok (.irem, 1) := by decide +kernel
theorem dX1_isCurve_63 : decode cX1_isCurve 63 = .ok (.ifCond .eq 7, 3) := by decide +kernel
theorem dX1_isCurve_66 : decode cX1_isCurve 66 = .ok (.iconst 1, 1) := by decide +kernel
theorem dX1_isCurve_67 : decode cX1_isCurve 67 = .ok (.goto 4, 3) := by decide +kernel
theorem dX1_isCurve_70 : decode cX1_isCurve 70 = .ok (.iconst 0, 1) := by decide +kernel
theorem dX1_isCurve_71 : decode cX1_isCurve 71 = .ok (.ireturn, 1) := by decide +kernel
theorem dX1_isPrime_0 : decode cX1_isPrime 0 = .ok (.iconst 2, 1) := by decide +kernel
theorem dX1_isPrime_1 : decode cX1_isPrime 1 = .ok (.istore_n 1, 1) := by decide +kernel
theorem dX1_isPrime_2 : decode cX1_isPrime 2 = .ok (.iload_n 1, 1) := by decide +kernel
theorem dX1_isPrime_3 : decode cX1_isPrime 3 = .ok (.iload_n 1, 1) := by decide +kernel
theorem dX1_isPrime_4 : decode cX1_isPrime 4 = .ok (.imul, 1) := by decide +kernel
theorem dX1_isPrime_5 : decode cX1_isPrime 5 = .ok (.iload_n 0, 1) := by decide +kernel
theorem dX1_isPrime_6 : decode cX1_isPrime 6 = .ok (.if_icmp .gt 17, 3) := by decide +kernel
theorem dX1_isPrime_9 : decode cX1_isPrime 9 = .ok (.iload_n 0, 1) := by decide +kernel
theorem dX1_isPrime_10 : decode cX1_isPrime 10 = .ok (.iload_n 1, 1) := by decide +kernel
theorem dX1_isPrime_11 : decode cX1_isPrime 11 = .ok (.irem, 1) := by decide +kernel
theorem dX1_isPrime_12 : decode cX1_isPrime 12 = .ok (.ifCond .ne 5, 3) := by decide +kernel
theorem dX1_isPrime_15 : decode cX1_isPrime 15 = .ok (.iconst 0, 1) := by decide +kernel
theorem dX1_isPrime_16 : decode cX1_isPrime 16 = .ok (.ireturn, 1) := by decide +kernel
theorem dX1_isPrime_17 : decode cX1_isPrime 17 = .ok (.iinc 1 1, 3) := by decide +kernel
theorem dX1_isPrime_20 : decode cX1_isPrime 20 = .ok (.goto (-18), 3) := by decide +kernel
theorem dX1_isPrime_23 : decode cX1_isPrime 23 = .ok (.iload_n 0, 1) := by decide +kernel
theorem dX1_isPrime_24 : decode cX1_isPrime 24 = .ok (.iconst 2, 1) := by decide +kernel
theorem dX1_isPrime_25 : decode cX1_isPrime 25 = .ok (.if_icmp .lt 7, 3) := by decide +kernel
theorem dX1_isPrime_28 : decode cX1_isPrime 28 = .ok (.iconst 1, 1) := by decide +kernel
theorem dX1_isPrime_29 : decode cX1_isPrime 29 = .ok (.goto 4, 3) := by decide +kernel
theorem dX1_isPrime_32 : decode cX1_isPrime 32 = .ok (.iconst 0, 1) := by decide +kernel
theorem dX1_isPrime_33 : decode cX1_isPrime 33 = .ok (.ireturn, 1) := by decide +kernel
theorem dX1_countPoints_0 : decode cX1_countPoints 0 = .ok (.aload_n 0, 1) := by decide +kernel
theorem dX1_countPoints_1 : decode cX1_countPoints 1 = .ok (.getfield 13, 3) := by decide +kernel
theorem dX1_countPoints_4 : decode cX1_countPoints 4 = .ok (.iconst 0, 1) := by decide +kernel
theorem dX1_countPoints_5 : decode cX1_countPoints 5 = .ok (.invokestatic 16, 3) := by decide +kernel
theorem dX1_countPoints_8 : decode cX1_countPoints 8 = .ok (.iconst 0, 1) := by decide +kernel
theorem dX1_countPoints_9 : decode cX1_countPoints 9 = .ok (.istore 4, 2) := by decide +kernel
theorem dX1_countPoints_11 : decode cX1_countPoints 11 = .ok (.iload 4, 2) := by decide +kernel
theorem dX1_countPoints_13 : decode cX1_countPoints 13 = .ok (.iload_n 1, 1) := by decide +kernel
theorem dX1_countPoints_14 : decode cX1_countPoints 14 = .ok (.if_icmp .ge 25, 3) := by decide +kernel
theorem dX1_countPoints_17 : decode cX1_countPoints 17 = .ok (.aload_n 0, 1) := by decide +kernel
theorem dX1_countPoints_18 : decode cX1_countPoints 18 = .ok (.getfield 13, 3) := by decide +kernel
theorem dX1_countPoints_21 : decode cX1_countPoints 21 = .ok (.iload 4, 2) := by decide +kernel
theorem dX1_countPoints_23 : decode cX1_countPoints 23 = .ok (.iload 4, 2) := by decide +kernel
theorem dX1_countPoints_25 : decode cX1_countPoints 25 = .ok (.imul, 1) := by decide +kernel
theorem dX1_countPoints_26 : decode cX1_countPoints 26 = .ok (.iload_n 1, 1) := by decide +kernel
theorem dX1_countPoints_27 : decode cX1_countPoints 27 = .ok (.irem, 1) := by decide +kernel
theorem dX1_countPoints_28 : decode cX1_countPoints 28 = .ok (.dup2, 1) := by decide +kernel
theorem dX1_countPoints_29 : decode cX1_countPoints 29 = .ok (.iaload, 1) := by decide +kernel
theorem dX1_countPoints_30 : decode cX1_countPoints 30 = .ok (.iconst 1, 1) := by decide +kernel
theorem dX1_countPoints_31 : decode cX1_countPoints 31 = .ok (.iadd, 1) := by decide +kernel
theorem dX1_countPoints_32 : decode cX1_countPoints 32 = .ok (.iastore, 1) := by decide +kernel
theorem dX1_countPoints_33 : decode cX1_countPoints 33 = .ok (.iinc 4 1, 3) := by decide +kernel
theorem dX1_countPoints_36 : decode cX1_countPoints 36 = .ok (.goto (-25), 3) := by decide +kernel
theorem dX1_countPoints_39 : decode cX1_countPoints 39 = .ok (.iconst 1, 1) := by decide +kernel
theorem dX1_countPoints_40 : decode cX1_countPoints 40 = .ok (.istore 4, 2) := by decide +kernel
theorem dX1_countPoints_42 : decode cX1_countPoints 42 = .ok (.iconst 0, 1) := by decide +kernel
theorem dX1_countPoints_43 : decode cX1_countPoints 43 = .ok (.istore 5, 2) := by decide +kernel
theorem dX1_countPoints_45 : decode cX1_countPoints 45 = .ok (.iload 5, 2) := by decide +kernel
theorem dX1_countPoints_47 : decode cX1_countPoints 47 = .ok (.iload_n 1, 1) := by decide +kernel
theorem dX1_countPoints_48 : decode cX1_countPoints 48 = .ok (.if_icmp .ge 27, 3) := by decide +kernel
theorem dX1_countPoints_51 : decode cX1_countPoints 51 = .ok (.iload 4, 2) := by decide +kernel
theorem dX1_countPoints_53 : decode cX1_countPoints 53 = .ok (.aload_n 0, 1) := by decide +kernel
theorem dX1_countPoints_54 : decode cX1_countPoints 54 = .ok (.getfield 13, 3) := by decide +kernel
theorem dX1_countPoints_57 : decode cX1_countPoints 57 = .ok (.iload_n 1, 1) := by decide +kernel
theorem dX1_countPoints_58 : decode cX1_countPoints 58 = .ok (.iload_n 2, 1) := by decide +kernel
theorem dX1_countPoints_59 : decode cX1_countPoints 59 = .ok (.iload_n 3, 1) := by decide +kernel
theorem dX1_countPoints_60 : decode cX1_countPoints 60 = .ok (.iload 5, 2) := by decide +kernel
theorem dX1_countPoints_62 : decode cX1_countPoints 62 = .ok (.invokestatic 150, 3) := by decide +kernel
theorem dX1_countPoints_65 : decode cX1_countPoints 65 = .ok (.iaload, 1) := by decide +kernel
theorem dX1_countPoints_66 : decode cX1_countPoints 66 = .ok (.iadd, 1) := by decide +kernel
theorem dX1_countPoints_67 : decode cX1_countPoints 67 = .ok (.istore 4, 2) := by decide +kernel
theorem dX1_countPoints_69 : decode cX1_countPoints 69 = .ok (.iinc 5 1, 3) := by decide +kernel
theorem dX1_countPoints_72 : decode cX1_countPoints 72 = .ok (.goto (-27), 3) := by decide +kernel
theorem dX1_countPoints_75 : decode cX1_countPoints 75 = .ok (.iload 4, 2) := by decide +kernel
theorem dX1_countPoints_77 : decode cX1_countPoints 77 = .ok (.ireturn, 1) := by decide +kernel
theorem dX1_cubic_0 : decode cX1_cubic 0 = .ok (.iload_n 3, 1) := by decide +kernel
theorem dX1_cubic_1 : decode cX1_cubic 1 = .ok (.iload_n 3, 1) := by decide +kernel
theorem dX1_cubic_2 : decode cX1_cubic 2 = .ok (.imul, 1) := by decide +kernel
theorem dX1_cubic_3 : decode cX1_cubic 3 = .ok (.iload_n 1, 1) := by decide +kernel
theorem dX1_cubic_4 : decode cX1_cubic 4 = .ok (.iadd, 1) := by decide +kernel
theorem dX1_cubic_5 : decode cX1_cubic 5 = .ok (.iload_n 0, 1) := by decide +kernel
theorem dX1_cubic_6 : decode cX1_cubic 6 = .ok (.irem, 1) := by decide +kernel
theorem dX1_cubic_7 : decode cX1_cubic 7 = .ok (.iload_n 3, 1) := by decide +kernel
theorem dX1_cubic_8 : decode cX1_cubic 8 = .ok (.imul, 1) := by decide +kernel
theorem dX1_cubic_9 : decode cX1_cubic 9 = .ok (.iload_n 2, 1) := by decide +kernel
theorem dX1_cubic_10 : decode cX1_cubic 10 = .ok (.iadd, 1) := by decide +kernel
theorem dX1_cubic_11 : decode cX1_cubic 11 = .ok (.iload_n 0, 1) := by decide +kernel
theorem dX1_cubic_12 : decode cX1_cubic 12 = .ok (.irem, 1) := by decide +kernel
theorem dX1_cubic_13 : decode cX1_cubic 13 = .ok (.ireturn, 1) := by decide +kernel
theorem dX1_pointAt_0 : decode cX1_pointAt 0 = .ok (.iload_n 0, 1) := by decide +kernel
theorem dX1_pointAt_1 : decode cX1_pointAt 1 = .ok (.ldc 154, 2) := by decide +kernel
theorem dX1_pointAt_3 : decode cX1_pointAt 3 = .ok (.imul, 1) := by decide +kernel
theorem dX1_pointAt_4 : decode cX1_pointAt 4 = .ok (.iload_n 1, 1) := by decide +kernel
theorem dX1_pointAt_5 : decode cX1_pointAt 5 = .ok (.iadd, 1) := by decide +kernel
theorem dX1_pointAt_6 : decode cX1_pointAt 6 = .ok (.ireturn, 1) := by decide +kernel
theorem dX1_xOf_0 : decode cX1_xOf 0 = .ok (.iload_n 0, 1) := by decide +kernel
theorem dX1_xOf_1 : decode cX1_xOf 1 = .ok (.bipush 16, 2) := by decide +kernel
theorem dX1_xOf_3 : decode cX1_xOf 3 = .ok (.ishr, 1) := by decide +kernel
theorem dX1_xOf_4 : decode cX1_xOf 4 = .ok (.ireturn, 1) := by decide +kernel
theorem dX1_yOf_0 : decode cX1_yOf 0 = .ok (.iload_n 0, 1) := by decide +kernel
theorem dX1_yOf_1 : decode cX1_yOf 1 = .ok (.ldc 155, 2) := by decide +kernel
theorem dX1_yOf_3 : decode cX1_yOf 3 = .ok (.iand, 1) := by decide +kernel
theorem dX1_yOf_4 : decode cX1_yOf 4 = .ok (.ireturn, 1) := by decide +kernel
theorem dX1_shortNumber_0 : decode cX1_shortNumber 0 = .ok (.iconst 2, 1) := by decide +kernel
theorem dX1_shortNumber_1 : decode cX1_shortNumber 1 = .ok (.iload_n 0, 1) := by decide +kernel
theorem dX1_shortNumber_2 : decode cX1_shortNumber 2 = .ok (.invokestatic 93, 3) := by decide +kernel
theorem dX1_shortNumber_5 : decode cX1_shortNumber 5 = .ok (.iconst 2, 1) := by decide +kernel
theorem dX1_shortNumber_6 : decode cX1_shortNumber 6 = .ok (.irem, 1) := by decide +kernel
theorem dX1_shortNumber_7 : decode cX1_shortNumber 7 = .ok (.iadd, 1) := by decide +kernel
theorem dX1_shortNumber_8 : decode cX1_shortNumber 8 = .ok (.i2l, 1) := by decide +kernel
theorem dX1_shortNumber_9 : decode cX1_shortNumber 9 = .ok (.ldc2_w 156, 3) := by decide +kernel
theorem dX1_shortNumber_12 : decode cX1_shortNumber 12 = .ok (.lmul, 1) := by decide +kernel
theorem dX1_shortNumber_13 : decode cX1_shortNumber 13 = .ok (.iload_n 0, 1) := by decide +kernel
theorem dX1_shortNumber_14 : decode cX1_shortNumber 14 = .ok (.invokestatic 89, 3) := by decide +kernel
theorem dX1_shortNumber_17 : decode cX1_shortNumber 17 = .ok (.i2l, 1) := by decide +kernel
theorem dX1_shortNumber_18 : decode cX1_shortNumber 18 = .ok (.ladd, 1) := by decide +kernel
theorem dX1_shortNumber_19 : decode cX1_shortNumber 19 = .ok (.lreturn, 1) := by decide +kernel
theorem dX1_plainNumber_0 : decode cX1_plainNumber 0 = .ok (.ldc2_w 158, 3) := by decide +kernel
theorem dX1_plainNumber_3 : decode cX1_plainNumber 3 = .ok (.iload_n 0, 1) := by decide +kernel
theorem dX1_plainNumber_4 : decode cX1_plainNumber 4 = .ok (.i2l, 1) := by decide +kernel
theorem dX1_plainNumber_5 : decode cX1_plainNumber 5 = .ok (.ladd, 1) := by decide +kernel
theorem dX1_plainNumber_6 : decode cX1_plainNumber 6 = .ok (.lreturn, 1) := by decide +kernel
theorem dX1_mix_0 : decode cX1_mix 0 = .ok (.iload_n 0, 1) := by decide +kernel
theorem dX1_mix_1 : decode cX1_mix 1 = .ok (.iload_n 1, 1) := by decide +kernel
theorem dX1_mix_2 : decode cX1_mix 2 = .ok (.ixor, 1) := by decide +kernel
theorem dX1_mix_3 : decode cX1_mix 3 = .ok (.ldc 160, 2) := by decide +kernel
theorem dX1_mix_5 : decode cX1_mix 5 = .ok (.imul, 1) := by decide +kernel
theorem dX1_mix_6 : decode cX1_mix 6 = .ok (.iload_n 0, 1) := by decide +kernel
theorem dX1_mix_7 : decode cX1_mix 7 = .ok (.iadd, 1) := by decide +kernel
theorem dX1_mix_8 : decode cX1_mix 8 = .ok (.istore_n 2, 1) := by decide +kernel
theorem dX1_mix_9 : decode cX1_mix 9 = .ok (.iload_n 2, 1) := by decide +kernel
theorem dX1_mix_10 : decode cX1_mix 10 = .ok (.iload_n 2, 1) := by decide +kernel
theorem dX1_mix_11 : decode cX1_mix 11 = .ok (.bipush 7, 2) := by decide +kernel
theorem dX1_mix_13 : decode cX1_mix 13 = .ok (.ishl, 1) := by decide +kernel
theorem dX1_mix_14 : decode cX1_mix 14 = .ok (.iload_n 2, 1) := by decide +kernel
theorem dX1_mix_15 : decode cX1_mix 15 = .ok (.bipush 25, 2) := by decide +kernel
theorem dX1_mix_17 : decode cX1_mix 17 = .ok (.iushr, 1) := by decide +kernel
theorem dX1_mix_18 : decode cX1_mix 18 = .ok (.ior, 1) := by decide +kernel
theorem dX1_mix_19 : decode cX1_mix 19 = .ok (.iadd, 1) := by decide +kernel
theorem dX1_mix_20 : decode cX1_mix 20 = .ok (.ireturn, 1) := by decide +kernel
theorem dX1_quotient_0 : decode cX1_quotient 0 = .ok (.iload_n 0, 1) := by decide +kernel
theorem dX1_quotient_1 : decode cX1_quotient 1 = .ok (.iload_n 2, 1) := by decide +kernel
theorem dX1_quotient_2 : decode cX1_quotient 2 = .ok (.invokestatic 161, 3) := by decide +kernel
theorem dX1_quotient_5 : decode cX1_quotient 5 = .ok (.iload_n 1, 1) := by decide +kernel
theorem dX1_quotient_6 : decode cX1_quotient 6 = .ok (.iload_n 2, 1) := by decide +kernel
theorem dX1_quotient_7 : decode cX1_quotient 7 = .ok (.invokestatic 161, 3) := by decide +kernel
theorem dX1_quotient_10 : decode cX1_quotient 10 = .ok (.iload_n 2, 1) := by decide +kernel
theorem dX1_quotient_11 : decode cX1_quotient 11 = .ok (.invokestatic 166, 3) := by decide +kernel
theorem dX1_quotient_14 : decode cX1_quotient 14 = .ok (.imul, 1) := by decide +kernel
theorem dX1_quotient_15 : decode cX1_quotient 15 = .ok (.iload_n 2, 1) := by decide +kernel
theorem dX1_quotient_16 : decode cX1_quotient 16 = .ok (.irem, 1) := by decide +kernel
theorem dX1_quotient_17 : decode cX1_quotient 17 = .ok (.ireturn, 1) := by decide +kernel
theorem dX1_inverse_0 : decode cX1_inverse 0 = .ok (.iconst 1, 1) := by decide +kernel
theorem dX1_inverse_1 : decode cX1_inverse 1 = .ok (.istore_n 2, 1) := by decide +kernel
theorem dX1_inverse_2 : decode cX1_inverse 2 = .ok (.iload_n 0, 1) := by decide +kernel
theorem dX1_inverse_3 : decode cX1_inverse 3 = .ok (.istore_n 3, 1) := by decide +kernel
theorem dX1_inverse_4 : decode cX1_inverse 4 = .ok (.iload_n 1, 1) := by decide +kernel
theorem dX1_inverse_5 : decode cX1_inverse 5 = .ok (.iconst 2, 1) := by decide +kernel
theorem dX1_inverse_6 : decode cX1_inverse 6 = .ok (.isub, 1) := by decide +kernel
theorem dX1_inverse_7 : decode cX1_inverse 7 = .ok (.istore 4, 2) := by decide +kernel
theorem dX1_inverse_9 : decode cX1_inverse 9 = .ok (.iload 4, 2) := by decide +kernel
theorem dX1_inverse_11 : decode cX1_inverse 11 = .ok (.ifCond .le 32, 3) := by decide +kernel
theorem dX1_inverse_14 : decode cX1_inverse 14 = .ok (.iload 4, 2) := by decide +kernel
theorem dX1_inverse_16 : decode cX1_inverse 16 = .ok (.iconst 1, 1) := by decide +kernel
theorem dX1_inverse_17 : decode cX1_inverse 17 = .ok (.iand, 1) := by decide +kernel
theorem dX1_inverse_18 : decode cX1_inverse 18 = .ok (.iconst 1, 1) := by decide +kernel
theorem dX1_inverse_19 : decode cX1_inverse 19 = .ok (.if_icmp .ne 9, 3) := by decide +kernel
theorem dX1_inverse_22 : decode cX1_inverse 22 = .ok (.iload_n 2, 1) := by decide +kernel
theorem dX1_inverse_23 : decode cX1_inverse 23 = .ok (.iload_n 3, 1) := by decide +kernel
theorem dX1_inverse_24 : decode cX1_inverse 24 = .ok (.imul, 1) := by decide +kernel
theorem dX1_inverse_25 : decode cX1_inverse 25 = .ok (.iload_n 1, 1) := by decide +kernel
theorem dX1_inverse_26 : decode cX1_inverse 26 = .ok (.irem, 1) := by decide +kernel
theorem dX1_inverse_27 : decode cX1_inverse 27 = .ok (.istore_n 2, 1) := by decide +kernel
theorem dX1_inverse_28 : decode cX1_inverse 28 = .ok (.iload_n 3, 1) := by decide +kernel
theorem dX1_inverse_29 : decode cX1_inverse 29 = .ok (.iload_n 3, 1) := by decide +kernel
theorem dX1_inverse_30 : decode cX1_inverse 30 = .ok (.imul, 1) := by decide +kernel
theorem dX1_inverse_31 : decode cX1_inverse 31 = .ok (.iload_n 1, 1) := by decide +kernel
theorem dX1_inverse_32 : decode cX1_inverse 32 = .ok (.irem, 1) := by decide +kernel
theorem dX1_inverse_33 : decode cX1_inverse 33 = .ok (.istore_n 3, 1) := by decide +kernel
theorem dX1_inverse_34 : decode cX1_inverse 34 = .ok (.iload 4, 2) := by decide +kernel
theorem dX1_inverse_36 : decode cX1_inverse 36 = .ok (.iconst 1, 1) := by decide +kernel
theorem dX1_inverse_37 : decode cX1_inverse 37 = .ok (.ishr, 1) := by decide +kernel
theorem dX1_inverse_38 : decode cX1_inverse 38 = .ok (.istore 4, 2) := by decide +kernel
theorem dX1_inverse_40 : decode cX1_inverse 40 = .ok (.goto (-31), 3) := by decide +kernel
theorem dX1_inverse_43 : decode cX1_inverse 43 = .ok (.iload_n 2, 1) := by decide +kernel
theorem dX1_inverse_44 : decode cX1_inverse 44 = .ok (.ireturn, 1) := by decide +kernel
theorem dX0_init_0 : decode cX0_init 0 = .ok (.aload_n 0, 1) := by decide +kernel
theorem dX0_init_1 : decode cX0_init 1 = .ok (.invokespecial 3, 3) := by decide +kernel
theorem dX0_init_4 : decode cX0_init 4 = .ok (.aload_n 0, 1) := by decide +kernel
theorem dX0_init_5 : decode cX0_init 5 = .ok (.iload_n 1, 1) := by decide +kernel
theorem dX0_init_6 : decode cX0_init 6 = .ok (.putfield 9, 3) := by decide +kernel
theorem dX0_init_9 : decode cX0_init 9 = .ok (.aload_n 0, 1) := by decide +kernel
theorem dX0_init_10 : decode cX0_init 10 = .ok (.iload_n 2, 1) := by decide +kernel
theorem dX0_init_11 : decode cX0_init 11 = .ok (.putfield 15, 3) := by decide +kernel
theorem dX0_init_14 : decode cX0_init 14 = .ok (.aload_n 0, 1) := by decide +kernel
theorem dX0_init_15 : decode cX0_init 15 = .ok (.iload_n 3, 1) := by decide +kernel
theorem dX0_init_16 : decode cX0_init 16 = .ok (.putfield 18, 3) := by decide +kernel
theorem dX0_init_19 : decode cX0_init 19 = .ok (.aload_n 0, 1) := by decide +kernel
theorem dX0_init_20 : decode cX0_init 20 = .ok (.iload 4, 2) := by decide +kernel
theorem dX0_init_22 : decode cX0_init 22 = .ok (.putfield 21, 3) := by decide +kernel
theorem dX0_init_25 : decode cX0_init 25 = .ok (.aload_n 0, 1) := by decide +kernel
theorem dX0_init_26 : decode cX0_init 26 = .ok (.iload_n 1, 1) := by decide +kernel
theorem dX0_init_27 : decode cX0_init 27 = .ok (.iload_n 2, 1) := by decide +kernel
theorem dX0_init_28 : decode cX0_init 28 = .ok (.iload_n 3, 1) := by decide +kernel
theorem dX0_init_29 : decode cX0_init 29 = .ok (.invokestatic 24, 3) := by decide +kernel
theorem dX0_init_32 : decode cX0_init 32 = .ok (.putfield 28, 3) := by decide +kernel
theorem dX0_init_35 : decode cX0_init 35 = .ok (.return_, 1) := by decide +kernel
theorem dX0_leastPoint_0 : decode cX0_leastPoint 0 = .ok (.iconst 0, 1) := by decide +kernel
theorem dX0_leastPoint_1 : decode cX0_leastPoint 1 = .ok (.istore_n 3, 1) := by decide +kernel
theorem dX0_leastPoint_2 : decode cX0_leastPoint 2 = .ok (.iload_n 3, 1) := by decide +kernel
theorem dX0_leastPoint_3 : decode cX0_leastPoint 3 = .ok (.iload_n 0, 1) := by decide +kernel
theorem dX0_leastPoint_4 : decode cX0_leastPoint 4 = .ok (.if_icmp .ge 35, 3) := by decide +kernel
theorem dX0_leastPoint_7 : decode cX0_leastPoint 7 = .ok (.iload_n 0, 1) := by decide +kernel
theorem dX0_leastPoint_8 : decode cX0_leastPoint 8 = .ok (.iload_n 1, 1) := by decide +kernel
theorem dX0_leastPoint_9 : decode cX0_leastPoint 9 = .ok (.iload_n 2, 1) := by decide +kernel
theorem dX0_leastPoint_10 : decode cX0_leastPoint 10 = .ok (.iload_n 3, 1) := by decide +kernel
theorem dX0_leastPoint_11 : decode cX0_leastPoint 11 = .ok (.invokestatic 31, 3) := by decide +kernel
theorem dX0_leastPoint_14 : decode cX0_leastPoint 14 = .ok (.iload_n 0, 1) := by decide +kernel
theorem dX0_leastPoint_15 : decode cX0_leastPoint 15 = .ok (.invokestatic 35, 3) := by decide +kernel
theorem dX0_leastPoint_18 : decode cX0_leastPoint 18 = .ok (.istore 4, 2) := by decide +kernel
theorem dX0_leastPoint_20 : decode cX0_leastPoint 20 = .ok (.iload 4, 2) := by decide +kernel
theorem dX0_leastPoint_22 : decode cX0_leastPoint 22 = .ok (.iconst (-1), 1) := by decide +kernel
theorem dX0_leastPoint_23 : decode cX0_leastPoint 23 = .ok (.if_icmp .eq 10, 3) := by decide +kernel
theorem dX0_leastPoint_26 : decode cX0_leastPoint 26 = .ok (.iload_n 3, 1) := by decide +kernel
theorem dX0_leastPoint_27 : decode cX0_leastPoint 27 = .ok (.iload 4, 2) := by decide +kernel
theorem dX0_leastPoint_29 : decode cX0_leastPoint 29 = .ok (.invokestatic 39, 3) := by decide +kernel
theorem dX0_leastPoint_32 : decode cX0_leastPoint 32 = .ok (.ireturn, 1) := by decide +kernel
theorem dX0_leastPoint_33 : decode cX0_leastPoint 33 = .ok (.iinc 3 1, 3) := by decide +kernel
theorem dX0_leastPoint_36 : decode cX0_leastPoint 36 = .ok (.goto (-34), 3) := by decide +kernel
theorem dX0_leastPoint_39 : decode cX0_leastPoint 39 = .ok (.iconst (-1), 1) := by decide +kernel
theorem dX0_leastPoint_40 : decode cX0_leastPoint 40 = .ok (.ireturn, 1) := by decide +kernel
theorem dX0_lesserRoot_0 : decode cX0_lesserRoot 0 = .ok (.iconst 0, 1) := by decide +kernel
theorem dX0_lesserRoot_1 : decode cX0_lesserRoot 1 = .ok (.istore_n 2, 1) := by decide +kernel
theorem dX0_lesserRoot_2 : decode cX0_lesserRoot 2 = .ok (.iload_n 2, 1) := by decide +kernel
theorem dX0_lesserRoot_3 : decode cX0_lesserRoot 3 = .ok (.iload_n 1, 1) := by decide +kernel
theorem dX0_lesserRoot_4 : decode cX0_lesserRoot 4 = .ok (.iconst 2, 1) := by decide +kernel
theorem dX0_lesserRoot_5 : decode cX0_lesserRoot 5 = .ok (.idiv, 1) := by decide +kernel
theorem dX0_lesserRoot_6 : decode cX0_lesserRoot 6 = .ok (.if_icmp .gt 20, 3) := by decide +kernel
theorem dX0_lesserRoot_9 : decode cX0_lesserRoot 9 = .ok (.iload_n 2, 1) := by decide +kernel
theorem dX0_lesserRoot_10 : decode cX0_lesserRoot 10 = .ok (.iload_n 2, 1) := by decide +kernel
theorem dX0_lesserRoot_11 : decode cX0_lesserRoot 11 = .ok (.imul, 1) := by decide +kernel
theorem dX0_lesserRoot_12 : decode cX0_lesserRoot 12 = .ok (.iload_n 1, 1) := by decide +kernel
theorem dX0_lesserRoot_13 : decode cX0_lesserRoot 13 = .ok (.irem, 1) := by decide +kernel
theorem dX0_lesserRoot_14 : decode cX0_lesserRoot 14 = .ok (.iload_n 0, 1) := by decide +kernel
theorem dX0_lesserRoot_15 : decode cX0_lesserRoot 15 = .ok (.if_icmp .ne 5, 3) := by decide +kernel
theorem dX0_lesserRoot_18 : decode cX0_lesserRoot 18 = .ok (.iload_n 2, 1) := by decide +kernel
theorem dX0_lesserRoot_19 : decode cX0_lesserRoot 19 = .ok (.ireturn, 1) := by decide +kernel
theorem dX0_lesserRoot_20 : decode cX0_lesserRoot 20 = .ok (.iinc 2 1, 3) := by decide +kernel
theorem dX0_lesserRoot_23 : decode cX0_lesserRoot 23 = .ok (.goto (-21), 3) := by decide +kernel
theorem dX0_lesserRoot_26 : decode cX0_lesserRoot 26 = .ok (.iconst (-1), 1) := by decide +kernel
theorem dX0_lesserRoot_27 : decode cX0_lesserRoot 27 = .ok (.ireturn, 1) := by decide +kernel
theorem dX0_holds_0 : decode cX0_holds 0 = .ok (.iload_n 1, 1) := by decide +kernel
theorem dX0_holds_1 : decode cX0_holds 1 = .ok (.ifCond .lt 54, 3) := by decide +kernel
theorem dX0_holds_4 : decode cX0_holds 4 = .ok (.iload_n 1, 1) := by decide +kernel
theorem dX0_holds_5 : decode cX0_holds 5 = .ok (.aload_n 0, 1) := by decide +kernel
theorem dX0_holds_6 : decode cX0_holds 6 = .ok (.getfield 9, 3) := by decide +kernel
theorem dX0_holds_9 : decode cX0_holds 9 = .ok (.if_icmp .ge 46, 3) := by decide +kernel
theorem dX0_holds_12 : decode cX0_holds 12 = .ok (.iload_n 2, 1) := by decide +kernel
theorem dX0_holds_13 : decode cX0_holds 13 = .ok (.ifCond .lt 42, 3) := by decide +kernel
theorem dX0_holds_16 : decode cX0_holds 16 = .ok (.iload_n 2, 1) := by decide +kernel
theorem dX0_holds_17 : decode cX0_holds 17 = .ok (.aload_n 0, 1) := by decide +kernel
theorem dX0_holds_18 : decode cX0_holds 18 = .ok (.getfield 9, 3) := by decide +kernel
theorem dX0_holds_21 : decode cX0_holds 21 = .ok (.if_icmp .ge 34, 3) := by decide +kernel
theorem dX0_holds_24 : decode cX0_holds 24 = .ok (.iload_n 2, 1) := by decide +kernel
theorem dX0_holds_25 : decode cX0_holds 25 = .ok (.iload_n 2, 1) := by decide +kernel
theorem dX0_holds_26 : decode cX0_holds 26 = .ok (.imul, 1) := by decide +kernel
theorem dX0_holds_27 : decode cX0_holds 27 = .ok (.aload_n 0, 1) := by decide +kernel
theorem dX0_holds_28 : decode cX0_holds 28 = .ok (.getfield 9, 3) := by decide +kernel
theorem dX0_holds_31 : decode cX0_holds 31 = .ok (.irem, 1) := by decide +kernel
theorem dX0_holds_32 : decode cX0_holds 32 = .ok (.aload_n 0, 1) := by decide +kernel
theorem dX0_holds_33 : decode cX0_holds 33 = .ok (.getfield 9, 3) := by decide +kernel
theorem dX0_holds_36 : decode cX0_holds 36 = .ok (.aload_n 0, 1) := by decide +kernel
theorem dX0_holds_37 : decode cX0_holds 37 = .ok (.getfield 15, 3) := by decide +kernel
theorem dX0_holds_40 : decode cX0_holds 40 = .ok (.aload_n 0, 1) := by decide +kernel
theorem dX0_holds_41 : decode cX0_holds 41 = .ok (.getfield 18, 3) := by decide +kernel
theorem dX0_holds_44 : decode cX0_holds 44 = .ok (.iload_n 1, 1) := by decide +kernel
theorem dX0_holds_45 : decode cX0_holds 45 = .ok (.invokestatic 31, 3) := by decide +kernel
theorem dX0_holds_48 : decode cX0_holds 48 = .ok (.if_icmp .ne 7, 3) := by decide +kernel
theorem dX0_holds_51 : decode cX0_holds 51 = .ok (.iconst 1, 1) := by decide +kernel
theorem dX0_holds_52 : decode cX0_holds 52 = .ok (.goto 4, 3) := by decide +kernel
theorem dX0_holds_55 : decode cX0_holds 55 = .ok (.iconst 0, 1) := by decide +kernel
theorem dX0_holds_56 : decode cX0_holds 56 = .ok (.ireturn, 1) := by decide +kernel
theorem dX0_isUnit_0 : decode cX0_isUnit 0 = .ok (.iload_n 1, 1) := by decide +kernel
theorem dX0_isUnit_1 : decode cX0_isUnit 1 = .ok (.iconst 1, 1) := by decide +kernel
theorem dX0_isUnit_2 : decode cX0_isUnit 2 = .ok (.if_icmp .lt 15, 3) := by decide +kernel
theorem dX0_isUnit_5 : decode cX0_isUnit 5 = .ok (.iload_n 1, 1) := by decide +kernel
theorem dX0_isUnit_6 : decode cX0_isUnit 6 = .ok (.aload_n 0, 1) := by decide +kernel
theorem dX0_isUnit_7 : decode cX0_isUnit 7 = .ok (.getfield 21, 3) := by decide +kernel
theorem dX0_isUnit_10 : decode cX0_isUnit 10 = .ok (.if_icmp .ge 7, 3) := by decide +kernel
theorem dX0_isUnit_13 : decode cX0_isUnit 13 = .ok (.iconst 1, 1) := by decide +kernel
theorem dX0_isUnit_14 : decode cX0_isUnit 14 = .ok (.goto 4, 3) := by decide +kernel
theorem dX0_isUnit_17 : decode cX0_isUnit 17 = .ok (.iconst 0, 1) := by decide +kernel
theorem dX0_isUnit_18 : decode cX0_isUnit 18 = .ok (.ireturn, 1) := by decide +kernel
theorem dX0_messageResidue_0 : decode cX0_messageResidue 0 = .ok (.lload_n 1, 1) := by decide +kernel
theorem dX0_messageResidue_1 : decode cX0_messageResidue 1 = .ok (.aload_n 0, 1) := by decide +kernel
theorem dX0_messageResidue_2 : decode cX0_messageResidue 2 = .ok (.getfield 21, 3) := by decide +kernel
theorem dX0_messageResidue_5 : decode cX0_messageResidue 5 = .ok (.i2l, 1) := by decide +kernel
theorem dX0_messageResidue_6 : decode cX0_messageResidue 6 = .ok (.invokestatic 42, 3) := by decide +kernel
theorem dX0_messageResidue_9 : decode cX0_messageResidue 9 = .ok (.l2i, 1) := by decide +kernel
theorem dX0_messageResidue_10 : decode cX0_messageResidue 10 = .ok (.ireturn, 1) := by decide +kernel
theorem dX0_plus_0 : decode cX0_plus 0 = .ok (.iload_n 1, 1) := by decide +kernel
theorem dX0_plus_1 : decode cX0_plus 1 = .ok (.iconst (-1), 1) := by decide +kernel
theorem dX0_plus_2 : decode cX0_plus 2 = .ok (.if_icmp .ne 5, 3) := by decide +kernel
theorem dX0_plus_5 : decode cX0_plus 5 = .ok (.iload_n 2, 1) := by decide +kernel
theorem dX0_plus_6 : decode cX0_plus 6 = .ok (.ireturn, 1) := by decide +kernel
theorem dX0_plus_7 : decode cX0_plus 7 = .ok (.iload_n 2, 1) := by decide +kernel
theorem dX0_plus_8 : decode cX0_plus 8 = .ok (.iconst (-1), 1) := by decide +kernel
theorem dX0_plus_9 : decode cX0_plus 9 = .ok (.if_icmp .ne 5, 3) := by decide +kernel
theorem dX0_plus_12 : decode cX0_plus 12 = .ok (.iload_n 1, 1) := by decide +kernel
theorem dX0_plus_13 : decode cX0_plus 13 = .ok (.ireturn, 1) := by decide +kernel
theorem dX0_plus_14 : decode cX0_plus 14 = .ok (.iload_n 1, 1) := by decide +kernel
theorem dX0_plus_15 : decode cX0_plus 15 = .ok (.invokestatic 48, 3) := by decide +kernel
theorem dX0_plus_18 : decode cX0_plus 18 = .ok (.istore_n 3, 1) := by decide +kernel
theorem dX0_plus_19 : decode cX0_plus 19 = .ok (.iload_n 2, 1) := by decide +kernel
theorem dX0_plus_20 : decode cX0_plus 20 = .ok (.invokestatic 48, 3) := by decide +kernel
theorem dX0_plus_23 : decode cX0_plus 23 = .ok (.istore 4, 2) := by decide +kernel
theorem dX0_plus_25 : decode cX0_plus 25 = .ok (.iload_n 3, 1) := by decide +kernel
theorem dX0_plus_26 : decode cX0_plus 26 = .ok (.iload 4, 2) := by decide +kernel
theorem dX0_plus_28 : decode cX0_plus 28 = .ok (.if_icmp .ne 21, 3) := by decide +kernel
theorem dX0_plus_31 : decode cX0_plus 31 = .ok (.iload_n 1, 1) := by decide +kernel
theorem dX0_plus_32 : decode cX0_plus 32 = .ok (.invokestatic 52, 3) := by decide +kernel
theorem dX0_plus_35 : decode cX0_plus 35 = .ok (.iload_n 2, 1) := by decide +kernel
theorem dX0_plus_36 : decode cX0_plus 36 = .ok (.invokestatic 52, 3) := by decide +kernel
theorem dX0_plus_39 : decode cX0_plus 39 = .ok (.iadd, 1) := by decide +kernel
theorem dX0_plus_40 : decode cX0_plus 40 = .ok (.aload_n 0, 1) := by decide +kernel
theorem dX0_plus_41 : decode cX0_plus 41 = .ok (.getfield 9, 3) := by decide +kernel
theorem dX0_plus_44 : decode cX0_plus 44 = .ok (.if_icmp .ne 5, 3) := by decide +kernel
theorem dX0_plus_47 : decode cX0_plus 47 = .ok (.iconst (-1), 1) := by decide +kernel
theorem dX0_plus_48 : decode cX0_plus 48 = .ok (.ireturn, 1) := by decide +kernel
theorem dX0_plus_49 : decode cX0_plus 49 = .ok (.aload_n 0, 1) := by decide +kernel
theorem dX0_plus_50 : decode cX0_plus 50 = .ok (.iload_n 1, 1) := by decide +kernel
theorem dX0_plus_51 : decode cX0_plus 51 = .ok (.iload_n 2, 1) := by decide +kernel
theorem dX0_plus_52 : decode cX0_plus 52 = .ok (.invokevirtual 55, 3) := by decide +kernel
theorem dX0_plus_55 : decode cX0_plus 55 = .ok (.istore 5, 2) := by decide +kernel
theorem dX0_plus_57 : decode cX0_plus 57 = .ok (.iload 5, 2) := by decide +kernel
theorem dX0_plus_59 : decode cX0_plus 59 = .ok (.iload 5, 2) := by decide +kernel
theorem dX0_plus_61 : decode cX0_plus 61 = .ok (.imul, 1) := by decide +kernel
theorem dX0_plus_62 : decode cX0_plus 62 = .ok (.iload_n 3, 1) := by decide +kernel
theorem dX0_plus_63 : decode cX0_plus 63 = .ok (.isub, 1) := by decide +kernel
theorem dX0_plus_64 : decode cX0_plus 64 = .ok (.iload 4, 2) := by decide +kernel
theorem dX0_plus_66 : decode cX0_plus 66 = .ok (.isub, 1) := by decide +kernel
theorem dX0_plus_67 : decode cX0_plus 67 = .ok (.aload_n 0, 1) := by decide +kernel
theorem dX0_plus_68 : decode cX0_plus 68 = .ok (.getfield 9, 3) := by decide +kernel
theorem dX0_plus_71 : decode cX0_plus 71 = .ok (.invokestatic 58, 3) := by decide +kernel
theorem dX0_plus_74 : decode cX0_plus 74 = .ok (.istore 6, 2) := by decide +kernel
theorem dX0_plus_76 : decode cX0_plus 76 = .ok (.iload 6, 2) := by decide +kernel
theorem dX0_plus_78 : decode cX0_plus 78 = .ok (.iload 5, 2) := by decide +kernel
theorem dX0_plus_80 : decode cX0_plus 80 = .ok (.iload_n 3, 1) := by decide +kernel
theorem dX0_plus_81 : decode cX0_plus 81 = .ok (.iload 6, 2) := by decide +kernel
theorem dX0_plus_83 : decode cX0_plus 83 = .ok (.isub, 1) := by decide +kernel
theorem dX0_plus_84 : decode cX0_plus 84 = .ok (.imul, 1) := by decide +kernel
theorem dX0_plus_85 : decode cX0_plus 85 = .ok (.iload_n 1, 1) := by decide +kernel
theorem dX0_plus_86 : decode cX0_plus 86 = .ok (.invokestatic 52, 3) := by decide +kernel
theorem dX0_plus_89 : decode cX0_plus 89 = .ok (.isub, 1) := by decide +kernel
theorem dX0_plus_90 : decode cX0_plus 90 = .ok (.aload_n 0, 1) := by decide +kernel
theorem dX0_plus_91 : decode cX0_plus 91 = .ok (.getfield 9, 3) := by decide +kernel
theorem dX0_plus_94 : decode cX0_plus 94 = .ok (.invokestatic 58, 3) := by decide +kernel
theorem dX0_plus_97 : decode cX0_plus 97 = .ok (.invokestatic 39, 3) := by decide +kernel
theorem dX0_plus_100 : decode cX0_plus 100 = .ok (.ireturn, 1) := by decide +kernel
theorem dX0_slope_0 : decode cX0_slope 0 = .ok (.iload_n 1, 1) := by decide +kernel
theorem dX0_slope_1 : decode cX0_slope 1 = .ok (.invokestatic 48, 3) := by decide +kernel
theorem dX0_slope_4 : decode cX0_slope 4 = .ok (.istore_n 3, 1) := by decide +kernel
theorem dX0_slope_5 : decode cX0_slope 5 = .ok (.iload_n 1, 1) := by decide +kernel
theorem dX0_slope_6 : decode cX0_slope 6 = .ok (.invokestatic 52, 3) := by decide +kernel
theorem dX0_slope_9 : decode cX0_slope 9 = .ok (.istore 4, 2) := by decide +kernel
theorem dX0_slope_11 : decode cX0_slope 11 = .ok (.iload_n 1, 1) := by decide +kernel
theorem dX0_slope_12 : decode cX0_slope 12 = .ok (.iload_n 2, 1) := by decide +kernel
theorem dX0_slope_13 : decode cX0_slope 13 = .ok (.if_icmp .ne 25, 3) := by decide +kernel
theorem dX0_slope_16 : decode cX0_slope 16 = .ok (.iconst 3, 1) := by decide +kernel
theorem dX0_slope_17 : decode cX0_slope 17 = .ok (.iload_n 3, 1) := by decide +kernel
theorem dX0_slope_18 : decode cX0_slope 18 = .ok (.imul, 1) := by decide +kernel
theorem dX0_slope_19 : decode cX0_slope 19 = .ok (.iload_n 3, 1) := by decide +kernel
theorem dX0_slope_20 : decode cX0_slope 20 = .ok (.imul, 1) := by decide +kernel
theorem dX0_slope_21 : decode cX0_slope 21 = .ok (.aload_n 0, 1) := by decide +kernel
theorem dX0_slope_22 : decode cX0_slope 22 = .ok (.getfield 15, 3) := by decide +kernel
theorem dX0_slope_25 : decode cX0_slope 25 = .ok (.iadd, 1) := by decide +kernel
theorem dX0_slope_26 : decode cX0_slope 26 = .ok (.iconst 2, 1) := by decide +kernel
theorem dX0_slope_27 : decode cX0_slope 27 = .ok (.iload 4, 2) := by decide +kernel
theorem dX0_slope_29 : decode cX0_slope 29 = .ok (.imul, 1) := by decide +kernel
theorem dX0_slope_30 : decode cX0_slope 30 = .ok (.aload_n 0, 1) := by decide +kernel
theorem dX0_slope_31 : decode cX0_slope 31 = .ok (.getfield 9, 3) := by decide +kernel
theorem dX0_slope_34 : decode cX0_slope 34 = .ok (.invokestatic 60, 3) := by decide +kernel
theorem dX0_slope_37 : decode cX0_slope 37 = .ok (.ireturn, 1) := by decide +kernel
theorem dX0_slope_38 : decode cX0_slope 38 = .ok (.iload_n 2, 1) := by decide +kernel
theorem dX0_slope_39 : decode cX0_slope 39 = .ok (.invokestatic 52, 3) := by decide +kernel
theorem dX0_slope_42 : decode cX0_slope 42 = .ok (.iload 4, 2) := by decide +kernel
theorem dX0_slope_44 : decode cX0_slope 44 = .ok (.isub, 1) := by decide +kernel
theorem dX0_slope_45 : decode cX0_slope 45 = .ok (.iload_n 2, 1) := by decide +kernel
theorem dX0_slope_46 : decode cX0_slope 46 = .ok (.invokestatic 48, 3) := by decide +kernel
theorem dX0_slope_49 : decode cX0_slope 49 = .ok (.iload_n 3, 1) := by decide +kernel
theorem dX0_slope_50 : decode cX0_slope 50 = .ok (.isub, 1) := by decide +kernel
theorem dX0_slope_51 : decode cX0_slope 51 = .ok (.aload_n 0, 1) := by decide +kernel
theorem dX0_slope_52 : decode cX0_slope 52 = .ok (.getfield 9, 3) := by decide +kernel
theorem dX0_slope_55 : decode cX0_slope 55 = .ok (.invokestatic 60, 3) := by decide +kernel
theorem dX0_slope_58 : decode cX0_slope 58 = .ok (.ireturn, 1) := by decide +kernel
theorem dX0_multiple_0 : decode cX0_multiple 0 = .ok (.iconst (-1), 1) := by decide +kernel
theorem dX0_multiple_1 : decode cX0_multiple 1 = .ok (.istore_n 3, 1) := by decide +kernel
theorem dX0_multiple_2 : decode cX0_multiple 2 = .ok (.iload_n 2, 1) := by decide +kernel
theorem dX0_multiple_3 : decode cX0_multiple 3 = .ok (.istore 4, 2) := by decide +kernel
theorem dX0_multiple_5 : decode cX0_multiple 5 = .ok (.iload_n 1, 1) := by decide +kernel
theorem dX0_multiple_6 : decode cX0_multiple 6 = .ok (.aload_n 0, 1) := by decide +kernel
theorem dX0_multiple_7 : decode cX0_multiple 7 = .ok (.getfield 21, 3) := by decide +kernel
theorem dX0_multiple_10 : decode cX0_multiple 10 = .ok (.invokestatic 58, 3) := by decide +kernel
theorem dX0_multiple_13 : decode cX0_multiple 13 = .ok (.istore 5, 2) := by decide +kernel
theorem dX0_multiple_15 : decode cX0_multiple 15 = .ok (.iload 5, 2) := by decide +kernel
theorem dX0_multiple_17 : decode cX0_multiple 17 = .ok (.ifCond .le 38, 3) := by decide +kernel
theorem dX0_multiple_20 : decode cX0_multiple 20 = .ok (.iload 5, 2) := by decide +kernel
theorem dX0_multiple_22 : decode cX0_multiple 22 = .ok (.iconst 1, 1) := by decide +kernel
theorem dX0_multiple_23 : decode cX0_multiple 23 = .ok (.iand, 1) := by decide +kernel
theorem dX0_multiple_24 : decode cX0_multiple 24 = .ok (.iconst 1, 1) := by decide +kernel
theorem dX0_multiple_25 : decode cX0_multiple 25 = .ok (.if_icmp .ne 11, 3) := by decide +kernel
theorem dX0_multiple_28 : decode cX0_multiple 28 = .ok (.aload_n 0, 1) := by decide +kernel
theorem dX0_multiple_29 : decode cX0_multiple 29 = .ok (.iload_n 3, 1) := by decide +kernel
theorem dX0_multiple_30 : decode cX0_multiple 30 = .ok (.iload 4, 2) := by decide +kernel
theorem dX0_multiple_32 : decode cX0_multiple 32 = .ok (.invokevirtual 63, 3) := by decide +kernel
theorem dX0_multiple_35 : decode cX0_multiple 35 = .ok (.istore_n 3, 1) := by decide +kernel
theorem dX0_multiple_36 : decode cX0_multiple 36 = .ok (.aload_n 0, 1) := by decide +kernel
theorem dX0_multiple_37 : decode cX0_multiple 37 = .ok (.iload 4, 2) := by decide +kernel
theorem dX0_multiple_39 : decode cX0_multiple 39 = .ok (.iload 4, 2) := by decide +kernel
theorem dX0_multiple_41 : decode cX0_multiple 41 = .ok (.invokevirtual 63, 3) := by decide +kernel
theorem dX0_multiple_44 : decode cX0_multiple 44 = .ok (.istore 4, 2) := by decide +kernel
theorem dX0_multiple_46 : decode cX0_multiple 46 = .ok (.iload 5, 2) := by decide +kernel
theorem dX0_multiple_48 : decode cX0_multiple 48 = .ok (.iconst 1, 1) := by decide +kernel
theorem dX0_multiple_49 : decode cX0_multiple 49 = .ok (.ishr, 1) := by decide +kernel
theorem dX0_multiple_50 : decode cX0_multiple 50 = .ok (.istore 5, 2) := by decide +kernel
theorem dX0_multiple_52 : decode cX0_multiple 52 = .ok (.goto (-37), 3) := by decide +kernel
theorem dX0_multiple_55 : decode cX0_multiple 55 = .ok (.iload_n 3, 1) := by decide +kernel
theorem dX0_multiple_56 : decode cX0_multiple 56 = .ok (.ireturn, 1) := by decide +kernel
theorem dX0_pointOfBytes_0 : decode cX0_pointOfBytes 0 = .ok (.iload_n 1, 1) := by decide +kernel
theorem dX0_pointOfBytes_1 : decode cX0_pointOfBytes 1 = .ok (.iconst 1, 1) := by decide +kernel
theorem dX0_pointOfBytes_2 : decode cX0_pointOfBytes 2 = .ok (.if_icmp .ne 16, 3) := by decide +kernel
theorem dX0_pointOfBytes_5 : decode cX0_pointOfBytes 5 = .ok (.lload_n 2, 1) := by decide +kernel
theorem dX0_pointOfBytes_6 : decode cX0_pointOfBytes 6 = .ok (.lconst 0, 1) := by decide +kernel
theorem dX0_pointOfBytes_7 : decode cX0_pointOfBytes 7 = .ok (.lcmp, 1) := by decide +kernel
theorem dX0_pointOfBytes_8 : decode cX0_pointOfBytes 8 = .ok (.ifCond .ne 7, 3) := by decide +kernel
theorem dX0_pointOfBytes_11 : decode cX0_pointOfBytes 11 = .ok (.iconst (-1), 1) := by decide +kernel
theorem dX0_pointOfBytes_12 : decode cX0_pointOfBytes 12 = .ok (.goto 5, 3) := by decide +kernel
theorem dX0_pointOfBytes_15 : decode cX0_pointOfBytes 15 = .ok (.bipush (-2), 2) := by decide +kernel
theorem dX0_pointOfBytes_17 : decode cX0_pointOfBytes 17 = .ok (.ireturn, 1) := by decide +kernel
theorem dX0_pointOfBytes_18 : decode cX0_pointOfBytes 18 = .ok (.iload_n 1, 1) := by decide +kernel
theorem dX0_pointOfBytes_19 : decode cX0_pointOfBytes 19 = .ok (.iconst 3, 1) := by decide +kernel
theorem dX0_pointOfBytes_20 : decode cX0_pointOfBytes 20 = .ok (.if_icmp .ne 9, 3) := by decide +kernel
theorem dX0_pointOfBytes_23 : decode cX0_pointOfBytes 23 = .ok (.aload_n 0, 1) := by decide +kernel
theorem dX0_pointOfBytes_24 : decode cX0_pointOfBytes 24 = .ok (.lload_n 2, 1) := by decide +kernel
theorem dX0_pointOfBytes_25 : decode cX0_pointOfBytes 25 = .ok (.invokevirtual 66, 3) := by decide +kernel
theorem dX0_pointOfBytes_28 : decode cX0_pointOfBytes 28 = .ok (.ireturn, 1) := by decide +kernel
theorem dX0_pointOfBytes_29 : decode cX0_pointOfBytes 29 = .ok (.iload_n 1, 1) := by decide +kernel
theorem dX0_pointOfBytes_30 : decode cX0_pointOfBytes 30 = .ok (.iconst 5, 1) := by decide +kernel
theorem dX0_pointOfBytes_31 : decode cX0_pointOfBytes 31 = .ok (.if_icmp .ne 11, 3) := by decide +kernel
theorem dX0_pointOfBytes_34 : decode cX0_pointOfBytes 34 = .ok (.aload_n 0, 1) := by decide +kernel
theorem dX0_pointOfBytes_35 : decode cX0_pointOfBytes 35 = .ok (.lload_n 2, 1) := by decide +kernel
theorem dX0_pointOfBytes_36 : decode cX0_pointOfBytes 36 = .ok (.invokevirtual 70, 3) := by decide +kernel
theorem dX0_pointOfBytes_39 : decode cX0_pointOfBytes 39 = .ok (.goto 5, 3) := by decide +kernel
theorem dX0_pointOfBytes_42 : decode cX0_pointOfBytes 42 = .ok (.bipush (-2), 2) := by decide +kernel
theorem dX0_pointOfBytes_44 : decode cX0_pointOfBytes 44 = .ok (.ireturn, 1) := by decide +kernel
theorem dX0_pointOfShort_0 : decode cX0_pointOfShort 0 = .ok (.lload_n 1, 1) := by decide +kernel
theorem dX0_pointOfShort_1 : decode cX0_pointOfShort 1 = .ok (.bipush 16, 2) := by decide +kernel
theorem dX0_pointOfShort_3 : decode cX0_pointOfShort 3 = .ok (.lshr, 1) := by decide +kernel
theorem dX0_pointOfShort_4 : decode cX0_pointOfShort 4 = .ok (.lstore_n 3, 1) := by decide +kernel
theorem dX0_pointOfShort_5 : decode cX0_pointOfShort 5 = .ok (.lload_n 1, 1) := by decide +kernel
theorem dX0_pointOfShort_6 : decode cX0_pointOfShort 6 = .ok (.ldc2_w 73, 3) := by decide +kernel
theorem dX0_pointOfShort_9 : decode cX0_pointOfShort 9 = .ok (.land, 1) := by decide +kernel
theorem dX0_pointOfShort_10 : decode cX0_pointOfShort 10 = .ok (.l2i, 1) := by decide +kernel
theorem dX0_pointOfShort_11 : decode cX0_pointOfShort 11 = .ok (.istore 5, 2) := by decide +kernel
theorem dX0_pointOfShort_13 : decode cX0_pointOfShort 13 = .ok (.lload_n 3, 1) := by decide +kernel
theorem dX0_pointOfShort_14 : decode cX0_pointOfShort 14 = .ok (.ldc2_w 75, 3) := by decide +kernel
theorem dX0_pointOfShort_17 : decode cX0_pointOfShort 17 = .ok (.lcmp, 1) := by decide +kernel
theorem dX0_pointOfShort_18 : decode cX0_pointOfShort 18 = .ok (.ifCond .eq 11, 3) := by decide +kernel
theorem dX0_pointOfShort_21 : decode cX0_pointOfShort 21 = .ok (.lload_n 3, 1) := by decide +kernel
theorem dX0_pointOfShort_22 : decode cX0_pointOfShort 22 = .ok (.ldc2_w 77, 3) := by decide +kernel
theorem dX0_pointOfShort_25 : decode cX0_pointOfShort 25 = .ok (.lcmp, 1) := by decide +kernel
theorem dX0_pointOfShort_26 : decode cX0_pointOfShort 26 = .ok (.ifCond .ne 12, 3) := by decide +kernel
theorem dX0_pointOfShort_29 : decode cX0_pointOfShort 29 = .ok (.iload 5, 2) := by decide +kernel
theorem dX0_pointOfShort_31 : decode cX0_pointOfShort 31 = .ok (.aload_n 0, 1) := by decide +kernel
theorem dX0_pointOfShort_32 : decode cX0_pointOfShort 32 = .ok (.getfield 9, 3) := by decide +kernel
theorem dX0_pointOfShort_35 : decode cX0_pointOfShort 35 = .ok (.if_icmp .lt 6, 3) := by decide +kernel
theorem dX0_pointOfShort_38 : decode cX0_pointOfShort 38 = .ok (.bipush (-2), 2) := by decide +kernel
theorem dX0_pointOfShort_40 : decode cX0_pointOfShort 40 = .ok (.ireturn, 1) := by decide +kernel
theorem dX0_pointOfShort_41 : decode cX0_pointOfShort 41 = .ok (.aload_n 0, 1) := by decide +kernel
theorem dX0_pointOfShort_42 : decode cX0_pointOfShort 42 = .ok (.getfield 9, 3) := by decide +kernel
theorem dX0_pointOfShort_45 : decode cX0_pointOfShort 45 = .ok (.aload_n 0, 1) := by decide +kernel
theorem dX0_pointOfShort_46 : decode cX0_pointOfShort 46 = .ok (.getfield 15, 3) := by decide +kernel
theorem dX0_pointOfShort_49 : decode cX0_pointOfShort 49 = .ok (.aload_n 0, 1) := by decide +kernel
theorem dX0_pointOfShort_50 : decode cX0_pointOfShort 50 = .ok (.getfield 18, 3) := by decide +kernel
theorem dX0_pointOfShort_53 : decode cX0_pointOfShort 53 = .ok (.iload 5, 2) := by decide +kernel
theorem dX0_pointOfShort_55 : decode cX0_pointOfShort 55 = .ok (.invokestatic 31, 3) := by decide +kernel
theorem dX0_pointOfShort_58 : decode cX0_pointOfShort 58 = .ok (.aload_n 0, 1) := by decide +kernel
theorem dX0_pointOfShort_59 : decode cX0_pointOfShort 59 = .ok (.getfield 9, 3) := by decide +kernel
theorem dX0_pointOfShort_62 : decode cX0_pointOfShort 62 = .ok (.invokestatic 35, 3) := by decide +kernel
theorem dX0_pointOfShort_65 : decode cX0_pointOfShort 65 = .ok (.istore 6, 2) := by decide +kernel
theorem dX0_pointOfShort_67 : decode cX0_pointOfShort 67 = .ok (.iload 6, 2) := by decide +kernel
theorem dX0_pointOfShort_69 : decode cX0_pointOfShort 69 = .ok (.iconst (-1), 1) := by decide +kernel
theorem dX0_pointOfShort_70 : decode cX0_pointOfShort 70 = .ok (.if_icmp .ne 6, 3) := by decide +kernel
theorem dX0_pointOfShort_73 : decode cX0_pointOfShort 73 = .ok (.bipush (-2), 2) := by decide +kernel
theorem dX0_pointOfShort_75 : decode cX0_pointOfShort 75 = .ok (.ireturn, 1) := by decide +kernel
theorem dX0_pointOfShort_76 : decode cX0_pointOfShort 76 = .ok (.iload 5, 2) := by decide +kernel
theorem dX0_pointOfShort_78 : decode cX0_pointOfShort 78 = .ok (.iload 6, 2) := by decide +kernel
theorem dX0_pointOfShort_80 : decode cX0_pointOfShort 80 = .ok (.iconst 2, 1) := by decide +kernel
theorem dX0_pointOfShort_81 : decode cX0_pointOfShort 81 = .ok (.irem, 1) := by decide +kernel
theorem dX0_pointOfShort_82 : decode cX0_pointOfShort 82 = .ok (.i2l, 1) := by decide +kernel
theorem dX0_pointOfShort_83 : decode cX0_pointOfShort 83 = .ok (.lload_n 3, 1) := by decide +kernel
theorem dX0_pointOfShort_84 : decode cX0_pointOfShort 84 = .ok (.ldc2_w 75, 3) := by decide +kernel
theorem dX0_pointOfShort_87 : decode cX0_pointOfShort 87 = .ok (.lsub, 1) := by decide +kernel
theorem dX0_pointOfShort_88 : decode cX0_pointOfShort 88 = .ok (.lcmp, 1) := by decide +kernel
theorem dX0_pointOfShort_89 : decode cX0_pointOfShort 89 = .ok (.ifCond .ne 8, 3) := by decide +kernel
theorem dX0_pointOfShort_92 : decode cX0_pointOfShort 92 = .ok (.iload 6, 2) := by decide +kernel
theorem dX0_pointOfShort_94 : decode cX0_pointOfShort 94 = .ok (.goto 10, 3) := by decide +kernel
theorem dX0_pointOfShort_97 : decode cX0_pointOfShort 97 = .ok (.aload_n 0, 1) := by decide +kernel
theorem dX0_pointOfShort_98 : decode cX0_pointOfShort 98 = .ok (.getfield 9, 3) := by decide +kernel
theorem dX0_pointOfShort_101 : decode cX0_pointOfShort 101 = .ok (.iload 6, 2) := by decide +kernel
theorem dX0_pointOfShort_103 : decode cX0_pointOfShort 103 = .ok (.isub, 1) := by decide +kernel
theorem dX0_pointOfShort_104 : decode cX0_pointOfShort 104 = .ok (.invokestatic 39, 3) := by decide +kernel
theorem dX0_pointOfShort_107 : decode cX0_pointOfShort 107 = .ok (.ireturn, 1) := by decide +kernel
theorem dX0_pointOfPlain_0 : decode cX0_pointOfPlain 0 = .ok (.lload_n 1, 1) := by decide +kernel
theorem dX0_pointOfPlain_1 : decode cX0_pointOfPlain 1 = .ok (.bipush 16, 2) := by decide +kernel
theorem dX0_pointOfPlain_3 : decode cX0_pointOfPlain 3 = .ok (.lshr, 1) := by decide +kernel
theorem dX0_pointOfPlain_4 : decode cX0_pointOfPlain 4 = .ok (.ldc2_w 73, 3) := by decide +kernel
theorem dX0_pointOfPlain_7 : decode cX0_pointOfPlain 7 = .ok (.land, 1) := by decide +kernel
theorem dX0_pointOfPlain_8 : decode cX0_pointOfPlain 8 = .ok (.l2i, 1) := by decide +kernel
theorem dX0_pointOfPlain_9 : decode cX0_pointOfPlain 9 = .ok (.istore_n 3, 1) := by decide +kernel
theorem dX0_pointOfPlain_10 : decode cX0_pointOfPlain 10 = .ok (.lload_n 1, 1) := by decide +kernel
theorem dX0_pointOfPlain_11 : decode cX0_pointOfPlain 11 = .ok (.ldc2_w 73, 3) := by decide +kernel
theorem dX0_pointOfPlain_14 : decode cX0_pointOfPlain 14 = .ok (.land, 1) := by decide +kernel
theorem dX0_pointOfPlain_15 : decode cX0_pointOfPlain 15 = .ok (.l2i, 1) := by decide +kernel
theorem dX0_pointOfPlain_16 : decode cX0_pointOfPlain 16 = .ok (.istore 4, 2) := by decide +kernel
theorem dX0_pointOfPlain_18 : decode cX0_pointOfPlain 18 = .ok (.lload_n 1, 1) := by decide +kernel
theorem dX0_pointOfPlain_19 : decode cX0_pointOfPlain 19 = .ok (.bipush 32, 2) := by decide +kernel
theorem dX0_pointOfPlain_21 : decode cX0_pointOfPlain 21 = .ok (.lshr, 1) := by decide +kernel
theorem dX0_pointOfPlain_22 : decode cX0_pointOfPlain 22 = .ok (.ldc2_w 79, 3) := by decide +kernel
theorem dX0_pointOfPlain_25 : decode cX0_pointOfPlain 25 = .ok (.lcmp, 1) := by decide +kernel
theorem dX0_pointOfPlain_26 : decode cX0_pointOfPlain 26 = .ok (.ifCond .ne 22, 3) := by decide +kernel
theorem dX0_pointOfPlain_29 : decode cX0_pointOfPlain 29 = .ok (.aload_n 0, 1) := by decide +kernel
theorem dX0_pointOfPlain_30 : decode cX0_pointOfPlain 30 = .ok (.iload_n 3, 1) := by decide +kernel
theorem dX0_pointOfPlain_31 : decode cX0_pointOfPlain 31 = .ok (.iload 4, 2) := by decide +kernel
theorem dX0_pointOfPlain_33 : decode cX0_pointOfPlain 33 = .ok (.invokevirtual 81, 3) := by decide +kernel
theorem dX0_pointOfPlain_36 : decode cX0_pointOfPlain 36 = .ok (.ifCond .eq 12, 3) := by decide +kernel
theorem dX0_pointOfPlain_39 : decode cX0_pointOfPlain 39 = .ok (.iload_n 3, 1) := by decide +kernel
theorem dX0_pointOfPlain_40 : decode cX0_pointOfPlain 40 = .ok (.iload 4, 2) := by decide +kernel
theorem dX0_pointOfPlain_42 : decode cX0_pointOfPlain 42 = .ok (.invokestatic 39, 3) := by decide +kernel
theorem dX0_pointOfPlain_45 : decode cX0_pointOfPlain 45 = .ok (.goto 5, 3) := by decide +kernel
theorem dX0_pointOfPlain_48 : decode cX0_pointOfPlain 48 = .ok (.bipush (-2), 2) := by decide +kernel
theorem dX0_pointOfPlain_50 : decode cX0_pointOfPlain 50 = .ok (.ireturn, 1) := by decide +kernel
theorem dX0_drawMask_0 : decode cX0_drawMask 0 = .ok (.iconst 1, 1) := by decide +kernel
theorem dX0_drawMask_1 : decode cX0_drawMask 1 = .ok (.istore_n 1, 1) := by decide +kernel
theorem dX0_drawMask_2 : decode cX0_drawMask 2 = .ok (.iconst 1, 1) := by decide +kernel
theorem dX0_drawMask_3 : decode cX0_drawMask 3 = .ok (.istore_n 2, 1) := by decide +kernel
theorem dX0_drawMask_4 : decode cX0_drawMask 4 = .ok (.iload_n 2, 1) := by decide +kernel
theorem dX0_drawMask_5 : decode cX0_drawMask 5 = .ok (.bipush 31, 2) := by decide +kernel
theorem dX0_drawMask_7 : decode cX0_drawMask 7 = .ok (.if_icmp .ge 23, 3) := by decide +kernel
theorem dX0_drawMask_10 : decode cX0_drawMask 10 = .ok (.iload_n 1, 1) := by decide +kernel
theorem dX0_drawMask_11 : decode cX0_drawMask 11 = .ok (.aload_n 0, 1) := by decide +kernel
theorem dX0_drawMask_12 : decode cX0_drawMask 12 = .ok (.getfield 21, 3) := by decide +kernel
theorem dX0_drawMask_15 : decode cX0_drawMask 15 = .ok (.if_icmp .ge 15, 3) := by decide +kernel
theorem dX0_drawMask_18 : decode cX0_drawMask 18 = .ok (.iload_n 1, 1) := by decide +kernel
theorem dX0_drawMask_19 : decode cX0_drawMask 19 = .ok (.iconst 2, 1) := by decide +kernel
theorem dX0_drawMask_20 : decode cX0_drawMask 20 = .ok (.imul, 1) := by decide +kernel
theorem dX0_drawMask_21 : decode cX0_drawMask 21 = .ok (.iconst 1, 1) := by decide +kernel
theorem dX0_drawMask_22 : decode cX0_drawMask 22 = .ok (.iadd, 1) := by decide +kernel
theorem dX0_drawMask_23 : decode cX0_drawMask 23 = .ok (.istore_n 1, 1) := by decide +kernel
theorem dX0_drawMask_24 : decode cX0_drawMask 24 = .ok (.iinc 2 1, 3) := by decide +kernel
theorem dX0_drawMask_27 : decode cX0_drawMask 27 = .ok (.goto (-23), 3) := by decide +kernel
theorem dX0_drawMask_30 : decode cX0_drawMask 30 = .ok (.iload_n 1, 1) := by decide +kernel
theorem dX0_drawMask_31 : decode cX0_drawMask 31 = .ok (.ireturn, 1) := by decide +kernel
theorem dX0_signatureFrom_0 : decode cX0_signatureFrom 0 = .ok (.aload_n 0, 1) := by decide +kernel
theorem dX0_signatureFrom_1 : decode cX0_signatureFrom 1 = .ok (.iload_n 1, 1) := by decide +kernel
theorem dX0_signatureFrom_2 : decode cX0_signatureFrom 2 = .ok (.invokevirtual 85, 3) := by decide +kernel
theorem dX0_signatureFrom_5 : decode cX0_signatureFrom 5 = .ok (.ifCond .ne 5, 3) := by decide +kernel
theorem dX0_signatureFrom_8 : decode cX0_signatureFrom 8 = .ok (.lconst 0, 1) := by decide +kernel
theorem dX0_signatureFrom_9 : decode cX0_signatureFrom 9 = .ok (.lreturn, 1) := by decide +kernel
theorem dX0_signatureFrom_10 : decode cX0_signatureFrom 10 = .ok (.aload_n 0, 1) := by decide +kernel
theorem dX0_signatureFrom_11 : decode cX0_signatureFrom 11 = .ok (.iload_n 1, 1) := by decide +kernel
theorem dX0_signatureFrom_12 : decode cX0_signatureFrom 12 = .ok (.aload_n 0, 1) := by decide +kernel
theorem dX0_signatureFrom_13 : decode cX0_signatureFrom 13 = .ok (.getfield 28, 3) := by decide +kernel
theorem dX0_signatureFrom_16 : decode cX0_signatureFrom 16 = .ok (.invokevirtual 89, 3) := by decide +kernel
theorem dX0_signatureFrom_19 : decode cX0_signatureFrom 19 = .ok (.invokestatic 48, 3) := by decide +kernel
theorem dX0_signatureFrom_22 : decode cX0_signatureFrom 22 = .ok (.aload_n 0, 1) := by decide +kernel
theorem dX0_signatureFrom_23 : decode cX0_signatureFrom 23 = .ok (.getfield 21, 3) := by decide +kernel
theorem dX0_signatureFrom_26 : decode cX0_signatureFrom 26 = .ok (.irem, 1) := by decide +kernel
theorem dX0_signatureFrom_27 : decode cX0_signatureFrom 27 = .ok (.istore 4, 2) := by decide +kernel
theorem dX0_signatureFrom_29 : decode cX0_signatureFrom 29 = .ok (.iload_n 2, 1) := by decide +kernel
theorem dX0_signatureFrom_30 : decode cX0_signatureFrom 30 = .ok (.iload 4, 2) := by decide +kernel
theorem dX0_signatureFrom_32 : decode cX0_signatureFrom 32 = .ok (.iload_n 3, 1) := by decide +kernel
theorem dX0_signatureFrom_33 : decode cX0_signatureFrom 33 = .ok (.imul, 1) := by decide +kernel
theorem dX0_signatureFrom_34 : decode cX0_signatureFrom 34 = .ok (.iadd, 1) := by decide +kernel
theorem dX0_signatureFrom_35 : decode cX0_signatureFrom 35 = .ok (.iload_n 1, 1) := by decide +kernel
theorem dX0_signatureFrom_36 : decode cX0_signatureFrom 36 = .ok (.aload_n 0, 1) := by decide +kernel
theorem dX0_signatureFrom_37 : decode cX0_signatureFrom 37 = .ok (.getfield 21, 3) := by decide +kernel
theorem dX0_signatureFrom_40 : decode cX0_signatureFrom 40 = .ok (.invokestatic 60, 3) := by decide +kernel
theorem dX0_signatureFrom_43 : decode cX0_signatureFrom 43 = .ok (.istore 5, 2) := by decide +kernel
theorem dX0_signatureFrom_45 : decode cX0_signatureFrom 45 = .ok (.iload 4, 2) := by decide +kernel
theorem dX0_signatureFrom_47 : decode cX0_signatureFrom 47 = .ok (.ifCond .eq 8, 3) := by decide +kernel
theorem dX0_signatureFrom_50 : decode cX0_signatureFrom 50 = .ok (.iload 5, 2) := by decide +kernel
theorem dX0_signatureFrom_52 : decode cX0_signatureFrom 52 = .ok (.ifCond .ne 7, 3) := by decide +kernel
theorem dX0_signatureFrom_55 : decode cX0_signatureFrom 55 = .ok (.lconst 0, 1) := by decide +kernel
theorem dX0_signatureFrom_56 : decode cX0_signatureFrom 56 = .ok (.goto 14, 3) := by decide +kernel
theorem dX0_signatureFrom_59 : decode cX0_signatureFrom 59 = .ok (.iload 4, 2) := by decide +kernel
theorem dX0_signatureFrom_61 : decode cX0_signatureFrom 61 = .ok (.i2l, 1) := by decide +kernel
theorem dX0_signatureFrom_62 : decode cX0_signatureFrom 62 = .ok (.ldc2_w 92, 3) := by decide +kernel
theorem dX0_signatureFrom_65 : decode cX0_signatureFrom 65 = .ok (.lmul, 1) := by decide +kernel
theorem dX0_signatureFrom_66 : decode cX0_signatureFrom 66 = .ok (.iload 5, 2) := by decide +kernel
theorem dX0_signatureFrom_68 : decode cX0_signatureFrom 68 = .ok (.i2l, 1) := by decide +kernel
theorem dX0_signatureFrom_69 : decode cX0_signatureFrom 69 = .ok (.ladd, 1) := by decide +kernel
theorem dX0_signatureFrom_70 : decode cX0_signatureFrom 70 = .ok (.lreturn, 1) := by decide +kernel
theorem dX0_fits_0 : decode cX0_fits 0 = .ok (.iload_n 1, 1) := by decide +kernel
theorem dX0_fits_1 : decode cX0_fits 1 = .ok (.iconst (-1), 1) := by decide +kernel
theorem dX0_fits_2 : decode cX0_fits 2 = .ok (.if_icmp .eq 21, 3) := by decide +kernel
theorem dX0_fits_5 : decode cX0_fits 5 = .ok (.aload_n 0, 1) := by decide +kernel
theorem dX0_fits_6 : decode cX0_fits 6 = .ok (.iload 4, 2) := by decide +kernel
theorem dX0_fits_8 : decode cX0_fits 8 = .ok (.invokevirtual 85, 3) := by decide +kernel
theorem dX0_fits_11 : decode cX0_fits 11 = .ok (.ifCond .eq 12, 3) := by decide +kernel
theorem dX0_fits_14 : decode cX0_fits 14 = .ok (.aload_n 0, 1) := by decide +kernel
theorem dX0_fits_15 : decode cX0_fits 15 = .ok (.iload 5, 2) := by decide +kernel
theorem dX0_fits_17 : decode cX0_fits 17 = .ok (.invokevirtual 85, 3) := by decide +kernel
theorem dX0_fits_20 : decode cX0_fits 20 = .ok (.ifCond .ne 5, 3) := by decide +kernel
theorem dX0_fits_23 : decode cX0_fits 23 = .ok (.iconst 0, 1) := by decide +kernel
theorem dX0_fits_24 : decode cX0_fits 24 = .ok (.ireturn, 1) := by decide +kernel
theorem dX0_fits_25 : decode cX0_fits 25 = .ok (.iload 5, 2) := by decide +kernel
theorem dX0_fits_27 : decode cX0_fits 27 = .ok (.aload_n 0, 1) := by decide +kernel
theorem dX0_fits_28 : decode cX0_fits 28 = .ok (.getfield 21, 3) := by decide +kernel
theorem dX0_fits_31 : decode cX0_fits 31 = .ok (.invokestatic 94, 3) := by decide +kernel
theorem dX0_fits_34 : decode cX0_fits 34 = .ok (.istore 6, 2) := by decide +kernel
theorem dX0_fits_36 : decode cX0_fits 36 = .ok (.aload_n 0, 1) := by decide +kernel
theorem dX0_fits_37 : decode cX0_fits 37 = .ok (.aload_n 0, 1) := by decide +kernel
theorem dX0_fits_38 : decode cX0_fits 38 = .ok (.lload_n 2, 1) := by decide +kernel
theorem dX0_fits_39 : decode cX0_fits 39 = .ok (.invokevirtual 97, 3) := by decide +kernel
theorem dX0_fits_42 : decode cX0_fits 42 = .ok (.iload 6, 2) := by decide +kernel
theorem dX0_fits_44 : decode cX0_fits 44 = .ok (.imul, 1) := by decide +kernel
theorem dX0_fits_45 : decode cX0_fits 45 = .ok (.aload_n 0, 1) := by decide +kernel
theorem dX0_fits_46 : decode cX0_fits 46 = .ok (.getfield 21, 3) := by decide +kernel
theorem dX0_fits_49 : decode cX0_fits 49 = .ok (.irem, 1) := by decide +kernel
theorem dX0_fits_50 : decode cX0_fits 50 = .ok (.aload_n 0, 1) := by decide +kernel
theorem dX0_fits_51 : decode cX0_fits 51 = .ok (.getfield 28, 3) := by decide +kernel
theorem dX0_fits_54 : decode cX0_fits 54 = .ok (.invokevirtual 89, 3) := by decide +kernel
theorem dX0_fits_57 : decode cX0_fits 57 = .ok (.istore 7, 2) := by decide +kernel
theorem dX0_fits_59 : decode cX0_fits 59 = .ok (.aload_n 0, 1) := by decide +kernel
theorem dX0_fits_60 : decode cX0_fits 60 = .ok (.iload 7, 2) := by decide +kernel
theorem dX0_fits_62 : decode cX0_fits 62 = .ok (.aload_n 0, 1) := by decide +kernel
theorem dX0_fits_63 : decode cX0_fits 63 = .ok (.iload 4, 2) := by decide +kernel
theorem dX0_fits_65 : decode cX0_fits 65 = .ok (.iload 6, 2) := by decide +kernel
theorem dX0_fits_67 : decode cX0_fits 67 = .ok (.imul, 1) := by decide +kernel
theorem dX0_fits_68 : decode cX0_fits 68 = .ok (.aload_n 0, 1) := by decide +kernel
theorem dX0_fits_69 : decode cX0_fits 69 = .ok (.getfield 21, 3) := by decide +kernel
theorem dX0_fits_72 : decode cX0_fits 72 = .ok (.irem, 1) := by decide +kernel
theorem dX0_fits_73 : decode cX0_fits 73 = .ok (.iload_n 1, 1) := by decide +kernel
theorem dX0_fits_74 : decode cX0_fits 74 = .ok (.invokevirtual 89, 3) := by decide +kernel
theorem dX0_fits_77 : decode cX0_fits 77 = .ok (.invokevirtual 63, 3) := by decide +kernel
theorem dX0_fits_80 : decode cX0_fits 80 = .ok (.istore 8, 2) := by decide +kernel
theorem dX0_fits_82 : decode cX0_fits 82 = .ok (.iload 8, 2) := by decide +kernel
theorem dX0_fits_84 : decode cX0_fits 84 = .ok (.iconst (-1), 1) := by decide +kernel
theorem dX0_fits_85 : decode cX0_fits 85 = .ok (.if_icmp .eq 22, 3) := by decide +kernel
theorem dX0_fits_88 : decode cX0_fits 88 = .ok (.iload 8, 2) := by decide +kernel
theorem dX0_fits_90 : decode cX0_fits 90 = .ok (.invokestatic 48, 3) := by decide +kernel
theorem dX0_fits_93 : decode cX0_fits 93 = .ok (.aload_n 0, 1) := by decide +kernel
theorem dX0_fits_94 : decode cX0_fits 94 = .ok (.getfield 21, 3) := by decide +kernel
theorem dX0_fits_97 : decode cX0_fits 97 = .ok (.irem, 1) := by decide +kernel
theorem dX0_fits_98 : decode cX0_fits 98 = .ok (.iload 4, 2) := by decide +kernel
theorem dX0_fits_100 : decode cX0_fits 100 = .ok (.if_icmp .ne 7, 3) := by decide +kernel
theorem dX0_fits_103 : decode cX0_fits 103 = .ok (.iconst 1, 1) := by decide +kernel
theorem dX0_fits_104 : decode cX0_fits 104 = .ok (.goto 4, 3) := by decide +kernel
theorem dX0_fits_107 : decode cX0_fits 107 = .ok (.iconst 0, 1) := by decide +kernel
theorem dX0_fits_108 : decode cX0_fits 108 = .ok (.ireturn, 1) := by decide +kernel
theorem dJM_floorModI_0 : decode cJM_floorModI 0 = .ok (.iload_n 0, 1) := by decide +kernel
theorem dJM_floorModI_1 : decode cJM_floorModI 1 = .ok (.iload_n 1, 1) := by decide +kernel
theorem dJM_floorModI_2 : decode cJM_floorModI 2 = .ok (.irem, 1) := by decide +kernel
theorem dJM_floorModI_3 : decode cJM_floorModI 3 = .ok (.istore_n 2, 1) := by decide +kernel
theorem dJM_floorModI_4 : decode cJM_floorModI 4 = .ok (.iload_n 0, 1) := by decide +kernel
theorem dJM_floorModI_5 : decode cJM_floorModI 5 = .ok (.iload_n 1, 1) := by decide +kernel
theorem dJM_floorModI_6 : decode cJM_floorModI 6 = .ok (.ixor, 1) := by decide +kernel
theorem dJM_floorModI_7 : decode cJM_floorModI 7 = .ok (.ifCond .ge 11, 3) := by decide +kernel
theorem dJM_floorModI_10 : decode cJM_floorModI 10 = .ok (.iload_n 2, 1) := by decide +kernel
theorem dJM_floorModI_11 : decode cJM_floorModI 11 = .ok (.ifCond .eq 7, 3) := by decide +kernel
theorem dJM_floorModI_14 : decode cJM_floorModI 14 = .ok (.iload_n 2, 1) := by decide +kernel
theorem dJM_floorModI_15 : decode cJM_floorModI 15 = .ok (.iload_n 1, 1) := by decide +kernel
theorem dJM_floorModI_16 : decode cJM_floorModI 16 = .ok (.iadd, 1) := by decide +kernel
theorem dJM_floorModI_17 : decode cJM_floorModI 17 = .ok (.ireturn, 1) := by decide +kernel
theorem dJM_floorModI_18 : decode cJM_floorModI 18 = .ok (.iload_n 2, 1) := by decide +kernel
theorem dJM_floorModI_19 : decode cJM_floorModI 19 = .ok (.ireturn, 1) := by decide +kernel
theorem dJM_floorModJ_0 : decode cJM_floorModJ 0 = .ok (.lload_n 0, 1) := by decide +kernel
theorem dJM_floorModJ_1 : decode cJM_floorModJ 1 = .ok (.lload_n 2, 1) := by decide +kernel
theorem dJM_floorModJ_2 : decode cJM_floorModJ 2 = .ok (.lrem, 1) := by decide +kernel
theorem dJM_floorModJ_3 : decode cJM_floorModJ 3 = .ok (.lstore 4, 2) := by decide +kernel
theorem dJM_floorModJ_5 : decode cJM_floorModJ 5 = .ok (.lload_n 0, 1) := by decide +kernel
theorem dJM_floorModJ_6 : decode cJM_floorModJ 6 = .ok (.lload_n 2, 1) := by decide +kernel
theorem dJM_floorModJ_7 : decode cJM_floorModJ 7 = .ok (.lxor, 1) := by decide +kernel
theorem dJM_floorModJ_8 : decode cJM_floorModJ 8 = .ok (.lconst 0, 1) := by decide +kernel
theorem dJM_floorModJ_9 : decode cJM_floorModJ 9 = .ok (.lcmp, 1) := by decide +kernel
theorem dJM_floorModJ_10 : decode cJM_floorModJ 10 = .ok (.ifCond .ge 15, 3) := by decide +kernel
theorem dJM_floorModJ_13 : decode cJM_floorModJ 13 = .ok (.lload 4, 2) := by decide +kernel
theorem dJM_floorModJ_15 : decode cJM_floorModJ 15 = .ok (.lconst 0, 1) := by decide +kernel
theorem dJM_floorModJ_16 : decode cJM_floorModJ 16 = .ok (.lcmp, 1) := by decide +kernel
theorem dJM_floorModJ_17 : decode cJM_floorModJ 17 = .ok (.ifCond .eq 8, 3) := by decide +kernel
theorem dJM_floorModJ_20 : decode cJM_floorModJ 20 = .ok (.lload 4, 2) := by decide +kernel
theorem dJM_floorModJ_22 : decode cJM_floorModJ 22 = .ok (.lload_n 2, 1) := by decide +kernel
theorem dJM_floorModJ_23 : decode cJM_floorModJ 23 = .ok (.ladd, 1) := by decide +kernel
theorem dJM_floorModJ_24 : decode cJM_floorModJ 24 = .ok (.lreturn, 1) := by decide +kernel
theorem dJM_floorModJ_25 : decode cJM_floorModJ 25 = .ok (.lload 4, 2) := by decide +kernel
theorem dJM_floorModJ_27 : decode cJM_floorModJ 27 = .ok (.lreturn, 1) := by decide +kernel
theorem dJA_fill_0 : decode cJA_fill 0 = .ok (.iconst 0, 1) := by decide +kernel
theorem dJA_fill_1 : decode cJA_fill 1 = .ok (.istore_n 2, 1) := by decide +kernel
theorem dJA_fill_2 : decode cJA_fill 2 = .ok (.aload_n 0, 1) := by decide +kernel
theorem dJA_fill_3 : decode cJA_fill 3 = .ok (.arraylength, 1) := by decide +kernel
theorem dJA_fill_4 : decode cJA_fill 4 = .ok (.istore_n 3, 1) := by decide +kernel
theorem dJA_fill_5 : decode cJA_fill 5 = .ok (.iload_n 2, 1) := by decide +kernel
theorem dJA_fill_6 : decode cJA_fill 6 = .ok (.iload_n 3, 1) := by decide +kernel
theorem dJA_fill_7 : decode cJA_fill 7 = .ok (.if_icmp .ge 13, 3) := by decide +kernel
theorem dJA_fill_10 : decode cJA_fill 10 = .ok (.aload_n 0, 1) := by decide +kernel
theorem dJA_fill_11 : decode cJA_fill 11 = .ok (.iload_n 2, 1) := by decide +kernel
theorem dJA_fill_12 : decode cJA_fill 12 = .ok (.iload_n 1, 1) := by decide +kernel
theorem dJA_fill_13 : decode cJA_fill 13 = .ok (.iastore, 1) := by decide +kernel
theorem dJA_fill_14 : decode cJA_fill 14 = .ok (.iinc 2 1, 3) := by decide +kernel
theorem dJA_fill_17 : decode cJA_fill 17 = .ok (.goto (-12), 3) := by decide +kernel
theorem dJA_fill_20 : decode cJA_fill 20 = .ok (.return_, 1) := by decide +kernel
end
section
/-! Calls of methods that only read: the heap stays. -/
/-- a method's contract that leaves the heap as it is -/
def QcV (v : Option Value) : Array Value → State → Outcome → State → Prop := fun _ st o t => o = .returned v ∧ t.heap = st.heap
/-- words that no step undoes, though they aren't among the kept ones: links inside the nest, casts, declarations -/
def nwS (w : Cond) : Bool := match w with
  | .methodLinkNest _ _ _ _ => true
  | .castable _ _ => true
  | .declares _ => true
  | _ => false
def NWL : List Cond := lw_tbl.filter nwS
/-- the class's texts: their places in its pool -/
def SL : List (Nat × String) := [(39, "no curve"), (52, "the order is no prime greater than 2"), (143, "no curve was taken yet"), (147, "no such register"), (74, "no point of the curve"), (107, "not well-formed"), (112, "no key of the curve"), (116, "no key"), (136, "signing fails")]
def Nw (U : State) : Prop := (∀ w, w ∈ NWL → va_Nw w U) ∧ ∀ q, q ∈ SL → ∃ a, vk_R RX1 q.1 q.2 a U
theorem nw_shape {w : Cond} (h : nwS w = true) : (∃ a i x b, w = .methodLinkNest a i x b) ∨ (∃ a b, w = .castable a b) ∨ ∃ x, w = .declares x := by
  cases w <;> first | exact Or.inl ⟨_, _, _, _, rfl⟩ | exact Or.inr (Or.inl ⟨_, _, rfl⟩) | exact Or.inr (Or.inr ⟨_, rfl⟩) | cases h
theorem Nw.warm {s U : State} (hW : s.WarmedH U.vm) (h : Nw s) : Nw U := by
  refine ⟨fun w hw => ?_, fun q hq => ?_⟩
  · rcases nw_shape (List.mem_filter.mp hw).2 with ⟨a, i, x, b, rfl⟩ | ⟨a, b, rfl⟩ | ⟨x, rfl⟩
    · exact va_Nw.warmM hW (h.1 _ hw)
    · exact va_Nw.warmC hW (h.1 _ hw)
    · exact va_Nw.warmD hW (h.1 _ hw)
  · obtain ⟨a, ha⟩ := h.2 q hq
    exact ⟨a, vk_R.warm hW ha⟩
theorem Nw.same {u U : State} (hvm : u.vm = U.vm) (h : Nw u) : Nw U := by
  refine ⟨fun w hw => ?_, fun q hq => ?_⟩
  · rcases nw_shape (List.mem_filter.mp hw).2 with ⟨a, i, x, b, rfl⟩ | ⟨a, b, rfl⟩ | ⟨x, rfl⟩
    · exact va_Nw.same rfl hvm (h.1 _ hw)
    · exact va_Nw.same rfl hvm (h.1 _ hw)
    · exact va_Nw.same rfl hvm (h.1 _ hw)
  · obtain ⟨a, ha⟩ := h.2 q hq
    exact ⟨a, vk_R.same hvm.symm ha⟩
section Reads
variable {p : Program} {l : Launch} {e : Env} {R : Room} {s : State} {m : MethodId} {args : Array Value} {below : List Frame} {meth : Method} {c : Code} {H : Heap} {locs : List Loc} {cells slots : Nat} {Q : State → Prop}
theorem rd_go {g : JFrame} {rest : List Value} {v : Option Value} {a : Array Value} (hr : CallRun p l e R s m args below meth c H locs cells slots 0 0 g rest (QcV v a) (fun _ => False)) (kk : W p l e R s m args below meth c H locs cells slots Q { g with pc := g.pc + 3, stack := v.toList ++ rest }) : W p l e R s m args below meth c H locs cells slots Q g := by
  intro T hT X
  obtain ⟨v', st₀, t, T', L, h0, X', hL, e1, ⟨hv, hh⟩, st⟩ := hr T hT X
  cases hv
  obtain ⟨t2, a1, b1⟩ := kk T' (by rw [e1, hh, h0]) (Stand.forget X' (fun q h => (hL q h).elim))
  exact ⟨t2, st t2 a1, b1⟩
end Reads
/-- the context of a walk: the machine, the code, the words -/
def Cx (p : Program) (m : MethodId) (c : Code) (cc : ByteArray) (nL : Nat) (s : State) (args : Array Value) (own : String) : Prop := p.tables.exec = Jvm.exec ∧ c.code = cc ∧ c.maxLocals = nL ∧ s.vm.findClass own = some m.cls ∧ ∀ w ∈ AW, w.before args s = true
/-- a pure function of ints: its contract -/
def PcN (av : List Value) : Array Value → State → Prop := fun v U => v = av.toArray ∧ Nw U
theorem pcn_blind (av : List Value) : FrameBlind (PcN av) := fun a U g mk h => ⟨h.1, Nw.same (u := U) (U := U.calling g mk a) rfl h.2⟩
theorem pcn_pre {s : State} {H : Heap} (As : List Value) (h : Nw s) : PreS s H (PcN As) As := ⟨pcn_blind As, fun U _ hW => ⟨rfl, Nw.warm hW h⟩⟩
section Pure
variable {p : Program} {l : Launch} {e : Env} {R : Room} {s : State} {m : MethodId} {args : Array Value} {below : List Frame} {meth : Method} {c : Code} {H : Heap} {locs : List Loc} {cells slots : Nat} {Q : State → Prop}
/-- a call of a static method that only reads -/
theorem ca_S {cc bytes : ByteArray} {nL maxL index pc : Nat} {own : String} {y : MethodName} {ret : Option FieldType} {rm : Room} {As rest st0 : List Value} {ls : Array Slot} {v : Option Value} {Pc : Array Value → State → Prop}
    (C : Cx p m c cc nL s args own) (hM : Met l y (Cond.code y bytes maxL ret :: AW) rm Pc (QcV v) 0 0 (fun _ => False)) (hp : PreS s H Pc As)
    (h1 : Cond.code y bytes maxL ret ∈ AW) (h2 : Cond.methodLink own index y ∈ AW) (h3 : Cond.static y ∈ AW) (h4 : Cond.initialized y.cls ∈ AW) (hrc : rm.cells = 0 ∧ rm.slots = 0) (n : Nat)
    (hd : y.cls ≠ "java/lang/invoke/MethodHandle" ∧ y.cls ≠ "java/lang/invoke/VarHandle" ∧ (parseMethodDescriptor y.desc).map (fun d => d.parameters.length) = some n) (hn : As.length = n) (hR : rm.frames + 1 ≤ R.frames ∧ 8 + (maxL + 11) + rm.locals ≤ R.locals)
    (hsize : ls.size = nL) (hst : st0 = As.reverse ++ rest) (hrest : (rest.map fun v => v.category).sum ≤ 8) (hdg : decode cc pc = .ok (.invokestatic index, 3)) (hcs : cells ≤ R.cells ∧ slots ≤ R.slots)
    (kk : W p l e R s m args below meth c H locs cells slots Q (F0 m (pc + 3) ls (v.toList ++ rest))) : W p l e R s m args below meth c H locs cells slots Q (F0 m pc ls st0) := by
  subst hst
  subst hn
  obtain ⟨hx, hb, hml, hown, hts⟩ := C
  refine rd_go (W.runS (g := F0 m pc ls (As.reverse ++ rest)) (As := As) (rest := rest) ⟨hx, hb, hml, hown, hts⟩ hM ⟨callB_of As.length hts (aw_ina h1) rfl hrc.1 hrc.2 (hts _ h4) (hts _ h2) hd hR, hts _ h3⟩ hp rfl rfl hsize rfl (lv_room hrest) hdg hcs) kk
end Pure
end
section
/-! Ints of the machine by integers: rows that reckon with integers. -/
def ii (k : Int) : Int32 := Int32.ofInt k
abbrev rg (k : Int) : Prop := -2147483648 ≤ k ∧ k < 2147483648
theorem ii_toInt {k : Int} (h : rg k) : (ii k).toInt = k := by
  unfold ii
  rw [Int32.toInt_ofInt]
  have hs : ((Int32.size : Nat) : Int) = 4294967296 := rfl
  exact Int.bmod_eq_of_le (by omega) (by omega)
theorem ii_nI (n : Nat) : ii (n : Int) = nI n := by
  unfold ii nI
  exact Int32.ofInt_eq_ofNat
theorem ii_add (a b : Int) : ii a + ii b = ii (a + b) := (Int32.ofInt_add a b).symm
theorem ii_sub (a b : Int) : ii a - ii b = ii (a - b) := (Int32.ofInt_sub a b).symm
theorem ii_mul (a b : Int) : ii a * ii b = ii (a * b) := (Int32.ofInt_mul a b).symm
theorem ii_lt {a b : Int} (ha : rg a) (hb : rg b) : ii a < ii b ↔ a < b := by
  rw [Int32.lt_iff_toInt_lt, ii_toInt ha, ii_toInt hb]
theorem ii_le {a b : Int} (ha : rg a) (hb : rg b) : ii a ≤ ii b ↔ a ≤ b := by
  rw [Int32.le_iff_toInt_le, ii_toInt ha, ii_toInt hb]
theorem ii_eq {a b : Int} (ha : rg a) (hb : rg b) : ii a = ii b ↔ a = b := by
  rw [← Int32.toInt_inj, ii_toInt ha, ii_toInt hb]
theorem ii_0 : ii 0 = 0 := by decide +kernel
theorem ii_of (x : Int32) : ∃ k : Int, rg k ∧ x = ii k := by
  refine ⟨x.toInt, ⟨by have := Int32.le_toInt x; omega, by have := Int32.toInt_lt x; omega⟩, ?_⟩
  unfold ii
  rw [Int32.ofInt_toInt]
theorem ii_rem {a d : Int} (h0 : 0 ≤ a) (h1 : a < 2147483648) (hd : 0 < d) (h2 : d < 2147483648) : ii a - ii a / ii d * ii d = ii (a % d) := by
  obtain ⟨n, rfl⟩ := Int.eq_ofNat_of_zero_le h0
  obtain ⟨k, rfl⟩ := Int.eq_ofNat_of_zero_le (show 0 ≤ d by omega)
  rw [ii_nI, ii_nI, pk_rem (by omega) (by omega) (by omega), ← ii_nI, Int.natCast_emod]
section Ints
variable {p : Program} {l : Launch} {e : Env} {R : Room} {s : State} {m : MethodId} {args : Array Value} {below : List Frame} {meth : Method} {c : Code} {H : Heap} {locs : List Loc} {cells slots : Nat} {Q : State → Prop}
variable {cc : ByteArray} {nL pc : Nat} {own : String} {ls : Array Slot} {rest : List Value}
theorem i_add (C : Cx p m c cc nL s args own) {a b : Int} (hdg : decode cc pc = .ok (.iadd, 1)) (k : W p l e R s m args below meth c H locs cells slots Q (F0 m (pc + 1) ls (.int (ii (a + b)) :: rest))) : W p l e R s m args below meth c H locs cells slots Q (F0 m pc ls (.int (ii b) :: .int (ii a) :: rest)) := lv_iadd C.1 C.2.1 hdg (by rw [ii_add]; exact k)
theorem i_sub (C : Cx p m c cc nL s args own) {a b : Int} (hdg : decode cc pc = .ok (.isub, 1)) (k : W p l e R s m args below meth c H locs cells slots Q (F0 m (pc + 1) ls (.int (ii (a - b)) :: rest))) : W p l e R s m args below meth c H locs cells slots Q (F0 m pc ls (.int (ii b) :: .int (ii a) :: rest)) := lv_isub C.1 C.2.1 hdg (by rw [ii_sub]; exact k)
theorem i_mul (C : Cx p m c cc nL s args own) {a b : Int} (hdg : decode cc pc = .ok (.imul, 1)) (k : W p l e R s m args below meth c H locs cells slots Q (F0 m (pc + 1) ls (.int (ii (a * b)) :: rest))) : W p l e R s m args below meth c H locs cells slots Q (F0 m pc ls (.int (ii b) :: .int (ii a) :: rest)) := lv_imul C.1 C.2.1 hdg (by rw [ii_mul]; exact k)
theorem i_rem (C : Cx p m c cc nL s args own) {a d : Int} (hdg : decode cc pc = .ok (.irem, 1)) (h0 : 0 ≤ a ∧ a < 2147483648) (hd : 0 < d ∧ d < 2147483648) (k : W p l e R s m args below meth c H locs cells slots Q (F0 m (pc + 1) ls (.int (ii (a % d)) :: rest))) : W p l e R s m args below meth c H locs cells slots Q (F0 m pc ls (.int (ii d) :: .int (ii a) :: rest)) :=
  lv_irem C.1 C.2.1 hdg (fun z => by rw [← ii_0, ii_eq ⟨by omega, by omega⟩ ⟨by omega, by omega⟩] at z; omega) (by rw [ii_rem h0.1 h0.2 hd.1 hd.2]; exact k)
theorem i_const (C : Cx p m c cc nL s args own) {n : Int} (hdg : decode cc pc = .ok (.iconst n, 1)) (k : W p l e R s m args below meth c H locs cells slots Q (F0 m (pc + 1) ls (.int (ii n) :: rest))) : W p l e R s m args below meth c H locs cells slots Q (F0 m pc ls rest) := lv_iconst C.1 C.2.1 hdg rfl k
theorem i_bipush (C : Cx p m c cc nL s args own) {n : Int} (hdg : decode cc pc = .ok (.bipush n, 2)) (hn : (Int8.ofInt n).toInt32 = ii n) (k : W p l e R s m args below meth c H locs cells slots Q (F0 m (pc + 2) ls (.int (ii n) :: rest))) : W p l e R s m args below meth c H locs cells slots Q (F0 m pc ls rest) := lv_bipush C.1 C.2.1 hdg hn k
theorem i_sipush (C : Cx p m c cc nL s args own) {n : Int} (hdg : decode cc pc = .ok (.sipush n, 3)) (hn : (Int16.ofInt n).toInt32 = ii n) (k : W p l e R s m args below meth c H locs cells slots Q (F0 m (pc + 3) ls (.int (ii n) :: rest))) : W p l e R s m args below meth c H locs cells slots Q (F0 m pc ls rest) := lv_sipush C.1 C.2.1 hdg hn k
theorem i_ldc (C : Cx p m c cc nL s args own) {i : Nat} {n : Int} {v : Int32} (hdg : decode cc pc = .ok (.ldc i, 2)) (hw : Cond.constant own i v ∈ AW) (hv : v = ii n) (k : W p l e R s m args below meth c H locs cells slots Q (F0 m (pc + 2) ls (.int (ii n) :: rest))) : W p l e R s m args below meth c H locs cells slots Q (F0 m pc ls rest) := by
  subst hv
  exact lv_ldc C.1 C.2.1 C.2.2.2.1 (C.2.2.2.2 _ hw) hdg k
/-- one value on the stack replaced by an equal one -/
theorem i_top {a b : Int} (h : a = b) (k : W p l e R s m args below meth c H locs cells slots Q (F0 m pc ls (.int (ii b) :: rest))) : W p l e R s m args below meth c H locs cells slots Q (F0 m pc ls (.int (ii a) :: rest)) := by rw [h]; exact k
theorem i_icmp_eq (C : Cx p m c cc nL s args own) {a b : Int} {off : Int} {tgt : Nat} (hdg : decode cc pc = .ok (.if_icmp .eq off, 3)) (ht : (pc : Int) + off = (tgt : Int)) (ha : rg a) (hb : rg b) (kt : a = b → W p l e R s m args below meth c H locs cells slots Q (F0 m tgt ls rest)) (kf : ¬ (a = b) → W p l e R s m args below meth c H locs cells slots Q (F0 m (pc + 3) ls rest)) : W p l e R s m args below meth c H locs cells slots Q (F0 m pc ls (.int (ii b) :: .int (ii a) :: rest)) := lv_icmp_eq C.1 C.2.1 hdg ht (fun h => kt ((ii_eq ha hb).mp h)) (fun h => kf (fun z => h ((ii_eq ha hb).mpr z)))
theorem i_icmp_ne (C : Cx p m c cc nL s args own) {a b : Int} {off : Int} {tgt : Nat} (hdg : decode cc pc = .ok (.if_icmp .ne off, 3)) (ht : (pc : Int) + off = (tgt : Int)) (ha : rg a) (hb : rg b) (kt : ¬ a = b → W p l e R s m args below meth c H locs cells slots Q (F0 m tgt ls rest)) (kf : ¬ (¬ a = b) → W p l e R s m args below meth c H locs cells slots Q (F0 m (pc + 3) ls rest)) : W p l e R s m args below meth c H locs cells slots Q (F0 m pc ls (.int (ii b) :: .int (ii a) :: rest)) := lv_icmp_ne C.1 C.2.1 hdg ht (fun h => kt (fun z => h ((ii_eq ha hb).mpr z))) (fun h => kf (fun z => z ((ii_eq ha hb).mp h)))
theorem i_icmp_lt (C : Cx p m c cc nL s args own) {a b : Int} {off : Int} {tgt : Nat} (hdg : decode cc pc = .ok (.if_icmp .lt off, 3)) (ht : (pc : Int) + off = (tgt : Int)) (ha : rg a) (hb : rg b) (kt : a < b → W p l e R s m args below meth c H locs cells slots Q (F0 m tgt ls rest)) (kf : ¬ (a < b) → W p l e R s m args below meth c H locs cells slots Q (F0 m (pc + 3) ls rest)) : W p l e R s m args below meth c H locs cells slots Q (F0 m pc ls (.int (ii b) :: .int (ii a) :: rest)) := lv_icmp_lt C.1 C.2.1 hdg ht (fun h => kt ((ii_lt ha hb).mp h)) (fun h => kf (fun z => h ((ii_lt ha hb).mpr z)))
theorem i_icmp_ge (C : Cx p m c cc nL s args own) {a b : Int} {off : Int} {tgt : Nat} (hdg : decode cc pc = .ok (.if_icmp .ge off, 3)) (ht : (pc : Int) + off = (tgt : Int)) (ha : rg a) (hb : rg b) (kt : b ≤ a → W p l e R s m args below meth c H locs cells slots Q (F0 m tgt ls rest)) (kf : ¬ (b ≤ a) → W p l e R s m args below meth c H locs cells slots Q (F0 m (pc + 3) ls rest)) : W p l e R s m args below meth c H locs cells slots Q (F0 m pc ls (.int (ii b) :: .int (ii a) :: rest)) := lv_icmp_ge C.1 C.2.1 hdg ht (fun h => kt ((ii_le hb ha).mp h)) (fun h => kf (fun z => h ((ii_le hb ha).mpr z)))
theorem i_icmp_gt (C : Cx p m c cc nL s args own) {a b : Int} {off : Int} {tgt : Nat} (hdg : decode cc pc = .ok (.if_icmp .gt off, 3)) (ht : (pc : Int) + off = (tgt : Int)) (ha : rg a) (hb : rg b) (kt : b < a → W p l e R s m args below meth c H locs cells slots Q (F0 m tgt ls rest)) (kf : ¬ (b < a) → W p l e R s m args below meth c H locs cells slots Q (F0 m (pc + 3) ls rest)) : W p l e R s m args below meth c H locs cells slots Q (F0 m pc ls (.int (ii b) :: .int (ii a) :: rest)) := lv_icmp_gt C.1 C.2.1 hdg ht (fun h => kt ((ii_lt hb ha).mp h)) (fun h => kf (fun z => h ((ii_lt hb ha).mpr z)))
theorem i_icmp_le (C : Cx p m c cc nL s args own) {a b : Int} {off : Int} {tgt : Nat} (hdg : decode cc pc = .ok (.if_icmp .le off, 3)) (ht : (pc : Int) + off = (tgt : Int)) (ha : rg a) (hb : rg b) (kt : a ≤ b → W p l e R s m args below meth c H locs cells slots Q (F0 m tgt ls rest)) (kf : ¬ (a ≤ b) → W p l e R s m args below meth c H locs cells slots Q (F0 m (pc + 3) ls rest)) : W p l e R s m args below meth c H locs cells slots Q (F0 m pc ls (.int (ii b) :: .int (ii a) :: rest)) := lv_icmp_le C.1 C.2.1 hdg ht (fun h => kt ((ii_le ha hb).mp h)) (fun h => kf (fun z => h ((ii_le ha hb).mpr z)))
theorem i_if_eq (C : Cx p m c cc nL s args own) {a : Int} {off : Int} {tgt : Nat} (hdg : decode cc pc = .ok (.ifCond .eq off, 3)) (ht : (pc : Int) + off = (tgt : Int)) (ha : rg a) (kt : a = 0 → W p l e R s m args below meth c H locs cells slots Q (F0 m tgt ls rest)) (kf : ¬ (a = 0) → W p l e R s m args below meth c H locs cells slots Q (F0 m (pc + 3) ls rest)) : W p l e R s m args below meth c H locs cells slots Q (F0 m pc ls (.int (ii a) :: rest)) := by
  have hb : rg 0 := ⟨by omega, by omega⟩
  exact lv_if_eq C.1 C.2.1 hdg ht (fun h => kt ((ii_eq ha hb).mp (by rw [ii_0]; exact h))) (fun h => kf (fun z => h (by rw [← ii_0]; exact (ii_eq ha hb).mpr z)))
theorem i_if_ne (C : Cx p m c cc nL s args own) {a : Int} {off : Int} {tgt : Nat} (hdg : decode cc pc = .ok (.ifCond .ne off, 3)) (ht : (pc : Int) + off = (tgt : Int)) (ha : rg a) (kt : ¬ a = 0 → W p l e R s m args below meth c H locs cells slots Q (F0 m tgt ls rest)) (kf : ¬ (¬ a = 0) → W p l e R s m args below meth c H locs cells slots Q (F0 m (pc + 3) ls rest)) : W p l e R s m args below meth c H locs cells slots Q (F0 m pc ls (.int (ii a) :: rest)) := by
  have hb : rg 0 := ⟨by omega, by omega⟩
  exact lv_if_ne C.1 C.2.1 hdg ht (fun h => kt (fun z => h (by rw [z]; exact ii_0))) (fun h => kf (fun z => z ((ii_eq ha hb).mp (by rw [ii_0]; exact h))))
theorem i_if_lt (C : Cx p m c cc nL s args own) {a : Int} {off : Int} {tgt : Nat} (hdg : decode cc pc = .ok (.ifCond .lt off, 3)) (ht : (pc : Int) + off = (tgt : Int)) (ha : rg a) (kt : a < 0 → W p l e R s m args below meth c H locs cells slots Q (F0 m tgt ls rest)) (kf : ¬ (a < 0) → W p l e R s m args below meth c H locs cells slots Q (F0 m (pc + 3) ls rest)) : W p l e R s m args below meth c H locs cells slots Q (F0 m pc ls (.int (ii a) :: rest)) := by
  have hb : rg 0 := ⟨by omega, by omega⟩
  exact lv_if_lt C.1 C.2.1 hdg ht (fun h => kt ((ii_lt ha hb).mp (by rw [ii_0]; exact h))) (fun h => kf (fun z => h (by rw [← ii_0]; exact (ii_lt ha hb).mpr z)))
theorem i_if_ge (C : Cx p m c cc nL s args own) {a : Int} {off : Int} {tgt : Nat} (hdg : decode cc pc = .ok (.ifCond .ge off, 3)) (ht : (pc : Int) + off = (tgt : Int)) (ha : rg a) (kt : 0 ≤ a → W p l e R s m args below meth c H locs cells slots Q (F0 m tgt ls rest)) (kf : ¬ (0 ≤ a) → W p l e R s m args below meth c H locs cells slots Q (F0 m (pc + 3) ls rest)) : W p l e R s m args below meth c H locs cells slots Q (F0 m pc ls (.int (ii a) :: rest)) := by
  have hb : rg 0 := ⟨by omega, by omega⟩
  exact lv_if_ge C.1 C.2.1 hdg ht (fun h => kt ((ii_le hb ha).mp (by rw [ii_0]; exact h))) (fun h => kf (fun z => h (by rw [← ii_0]; exact (ii_le hb ha).mpr z)))
theorem i_if_gt (C : Cx p m c cc nL s args own) {a : Int} {off : Int} {tgt : Nat} (hdg : decode cc pc = .ok (.ifCond .gt off, 3)) (ht : (pc : Int) + off = (tgt : Int)) (ha : rg a) (kt : 0 < a → W p l e R s m args below meth c H locs cells slots Q (F0 m tgt ls rest)) (kf : ¬ (0 < a) → W p l e R s m args below meth c H locs cells slots Q (F0 m (pc + 3) ls rest)) : W p l e R s m args below meth c H locs cells slots Q (F0 m pc ls (.int (ii a) :: rest)) := by
  have hb : rg 0 := ⟨by omega, by omega⟩
  exact lv_if_gt C.1 C.2.1 hdg ht (fun h => kt ((ii_lt hb ha).mp (by rw [ii_0]; exact h))) (fun h => kf (fun z => h (by rw [← ii_0]; exact (ii_lt hb ha).mpr z)))
theorem i_if_le (C : Cx p m c cc nL s args own) {a : Int} {off : Int} {tgt : Nat} (hdg : decode cc pc = .ok (.ifCond .le off, 3)) (ht : (pc : Int) + off = (tgt : Int)) (ha : rg a) (kt : a ≤ 0 → W p l e R s m args below meth c H locs cells slots Q (F0 m tgt ls rest)) (kf : ¬ (a ≤ 0) → W p l e R s m args below meth c H locs cells slots Q (F0 m (pc + 3) ls rest)) : W p l e R s m args below meth c H locs cells slots Q (F0 m pc ls (.int (ii a) :: rest)) := by
  have hb : rg 0 := ⟨by omega, by omega⟩
  exact lv_if_le C.1 C.2.1 hdg ht (fun h => kt ((ii_le ha hb).mp (by rw [ii_0]; exact h))) (fun h => kf (fun z => h (by rw [← ii_0]; exact (ii_le ha hb).mpr z)))
end Ints
/-- the head of a method that only reads ints and tables -/
theorem mt_pure {l : Launch} {y : MethodName} {cc : ByteArray} {maxL : Nat} {ret : Option FieldType} {rm : Room} {av : List Value} {v : Option Value} (hy : plainName y.cls = true) (hn : (lg_sl av).length ≤ maxL)
    (body : ∀ p e s m args below meth c, Cx p m c cc maxL s args y.cls → Nw s → meth.sig.returnType = ret → meth.locks = false → ∀ ls, lv_has ls maxL (lv_args 0 av) → W p l e rm s m args below meth c s.heap [] 0 0 (MQ below (QcV v) args s 0 0 (fun _ => False)) (F0 m 0 ls [])) :
    Met l y (Cond.code y cc maxL ret :: AW) rm (PcN av) (QcV v) 0 0 (fun _ => False) := by
  refine Met.ofW (cc := cc) (maxL := maxL) (ret := ret) hy rfl ?_
  intro p e s m args below meth c s₁ B hml hv
  obtain ⟨rfl, hN⟩ := hv
  have hts := atoms_spec (ws := Cond.code y cc maxL ret :: AW) B.pre
  have hl := lv_entry av (n := maxL) hn
  rw [lg_entry_eq]
  generalize (lg_sl av ++ List.replicate (maxL - (lg_sl av).length) Slot.unset).toArray = ls at hl ⊢
  exact body p e s m _ below meth c ⟨B.exec, B.bytes, hml, findClass_of_methodNamed B.named, fun w h => hts w (List.mem_cons_of_mem _ h)⟩ hN B.returns B.notSynchronized ls hl
section Ends
variable {p : Program} {l : Launch} {e : Env} {R : Room} {s : State} {m : MethodId} {args : Array Value} {below : List Frame} {meth : Method} {c : Code}
variable {cc : ByteArray} {nL pc : Nat} {own : String} {ls : Array Slot}
theorem rt_i (C : Cx p m c cc nL s args own) (hr : meth.sig.returnType = some .int) (hk : meth.locks = false) {a : Int} {v : Int32} (hdg : decode cc pc = .ok (.ireturn, 1)) (hv : ii a = v) : W p l e R s m args below meth c s.heap [] 0 0 (MQ below (QcV (some (.int v))) args s 0 0 (fun _ => False)) (F0 m pc ls [.int (ii a)]) := by
  subst hv
  exact W.iret C.1 C.2.1 hr (fun t ht _ => ⟨rfl, ht⟩) (fun q h => by cases h) hdg hk
theorem rt_z (C : Cx p m c cc nL s args own) (hr : meth.sig.returnType = some .boolean) (hk : meth.locks = false) {a : Int} {v : Int32} (hdg : decode cc pc = .ok (.ireturn, 1)) (h01 : a = 0 ∨ a = 1) (hv : ii a = v) : W p l e R s m args below meth c s.heap [] 0 0 (MQ below (QcV (some (.int v))) args s 0 0 (fun _ => False)) (F0 m pc ls [.int (ii a)]) := by
  subst hv
  exact W.zret C.1 C.2.1 hr (by rcases h01 with rfl | rfl <;> decide +kernel) (fun t ht _ => ⟨rfl, ht⟩) (fun q h => by cases h) hdg hk
end Ends
end
section
/-! More rows: signed remainder, division, signs, longs, calls inside the nest. -/
theorem ii_div {a d : Int} (ha : rg a) (hd : 0 < d ∧ d < 2147483648) : ii a / ii d = ii (a.tdiv d) := by
  apply Int32.toInt_inj.mp
  have h1 : (ii d) ≠ -1 := by
    intro z
    have := congrArg Int32.toInt z
    rw [ii_toInt ⟨by omega, by omega⟩] at this
    have e : ((-1 : Int32)).toInt = -1 := by decide +kernel
    omega
  rw [Int32.toInt_div_of_ne_right _ _ h1, ii_toInt ha, ii_toInt ⟨by omega, by omega⟩]
  have b : rg (a.tdiv d) := by
    rcases Int.le_total 0 a with h0 | h0
    · rw [Int.tdiv_eq_ediv_of_nonneg h0]
      have k1 := Int.ediv_nonneg h0 (show 0 ≤ d by omega)
      have k2 := Int.ediv_le_self d h0
      constructor <;> omega
    · have e : a = -(-a) := by omega
      rw [e, Int.neg_tdiv, Int.tdiv_eq_ediv_of_nonneg (show 0 ≤ -a by omega)]
      have k1 := Int.ediv_nonneg (show 0 ≤ -a by omega) (show 0 ≤ d by omega)
      have k2 := Int.ediv_le_self d (show 0 ≤ -a by omega)
      constructor <;> omega
  rw [ii_toInt b]
theorem ii_remT {a d : Int} (ha : rg a) (hd : 0 < d ∧ d < 2147483648) : ii a - ii a / ii d * ii d = ii (a.tmod d) := by
  rw [ii_div ha hd, ii_mul, ii_sub, Int.tmod_def, Int.mul_comm]
theorem tmod_emod {a d : Int} (hd : 0 < d) : a % d = if a.tmod d < 0 then a.tmod d + d else a.tmod d := by
  rw [Int.tmod_eq_emod]
  have h1 := Int.emod_nonneg a (show d ≠ 0 by omega)
  have h2 := Int.emod_lt_of_pos a hd
  split
  · split <;> omega
  · split
    · omega
    · omega
theorem ii_neg {k : Int} (h : rg k) : (ii k).toBitVec.msb = decide (k < 0) := by
  rw [BitVec.msb_eq_toInt]
  show decide ((ii k).toInt < 0) = decide (k < 0)
  rw [ii_toInt h]
theorem ii_xor {a b : Int} (ha : rg a) (hb : rg b) : (0 ≤ ii a ^^^ ii b) ↔ (a < 0 ↔ b < 0) := by
  rw [Int32.le_iff_toInt_le]
  have e0 : (0 : Int32).toInt = 0 := rfl
  rw [e0]
  have h : (ii a ^^^ ii b).toBitVec.msb = (decide (a < 0) ^^ decide (b < 0)) := by
    rw [Int32.toBitVec_xor, BitVec.msb_xor, ii_neg ha, ii_neg hb]
  rw [BitVec.msb_eq_toInt] at h
  have h : decide ((ii a ^^^ ii b).toInt < 0) = (decide (a < 0) ^^ decide (b < 0)) := h
  by_cases h1 : a < 0 <;> by_cases h2 : b < 0 <;> simp [h1, h2] at h ⊢ <;> omega
section More
variable {p : Program} {l : Launch} {e : Env} {R : Room} {s : State} {m : MethodId} {args : Array Value} {below : List Frame} {meth : Method} {c : Code} {H : Heap} {locs : List Loc} {cells slots : Nat} {Q : State → Prop}
variable {cc : ByteArray} {nL pc : Nat} {own : String} {ls : Array Slot} {rest : List Value}
theorem i_remT (C : Cx p m c cc nL s args own) {a d : Int} (hdg : decode cc pc = .ok (.irem, 1)) (ha : rg a) (hd : 0 < d ∧ d < 2147483648) (k : W p l e R s m args below meth c H locs cells slots Q (F0 m (pc + 1) ls (.int (ii (a.tmod d)) :: rest))) : W p l e R s m args below meth c H locs cells slots Q (F0 m pc ls (.int (ii d) :: .int (ii a) :: rest)) :=
  lv_irem C.1 C.2.1 hdg (fun z => by rw [← ii_0, ii_eq ⟨by omega, by omega⟩ ⟨by omega, by omega⟩] at z; omega) (by rw [ii_remT ha hd]; exact k)
theorem i_div (C : Cx p m c cc nL s args own) {a d : Int} (hdg : decode cc pc = .ok (.idiv, 1)) (h0 : 0 ≤ a ∧ a < 2147483648) (hd : 0 < d ∧ d < 2147483648) (k : W p l e R s m args below meth c H locs cells slots Q (F0 m (pc + 1) ls (.int (ii (a / d)) :: rest))) : W p l e R s m args below meth c H locs cells slots Q (F0 m pc ls (.int (ii d) :: .int (ii a) :: rest)) :=
  lv_idiv C.1 C.2.1 hdg (fun z => by rw [← ii_0, ii_eq ⟨by omega, by omega⟩ ⟨by omega, by omega⟩] at z; omega) (by rw [ii_div ⟨by omega, by omega⟩ hd, Int.tdiv_eq_ediv_of_nonneg h0.1]; exact k)
/-- a call of a static method of a nest mate that only reads -/
theorem ca_SN {bytes : ByteArray} {maxL index : Nat} {host : String} {y : MethodName} {ret : Option FieldType} {rm : Room} {As st0 : List Value} {v : Option Value} {Pc : Array Value → State → Prop}
    (C : Cx p m c cc nL s args own) (hM : Met l y (Cond.code y bytes maxL ret :: AW) rm Pc (QcV v) 0 0 (fun _ => False)) (hN : Nw s) (hp : PreS s H Pc As)
    (h1 : Cond.code y bytes maxL ret ∈ AW) (h2 : Cond.methodLinkNest own index y host ∈ NWL) (h3 : Cond.static y ∈ AW) (h4 : Cond.initialized y.cls ∈ AW) (hrc : rm.cells = 0 ∧ rm.slots = 0) (n : Nat)
    (hd : y.cls ≠ "java/lang/invoke/MethodHandle" ∧ y.cls ≠ "java/lang/invoke/VarHandle" ∧ (parseMethodDescriptor y.desc).map (fun d => d.parameters.length) = some n) (hn : As.length = n) (hR : rm.frames + 1 ≤ R.frames ∧ 8 + (maxL + 11) + rm.locals ≤ R.locals)
    (hsize : ls.size = nL) (hst : st0 = As.reverse ++ rest) (hrest : (rest.map fun v => v.category).sum ≤ 8) (hdg : decode cc pc = .ok (.invokestatic index, 3)) (hcs : cells ≤ R.cells ∧ slots ≤ R.slots)
    (kk : W p l e R s m args below meth c H locs cells slots Q (F0 m (pc + 3) ls (v.toList ++ rest))) : W p l e R s m args below meth c H locs cells slots Q (F0 m pc ls st0) := by
  subst hst
  subst hn
  obtain ⟨hx, hb, hml, hown, hts⟩ := C
  have hr := va_runSN (l := l) (e := e) (R := R) (below := below) (meth := meth) (H := H) (locs := locs) (cells := cells) (slots := slots) (g := F0 m pc ls (As.reverse ++ rest)) (As := As) (rest := rest) ⟨hx, hb, hml, hown, hts⟩ hM ⟨va_cnB As.length hts (aw_ina h1) rfl hrc.1 hrc.2 (hN.1 _ h2) (hts _ h4) hd hR, hts _ h3, trivial⟩ hp rfl rfl hsize rfl (lv_room hrest) hdg hcs
  intro T hT X
  obtain ⟨v', st₀, t, T', L, h0, X', hL, e1, e2, ⟨hv, hh⟩, st⟩ := hr T hT X
  cases hv
  obtain ⟨t2, a1, b1⟩ := kk T' (by rw [e1, hh, h0]) (Stand.forget X' (fun q h => (hL q h).elim))
  exact ⟨t2, st t2 a1, b1⟩
end More
theorem nw_X0_31 : Cond.methodLinkNest RX0 31 yX1_cubic RX1 ∈ NWL := List.mem_filter.mpr ⟨List.mem_of_getElem? (i := 170) (by decide +kernel), rfl⟩
theorem nw_X0_39 : Cond.methodLinkNest RX0 39 yX1_pointAt RX1 ∈ NWL := List.mem_filter.mpr ⟨List.mem_of_getElem? (i := 174) (by decide +kernel), rfl⟩
theorem nw_X0_48 : Cond.methodLinkNest RX0 48 yX1_xOf RX1 ∈ NWL := List.mem_filter.mpr ⟨List.mem_of_getElem? (i := 268) (by decide +kernel), rfl⟩
theorem nw_X0_52 : Cond.methodLinkNest RX0 52 yX1_yOf RX1 ∈ NWL := List.mem_filter.mpr ⟨List.mem_of_getElem? (i := 271) (by decide +kernel), rfl⟩
theorem nw_X0_60 : Cond.methodLinkNest RX0 60 yX1_quotient RX1 ∈ NWL := List.mem_filter.mpr ⟨List.mem_of_getElem? (i := 279) (by decide +kernel), rfl⟩
theorem nw_X0_94 : Cond.methodLinkNest RX0 94 yX1_inverse RX1 ∈ NWL := List.mem_filter.mpr ⟨List.mem_of_getElem? (i := 427) (by decide +kernel), rfl⟩
/-- the same head for a method of java.lang.Math that is run by its code -/
theorem mt_pureF {l : Launch} {y : MethodName} {cc : ByteArray} {maxL : Nat} {ret : Option FieldType} {rm : Room} {av : List Value} {v : Option Value} (hy : plainFor y = true) (hn : (lg_sl av).length ≤ maxL)
    (body : ∀ p e s m args below meth c, Cx p m c cc maxL s args y.cls → Nw s → meth.sig.returnType = ret → meth.locks = false → ∀ ls, lv_has ls maxL (lv_args 0 av) → W p l e rm s m args below meth c s.heap [] 0 0 (MQ below (QcV v) args s 0 0 (fun _ => False)) (F0 m 0 ls [])) :
    Met l y (Cond.code y cc maxL ret :: AW) rm (PcN av) (QcV v) 0 0 (fun _ => False) := by
  refine MetFree.of_bodySF (code := cc) (maxLocals := maxL) (ret := ret) hy ?_ ?_
  · intro args s m h hn
    obtain ⟨meth, c, h1, h2, h3, h4, h5, h6, -, -⟩ := Cond.code_spec hn (atoms_spec (ws := Cond.code y cc maxL ret :: AW) h _ List.mem_cons_self)
    exact ⟨meth, c, h1, h2, h3, h4, h5, h6⟩
  · intro p e s m args below meth c s₁ B hml hv _
    obtain ⟨rfl, hN⟩ := hv
    have hh0 : s₁.heap = s.heap := by rw [B.state]; rfl
    have hts := atoms_spec (ws := Cond.code y cc maxL ret :: AW) B.pre
    have hl := lv_entry av (n := maxL) hn
    rw [lg_entry_eq]
    generalize (lg_sl av ++ List.replicate (maxL - (lg_sl av).length) Slot.unset).toArray = ls at hl ⊢
    obtain ⟨t, a1, o, b1, b2, b3⟩ := body p e s m _ below meth c ⟨B.exec, B.bytes, hml, findClass_of_methodNamed B.named, fun w h => hts w (List.mem_cons_of_mem _ h)⟩ hN B.returns B.notSynchronized ls hl s₁ hh0 (Stand.of_body B)
    exact ⟨t, o, a1, b1, b2, b3⟩
end
section
/-! The class: pure functions of ints. By wip/whole/tools/gen1.py. -/
theorem sq_b {x p : Int} (h0 : 0 ≤ x) (h1 : x < p) (hp : p ≤ 1100) : 0 ≤ x * x ∧ x * x ≤ 1208900 := by
  refine ⟨Int.mul_nonneg h0 h0, ?_⟩
  have := Int.mul_le_mul (show x ≤ 1099 by omega) (show x ≤ 1099 by omega) h0 (by omega)
  omega
theorem mu_b {x y : Int} (h0 : 0 ≤ x) (h1 : x ≤ 1099) (k0 : 0 ≤ y) (k1 : y ≤ 1099) : 0 ≤ x * y ∧ x * y ≤ 1208900 := by
  refine ⟨Int.mul_nonneg h0 k0, ?_⟩
  have := Int.mul_le_mul h1 k1 k0 (by omega)
  omega
theorem em_b (a : Int) {d : Int} (hd : 0 < d) : 0 ≤ a % d ∧ a % d < d := ⟨Int.emod_nonneg a (by omega), Int.emod_lt_of_pos a hd⟩
set_option maxRecDepth 100000 in
set_option maxHeartbeats 4000000 in
theorem c_X1_cubic (l : Launch) (p a b x : Int) (hp : 5 ≤ p ∧ p ≤ 1021) (ha : 0 ≤ a ∧ a < p) (hb : 0 ≤ b ∧ b < p) (hx0 : 0 ≤ x ∧ x < p) : Met l yX1_cubic (Cond.code yX1_cubic cX1_cubic 4 (some .int) :: AW) { frames := 0, cells := 0, slots := 0, locals := 0 } (PcN [.int (ii p), .int (ii a), .int (ii b), .int (ii x)]) (QcV (some (.int (ii (((x * x + a) % p * x + b) % p))))) 0 0 (fun _ => False) := by
  refine mt_pure (by decide +kernel) (Nat.le_of_ble_eq_true rfl) ?_
  intro P0 E0 S0 M0 A0 B0 T0 K0 C hN hr hk ls hl
  have hl : lv_has ls 4 [(0, .int (ii p)), (1, .int (ii a)), (2, .int (ii b)), (3, .int (ii x))] := hl
  have q1 := sq_b hx0.1 hx0.2 (by omega)
  have q2 := em_b (x * x + a) (show 0 < p by omega)
  have q4 := mu_b q2.1 (by omega) hx0.1 (by omega)
  refine lv_iload_n C.1 C.2.1 dX1_cubic_0 rfl (lv_at hl 3 rfl) ?_
  refine lv_iload_n C.1 C.2.1 dX1_cubic_1 rfl (lv_at hl 3 rfl) ?_
  refine i_mul C dX1_cubic_2 ?_
  refine lv_iload_n C.1 C.2.1 dX1_cubic_3 rfl (lv_at hl 1 rfl) ?_
  refine i_add C dX1_cubic_4 ?_
  refine lv_iload_n C.1 C.2.1 dX1_cubic_5 rfl (lv_at hl 0 rfl) ?_
  refine i_rem C dX1_cubic_6 ⟨by omega, by omega⟩ ⟨by omega, by omega⟩ ?_
  refine lv_iload_n C.1 C.2.1 dX1_cubic_7 rfl (lv_at hl 3 rfl) ?_
  refine i_mul C dX1_cubic_8 ?_
  refine lv_iload_n C.1 C.2.1 dX1_cubic_9 rfl (lv_at hl 2 rfl) ?_
  refine i_add C dX1_cubic_10 ?_
  refine lv_iload_n C.1 C.2.1 dX1_cubic_11 rfl (lv_at hl 0 rfl) ?_
  refine i_rem C dX1_cubic_12 ⟨by omega, by omega⟩ ⟨by omega, by omega⟩ ?_
  exact rt_i C hr hk dX1_cubic_13 rfl
set_option maxRecDepth 100000 in
set_option maxHeartbeats 4000000 in
theorem c_X1_pointAt (l : Launch) (x y : Int) : Met l yX1_pointAt (Cond.code yX1_pointAt cX1_pointAt 2 (some .int) :: AW) { frames := 0, cells := 0, slots := 0, locals := 0 } (PcN [.int (ii x), .int (ii y)]) (QcV (some (.int (ii (x * 65536 + y))))) 0 0 (fun _ => False) := by
  refine mt_pure (by decide +kernel) (Nat.le_of_ble_eq_true rfl) ?_
  intro P0 E0 S0 M0 A0 B0 T0 K0 C hN hr hk ls hl
  have hl : lv_has ls 2 [(0, .int (ii x)), (1, .int (ii y))] := hl
  refine lv_iload_n C.1 C.2.1 dX1_pointAt_0 rfl (lv_at hl 0 rfl) ?_
  refine i_ldc (n := 65536) C dX1_pointAt_1 aw_k_X1_154 (by decide +kernel) ?_
  refine i_mul C dX1_pointAt_3 ?_
  refine lv_iload_n C.1 C.2.1 dX1_pointAt_4 rfl (lv_at hl 1 rfl) ?_
  refine i_add C dX1_pointAt_5 ?_
  exact rt_i C hr hk dX1_pointAt_6 rfl
theorem ii_shr16 {x y : Int} (hx : 0 ≤ x ∧ x < 32768) (hy : 0 ≤ y ∧ y < 65536) : ii (x * 65536 + y) >>> (ii 16 &&& 31) = ii x := by
  obtain ⟨a, rfl⟩ := Int.eq_ofNat_of_zero_le hx.1
  obtain ⟨b, rfl⟩ := Int.eq_ofNat_of_zero_le hy.1
  have e : (a : Int) * 65536 + b = ((a * 65536 + b : Nat) : Int) := by omega
  rw [e, ii_nI, pk_shrN (by omega) _ 16 (by decide +kernel), ii_nI]
  congr 1
  omega
theorem ii_and16 {x y : Int} (hx : 0 ≤ x ∧ x < 32768) (hy : 0 ≤ y ∧ y < 65536) : ii (x * 65536 + y) &&& ii 65535 = ii y := by
  obtain ⟨a, rfl⟩ := Int.eq_ofNat_of_zero_le hx.1
  obtain ⟨b, rfl⟩ := Int.eq_ofNat_of_zero_le hy.1
  have e : (a : Int) * 65536 + b = ((a * 65536 + b : Nat) : Int) := by omega
  rw [e, ii_nI, pk_andN (by omega) 16 (by decide +kernel), ii_nI]
  congr 1
  omega
set_option maxRecDepth 100000 in
set_option maxHeartbeats 4000000 in
theorem c_X1_xOf (l : Launch) (x y : Int) (hx : 0 ≤ x ∧ x < 32768) (hy : 0 ≤ y ∧ y < 65536) : Met l yX1_xOf (Cond.code yX1_xOf cX1_xOf 1 (some .int) :: AW) { frames := 0, cells := 0, slots := 0, locals := 0 } (PcN [.int (ii (x * 65536 + y))]) (QcV (some (.int (ii x)))) 0 0 (fun _ => False) := by
  refine mt_pure (by decide +kernel) (Nat.le_of_ble_eq_true rfl) ?_
  intro P0 E0 S0 M0 A0 B0 T0 K0 C hN hr hk ls hl
  have hl : lv_has ls 1 [(0, .int (ii (x * 65536 + y)))] := hl
  refine lv_iload_n C.1 C.2.1 dX1_xOf_0 rfl (lv_at hl 0 rfl) ?_
  refine i_bipush C dX1_xOf_1 (by decide +kernel) ?_
  refine lv_ishr C.1 C.2.1 dX1_xOf_3 ?_
  rw [ii_shr16 hx hy]
  exact rt_i C hr hk dX1_xOf_4 rfl
set_option maxRecDepth 100000 in
set_option maxHeartbeats 4000000 in
theorem c_X1_yOf (l : Launch) (x y : Int) (hx : 0 ≤ x ∧ x < 32768) (hy : 0 ≤ y ∧ y < 65536) : Met l yX1_yOf (Cond.code yX1_yOf cX1_yOf 1 (some .int) :: AW) { frames := 0, cells := 0, slots := 0, locals := 0 } (PcN [.int (ii (x * 65536 + y))]) (QcV (some (.int (ii y)))) 0 0 (fun _ => False) := by
  refine mt_pure (by decide +kernel) (Nat.le_of_ble_eq_true rfl) ?_
  intro P0 E0 S0 M0 A0 B0 T0 K0 C hN hr hk ls hl
  have hl : lv_has ls 1 [(0, .int (ii (x * 65536 + y)))] := hl
  refine lv_iload_n C.1 C.2.1 dX1_yOf_0 rfl (lv_at hl 0 rfl) ?_
  refine i_ldc (n := 65535) C dX1_yOf_1 aw_k_X1_155 (by decide +kernel) ?_
  refine lv_iand C.1 C.2.1 dX1_yOf_3 ?_
  rw [ii_and16 hx hy]
  exact rt_i C hr hk dX1_yOf_4 rfl
set_option maxRecDepth 100000 in
set_option maxHeartbeats 4000000 in
theorem c_floorModI (l : Launch) (x y : Int) (hx : rg x) (hy : 0 < y ∧ y < 2147483648) : Met l yJM_floorModI (Cond.code yJM_floorModI cJM_floorModI 3 (some .int) :: AW) { frames := 0, cells := 0, slots := 0, locals := 0 } (PcN [.int (ii x), .int (ii y)]) (QcV (some (.int (ii (x % y))))) 0 0 (fun _ => False) := by
  refine mt_pureF (by decide +kernel) (Nat.le_of_ble_eq_true rfl) ?_
  intro P0 E0 S0 M0 A0 B0 T0 K0 C hN hr hk ls hl
  have hl : lv_has ls 3 [(0, .int (ii x)), (1, .int (ii y))] := hl
  refine lv_iload_n C.1 C.2.1 dJM_floorModI_0 rfl (lv_at hl 0 rfl) ?_
  refine lv_iload_n C.1 C.2.1 dJM_floorModI_1 rfl (lv_at hl 1 rfl) ?_
  refine i_remT C dJM_floorModI_2 hx hy ?_
  refine lv_istore_n C.1 C.2.1 dJM_floorModI_3 rfl hl (by decide) rfl (fun ls hl => ?_)
  have hl : lv_has ls 3 [(2, .int (ii (x.tmod y))), (0, .int (ii x)), (1, .int (ii y))] := hl
  refine lv_iload_n C.1 C.2.1 dJM_floorModI_4 rfl (lv_at hl 1 rfl) ?_
  refine lv_iload_n C.1 C.2.1 dJM_floorModI_5 rfl (lv_at hl 2 rfl) ?_
  refine lv_ixor C.1 C.2.1 dJM_floorModI_6 ?_
  have q := tmod_emod (a := x) hy.1
  have z := Int.tmod_nonneg (a := x) y
  have z2 := Int.lt_tmod_of_pos x hy.1
  have z3 := Int.tmod_lt_of_pos x hy.1
  have z4 : x < 0 → x.tmod y ≤ 0 := fun h => by rw [show x = -(-x) by omega, Int.neg_tmod]; have := Int.tmod_nonneg (a := -x) y (by omega); omega
  refine lv_if_ge (tgt := 18) C.1 C.2.1 dJM_floorModI_7 (by decide) (fun hc => ?_) (fun hc => ?_)
  · rw [ii_xor hx ⟨by omega, by omega⟩] at hc
    refine lv_iload_n C.1 C.2.1 dJM_floorModI_18 rfl (lv_at hl 0 rfl) ?_
    exact rt_i C hr hk dJM_floorModI_19 (by rw [q, if_neg (by omega)])
  · rw [ii_xor hx ⟨by omega, by omega⟩] at hc
    refine lv_iload_n C.1 C.2.1 dJM_floorModI_10 rfl (lv_at hl 0 rfl) ?_
    refine i_if_eq (tgt := 18) C dJM_floorModI_11 (by decide) ⟨by omega, by omega⟩ (fun hd => ?_) (fun hd => ?_)
    · refine lv_iload_n C.1 C.2.1 dJM_floorModI_18 rfl (lv_at hl 0 rfl) ?_
      exact rt_i C hr hk dJM_floorModI_19 (by rw [q, if_neg (by omega)])
    · refine lv_iload_n C.1 C.2.1 dJM_floorModI_14 rfl (lv_at hl 0 rfl) ?_
      refine lv_iload_n C.1 C.2.1 dJM_floorModI_15 rfl (lv_at hl 2 rfl) ?_
      refine i_add C dJM_floorModI_16 ?_
      exact rt_i C hr hk dJM_floorModI_17 (by rw [q, if_pos (by omega)])
end
section
/-! The class: loops over ints. By wip/whole/tools/gen2.py. -/
/-- square and multiply, as the class does -/
def pwF (q : Nat) : Nat → Nat → Nat → Nat → Nat
  | 0, r, _, _ => r
  | f + 1, r, s, e => if e = 0 then r else pwF q f (if e % 2 = 1 then r * s % q else r) (s * s % q) (e / 2)
theorem ii_and1 {e : Nat} (h : e < 2147483648) : ii (e : Int) &&& ii 1 = ii ((e % 2 : Nat) : Int) := by
  rw [ii_nI, ii_nI, pk_andN (k := 1) (by omega) (by decide +kernel)]
theorem ii_shr1 {e : Nat} (h : e < 2147483648) : ii (e : Int) >>> (ii 1 &&& 31) = ii ((e / 2 : Nat) : Int) := by
  rw [ii_nI, ii_nI, pk_shrN (k := 1) (by omega) _ (by decide +kernel)]
theorem nmul_b {x y : Nat} (h1 : x ≤ 1100) (k1 : y ≤ 1100) : x * y ≤ 1210000 := Nat.mul_le_mul h1 k1
set_option maxRecDepth 100000 in
set_option maxHeartbeats 4000000 in
theorem c_X1_inverse (l : Launch) (a q : Nat) (ha : a < q) (hq : 2 ≤ q ∧ q ≤ 1100) : Met l yX1_inverse (Cond.code yX1_inverse cX1_inverse 5 (some .int) :: AW) { frames := 0, cells := 0, slots := 0, locals := 0 } (PcN [.int (ii (a : Int)), .int (ii (q : Int))]) (QcV (some (.int (ii (pwF q 11 1 a (q - 2) : Nat))))) 0 0 (fun _ => False) := by
  refine mt_pure (by decide +kernel) (Nat.le_of_ble_eq_true rfl) ?_
  intro P0 E0 S0 M0 A0 B0 T0 K0 C hN hr hk ls hl
  have hl : lv_has ls 5 [(0, .int (ii (a : Int))), (1, .int (ii (q : Int)))] := hl
  generalize hV : pwF q 11 1 a (q - 2) = V
  have loop : ∀ (f : Nat) (ls : Array Slot) (r t e : Nat), r < q → t < q → e < 2 ^ f → e ≤ 1100 → pwF q f r t e = V → lv_has ls 5 [(0, .int (ii (a : Int))), (1, .int (ii (q : Int))), (2, .int (ii (r : Int))), (3, .int (ii (t : Int))), (4, .int (ii (e : Int)))] → W P0 l E0 ({ frames := 0, cells := 0, slots := 0, locals := 0 } : Room) S0 M0 A0 B0 T0 K0 S0.heap [] 0 0 (MQ B0 (QcV (some (.int (ii (V : Nat))))) A0 S0 0 0 (fun _ => False)) (F0 M0 9 ls []) := by
    intro f
    induction f with
    | zero =>
      intro ls r t e hr1 ht he he2 hV hl
      have he0 : e = 0 := by simpa using he
      have hV : r = V := hV
      refine lv_iload C.1 C.2.1 dX1_inverse_9 (lv_at hl 4 rfl) ?_
      refine i_if_le (tgt := 43) C dX1_inverse_11 (by decide) ⟨by omega, by omega⟩ (fun hc => ?_) (fun hc => ?_)
      · refine lv_iload_n C.1 C.2.1 dX1_inverse_43 rfl (lv_at hl 2 rfl) ?_
        rw [hV]
        exact rt_i C hr hk dX1_inverse_44 rfl
      · omega
    | succ f ih =>
      intro ls r t e hr1 ht he he2 hV hl
      have hV : (if e = 0 then r else pwF q f (if e % 2 = 1 then r * t % q else r) (t * t % q) (e / 2)) = V := hV
      have m1 := nmul_b (show r ≤ 1100 by omega) (show t ≤ 1100 by omega)
      have m2 := nmul_b (show t ≤ 1100 by omega) (show t ≤ 1100 by omega)
      have m3 := Nat.mod_lt (r * t) (show 0 < q by omega)
      have m4 := Nat.mod_lt (t * t) (show 0 < q by omega)
      have m5 : e / 2 < 2 ^ f := by rw [Nat.pow_succ] at he; omega
      refine lv_iload C.1 C.2.1 dX1_inverse_9 (lv_at hl 4 rfl) ?_
      refine i_if_le (tgt := 43) C dX1_inverse_11 (by decide) ⟨by omega, by omega⟩ (fun hc => ?_) (fun hc => ?_)
      · rw [if_pos (show e = 0 by omega)] at hV
        refine lv_iload_n C.1 C.2.1 dX1_inverse_43 rfl (lv_at hl 2 rfl) ?_
        rw [hV]
        exact rt_i C hr hk dX1_inverse_44 rfl
      · rw [if_neg (show ¬ e = 0 by omega)] at hV
        refine lv_iload C.1 C.2.1 dX1_inverse_14 (lv_at hl 4 rfl) ?_
        refine i_const C dX1_inverse_16 ?_
        refine lv_iand C.1 C.2.1 dX1_inverse_17 ?_
        rw [ii_and1 (by omega)]
        refine i_const C dX1_inverse_18 ?_
        refine i_icmp_ne (tgt := 28) C dX1_inverse_19 (by decide) ⟨by omega, by omega⟩ ⟨by omega, by omega⟩ (fun hd => ?_) (fun hd => ?_)
        · rw [if_neg (show ¬ e % 2 = 1 by omega)] at hV
          refine lv_iload_n C.1 C.2.1 dX1_inverse_28 rfl (lv_at hl 3 rfl) ?_
          refine lv_iload_n C.1 C.2.1 dX1_inverse_29 rfl (lv_at hl 3 rfl) ?_
          refine i_mul C dX1_inverse_30 ?_
          refine lv_iload_n C.1 C.2.1 dX1_inverse_31 rfl (lv_at hl 1 rfl) ?_
          refine i_rem C dX1_inverse_32 ⟨by omega, by omega⟩ ⟨by omega, by omega⟩ ?_
          refine i_top (b := ((t * t % q : Nat) : Int)) rfl ?_
          refine lv_istore_n C.1 C.2.1 dX1_inverse_33 rfl hl (by decide) rfl (fun ls hl => ?_)
          have hl : lv_has ls 5 [(3, .int (ii ((t * t % q : Nat) : Int))), (0, .int (ii (a : Int))), (1, .int (ii (q : Int))), (2, .int (ii (r : Int))), (4, .int (ii (e : Int)))] := hl
          refine lv_iload C.1 C.2.1 dX1_inverse_34 (lv_at hl 4 rfl) ?_
          refine i_const C dX1_inverse_36 ?_
          refine lv_ishr C.1 C.2.1 dX1_inverse_37 ?_
          rw [ii_shr1 (by omega)]
          refine lv_istore C.1 C.2.1 dX1_inverse_38 hl (by decide) rfl (fun ls hl => ?_)
          have hl : lv_has ls 5 [(4, .int (ii ((e / 2 : Nat) : Int))), (3, .int (ii ((t * t % q : Nat) : Int))), (0, .int (ii (a : Int))), (1, .int (ii (q : Int))), (2, .int (ii (r : Int)))] := hl
          refine lv_goto (tgt := 9) C.1 C.2.1 dX1_inverse_40 (by decide) ?_
          exact ih ls _ _ _ hr1 m4 m5 (by omega) hV (lv_sub (l' := [(0, .int (ii (a : Int))), (1, .int (ii (q : Int))), (2, .int (ii (r : Int))), (3, .int (ii ((t * t % q : Nat) : Int))), (4, .int (ii ((e / 2 : Nat) : Int)))]) hl [2, 3, 4, 1, 0] rfl)
        · rw [if_pos (show e % 2 = 1 by omega)] at hV
          refine lv_iload_n C.1 C.2.1 dX1_inverse_22 rfl (lv_at hl 2 rfl) ?_
          refine lv_iload_n C.1 C.2.1 dX1_inverse_23 rfl (lv_at hl 3 rfl) ?_
          refine i_mul C dX1_inverse_24 ?_
          refine lv_iload_n C.1 C.2.1 dX1_inverse_25 rfl (lv_at hl 1 rfl) ?_
          refine i_rem C dX1_inverse_26 ⟨by omega, by omega⟩ ⟨by omega, by omega⟩ ?_
          refine i_top (b := ((r * t % q : Nat) : Int)) rfl ?_
          refine lv_istore_n C.1 C.2.1 dX1_inverse_27 rfl hl (by decide) rfl (fun ls hl => ?_)
          have hl : lv_has ls 5 [(2, .int (ii ((r * t % q : Nat) : Int))), (0, .int (ii (a : Int))), (1, .int (ii (q : Int))), (3, .int (ii (t : Int))), (4, .int (ii (e : Int)))] := hl
          refine lv_iload_n C.1 C.2.1 dX1_inverse_28 rfl (lv_at hl 3 rfl) ?_
          refine lv_iload_n C.1 C.2.1 dX1_inverse_29 rfl (lv_at hl 3 rfl) ?_
          refine i_mul C dX1_inverse_30 ?_
          refine lv_iload_n C.1 C.2.1 dX1_inverse_31 rfl (lv_at hl 2 rfl) ?_
          refine i_rem C dX1_inverse_32 ⟨by omega, by omega⟩ ⟨by omega, by omega⟩ ?_
          refine i_top (b := ((t * t % q : Nat) : Int)) rfl ?_
          refine lv_istore_n C.1 C.2.1 dX1_inverse_33 rfl hl (by decide) rfl (fun ls hl => ?_)
          have hl : lv_has ls 5 [(3, .int (ii ((t * t % q : Nat) : Int))), (2, .int (ii ((r * t % q : Nat) : Int))), (0, .int (ii (a : Int))), (1, .int (ii (q : Int))), (4, .int (ii (e : Int)))] := hl
          refine lv_iload C.1 C.2.1 dX1_inverse_34 (lv_at hl 4 rfl) ?_
          refine i_const C dX1_inverse_36 ?_
          refine lv_ishr C.1 C.2.1 dX1_inverse_37 ?_
          rw [ii_shr1 (by omega)]
          refine lv_istore C.1 C.2.1 dX1_inverse_38 hl (by decide) rfl (fun ls hl => ?_)
          have hl : lv_has ls 5 [(4, .int (ii ((e / 2 : Nat) : Int))), (3, .int (ii ((t * t % q : Nat) : Int))), (2, .int (ii ((r * t % q : Nat) : Int))), (0, .int (ii (a : Int))), (1, .int (ii (q : Int)))] := hl
          refine lv_goto (tgt := 9) C.1 C.2.1 dX1_inverse_40 (by decide) ?_
          exact ih ls _ _ _ m3 m4 m5 (by omega) hV (lv_sub (l' := [(0, .int (ii (a : Int))), (1, .int (ii (q : Int))), (2, .int (ii ((r * t % q : Nat) : Int))), (3, .int (ii ((t * t % q : Nat) : Int))), (4, .int (ii ((e / 2 : Nat) : Int)))]) hl [3, 4, 2, 1, 0] rfl)
  refine i_const C dX1_inverse_0 ?_
  refine lv_istore_n C.1 C.2.1 dX1_inverse_1 rfl hl (by decide) rfl (fun ls hl => ?_)
  have hl : lv_has ls 5 [(2, .int (ii 1)), (0, .int (ii (a : Int))), (1, .int (ii (q : Int)))] := hl
  refine lv_iload_n C.1 C.2.1 dX1_inverse_2 rfl (lv_at hl 1 rfl) ?_
  refine lv_istore_n C.1 C.2.1 dX1_inverse_3 rfl hl (by decide) rfl (fun ls hl => ?_)
  have hl : lv_has ls 5 [(3, .int (ii (a : Int))), (2, .int (ii 1)), (0, .int (ii (a : Int))), (1, .int (ii (q : Int)))] := hl
  refine lv_iload_n C.1 C.2.1 dX1_inverse_4 rfl (lv_at hl 3 rfl) ?_
  refine i_const C dX1_inverse_5 ?_
  refine i_sub C dX1_inverse_6 ?_
  refine i_top (b := ((q - 2 : Nat) : Int)) (by omega) ?_
  refine lv_istore C.1 C.2.1 dX1_inverse_7 hl (by decide) rfl (fun ls hl => ?_)
  have hl : lv_has ls 5 [(4, .int (ii ((q - 2 : Nat) : Int))), (3, .int (ii (a : Int))), (2, .int (ii 1)), (0, .int (ii (a : Int))), (1, .int (ii (q : Int)))] := hl
  exact loop 11 ls 1 a (q - 2) (by omega) ha (by omega) (by omega) hV (lv_sub (l' := [(0, .int (ii (a : Int))), (1, .int (ii (q : Int))), (2, .int (ii 1)), (3, .int (ii (a : Int))), (4, .int (ii ((q - 2 : Nat) : Int)))]) hl [3, 4, 2, 1, 0] rfl)
theorem pwF_lt {q : Nat} (hq : 1 < q) : ∀ (f r s e : Nat), r < q → s < q → pwF q f r s e < q
  | 0, r, s, e, hr, _ => hr
  | f + 1, r, s, e, hr, hs => by
    show (if e = 0 then r else pwF q f (if e % 2 = 1 then r * s % q else r) (s * s % q) (e / 2)) < q
    split
    · exact hr
    · refine pwF_lt hq f _ _ _ ?_ (Nat.mod_lt _ (by omega))
      split
      · exact Nat.mod_lt _ (by omega)
      · exact hr
set_option maxRecDepth 100000 in
set_option maxHeartbeats 4000000 in
theorem c_X1_quotient (l : Launch) (x y : Int) (q : Nat) (hx : rg x) (hy : rg y) (hq : 2 ≤ q ∧ q ≤ 1100) : Met l yX1_quotient (Cond.code yX1_quotient cX1_quotient 3 (some .int) :: AW) ({ frames := 1, cells := 0, slots := 0, locals := 24 } : Room) (PcN [.int (ii x), .int (ii y), .int (ii (q : Int))]) (QcV (some (.int (ii ((x % q * (pwF q 11 1 (y % q).toNat (q - 2) : Nat)) % q))))) 0 0 (fun _ => False) := by
  refine mt_pure (by decide +kernel) (Nat.le_of_ble_eq_true rfl) ?_
  intro P0 E0 S0 M0 A0 B0 T0 K0 C hN hr hk ls hl
  have hl : lv_has ls 3 [(0, .int (ii x)), (1, .int (ii y)), (2, .int (ii (q : Int)))] := hl
  have q1 := em_b x (show (0 : Int) < q by omega)
  have q2 := em_b y (show (0 : Int) < q by omega)
  refine lv_iload_n C.1 C.2.1 dX1_quotient_0 rfl (lv_at hl 0 rfl) ?_
  refine lv_iload_n C.1 C.2.1 dX1_quotient_1 rfl (lv_at hl 2 rfl) ?_
  refine ca_S (As := [.int (ii x), .int (ii (q : Int))]) (rest := []) C (c_floorModI l x (q : Int) hx ⟨by omega, by omega⟩) (pcn_pre _ hN) aw_b_JM_floorModI aw_m_X1_161 aw_s_JM_floorModI aw_i_JM ⟨rfl, rfl⟩ 2 (by decide +kernel) rfl ⟨by decide, by decide⟩ hl.1 rfl (Nat.le_of_ble_eq_true rfl) dX1_quotient_2 ⟨by decide, by decide⟩ ?_
  refine lv_iload_n C.1 C.2.1 dX1_quotient_5 rfl (lv_at hl 1 rfl) ?_
  refine lv_iload_n C.1 C.2.1 dX1_quotient_6 rfl (lv_at hl 2 rfl) ?_
  refine ca_S (As := [.int (ii y), .int (ii (q : Int))]) (rest := [.int (ii (x % (q : Int)))]) C (c_floorModI l y (q : Int) hy ⟨by omega, by omega⟩) (pcn_pre _ hN) aw_b_JM_floorModI aw_m_X1_161 aw_s_JM_floorModI aw_i_JM ⟨rfl, rfl⟩ 2 (by decide +kernel) rfl ⟨by decide, by decide⟩ hl.1 rfl (Nat.le_of_ble_eq_true rfl) dX1_quotient_7 ⟨by decide, by decide⟩ ?_
  refine i_top (b := (((y % (q : Int)).toNat : Nat) : Int)) (by omega) ?_
  refine lv_iload_n C.1 C.2.1 dX1_quotient_10 rfl (lv_at hl 2 rfl) ?_
  refine ca_S (As := [.int (ii (((y % (q : Int)).toNat : Nat) : Int)), .int (ii (q : Int))]) (rest := [.int (ii (x % (q : Int)))]) C (c_X1_inverse l (y % (q : Int)).toNat q (by omega) hq) (pcn_pre _ hN) aw_b_X1_inverse aw_m_X1_166 aw_s_X1_inverse aw_i_X1 ⟨rfl, rfl⟩ 2 (by decide +kernel) rfl ⟨by decide, by decide⟩ hl.1 rfl (Nat.le_of_ble_eq_true rfl) dX1_quotient_11 ⟨by decide, by decide⟩ ?_
  have q3 := pwF_lt (q := q) (by omega) 11 1 (y % (q : Int)).toNat (q - 2) (by omega) (by omega)
  generalize pwF q 11 1 (y % (q : Int)).toNat (q - 2) = k at q3 ⊢
  have q4 := mu_b q1.1 (show x % (q : Int) ≤ 1099 by omega) (show (0 : Int) ≤ (k : Int) by omega) (show (k : Int) ≤ 1099 by omega)
  refine i_mul C dX1_quotient_14 ?_
  refine lv_iload_n C.1 C.2.1 dX1_quotient_15 rfl (lv_at hl 2 rfl) ?_
  refine i_rem C dX1_quotient_16 ⟨by omega, by omega⟩ ⟨by omega, by omega⟩ ?_
  exact rt_i C hr hk dX1_quotient_17 rfl
end
section
/-! The class: primes, roots, the least point, curves. By wip/whole/tools/gen3.py. -/
def prF (n : Nat) : Nat → Nat → Nat
  | 0, _ => 0
  | f + 1, d => if n < d * d then (if n < 2 then 0 else 1) else if n % d = 0 then 0 else prF n f (d + 1)
theorem prF_s (n f d : Nat) : prF n (f + 1) d = if n < d * d then (if n < 2 then 0 else 1) else if n % d = 0 then 0 else prF n f (d + 1) := rfl
theorem prF_b : ∀ (n f d : Nat), prF n f d = 0 ∨ prF n f d = 1
  | _, 0, _ => Or.inl rfl
  | n, f + 1, d => by
    rw [prF_s]
    split
    · split
      · exact Or.inl rfl
      · exact Or.inr rfl
    · split
      · exact Or.inl rfl
      · exact prF_b n f (d + 1)
def lrF (p v : Nat) : Nat → Nat → Int
  | 0, _ => -1
  | f + 1, y => if p / 2 < y then -1 else if y * y % p = v then y else lrF p v f (y + 1)
theorem lrF_s (p v f y : Nat) : lrF p v (f + 1) y = if p / 2 < y then -1 else if y * y % p = v then (y : Int) else lrF p v f (y + 1) := rfl
theorem lrF_b {p : Nat} (v : Nat) : ∀ (f y : Nat), -1 ≤ lrF p v f y ∧ lrF p v f y ≤ p / 2
  | 0, _ => ⟨by show (-1 : Int) ≤ -1; omega, by show (-1 : Int) ≤ (p : Int) / 2; omega⟩
  | f + 1, y => by
    rw [lrF_s]
    split
    · omega
    · split
      · omega
      · exact lrF_b v f (y + 1)
def lpF (p a b : Nat) : Nat → Nat → Int
  | 0, _ => -1
  | f + 1, x => if p ≤ x then -1 else if lrF p (cub p a b x) 1100 0 = -1 then lpF p a b f (x + 1) else (x : Int) * 65536 + lrF p (cub p a b x) 1100 0
theorem lpF_s (p a b f x : Nat) : lpF p a b (f + 1) x = if p ≤ x then -1 else if lrF p (cub p a b x) 1100 0 = -1 then lpF p a b f (x + 1) else (x : Int) * 65536 + lrF p (cub p a b x) 1100 0 := rfl
theorem dd_b {d n : Nat} (h : d * d ≤ n) (hn : n ≤ 1100000) : d ≤ 1048 := by
  apply Classical.byContradiction
  intro z
  have := Nat.mul_le_mul (show 1049 ≤ d by omega) (show 1049 ≤ d by omega)
  omega
set_option maxRecDepth 100000 in
set_option maxHeartbeats 4000000 in
theorem c_X1_isPrime (l : Launch) (n : Nat) (hn : n ≤ 1100000) : Met l yX1_isPrime (Cond.code yX1_isPrime cX1_isPrime 2 (some .boolean) :: AW) { frames := 0, cells := 0, slots := 0, locals := 0 } (PcN [.int (ii (n : Int))]) (QcV (some (.int (ii (prF n 1100 2 : Nat))))) 0 0 (fun _ => False) := by
  refine mt_pure (by decide +kernel) (Nat.le_of_ble_eq_true rfl) ?_
  intro P0 E0 S0 M0 A0 B0 T0 K0 C hN hr hk ls hl
  have hl : lv_has ls 2 [(0, .int (ii (n : Int)))] := hl
  have hV0 := prF_b n 1100 2
  generalize hV : prF n 1100 2 = V at hV0 ⊢
  have loop : ∀ (f : Nat) (ls : Array Slot) (d : Nat), 2 ≤ d → d + f = 1102 → d ≤ 1050 → prF n f d = V → lv_has ls 2 [(0, .int (ii (n : Int))), (1, .int (ii (d : Int)))] → W P0 l E0 ({ frames := 0, cells := 0, slots := 0, locals := 0 } : Room) S0 M0 A0 B0 T0 K0 S0.heap [] 0 0 (MQ B0 (QcV (some (.int (ii (V : Nat))))) A0 S0 0 0 (fun _ => False)) (F0 M0 2 ls []) := by
    intro f
    induction f with
    | zero =>
      intro ls d h2 hf hd
      omega
    | succ f ih =>
    intro ls d h2 hf hd1 hV hl
    rw [prF_s] at hV
    have m1 := Nat.mul_le_mul (show d ≤ 1050 by omega) (show d ≤ 1050 by omega)
    refine lv_iload_n C.1 C.2.1 dX1_isPrime_2 rfl (lv_at hl 1 rfl) ?_
    refine lv_iload_n C.1 C.2.1 dX1_isPrime_3 rfl (lv_at hl 1 rfl) ?_
    refine i_mul C dX1_isPrime_4 ?_
    refine i_top (b := ((d * d : Nat) : Int)) rfl ?_
    refine lv_iload_n C.1 C.2.1 dX1_isPrime_5 rfl (lv_at hl 0 rfl) ?_
    refine i_icmp_gt (tgt := 23) C dX1_isPrime_6 (by decide) ⟨by omega, by omega⟩ ⟨by omega, by omega⟩ (fun hc => ?_) (fun hc => ?_)
    · rw [if_pos (show n < d * d by omega)] at hV
      refine lv_iload_n C.1 C.2.1 dX1_isPrime_23 rfl (lv_at hl 0 rfl) ?_
      refine i_const C dX1_isPrime_24 ?_
      refine i_icmp_lt (tgt := 32) C dX1_isPrime_25 (by decide) ⟨by omega, by omega⟩ ⟨by omega, by omega⟩ (fun h1 => ?_) (fun h1 => ?_)
      · rw [if_pos (show n < 2 by omega)] at hV
        refine i_const C dX1_isPrime_32 ?_
        subst hV
        exact rt_z C hr hk dX1_isPrime_33 (Or.inl rfl) rfl
      · rw [if_neg (show ¬ n < 2 by omega)] at hV
        refine i_const C dX1_isPrime_28 ?_
        refine lv_goto (tgt := 33) C.1 C.2.1 dX1_isPrime_29 (by decide) ?_
        subst hV
        exact rt_z C hr hk dX1_isPrime_33 (Or.inr rfl) rfl
    · rw [if_neg (show ¬ n < d * d by omega)] at hV
      have m2 := dd_b (show d * d ≤ n by omega) hn
      refine lv_iload_n C.1 C.2.1 dX1_isPrime_9 rfl (lv_at hl 0 rfl) ?_
      refine lv_iload_n C.1 C.2.1 dX1_isPrime_10 rfl (lv_at hl 1 rfl) ?_
      refine i_rem C dX1_isPrime_11 ⟨by omega, by omega⟩ ⟨by omega, by omega⟩ ?_
      refine i_top (b := ((n % d : Nat) : Int)) rfl ?_
      have m3 := Nat.mod_lt n (show 0 < d by omega)
      refine i_if_ne (tgt := 17) C dX1_isPrime_12 (by decide) ⟨by omega, by omega⟩ (fun h1 => ?_) (fun h1 => ?_)
      · rw [if_neg (show ¬ n % d = 0 by omega)] at hV
        refine lv_iinc C.1 C.2.1 dX1_isPrime_17 hl (k := 1) rfl (ii_add (d : Int) 1) (by decide) rfl (fun ls hl => ?_)
        have hl : lv_has ls 2 [(1, .int (ii ((d : Int) + 1))), (0, .int (ii (n : Int)))] := hl
        refine lv_goto (tgt := 2) C.1 C.2.1 dX1_isPrime_20 (by decide) ?_
        exact ih ls (d + 1) (by omega) (by omega) (by omega) hV (lv_sub (l' := [(0, .int (ii (n : Int))), (1, .int (ii ((d : Int) + 1)))]) hl [1, 0] rfl)
      · rw [if_pos (show n % d = 0 by omega)] at hV
        refine i_const C dX1_isPrime_15 ?_
        subst hV
        exact rt_z C hr hk dX1_isPrime_16 (Or.inl rfl) rfl
  refine i_const C dX1_isPrime_0 ?_
  refine lv_istore_n C.1 C.2.1 dX1_isPrime_1 rfl hl (by decide) rfl (fun ls hl => ?_)
  have hl : lv_has ls 2 [(1, .int (ii 2)), (0, .int (ii (n : Int)))] := hl
  exact loop 1100 ls 2 (by omega) (by omega) (by omega) hV (lv_sub (l' := [(0, .int (ii (n : Int))), (1, .int (ii 2))]) hl [1, 0] rfl)
set_option maxRecDepth 100000 in
set_option maxHeartbeats 4000000 in
theorem c_X0_lesserRoot (l : Launch) (v p : Nat) (hv : v < p) (hp : 5 ≤ p ∧ p ≤ 1021) : Met l yX0_lesserRoot (Cond.code yX0_lesserRoot cX0_lesserRoot 3 (some .int) :: AW) { frames := 0, cells := 0, slots := 0, locals := 0 } (PcN [.int (ii (v : Int)), .int (ii (p : Int))]) (QcV (some (.int (ii (lrF p v 1100 0))))) 0 0 (fun _ => False) := by
  refine mt_pure (by decide +kernel) (Nat.le_of_ble_eq_true rfl) ?_
  intro P0 E0 S0 M0 A0 B0 T0 K0 C hN hr hk ls hl
  have hl : lv_has ls 3 [(0, .int (ii (v : Int))), (1, .int (ii (p : Int)))] := hl
  generalize hV : lrF p v 1100 0 = V
  have loop : ∀ (f : Nat) (ls : Array Slot) (y : Nat), y + f = 1100 → y ≤ p / 2 + 1 → lrF p v f y = V → lv_has ls 3 [(0, .int (ii (v : Int))), (1, .int (ii (p : Int))), (2, .int (ii (y : Int)))] → W P0 l E0 ({ frames := 0, cells := 0, slots := 0, locals := 0 } : Room) S0 M0 A0 B0 T0 K0 S0.heap [] 0 0 (MQ B0 (QcV (some (.int (ii V)))) A0 S0 0 0 (fun _ => False)) (F0 M0 2 ls []) := by
    intro f
    induction f with
    | zero =>
      intro ls y hf hd
      omega
    | succ f ih =>
    intro ls y hf hd1 hV hl
    rw [lrF_s] at hV
    have m1 := nmul_b (show y ≤ 1100 by omega) (show y ≤ 1100 by omega)
    have m2 := Nat.mod_lt (y * y) (show 0 < p by omega)
    refine lv_iload_n C.1 C.2.1 dX0_lesserRoot_2 rfl (lv_at hl 2 rfl) ?_
    refine lv_iload_n C.1 C.2.1 dX0_lesserRoot_3 rfl (lv_at hl 1 rfl) ?_
    refine i_const C dX0_lesserRoot_4 ?_
    refine i_div C dX0_lesserRoot_5 ⟨by omega, by omega⟩ ⟨by omega, by omega⟩ ?_
    refine i_top (b := ((p / 2 : Nat) : Int)) rfl ?_
    refine i_icmp_gt (tgt := 26) C dX0_lesserRoot_6 (by decide) ⟨by omega, by omega⟩ ⟨by omega, by omega⟩ (fun hc => ?_) (fun hc => ?_)
    · rw [if_pos (show p / 2 < y by omega)] at hV
      refine i_const C dX0_lesserRoot_26 ?_
      exact rt_i C hr hk dX0_lesserRoot_27 (by rw [hV])
    · rw [if_neg (show ¬ p / 2 < y by omega)] at hV
      refine lv_iload_n C.1 C.2.1 dX0_lesserRoot_9 rfl (lv_at hl 2 rfl) ?_
      refine lv_iload_n C.1 C.2.1 dX0_lesserRoot_10 rfl (lv_at hl 2 rfl) ?_
      refine i_mul C dX0_lesserRoot_11 ?_
      refine lv_iload_n C.1 C.2.1 dX0_lesserRoot_12 rfl (lv_at hl 1 rfl) ?_
      refine i_rem C dX0_lesserRoot_13 ⟨by omega, by omega⟩ ⟨by omega, by omega⟩ ?_
      refine i_top (b := ((y * y % p : Nat) : Int)) rfl ?_
      refine lv_iload_n C.1 C.2.1 dX0_lesserRoot_14 rfl (lv_at hl 0 rfl) ?_
      refine i_icmp_ne (tgt := 20) C dX0_lesserRoot_15 (by decide) ⟨by omega, by omega⟩ ⟨by omega, by omega⟩ (fun h1 => ?_) (fun h1 => ?_)
      · rw [if_neg (show ¬ y * y % p = v by omega)] at hV
        refine lv_iinc C.1 C.2.1 dX0_lesserRoot_20 hl (k := 2) rfl (ii_add (y : Int) 1) (by decide) rfl (fun ls hl => ?_)
        have hl : lv_has ls 3 [(2, .int (ii ((y : Int) + 1))), (0, .int (ii (v : Int))), (1, .int (ii (p : Int)))] := hl
        refine lv_goto (tgt := 2) C.1 C.2.1 dX0_lesserRoot_23 (by decide) ?_
        exact ih ls (y + 1) (by omega) (by omega) hV (lv_sub (l' := [(0, .int (ii (v : Int))), (1, .int (ii (p : Int))), (2, .int (ii ((y : Int) + 1)))]) hl [1, 2, 0] rfl)
      · rw [if_pos (show y * y % p = v by omega)] at hV
        refine lv_iload_n C.1 C.2.1 dX0_lesserRoot_18 rfl (lv_at hl 2 rfl) ?_
        exact rt_i C hr hk dX0_lesserRoot_19 (by rw [hV])
  refine i_const C dX0_lesserRoot_0 ?_
  refine lv_istore_n C.1 C.2.1 dX0_lesserRoot_1 rfl hl (by decide) rfl (fun ls hl => ?_)
  have hl : lv_has ls 3 [(2, .int (ii 0)), (0, .int (ii (v : Int))), (1, .int (ii (p : Int)))] := hl
  exact loop 1100 ls 0 (by omega) (by omega) hV (lv_sub (l' := [(0, .int (ii (v : Int))), (1, .int (ii (p : Int))), (2, .int (ii 0))]) hl [1, 2, 0] rfl)
set_option maxRecDepth 100000 in
set_option maxHeartbeats 4000000 in
theorem c_X0_leastPoint (l : Launch) (p a b : Nat) (hp : 5 ≤ p ∧ p ≤ 1021) (ha : a < p) (hb : b < p) : Met l yX0_leastPoint (Cond.code yX0_leastPoint cX0_leastPoint 5 (some .int) :: AW) ({ frames := 1, cells := 0, slots := 0, locals := 24 } : Room) (PcN [.int (ii (p : Int)), .int (ii (a : Int)), .int (ii (b : Int))]) (QcV (some (.int (ii (lpF p a b 1100 0))))) 0 0 (fun _ => False) := by
  refine mt_pure (by decide +kernel) (Nat.le_of_ble_eq_true rfl) ?_
  intro P0 E0 S0 M0 A0 B0 T0 K0 C hN hr hk ls hl
  have hl : lv_has ls 5 [(0, .int (ii (p : Int))), (1, .int (ii (a : Int))), (2, .int (ii (b : Int)))] := hl
  generalize hV : lpF p a b 1100 0 = V
  have loop : ∀ (f : Nat) (ls : Array Slot) (x : Nat), x + f = 1100 → x ≤ p → lpF p a b f x = V → lv_has ls 5 [(0, .int (ii (p : Int))), (1, .int (ii (a : Int))), (2, .int (ii (b : Int))), (3, .int (ii (x : Int)))] → W P0 l E0 ({ frames := 1, cells := 0, slots := 0, locals := 24 } : Room) S0 M0 A0 B0 T0 K0 S0.heap [] 0 0 (MQ B0 (QcV (some (.int (ii V)))) A0 S0 0 0 (fun _ => False)) (F0 M0 2 ls []) := by
    intro f
    induction f with
    | zero =>
      intro ls x hf hd
      omega
    | succ f ih =>
    intro ls x hf hd1 hV hl
    rw [lpF_s] at hV
    refine lv_iload_n C.1 C.2.1 dX0_leastPoint_2 rfl (lv_at hl 3 rfl) ?_
    refine lv_iload_n C.1 C.2.1 dX0_leastPoint_3 rfl (lv_at hl 0 rfl) ?_
    refine i_icmp_ge (tgt := 39) C dX0_leastPoint_4 (by decide) ⟨by omega, by omega⟩ ⟨by omega, by omega⟩ (fun hc => ?_) (fun hc => ?_)
    · rw [if_pos (show p ≤ x by omega)] at hV
      refine i_const C dX0_leastPoint_39 ?_
      exact rt_i C hr hk dX0_leastPoint_40 (by rw [hV])
    · rw [if_neg (show ¬ p ≤ x by omega)] at hV
      have m1 : cub p a b x < p := Nat.mod_lt _ (by omega)
      have m2 := lrF_b (p := p) (cub p a b x) 1100 0
      refine lv_iload_n C.1 C.2.1 dX0_leastPoint_7 rfl (lv_at hl 0 rfl) ?_
      refine lv_iload_n C.1 C.2.1 dX0_leastPoint_8 rfl (lv_at hl 1 rfl) ?_
      refine lv_iload_n C.1 C.2.1 dX0_leastPoint_9 rfl (lv_at hl 2 rfl) ?_
      refine lv_iload_n C.1 C.2.1 dX0_leastPoint_10 rfl (lv_at hl 3 rfl) ?_
      refine ca_SN (As := [.int (ii (p : Int)), .int (ii (a : Int)), .int (ii (b : Int)), .int (ii (x : Int))]) (rest := []) C (c_X1_cubic l (p : Int) (a : Int) (b : Int) (x : Int) (by omega) (by omega) (by omega) (by omega)) hN (pcn_pre _ hN) aw_b_X1_cubic nw_X0_31 aw_s_X1_cubic aw_i_X1 ⟨rfl, rfl⟩ 4 (by decide +kernel) rfl ⟨by decide, by decide⟩ hl.1 rfl (Nat.le_of_ble_eq_true rfl) dX0_leastPoint_11 ⟨by decide, by decide⟩ ?_
      refine i_top (b := ((cub p a b x : Nat) : Int)) rfl ?_
      refine lv_iload_n C.1 C.2.1 dX0_leastPoint_14 rfl (lv_at hl 0 rfl) ?_
      refine ca_S (As := [.int (ii ((cub p a b x : Nat) : Int)), .int (ii (p : Int))]) (rest := []) C (c_X0_lesserRoot l (cub p a b x) p m1 hp) (pcn_pre _ hN) aw_b_X0_lesserRoot aw_m_X0_35 aw_s_X0_lesserRoot aw_i_X0 ⟨rfl, rfl⟩ 2 (by decide +kernel) rfl ⟨by decide, by decide⟩ hl.1 rfl (Nat.le_of_ble_eq_true rfl) dX0_leastPoint_15 ⟨by decide, by decide⟩ ?_
      generalize lrF p (cub p a b x) 1100 0 = y at m2 hV ⊢
      refine lv_istore C.1 C.2.1 dX0_leastPoint_18 hl (by decide) rfl (fun ls hl => ?_)
      have hl : lv_has ls 5 [(4, .int (ii y)), (0, .int (ii (p : Int))), (1, .int (ii (a : Int))), (2, .int (ii (b : Int))), (3, .int (ii (x : Int)))] := hl
      refine lv_iload C.1 C.2.1 dX0_leastPoint_20 (lv_at hl 0 rfl) ?_
      refine i_const C dX0_leastPoint_22 ?_
      refine i_icmp_eq (tgt := 33) C dX0_leastPoint_23 (by decide) ⟨by omega, by omega⟩ ⟨by omega, by omega⟩ (fun h1 => ?_) (fun h1 => ?_)
      · rw [if_pos (show y = -1 by omega)] at hV
        refine lv_iinc C.1 C.2.1 dX0_leastPoint_33 hl (k := 4) rfl (ii_add (x : Int) 1) (by decide) rfl (fun ls hl => ?_)
        have hl : lv_has ls 5 [(3, .int (ii ((x : Int) + 1))), (4, .int (ii y)), (0, .int (ii (p : Int))), (1, .int (ii (a : Int))), (2, .int (ii (b : Int)))] := hl
        refine lv_goto (tgt := 2) C.1 C.2.1 dX0_leastPoint_36 (by decide) ?_
        exact ih ls (x + 1) (by omega) (by omega) hV (lv_sub (l' := [(0, .int (ii (p : Int))), (1, .int (ii (a : Int))), (2, .int (ii (b : Int))), (3, .int (ii ((x : Int) + 1)))]) hl [2, 3, 4, 0] rfl)
      · rw [if_neg (show ¬ y = -1 by omega)] at hV
        refine lv_iload_n C.1 C.2.1 dX0_leastPoint_26 rfl (lv_at hl 4 rfl) ?_
        refine lv_iload C.1 C.2.1 dX0_leastPoint_27 (lv_at hl 0 rfl) ?_
        refine ca_SN (As := [.int (ii (x : Int)), .int (ii y)]) (rest := []) C (c_X1_pointAt l (x : Int) y) hN (pcn_pre _ hN) aw_b_X1_pointAt nw_X0_39 aw_s_X1_pointAt aw_i_X1 ⟨rfl, rfl⟩ 2 (by decide +kernel) rfl ⟨by decide, by decide⟩ hl.1 rfl (Nat.le_of_ble_eq_true rfl) dX0_leastPoint_29 ⟨by decide, by decide⟩ ?_
        exact rt_i C hr hk dX0_leastPoint_32 (by rw [hV])
  refine i_const C dX0_leastPoint_0 ?_
  refine lv_istore_n C.1 C.2.1 dX0_leastPoint_1 rfl hl (by decide) rfl (fun ls hl => ?_)
  have hl : lv_has ls 5 [(3, .int (ii 0)), (0, .int (ii (p : Int))), (1, .int (ii (a : Int))), (2, .int (ii (b : Int)))] := hl
  exact loop 1100 ls 0 (by omega) (by omega) hV (lv_sub (l' := [(0, .int (ii (p : Int))), (1, .int (ii (a : Int))), (2, .int (ii (b : Int))), (3, .int (ii 0))]) hl [1, 2, 3, 0] rfl)
def icF (p a b : Int) : Int := if p < 5 then 0 else if 1021 < p then 0 else if prF p.toNat 1100 2 = 0 then 0 else if a < 0 then 0 else if p ≤ a then 0 else if b < 0 then 0 else if p ≤ b then 0 else if (4 * (a * a % p * a % p) + 27 * (b * b % p)) % p = 0 then 0 else 1
set_option maxRecDepth 100000 in
set_option maxHeartbeats 4000000 in
theorem c_X1_isCurve (l : Launch) (p a b : Int) (hp : rg p) (ha : rg a) (hb : rg b) : Met l yX1_isCurve (Cond.code yX1_isCurve cX1_isCurve 3 (some .boolean) :: AW) ({ frames := 1, cells := 0, slots := 0, locals := 24 } : Room) (PcN [.int (ii p), .int (ii a), .int (ii b)]) (QcV (some (.int (ii (icF p a b))))) 0 0 (fun _ => False) := by
  refine mt_pure (by decide +kernel) (Nat.le_of_ble_eq_true rfl) ?_
  intro P0 E0 S0 M0 A0 B0 T0 K0 C hN hr hk ls hl
  have hl : lv_has ls 3 [(0, .int (ii p)), (1, .int (ii a)), (2, .int (ii b))] := hl
  generalize hV : icF p a b = V
  unfold icF at hV
  refine lv_iload_n C.1 C.2.1 dX1_isCurve_0 rfl (lv_at hl 0 rfl) ?_
  refine i_const C dX1_isCurve_1 ?_
  refine i_icmp_lt (tgt := 19) C dX1_isCurve_2 (by decide) ⟨by omega, by omega⟩ ⟨by omega, by omega⟩ (fun h1 => ?_) (fun h1 => ?_)
  · rw [if_pos (show p < 5 by omega)] at hV
    refine i_const C dX1_isCurve_19 ?_
    subst hV
    exact rt_z C hr hk dX1_isCurve_20 (Or.inl rfl) rfl
  · rw [if_neg (show ¬ p < 5 by omega)] at hV
    refine lv_iload_n C.1 C.2.1 dX1_isCurve_5 rfl (lv_at hl 0 rfl) ?_
    refine i_sipush C dX1_isCurve_6 (by decide +kernel) ?_
    refine i_icmp_gt (tgt := 19) C dX1_isCurve_9 (by decide) ⟨by omega, by omega⟩ ⟨by omega, by omega⟩ (fun h2 => ?_) (fun h2 => ?_)
    · rw [if_pos (show 1021 < p by omega)] at hV
      refine i_const C dX1_isCurve_19 ?_
      subst hV
      exact rt_z C hr hk dX1_isCurve_20 (Or.inl rfl) rfl
    · rw [if_neg (show ¬ 1021 < p by omega)] at hV
      have b0 := prF_b p.toNat 1100 2
      refine lv_iload_n C.1 C.2.1 dX1_isCurve_12 rfl (lv_at hl 0 rfl) ?_
      refine i_top (b := ((p.toNat : Nat) : Int)) (by omega) ?_
      refine ca_S (As := [.int (ii ((p.toNat : Nat) : Int))]) (rest := []) C (c_X1_isPrime l p.toNat (by omega)) (pcn_pre _ hN) aw_b_X1_isPrime aw_m_X1_48 aw_s_X1_isPrime aw_i_X1 ⟨rfl, rfl⟩ 1 (by decide +kernel) rfl ⟨by decide, by decide⟩ hl.1 rfl (Nat.le_of_ble_eq_true rfl) dX1_isCurve_13 ⟨by decide, by decide⟩ ?_
      generalize prF p.toNat 1100 2 = k at b0 hV ⊢
      refine i_if_ne (tgt := 21) C dX1_isCurve_16 (by decide) ⟨by omega, by omega⟩ (fun h3 => ?_) (fun h3 => ?_)
      · rw [if_neg (show ¬ k = 0 by omega)] at hV
        refine lv_iload_n C.1 C.2.1 dX1_isCurve_21 rfl (lv_at hl 1 rfl) ?_
        refine i_if_lt (tgt := 39) C dX1_isCurve_22 (by decide) ⟨by omega, by omega⟩ (fun h4 => ?_) (fun h4 => ?_)
        · rw [if_pos (show a < 0 by omega)] at hV
          refine i_const C dX1_isCurve_39 ?_
          subst hV
          exact rt_z C hr hk dX1_isCurve_40 (Or.inl rfl) rfl
        · rw [if_neg (show ¬ a < 0 by omega)] at hV
          refine lv_iload_n C.1 C.2.1 dX1_isCurve_25 rfl (lv_at hl 1 rfl) ?_
          refine lv_iload_n C.1 C.2.1 dX1_isCurve_26 rfl (lv_at hl 0 rfl) ?_
          refine i_icmp_ge (tgt := 39) C dX1_isCurve_27 (by decide) ⟨by omega, by omega⟩ ⟨by omega, by omega⟩ (fun h5 => ?_) (fun h5 => ?_)
          · rw [if_pos (show p ≤ a by omega)] at hV
            refine i_const C dX1_isCurve_39 ?_
            subst hV
            exact rt_z C hr hk dX1_isCurve_40 (Or.inl rfl) rfl
          · rw [if_neg (show ¬ p ≤ a by omega)] at hV
            refine lv_iload_n C.1 C.2.1 dX1_isCurve_30 rfl (lv_at hl 2 rfl) ?_
            refine i_if_lt (tgt := 39) C dX1_isCurve_31 (by decide) ⟨by omega, by omega⟩ (fun h6 => ?_) (fun h6 => ?_)
            · rw [if_pos (show b < 0 by omega)] at hV
              refine i_const C dX1_isCurve_39 ?_
              subst hV
              exact rt_z C hr hk dX1_isCurve_40 (Or.inl rfl) rfl
            · rw [if_neg (show ¬ b < 0 by omega)] at hV
              refine lv_iload_n C.1 C.2.1 dX1_isCurve_34 rfl (lv_at hl 2 rfl) ?_
              refine lv_iload_n C.1 C.2.1 dX1_isCurve_35 rfl (lv_at hl 0 rfl) ?_
              refine i_icmp_lt (tgt := 41) C dX1_isCurve_36 (by decide) ⟨by omega, by omega⟩ ⟨by omega, by omega⟩ (fun h7 => ?_) (fun h7 => ?_)
              · rw [if_neg (show ¬ p ≤ b by omega)] at hV
                have e1 := mu_b (show 0 ≤ a by omega) (show a ≤ 1099 by omega) (show 0 ≤ a by omega) (show a ≤ 1099 by omega)
                have e2 := em_b (a * a) (show 0 < p by omega)
                have e3 := mu_b e2.1 (show a * a % p ≤ 1099 by omega) (show 0 ≤ a by omega) (show a ≤ 1099 by omega)
                have e4 := em_b (a * a % p * a) (show 0 < p by omega)
                have e5 := mu_b (show 0 ≤ b by omega) (show b ≤ 1099 by omega) (show 0 ≤ b by omega) (show b ≤ 1099 by omega)
                have e6 := em_b (b * b) (show 0 < p by omega)
                have e7 := em_b (4 * (a * a % p * a % p) + 27 * (b * b % p)) (show 0 < p by omega)
                refine i_const C dX1_isCurve_41 ?_
                refine lv_iload_n C.1 C.2.1 dX1_isCurve_42 rfl (lv_at hl 1 rfl) ?_
                refine lv_iload_n C.1 C.2.1 dX1_isCurve_43 rfl (lv_at hl 1 rfl) ?_
                refine i_mul C dX1_isCurve_44 ?_
                refine lv_iload_n C.1 C.2.1 dX1_isCurve_45 rfl (lv_at hl 0 rfl) ?_
                refine i_rem C dX1_isCurve_46 ⟨by omega, by omega⟩ ⟨by omega, by omega⟩ ?_
                refine lv_iload_n C.1 C.2.1 dX1_isCurve_47 rfl (lv_at hl 1 rfl) ?_
                refine i_mul C dX1_isCurve_48 ?_
                refine lv_iload_n C.1 C.2.1 dX1_isCurve_49 rfl (lv_at hl 0 rfl) ?_
                refine i_rem C dX1_isCurve_50 ⟨by omega, by omega⟩ ⟨by omega, by omega⟩ ?_
                refine i_mul C dX1_isCurve_51 ?_
                refine i_bipush C dX1_isCurve_52 (by decide +kernel) ?_
                refine lv_iload_n C.1 C.2.1 dX1_isCurve_54 rfl (lv_at hl 2 rfl) ?_
                refine lv_iload_n C.1 C.2.1 dX1_isCurve_55 rfl (lv_at hl 2 rfl) ?_
                refine i_mul C dX1_isCurve_56 ?_
                refine lv_iload_n C.1 C.2.1 dX1_isCurve_57 rfl (lv_at hl 0 rfl) ?_
                refine i_rem C dX1_isCurve_58 ⟨by omega, by omega⟩ ⟨by omega, by omega⟩ ?_
                refine i_mul C dX1_isCurve_59 ?_
                refine i_add C dX1_isCurve_60 ?_
                refine lv_iload_n C.1 C.2.1 dX1_isCurve_61 rfl (lv_at hl 0 rfl) ?_
                refine i_rem C dX1_isCurve_62 ⟨by omega, by omega⟩ ⟨by omega, by omega⟩ ?_
                refine i_if_eq (tgt := 70) C dX1_isCurve_63 (by decide) ⟨by omega, by omega⟩ (fun h8 => ?_) (fun h8 => ?_)
                · rw [if_pos h8] at hV
                  refine i_const C dX1_isCurve_70 ?_
                  subst hV
                  exact rt_z C hr hk dX1_isCurve_71 (Or.inl rfl) rfl
                · rw [if_neg h8] at hV
                  refine i_const C dX1_isCurve_66 ?_
                  refine lv_goto (tgt := 71) C.1 C.2.1 dX1_isCurve_67 (by decide) ?_
                  subst hV
                  exact rt_z C hr hk dX1_isCurve_71 (Or.inr rfl) rfl
              · rw [if_pos (show p ≤ b by omega)] at hV
                refine i_const C dX1_isCurve_39 ?_
                subst hV
                exact rt_z C hr hk dX1_isCurve_40 (Or.inl rfl) rfl
      · rw [if_pos (show k = 0 by omega)] at hV
        refine i_const C dX1_isCurve_19 ?_
        subst hV
        exact rt_z C hr hk dX1_isCurve_20 (Or.inl rfl) rfl
end
section
/-! Methods that read objects and leave the heap as it is. -/
def PcW (D : va_G) (ws : va_W) (tys : List (ClassId × FieldType)) (av : List Value) : Array Value → State → Prop := fun v U => v = av.toArray ∧ Nw U ∧ va_P D clX ws U.heap ∧ va_K D clX tys U
theorem pcw_blind (D : va_G) (ws : va_W) (tys : List (ClassId × FieldType)) (av : List Value) : FrameBlind (PcW D ws tys av) := fun a U g mk h => ⟨h.1, Nw.same (u := U) (U := U.calling g mk a) rfl h.2.1, h.2.2.1, va_K.moved (u := U) (U := U.calling g mk a) (Vm.Alike.refl U.vm) h.2.2.2⟩
theorem pcw_pre {D : va_G} {ws : va_W} {tys : List (ClassId × FieldType)} {s : State} {H : Heap} (As : List Value) (hN : Nw s) (hP : va_P D clX ws H) (hK : va_K D clX tys s) : PreS s H (PcW D ws tys As) As := ⟨pcw_blind D ws tys As, fun U hU hW => ⟨rfl, Nw.warm hW hN, by rw [hU]; exact hP, va_K.moved hW.alike hK⟩⟩
theorem pcw_preV {D : va_G} {ws : va_W} {tys : List (ClassId × FieldType)} {s : State} {H : Heap} {b : Nat} (As : List Value) (hN : Nw s) (hP : va_P D clX ws H) (hK : va_K D clX tys s) (q0 : Nat) {ci : Nat} {q : vw_C} {fs : List Value} (hc : clX[ci]? = some q) (he : ws[q0]? = some (b, .inr (ci, fs))) : PreV s H q.1 b (PcW D ws tys (.ref b :: As)) As :=
  ⟨pcw_blind D ws tys _, va_recv hK hP hc he, fun U hU hW => ⟨rfl, Nw.warm hW hN, by rw [hU]; exact hP, va_K.moved hW.alike hK⟩⟩
/-- the head of such a method -/
theorem mt_W {l : Launch} {y : MethodName} {cc : ByteArray} {maxL : Nat} {ret : Option FieldType} {rm : Room} {D : va_G} {ws : va_W} {tys : List (ClassId × FieldType)} {av : List Value} {v : Option Value} (hy : plainName y.cls = true) (hn : (lg_sl av).length ≤ maxL)
    (body : ∀ p e s m args below meth c, Cx p m c cc maxL s args y.cls → Nw s → va_P D clX ws s.heap → va_K D clX tys s → meth.sig.returnType = ret → meth.locks = false → ∀ ls, lv_has ls maxL (lv_args 0 av) → W p l e rm s m args below meth c s.heap [] 0 0 (MQ below (QcV v) args s 0 0 (fun _ => False)) (F0 m 0 ls [])) :
    Met l y (Cond.code y cc maxL ret :: AW) rm (PcW D ws tys av) (QcV v) 0 0 (fun _ => False) := by
  refine Met.ofW (cc := cc) (maxL := maxL) (ret := ret) hy rfl ?_
  intro p e s m args below meth c s₁ B hml hv
  obtain ⟨rfl, hN, hP, hK⟩ := hv
  have hts := atoms_spec (ws := Cond.code y cc maxL ret :: AW) B.pre
  have hl := lv_entry av (n := maxL) hn
  rw [lg_entry_eq]
  generalize (lg_sl av ++ List.replicate (maxL - (lg_sl av).length) Slot.unset).toArray = ls at hl ⊢
  exact body p e s m _ below meth c ⟨B.exec, B.bytes, hml, findClass_of_methodNamed B.named, fun w h => hts w (List.mem_cons_of_mem _ h)⟩ hN hP hK B.returns B.notSynchronized ls hl
section Rows
variable {p : Program} {l : Launch} {e : Env} {R : Room} {s : State} {m : MethodId} {args : Array Value} {below : List Frame} {meth : Method} {c : Code} {H : Heap} {locs : List Loc} {cells slots : Nat} {Q : State → Prop}
variable {cc : ByteArray} {nL pc : Nat} {own : String} {ls : Array Slot} {rest : List Value} {D : va_G} {ws : va_W} {tys : List (ClassId × FieldType)}
theorem gf (C : Cx p m c cc nL s args own) (hK : va_K D clX tys s) (hP : va_P D clX ws H) (q0 : Nat) {a ci : Nat} {fs : List Value} (he : ws[q0]? = some (a, .inr (ci, fs))) {Cn : String} {T : u_T} {N : Nat} (hc : clX[ci]? = some (Cn, T, N)) (hu : ∀ w, w ∈ u_ws Cn T N → w ∈ AW) (k : Nat) (hk : k < N) {idx : Nat} (hw : Cond.fieldLink own idx (T k).1 (T k).2.1 (T k).2.2.1 ∈ AW) {v : Value} (hv : fs[k]? = some v) (hdg : decode cc pc = .ok (.getfield idx, 3))
    (kk : W p l e R s m args below meth c H locs cells slots Q (F0 m (pc + 3) ls (v :: rest))) : W p l e R s m args below meth c H locs cells slots Q (F0 m pc ls (.ref a :: rest)) :=
  va_get C.1 C.2.1 C.2.2.2.2 hu C.2.2.2.1 hK hP q0 he hc k hk (C.2.2.2.2 _ hw) (fun _ h => h) hv hdg kk
/-- a call of an instance method that only reads -/
theorem ca_V {bytes : ByteArray} {maxL index b : Nat} {Cn : String} {y : MethodName} {ret : Option FieldType} {rm : Room} {As st0 : List Value} {v : Option Value} {Pc : Array Value → State → Prop}
    (C : Cx p m c cc nL s args own) (hM : Met l y (Cond.code y bytes maxL ret :: AW) rm Pc (QcV v) 0 0 (fun _ => False)) (hp : PreV s H Cn b Pc As)
    (h1 : Cond.code y bytes maxL ret ∈ AW) (h2 : Cond.methodLink own index y ∈ AW) (h3 : Cond.instanceMethod y ∈ AW) (h4 : Cond.initialized y.cls ∈ AW) (h5 : Cond.selects Cn y y ∈ AW) (hrc : rm.cells = 0 ∧ rm.slots = 0) (n : Nat)
    (hd : y.cls ≠ "java/lang/invoke/MethodHandle" ∧ y.cls ≠ "java/lang/invoke/VarHandle" ∧ (parseMethodDescriptor y.desc).map (fun d => d.parameters.length) = some n) (hn : As.length = n) (hR : rm.frames + 1 ≤ R.frames ∧ 8 + (maxL + 11) + rm.locals ≤ R.locals)
    (hsize : ls.size = nL) (hst : st0 = As.reverse ++ .ref b :: rest) (hrest : (rest.map fun v => v.category).sum ≤ 8) (hdg : decode cc pc = .ok (.invokevirtual index, 3)) (hcs : cells ≤ R.cells ∧ slots ≤ R.slots)
    (kk : W p l e R s m args below meth c H locs cells slots Q (F0 m (pc + 3) ls (v.toList ++ rest))) : W p l e R s m args below meth c H locs cells slots Q (F0 m pc ls st0) := by
  subst hst
  subst hn
  obtain ⟨hx, hb, hml, hown, hts⟩ := C
  exact rd_go (W.runV (g := F0 m pc ls (As.reverse ++ .ref b :: rest)) (As := As) (rest := rest) ⟨hx, hb, hml, hown, hts⟩ hM ⟨callB_of As.length hts (aw_ina h1) rfl hrc.1 hrc.2 (hts _ h4) (hts _ h2) hd hR, hts _ h3, hts _ h5⟩ hp rfl rfl hsize rfl (lv_room hrest) hdg hcs) kk
end Rows
end
section
/-! Curve: what only reads. By wip/whole/tools/gen4.py. -/
def unF (n : Nat) (k : Int) : Int := if k < 1 then 0 else if (n : Int) ≤ k then 0 else 1
set_option maxRecDepth 100000 in
set_option maxHeartbeats 4000000 in
theorem c_X0_isUnit (l : Launch) (D : va_G) (h0 p a b n : Nat) (g : Int) (hn : n ≤ 1100) (k : Int) (hk0 : rg k) : Met l yX0_isUnit (Cond.code yX0_isUnit cX0_isUnit 2 (some .boolean) :: AW) ({ frames := 0, cells := 0, slots := 0, locals := 0 } : Room) (PcW D [(h0, .inr (0, [.int (ii (p : Int)), .int (ii (a : Int)), .int (ii (b : Int)), .int (ii (n : Int)), .int (ii g)]))] [] [.ref h0, .int (ii k)]) (QcV (some (.int (ii (unF n k))))) 0 0 (fun _ => False) := by
  refine mt_W (by decide +kernel) (Nat.le_of_ble_eq_true rfl) ?_
  intro P0 E0 S0 M0 A0 B0 T0 K0 C hN hP hK hr hk ls hl
  have hl : lv_has ls 2 [(0, .ref h0), (1, .int (ii k))] := hl
  generalize hV : unF n k = V
  unfold unF at hV
  refine lv_iload_n C.1 C.2.1 dX0_isUnit_0 rfl (lv_at hl 1 rfl) ?_
  refine i_const C dX0_isUnit_1 ?_
  refine i_icmp_lt (tgt := 17) C dX0_isUnit_2 (by decide) ⟨by omega, by omega⟩ ⟨by omega, by omega⟩ (fun h1 => ?_) (fun h1 => ?_)
  · rw [if_pos (show k < 1 by omega)] at hV
    refine i_const C dX0_isUnit_17 ?_
    subst hV
    exact rt_z C hr hk dX0_isUnit_18 (Or.inl rfl) rfl
  · rw [if_neg (show ¬ k < 1 by omega)] at hV
    refine lv_iload_n C.1 C.2.1 dX0_isUnit_5 rfl (lv_at hl 1 rfl) ?_
    refine lv_aload_n C.1 C.2.1 dX0_isUnit_6 rfl (lv_at hl 0 rfl) ?_
    refine gf C hK hP 0 rfl rfl aw_uX0 3 (by decide) aw_f_X0_21 rfl dX0_isUnit_7 ?_
    refine i_icmp_ge (tgt := 17) C dX0_isUnit_10 (by decide) ⟨by omega, by omega⟩ ⟨by omega, by omega⟩ (fun h2 => ?_) (fun h2 => ?_)
    · rw [if_pos (show (n : Int) ≤ k by omega)] at hV
      refine i_const C dX0_isUnit_17 ?_
      subst hV
      exact rt_z C hr hk dX0_isUnit_18 (Or.inl rfl) rfl
    · rw [if_neg (show ¬ (n : Int) ≤ k by omega)] at hV
      refine i_const C dX0_isUnit_13 ?_
      refine lv_goto (tgt := 18) C.1 C.2.1 dX0_isUnit_14 (by decide) ?_
      subst hV
      exact rt_z C hr hk dX0_isUnit_18 (Or.inr rfl) rfl
def hoF (p a b : Nat) (x y : Int) : Int := if x < 0 then 0 else if (p : Int) ≤ x then 0 else if y < 0 then 0 else if (p : Int) ≤ y then 0 else if y * y % p = ((x * x + a) % p * x + b) % p then 1 else 0
set_option maxRecDepth 100000 in
set_option maxHeartbeats 4000000 in
theorem c_X0_holds (l : Launch) (D : va_G) (h0 p a b n : Nat) (g : Int) (hp : 5 ≤ p ∧ p ≤ 1021) (ha : a < p) (hb : b < p) (x y : Int) (hx0 : rg x) (hy0 : rg y) : Met l yX0_holds (Cond.code yX0_holds cX0_holds 3 (some .boolean) :: AW) ({ frames := 1, cells := 0, slots := 0, locals := 24 } : Room) (PcW D [(h0, .inr (0, [.int (ii (p : Int)), .int (ii (a : Int)), .int (ii (b : Int)), .int (ii (n : Int)), .int (ii g)]))] [] [.ref h0, .int (ii x), .int (ii y)]) (QcV (some (.int (ii (hoF p a b x y))))) 0 0 (fun _ => False) := by
  refine mt_W (by decide +kernel) (Nat.le_of_ble_eq_true rfl) ?_
  intro P0 E0 S0 M0 A0 B0 T0 K0 C hN hP hK hr hk ls hl
  have hl : lv_has ls 3 [(0, .ref h0), (1, .int (ii x)), (2, .int (ii y))] := hl
  generalize hV : hoF p a b x y = V
  unfold hoF at hV
  refine lv_iload_n C.1 C.2.1 dX0_holds_0 rfl (lv_at hl 1 rfl) ?_
  refine i_if_lt (tgt := 55) C dX0_holds_1 (by decide) ⟨by omega, by omega⟩ (fun h1 => ?_) (fun h1 => ?_)
  · rw [if_pos (show x < 0 by omega)] at hV
    refine i_const C dX0_holds_55 ?_
    subst hV
    exact rt_z C hr hk dX0_holds_56 (Or.inl rfl) rfl
  · rw [if_neg (show ¬ x < 0 by omega)] at hV
    refine lv_iload_n C.1 C.2.1 dX0_holds_4 rfl (lv_at hl 1 rfl) ?_
    refine lv_aload_n C.1 C.2.1 dX0_holds_5 rfl (lv_at hl 0 rfl) ?_
    refine gf C hK hP 0 rfl rfl aw_uX0 0 (by decide) aw_f_X0_9 rfl dX0_holds_6 ?_
    refine i_icmp_ge (tgt := 55) C dX0_holds_9 (by decide) ⟨by omega, by omega⟩ ⟨by omega, by omega⟩ (fun h2 => ?_) (fun h2 => ?_)
    · rw [if_pos (show (p : Int) ≤ x by omega)] at hV
      refine i_const C dX0_holds_55 ?_
      subst hV
      exact rt_z C hr hk dX0_holds_56 (Or.inl rfl) rfl
    · rw [if_neg (show ¬ (p : Int) ≤ x by omega)] at hV
      refine lv_iload_n C.1 C.2.1 dX0_holds_12 rfl (lv_at hl 2 rfl) ?_
      refine i_if_lt (tgt := 55) C dX0_holds_13 (by decide) ⟨by omega, by omega⟩ (fun h3 => ?_) (fun h3 => ?_)
      · rw [if_pos (show y < 0 by omega)] at hV
        refine i_const C dX0_holds_55 ?_
        subst hV
        exact rt_z C hr hk dX0_holds_56 (Or.inl rfl) rfl
      · rw [if_neg (show ¬ y < 0 by omega)] at hV
        refine lv_iload_n C.1 C.2.1 dX0_holds_16 rfl (lv_at hl 2 rfl) ?_
        refine lv_aload_n C.1 C.2.1 dX0_holds_17 rfl (lv_at hl 0 rfl) ?_
        refine gf C hK hP 0 rfl rfl aw_uX0 0 (by decide) aw_f_X0_9 rfl dX0_holds_18 ?_
        refine i_icmp_ge (tgt := 55) C dX0_holds_21 (by decide) ⟨by omega, by omega⟩ ⟨by omega, by omega⟩ (fun h4 => ?_) (fun h4 => ?_)
        · rw [if_pos (show (p : Int) ≤ y by omega)] at hV
          refine i_const C dX0_holds_55 ?_
          subst hV
          exact rt_z C hr hk dX0_holds_56 (Or.inl rfl) rfl
        · rw [if_neg (show ¬ (p : Int) ≤ y by omega)] at hV
          have q1 := mu_b (show 0 ≤ y by omega) (show y ≤ 1099 by omega) (show 0 ≤ y by omega) (show y ≤ 1099 by omega)
          have q2 := em_b (y * y) (show (0 : Int) < p by omega)
          have q3 := em_b ((x * x + a) % p * x + b) (show (0 : Int) < p by omega)
          refine lv_iload_n C.1 C.2.1 dX0_holds_24 rfl (lv_at hl 2 rfl) ?_
          refine lv_iload_n C.1 C.2.1 dX0_holds_25 rfl (lv_at hl 2 rfl) ?_
          refine i_mul C dX0_holds_26 ?_
          refine lv_aload_n C.1 C.2.1 dX0_holds_27 rfl (lv_at hl 0 rfl) ?_
          refine gf C hK hP 0 rfl rfl aw_uX0 0 (by decide) aw_f_X0_9 rfl dX0_holds_28 ?_
          refine i_rem C dX0_holds_31 ⟨by omega, by omega⟩ ⟨by omega, by omega⟩ ?_
          refine lv_aload_n C.1 C.2.1 dX0_holds_32 rfl (lv_at hl 0 rfl) ?_
          refine gf C hK hP 0 rfl rfl aw_uX0 0 (by decide) aw_f_X0_9 rfl dX0_holds_33 ?_
          refine lv_aload_n C.1 C.2.1 dX0_holds_36 rfl (lv_at hl 0 rfl) ?_
          refine gf C hK hP 0 rfl rfl aw_uX0 1 (by decide) aw_f_X0_15 rfl dX0_holds_37 ?_
          refine lv_aload_n C.1 C.2.1 dX0_holds_40 rfl (lv_at hl 0 rfl) ?_
          refine gf C hK hP 0 rfl rfl aw_uX0 2 (by decide) aw_f_X0_18 rfl dX0_holds_41 ?_
          refine lv_iload_n C.1 C.2.1 dX0_holds_44 rfl (lv_at hl 1 rfl) ?_
          refine ca_SN (As := [.int (ii (p : Int)), .int (ii (a : Int)), .int (ii (b : Int)), .int (ii x)]) (rest := [.int (ii ((y * y) % (p : Int)))]) C (c_X1_cubic l (p : Int) (a : Int) (b : Int) x (by omega) (by omega) (by omega) (by omega)) hN (pcn_pre _ hN) aw_b_X1_cubic nw_X0_31 aw_s_X1_cubic aw_i_X1 ⟨rfl, rfl⟩ 4 (by decide +kernel) rfl ⟨by decide, by decide⟩ hl.1 rfl (Nat.le_of_ble_eq_true rfl) dX0_holds_45 ⟨by decide, by decide⟩ ?_
          refine i_icmp_ne (tgt := 55) C dX0_holds_48 (by decide) ⟨by omega, by omega⟩ ⟨by omega, by omega⟩ (fun h5 => ?_) (fun h5 => ?_)
          · rw [if_neg h5] at hV
            refine i_const C dX0_holds_55 ?_
            subst hV
            exact rt_z C hr hk dX0_holds_56 (Or.inl rfl) rfl
          · rw [if_pos (Classical.not_not.mp h5)] at hV
            refine i_const C dX0_holds_51 ?_
            refine lv_goto (tgt := 56) C.1 C.2.1 dX0_holds_52 (by decide) ?_
            subst hV
            exact rt_z C hr hk dX0_holds_56 (Or.inr rfl) rfl
def qtF (x y : Int) (q : Nat) : Int := (x % q * (pwF q 11 1 (y % q).toNat (q - 2) : Nat)) % q
theorem qtF_b (x y : Int) {q : Nat} (hq : 0 < q) : 0 ≤ qtF x y q ∧ qtF x y q < q := em_b _ (by omega)
def slF (p a x y u v : Nat) : Int := if (x : Int) * 65536 + y = (u : Int) * 65536 + v then qtF (3 * x * x + a) (2 * y) p else qtF ((v : Int) - y) ((u : Int) - x) p
set_option maxRecDepth 100000 in
set_option maxHeartbeats 4000000 in
theorem c_X0_slope (l : Launch) (D : va_G) (h0 p a b n : Nat) (g : Int) (hp : 5 ≤ p ∧ p ≤ 1021) (ha : a < p) (hb : b < p) (x y u v : Nat) (hx0 : x < p) (hy0 : y < p) (hu0 : u < p) (hv0 : v < p) : Met l yX0_slope (Cond.code yX0_slope cX0_slope 5 (some .int) :: AW) ({ frames := 2, cells := 0, slots := 0, locals := 46 } : Room) (PcW D [(h0, .inr (0, [.int (ii (p : Int)), .int (ii (a : Int)), .int (ii (b : Int)), .int (ii (n : Int)), .int (ii g)]))] [] [.ref h0, .int (ii ((x : Int) * 65536 + (y : Int))), .int (ii ((u : Int) * 65536 + (v : Int)))]) (QcV (some (.int (ii (slF p a x y u v))))) 0 0 (fun _ => False) := by
  refine mt_W (by decide +kernel) (Nat.le_of_ble_eq_true rfl) ?_
  intro P0 E0 S0 M0 A0 B0 T0 K0 C hN hP hK hr hk ls hl
  have hl : lv_has ls 5 [(0, .ref h0), (1, .int (ii ((x : Int) * 65536 + (y : Int)))), (2, .int (ii ((u : Int) * 65536 + (v : Int))))] := hl
  generalize hV : slF p a x y u v = V
  unfold slF at hV
  have q1 := nmul_b (show x ≤ 1100 by omega) (show x ≤ 1100 by omega)
  refine lv_iload_n C.1 C.2.1 dX0_slope_0 rfl (lv_at hl 1 rfl) ?_
  refine ca_SN (As := [.int (ii ((x : Int) * 65536 + (y : Int)))]) (rest := []) C (c_X1_xOf l (x : Int) (y : Int) ⟨by omega, by omega⟩ ⟨by omega, by omega⟩) hN (pcn_pre _ hN) aw_b_X1_xOf nw_X0_48 aw_s_X1_xOf aw_i_X1 ⟨rfl, rfl⟩ 1 (by decide +kernel) rfl ⟨by decide, by decide⟩ hl.1 rfl (Nat.le_of_ble_eq_true rfl) dX0_slope_1 ⟨by decide, by decide⟩ ?_
  refine lv_istore_n C.1 C.2.1 dX0_slope_4 rfl hl (by decide) rfl (fun ls hl => ?_)
  have hl : lv_has ls 5 [(3, .int (ii (x : Int))), (0, .ref h0), (1, .int (ii ((x : Int) * 65536 + (y : Int)))), (2, .int (ii ((u : Int) * 65536 + (v : Int))))] := hl
  refine lv_iload_n C.1 C.2.1 dX0_slope_5 rfl (lv_at hl 2 rfl) ?_
  refine ca_SN (As := [.int (ii ((x : Int) * 65536 + (y : Int)))]) (rest := []) C (c_X1_yOf l (x : Int) (y : Int) ⟨by omega, by omega⟩ ⟨by omega, by omega⟩) hN (pcn_pre _ hN) aw_b_X1_yOf nw_X0_52 aw_s_X1_yOf aw_i_X1 ⟨rfl, rfl⟩ 1 (by decide +kernel) rfl ⟨by decide, by decide⟩ hl.1 rfl (Nat.le_of_ble_eq_true rfl) dX0_slope_6 ⟨by decide, by decide⟩ ?_
  refine lv_istore C.1 C.2.1 dX0_slope_9 hl (by decide) rfl (fun ls hl => ?_)
  have hl : lv_has ls 5 [(4, .int (ii (y : Int))), (3, .int (ii (x : Int))), (0, .ref h0), (1, .int (ii ((x : Int) * 65536 + (y : Int)))), (2, .int (ii ((u : Int) * 65536 + (v : Int))))] := hl
  refine lv_iload_n C.1 C.2.1 dX0_slope_11 rfl (lv_at hl 3 rfl) ?_
  refine lv_iload_n C.1 C.2.1 dX0_slope_12 rfl (lv_at hl 4 rfl) ?_
  refine i_icmp_ne (tgt := 38) C dX0_slope_13 (by decide) ⟨by omega, by omega⟩ ⟨by omega, by omega⟩ (fun h1 => ?_) (fun h1 => ?_)
  · rw [if_neg h1] at hV
    refine lv_iload_n C.1 C.2.1 dX0_slope_38 rfl (lv_at hl 4 rfl) ?_
    refine ca_SN (As := [.int (ii ((u : Int) * 65536 + (v : Int)))]) (rest := []) C (c_X1_yOf l (u : Int) (v : Int) ⟨by omega, by omega⟩ ⟨by omega, by omega⟩) hN (pcn_pre _ hN) aw_b_X1_yOf nw_X0_52 aw_s_X1_yOf aw_i_X1 ⟨rfl, rfl⟩ 1 (by decide +kernel) rfl ⟨by decide, by decide⟩ hl.1 rfl (Nat.le_of_ble_eq_true rfl) dX0_slope_39 ⟨by decide, by decide⟩ ?_
    refine lv_iload C.1 C.2.1 dX0_slope_42 (lv_at hl 0 rfl) ?_
    refine i_sub C dX0_slope_44 ?_
    refine lv_iload_n C.1 C.2.1 dX0_slope_45 rfl (lv_at hl 4 rfl) ?_
    refine ca_SN (As := [.int (ii ((u : Int) * 65536 + (v : Int)))]) (rest := [.int (ii ((v : Int) - (y : Int)))]) C (c_X1_xOf l (u : Int) (v : Int) ⟨by omega, by omega⟩ ⟨by omega, by omega⟩) hN (pcn_pre _ hN) aw_b_X1_xOf nw_X0_48 aw_s_X1_xOf aw_i_X1 ⟨rfl, rfl⟩ 1 (by decide +kernel) rfl ⟨by decide, by decide⟩ hl.1 rfl (Nat.le_of_ble_eq_true rfl) dX0_slope_46 ⟨by decide, by decide⟩ ?_
    refine lv_iload_n C.1 C.2.1 dX0_slope_49 rfl (lv_at hl 1 rfl) ?_
    refine i_sub C dX0_slope_50 ?_
    refine lv_aload_n C.1 C.2.1 dX0_slope_51 rfl (lv_at hl 2 rfl) ?_
    refine gf C hK hP 0 rfl rfl aw_uX0 0 (by decide) aw_f_X0_9 rfl dX0_slope_52 ?_
    refine ca_SN (As := [.int (ii ((v : Int) - (y : Int))), .int (ii ((u : Int) - (x : Int))), .int (ii (p : Int))]) (rest := []) C (c_X1_quotient l ((v : Int) - y) ((u : Int) - x) p ⟨by omega, by omega⟩ ⟨by omega, by omega⟩ ⟨by omega, by omega⟩) hN (pcn_pre _ hN) aw_b_X1_quotient nw_X0_60 aw_s_X1_quotient aw_i_X1 ⟨rfl, rfl⟩ 3 (by decide +kernel) rfl ⟨by decide, by decide⟩ hl.1 rfl (Nat.le_of_ble_eq_true rfl) dX0_slope_55 ⟨by decide, by decide⟩ ?_
    rw [← hV]
    exact rt_i C hr hk dX0_slope_58 rfl
  · rw [if_pos (Classical.not_not.mp h1)] at hV
    refine i_const C dX0_slope_16 ?_
    refine lv_iload_n C.1 C.2.1 dX0_slope_17 rfl (lv_at hl 1 rfl) ?_
    refine i_mul C dX0_slope_18 ?_
    refine lv_iload_n C.1 C.2.1 dX0_slope_19 rfl (lv_at hl 1 rfl) ?_
    refine i_mul C dX0_slope_20 ?_
    refine lv_aload_n C.1 C.2.1 dX0_slope_21 rfl (lv_at hl 2 rfl) ?_
    refine gf C hK hP 0 rfl rfl aw_uX0 1 (by decide) aw_f_X0_15 rfl dX0_slope_22 ?_
    refine i_add C dX0_slope_25 ?_
    refine i_const C dX0_slope_26 ?_
    refine lv_iload C.1 C.2.1 dX0_slope_27 (lv_at hl 0 rfl) ?_
    refine i_mul C dX0_slope_29 ?_
    refine lv_aload_n C.1 C.2.1 dX0_slope_30 rfl (lv_at hl 2 rfl) ?_
    refine gf C hK hP 0 rfl rfl aw_uX0 0 (by decide) aw_f_X0_9 rfl dX0_slope_31 ?_
    have q2 : (3 * (x : Int)) * x = 3 * ((x * x : Nat) : Int) := by rw [Int.mul_assoc]; rfl
    refine ca_SN (As := [.int (ii (((3 * (x : Int)) * (x : Int)) + (a : Int))), .int (ii (2 * (y : Int))), .int (ii (p : Int))]) (rest := []) C (c_X1_quotient l (3 * (x : Int) * x + a) (2 * (y : Int)) p ⟨by omega, by omega⟩ ⟨by omega, by omega⟩ ⟨by omega, by omega⟩) hN (pcn_pre _ hN) aw_b_X1_quotient nw_X0_60 aw_s_X1_quotient aw_i_X1 ⟨rfl, rfl⟩ 3 (by decide +kernel) rfl ⟨by decide, by decide⟩ hl.1 rfl (Nat.le_of_ble_eq_true rfl) dX0_slope_34 ⟨by decide, by decide⟩ ?_
    rw [← hV]
    exact rt_i C hr hk dX0_slope_37 rfl
/-- a point's int -/
def ecd (P : Option (Nat × Nat)) : Int := match P with
  | none => -1
  | some q => (q.1 : Int) * 65536 + (q.2 : Int)
def plF (p a : Nat) (P Q : Option (Nat × Nat)) : Option (Nat × Nat) := match P, Q with
  | none, Q => Q
  | some P, none => some P
  | some (x, y), some (u, v) => if x = u ∧ y + v = p then none else
    some (((slF p a x y u v * slF p a x y u v - x - u) % p).toNat, ((slF p a x y u v * ((x : Int) - (slF p a x y u v * slF p a x y u v - x - u) % p) - y) % p).toNat)
def sm2 (p : Nat) (P : Option (Nat × Nat)) : Prop := ∀ x y, P = some (x, y) → x < p ∧ y < p
theorem sm2_none (p : Nat) : sm2 p none := fun x y h => by cases h
theorem plF_sm {p a : Nat} (hp : 0 < p) {P Q : Option (Nat × Nat)} (hP : sm2 p P) (hQ : sm2 p Q) : sm2 p (plF p a P Q) := by
  intro w z h
  rcases P with _ | ⟨x, y⟩
  · exact hQ w z h
  · rcases Q with _ | ⟨u, v⟩
    · exact hP w z h
    · have h : (if x = u ∧ y + v = p then none else some (((slF p a x y u v * slF p a x y u v - x - u) % p).toNat, ((slF p a x y u v * ((x : Int) - (slF p a x y u v * slF p a x y u v - x - u) % p) - y) % p).toNat)) = some (w, z) := h
      split at h
      · cases h
      · cases h
        have e1 := em_b (slF p a x y u v * slF p a x y u v - x - u) (show (0 : Int) < p by omega)
        have e2 := em_b (slF p a x y u v * ((x : Int) - (slF p a x y u v * slF p a x y u v - x - u) % p) - y) (show (0 : Int) < p by omega)
        omega
theorem ecd_b {p : Nat} (hp : p ≤ 1021) {P : Option (Nat × Nat)} (h : sm2 p P) : -1 ≤ ecd P ∧ ecd P ≤ 66912255 := by
  rcases P with _ | ⟨x, y⟩
  · show (-1 : Int) ≤ -1 ∧ (-1 : Int) ≤ 66912255
    omega
  · obtain ⟨h1, h2⟩ := h x y rfl
    show -1 ≤ (x : Int) * 65536 + (y : Int) ∧ (x : Int) * 65536 + (y : Int) ≤ 66912255
    omega
theorem slF_b {p : Nat} (hp : 0 < p) (a x y u v : Nat) : 0 ≤ slF p a x y u v ∧ slF p a x y u v < p := by
  unfold slF
  split
  · exact qtF_b _ _ hp
  · exact qtF_b _ _ hp
set_option maxRecDepth 100000 in
set_option maxHeartbeats 4000000 in
theorem c_X0_plus (l : Launch) (D : va_G) (h0 p a b n : Nat) (g : Int) (hp : 5 ≤ p ∧ p ≤ 1021) (ha : a < p) (hb : b < p) (P Q : Option (Nat × Nat)) (hP0 : sm2 p P) (hQ0 : sm2 p Q) : Met l yX0_plus (Cond.code yX0_plus cX0_plus 7 (some .int) :: AW) ({ frames := 3, cells := 0, slots := 0, locals := 70 } : Room) (PcW D [(h0, .inr (0, [.int (ii (p : Int)), .int (ii (a : Int)), .int (ii (b : Int)), .int (ii (n : Int)), .int (ii g)]))] [] [.ref h0, .int (ii (ecd P)), .int (ii (ecd Q))]) (QcV (some (.int (ii (ecd (plF p a P Q)))))) 0 0 (fun _ => False) := by
  refine mt_W (by decide +kernel) (Nat.le_of_ble_eq_true rfl) ?_
  intro P0 E0 S0 M0 A0 B0 T0 K0 C hN hP hK hr hk ls hl
  have hl : lv_has ls 7 [(0, .ref h0), (1, .int (ii (ecd P))), (2, .int (ii (ecd Q)))] := hl
  have bP := ecd_b hp.2 hP0
  have bQ := ecd_b hp.2 hQ0
  rcases P with _ | ⟨x, y⟩
  · have hl : lv_has ls 7 [(0, .ref h0), (1, .int (ii (-1))), (2, .int (ii (ecd Q)))] := hl
    refine lv_iload_n C.1 C.2.1 dX0_plus_0 rfl (lv_at hl 1 rfl) ?_
    refine i_const C dX0_plus_1 ?_
    refine i_icmp_ne (tgt := 7) C dX0_plus_2 (by decide) ⟨by omega, by omega⟩ ⟨by omega, by omega⟩ (fun h1 => ?_) (fun h1 => ?_)
    · exact absurd rfl h1
    · refine lv_iload_n C.1 C.2.1 dX0_plus_5 rfl (lv_at hl 2 rfl) ?_
      exact rt_i C hr hk dX0_plus_6 rfl
  · rcases Q with _ | ⟨u, v⟩
    · have hl : lv_has ls 7 [(0, .ref h0), (1, .int (ii ((x : Int) * 65536 + (y : Int)))), (2, .int (ii (-1)))] := hl
      obtain ⟨x0, y0⟩ := hP0 x y rfl
      refine lv_iload_n C.1 C.2.1 dX0_plus_0 rfl (lv_at hl 1 rfl) ?_
      refine i_const C dX0_plus_1 ?_
      refine i_icmp_ne (tgt := 7) C dX0_plus_2 (by decide) ⟨by omega, by omega⟩ ⟨by omega, by omega⟩ (fun h1 => ?_) (fun h1 => ?_)
      · refine lv_iload_n C.1 C.2.1 dX0_plus_7 rfl (lv_at hl 2 rfl) ?_
        refine i_const C dX0_plus_8 ?_
        refine i_icmp_ne (tgt := 14) C dX0_plus_9 (by decide) ⟨by omega, by omega⟩ ⟨by omega, by omega⟩ (fun h2 => ?_) (fun h2 => ?_)
        · exact absurd rfl h2
        · refine lv_iload_n C.1 C.2.1 dX0_plus_12 rfl (lv_at hl 1 rfl) ?_
          exact rt_i C hr hk dX0_plus_13 rfl
      · omega
    · have hl : lv_has ls 7 [(0, .ref h0), (1, .int (ii ((x : Int) * 65536 + (y : Int)))), (2, .int (ii ((u : Int) * 65536 + (v : Int))))] := hl
      obtain ⟨x0, y0⟩ := hP0 x y rfl
      obtain ⟨u0, v0⟩ := hQ0 u v rfl
      have sb := slF_b (show 0 < p by omega) a x y u v
      generalize hV : ecd (plF p a (some (x, y)) (some (u, v))) = V
      have hV : ecd (if x = u ∧ y + v = p then none else some (((slF p a x y u v * slF p a x y u v - x - u) % p).toNat, ((slF p a x y u v * ((x : Int) - (slF p a x y u v * slF p a x y u v - x - u) % p) - y) % p).toNat)) = V := hV
      refine lv_iload_n C.1 C.2.1 dX0_plus_0 rfl (lv_at hl 1 rfl) ?_
      refine i_const C dX0_plus_1 ?_
      refine i_icmp_ne (tgt := 7) C dX0_plus_2 (by decide) ⟨by omega, by omega⟩ ⟨by omega, by omega⟩ (fun h1 => ?_) (fun h1 => ?_)
      · refine lv_iload_n C.1 C.2.1 dX0_plus_7 rfl (lv_at hl 2 rfl) ?_
        refine i_const C dX0_plus_8 ?_
        refine i_icmp_ne (tgt := 14) C dX0_plus_9 (by decide) ⟨by omega, by omega⟩ ⟨by omega, by omega⟩ (fun h2 => ?_) (fun h2 => ?_)
        · refine lv_iload_n C.1 C.2.1 dX0_plus_14 rfl (lv_at hl 1 rfl) ?_
          refine ca_SN (As := [.int (ii ((x : Int) * 65536 + (y : Int)))]) (rest := []) C (c_X1_xOf l (x : Int) (y : Int) ⟨by omega, by omega⟩ ⟨by omega, by omega⟩) hN (pcn_pre _ hN) aw_b_X1_xOf nw_X0_48 aw_s_X1_xOf aw_i_X1 ⟨rfl, rfl⟩ 1 (by decide +kernel) rfl ⟨by decide, by decide⟩ hl.1 rfl (Nat.le_of_ble_eq_true rfl) dX0_plus_15 ⟨by decide, by decide⟩ ?_
          refine lv_istore_n C.1 C.2.1 dX0_plus_18 rfl hl (by decide) rfl (fun ls hl => ?_)
          have hl : lv_has ls 7 [(3, .int (ii (x : Int))), (0, .ref h0), (1, .int (ii ((x : Int) * 65536 + (y : Int)))), (2, .int (ii ((u : Int) * 65536 + (v : Int))))] := hl
          refine lv_iload_n C.1 C.2.1 dX0_plus_19 rfl (lv_at hl 3 rfl) ?_
          refine ca_SN (As := [.int (ii ((u : Int) * 65536 + (v : Int)))]) (rest := []) C (c_X1_xOf l (u : Int) (v : Int) ⟨by omega, by omega⟩ ⟨by omega, by omega⟩) hN (pcn_pre _ hN) aw_b_X1_xOf nw_X0_48 aw_s_X1_xOf aw_i_X1 ⟨rfl, rfl⟩ 1 (by decide +kernel) rfl ⟨by decide, by decide⟩ hl.1 rfl (Nat.le_of_ble_eq_true rfl) dX0_plus_20 ⟨by decide, by decide⟩ ?_
          refine lv_istore C.1 C.2.1 dX0_plus_23 hl (by decide) rfl (fun ls hl => ?_)
          have hl : lv_has ls 7 [(4, .int (ii (u : Int))), (3, .int (ii (x : Int))), (0, .ref h0), (1, .int (ii ((x : Int) * 65536 + (y : Int)))), (2, .int (ii ((u : Int) * 65536 + (v : Int))))] := hl
          refine lv_iload_n C.1 C.2.1 dX0_plus_25 rfl (lv_at hl 1 rfl) ?_
          refine lv_iload C.1 C.2.1 dX0_plus_26 (lv_at hl 0 rfl) ?_
          refine i_icmp_ne (tgt := 49) C dX0_plus_28 (by decide) ⟨by omega, by omega⟩ ⟨by omega, by omega⟩ (fun h3 => ?_) (fun h3 => ?_)
          · rw [if_neg (show ¬ (x = u ∧ y + v = p) by omega)] at hV
            refine lv_aload_n C.1 C.2.1 dX0_plus_49 rfl (lv_at hl 2 rfl) ?_
            refine lv_iload_n C.1 C.2.1 dX0_plus_50 rfl (lv_at hl 3 rfl) ?_
            refine lv_iload_n C.1 C.2.1 dX0_plus_51 rfl (lv_at hl 4 rfl) ?_
            refine ca_V (As := [.int (ii ((x : Int) * 65536 + (y : Int))), .int (ii ((u : Int) * 65536 + (v : Int)))]) (rest := []) C (c_X0_slope l D h0 p a b n g hp ha hb x y u v x0 y0 u0 v0) (pcw_preV [.int (ii ((x : Int) * 65536 + (y : Int))), .int (ii ((u : Int) * 65536 + (v : Int)))] hN hP hK 0 (ci := 0) rfl rfl) aw_b_X0_slope aw_m_X0_55 aw_v_X0_slope aw_i_X0 aw_e_X0_slope ⟨rfl, rfl⟩ 2 (by decide +kernel) rfl ⟨by decide, by decide⟩ hl.1 rfl (Nat.le_of_ble_eq_true rfl) dX0_plus_52 ⟨by decide, by decide⟩ ?_
            generalize slF p a x y u v = k at sb hV ⊢
            have s1 := mu_b sb.1 (show k ≤ 1099 by omega) sb.1 (show k ≤ 1099 by omega)
            refine lv_istore C.1 C.2.1 dX0_plus_55 hl (by decide) rfl (fun ls hl => ?_)
            have hl : lv_has ls 7 [(5, .int (ii k)), (4, .int (ii (u : Int))), (3, .int (ii (x : Int))), (0, .ref h0), (1, .int (ii ((x : Int) * 65536 + (y : Int)))), (2, .int (ii ((u : Int) * 65536 + (v : Int))))] := hl
            refine lv_iload C.1 C.2.1 dX0_plus_57 (lv_at hl 0 rfl) ?_
            refine lv_iload C.1 C.2.1 dX0_plus_59 (lv_at hl 0 rfl) ?_
            refine i_mul C dX0_plus_61 ?_
            refine lv_iload_n C.1 C.2.1 dX0_plus_62 rfl (lv_at hl 2 rfl) ?_
            refine i_sub C dX0_plus_63 ?_
            refine lv_iload C.1 C.2.1 dX0_plus_64 (lv_at hl 1 rfl) ?_
            refine i_sub C dX0_plus_66 ?_
            refine lv_aload_n C.1 C.2.1 dX0_plus_67 rfl (lv_at hl 3 rfl) ?_
            refine gf C hK hP 0 rfl rfl aw_uX0 0 (by decide) aw_f_X0_9 rfl dX0_plus_68 ?_
            refine ca_S (As := [.int (ii (((k * k) - (x : Int)) - (u : Int))), .int (ii (p : Int))]) (rest := []) C (c_floorModI l (k * k - (x : Int) - (u : Int)) (p : Int) ⟨by omega, by omega⟩ ⟨by omega, by omega⟩) (pcn_pre _ hN) aw_b_JM_floorModI aw_m_X0_58 aw_s_JM_floorModI aw_i_JM ⟨rfl, rfl⟩ 2 (by decide +kernel) rfl ⟨by decide, by decide⟩ hl.1 rfl (Nat.le_of_ble_eq_true rfl) dX0_plus_71 ⟨by decide, by decide⟩ ?_
            have s2 := em_b (k * k - (x : Int) - (u : Int)) (show (0 : Int) < p by omega)
            generalize (k * k - (x : Int) - (u : Int)) % (p : Int) = w at s2 hV ⊢
            have s3 : -1208900 ≤ k * ((x : Int) - w) ∧ k * ((x : Int) - w) ≤ 1208900 := by
              rw [Int.mul_sub]
              have z1 := mu_b sb.1 (show k ≤ 1099 by omega) (show (0 : Int) ≤ (x : Int) by omega) (show (x : Int) ≤ 1099 by omega)
              have z2 := mu_b sb.1 (show k ≤ 1099 by omega) s2.1 (show w ≤ 1099 by omega)
              omega
            refine lv_istore C.1 C.2.1 dX0_plus_74 hl (by decide) rfl (fun ls hl => ?_)
            have hl : lv_has ls 7 [(6, .int (ii w)), (5, .int (ii k)), (4, .int (ii (u : Int))), (3, .int (ii (x : Int))), (0, .ref h0), (1, .int (ii ((x : Int) * 65536 + (y : Int)))), (2, .int (ii ((u : Int) * 65536 + (v : Int))))] := hl
            refine lv_iload C.1 C.2.1 dX0_plus_76 (lv_at hl 0 rfl) ?_
            refine lv_iload C.1 C.2.1 dX0_plus_78 (lv_at hl 1 rfl) ?_
            refine lv_iload_n C.1 C.2.1 dX0_plus_80 rfl (lv_at hl 3 rfl) ?_
            refine lv_iload C.1 C.2.1 dX0_plus_81 (lv_at hl 0 rfl) ?_
            refine i_sub C dX0_plus_83 ?_
            refine i_mul C dX0_plus_84 ?_
            refine lv_iload_n C.1 C.2.1 dX0_plus_85 rfl (lv_at hl 5 rfl) ?_
            refine ca_SN (As := [.int (ii ((x : Int) * 65536 + (y : Int)))]) (rest := [.int (ii (k * ((x : Int) - w))), .int (ii w)]) C (c_X1_yOf l (x : Int) (y : Int) ⟨by omega, by omega⟩ ⟨by omega, by omega⟩) hN (pcn_pre _ hN) aw_b_X1_yOf nw_X0_52 aw_s_X1_yOf aw_i_X1 ⟨rfl, rfl⟩ 1 (by decide +kernel) rfl ⟨by decide, by decide⟩ hl.1 rfl (Nat.le_of_ble_eq_true rfl) dX0_plus_86 ⟨by decide, by decide⟩ ?_
            refine i_sub C dX0_plus_89 ?_
            refine lv_aload_n C.1 C.2.1 dX0_plus_90 rfl (lv_at hl 4 rfl) ?_
            refine gf C hK hP 0 rfl rfl aw_uX0 0 (by decide) aw_f_X0_9 rfl dX0_plus_91 ?_
            refine ca_S (As := [.int (ii ((k * ((x : Int) - w)) - (y : Int))), .int (ii (p : Int))]) (rest := [.int (ii w)]) C (c_floorModI l (k * ((x : Int) - w) - (y : Int)) (p : Int) ⟨by omega, by omega⟩ ⟨by omega, by omega⟩) (pcn_pre _ hN) aw_b_JM_floorModI aw_m_X0_58 aw_s_JM_floorModI aw_i_JM ⟨rfl, rfl⟩ 2 (by decide +kernel) rfl ⟨by decide, by decide⟩ hl.1 rfl (Nat.le_of_ble_eq_true rfl) dX0_plus_94 ⟨by decide, by decide⟩ ?_
            have s4 := em_b (k * ((x : Int) - w) - (y : Int)) (show (0 : Int) < p by omega)
            generalize (k * ((x : Int) - w) - (y : Int)) % (p : Int) = z at s4 hV ⊢
            refine ca_SN (As := [.int (ii w), .int (ii z)]) (rest := []) C (c_X1_pointAt l w z) hN (pcn_pre _ hN) aw_b_X1_pointAt nw_X0_39 aw_s_X1_pointAt aw_i_X1 ⟨rfl, rfl⟩ 2 (by decide +kernel) rfl ⟨by decide, by decide⟩ hl.1 rfl (Nat.le_of_ble_eq_true rfl) dX0_plus_97 ⟨by decide, by decide⟩ ?_
            have hV : ((w.toNat : Int)) * 65536 + (z.toNat : Int) = V := hV
            exact rt_i C hr hk dX0_plus_100 (by rw [← hV, Int.toNat_of_nonneg s2.1, Int.toNat_of_nonneg s4.1])
          · refine lv_iload_n C.1 C.2.1 dX0_plus_31 rfl (lv_at hl 3 rfl) ?_
            refine ca_SN (As := [.int (ii ((x : Int) * 65536 + (y : Int)))]) (rest := []) C (c_X1_yOf l (x : Int) (y : Int) ⟨by omega, by omega⟩ ⟨by omega, by omega⟩) hN (pcn_pre _ hN) aw_b_X1_yOf nw_X0_52 aw_s_X1_yOf aw_i_X1 ⟨rfl, rfl⟩ 1 (by decide +kernel) rfl ⟨by decide, by decide⟩ hl.1 rfl (Nat.le_of_ble_eq_true rfl) dX0_plus_32 ⟨by decide, by decide⟩ ?_
            refine lv_iload_n C.1 C.2.1 dX0_plus_35 rfl (lv_at hl 4 rfl) ?_
            refine ca_SN (As := [.int (ii ((u : Int) * 65536 + (v : Int)))]) (rest := [.int (ii (y : Int))]) C (c_X1_yOf l (u : Int) (v : Int) ⟨by omega, by omega⟩ ⟨by omega, by omega⟩) hN (pcn_pre _ hN) aw_b_X1_yOf nw_X0_52 aw_s_X1_yOf aw_i_X1 ⟨rfl, rfl⟩ 1 (by decide +kernel) rfl ⟨by decide, by decide⟩ hl.1 rfl (Nat.le_of_ble_eq_true rfl) dX0_plus_36 ⟨by decide, by decide⟩ ?_
            refine i_add C dX0_plus_39 ?_
            refine lv_aload_n C.1 C.2.1 dX0_plus_40 rfl (lv_at hl 2 rfl) ?_
            refine gf C hK hP 0 rfl rfl aw_uX0 0 (by decide) aw_f_X0_9 rfl dX0_plus_41 ?_
            refine i_icmp_ne (tgt := 49) C dX0_plus_44 (by decide) ⟨by omega, by omega⟩ ⟨by omega, by omega⟩ (fun h4 => ?_) (fun h4 => ?_)
            · rw [if_neg (show ¬ (x = u ∧ y + v = p) by omega)] at hV
              refine lv_aload_n C.1 C.2.1 dX0_plus_49 rfl (lv_at hl 2 rfl) ?_
              refine lv_iload_n C.1 C.2.1 dX0_plus_50 rfl (lv_at hl 3 rfl) ?_
              refine lv_iload_n C.1 C.2.1 dX0_plus_51 rfl (lv_at hl 4 rfl) ?_
              refine ca_V (As := [.int (ii ((x : Int) * 65536 + (y : Int))), .int (ii ((u : Int) * 65536 + (v : Int)))]) (rest := []) C (c_X0_slope l D h0 p a b n g hp ha hb x y u v x0 y0 u0 v0) (pcw_preV [.int (ii ((x : Int) * 65536 + (y : Int))), .int (ii ((u : Int) * 65536 + (v : Int)))] hN hP hK 0 (ci := 0) rfl rfl) aw_b_X0_slope aw_m_X0_55 aw_v_X0_slope aw_i_X0 aw_e_X0_slope ⟨rfl, rfl⟩ 2 (by decide +kernel) rfl ⟨by decide, by decide⟩ hl.1 rfl (Nat.le_of_ble_eq_true rfl) dX0_plus_52 ⟨by decide, by decide⟩ ?_
              generalize slF p a x y u v = k at sb hV ⊢
              have s1 := mu_b sb.1 (show k ≤ 1099 by omega) sb.1 (show k ≤ 1099 by omega)
              refine lv_istore C.1 C.2.1 dX0_plus_55 hl (by decide) rfl (fun ls hl => ?_)
              have hl : lv_has ls 7 [(5, .int (ii k)), (4, .int (ii (u : Int))), (3, .int (ii (x : Int))), (0, .ref h0), (1, .int (ii ((x : Int) * 65536 + (y : Int)))), (2, .int (ii ((u : Int) * 65536 + (v : Int))))] := hl
              refine lv_iload C.1 C.2.1 dX0_plus_57 (lv_at hl 0 rfl) ?_
              refine lv_iload C.1 C.2.1 dX0_plus_59 (lv_at hl 0 rfl) ?_
              refine i_mul C dX0_plus_61 ?_
              refine lv_iload_n C.1 C.2.1 dX0_plus_62 rfl (lv_at hl 2 rfl) ?_
              refine i_sub C dX0_plus_63 ?_
              refine lv_iload C.1 C.2.1 dX0_plus_64 (lv_at hl 1 rfl) ?_
              refine i_sub C dX0_plus_66 ?_
              refine lv_aload_n C.1 C.2.1 dX0_plus_67 rfl (lv_at hl 3 rfl) ?_
              refine gf C hK hP 0 rfl rfl aw_uX0 0 (by decide) aw_f_X0_9 rfl dX0_plus_68 ?_
              refine ca_S (As := [.int (ii (((k * k) - (x : Int)) - (u : Int))), .int (ii (p : Int))]) (rest := []) C (c_floorModI l (k * k - (x : Int) - (u : Int)) (p : Int) ⟨by omega, by omega⟩ ⟨by omega, by omega⟩) (pcn_pre _ hN) aw_b_JM_floorModI aw_m_X0_58 aw_s_JM_floorModI aw_i_JM ⟨rfl, rfl⟩ 2 (by decide +kernel) rfl ⟨by decide, by decide⟩ hl.1 rfl (Nat.le_of_ble_eq_true rfl) dX0_plus_71 ⟨by decide, by decide⟩ ?_
              have s2 := em_b (k * k - (x : Int) - (u : Int)) (show (0 : Int) < p by omega)
              generalize (k * k - (x : Int) - (u : Int)) % (p : Int) = w at s2 hV ⊢
              have s3 : -1208900 ≤ k * ((x : Int) - w) ∧ k * ((x : Int) - w) ≤ 1208900 := by
                rw [Int.mul_sub]
                have z1 := mu_b sb.1 (show k ≤ 1099 by omega) (show (0 : Int) ≤ (x : Int) by omega) (show (x : Int) ≤ 1099 by omega)
                have z2 := mu_b sb.1 (show k ≤ 1099 by omega) s2.1 (show w ≤ 1099 by omega)
                omega
              refine lv_istore C.1 C.2.1 dX0_plus_74 hl (by decide) rfl (fun ls hl => ?_)
              have hl : lv_has ls 7 [(6, .int (ii w)), (5, .int (ii k)), (4, .int (ii (u : Int))), (3, .int (ii (x : Int))), (0, .ref h0), (1, .int (ii ((x : Int) * 65536 + (y : Int)))), (2, .int (ii ((u : Int) * 65536 + (v : Int))))] := hl
              refine lv_iload C.1 C.2.1 dX0_plus_76 (lv_at hl 0 rfl) ?_
              refine lv_iload C.1 C.2.1 dX0_plus_78 (lv_at hl 1 rfl) ?_
              refine lv_iload_n C.1 C.2.1 dX0_plus_80 rfl (lv_at hl 3 rfl) ?_
              refine lv_iload C.1 C.2.1 dX0_plus_81 (lv_at hl 0 rfl) ?_
              refine i_sub C dX0_plus_83 ?_
              refine i_mul C dX0_plus_84 ?_
              refine lv_iload_n C.1 C.2.1 dX0_plus_85 rfl (lv_at hl 5 rfl) ?_
              refine ca_SN (As := [.int (ii ((x : Int) * 65536 + (y : Int)))]) (rest := [.int (ii (k * ((x : Int) - w))), .int (ii w)]) C (c_X1_yOf l (x : Int) (y : Int) ⟨by omega, by omega⟩ ⟨by omega, by omega⟩) hN (pcn_pre _ hN) aw_b_X1_yOf nw_X0_52 aw_s_X1_yOf aw_i_X1 ⟨rfl, rfl⟩ 1 (by decide +kernel) rfl ⟨by decide, by decide⟩ hl.1 rfl (Nat.le_of_ble_eq_true rfl) dX0_plus_86 ⟨by decide, by decide⟩ ?_
              refine i_sub C dX0_plus_89 ?_
              refine lv_aload_n C.1 C.2.1 dX0_plus_90 rfl (lv_at hl 4 rfl) ?_
              refine gf C hK hP 0 rfl rfl aw_uX0 0 (by decide) aw_f_X0_9 rfl dX0_plus_91 ?_
              refine ca_S (As := [.int (ii ((k * ((x : Int) - w)) - (y : Int))), .int (ii (p : Int))]) (rest := [.int (ii w)]) C (c_floorModI l (k * ((x : Int) - w) - (y : Int)) (p : Int) ⟨by omega, by omega⟩ ⟨by omega, by omega⟩) (pcn_pre _ hN) aw_b_JM_floorModI aw_m_X0_58 aw_s_JM_floorModI aw_i_JM ⟨rfl, rfl⟩ 2 (by decide +kernel) rfl ⟨by decide, by decide⟩ hl.1 rfl (Nat.le_of_ble_eq_true rfl) dX0_plus_94 ⟨by decide, by decide⟩ ?_
              have s4 := em_b (k * ((x : Int) - w) - (y : Int)) (show (0 : Int) < p by omega)
              generalize (k * ((x : Int) - w) - (y : Int)) % (p : Int) = z at s4 hV ⊢
              refine ca_SN (As := [.int (ii w), .int (ii z)]) (rest := []) C (c_X1_pointAt l w z) hN (pcn_pre _ hN) aw_b_X1_pointAt nw_X0_39 aw_s_X1_pointAt aw_i_X1 ⟨rfl, rfl⟩ 2 (by decide +kernel) rfl ⟨by decide, by decide⟩ hl.1 rfl (Nat.le_of_ble_eq_true rfl) dX0_plus_97 ⟨by decide, by decide⟩ ?_
              have hV : ((w.toNat : Int)) * 65536 + (z.toNat : Int) = V := hV
              exact rt_i C hr hk dX0_plus_100 (by rw [← hV, Int.toNat_of_nonneg s2.1, Int.toNat_of_nonneg s4.1])
            · rw [if_pos (show x = u ∧ y + v = p by omega)] at hV
              refine i_const C dX0_plus_47 ?_
              have hV : (-1 : Int) = V := hV
              exact rt_i C hr hk dX0_plus_48 (by rw [← hV])
        · omega
      · omega
end
section
/-! Longs of the machine by integers. -/
def li (k : Int) : Int64 := Int64.ofInt k
abbrev rl (k : Int) : Prop := -9223372036854775808 ≤ k ∧ k < 9223372036854775808
theorem li_toInt {k : Int} (h : rl k) : (li k).toInt = k := Int64.toInt_ofInt_of_le (by omega) (by omega)
theorem li_of (x : Int64) : ∃ k : Int, rl k ∧ x = li k := by
  refine ⟨x.toInt, ⟨by have := Int64.le_toInt x; omega, by have := Int64.toInt_lt x; omega⟩, ?_⟩
  unfold li
  rw [Int64.ofInt_toInt]
theorem li_inj {a b : Int} (ha : rl a) (hb : rl b) : li a = li b ↔ a = b := by
  rw [← Int64.toInt_inj, li_toInt ha, li_toInt hb]
theorem li_add (a b : Int) : li a + li b = li (a + b) := (Int64.ofInt_add a b).symm
theorem li_sub (a b : Int) : li a - li b = li (a - b) := (Int64.ofInt_sub a b).symm
theorem li_mul (a b : Int) : li a * li b = li (a * b) := (Int64.ofInt_mul a b).symm
theorem ii_li {k : Int} (h : rg k) : (ii k).toInt64 = li k := by
  apply Int64.toInt_inj.mp
  rw [Int32.toInt_toInt64, ii_toInt h, li_toInt ⟨by omega, by omega⟩]
theorem li_ii {k : Int} (h : rg k) : (li k).toInt32 = ii k := by
  apply Int32.toInt_inj.mp
  rw [Int64.toInt_toInt32, li_toInt ⟨by omega, by omega⟩, ii_toInt h]
  exact Int.bmod_eq_of_le (by omega) (by omega)
/-- how two longs compare, as lcmp says it -/
def cmI (a b : Int) : Int := if b < a then 1 else if a = b then 0 else -1
theorem cmI_b (a b : Int) : -1 ≤ cmI a b ∧ cmI a b ≤ 1 := by
  unfold cmI
  split
  · omega
  · split <;> omega
theorem cmI_eq {a b : Int} : cmI a b = 0 ↔ a = b := by
  unfold cmI
  split
  · omega
  · split <;> omega
theorem cmI_lt {a b : Int} : cmI a b < 0 ↔ a < b := by
  unfold cmI
  split
  · omega
  · split <;> omega
theorem li_cmp {a b : Int} (ha : rl a) (hb : rl b) : lg_cmp (li a) (li b) = ii (cmI a b) := by
  unfold lg_cmp cmI
  have e1 : li a > li b ↔ b < a := by
    show li b < li a ↔ b < a
    rw [Int64.lt_iff_toInt_lt, li_toInt ha, li_toInt hb]
  have e2 := li_inj ha hb
  by_cases h1 : b < a
  · rw [if_pos h1, if_pos (e1.mpr h1)]
    decide +kernel
  · rw [if_neg h1, if_neg (fun z => h1 (e1.mp z))]
    by_cases h2 : a = b
    · rw [if_pos h2, if_pos (e2.mpr h2)]
      decide +kernel
    · rw [if_neg h2, if_neg (fun z => h2 (e2.mp z))]
      decide +kernel
theorem li_div {a d : Int} (ha : rl a) (hd : 0 < d ∧ d < 9223372036854775808) : li a / li d = li (a.tdiv d) := by
  apply Int64.toInt_inj.mp
  have h1 : (li d) ≠ -1 := by
    intro z
    have := congrArg Int64.toInt z
    rw [li_toInt ⟨by omega, by omega⟩] at this
    have e : ((-1 : Int64)).toInt = -1 := by decide +kernel
    omega
  rw [Int64.toInt_div_of_ne_right _ _ h1, li_toInt ha, li_toInt ⟨by omega, by omega⟩]
  have b : rl (a.tdiv d) := by
    rcases Int.le_total 0 a with h0 | h0
    · rw [Int.tdiv_eq_ediv_of_nonneg h0]
      have k1 := Int.ediv_nonneg h0 (show 0 ≤ d by omega)
      have k2 := Int.ediv_le_self d h0
      constructor <;> omega
    · have e : a = -(-a) := by omega
      rw [e, Int.neg_tdiv, Int.tdiv_eq_ediv_of_nonneg (show 0 ≤ -a by omega)]
      have k1 := Int.ediv_nonneg (show 0 ≤ -a by omega) (show 0 ≤ d by omega)
      have k2 := Int.ediv_le_self d (show 0 ≤ -a by omega)
      constructor <;> omega
  rw [li_toInt b]
theorem li_remT {a d : Int} (ha : rl a) (hd : 0 < d ∧ d < 9223372036854775808) : li a - li a / li d * li d = li (a.tmod d) := by
  rw [li_div ha hd, li_mul, li_sub, Int.tmod_def, Int.mul_comm]
theorem li_neg {k : Int} (h : rl k) : (li k).toBitVec.msb = decide (k < 0) := by
  rw [BitVec.msb_eq_toInt]
  show decide ((li k).toInt < 0) = decide (k < 0)
  rw [li_toInt h]
theorem li_xor {a b : Int} (ha : rl a) (hb : rl b) : ∃ k, rl k ∧ li a ^^^ li b = li k ∧ (0 ≤ k ↔ (a < 0 ↔ b < 0)) := by
  obtain ⟨k, hk, e⟩ := li_of (li a ^^^ li b)
  refine ⟨k, hk, e, ?_⟩
  have h : (li a ^^^ li b).toBitVec.msb = (decide (a < 0) ^^ decide (b < 0)) := by
    rw [Int64.toBitVec_xor, BitVec.msb_xor, li_neg ha, li_neg hb]
  rw [e, li_neg hk] at h
  by_cases h1 : a < 0 <;> by_cases h2 : b < 0 <;> simp [h1, h2] at h ⊢ <;> omega
theorem li_shr {k : Int} (h : rl k) (s : Int64) (n : Nat) (hs : (s.toBitVec.smod 64).toNat = n) : li k >>> s = li (k / 2 ^ n) := by
  apply Int64.toInt_inj.mp
  have e : (li k >>> s).toInt = (li k).toInt >>> n := by
    show (BitVec.sshiftRight (li k).toBitVec (s.toBitVec.smod 64).toNat).toInt = (li k).toBitVec.toInt >>> n
    rw [hs, BitVec.toInt_sshiftRight]
  have p2 : (0 : Int) < 2 ^ n := Int.pow_pos (by omega)
  have b : rl (k / 2 ^ n) := by
    rcases Int.le_total 0 k with h0 | h0
    · have k1 := Int.ediv_nonneg h0 (Int.le_of_lt p2)
      have k2 := Int.ediv_le_self (2 ^ n) h0
      constructor <;> omega
    · have k1 : k ≤ k / 2 ^ n := by
        rw [Int.le_ediv_iff_mul_le p2]
        have t := Int.mul_nonneg (show 0 ≤ -k by omega) (show (0 : Int) ≤ 2 ^ n - 1 by omega)
        rw [Int.neg_mul, Int.mul_sub, Int.mul_one] at t
        omega
      have k2 : k / 2 ^ n ≤ 0 := Int.ediv_nonpos_of_nonpos_of_neg h0 p2
      constructor <;> omega
  rw [e, li_toInt h, li_toInt b, Int.shiftRight_eq_div_pow]
  rfl
theorem li_and {k : Int} (n : Nat) (hn : n ≤ 32) (m : Int64) (hm : m.toBitVec.toNat = 2 ^ n - 1) : li k &&& m = li (k % 2 ^ n) := by
  apply Int64.toBitVec_inj.mp
  rw [Int64.toBitVec_and]
  apply BitVec.eq_of_toNat_eq
  rw [BitVec.toNat_and, hm, Nat.and_two_pow_sub_one_eq_mod]
  have e1 : (li k).toBitVec.toNat = (k % 2 ^ 64).toNat := by
    show (BitVec.ofInt 64 k).toNat = _
    rw [BitVec.toNat_ofInt]
    rfl
  have e2 : (li (k % 2 ^ n)).toBitVec.toNat = ((k % 2 ^ n) % 2 ^ 64).toNat := by
    show (BitVec.ofInt 64 (k % 2 ^ n)).toNat = _
    rw [BitVec.toNat_ofInt]
    rfl
  rw [e1, e2]
  have p1 : (0 : Int) < 2 ^ n := Int.pow_pos (by omega)
  have a1 := Int.emod_nonneg k (show (2 : Int) ^ n ≠ 0 by omega)
  have a2 := Int.emod_lt_of_pos k p1
  have le : (2 : Int) ^ n ≤ 2 ^ 64 := by
    have : (2 : Nat) ^ n ≤ 2 ^ 64 := Nat.pow_le_pow_right (by omega) (by omega)
    exact_mod_cast this
  have b1 := Int.emod_nonneg k (show (2 : Int) ^ 64 ≠ 0 by omega)
  rw [Int.emod_eq_of_lt a1 (by omega)]
  have d : (2 : Int) ^ n ∣ 2 ^ 64 := ⟨2 ^ (64 - n), by rw [← Int.pow_add]; congr 1; omega⟩
  have key : k % 2 ^ 64 % 2 ^ n = k % 2 ^ n := Int.emod_emod_of_dvd k d
  have c : (((k % 2 ^ 64).toNat % 2 ^ n : Nat) : Int) = k % 2 ^ n := by
    rw [Int.natCast_emod, Int.toNat_of_nonneg b1]
    have : (((2 ^ n : Nat)) : Int) = 2 ^ n := by exact_mod_cast rfl
    rw [this, key]
  omega
section Longs
variable {p : Program} {l : Launch} {e : Env} {R : Room} {s : State} {m : MethodId} {args : Array Value} {below : List Frame} {meth : Method} {c : Code} {H : Heap} {locs : List Loc} {cells slots : Nat} {Q : State → Prop}
variable {cc : ByteArray} {nL pc : Nat} {own : String} {ls : Array Slot} {rest : List Value}
theorem l_add (C : Cx p m c cc nL s args own) {a b : Int} (hdg : decode cc pc = .ok (.ladd, 1)) (k : W p l e R s m args below meth c H locs cells slots Q (F0 m (pc + 1) ls (.long (li (a + b)) :: rest))) : W p l e R s m args below meth c H locs cells slots Q (F0 m pc ls (.long (li b) :: .long (li a) :: rest)) := lv_ladd C.1 C.2.1 hdg (by rw [li_add]; exact k)
theorem l_sub (C : Cx p m c cc nL s args own) {a b : Int} (hdg : decode cc pc = .ok (.lsub, 1)) (k : W p l e R s m args below meth c H locs cells slots Q (F0 m (pc + 1) ls (.long (li (a - b)) :: rest))) : W p l e R s m args below meth c H locs cells slots Q (F0 m pc ls (.long (li b) :: .long (li a) :: rest)) := lv_lsub C.1 C.2.1 hdg (by rw [li_sub]; exact k)
theorem l_mul (C : Cx p m c cc nL s args own) {a b : Int} (hdg : decode cc pc = .ok (.lmul, 1)) (k : W p l e R s m args below meth c H locs cells slots Q (F0 m (pc + 1) ls (.long (li (a * b)) :: rest))) : W p l e R s m args below meth c H locs cells slots Q (F0 m pc ls (.long (li b) :: .long (li a) :: rest)) := lv_lmul C.1 C.2.1 hdg (by rw [li_mul]; exact k)
theorem l_remT (C : Cx p m c cc nL s args own) {a d : Int} (hdg : decode cc pc = .ok (.lrem, 1)) (ha : rl a) (hd : 0 < d ∧ d < 9223372036854775808) (k : W p l e R s m args below meth c H locs cells slots Q (F0 m (pc + 1) ls (.long (li (a.tmod d)) :: rest))) : W p l e R s m args below meth c H locs cells slots Q (F0 m pc ls (.long (li d) :: .long (li a) :: rest)) :=
  lv_lrem C.1 C.2.1 hdg (fun z => by rw [show (0 : Int64) = li 0 by decide +kernel, li_inj ⟨by omega, by omega⟩ ⟨by omega, by omega⟩] at z; omega) (by rw [li_remT ha hd]; exact k)
theorem l_const0 (C : Cx p m c cc nL s args own) (hdg : decode cc pc = .ok (.lconst 0, 1)) (k : W p l e R s m args below meth c H locs cells slots Q (F0 m (pc + 1) ls (.long (li 0) :: rest))) : W p l e R s m args below meth c H locs cells slots Q (F0 m pc ls rest) := lv_lconst C.1 C.2.1 hdg (by decide +kernel) k
theorem l_ldc2 (C : Cx p m c cc nL s args own) {i : Nat} {n : Int} {v : Int64} (hdg : decode cc pc = .ok (.ldc2_w i, 3)) (hw : Cond.constantLong own i v ∈ AW) (hv : v = li n) (k : W p l e R s m args below meth c H locs cells slots Q (F0 m (pc + 3) ls (.long (li n) :: rest))) : W p l e R s m args below meth c H locs cells slots Q (F0 m pc ls rest) := by
  subst hv
  exact lv_ldc2 C.1 C.2.1 C.2.2.2.1 (C.2.2.2.2 _ hw) hdg k
theorem l_i2l (C : Cx p m c cc nL s args own) {a : Int} (hdg : decode cc pc = .ok (.i2l, 1)) (ha : rg a) (k : W p l e R s m args below meth c H locs cells slots Q (F0 m (pc + 1) ls (.long (li a) :: rest))) : W p l e R s m args below meth c H locs cells slots Q (F0 m pc ls (.int (ii a) :: rest)) := lv_i2l C.1 C.2.1 hdg (ii_li ha) k
theorem l_l2i (C : Cx p m c cc nL s args own) {a : Int} (hdg : decode cc pc = .ok (.l2i, 1)) (ha : rg a) (k : W p l e R s m args below meth c H locs cells slots Q (F0 m (pc + 1) ls (.int (ii a) :: rest))) : W p l e R s m args below meth c H locs cells slots Q (F0 m pc ls (.long (li a) :: rest)) := lv_l2i C.1 C.2.1 hdg (li_ii ha) k
theorem l_cmp (C : Cx p m c cc nL s args own) {a b : Int} (hdg : decode cc pc = .ok (.lcmp, 1)) (ha : rl a) (hb : rl b) (k : W p l e R s m args below meth c H locs cells slots Q (F0 m (pc + 1) ls (.int (ii (cmI a b)) :: rest))) : W p l e R s m args below meth c H locs cells slots Q (F0 m pc ls (.long (li b) :: .long (li a) :: rest)) := W.lcmp C.1 C.2.1 hdg (by rw [li_cmp ha hb]; exact k)
theorem l_shr (C : Cx p m c cc nL s args own) {a : Int} {y : Int32} (n : Nat) (hdg : decode cc pc = .ok (.lshr, 1)) (ha : rl a) (hs : ((y.toInt64 &&& 63).toBitVec.smod 64).toNat = n) (k : W p l e R s m args below meth c H locs cells slots Q (F0 m (pc + 1) ls (.long (li (a / 2 ^ n)) :: rest))) : W p l e R s m args below meth c H locs cells slots Q (F0 m pc ls (.int y :: .long (li a) :: rest)) := lv_lshr C.1 C.2.1 hdg (li_shr ha _ n hs) k
theorem l_and16 (C : Cx p m c cc nL s args own) {a : Int} (hdg : decode cc pc = .ok (.land, 1)) (k : W p l e R s m args below meth c H locs cells slots Q (F0 m (pc + 1) ls (.long (li (a % 65536)) :: rest))) : W p l e R s m args below meth c H locs cells slots Q (F0 m pc ls (.long (li 65535) :: .long (li a) :: rest)) := lv_land C.1 C.2.1 hdg (by rw [li_and 16 (by omega) (li 65535) (by decide +kernel)]; exact k)
theorem l_top {a b : Int} (h : a = b) (k : W p l e R s m args below meth c H locs cells slots Q (F0 m pc ls (.long (li b) :: rest))) : W p l e R s m args below meth c H locs cells slots Q (F0 m pc ls (.long (li a) :: rest)) := by rw [h]; exact k
theorem rt_l (C : Cx p m c cc nL s args own) (hr : meth.sig.returnType = some .long) (hk : meth.locks = false) {a : Int} {v : Int64} (hdg : decode cc pc = .ok (.lreturn, 1)) (hv : li a = v) : W p l e R s m args below meth c s.heap [] 0 0 (MQ below (QcV (some (.long v))) args s 0 0 (fun _ => False)) (F0 m pc ls [.long (li a)]) := by
  subst hv
  exact W.lret C.1 C.2.1 hr (fun t ht _ => ⟨rfl, ht⟩) (fun q h => by cases h) hdg hk
end Longs
end
section
/-! Curve: multiples, residues, bytes. By wip/whole/tools/gen5.py. -/
def muF (p a : Nat) : Nat → Option (Nat × Nat) → Option (Nat × Nat) → Nat → Option (Nat × Nat)
  | 0, R, _, _ => R
  | f + 1, R, B, e => if e = 0 then R else muF p a f (if e % 2 = 1 then plF p a R B else R) (plF p a B B) (e / 2)
theorem muF_sm {p a : Nat} (hp : 0 < p) : ∀ (f : Nat) (R B : Option (Nat × Nat)) (e : Nat), sm2 p R → sm2 p B → sm2 p (muF p a f R B e)
  | 0, R, B, e, hR, _ => hR
  | f + 1, R, B, e, hR, hB => by
    show sm2 p (if e = 0 then R else muF p a f (if e % 2 = 1 then plF p a R B else R) (plF p a B B) (e / 2))
    split
    · exact hR
    · refine muF_sm hp f _ _ _ ?_ (plF_sm hp hB hB)
      split
      · exact plF_sm hp hR hB
      · exact hR
set_option maxRecDepth 100000 in
set_option maxHeartbeats 4000000 in
theorem c_X0_multiple (l : Launch) (D : va_G) (h0 p a b n : Nat) (g : Int) (hp : 5 ≤ p ∧ p ≤ 1021) (ha : a < p) (hb : b < p) (hn : 0 < n ∧ n ≤ 1100) (k : Int) (hk0 : rg k) (P : Option (Nat × Nat)) (hP0 : sm2 p P) : Met l yX0_multiple (Cond.code yX0_multiple cX0_multiple 6 (some .int) :: AW) ({ frames := 4, cells := 0, slots := 0, locals := 96 } : Room) (PcW D [(h0, .inr (0, [.int (ii (p : Int)), .int (ii (a : Int)), .int (ii (b : Int)), .int (ii (n : Int)), .int (ii g)]))] [] [.ref h0, .int (ii k), .int (ii (ecd P))]) (QcV (some (.int (ii (ecd (muF p a 11 none P (k % (n : Int)).toNat)))))) 0 0 (fun _ => False) := by
  refine mt_W (by decide +kernel) (Nat.le_of_ble_eq_true rfl) ?_
  intro P0 E0 S0 M0 A0 B0 T0 K0 C hN hP hK hr hk ls hl
  have hl : lv_has ls 6 [(0, .ref h0), (1, .int (ii k)), (2, .int (ii (ecd P)))] := hl
  have bP := ecd_b hp.2 hP0
  generalize hV : ecd (muF p a 11 none P (k % (n : Int)).toNat) = V
  have loop : ∀ (f : Nat) (ls : Array Slot) (R B : Option (Nat × Nat)) (e : Nat), sm2 p R → sm2 p B → e < 2 ^ f → e ≤ 1100 → ecd (muF p a f R B e) = V → lv_has ls 6 [(0, .ref h0), (1, .int (ii k)), (2, .int (ii (ecd P))), (3, .int (ii (ecd R))), (4, .int (ii (ecd B))), (5, .int (ii (e : Int)))] → W P0 l E0 ({ frames := 4, cells := 0, slots := 0, locals := 96 } : Room) S0 M0 A0 B0 T0 K0 S0.heap [] 0 0 (MQ B0 (QcV (some (.int (ii V)))) A0 S0 0 0 (fun _ => False)) (F0 M0 15 ls []) := by
    intro f
    induction f with
    | zero =>
    intro ls R B e hR hB he he2 hV hl
    have he0 : e = 0 := by simpa using he
    have hV : ecd R = V := hV
    have bR := ecd_b hp.2 hR
    refine lv_iload C.1 C.2.1 dX0_multiple_15 (lv_at hl 5 rfl) ?_
    refine i_if_le (tgt := 55) C dX0_multiple_17 (by decide) ⟨by omega, by omega⟩ (fun h1 => ?_) (fun h1 => ?_)
    · refine lv_iload_n C.1 C.2.1 dX0_multiple_55 rfl (lv_at hl 3 rfl) ?_
      exact rt_i C hr hk dX0_multiple_56 (by rw [hV])
    · omega
    | succ f ih =>
    intro ls R B e hR hB he he2 hV hl
    have hV : ecd (if e = 0 then R else muF p a f (if e % 2 = 1 then plF p a R B else R) (plF p a B B) (e / 2)) = V := hV
    have bR := ecd_b hp.2 hR
    have bB := ecd_b hp.2 hB
    have sRB := plF_sm (a := a) (show 0 < p by omega) hR hB
    have sBB := plF_sm (a := a) (show 0 < p by omega) hB hB
    have m5 : e / 2 < 2 ^ f := by rw [Nat.pow_succ] at he; omega
    refine lv_iload C.1 C.2.1 dX0_multiple_15 (lv_at hl 5 rfl) ?_
    refine i_if_le (tgt := 55) C dX0_multiple_17 (by decide) ⟨by omega, by omega⟩ (fun h1 => ?_) (fun h1 => ?_)
    · rw [if_pos (show e = 0 by omega)] at hV
      refine lv_iload_n C.1 C.2.1 dX0_multiple_55 rfl (lv_at hl 3 rfl) ?_
      exact rt_i C hr hk dX0_multiple_56 (by rw [hV])
    · rw [if_neg (show ¬ e = 0 by omega)] at hV
      refine lv_iload C.1 C.2.1 dX0_multiple_20 (lv_at hl 5 rfl) ?_
      refine i_const C dX0_multiple_22 ?_
      refine lv_iand C.1 C.2.1 dX0_multiple_23 ?_
      rw [ii_and1 (by omega)]
      refine i_const C dX0_multiple_24 ?_
      refine i_icmp_ne (tgt := 36) C dX0_multiple_25 (by decide) ⟨by omega, by omega⟩ ⟨by omega, by omega⟩ (fun h2 => ?_) (fun h2 => ?_)
      · rw [if_neg (show ¬ e % 2 = 1 by omega)] at hV
        refine lv_aload_n C.1 C.2.1 dX0_multiple_36 rfl (lv_at hl 0 rfl) ?_
        refine lv_iload C.1 C.2.1 dX0_multiple_37 (lv_at hl 4 rfl) ?_
        refine lv_iload C.1 C.2.1 dX0_multiple_39 (lv_at hl 4 rfl) ?_
        refine ca_V (As := [.int (ii (ecd B)), .int (ii (ecd B))]) (rest := []) C (c_X0_plus l D h0 p a b n g hp ha hb B B hB hB) (pcw_preV [.int (ii (ecd B)), .int (ii (ecd B))] hN hP hK 0 (ci := 0) rfl rfl) aw_b_X0_plus aw_m_X0_63 aw_v_X0_plus aw_i_X0 aw_e_X0_plus ⟨rfl, rfl⟩ 2 (by decide +kernel) rfl ⟨by decide, by decide⟩ hl.1 rfl (Nat.le_of_ble_eq_true rfl) dX0_multiple_41 ⟨by decide, by decide⟩ ?_
        refine lv_istore C.1 C.2.1 dX0_multiple_44 hl (by decide) rfl (fun ls hl => ?_)
        have hl : lv_has ls 6 [(4, .int (ii (ecd (plF p a B B)))), (0, .ref h0), (1, .int (ii k)), (2, .int (ii (ecd P))), (3, .int (ii (ecd R))), (5, .int (ii (e : Int)))] := hl
        refine lv_iload C.1 C.2.1 dX0_multiple_46 (lv_at hl 5 rfl) ?_
        refine i_const C dX0_multiple_48 ?_
        refine lv_ishr C.1 C.2.1 dX0_multiple_49 ?_
        rw [ii_shr1 (by omega)]
        refine lv_istore C.1 C.2.1 dX0_multiple_50 hl (by decide) rfl (fun ls hl => ?_)
        have hl : lv_has ls 6 [(5, .int (ii ((e / 2 : Nat) : Int))), (4, .int (ii (ecd (plF p a B B)))), (0, .ref h0), (1, .int (ii k)), (2, .int (ii (ecd P))), (3, .int (ii (ecd R)))] := hl
        refine lv_goto (tgt := 15) C.1 C.2.1 dX0_multiple_52 (by decide) ?_
        exact ih ls _ _ _ hR sBB m5 (by omega) hV (lv_sub (l' := [(0, .ref h0), (1, .int (ii k)), (2, .int (ii (ecd P))), (3, .int (ii (ecd R))), (4, .int (ii (ecd (plF p a B B)))), (5, .int (ii ((e / 2 : Nat) : Int)))]) hl [2, 3, 4, 5, 1, 0] rfl)
      · rw [if_pos (show e % 2 = 1 by omega)] at hV
        refine lv_aload_n C.1 C.2.1 dX0_multiple_28 rfl (lv_at hl 0 rfl) ?_
        refine lv_iload_n C.1 C.2.1 dX0_multiple_29 rfl (lv_at hl 3 rfl) ?_
        refine lv_iload C.1 C.2.1 dX0_multiple_30 (lv_at hl 4 rfl) ?_
        refine ca_V (As := [.int (ii (ecd R)), .int (ii (ecd B))]) (rest := []) C (c_X0_plus l D h0 p a b n g hp ha hb R B hR hB) (pcw_preV [.int (ii (ecd R)), .int (ii (ecd B))] hN hP hK 0 (ci := 0) rfl rfl) aw_b_X0_plus aw_m_X0_63 aw_v_X0_plus aw_i_X0 aw_e_X0_plus ⟨rfl, rfl⟩ 2 (by decide +kernel) rfl ⟨by decide, by decide⟩ hl.1 rfl (Nat.le_of_ble_eq_true rfl) dX0_multiple_32 ⟨by decide, by decide⟩ ?_
        refine lv_istore_n C.1 C.2.1 dX0_multiple_35 rfl hl (by decide) rfl (fun ls hl => ?_)
        have hl : lv_has ls 6 [(3, .int (ii (ecd (plF p a R B)))), (0, .ref h0), (1, .int (ii k)), (2, .int (ii (ecd P))), (4, .int (ii (ecd B))), (5, .int (ii (e : Int)))] := hl
        refine lv_aload_n C.1 C.2.1 dX0_multiple_36 rfl (lv_at hl 1 rfl) ?_
        refine lv_iload C.1 C.2.1 dX0_multiple_37 (lv_at hl 4 rfl) ?_
        refine lv_iload C.1 C.2.1 dX0_multiple_39 (lv_at hl 4 rfl) ?_
        refine ca_V (As := [.int (ii (ecd B)), .int (ii (ecd B))]) (rest := []) C (c_X0_plus l D h0 p a b n g hp ha hb B B hB hB) (pcw_preV [.int (ii (ecd B)), .int (ii (ecd B))] hN hP hK 0 (ci := 0) rfl rfl) aw_b_X0_plus aw_m_X0_63 aw_v_X0_plus aw_i_X0 aw_e_X0_plus ⟨rfl, rfl⟩ 2 (by decide +kernel) rfl ⟨by decide, by decide⟩ hl.1 rfl (Nat.le_of_ble_eq_true rfl) dX0_multiple_41 ⟨by decide, by decide⟩ ?_
        refine lv_istore C.1 C.2.1 dX0_multiple_44 hl (by decide) rfl (fun ls hl => ?_)
        have hl : lv_has ls 6 [(4, .int (ii (ecd (plF p a B B)))), (3, .int (ii (ecd (plF p a R B)))), (0, .ref h0), (1, .int (ii k)), (2, .int (ii (ecd P))), (5, .int (ii (e : Int)))] := hl
        refine lv_iload C.1 C.2.1 dX0_multiple_46 (lv_at hl 5 rfl) ?_
        refine i_const C dX0_multiple_48 ?_
        refine lv_ishr C.1 C.2.1 dX0_multiple_49 ?_
        rw [ii_shr1 (by omega)]
        refine lv_istore C.1 C.2.1 dX0_multiple_50 hl (by decide) rfl (fun ls hl => ?_)
        have hl : lv_has ls 6 [(5, .int (ii ((e / 2 : Nat) : Int))), (4, .int (ii (ecd (plF p a B B)))), (3, .int (ii (ecd (plF p a R B)))), (0, .ref h0), (1, .int (ii k)), (2, .int (ii (ecd P)))] := hl
        refine lv_goto (tgt := 15) C.1 C.2.1 dX0_multiple_52 (by decide) ?_
        exact ih ls _ _ _ sRB sBB m5 (by omega) hV (lv_sub (l' := [(0, .ref h0), (1, .int (ii k)), (2, .int (ii (ecd P))), (3, .int (ii (ecd (plF p a R B)))), (4, .int (ii (ecd (plF p a B B)))), (5, .int (ii ((e / 2 : Nat) : Int)))]) hl [3, 4, 5, 2, 1, 0] rfl)
  refine i_const C dX0_multiple_0 ?_
  refine lv_istore_n C.1 C.2.1 dX0_multiple_1 rfl hl (by decide) rfl (fun ls hl => ?_)
  have hl : lv_has ls 6 [(3, .int (ii (-1))), (0, .ref h0), (1, .int (ii k)), (2, .int (ii (ecd P)))] := hl
  refine lv_iload_n C.1 C.2.1 dX0_multiple_2 rfl (lv_at hl 3 rfl) ?_
  refine lv_istore C.1 C.2.1 dX0_multiple_3 hl (by decide) rfl (fun ls hl => ?_)
  have hl : lv_has ls 6 [(4, .int (ii (ecd P))), (3, .int (ii (-1))), (0, .ref h0), (1, .int (ii k)), (2, .int (ii (ecd P)))] := hl
  refine lv_iload_n C.1 C.2.1 dX0_multiple_5 rfl (lv_at hl 3 rfl) ?_
  refine lv_aload_n C.1 C.2.1 dX0_multiple_6 rfl (lv_at hl 2 rfl) ?_
  refine gf C hK hP 0 rfl rfl aw_uX0 3 (by decide) aw_f_X0_21 rfl dX0_multiple_7 ?_
  refine ca_S (As := [.int (ii k), .int (ii (n : Int))]) (rest := []) C (c_floorModI l k (n : Int) hk0 ⟨by omega, by omega⟩) (pcn_pre _ hN) aw_b_JM_floorModI aw_m_X0_58 aw_s_JM_floorModI aw_i_JM ⟨rfl, rfl⟩ 2 (by decide +kernel) rfl ⟨by decide, by decide⟩ hl.1 rfl (Nat.le_of_ble_eq_true rfl) dX0_multiple_10 ⟨by decide, by decide⟩ ?_
  have q1 := em_b k (show (0 : Int) < n by omega)
  refine i_top (b := (((k % (n : Int)).toNat : Nat) : Int)) (by omega) ?_
  refine lv_istore C.1 C.2.1 dX0_multiple_13 hl (by decide) rfl (fun ls hl => ?_)
  have hl : lv_has ls 6 [(5, .int (ii (((k % (n : Int)).toNat : Nat) : Int))), (4, .int (ii (ecd P))), (3, .int (ii (-1))), (0, .ref h0), (1, .int (ii k)), (2, .int (ii (ecd P)))] := hl
  exact loop 11 ls none P _ (sm2_none p) hP0 (by omega) (by omega) hV (lv_sub (l' := [(0, .ref h0), (1, .int (ii k)), (2, .int (ii (ecd P))), (3, .int (ii (-1))), (4, .int (ii (ecd P))), (5, .int (ii (((k % (n : Int)).toNat : Nat) : Int)))]) hl [3, 4, 5, 2, 1, 0] rfl)
set_option maxRecDepth 100000 in
set_option maxHeartbeats 4000000 in
theorem c_floorModJ (l : Launch) (x y : Int) (hx : rl x) (hy : 0 < y ∧ y < 9223372036854775808) : Met l yJM_floorModJ (Cond.code yJM_floorModJ cJM_floorModJ 6 (some .long) :: AW) { frames := 0, cells := 0, slots := 0, locals := 0 } (PcN [.long (li x), .long (li y)]) (QcV (some (.long (li (x % y))))) 0 0 (fun _ => False) := by
  refine mt_pureF (by decide +kernel) (Nat.le_of_ble_eq_true rfl) ?_
  intro P0 E0 S0 M0 A0 B0 T0 K0 C hN hr hk ls hl
  have hl : lv_has ls 6 [(0, .long (li x)), (2, .long (li y))] := hl
  have q := tmod_emod (a := x) hy.1
  have z := Int.tmod_nonneg (a := x) y
  have z2 := Int.lt_tmod_of_pos x hy.1
  have z3 := Int.tmod_lt_of_pos x hy.1
  have z4 : x < 0 → x.tmod y ≤ 0 := fun h => by rw [show x = -(-x) by omega, Int.neg_tmod]; have := Int.tmod_nonneg (a := -x) y (by omega); omega
  obtain ⟨k, hk1, ex, hs⟩ := li_xor hx (show rl y from ⟨by omega, by omega⟩)
  refine lv_lload_n C.1 C.2.1 dJM_floorModJ_0 rfl (lv_at hl 0 rfl) ?_
  refine lv_lload_n C.1 C.2.1 dJM_floorModJ_1 rfl (lv_at hl 1 rfl) ?_
  refine l_remT C dJM_floorModJ_2 hx hy ?_
  refine lv_lstore C.1 C.2.1 dJM_floorModJ_3 hl (by decide) rfl (fun ls hl => ?_)
  have hl : lv_has ls 6 [(4, .long (li (x.tmod y))), (0, .long (li x)), (2, .long (li y))] := hl
  refine lv_lload_n C.1 C.2.1 dJM_floorModJ_5 rfl (lv_at hl 1 rfl) ?_
  refine lv_lload_n C.1 C.2.1 dJM_floorModJ_6 rfl (lv_at hl 2 rfl) ?_
  refine lv_lxor C.1 C.2.1 dJM_floorModJ_7 ?_
  rw [ex]
  refine l_const0 C dJM_floorModJ_8 ?_
  refine l_cmp C dJM_floorModJ_9 ⟨by omega, by omega⟩ ⟨by omega, by omega⟩ ?_
  have cb9 := cmI_b k 0
  have ce9 := cmI_eq (a := k) (b := 0)
  have cl9 := cmI_lt (a := k) (b := 0)
  refine i_if_ge (tgt := 25) C dJM_floorModJ_10 (by decide) ⟨by omega, by omega⟩ (fun h1 => ?_) (fun h1 => ?_)
  · refine lv_lload C.1 C.2.1 dJM_floorModJ_25 (lv_at hl 0 rfl) ?_
    exact rt_l C hr hk dJM_floorModJ_27 (by rw [q, if_neg (by omega)])
  · refine lv_lload C.1 C.2.1 dJM_floorModJ_13 (lv_at hl 0 rfl) ?_
    refine l_const0 C dJM_floorModJ_15 ?_
    refine l_cmp C dJM_floorModJ_16 ⟨by omega, by omega⟩ ⟨by omega, by omega⟩ ?_
    have cb16 := cmI_b (x.tmod y) 0
    have ce16 := cmI_eq (a := x.tmod y) (b := 0)
    have cl16 := cmI_lt (a := x.tmod y) (b := 0)
    refine i_if_eq (tgt := 25) C dJM_floorModJ_17 (by decide) ⟨by omega, by omega⟩ (fun h2 => ?_) (fun h2 => ?_)
    · refine lv_lload C.1 C.2.1 dJM_floorModJ_25 (lv_at hl 0 rfl) ?_
      exact rt_l C hr hk dJM_floorModJ_27 (by rw [q, if_neg (by omega)])
    · refine lv_lload C.1 C.2.1 dJM_floorModJ_20 (lv_at hl 0 rfl) ?_
      refine lv_lload_n C.1 C.2.1 dJM_floorModJ_22 rfl (lv_at hl 2 rfl) ?_
      refine l_add C dJM_floorModJ_23 ?_
      exact rt_l C hr hk dJM_floorModJ_24 (by rw [q, if_pos (by omega)])
set_option maxRecDepth 100000 in
set_option maxHeartbeats 4000000 in
theorem c_X0_messageResidue (l : Launch) (D : va_G) (h0 p a b n : Nat) (g : Int) (hn : 0 < n ∧ n ≤ 1100) (z : Int) (hz : rl z) : Met l yX0_messageResidue (Cond.code yX0_messageResidue cX0_messageResidue 3 (some .int) :: AW) ({ frames := 1, cells := 0, slots := 0, locals := 25 } : Room) (PcW D [(h0, .inr (0, [.int (ii (p : Int)), .int (ii (a : Int)), .int (ii (b : Int)), .int (ii (n : Int)), .int (ii g)]))] [] [.ref h0, .long (li z)]) (QcV (some (.int (ii (z % (n : Int)))))) 0 0 (fun _ => False) := by
  refine mt_W (by decide +kernel) (Nat.le_of_ble_eq_true rfl) ?_
  intro P0 E0 S0 M0 A0 B0 T0 K0 C hN hP hK hr hk ls hl
  have hl : lv_has ls 3 [(0, .ref h0), (1, .long (li z))] := hl
  have q1 := em_b z (show (0 : Int) < n by omega)
  refine lv_lload_n C.1 C.2.1 dX0_messageResidue_0 rfl (lv_at hl 1 rfl) ?_
  refine lv_aload_n C.1 C.2.1 dX0_messageResidue_1 rfl (lv_at hl 0 rfl) ?_
  refine gf C hK hP 0 rfl rfl aw_uX0 3 (by decide) aw_f_X0_21 rfl dX0_messageResidue_2 ?_
  refine l_i2l C dX0_messageResidue_5 ⟨by omega, by omega⟩ ?_
  refine ca_S (As := [.long (li z), .long (li (n : Int))]) (rest := []) C (c_floorModJ l z (n : Int) hz ⟨by omega, by omega⟩) (pcn_pre _ hN) aw_b_JM_floorModJ aw_m_X0_42 aw_s_JM_floorModJ aw_i_JM ⟨rfl, rfl⟩ 2 (by decide +kernel) rfl ⟨by decide, by decide⟩ hl.1 rfl (Nat.le_of_ble_eq_true rfl) dX0_messageResidue_6 ⟨by decide, by decide⟩ ?_
  refine l_l2i C dX0_messageResidue_9 ⟨by omega, by omega⟩ ?_
  exact rt_i C hr hk dX0_messageResidue_10 rfl
def dmF (n : Nat) : Nat → Nat → Nat
  | 0, m => m
  | f + 1, m => if n ≤ m then m else dmF n f (m * 2 + 1)
set_option maxRecDepth 100000 in
set_option maxHeartbeats 4000000 in
theorem c_X0_drawMask (l : Launch) (D : va_G) (h0 p a b n : Nat) (g : Int) (hn : 0 < n ∧ n ≤ 1100) : Met l yX0_drawMask (Cond.code yX0_drawMask cX0_drawMask 3 (some .int) :: AW) ({ frames := 0, cells := 0, slots := 0, locals := 0 } : Room) (PcW D [(h0, .inr (0, [.int (ii (p : Int)), .int (ii (a : Int)), .int (ii (b : Int)), .int (ii (n : Int)), .int (ii g)]))] [] [.ref h0]) (QcV (some (.int (ii (dmF n 30 1 : Nat))))) 0 0 (fun _ => False) := by
  refine mt_W (by decide +kernel) (Nat.le_of_ble_eq_true rfl) ?_
  intro P0 E0 S0 M0 A0 B0 T0 K0 C hN hP hK hr hk ls hl
  have hl : lv_has ls 3 [(0, .ref h0)] := hl
  generalize hV : dmF n 30 1 = V
  have loop : ∀ (f : Nat) (ls : Array Slot) (m t : Nat), t + f = 31 → m ≤ 2300 → dmF n f m = V → lv_has ls 3 [(0, .ref h0), (1, .int (ii (m : Int))), (2, .int (ii (t : Int)))] → W P0 l E0 ({ frames := 0, cells := 0, slots := 0, locals := 0 } : Room) S0 M0 A0 B0 T0 K0 S0.heap [] 0 0 (MQ B0 (QcV (some (.int (ii (V : Nat))))) A0 S0 0 0 (fun _ => False)) (F0 M0 4 ls []) := by
    intro f
    induction f with
    | zero =>
    intro ls m t ht hm hV hl
    have hV : m = V := hV
    refine lv_iload_n C.1 C.2.1 dX0_drawMask_4 rfl (lv_at hl 2 rfl) ?_
    refine i_bipush C dX0_drawMask_5 (by decide +kernel) ?_
    refine i_icmp_ge (tgt := 30) C dX0_drawMask_7 (by decide) ⟨by omega, by omega⟩ ⟨by omega, by omega⟩ (fun h1 => ?_) (fun h1 => ?_)
    · refine lv_iload_n C.1 C.2.1 dX0_drawMask_30 rfl (lv_at hl 1 rfl) ?_
      exact rt_i C hr hk dX0_drawMask_31 (by rw [hV])
    · omega
    | succ f ih =>
    intro ls m t ht hm hV hl
    have hV : (if n ≤ m then m else dmF n f (m * 2 + 1)) = V := hV
    refine lv_iload_n C.1 C.2.1 dX0_drawMask_4 rfl (lv_at hl 2 rfl) ?_
    refine i_bipush C dX0_drawMask_5 (by decide +kernel) ?_
    refine i_icmp_ge (tgt := 30) C dX0_drawMask_7 (by decide) ⟨by omega, by omega⟩ ⟨by omega, by omega⟩ (fun h1 => ?_) (fun h1 => ?_)
    · omega
    · refine lv_iload_n C.1 C.2.1 dX0_drawMask_10 rfl (lv_at hl 1 rfl) ?_
      refine lv_aload_n C.1 C.2.1 dX0_drawMask_11 rfl (lv_at hl 0 rfl) ?_
      refine gf C hK hP 0 rfl rfl aw_uX0 3 (by decide) aw_f_X0_21 rfl dX0_drawMask_12 ?_
      refine i_icmp_ge (tgt := 30) C dX0_drawMask_15 (by decide) ⟨by omega, by omega⟩ ⟨by omega, by omega⟩ (fun h2 => ?_) (fun h2 => ?_)
      · rw [if_pos (show n ≤ m by omega)] at hV
        refine lv_iload_n C.1 C.2.1 dX0_drawMask_30 rfl (lv_at hl 1 rfl) ?_
        exact rt_i C hr hk dX0_drawMask_31 (by rw [hV])
      · rw [if_neg (show ¬ n ≤ m by omega)] at hV
        refine lv_iload_n C.1 C.2.1 dX0_drawMask_18 rfl (lv_at hl 1 rfl) ?_
        refine i_const C dX0_drawMask_19 ?_
        refine i_mul C dX0_drawMask_20 ?_
        refine i_const C dX0_drawMask_21 ?_
        refine i_add C dX0_drawMask_22 ?_
        refine i_top (b := ((m * 2 + 1 : Nat) : Int)) rfl ?_
        refine lv_istore_n C.1 C.2.1 dX0_drawMask_23 rfl hl (by decide) rfl (fun ls hl => ?_)
        have hl : lv_has ls 3 [(1, .int (ii ((m * 2 + 1 : Nat) : Int))), (0, .ref h0), (2, .int (ii (t : Int)))] := hl
        refine lv_iinc C.1 C.2.1 dX0_drawMask_24 hl (k := 2) rfl (ii_add (t : Int) 1) (by decide) rfl (fun ls hl => ?_)
        have hl : lv_has ls 3 [(2, .int (ii ((t : Int) + 1))), (1, .int (ii ((m * 2 + 1 : Nat) : Int))), (0, .ref h0)] := hl
        refine lv_goto (tgt := 4) C.1 C.2.1 dX0_drawMask_27 (by decide) ?_
        exact ih ls _ (t + 1) (by omega) (by omega) hV (lv_sub (l' := [(0, .ref h0), (1, .int (ii ((m * 2 + 1 : Nat) : Int))), (2, .int (ii ((t : Int) + 1)))]) hl [2, 1, 0] rfl)
  refine i_const C dX0_drawMask_0 ?_
  refine lv_istore_n C.1 C.2.1 dX0_drawMask_1 rfl hl (by decide) rfl (fun ls hl => ?_)
  have hl : lv_has ls 3 [(1, .int (ii 1)), (0, .ref h0)] := hl
  refine i_const C dX0_drawMask_2 ?_
  refine lv_istore_n C.1 C.2.1 dX0_drawMask_3 rfl hl (by decide) rfl (fun ls hl => ?_)
  have hl : lv_has ls 3 [(2, .int (ii 1)), (1, .int (ii 1)), (0, .ref h0)] := hl
  exact loop 30 ls 1 1 (by omega) (by omega) hV (lv_sub (l' := [(0, .ref h0), (1, .int (ii 1)), (2, .int (ii 1))]) hl [2, 1, 0] rfl)
set_option maxRecDepth 100000 in
set_option maxHeartbeats 4000000 in
theorem c_X1_shortNumber (l : Launch) (x y : Nat) (hx : x < 1021) (hy : y < 1021) : Met l yX1_shortNumber (Cond.code yX1_shortNumber cX1_shortNumber 1 (some .long) :: AW) ({ frames := 1, cells := 0, slots := 0, locals := 24 } : Room) (PcN [.int (ii ((x : Int) * 65536 + (y : Int)))]) (QcV (some (.long (li ((2 + (y : Int) % 2) * 65536 + x))))) 0 0 (fun _ => False) := by
  refine mt_pure (by decide +kernel) (Nat.le_of_ble_eq_true rfl) ?_
  intro P0 E0 S0 M0 A0 B0 T0 K0 C hN hr hk ls hl
  have hl : lv_has ls 1 [(0, .int (ii ((x : Int) * 65536 + (y : Int))))] := hl
  refine i_const C dX1_shortNumber_0 ?_
  refine lv_iload_n C.1 C.2.1 dX1_shortNumber_1 rfl (lv_at hl 0 rfl) ?_
  refine ca_S (As := [.int (ii ((x : Int) * 65536 + (y : Int)))]) (rest := [.int (ii 2)]) C (c_X1_yOf l (x : Int) (y : Int) ⟨by omega, by omega⟩ ⟨by omega, by omega⟩) (pcn_pre _ hN) aw_b_X1_yOf aw_m_X1_93 aw_s_X1_yOf aw_i_X1 ⟨rfl, rfl⟩ 1 (by decide +kernel) rfl ⟨by decide, by decide⟩ hl.1 rfl (Nat.le_of_ble_eq_true rfl) dX1_shortNumber_2 ⟨by decide, by decide⟩ ?_
  refine i_const C dX1_shortNumber_5 ?_
  refine i_rem C dX1_shortNumber_6 ⟨by omega, by omega⟩ ⟨by omega, by omega⟩ ?_
  refine i_add C dX1_shortNumber_7 ?_
  refine l_i2l C dX1_shortNumber_8 ⟨by omega, by omega⟩ ?_
  refine l_ldc2 (n := 65536) C dX1_shortNumber_9 aw_k_X1_156 (by decide +kernel) ?_
  refine l_mul C dX1_shortNumber_12 ?_
  refine lv_iload_n C.1 C.2.1 dX1_shortNumber_13 rfl (lv_at hl 0 rfl) ?_
  refine ca_S (As := [.int (ii ((x : Int) * 65536 + (y : Int)))]) (rest := [.long (li ((2 + ((y : Int) % 2)) * 65536))]) C (c_X1_xOf l (x : Int) (y : Int) ⟨by omega, by omega⟩ ⟨by omega, by omega⟩) (pcn_pre _ hN) aw_b_X1_xOf aw_m_X1_89 aw_s_X1_xOf aw_i_X1 ⟨rfl, rfl⟩ 1 (by decide +kernel) rfl ⟨by decide, by decide⟩ hl.1 rfl (Nat.le_of_ble_eq_true rfl) dX1_shortNumber_14 ⟨by decide, by decide⟩ ?_
  refine l_i2l C dX1_shortNumber_17 ⟨by omega, by omega⟩ ?_
  refine l_add C dX1_shortNumber_18 ?_
  exact rt_l C hr hk dX1_shortNumber_19 rfl
set_option maxRecDepth 100000 in
set_option maxHeartbeats 4000000 in
theorem c_X1_plainNumber (l : Launch) (k : Int) (hk0 : rg k) : Met l yX1_plainNumber (Cond.code yX1_plainNumber cX1_plainNumber 1 (some .long) :: AW) { frames := 0, cells := 0, slots := 0, locals := 0 } (PcN [.int (ii k)]) (QcV (some (.long (li (17179869184 + k))))) 0 0 (fun _ => False) := by
  refine mt_pure (by decide +kernel) (Nat.le_of_ble_eq_true rfl) ?_
  intro P0 E0 S0 M0 A0 B0 T0 K0 C hN hr hk ls hl
  have hl : lv_has ls 1 [(0, .int (ii k))] := hl
  refine l_ldc2 (n := 17179869184) C dX1_plainNumber_0 aw_k_X1_158 (by decide +kernel) ?_
  refine lv_iload_n C.1 C.2.1 dX1_plainNumber_3 rfl (lv_at hl 0 rfl) ?_
  refine l_i2l C dX1_plainNumber_4 ⟨by omega, by omega⟩ ?_
  refine l_add C dX1_plainNumber_5 ?_
  exact rt_l C hr hk dX1_plainNumber_6 rfl
def mxW (u v : Int32) : Int32 := (u ^^^ v) * ii 668265261 + u
def mxF (u v : Int32) : Int32 := mxW u v + (mxW u v <<< (ii 7 &&& 31) ||| ((mxW u v).toUInt32 >>> ((ii 25).toUInt32 &&& Int32.toUInt32 31)).toInt32)
theorem rt_r {p : Program} {l : Launch} {e : Env} {R : Room} {s : State} {m : MethodId} {args : Array Value} {below : List Frame} {meth : Method} {c : Code} {cc : ByteArray} {nL pc : Nat} {own : String} {ls : Array Slot} (C : Cx p m c cc nL s args own) (hr : meth.sig.returnType = some .int) (hk : meth.locks = false) {x v : Int32} (hdg : decode cc pc = .ok (.ireturn, 1)) (hv : x = v) : W p l e R s m args below meth c s.heap [] 0 0 (MQ below (QcV (some (.int v))) args s 0 0 (fun _ => False)) (F0 m pc ls [.int x]) := by
  subst hv
  exact W.iret C.1 C.2.1 hr (fun t ht _ => ⟨rfl, ht⟩) (fun q h => by cases h) hdg hk
set_option maxRecDepth 100000 in
set_option maxHeartbeats 4000000 in
theorem c_X1_mix (l : Launch) (u v : Int32) : Met l yX1_mix (Cond.code yX1_mix cX1_mix 3 (some .int) :: AW) { frames := 0, cells := 0, slots := 0, locals := 0 } (PcN [.int u, .int v]) (QcV (some (.int (mxF u v)))) 0 0 (fun _ => False) := by
  refine mt_pure (by decide +kernel) (Nat.le_of_ble_eq_true rfl) ?_
  intro P0 E0 S0 M0 A0 B0 T0 K0 C hN hr hk ls hl
  have hl : lv_has ls 3 [(0, .int u), (1, .int v)] := hl
  refine lv_iload_n C.1 C.2.1 dX1_mix_0 rfl (lv_at hl 0 rfl) ?_
  refine lv_iload_n C.1 C.2.1 dX1_mix_1 rfl (lv_at hl 1 rfl) ?_
  refine lv_ixor C.1 C.2.1 dX1_mix_2 ?_
  refine i_ldc (n := 668265261) C dX1_mix_3 aw_k_X1_160 (by decide +kernel) ?_
  refine lv_imul C.1 C.2.1 dX1_mix_5 ?_
  refine lv_iload_n C.1 C.2.1 dX1_mix_6 rfl (lv_at hl 0 rfl) ?_
  refine lv_iadd C.1 C.2.1 dX1_mix_7 ?_
  refine lv_istore_n C.1 C.2.1 dX1_mix_8 rfl hl (by decide) rfl (fun ls hl => ?_)
  have hl : lv_has ls 3 [(2, .int (((u ^^^ v) * (ii 668265261)) + u)), (0, .int u), (1, .int v)] := hl
  refine lv_iload_n C.1 C.2.1 dX1_mix_9 rfl (lv_at hl 0 rfl) ?_
  refine lv_iload_n C.1 C.2.1 dX1_mix_10 rfl (lv_at hl 0 rfl) ?_
  refine i_bipush C dX1_mix_11 (by decide +kernel) ?_
  refine lv_ishl C.1 C.2.1 dX1_mix_13 ?_
  refine lv_iload_n C.1 C.2.1 dX1_mix_14 rfl (lv_at hl 0 rfl) ?_
  refine i_bipush C dX1_mix_15 (by decide +kernel) ?_
  refine lv_iushr C.1 C.2.1 dX1_mix_17 rfl ?_
  refine lv_ior C.1 C.2.1 dX1_mix_18 ?_
  refine lv_iadd C.1 C.2.1 dX1_mix_19 ?_
  exact rt_r C hr hk dX1_mix_20 rfl
end
section
/-! Curve: reading bytes, signatures. By wip/whole/tools/gen6.py. -/
def psF (p a b : Nat) (z : Int) : Int := if z / 65536 = 2 ∨ z / 65536 = 3 then (if z % 65536 < p then (if lrF p (cub p a b (z % 65536).toNat) 1100 0 = -1 then -2 else (z % 65536) * 65536 + (if lrF p (cub p a b (z % 65536).toNat) 1100 0 % 2 = z / 65536 - 2 then lrF p (cub p a b (z % 65536).toNat) 1100 0 else p - lrF p (cub p a b (z % 65536).toNat) 1100 0)) else -2) else -2
set_option maxRecDepth 100000 in
set_option maxHeartbeats 4000000 in
theorem c_X0_pointOfShort (l : Launch) (D : va_G) (h0 p a b n : Nat) (g : Int) (hp : 5 ≤ p ∧ p ≤ 1021) (ha : a < p) (hb : b < p) (z : Int) (hz : rl z) : Met l yX0_pointOfShort (Cond.code yX0_pointOfShort cX0_pointOfShort 7 (some .int) :: AW) ({ frames := 1, cells := 0, slots := 0, locals := 24 } : Room) (PcW D [(h0, .inr (0, [.int (ii (p : Int)), .int (ii (a : Int)), .int (ii (b : Int)), .int (ii (n : Int)), .int (ii g)]))] [] [.ref h0, .long (li z)]) (QcV (some (.int (ii (psF p a b z))))) 0 0 (fun _ => False) := by
  refine mt_W (by decide +kernel) (Nat.le_of_ble_eq_true rfl) ?_
  intro P0 E0 S0 M0 A0 B0 T0 K0 C hN hP hK hr hk ls hl
  have hl : lv_has ls 7 [(0, .ref h0), (1, .long (li z))] := hl
  generalize hV : psF p a b z = V
  unfold psF at hV
  obtain ⟨x, hx⟩ := Int.eq_ofNat_of_zero_le (show 0 ≤ z % 65536 by omega)
  rw [hx, Int.toNat_natCast] at hV
  have f1 := Int.ediv_le_self 65536 (show 0 ≤ (if 0 ≤ z then z else 0) by split <;> omega)
  have f2 : -140737488355328 ≤ z / 65536 ∧ z / 65536 < 140737488355328 := by omega
  generalize hq : z / 65536 = q at f2 hV
  refine lv_lload_n C.1 C.2.1 dX0_pointOfShort_0 rfl (lv_at hl 1 rfl) ?_
  refine i_bipush C dX0_pointOfShort_1 (by decide +kernel) ?_
  refine l_shr C 16 dX0_pointOfShort_3 ⟨by omega, by omega⟩ (by decide +kernel) ?_
  refine l_top (b := z / 65536) (by rfl) ?_
  rw [hq]
  refine lv_lstore_n C.1 C.2.1 dX0_pointOfShort_4 rfl hl (by decide) rfl (fun ls hl => ?_)
  have hl : lv_has ls 7 [(3, .long (li q)), (0, .ref h0), (1, .long (li z))] := hl
  refine lv_lload_n C.1 C.2.1 dX0_pointOfShort_5 rfl (lv_at hl 2 rfl) ?_
  refine l_ldc2 (n := 65535) C dX0_pointOfShort_6 aw_k_X0_73 (by decide +kernel) ?_
  refine l_and16 C dX0_pointOfShort_9 ?_
  refine l_l2i C dX0_pointOfShort_10 ⟨by omega, by omega⟩ ?_
  refine i_top (b := (x : Int)) hx ?_
  refine lv_istore C.1 C.2.1 dX0_pointOfShort_11 hl (by decide) rfl (fun ls hl => ?_)
  have hl : lv_has ls 7 [(5, .int (ii (x : Int))), (3, .long (li q)), (0, .ref h0), (1, .long (li z))] := hl
  refine lv_lload_n C.1 C.2.1 dX0_pointOfShort_13 rfl (lv_at hl 1 rfl) ?_
  refine l_ldc2 (n := 2) C dX0_pointOfShort_14 aw_k_X0_75 (by decide +kernel) ?_
  refine l_cmp C dX0_pointOfShort_17 ⟨by omega, by omega⟩ ⟨by omega, by omega⟩ ?_
  have cb17 := cmI_b q 2
  have ce17 := cmI_eq (a := q) (b := 2)
  have cl17 := cmI_lt (a := q) (b := 2)
  refine i_if_eq (tgt := 29) C dX0_pointOfShort_18 (by decide) ⟨by omega, by omega⟩ (fun h1 => ?_) (fun h1 => ?_)
  · have hq3 : q = 2 ∨ q = 3 := by omega
    rw [if_pos hq3] at hV
    refine lv_iload C.1 C.2.1 dX0_pointOfShort_29 (lv_at hl 0 rfl) ?_
    refine lv_aload_n C.1 C.2.1 dX0_pointOfShort_31 rfl (lv_at hl 2 rfl) ?_
    refine gf C hK hP 0 rfl rfl aw_uX0 0 (by decide) aw_f_X0_9 rfl dX0_pointOfShort_32 ?_
    refine i_icmp_lt (tgt := 41) C dX0_pointOfShort_35 (by decide) ⟨by omega, by omega⟩ ⟨by omega, by omega⟩ (fun h3 => ?_) (fun h3 => ?_)
    · rw [if_pos (show (x : Int) < p by omega)] at hV
      have m1 : cub p a b x < p := Nat.mod_lt _ (by omega)
      have m2 := lrF_b (p := p) (cub p a b x) 1100 0
      refine lv_aload_n C.1 C.2.1 dX0_pointOfShort_41 rfl (lv_at hl 2 rfl) ?_
      refine gf C hK hP 0 rfl rfl aw_uX0 0 (by decide) aw_f_X0_9 rfl dX0_pointOfShort_42 ?_
      refine lv_aload_n C.1 C.2.1 dX0_pointOfShort_45 rfl (lv_at hl 2 rfl) ?_
      refine gf C hK hP 0 rfl rfl aw_uX0 1 (by decide) aw_f_X0_15 rfl dX0_pointOfShort_46 ?_
      refine lv_aload_n C.1 C.2.1 dX0_pointOfShort_49 rfl (lv_at hl 2 rfl) ?_
      refine gf C hK hP 0 rfl rfl aw_uX0 2 (by decide) aw_f_X0_18 rfl dX0_pointOfShort_50 ?_
      refine lv_iload C.1 C.2.1 dX0_pointOfShort_53 (lv_at hl 0 rfl) ?_
      refine ca_SN (As := [.int (ii (p : Int)), .int (ii (a : Int)), .int (ii (b : Int)), .int (ii (x : Int))]) (rest := []) C (c_X1_cubic l (p : Int) (a : Int) (b : Int) (x : Int) (by omega) (by omega) (by omega) (by omega)) hN (pcn_pre _ hN) aw_b_X1_cubic nw_X0_31 aw_s_X1_cubic aw_i_X1 ⟨rfl, rfl⟩ 4 (by decide +kernel) rfl ⟨by decide, by decide⟩ hl.1 rfl (Nat.le_of_ble_eq_true rfl) dX0_pointOfShort_55 ⟨by decide, by decide⟩ ?_
      refine i_top (b := ((cub p a b x : Nat) : Int)) rfl ?_
      refine lv_aload_n C.1 C.2.1 dX0_pointOfShort_58 rfl (lv_at hl 2 rfl) ?_
      refine gf C hK hP 0 rfl rfl aw_uX0 0 (by decide) aw_f_X0_9 rfl dX0_pointOfShort_59 ?_
      refine ca_S (As := [.int (ii ((cub p a b x : Nat) : Int)), .int (ii (p : Int))]) (rest := []) C (c_X0_lesserRoot l (cub p a b x) p m1 hp) (pcn_pre _ hN) aw_b_X0_lesserRoot aw_m_X0_35 aw_s_X0_lesserRoot aw_i_X0 ⟨rfl, rfl⟩ 2 (by decide +kernel) rfl ⟨by decide, by decide⟩ hl.1 rfl (Nat.le_of_ble_eq_true rfl) dX0_pointOfShort_62 ⟨by decide, by decide⟩ ?_
      generalize lrF p (cub p a b x) 1100 0 = y at m2 hV ⊢
      refine lv_istore C.1 C.2.1 dX0_pointOfShort_65 hl (by decide) rfl (fun ls hl => ?_)
      have hl : lv_has ls 7 [(6, .int (ii y)), (5, .int (ii (x : Int))), (3, .long (li q)), (0, .ref h0), (1, .long (li z))] := hl
      refine lv_iload C.1 C.2.1 dX0_pointOfShort_67 (lv_at hl 0 rfl) ?_
      refine i_const C dX0_pointOfShort_69 ?_
      refine i_icmp_ne (tgt := 76) C dX0_pointOfShort_70 (by decide) ⟨by omega, by omega⟩ ⟨by omega, by omega⟩ (fun h4 => ?_) (fun h4 => ?_)
      · rw [if_neg h4] at hV
        refine lv_iload C.1 C.2.1 dX0_pointOfShort_76 (lv_at hl 1 rfl) ?_
        refine lv_iload C.1 C.2.1 dX0_pointOfShort_78 (lv_at hl 0 rfl) ?_
        refine i_const C dX0_pointOfShort_80 ?_
        refine i_rem C dX0_pointOfShort_81 ⟨by omega, by omega⟩ ⟨by omega, by omega⟩ ?_
        refine l_i2l C dX0_pointOfShort_82 ⟨by omega, by omega⟩ ?_
        refine lv_lload_n C.1 C.2.1 dX0_pointOfShort_83 rfl (lv_at hl 2 rfl) ?_
        refine l_ldc2 (n := 2) C dX0_pointOfShort_84 aw_k_X0_75 (by decide +kernel) ?_
        refine l_sub C dX0_pointOfShort_87 ?_
        refine l_cmp C dX0_pointOfShort_88 ⟨by omega, by omega⟩ ⟨by omega, by omega⟩ ?_
        have cb88 := cmI_b (y % 2) (q - 2)
        have ce88 := cmI_eq (a := y % 2) (b := q - 2)
        have cl88 := cmI_lt (a := y % 2) (b := q - 2)
        refine i_if_ne (tgt := 97) C dX0_pointOfShort_89 (by decide) ⟨by omega, by omega⟩ (fun h5 => ?_) (fun h5 => ?_)
        · rw [if_neg (show ¬ y % 2 = q - 2 by omega)] at hV
          refine lv_aload_n C.1 C.2.1 dX0_pointOfShort_97 rfl (lv_at hl 3 rfl) ?_
          refine gf C hK hP 0 rfl rfl aw_uX0 0 (by decide) aw_f_X0_9 rfl dX0_pointOfShort_98 ?_
          refine lv_iload C.1 C.2.1 dX0_pointOfShort_101 (lv_at hl 0 rfl) ?_
          refine i_sub C dX0_pointOfShort_103 ?_
          refine ca_SN (As := [.int (ii (x : Int)), .int (ii ((p : Int) - y))]) (rest := []) C (c_X1_pointAt l (x : Int) ((p : Int) - y)) hN (pcn_pre _ hN) aw_b_X1_pointAt nw_X0_39 aw_s_X1_pointAt aw_i_X1 ⟨rfl, rfl⟩ 2 (by decide +kernel) rfl ⟨by decide, by decide⟩ hl.1 rfl (Nat.le_of_ble_eq_true rfl) dX0_pointOfShort_104 ⟨by decide, by decide⟩ ?_
          exact rt_i C hr hk dX0_pointOfShort_107 (by rw [← hV])
        · rw [if_pos (show y % 2 = q - 2 by omega)] at hV
          refine lv_iload C.1 C.2.1 dX0_pointOfShort_92 (lv_at hl 0 rfl) ?_
          refine lv_goto (tgt := 104) C.1 C.2.1 dX0_pointOfShort_94 (by decide) ?_
          refine ca_SN (As := [.int (ii (x : Int)), .int (ii y)]) (rest := []) C (c_X1_pointAt l (x : Int) y) hN (pcn_pre _ hN) aw_b_X1_pointAt nw_X0_39 aw_s_X1_pointAt aw_i_X1 ⟨rfl, rfl⟩ 2 (by decide +kernel) rfl ⟨by decide, by decide⟩ hl.1 rfl (Nat.le_of_ble_eq_true rfl) dX0_pointOfShort_104 ⟨by decide, by decide⟩ ?_
          exact rt_i C hr hk dX0_pointOfShort_107 (by rw [← hV])
      · rw [if_pos (show y = -1 by omega)] at hV
        refine i_bipush C dX0_pointOfShort_73 (by decide +kernel) ?_
        exact rt_i C hr hk dX0_pointOfShort_75 (by rw [← hV])
    · rw [if_neg (show ¬ (x : Int) < p by omega)] at hV
      refine i_bipush C dX0_pointOfShort_38 (by decide +kernel) ?_
      exact rt_i C hr hk dX0_pointOfShort_40 (by rw [← hV])
  · refine lv_lload_n C.1 C.2.1 dX0_pointOfShort_21 rfl (lv_at hl 1 rfl) ?_
    refine l_ldc2 (n := 3) C dX0_pointOfShort_22 aw_k_X0_77 (by decide +kernel) ?_
    refine l_cmp C dX0_pointOfShort_25 ⟨by omega, by omega⟩ ⟨by omega, by omega⟩ ?_
    have cb25 := cmI_b q 3
    have ce25 := cmI_eq (a := q) (b := 3)
    have cl25 := cmI_lt (a := q) (b := 3)
    refine i_if_ne (tgt := 38) C dX0_pointOfShort_26 (by decide) ⟨by omega, by omega⟩ (fun h2 => ?_) (fun h2 => ?_)
    · rw [if_neg (show ¬ (q = 2 ∨ q = 3) by omega)] at hV
      refine i_bipush C dX0_pointOfShort_38 (by decide +kernel) ?_
      exact rt_i C hr hk dX0_pointOfShort_40 (by rw [← hV])
    · have hq3 : q = 2 ∨ q = 3 := by omega
      rw [if_pos hq3] at hV
      refine lv_iload C.1 C.2.1 dX0_pointOfShort_29 (lv_at hl 0 rfl) ?_
      refine lv_aload_n C.1 C.2.1 dX0_pointOfShort_31 rfl (lv_at hl 2 rfl) ?_
      refine gf C hK hP 0 rfl rfl aw_uX0 0 (by decide) aw_f_X0_9 rfl dX0_pointOfShort_32 ?_
      refine i_icmp_lt (tgt := 41) C dX0_pointOfShort_35 (by decide) ⟨by omega, by omega⟩ ⟨by omega, by omega⟩ (fun h3 => ?_) (fun h3 => ?_)
      · rw [if_pos (show (x : Int) < p by omega)] at hV
        have m1 : cub p a b x < p := Nat.mod_lt _ (by omega)
        have m2 := lrF_b (p := p) (cub p a b x) 1100 0
        refine lv_aload_n C.1 C.2.1 dX0_pointOfShort_41 rfl (lv_at hl 2 rfl) ?_
        refine gf C hK hP 0 rfl rfl aw_uX0 0 (by decide) aw_f_X0_9 rfl dX0_pointOfShort_42 ?_
        refine lv_aload_n C.1 C.2.1 dX0_pointOfShort_45 rfl (lv_at hl 2 rfl) ?_
        refine gf C hK hP 0 rfl rfl aw_uX0 1 (by decide) aw_f_X0_15 rfl dX0_pointOfShort_46 ?_
        refine lv_aload_n C.1 C.2.1 dX0_pointOfShort_49 rfl (lv_at hl 2 rfl) ?_
        refine gf C hK hP 0 rfl rfl aw_uX0 2 (by decide) aw_f_X0_18 rfl dX0_pointOfShort_50 ?_
        refine lv_iload C.1 C.2.1 dX0_pointOfShort_53 (lv_at hl 0 rfl) ?_
        refine ca_SN (As := [.int (ii (p : Int)), .int (ii (a : Int)), .int (ii (b : Int)), .int (ii (x : Int))]) (rest := []) C (c_X1_cubic l (p : Int) (a : Int) (b : Int) (x : Int) (by omega) (by omega) (by omega) (by omega)) hN (pcn_pre _ hN) aw_b_X1_cubic nw_X0_31 aw_s_X1_cubic aw_i_X1 ⟨rfl, rfl⟩ 4 (by decide +kernel) rfl ⟨by decide, by decide⟩ hl.1 rfl (Nat.le_of_ble_eq_true rfl) dX0_pointOfShort_55 ⟨by decide, by decide⟩ ?_
        refine i_top (b := ((cub p a b x : Nat) : Int)) rfl ?_
        refine lv_aload_n C.1 C.2.1 dX0_pointOfShort_58 rfl (lv_at hl 2 rfl) ?_
        refine gf C hK hP 0 rfl rfl aw_uX0 0 (by decide) aw_f_X0_9 rfl dX0_pointOfShort_59 ?_
        refine ca_S (As := [.int (ii ((cub p a b x : Nat) : Int)), .int (ii (p : Int))]) (rest := []) C (c_X0_lesserRoot l (cub p a b x) p m1 hp) (pcn_pre _ hN) aw_b_X0_lesserRoot aw_m_X0_35 aw_s_X0_lesserRoot aw_i_X0 ⟨rfl, rfl⟩ 2 (by decide +kernel) rfl ⟨by decide, by decide⟩ hl.1 rfl (Nat.le_of_ble_eq_true rfl) dX0_pointOfShort_62 ⟨by decide, by decide⟩ ?_
        generalize lrF p (cub p a b x) 1100 0 = y at m2 hV ⊢
        refine lv_istore C.1 C.2.1 dX0_pointOfShort_65 hl (by decide) rfl (fun ls hl => ?_)
        have hl : lv_has ls 7 [(6, .int (ii y)), (5, .int (ii (x : Int))), (3, .long (li q)), (0, .ref h0), (1, .long (li z))] := hl
        refine lv_iload C.1 C.2.1 dX0_pointOfShort_67 (lv_at hl 0 rfl) ?_
        refine i_const C dX0_pointOfShort_69 ?_
        refine i_icmp_ne (tgt := 76) C dX0_pointOfShort_70 (by decide) ⟨by omega, by omega⟩ ⟨by omega, by omega⟩ (fun h4 => ?_) (fun h4 => ?_)
        · rw [if_neg h4] at hV
          refine lv_iload C.1 C.2.1 dX0_pointOfShort_76 (lv_at hl 1 rfl) ?_
          refine lv_iload C.1 C.2.1 dX0_pointOfShort_78 (lv_at hl 0 rfl) ?_
          refine i_const C dX0_pointOfShort_80 ?_
          refine i_rem C dX0_pointOfShort_81 ⟨by omega, by omega⟩ ⟨by omega, by omega⟩ ?_
          refine l_i2l C dX0_pointOfShort_82 ⟨by omega, by omega⟩ ?_
          refine lv_lload_n C.1 C.2.1 dX0_pointOfShort_83 rfl (lv_at hl 2 rfl) ?_
          refine l_ldc2 (n := 2) C dX0_pointOfShort_84 aw_k_X0_75 (by decide +kernel) ?_
          refine l_sub C dX0_pointOfShort_87 ?_
          refine l_cmp C dX0_pointOfShort_88 ⟨by omega, by omega⟩ ⟨by omega, by omega⟩ ?_
          have cb88 := cmI_b (y % 2) (q - 2)
          have ce88 := cmI_eq (a := y % 2) (b := q - 2)
          have cl88 := cmI_lt (a := y % 2) (b := q - 2)
          refine i_if_ne (tgt := 97) C dX0_pointOfShort_89 (by decide) ⟨by omega, by omega⟩ (fun h5 => ?_) (fun h5 => ?_)
          · rw [if_neg (show ¬ y % 2 = q - 2 by omega)] at hV
            refine lv_aload_n C.1 C.2.1 dX0_pointOfShort_97 rfl (lv_at hl 3 rfl) ?_
            refine gf C hK hP 0 rfl rfl aw_uX0 0 (by decide) aw_f_X0_9 rfl dX0_pointOfShort_98 ?_
            refine lv_iload C.1 C.2.1 dX0_pointOfShort_101 (lv_at hl 0 rfl) ?_
            refine i_sub C dX0_pointOfShort_103 ?_
            refine ca_SN (As := [.int (ii (x : Int)), .int (ii ((p : Int) - y))]) (rest := []) C (c_X1_pointAt l (x : Int) ((p : Int) - y)) hN (pcn_pre _ hN) aw_b_X1_pointAt nw_X0_39 aw_s_X1_pointAt aw_i_X1 ⟨rfl, rfl⟩ 2 (by decide +kernel) rfl ⟨by decide, by decide⟩ hl.1 rfl (Nat.le_of_ble_eq_true rfl) dX0_pointOfShort_104 ⟨by decide, by decide⟩ ?_
            exact rt_i C hr hk dX0_pointOfShort_107 (by rw [← hV])
          · rw [if_pos (show y % 2 = q - 2 by omega)] at hV
            refine lv_iload C.1 C.2.1 dX0_pointOfShort_92 (lv_at hl 0 rfl) ?_
            refine lv_goto (tgt := 104) C.1 C.2.1 dX0_pointOfShort_94 (by decide) ?_
            refine ca_SN (As := [.int (ii (x : Int)), .int (ii y)]) (rest := []) C (c_X1_pointAt l (x : Int) y) hN (pcn_pre _ hN) aw_b_X1_pointAt nw_X0_39 aw_s_X1_pointAt aw_i_X1 ⟨rfl, rfl⟩ 2 (by decide +kernel) rfl ⟨by decide, by decide⟩ hl.1 rfl (Nat.le_of_ble_eq_true rfl) dX0_pointOfShort_104 ⟨by decide, by decide⟩ ?_
            exact rt_i C hr hk dX0_pointOfShort_107 (by rw [← hV])
        · rw [if_pos (show y = -1 by omega)] at hV
          refine i_bipush C dX0_pointOfShort_73 (by decide +kernel) ?_
          exact rt_i C hr hk dX0_pointOfShort_75 (by rw [← hV])
      · rw [if_neg (show ¬ (x : Int) < p by omega)] at hV
        refine i_bipush C dX0_pointOfShort_38 (by decide +kernel) ?_
        exact rt_i C hr hk dX0_pointOfShort_40 (by rw [← hV])
def ppF (p a b : Nat) (z : Int) : Int := if z / 4294967296 = 4 then (if hoF p a b (z / 65536 % 65536) (z % 65536) = 0 then -2 else (z / 65536 % 65536) * 65536 + z % 65536) else -2
theorem hoF_b (p a b : Nat) (x y : Int) : hoF p a b x y = 0 ∨ hoF p a b x y = 1 := by
  unfold hoF
  repeat' split
  all_goals first | exact Or.inl rfl | exact Or.inr rfl
theorem unF_b (n : Nat) (k : Int) : unF n k = 0 ∨ unF n k = 1 := by
  unfold unF
  repeat' split
  all_goals first | exact Or.inl rfl | exact Or.inr rfl
set_option maxRecDepth 100000 in
set_option maxHeartbeats 4000000 in
theorem c_X0_pointOfPlain (l : Launch) (D : va_G) (h0 p a b n : Nat) (g : Int) (hp : 5 ≤ p ∧ p ≤ 1021) (ha : a < p) (hb : b < p) (z : Int) (hz : rl z) : Met l yX0_pointOfPlain (Cond.code yX0_pointOfPlain cX0_pointOfPlain 5 (some .int) :: AW) ({ frames := 2, cells := 0, slots := 0, locals := 46 } : Room) (PcW D [(h0, .inr (0, [.int (ii (p : Int)), .int (ii (a : Int)), .int (ii (b : Int)), .int (ii (n : Int)), .int (ii g)]))] [] [.ref h0, .long (li z)]) (QcV (some (.int (ii (ppF p a b z))))) 0 0 (fun _ => False) := by
  refine mt_W (by decide +kernel) (Nat.le_of_ble_eq_true rfl) ?_
  intro P0 E0 S0 M0 A0 B0 T0 K0 C hN hP hK hr hk ls hl
  have hl : lv_has ls 5 [(0, .ref h0), (1, .long (li z))] := hl
  generalize hV : ppF p a b z = V
  unfold ppF at hV
  have f1 : 0 ≤ z / 65536 % 65536 ∧ z / 65536 % 65536 < 65536 := by omega
  have f2 : 0 ≤ z % 65536 ∧ z % 65536 < 65536 := by omega
  have f3 : -2147483648 ≤ z / 4294967296 ∧ z / 4294967296 < 2147483648 := by omega
  have f4 := hoF_b p a b (z / 65536 % 65536) (z % 65536)
  refine lv_lload_n C.1 C.2.1 dX0_pointOfPlain_0 rfl (lv_at hl 1 rfl) ?_
  refine i_bipush C dX0_pointOfPlain_1 (by decide +kernel) ?_
  refine l_shr C 16 dX0_pointOfPlain_3 ⟨by omega, by omega⟩ (by decide +kernel) ?_
  refine l_top (b := z / 65536) (by rfl) ?_
  refine l_ldc2 (n := 65535) C dX0_pointOfPlain_4 aw_k_X0_73 (by decide +kernel) ?_
  refine l_and16 C dX0_pointOfPlain_7 ?_
  refine l_l2i C dX0_pointOfPlain_8 ⟨by omega, by omega⟩ ?_
  refine lv_istore_n C.1 C.2.1 dX0_pointOfPlain_9 rfl hl (by decide) rfl (fun ls hl => ?_)
  have hl : lv_has ls 5 [(3, .int (ii ((z / 65536) % 65536))), (0, .ref h0), (1, .long (li z))] := hl
  refine lv_lload_n C.1 C.2.1 dX0_pointOfPlain_10 rfl (lv_at hl 2 rfl) ?_
  refine l_ldc2 (n := 65535) C dX0_pointOfPlain_11 aw_k_X0_73 (by decide +kernel) ?_
  refine l_and16 C dX0_pointOfPlain_14 ?_
  refine l_l2i C dX0_pointOfPlain_15 ⟨by omega, by omega⟩ ?_
  refine lv_istore C.1 C.2.1 dX0_pointOfPlain_16 hl (by decide) rfl (fun ls hl => ?_)
  have hl : lv_has ls 5 [(4, .int (ii (z % 65536))), (3, .int (ii ((z / 65536) % 65536))), (0, .ref h0), (1, .long (li z))] := hl
  refine lv_lload_n C.1 C.2.1 dX0_pointOfPlain_18 rfl (lv_at hl 3 rfl) ?_
  refine i_bipush C dX0_pointOfPlain_19 (by decide +kernel) ?_
  refine l_shr C 32 dX0_pointOfPlain_21 ⟨by omega, by omega⟩ (by decide +kernel) ?_
  refine l_top (b := z / 4294967296) (by rfl) ?_
  refine l_ldc2 (n := 4) C dX0_pointOfPlain_22 aw_k_X0_79 (by decide +kernel) ?_
  refine l_cmp C dX0_pointOfPlain_25 ⟨by omega, by omega⟩ ⟨by omega, by omega⟩ ?_
  have cb25 := cmI_b (z / 4294967296) 4
  have ce25 := cmI_eq (a := z / 4294967296) (b := 4)
  have cl25 := cmI_lt (a := z / 4294967296) (b := 4)
  refine i_if_ne (tgt := 48) C dX0_pointOfPlain_26 (by decide) ⟨by omega, by omega⟩ (fun h1 => ?_) (fun h1 => ?_)
  · rw [if_neg (show ¬ z / 4294967296 = 4 by omega)] at hV
    refine i_bipush C dX0_pointOfPlain_48 (by decide +kernel) ?_
    exact rt_i C hr hk dX0_pointOfPlain_50 (by rw [← hV])
  · rw [if_pos (show z / 4294967296 = 4 by omega)] at hV
    refine lv_aload_n C.1 C.2.1 dX0_pointOfPlain_29 rfl (lv_at hl 2 rfl) ?_
    refine lv_iload_n C.1 C.2.1 dX0_pointOfPlain_30 rfl (lv_at hl 1 rfl) ?_
    refine lv_iload C.1 C.2.1 dX0_pointOfPlain_31 (lv_at hl 0 rfl) ?_
    refine ca_V (As := [.int (ii ((z / 65536) % 65536)), .int (ii (z % 65536))]) (rest := []) C (c_X0_holds l D h0 p a b n g hp ha hb (z / 65536 % 65536) (z % 65536) ⟨by omega, by omega⟩ ⟨by omega, by omega⟩) (pcw_preV [.int (ii ((z / 65536) % 65536)), .int (ii (z % 65536))] hN hP hK 0 (ci := 0) rfl rfl) aw_b_X0_holds aw_m_X0_81 aw_v_X0_holds aw_i_X0 aw_e_X0_holds ⟨rfl, rfl⟩ 2 (by decide +kernel) rfl ⟨by decide, by decide⟩ hl.1 rfl (Nat.le_of_ble_eq_true rfl) dX0_pointOfPlain_33 ⟨by decide, by decide⟩ ?_
    generalize hoF p a b (z / 65536 % 65536) (z % 65536) = k at f4 hV ⊢
    refine i_if_eq (tgt := 48) C dX0_pointOfPlain_36 (by decide) ⟨by omega, by omega⟩ (fun h2 => ?_) (fun h2 => ?_)
    · rw [if_pos h2] at hV
      refine i_bipush C dX0_pointOfPlain_48 (by decide +kernel) ?_
      exact rt_i C hr hk dX0_pointOfPlain_50 (by rw [← hV])
    · rw [if_neg h2] at hV
      refine lv_iload_n C.1 C.2.1 dX0_pointOfPlain_39 rfl (lv_at hl 1 rfl) ?_
      refine lv_iload C.1 C.2.1 dX0_pointOfPlain_40 (lv_at hl 0 rfl) ?_
      refine ca_SN (As := [.int (ii ((z / 65536) % 65536)), .int (ii (z % 65536))]) (rest := []) C (c_X1_pointAt l (z / 65536 % 65536) (z % 65536)) hN (pcn_pre _ hN) aw_b_X1_pointAt nw_X0_39 aw_s_X1_pointAt aw_i_X1 ⟨rfl, rfl⟩ 2 (by decide +kernel) rfl ⟨by decide, by decide⟩ hl.1 rfl (Nat.le_of_ble_eq_true rfl) dX0_pointOfPlain_42 ⟨by decide, by decide⟩ ?_
      refine lv_goto (tgt := 50) C.1 C.2.1 dX0_pointOfPlain_45 (by decide) ?_
      exact rt_i C hr hk dX0_pointOfPlain_50 (by rw [← hV])
def pbF (p a b : Nat) (k z : Int) : Int := if k = 1 then (if z = 0 then -1 else -2) else if k = 3 then psF p a b z else if k = 5 then ppF p a b z else -2
set_option maxRecDepth 100000 in
set_option maxHeartbeats 4000000 in
theorem c_X0_pointOfBytes (l : Launch) (D : va_G) (h0 p a b n : Nat) (g : Int) (hp : 5 ≤ p ∧ p ≤ 1021) (ha : a < p) (hb : b < p) (k z : Int) (hk0 : rg k) (hz : rl z) : Met l yX0_pointOfBytes (Cond.code yX0_pointOfBytes cX0_pointOfBytes 4 (some .int) :: AW) ({ frames := 3, cells := 0, slots := 0, locals := 70 } : Room) (PcW D [(h0, .inr (0, [.int (ii (p : Int)), .int (ii (a : Int)), .int (ii (b : Int)), .int (ii (n : Int)), .int (ii g)]))] [] [.ref h0, .int (ii k), .long (li z)]) (QcV (some (.int (ii (pbF p a b k z))))) 0 0 (fun _ => False) := by
  refine mt_W (by decide +kernel) (Nat.le_of_ble_eq_true rfl) ?_
  intro P0 E0 S0 M0 A0 B0 T0 K0 C hN hP hK hr hk ls hl
  have hl : lv_has ls 4 [(0, .ref h0), (1, .int (ii k)), (2, .long (li z))] := hl
  generalize hV : pbF p a b k z = V
  unfold pbF at hV
  refine lv_iload_n C.1 C.2.1 dX0_pointOfBytes_0 rfl (lv_at hl 1 rfl) ?_
  refine i_const C dX0_pointOfBytes_1 ?_
  refine i_icmp_ne (tgt := 18) C dX0_pointOfBytes_2 (by decide) ⟨by omega, by omega⟩ ⟨by omega, by omega⟩ (fun h1 => ?_) (fun h1 => ?_)
  · rw [if_neg h1] at hV
    refine lv_iload_n C.1 C.2.1 dX0_pointOfBytes_18 rfl (lv_at hl 1 rfl) ?_
    refine i_const C dX0_pointOfBytes_19 ?_
    refine i_icmp_ne (tgt := 29) C dX0_pointOfBytes_20 (by decide) ⟨by omega, by omega⟩ ⟨by omega, by omega⟩ (fun h2 => ?_) (fun h2 => ?_)
    · rw [if_neg h2] at hV
      refine lv_iload_n C.1 C.2.1 dX0_pointOfBytes_29 rfl (lv_at hl 1 rfl) ?_
      refine i_const C dX0_pointOfBytes_30 ?_
      refine i_icmp_ne (tgt := 42) C dX0_pointOfBytes_31 (by decide) ⟨by omega, by omega⟩ ⟨by omega, by omega⟩ (fun h3 => ?_) (fun h3 => ?_)
      · rw [if_neg h3] at hV
        refine i_bipush C dX0_pointOfBytes_42 (by decide +kernel) ?_
        exact rt_i C hr hk dX0_pointOfBytes_44 (by rw [← hV])
      · rw [if_pos (Classical.not_not.mp h3)] at hV
        refine lv_aload_n C.1 C.2.1 dX0_pointOfBytes_34 rfl (lv_at hl 0 rfl) ?_
        refine lv_lload_n C.1 C.2.1 dX0_pointOfBytes_35 rfl (lv_at hl 2 rfl) ?_
        refine ca_V (As := [.long (li z)]) (rest := []) C (c_X0_pointOfPlain l D h0 p a b n g hp ha hb z hz) (pcw_preV [.long (li z)] hN hP hK 0 (ci := 0) rfl rfl) aw_b_X0_pointOfPlain aw_m_X0_70 aw_v_X0_pointOfPlain aw_i_X0 aw_e_X0_pointOfPlain ⟨rfl, rfl⟩ 1 (by decide +kernel) rfl ⟨by decide, by decide⟩ hl.1 rfl (Nat.le_of_ble_eq_true rfl) dX0_pointOfBytes_36 ⟨by decide, by decide⟩ ?_
        refine lv_goto (tgt := 44) C.1 C.2.1 dX0_pointOfBytes_39 (by decide) ?_
        exact rt_i C hr hk dX0_pointOfBytes_44 (by rw [← hV])
    · rw [if_pos (Classical.not_not.mp h2)] at hV
      refine lv_aload_n C.1 C.2.1 dX0_pointOfBytes_23 rfl (lv_at hl 0 rfl) ?_
      refine lv_lload_n C.1 C.2.1 dX0_pointOfBytes_24 rfl (lv_at hl 2 rfl) ?_
      refine ca_V (As := [.long (li z)]) (rest := []) C (c_X0_pointOfShort l D h0 p a b n g hp ha hb z hz) (pcw_preV [.long (li z)] hN hP hK 0 (ci := 0) rfl rfl) aw_b_X0_pointOfShort aw_m_X0_66 aw_v_X0_pointOfShort aw_i_X0 aw_e_X0_pointOfShort ⟨rfl, rfl⟩ 1 (by decide +kernel) rfl ⟨by decide, by decide⟩ hl.1 rfl (Nat.le_of_ble_eq_true rfl) dX0_pointOfBytes_25 ⟨by decide, by decide⟩ ?_
      exact rt_i C hr hk dX0_pointOfBytes_28 (by rw [← hV])
  · rw [if_pos (Classical.not_not.mp h1)] at hV
    refine lv_lload_n C.1 C.2.1 dX0_pointOfBytes_5 rfl (lv_at hl 2 rfl) ?_
    refine l_const0 C dX0_pointOfBytes_6 ?_
    refine l_cmp C dX0_pointOfBytes_7 ⟨by omega, by omega⟩ ⟨by omega, by omega⟩ ?_
    have cb7 := cmI_b z 0
    have ce7 := cmI_eq (a := z) (b := 0)
    have cl7 := cmI_lt (a := z) (b := 0)
    refine i_if_ne (tgt := 15) C dX0_pointOfBytes_8 (by decide) ⟨by omega, by omega⟩ (fun h2 => ?_) (fun h2 => ?_)
    · rw [if_neg (show ¬ z = 0 by omega)] at hV
      refine i_bipush C dX0_pointOfBytes_15 (by decide +kernel) ?_
      exact rt_i C hr hk dX0_pointOfBytes_17 (by rw [← hV])
    · rw [if_pos (show z = 0 by omega)] at hV
      refine i_const C dX0_pointOfBytes_11 ?_
      refine lv_goto (tgt := 17) C.1 C.2.1 dX0_pointOfBytes_12 (by decide) ?_
      exact rt_i C hr hk dX0_pointOfBytes_17 (by rw [← hV])
def sgF (n x : Nat) (k e d : Int) : Int := if unF n k = 0 then 0 else if ((x % n : Nat) : Int) = 0 then 0 else if qtF (e + ((x % n : Nat) : Int) * d) k n = 0 then 0 else ((x % n : Nat) : Int) * 65536 + qtF (e + ((x % n : Nat) : Int) * d) k n
set_option maxRecDepth 100000 in
set_option maxHeartbeats 4000000 in
theorem c_X0_signatureFrom (l : Launch) (D : va_G) (h0 p a b n : Nat) (G : Option (Nat × Nat)) (hp : 5 ≤ p ∧ p ≤ 1021) (ha : a < p) (hb : b < p) (hn : 2 ≤ n ∧ n ≤ 1100) (hG : sm2 p G) (k e d : Int) (hk0 : rg k) (he0 : 0 ≤ e ∧ e ≤ 1099) (hd0 : 0 ≤ d ∧ d ≤ 1099) (x y : Nat) (hR : unF n k ≠ 0 → muF p a 11 none G (k % (n : Int)).toNat = some (x, y)) (hx0 : x < p) (hy0 : y < p) : Met l yX0_signatureFrom (Cond.code yX0_signatureFrom cX0_signatureFrom 6 (some .long) :: AW) ({ frames := 5, cells := 0, slots := 0, locals := 130 } : Room) (PcW D [(h0, .inr (0, [.int (ii (p : Int)), .int (ii (a : Int)), .int (ii (b : Int)), .int (ii (n : Int)), .int (ii (ecd G))]))] [] [.ref h0, .int (ii k), .int (ii e), .int (ii d)]) (QcV (some (.long (li (sgF n x k e d))))) 0 0 (fun _ => False) := by
  refine mt_W (by decide +kernel) (Nat.le_of_ble_eq_true rfl) ?_
  intro P0 E0 S0 M0 A0 B0 T0 K0 C hN hP hK hr hk ls hl
  have hl : lv_has ls 6 [(0, .ref h0), (1, .int (ii k)), (2, .int (ii e)), (3, .int (ii d))] := hl
  generalize hV : sgF n x k e d = V
  unfold sgF at hV
  have u1 := unF_b n k
  refine lv_aload_n C.1 C.2.1 dX0_signatureFrom_0 rfl (lv_at hl 0 rfl) ?_
  refine lv_iload_n C.1 C.2.1 dX0_signatureFrom_1 rfl (lv_at hl 1 rfl) ?_
  refine ca_V (As := [.int (ii k)]) (rest := []) C (c_X0_isUnit l D h0 p a b n (ecd G) (by omega) k hk0) (pcw_preV [.int (ii k)] hN hP hK 0 (ci := 0) rfl rfl) aw_b_X0_isUnit aw_m_X0_85 aw_v_X0_isUnit aw_i_X0 aw_e_X0_isUnit ⟨rfl, rfl⟩ 1 (by decide +kernel) rfl ⟨by decide, by decide⟩ hl.1 rfl (Nat.le_of_ble_eq_true rfl) dX0_signatureFrom_2 ⟨by decide, by decide⟩ ?_
  generalize unF n k = j at u1 hV hR ⊢
  refine i_if_ne (tgt := 10) C dX0_signatureFrom_5 (by decide) ⟨by omega, by omega⟩ (fun h1 => ?_) (fun h1 => ?_)
  · rw [if_neg h1] at hV
    have hR := hR h1
    refine lv_aload_n C.1 C.2.1 dX0_signatureFrom_10 rfl (lv_at hl 0 rfl) ?_
    refine lv_iload_n C.1 C.2.1 dX0_signatureFrom_11 rfl (lv_at hl 1 rfl) ?_
    refine lv_aload_n C.1 C.2.1 dX0_signatureFrom_12 rfl (lv_at hl 0 rfl) ?_
    refine gf C hK hP 0 rfl rfl aw_uX0 4 (by decide) aw_f_X0_28 rfl dX0_signatureFrom_13 ?_
    refine ca_V (As := [.int (ii k), .int (ii (ecd G))]) (rest := []) C (c_X0_multiple l D h0 p a b n (ecd G) hp ha hb (by omega) k hk0 G hG) (pcw_preV [.int (ii k), .int (ii (ecd G))] hN hP hK 0 (ci := 0) rfl rfl) aw_b_X0_multiple aw_m_X0_89 aw_v_X0_multiple aw_i_X0 aw_e_X0_multiple ⟨rfl, rfl⟩ 2 (by decide +kernel) rfl ⟨by decide, by decide⟩ hl.1 rfl (Nat.le_of_ble_eq_true rfl) dX0_signatureFrom_16 ⟨by decide, by decide⟩ ?_
    rw [hR]
    refine ca_SN (As := [.int (ii ((x : Int) * 65536 + (y : Int)))]) (rest := []) C (c_X1_xOf l (x : Int) (y : Int) ⟨by omega, by omega⟩ ⟨by omega, by omega⟩) hN (pcn_pre _ hN) aw_b_X1_xOf nw_X0_48 aw_s_X1_xOf aw_i_X1 ⟨rfl, rfl⟩ 1 (by decide +kernel) rfl ⟨by decide, by decide⟩ hl.1 rfl (Nat.le_of_ble_eq_true rfl) dX0_signatureFrom_19 ⟨by decide, by decide⟩ ?_
    refine lv_aload_n C.1 C.2.1 dX0_signatureFrom_22 rfl (lv_at hl 0 rfl) ?_
    refine gf C hK hP 0 rfl rfl aw_uX0 3 (by decide) aw_f_X0_21 rfl dX0_signatureFrom_23 ?_
    refine i_rem C dX0_signatureFrom_26 ⟨by omega, by omega⟩ ⟨by omega, by omega⟩ ?_
    refine i_top (b := ((x % n : Nat) : Int)) rfl ?_
    have r1 := Nat.mod_lt x (show 0 < n by omega)
    generalize x % n = r at r1 hV ⊢
    have r2 := mu_b (show (0 : Int) ≤ (r : Int) by omega) (show (r : Int) ≤ 1099 by omega) hd0.1 hd0.2
    refine lv_istore C.1 C.2.1 dX0_signatureFrom_27 hl (by decide) rfl (fun ls hl => ?_)
    have hl : lv_has ls 6 [(4, .int (ii (r : Int))), (0, .ref h0), (1, .int (ii k)), (2, .int (ii e)), (3, .int (ii d))] := hl
    refine lv_iload_n C.1 C.2.1 dX0_signatureFrom_29 rfl (lv_at hl 3 rfl) ?_
    refine lv_iload C.1 C.2.1 dX0_signatureFrom_30 (lv_at hl 0 rfl) ?_
    refine lv_iload_n C.1 C.2.1 dX0_signatureFrom_32 rfl (lv_at hl 4 rfl) ?_
    refine i_mul C dX0_signatureFrom_33 ?_
    refine i_add C dX0_signatureFrom_34 ?_
    refine lv_iload_n C.1 C.2.1 dX0_signatureFrom_35 rfl (lv_at hl 2 rfl) ?_
    refine lv_aload_n C.1 C.2.1 dX0_signatureFrom_36 rfl (lv_at hl 1 rfl) ?_
    refine gf C hK hP 0 rfl rfl aw_uX0 3 (by decide) aw_f_X0_21 rfl dX0_signatureFrom_37 ?_
    have r3 := qtF_b (e + (r : Int) * d) k (show 0 < n by omega)
    refine ca_SN (As := [.int (ii (e + ((r : Int) * d))), .int (ii k), .int (ii (n : Int))]) (rest := []) C (c_X1_quotient l (e + (r : Int) * d) k n ⟨by omega, by omega⟩ hk0 ⟨by omega, by omega⟩) hN (pcn_pre _ hN) aw_b_X1_quotient nw_X0_60 aw_s_X1_quotient aw_i_X1 ⟨rfl, rfl⟩ 3 (by decide +kernel) rfl ⟨by decide, by decide⟩ hl.1 rfl (Nat.le_of_ble_eq_true rfl) dX0_signatureFrom_40 ⟨by decide, by decide⟩ ?_
    refine i_top (b := qtF (e + (r : Int) * d) k n) rfl ?_
    generalize qtF (e + (r : Int) * d) k n = s at r3 hV ⊢
    refine lv_istore C.1 C.2.1 dX0_signatureFrom_43 hl (by decide) rfl (fun ls hl => ?_)
    have hl : lv_has ls 6 [(5, .int (ii s)), (4, .int (ii (r : Int))), (0, .ref h0), (1, .int (ii k)), (2, .int (ii e)), (3, .int (ii d))] := hl
    refine lv_iload C.1 C.2.1 dX0_signatureFrom_45 (lv_at hl 1 rfl) ?_
    refine i_if_eq (tgt := 55) C dX0_signatureFrom_47 (by decide) ⟨by omega, by omega⟩ (fun h2 => ?_) (fun h2 => ?_)
    · rw [if_pos (show (r : Int) = 0 by omega)] at hV
      refine l_const0 C dX0_signatureFrom_55 ?_
      refine lv_goto (tgt := 70) C.1 C.2.1 dX0_signatureFrom_56 (by decide) ?_
      exact rt_l C hr hk dX0_signatureFrom_70 (by rw [← hV])
    · rw [if_neg (show ¬ (r : Int) = 0 by omega)] at hV
      refine lv_iload C.1 C.2.1 dX0_signatureFrom_50 (lv_at hl 0 rfl) ?_
      refine i_if_ne (tgt := 59) C dX0_signatureFrom_52 (by decide) ⟨by omega, by omega⟩ (fun h3 => ?_) (fun h3 => ?_)
      · rw [if_neg h3] at hV
        refine lv_iload C.1 C.2.1 dX0_signatureFrom_59 (lv_at hl 1 rfl) ?_
        refine l_i2l C dX0_signatureFrom_61 ⟨by omega, by omega⟩ ?_
        refine l_ldc2 (n := 65536) C dX0_signatureFrom_62 aw_k_X0_92 (by decide +kernel) ?_
        refine l_mul C dX0_signatureFrom_65 ?_
        refine lv_iload C.1 C.2.1 dX0_signatureFrom_66 (lv_at hl 0 rfl) ?_
        refine l_i2l C dX0_signatureFrom_68 ⟨by omega, by omega⟩ ?_
        refine l_add C dX0_signatureFrom_69 ?_
        exact rt_l C hr hk dX0_signatureFrom_70 (by rw [← hV])
      · rw [if_pos (Classical.not_not.mp h3)] at hV
        refine l_const0 C dX0_signatureFrom_55 ?_
        refine lv_goto (tgt := 70) C.1 C.2.1 dX0_signatureFrom_56 (by decide) ?_
        exact rt_l C hr hk dX0_signatureFrom_70 (by rw [← hV])
  · rw [if_pos (show j = 0 by omega)] at hV
    refine l_const0 C dX0_signatureFrom_8 ?_
    exact rt_l C hr hk dX0_signatureFrom_9 (by rw [← hV])
def fiF (p a n : Nat) (G P : Option (Nat × Nat)) (z r s : Int) : Int :=
  if ecd P = -1 then 0 else if unF n r = 0 then 0 else if unF n s = 0 then 0 else
    if ecd (plF p a (muF p a 11 none G (z % (n : Int) * (pwF n 11 1 s.toNat (n - 2) : Nat) % (n : Int) % (n : Int)).toNat) (muF p a 11 none P (r * (pwF n 11 1 s.toNat (n - 2) : Nat) % (n : Int) % (n : Int)).toNat)) = -1 then 0
    else if ((((plF p a (muF p a 11 none G (z % (n : Int) * (pwF n 11 1 s.toNat (n - 2) : Nat) % (n : Int) % (n : Int)).toNat) (muF p a 11 none P (r * (pwF n 11 1 s.toNat (n - 2) : Nat) % (n : Int) % (n : Int)).toNat)).getD (0, 0)).1 % n : Nat) : Int) = r then 1 else 0
theorem unF_1 {n : Nat} {k : Int} (h : unF n k ≠ 0) : 1 ≤ k ∧ k < n := by
  unfold unF at h
  split at h
  · exact absurd rfl h
  · split at h
    · exact absurd rfl h
    · omega
set_option maxRecDepth 100000 in
set_option maxHeartbeats 4000000 in
theorem c_X0_fits (l : Launch) (D : va_G) (h0 p a b n : Nat) (G : Option (Nat × Nat)) (hp : 5 ≤ p ∧ p ≤ 1021) (ha : a < p) (hb : b < p) (hn : 2 ≤ n ∧ n ≤ 1100) (hG : sm2 p G) (P : Option (Nat × Nat)) (hP0 : sm2 p P) (z r s : Int) (hz : rl z) (hr0 : rg r) (hs0 : rg s) : Met l yX0_fits (Cond.code yX0_fits cX0_fits 9 (some .boolean) :: AW) ({ frames := 5, cells := 0, slots := 0, locals := 130 } : Room) (PcW D [(h0, .inr (0, [.int (ii (p : Int)), .int (ii (a : Int)), .int (ii (b : Int)), .int (ii (n : Int)), .int (ii (ecd G))]))] [] [.ref h0, .int (ii (ecd P)), .long (li z), .int (ii r), .int (ii s)]) (QcV (some (.int (ii (fiF p a n G P z r s))))) 0 0 (fun _ => False) := by
  refine mt_W (by decide +kernel) (Nat.le_of_ble_eq_true rfl) ?_
  intro P0 E0 S0 M0 A0 B0 T0 K0 C hN hP hK hr hk ls hl
  have hl : lv_has ls 9 [(0, .ref h0), (1, .int (ii (ecd P))), (2, .long (li z)), (4, .int (ii r)), (5, .int (ii s))] := hl
  generalize hV : fiF p a n G P z r s = V
  unfold fiF at hV
  have bP := ecd_b hp.2 hP0
  have u1 := unF_b n r
  have u2 := unF_b n s
  have u3 := unF_1 (n := n) (k := r)
  have u4 := unF_1 (n := n) (k := s)
  refine lv_iload_n C.1 C.2.1 dX0_fits_0 rfl (lv_at hl 1 rfl) ?_
  refine i_const C dX0_fits_1 ?_
  refine i_icmp_eq (tgt := 23) C dX0_fits_2 (by decide) ⟨by omega, by omega⟩ ⟨by omega, by omega⟩ (fun h1 => ?_) (fun h1 => ?_)
  · rw [if_pos h1] at hV
    refine i_const C dX0_fits_23 ?_
    subst hV
    exact rt_z C hr hk dX0_fits_24 (Or.inl rfl) rfl
  · rw [if_neg h1] at hV
    refine lv_aload_n C.1 C.2.1 dX0_fits_5 rfl (lv_at hl 0 rfl) ?_
    refine lv_iload C.1 C.2.1 dX0_fits_6 (lv_at hl 3 rfl) ?_
    refine ca_V (As := [.int (ii r)]) (rest := []) C (c_X0_isUnit l D h0 p a b n (ecd G) (by omega) r hr0) (pcw_preV [.int (ii r)] hN hP hK 0 (ci := 0) rfl rfl) aw_b_X0_isUnit aw_m_X0_85 aw_v_X0_isUnit aw_i_X0 aw_e_X0_isUnit ⟨rfl, rfl⟩ 1 (by decide +kernel) rfl ⟨by decide, by decide⟩ hl.1 rfl (Nat.le_of_ble_eq_true rfl) dX0_fits_8 ⟨by decide, by decide⟩ ?_
    generalize unF n r = j1 at u1 u3 hV ⊢
    refine i_if_eq (tgt := 23) C dX0_fits_11 (by decide) ⟨by omega, by omega⟩ (fun h2 => ?_) (fun h2 => ?_)
    · rw [if_pos h2] at hV
      refine i_const C dX0_fits_23 ?_
      subst hV
      exact rt_z C hr hk dX0_fits_24 (Or.inl rfl) rfl
    · rw [if_neg h2] at hV
      have u3 := u3 h2
      refine lv_aload_n C.1 C.2.1 dX0_fits_14 rfl (lv_at hl 0 rfl) ?_
      refine lv_iload C.1 C.2.1 dX0_fits_15 (lv_at hl 4 rfl) ?_
      refine ca_V (As := [.int (ii s)]) (rest := []) C (c_X0_isUnit l D h0 p a b n (ecd G) (by omega) s hs0) (pcw_preV [.int (ii s)] hN hP hK 0 (ci := 0) rfl rfl) aw_b_X0_isUnit aw_m_X0_85 aw_v_X0_isUnit aw_i_X0 aw_e_X0_isUnit ⟨rfl, rfl⟩ 1 (by decide +kernel) rfl ⟨by decide, by decide⟩ hl.1 rfl (Nat.le_of_ble_eq_true rfl) dX0_fits_17 ⟨by decide, by decide⟩ ?_
      generalize unF n s = j2 at u2 u4 hV ⊢
      refine i_if_ne (tgt := 25) C dX0_fits_20 (by decide) ⟨by omega, by omega⟩ (fun h3 => ?_) (fun h3 => ?_)
      · rw [if_neg h3] at hV
        have u4 := u4 h3
        refine lv_iload C.1 C.2.1 dX0_fits_25 (lv_at hl 4 rfl) ?_
        refine i_top (b := ((s.toNat : Nat) : Int)) (by omega) ?_
        refine lv_aload_n C.1 C.2.1 dX0_fits_27 rfl (lv_at hl 0 rfl) ?_
        refine gf C hK hP 0 rfl rfl aw_uX0 3 (by decide) aw_f_X0_21 rfl dX0_fits_28 ?_
        refine ca_SN (As := [.int (ii ((s.toNat : Nat) : Int)), .int (ii (n : Int))]) (rest := []) C (c_X1_inverse l s.toNat n (by omega) (by omega)) hN (pcn_pre _ hN) aw_b_X1_inverse nw_X0_94 aw_s_X1_inverse aw_i_X1 ⟨rfl, rfl⟩ 2 (by decide +kernel) rfl ⟨by decide, by decide⟩ hl.1 rfl (Nat.le_of_ble_eq_true rfl) dX0_fits_31 ⟨by decide, by decide⟩ ?_
        have v1 := pwF_lt (q := n) (by omega) 11 1 s.toNat (n - 2) (by omega) (by omega)
        generalize pwF n 11 1 s.toNat (n - 2) = t at v1 hV ⊢
        have v2 := em_b z (show (0 : Int) < n by omega)
        refine lv_istore C.1 C.2.1 dX0_fits_34 hl (by decide) rfl (fun ls hl => ?_)
        have hl : lv_has ls 9 [(6, .int (ii (t : Int))), (0, .ref h0), (1, .int (ii (ecd P))), (2, .long (li z)), (4, .int (ii r)), (5, .int (ii s))] := hl
        refine lv_aload_n C.1 C.2.1 dX0_fits_36 rfl (lv_at hl 1 rfl) ?_
        refine lv_aload_n C.1 C.2.1 dX0_fits_37 rfl (lv_at hl 1 rfl) ?_
        refine lv_lload_n C.1 C.2.1 dX0_fits_38 rfl (lv_at hl 3 rfl) ?_
        refine ca_V (As := [.long (li z)]) (rest := [.ref h0]) C (c_X0_messageResidue l D h0 p a b n (ecd G) (by omega) z hz) (pcw_preV [.long (li z)] hN hP hK 0 (ci := 0) rfl rfl) aw_b_X0_messageResidue aw_m_X0_97 aw_v_X0_messageResidue aw_i_X0 aw_e_X0_messageResidue ⟨rfl, rfl⟩ 1 (by decide +kernel) rfl ⟨by decide, by decide⟩ hl.1 rfl (Nat.le_of_ble_eq_true rfl) dX0_fits_39 ⟨by decide, by decide⟩ ?_
        have v3 := mu_b v2.1 (show z % (n : Int) ≤ 1099 by omega) (show (0 : Int) ≤ (t : Int) by omega) (show (t : Int) ≤ 1099 by omega)
        have v4 := mu_b (show 0 ≤ r by omega) (show r ≤ 1099 by omega) (show (0 : Int) ≤ (t : Int) by omega) (show (t : Int) ≤ 1099 by omega)
        have v5 := em_b (z % (n : Int) * (t : Int)) (show (0 : Int) < n by omega)
        have v6 := em_b (r * (t : Int)) (show (0 : Int) < n by omega)
        refine lv_iload C.1 C.2.1 dX0_fits_42 (lv_at hl 0 rfl) ?_
        refine i_mul C dX0_fits_44 ?_
        refine lv_aload_n C.1 C.2.1 dX0_fits_45 rfl (lv_at hl 1 rfl) ?_
        refine gf C hK hP 0 rfl rfl aw_uX0 3 (by decide) aw_f_X0_21 rfl dX0_fits_46 ?_
        refine i_rem C dX0_fits_49 ⟨by omega, by omega⟩ ⟨by omega, by omega⟩ ?_
        refine lv_aload_n C.1 C.2.1 dX0_fits_50 rfl (lv_at hl 1 rfl) ?_
        refine gf C hK hP 0 rfl rfl aw_uX0 4 (by decide) aw_f_X0_28 rfl dX0_fits_51 ?_
        refine ca_V (As := [.int (ii (((z % (n : Int)) * (t : Int)) % (n : Int))), .int (ii (ecd G))]) (rest := []) C (c_X0_multiple l D h0 p a b n (ecd G) hp ha hb (by omega) (z % (n : Int) * (t : Int) % (n : Int)) ⟨by omega, by omega⟩ G hG) (pcw_preV [.int (ii (((z % (n : Int)) * (t : Int)) % (n : Int))), .int (ii (ecd G))] hN hP hK 0 (ci := 0) rfl rfl) aw_b_X0_multiple aw_m_X0_89 aw_v_X0_multiple aw_i_X0 aw_e_X0_multiple ⟨rfl, rfl⟩ 2 (by decide +kernel) rfl ⟨by decide, by decide⟩ hl.1 rfl (Nat.le_of_ble_eq_true rfl) dX0_fits_54 ⟨by decide, by decide⟩ ?_
        have w1 := muF_sm (a := a) (show 0 < p by omega) 11 none G (z % (n : Int) * (t : Int) % (n : Int) % (n : Int)).toNat (sm2_none p) hG
        generalize muF p a 11 none G (z % (n : Int) * (t : Int) % (n : Int) % (n : Int)).toNat = A at w1 hV ⊢
        refine lv_istore C.1 C.2.1 dX0_fits_57 hl (by decide) rfl (fun ls hl => ?_)
        have hl : lv_has ls 9 [(7, .int (ii (ecd A))), (6, .int (ii (t : Int))), (0, .ref h0), (1, .int (ii (ecd P))), (2, .long (li z)), (4, .int (ii r)), (5, .int (ii s))] := hl
        refine lv_aload_n C.1 C.2.1 dX0_fits_59 rfl (lv_at hl 2 rfl) ?_
        refine lv_iload C.1 C.2.1 dX0_fits_60 (lv_at hl 0 rfl) ?_
        refine lv_aload_n C.1 C.2.1 dX0_fits_62 rfl (lv_at hl 2 rfl) ?_
        refine lv_iload C.1 C.2.1 dX0_fits_63 (lv_at hl 5 rfl) ?_
        refine lv_iload C.1 C.2.1 dX0_fits_65 (lv_at hl 1 rfl) ?_
        refine i_mul C dX0_fits_67 ?_
        refine lv_aload_n C.1 C.2.1 dX0_fits_68 rfl (lv_at hl 2 rfl) ?_
        refine gf C hK hP 0 rfl rfl aw_uX0 3 (by decide) aw_f_X0_21 rfl dX0_fits_69 ?_
        refine i_rem C dX0_fits_72 ⟨by omega, by omega⟩ ⟨by omega, by omega⟩ ?_
        refine lv_iload_n C.1 C.2.1 dX0_fits_73 rfl (lv_at hl 3 rfl) ?_
        refine ca_V (As := [.int (ii ((r * (t : Int)) % (n : Int))), .int (ii (ecd P))]) (rest := [.int (ii (ecd A)), .ref h0]) C (c_X0_multiple l D h0 p a b n (ecd G) hp ha hb (by omega) (r * (t : Int) % (n : Int)) ⟨by omega, by omega⟩ P hP0) (pcw_preV [.int (ii ((r * (t : Int)) % (n : Int))), .int (ii (ecd P))] hN hP hK 0 (ci := 0) rfl rfl) aw_b_X0_multiple aw_m_X0_89 aw_v_X0_multiple aw_i_X0 aw_e_X0_multiple ⟨rfl, rfl⟩ 2 (by decide +kernel) rfl ⟨by decide, by decide⟩ hl.1 rfl (Nat.le_of_ble_eq_true rfl) dX0_fits_74 ⟨by decide, by decide⟩ ?_
        have w2 := muF_sm (a := a) (show 0 < p by omega) 11 none P (r * (t : Int) % (n : Int) % (n : Int)).toNat (sm2_none p) hP0
        generalize muF p a 11 none P (r * (t : Int) % (n : Int) % (n : Int)).toNat = B at w2 hV ⊢
        refine ca_V (As := [.int (ii (ecd A)), .int (ii (ecd B))]) (rest := []) C (c_X0_plus l D h0 p a b n (ecd G) hp ha hb A B w1 w2) (pcw_preV [.int (ii (ecd A)), .int (ii (ecd B))] hN hP hK 0 (ci := 0) rfl rfl) aw_b_X0_plus aw_m_X0_63 aw_v_X0_plus aw_i_X0 aw_e_X0_plus ⟨rfl, rfl⟩ 2 (by decide +kernel) rfl ⟨by decide, by decide⟩ hl.1 rfl (Nat.le_of_ble_eq_true rfl) dX0_fits_77 ⟨by decide, by decide⟩ ?_
        have w3 := plF_sm (a := a) (show 0 < p by omega) w1 w2
        generalize plF p a A B = F at w3 hV ⊢
        have w4 := ecd_b hp.2 w3
        refine lv_istore C.1 C.2.1 dX0_fits_80 hl (by decide) rfl (fun ls hl => ?_)
        have hl : lv_has ls 9 [(8, .int (ii (ecd F))), (7, .int (ii (ecd A))), (6, .int (ii (t : Int))), (0, .ref h0), (1, .int (ii (ecd P))), (2, .long (li z)), (4, .int (ii r)), (5, .int (ii s))] := hl
        refine lv_iload C.1 C.2.1 dX0_fits_82 (lv_at hl 0 rfl) ?_
        refine i_const C dX0_fits_84 ?_
        refine i_icmp_eq (tgt := 107) C dX0_fits_85 (by decide) ⟨by omega, by omega⟩ ⟨by omega, by omega⟩ (fun h4 => ?_) (fun h4 => ?_)
        · rw [if_pos h4] at hV
          refine i_const C dX0_fits_107 ?_
          subst hV
          exact rt_z C hr hk dX0_fits_108 (Or.inl rfl) rfl
        · rw [if_neg h4] at hV
          rcases F with _ | ⟨x, y⟩
          · exact absurd rfl h4
          · obtain ⟨x0, y0⟩ := w3 x y rfl
            have hl : lv_has ls 9 [(8, .int (ii ((x : Int) * 65536 + (y : Int)))), (7, .int (ii (ecd A))), (6, .int (ii (t : Int))), (0, .ref h0), (1, .int (ii (ecd P))), (2, .long (li z)), (4, .int (ii r)), (5, .int (ii s))] := hl
            have hV : (if ((x % n : Nat) : Int) = r then (1 : Int) else 0) = V := hV
            have x1 := Nat.mod_lt x (show 0 < n by omega)
            refine lv_iload C.1 C.2.1 dX0_fits_88 (lv_at hl 0 rfl) ?_
            refine ca_SN (As := [.int (ii ((x : Int) * 65536 + (y : Int)))]) (rest := []) C (c_X1_xOf l (x : Int) (y : Int) ⟨by omega, by omega⟩ ⟨by omega, by omega⟩) hN (pcn_pre _ hN) aw_b_X1_xOf nw_X0_48 aw_s_X1_xOf aw_i_X1 ⟨rfl, rfl⟩ 1 (by decide +kernel) rfl ⟨by decide, by decide⟩ hl.1 rfl (Nat.le_of_ble_eq_true rfl) dX0_fits_90 ⟨by decide, by decide⟩ ?_
            refine lv_aload_n C.1 C.2.1 dX0_fits_93 rfl (lv_at hl 3 rfl) ?_
            refine gf C hK hP 0 rfl rfl aw_uX0 3 (by decide) aw_f_X0_21 rfl dX0_fits_94 ?_
            refine i_rem C dX0_fits_97 ⟨by omega, by omega⟩ ⟨by omega, by omega⟩ ?_
            refine i_top (b := ((x % n : Nat) : Int)) rfl ?_
            refine lv_iload C.1 C.2.1 dX0_fits_98 (lv_at hl 6 rfl) ?_
            refine i_icmp_ne (tgt := 107) C dX0_fits_100 (by decide) ⟨by omega, by omega⟩ ⟨by omega, by omega⟩ (fun h5 => ?_) (fun h5 => ?_)
            · rw [if_neg h5] at hV
              refine i_const C dX0_fits_107 ?_
              subst hV
              exact rt_z C hr hk dX0_fits_108 (Or.inl rfl) rfl
            · rw [if_pos (Classical.not_not.mp h5)] at hV
              refine i_const C dX0_fits_103 ?_
              refine lv_goto (tgt := 108) C.1 C.2.1 dX0_fits_104 (by decide) ?_
              subst hV
              exact rt_z C hr hk dX0_fits_108 (Or.inr rfl) rfl
      · rw [if_pos (Classical.not_not.mp h3)] at hV
        refine i_const C dX0_fits_23 ?_
        subst hV
        exact rt_z C hr hk dX0_fits_24 (Or.inl rfl) rfl
end
section
/-! What throws: the two statics that a new exception reads, and the head of a method that may throw. -/
abbrev AZ (z0 : Nat) : Nat → Prop := fun q => z0 ≤ q
def Zs (z0 : Nat) (U : State) (H : Heap) : Prop := vx_Zq Jvm.Bundle.tN "UNASSIGNED_STACK" Jvm.Bundle.steD (AZ z0) U H ∧ vx_Zq Jvm.Bundle.tN "SUPPRESSED_SENTINEL" Jvm.Bundle.listD (AZ z0) U H
theorem Zs.moved {z0 : Nat} {u U : State} {H : Heap} (hvm : u.vm.Alike U.vm) (h : Zs z0 u H) : Zs z0 U H := ⟨vx_Zq.moved hvm h.1, vx_Zq.moved hvm h.2⟩
theorem Zs.kept {z0 : Nat} {U : State} {H H1 : Heap} (h : Zs z0 U H) (hq : ∀ a : Nat, a < H.size → ¬ z0 ≤ a → H1[a]? = H[a]?) : Zs z0 U H1 := ⟨vx_Zq.kept h.1 hq, vx_Zq.kept h.2 hq⟩
/-- the start of a method that may throw and reads the world ws -/
def PcX (D : va_G) (z0 : Nat) (ws : va_W) (tys : List (ClassId × FieldType)) (av : List Value) : Array Value → State → Prop := fun v U => v = av.toArray ∧ Nw U ∧ Zs z0 U U.heap ∧ va_P D clX ws U.heap ∧ va_K D clX tys U
theorem pcx_blind (D : va_G) (z0 : Nat) (ws : va_W) (tys : List (ClassId × FieldType)) (av : List Value) : FrameBlind (PcX D z0 ws tys av) := fun a U g mk h => ⟨h.1, Nw.same (u := U) (U := U.calling g mk a) rfl h.2.1, Zs.moved (u := U) (U := U.calling g mk a) (Vm.Alike.refl U.vm) h.2.2.1, h.2.2.2.1, va_K.moved (u := U) (U := U.calling g mk a) (Vm.Alike.refl U.vm) h.2.2.2.2⟩
theorem pcx_pre {D : va_G} {z0 : Nat} {ws : va_W} {tys : List (ClassId × FieldType)} {s : State} {H : Heap} (As : List Value) (hN : Nw s) (hZ : Zs z0 s H) (hP : va_P D clX ws H) (hK : va_K D clX tys s) : PreS s H (PcX D z0 ws tys As) As := ⟨pcx_blind D z0 ws tys As, fun U hU hW => ⟨rfl, Nw.warm hW hN, by rw [hU]; exact Zs.moved hW.alike hZ, by rw [hU]; exact hP, va_K.moved hW.alike hK⟩⟩
theorem pcx_preV {D : va_G} {z0 : Nat} {ws : va_W} {tys : List (ClassId × FieldType)} {s : State} {H : Heap} {b : Nat} (As : List Value) (hN : Nw s) (hZ : Zs z0 s H) (hP : va_P D clX ws H) (hK : va_K D clX tys s) (q0 : Nat) {ci : Nat} {q : vw_C} {fs : List Value} (hc : clX[ci]? = some q) (he : ws[q0]? = some (b, .inr (ci, fs))) : PreV s H q.1 b (PcX D z0 ws tys (.ref b :: As)) As :=
  ⟨pcx_blind D z0 ws tys _, va_recv hK hP hc he, fun U hU hW => ⟨rfl, Nw.warm hW hN, by rw [hU]; exact Zs.moved hW.alike hZ, by rw [hU]; exact hP, va_K.moved hW.alike hK⟩⟩
/-- a returned end that says why it returned -/
def QcP (v : Option Value) (ok : Prop) : Array Value → State → Outcome → State → Prop := fun _ st o t => o = .returned v ∧ ok ∧ t.heap = st.heap
/-- thrown: which, why; no old cell has changed -/
def XcP (E0 : String) (why : Prop) : String → State → State → Prop := fun E st t => E = E0 ∧ why ∧ st.heap.size ≤ t.heap.size ∧ ∀ q : Nat, q < st.heap.size → t.heap[q]? = st.heap[q]?
theorem mt_X {l : Launch} {y : MethodName} {cc : ByteArray} {maxL : Nat} {ret : Option FieldType} {rm : Room} {D : va_G} {z0 : Nat} {ws : va_W} {tys : List (ClassId × FieldType)} {av : List Value} {Qc : Array Value → State → Outcome → State → Prop} {XC : String → State → State → Prop} {mc ms : Nat} {free : Addr → Prop} (hy : plainName y.cls = true) (hn : (lg_sl av).length ≤ maxL)
    (body : ∀ p e s m args below meth c, Cx p m c cc maxL s args y.cls → Nw s → Zs z0 s s.heap → va_P D clX ws s.heap → va_K D clX tys s → meth.sig.returnType = ret → meth.locks = false → (∀ x ∈ c.exceptionTable.toList, False) → ∀ ls, lv_has ls maxL (lv_args 0 av) → W p l e rm s m args below meth c s.heap [] 0 0 (vx_MQ below Qc XC args s mc ms free) (F0 m 0 ls [])) :
    vx_Met l y (Cond.code y cc maxL ret :: AW) rm (PcX D z0 ws tys av) Qc XC mc ms free := by
  refine vx_ofW (cc := cc) (maxL := maxL) (ret := ret) hy rfl ?_
  intro p e s m args below meth c s₁ B hml hex hv
  obtain ⟨rfl, hN, hZ, hP, hK⟩ := hv
  have hts := atoms_spec (ws := Cond.code y cc maxL ret :: AW) B.pre
  have hl := lv_entry av (n := maxL) hn
  rw [lg_entry_eq]
  generalize (lg_sl av ++ List.replicate (maxL - (lg_sl av).length) Slot.unset).toArray = ls at hl ⊢
  exact body p e s m _ below meth c ⟨B.exec, B.bytes, hml, findClass_of_methodNamed B.named, fun w h => hts w (List.mem_cons_of_mem _ h)⟩ hN hZ hP hK B.returns B.notSynchronized hex ls hl
/-- the words of a throw: among the kept, or among the others -/
def thW (ik ic : Nat) (E : String) : List Cond := Cond.classLink RX1 ik E :: Cond.initialized E :: vx_atS RX1 ic E ["java/lang/RuntimeException", "java/lang/Exception"]
theorem th_ok {ik ic : Nat} {E : String} (h : ∀ w ∈ thW ik ic E, w ∈ lw_tbl ∧ (goodWord w = true ∨ nwS w = true)) {s : State} {args : Array Value} (hA : ∀ w ∈ AW, w.before args s = true) (hN : Nw s) : ∀ w ∈ thW ik ic E, w.before args s = true := by
  intro w hw
  obtain ⟨h1, h2⟩ := h w hw
  rcases h2 with g | g
  · exact hA w (aw_of h1 g)
  · have hm : w ∈ NWL := List.mem_filter.mpr ⟨h1, g⟩
    refine va_Nw.use ?_ (hN.1 w hm)
    rcases nw_shape g with ⟨a, i, x, b, rfl⟩ | ⟨a, b, rfl⟩ | ⟨x, rfl⟩ <;> rfl
theorem th_ot {ik ic : Nat} {E : String} (h : ∀ w ∈ thW ik ic E, w ∈ lw_tbl ∧ (goodWord w = true ∨ nwS w = true)) : ∀ w ∈ thW ik ic E, vx_ot w = true := by
  intro w hw
  obtain ⟨h1, h2⟩ := h w hw
  unfold vx_ot
  rcases h2 with g | g
  · rw [g, Bool.or_true]
  · rcases nw_shape g with ⟨a, i, x, b, rfl⟩ | ⟨a, b, rfl⟩ | ⟨x, rfl⟩ <;> rfl
section Th
variable {p : Program} {l : Launch} {e : Env} {R : Room} {s : State} {m : MethodId} {args : Array Value} {below : List Frame} {meth : Method} {c : Code} {H : Heap} {locs : List Loc} {cells slots : Nat}
variable {cc : ByteArray} {nL pc : Nat} {ls : Array Slot} {rest : List Value} {Qc : Array Value → State → Outcome → State → Prop} {XC : String → State → State → Prop} {mc ms : Nat} {free : Addr → Prop} {z0 : Nat}
/-- 'throw new E("text")' in a method of the class -/
theorem th_S (C : Cx p m c cc nL s args RX1) (hl : l.stackTraces = false) (hN : Nw s) (hZ : Zs z0 s s.heap) (hS : va_S (AZ z0) s.heap H locs) {ik is ic : Nat} {E text : String}
    (hE : Jvm.Bundle.fit E = true) (hq : (is, text) ∈ SL) (hw : ∀ w ∈ thW ik ic E, w ∈ lw_tbl ∧ (goodWord w = true ∨ nwS w = true)) (hsize : ls.size = nL)
    (d0 : decode cc pc = .ok (.new ik, 3)) (d3 : decode cc (pc + 3) = .ok (.dup, 1)) (d4 : decode cc (pc + 4) = .ok (.ldc is, 2)) (d6 : decode cc (pc + 6) = .ok (.invokespecial ic, 3)) (d9 : decode cc (pc + 9) = .ok (.athrow, 1))
    (hex : ∀ x ∈ c.exceptionTable.toList, False) (hR : 6 ≤ R.frames ∧ 100 ≤ R.locals ∧ cells + 1 ≤ R.cells ∧ slots + 6 ≤ R.slots) (hrest : (rest.map fun v => v.category).sum ≤ 8) (hlocks : meth.locks = false)
    (hx : ∀ t : State, s.vm.Alike t.vm → H.size ≤ t.heap.size → (∀ q : Nat, q < H.size → t.heap[q]? = H[q]?) → XC E s t)
    (hf : ∀ z ∈ locs, free z.base) (hc : cells + 1 ≤ mc) (hs : slots + 6 ≤ ms) : W p l e R s m args below meth c H locs cells slots (vx_MQ below Qc XC args s mc ms free) (F0 m pc ls rest) := by
  have h1 := th_ok hw C.2.2.2.2 hN
  have h2 := th_ot hw
  obtain ⟨sa, hsa⟩ := hN.2 _ hq
  refine vx_throwS (A := AZ z0) C.1 C.2.1 hl C.2.2.2.1 hE (by decide +kernel) (h1 _ List.mem_cons_self) (h1 _ (List.mem_cons_of_mem _ List.mem_cons_self)) hsa (fun w hw => h1 w (List.mem_cons_of_mem _ (List.mem_cons_of_mem _ hw))) h2 hZ.1 hZ.2 hS (hsize.trans C.2.2.1.symm) d0 d3 d4 d6 d9 (fun x hx => (hex x hx).elim) (by show 2 + 3 < R.frames; omega) (by show _ + (13 * (2 + 1) + 43) ≤ R.locals; omega) (by omega) (by omega) hlocks hx hf hc hs
end Th
end
section
/-! Calls of methods that read and may throw; their ends; ints out of arrays. -/
section CX
variable {p : Program} {l : Launch} {e : Env} {R : Room} {s : State} {m : MethodId} {args : Array Value} {below : List Frame} {meth : Method} {c : Code} {H : Heap} {locs : List Loc} {cells slots : Nat} {Q : State → Prop}
variable {cc : ByteArray} {nL pc : Nat} {own : String} {ls : Array Slot} {rest : List Value}
theorem cx_go {g : JFrame} {v : Option Value} {ok why : Prop} {E0 : String} {a : Array Value} {mc ms : Nat} (hr : vx_Run p l e R s m args below meth c H locs cells slots mc ms g rest (QcP v ok a) (XcP E0 why) (fun _ => False))
    (kx : why → ∀ (H1 : Heap) (q9 : Addr) (ce : Cell), H.size ≤ H1.size → (∀ q : Nat, q < H.size → H1[q]? = H[q]?) → H1[q9]? = some ce → ce.vm = .none → s.vm.findClass E0 = some ce.cls → vx_W p l e R s m args below meth c H1 locs (cells + mc) (slots + ms) Q { g with stack := rest } q9)
    (kk : ok → W p l e R s m args below meth c H locs (cells + mc) (slots + ms) Q { g with pc := g.pc + 3, stack := v.toList ++ rest }) : W p l e R s m args below meth c H locs cells slots Q g := by
  intro T hT X
  rcases hr T hT X with ⟨v', st₀, t, T', L, h0, X', hL, e1, e2, ⟨hv, hok, hh⟩, st⟩ | ⟨q, st₀, t, T', L, E, ce, h0, X', hL, e1, e2, ⟨rfl, hwhy, hz1, hz2⟩, hce, hcv, hcl, st⟩
  · cases hv
    obtain ⟨t2, a1, b1⟩ := kk hok T' (by rw [e1, hh, h0]) (Stand.forget X' (fun q h => (hL q h).elim))
    exact ⟨t2, st t2 a1, b1⟩
  · obtain ⟨t2, a1, b1⟩ := kx hwhy t.heap q ce (by rw [← h0]; exact hz1) (fun x hx => by rw [hz2 x (by rw [h0]; exact hx), h0]) hce hcv hcl T' e1 (Stand.forget X' (fun q h => (hL q h).elim))
    exact ⟨t2, st.trans a1, b1⟩
theorem cx_S {bytes : ByteArray} {maxL index : Nat} {y : MethodName} {ret : Option FieldType} {rm : Room} {As st0 : List Value} {v : Option Value} {ok why : Prop} {E0 : String} {Pc : Array Value → State → Prop} {mc ms : Nat}
    (C : Cx p m c cc nL s args own) (hM : vx_Met l y (Cond.code y bytes maxL ret :: AW) rm Pc (QcP v ok) (XcP E0 why) mc ms (fun _ => False)) (hp : PreS s H Pc As)
    (h1 : Cond.code y bytes maxL ret ∈ AW) (h2 : Cond.methodLink own index y ∈ AW) (h3 : Cond.static y ∈ AW) (h4 : Cond.initialized y.cls ∈ AW) (hrc : rm.cells = mc ∧ rm.slots = ms) (n : Nat)
    (hd : y.cls ≠ "java/lang/invoke/MethodHandle" ∧ y.cls ≠ "java/lang/invoke/VarHandle" ∧ (parseMethodDescriptor y.desc).map (fun d => d.parameters.length) = some n) (hn : As.length = n) (hR : rm.frames + 1 ≤ R.frames ∧ 8 + (maxL + 11) + rm.locals ≤ R.locals)
    (hsize : ls.size = nL) (hst : st0 = As.reverse ++ rest) (hrest : (rest.map fun v => v.category).sum ≤ 8) (hdg : decode cc pc = .ok (.invokestatic index, 3)) (hcs : cells + mc ≤ R.cells ∧ slots + ms ≤ R.slots)
    (kx : why → ∀ (H1 : Heap) (q9 : Addr) (ce : Cell), H.size ≤ H1.size → (∀ q : Nat, q < H.size → H1[q]? = H[q]?) → H1[q9]? = some ce → ce.vm = .none → s.vm.findClass E0 = some ce.cls → vx_W p l e R s m args below meth c H1 locs (cells + mc) (slots + ms) Q (F0 m pc ls rest) q9)
    (kk : ok → W p l e R s m args below meth c H locs (cells + mc) (slots + ms) Q (F0 m (pc + 3) ls (v.toList ++ rest))) : W p l e R s m args below meth c H locs cells slots Q (F0 m pc ls st0) := by
  subst hst
  subst hn
  obtain ⟨hx, hb, hml, hown, hts⟩ := C
  exact cx_go (vx_runS (g := F0 m pc ls (As.reverse ++ rest)) (As := As) (rest := rest) ⟨hx, hb, hml, hown, hts⟩ hM ⟨callB_of As.length hts (aw_ina h1) rfl hrc.1 hrc.2 (hts _ h4) (hts _ h2) hd hR, hts _ h3⟩ hp rfl rfl hsize rfl (lv_room hrest) hdg hcs) kx kk
theorem cx_V {bytes : ByteArray} {maxL index b : Nat} {Cn : String} {y : MethodName} {ret : Option FieldType} {rm : Room} {As st0 : List Value} {v : Option Value} {ok why : Prop} {E0 : String} {Pc : Array Value → State → Prop} {mc ms : Nat}
    (C : Cx p m c cc nL s args own) (hM : vx_Met l y (Cond.code y bytes maxL ret :: AW) rm Pc (QcP v ok) (XcP E0 why) mc ms (fun _ => False)) (hp : PreV s H Cn b Pc As)
    (h1 : Cond.code y bytes maxL ret ∈ AW) (h2 : Cond.methodLink own index y ∈ AW) (h3 : Cond.instanceMethod y ∈ AW) (h4 : Cond.initialized y.cls ∈ AW) (h5 : Cond.selects Cn y y ∈ AW) (hrc : rm.cells = mc ∧ rm.slots = ms) (n : Nat)
    (hd : y.cls ≠ "java/lang/invoke/MethodHandle" ∧ y.cls ≠ "java/lang/invoke/VarHandle" ∧ (parseMethodDescriptor y.desc).map (fun d => d.parameters.length) = some n) (hn : As.length = n) (hR : rm.frames + 1 ≤ R.frames ∧ 8 + (maxL + 11) + rm.locals ≤ R.locals)
    (hsize : ls.size = nL) (hst : st0 = As.reverse ++ .ref b :: rest) (hrest : (rest.map fun v => v.category).sum ≤ 8) (hdg : decode cc pc = .ok (.invokevirtual index, 3)) (hcs : cells + mc ≤ R.cells ∧ slots + ms ≤ R.slots)
    (kx : why → ∀ (H1 : Heap) (q9 : Addr) (ce : Cell), H.size ≤ H1.size → (∀ q : Nat, q < H.size → H1[q]? = H[q]?) → H1[q9]? = some ce → ce.vm = .none → s.vm.findClass E0 = some ce.cls → vx_W p l e R s m args below meth c H1 locs (cells + mc) (slots + ms) Q (F0 m pc ls rest) q9)
    (kk : ok → W p l e R s m args below meth c H locs (cells + mc) (slots + ms) Q (F0 m (pc + 3) ls (v.toList ++ rest))) : W p l e R s m args below meth c H locs cells slots Q (F0 m pc ls st0) := by
  subst hst
  subst hn
  obtain ⟨hx, hb, hml, hown, hts⟩ := C
  exact cx_go (vx_runV (g := F0 m pc ls (As.reverse ++ .ref b :: rest)) (As := As) (rest := rest) ⟨hx, hb, hml, hown, hts⟩ hM ⟨callB_of As.length hts (aw_ina h1) rfl hrc.1 hrc.2 (hts _ h4) (hts _ h2) hd hR, hts _ h3, hts _ h5⟩ hp rfl rfl hsize rfl (lv_room hrest) hdg hcs) kx kk
/-- what was thrown inside goes on, out of this method: no old cell has changed -/
theorem ox {Qc : Array Value → State → Outcome → State → Prop} {XC : String → State → State → Prop} {mc ms : Nat} {free : Addr → Prop} {E0 : String} {H1 : Heap} {q9 : Addr} {ce : Cell} (hex : ∀ x ∈ c.exceptionTable.toList, False) (hk : meth.locks = false) (hcell : H1[q9]? = some ce) (hv : ce.vm = .none) (hcl : s.vm.findClass E0 = some ce.cls)
    (hx : ∀ t : State, t.heap = H1 → s.vm.Alike t.vm → XC E0 s t) (hf : ∀ z ∈ locs, free z.base) (hc : cells ≤ mc) (hs : slots ≤ ms) : vx_W p l e R s m args below meth c H1 locs cells slots (vx_MQ below Qc XC args s mc ms free) (F0 m pc ls rest) q9 := vx_out (fun x hx => (hex x hx).elim) hk hcell hv hcl hx hf hc hs
theorem ox_P {Qc : Array Value → State → Outcome → State → Prop} {mc ms : Nat} {free : Addr → Prop} {E0 E1 : String} {why : Prop} {H1 : Heap} {q9 : Addr} {ce : Cell} (hex : ∀ x ∈ c.exceptionTable.toList, False) (hk : meth.locks = false) (hcell : H1[q9]? = some ce) (hv : ce.vm = .none) (hcl : s.vm.findClass E0 = some ce.cls)
    (hE : E0 = E1) (hwhy : why) (z1 : s.heap.size ≤ H1.size) (z2 : ∀ q : Nat, q < s.heap.size → H1[q]? = s.heap[q]?) (hf : ∀ z ∈ locs, free z.base) (hc : cells ≤ mc) (hs : slots ≤ ms) : vx_W p l e R s m args below meth c H1 locs cells slots (vx_MQ below Qc (XcP E1 why) args s mc ms free) (F0 m pc ls rest) q9 :=
  ox hex hk hcell hv hcl (fun t ht _ => ⟨hE, hwhy, by rw [ht]; exact z1, fun q hq => by rw [ht]; exact z2 q hq⟩) hf hc hs
/-- ends -/
theorem px_v (C : Cx p m c cc nL s args own) (hr : meth.sig.returnType = none) (hk : meth.locks = false) {XC : String → State → State → Prop} {mc ms : Nat} {ok : Prop} (hok : ok) (hdg : decode cc pc = .ok (.return_, 1)) (hc : cells ≤ mc) (hs : slots ≤ ms) : W p l e R s m args below meth c s.heap [] cells slots (vx_MQ below (QcP none ok) XC args s mc ms (fun _ => False)) (F0 m pc ls []) :=
  vx_ret (W.widen hc hs (W.vret C.1 C.2.1 hr (fun t ht _ => ⟨rfl, hok, ht⟩) (fun q h => by cases h) hdg hk))
theorem px_i (C : Cx p m c cc nL s args own) (hr : meth.sig.returnType = some .int) (hk : meth.locks = false) {XC : String → State → State → Prop} {mc ms : Nat} {ok : Prop} {x v : Int32} (hok : ok) (hdg : decode cc pc = .ok (.ireturn, 1)) (hv : x = v) (hc : cells ≤ mc) (hs : slots ≤ ms) : W p l e R s m args below meth c s.heap [] cells slots (vx_MQ below (QcP (some (.int v)) ok) XC args s mc ms (fun _ => False)) (F0 m pc ls [.int x]) := by
  subst hv
  exact vx_ret (W.widen hc hs (W.iret C.1 C.2.1 hr (fun t ht _ => ⟨rfl, hok, ht⟩) (fun q h => by cases h) hdg hk))
theorem px_z (C : Cx p m c cc nL s args own) (hr : meth.sig.returnType = some .boolean) (hk : meth.locks = false) {XC : String → State → State → Prop} {mc ms : Nat} {ok : Prop} {a : Int} {v : Int32} (hok : ok) (hdg : decode cc pc = .ok (.ireturn, 1)) (h01 : a = 0 ∨ a = 1) (hv : ii a = v) (hc : cells ≤ mc) (hs : slots ≤ ms) : W p l e R s m args below meth c s.heap [] cells slots (vx_MQ below (QcP (some (.int v)) ok) XC args s mc ms (fun _ => False)) (F0 m pc ls [.int (ii a)]) := by
  subst hv
  exact vx_ret (W.widen hc hs (W.zret C.1 C.2.1 hr (by rcases h01 with rfl | rfl <;> decide +kernel) (fun t ht _ => ⟨rfl, hok, ht⟩) (fun q h => by cases h) hdg hk))
theorem px_l (C : Cx p m c cc nL s args own) (hr : meth.sig.returnType = some .long) (hk : meth.locks = false) {XC : String → State → State → Prop} {mc ms : Nat} {ok : Prop} {a : Int} {v : Int64} (hok : ok) (hdg : decode cc pc = .ok (.lreturn, 1)) (hv : li a = v) (hc : cells ≤ mc) (hs : slots ≤ ms) : W p l e R s m args below meth c s.heap [] cells slots (vx_MQ below (QcP (some (.long v)) ok) XC args s mc ms (fun _ => False)) (F0 m pc ls [.long (li a)]) := by
  subst hv
  exact vx_ret (W.widen hc hs (W.lret C.1 C.2.1 hr (fun t ht _ => ⟨rfl, hok, ht⟩) (fun q h => by cases h) hdg hk))
theorem rt_a (C : Cx p m c cc nL s args own) {rt : FieldType} (hr : meth.sig.returnType = some rt) (hrt : ∃ n, rt = .object n) (hk : meth.locks = false) {a : Nat} {v : Value} (hdg : decode cc pc = .ok (.areturn, 1)) (hv : Value.ref a = v) : W p l e R s m args below meth c s.heap [] 0 0 (MQ below (QcV (some v)) args s 0 0 (fun _ => False)) (F0 m pc ls [.ref a]) := by
  subst hv
  exact W.aret C.1 C.2.1 hr (Or.inl hrt) (Or.inr ⟨a, rfl⟩) (fun t ht _ => ⟨rfl, ht⟩) (fun q h => by cases h) hdg hk
variable {D : va_G} {ws : va_W} {tys : List (ClassId × FieldType)}
theorem i_ald (C : Cx p m c cc nL s args own) (hK : va_K D clX tys s) (hP : va_P D clX ws H) (q0 t0 : Nat) {a : Nat} {cA : ClassId} {n : Nat} {f : Nat → Int32} (ha : ws[q0]? = some (a, .inl (cA, n, .inl f))) (ht : tys[t0]? = some (cA, .int)) {i : Int} (j : Nat) (hi : i = (j : Int)) (hj : j < n) (hn : n < 2147483648) (hdg : decode cc pc = .ok (.iaload, 1))
    (kk : W p l e R s m args below meth c H locs cells slots Q (F0 m (pc + 1) ls (.int (f j) :: rest))) : W p l e R s m args below meth c H locs cells slots Q (F0 m pc ls (.int (ii i) :: .ref a :: rest)) := by
  subst hi
  refine va_iald C.1 C.2.1 hK hP q0 t0 ha ht (by rw [ii_nI]; exact vp_in_nI hj (by omega)) hdg ?_
  rw [ii_nI, nI_clamp (by omega)]
  exact kk
end CX
end
section
/-! The class: what reads, and what throws. By wip/whole/tools/gen7.py. -/
theorem tw_iob : ∀ w ∈ thW 145 149 "java/lang/IndexOutOfBoundsException", w ∈ lw_tbl ∧ (goodWord w = true ∨ nwS w = true) := by decide +kernel
theorem tw_ise : ∀ w ∈ thW 114 118 "java/lang/IllegalStateException", w ∈ lw_tbl ∧ (goodWord w = true ∨ nwS w = true) := by decide +kernel
theorem tw_iae : ∀ w ∈ thW 37 41 "java/lang/IllegalArgumentException", w ∈ lw_tbl ∧ (goodWord w = true ∨ nwS w = true) := by decide +kernel
theorem tw_are : ∀ w ∈ thW 134 138 "java/lang/ArithmeticException", w ∈ lw_tbl ∧ (goodWord w = true ∨ nwS w = true) := by decide +kernel
def okr (r : Int) : Prop := 0 ≤ r ∧ r < 4
set_option maxRecDepth 100000 in
set_option maxHeartbeats 4000000 in
theorem c_check (l : Launch) (hL : l.stackTraces = false) (D : va_G) (z0 : Nat) (r : Int) (hr0 : rg r) : vx_Met l yX1_checkRegister (Cond.code yX1_checkRegister cX1_checkRegister 1 none :: AW) ({ frames := 6, cells := 1, slots := 6, locals := 100 } : Room) (PcX D z0 [] [] [.int (ii r)]) (QcP none (okr r)) (XcP "java/lang/IndexOutOfBoundsException" (¬ okr r)) 1 6 (fun _ => False) := by
  refine mt_X (by decide +kernel) (Nat.le_of_ble_eq_true rfl) ?_
  intro P0 E0 S0 M0 A0 B0 T0 K0 C hN hZ hP hK hr hk hex ls hl
  have hl : lv_has ls 1 [(0, .int (ii r))] := hl
  unfold okr
  refine lv_iload_n C.1 C.2.1 dX1_checkRegister_0 rfl (lv_at hl 0 rfl) ?_
  refine i_if_lt (tgt := 9) C dX1_checkRegister_1 (by decide) ⟨by omega, by omega⟩ (fun h1 => ?_) (fun h1 => ?_)
  · exact th_S (z0 := z0) C hL hN hZ va_S.rf (text := "no such register") (by decide +kernel) (by decide +kernel) tw_iob hl.1 dX1_checkRegister_9 dX1_checkRegister_12 dX1_checkRegister_13 dX1_checkRegister_15 dX1_checkRegister_18 hex ⟨by decide, by decide, by decide, by decide⟩ (Nat.le_of_ble_eq_true rfl) hk (fun t _ z1 z2 => ⟨rfl, by omega, z1, z2⟩) (fun q h => by cases h) (by decide) (by decide)
  · refine lv_iload_n C.1 C.2.1 dX1_checkRegister_4 rfl (lv_at hl 0 rfl) ?_
    refine i_const C dX1_checkRegister_5 ?_
    refine i_icmp_lt (tgt := 19) C dX1_checkRegister_6 (by decide) ⟨by omega, by omega⟩ ⟨by omega, by omega⟩ (fun h2 => ?_) (fun h2 => ?_)
    · exact px_v C hr hk (by omega) dX1_checkRegister_19 (by decide) (by decide)
    · exact th_S (z0 := z0) C hL hN hZ va_S.rf (text := "no such register") (by decide +kernel) (by decide +kernel) tw_iob hl.1 dX1_checkRegister_9 dX1_checkRegister_12 dX1_checkRegister_13 dX1_checkRegister_15 dX1_checkRegister_18 hex ⟨by decide, by decide, by decide, by decide⟩ (Nat.le_of_ble_eq_true rfl) hk (fun t _ z1 z2 => ⟨rfl, by omega, z1, z2⟩) (fun q h => by cases h) (by decide) (by decide)
set_option maxRecDepth 100000 in
set_option maxHeartbeats 4000000 in
theorem c_taken_n (l : Launch) (hL : l.stackTraces = false) (D : va_G) (z0 : Nat) (hx hr0 hq0 : Nat) (sec dr : Int) : vx_Met l yX1_takenCurve (Cond.code yX1_takenCurve cX1_takenCurve 1 (some (.object "PrimeCurveSigner$Curve")) :: AW) ({ frames := 6, cells := 1, slots := 6, locals := 100 } : Room) (PcX D z0 [(hx, .inr (1, [.ref hr0, .ref hq0, .null, .int (ii sec), .int (ii dr)]))] [] [.ref hx]) (QcP none False) (XcP "java/lang/IllegalStateException" True) 1 6 (fun _ => False) := by
  refine mt_X (by decide +kernel) (Nat.le_of_ble_eq_true rfl) ?_
  intro P0 E0 S0 M0 A0 B0 T0 K0 C hN hZ hP hK hr hk hex ls hl
  have hl : lv_has ls 1 [(0, .ref hx)] := hl
  refine lv_aload_n C.1 C.2.1 dX1_takenCurve_0 rfl (lv_at hl 0 rfl) ?_
  refine gf C hK hP 0 rfl rfl aw_uX1 2 (by decide) aw_f_X1_22 rfl dX1_takenCurve_1 ?_
  refine lv_ifnonnullN C.1 C.2.1 dX1_takenCurve_4 ?_
  exact th_S (z0 := z0) C hL hN hZ va_S.rf (text := "no curve was taken yet") (by decide +kernel) (by decide +kernel) tw_ise hl.1 dX1_takenCurve_7 dX1_takenCurve_10 dX1_takenCurve_11 dX1_takenCurve_13 dX1_takenCurve_16 hex ⟨by decide, by decide, by decide, by decide⟩ (Nat.le_of_ble_eq_true rfl) hk (fun t _ z1 z2 => ⟨rfl, trivial, z1, z2⟩) (fun q h => by cases h) (by decide) (by decide)
set_option maxRecDepth 100000 in
set_option maxHeartbeats 4000000 in
theorem c_taken_c (l : Launch) (D : va_G) (hx hr0 hq0 hc : Nat) (sec dr : Int) : Met l yX1_takenCurve (Cond.code yX1_takenCurve cX1_takenCurve 1 (some (.object "PrimeCurveSigner$Curve")) :: AW) ({ frames := 0, cells := 0, slots := 0, locals := 0 } : Room) (PcW D [(hx, .inr (1, [.ref hr0, .ref hq0, .ref hc, .int (ii sec), .int (ii dr)]))] [] [.ref hx]) (QcV (some (.ref hc))) 0 0 (fun _ => False) := by
  refine mt_W (by decide +kernel) (Nat.le_of_ble_eq_true rfl) ?_
  intro P0 E0 S0 M0 A0 B0 T0 K0 C hN hP hK hr hk ls hl
  have hl : lv_has ls 1 [(0, .ref hx)] := hl
  refine lv_aload_n C.1 C.2.1 dX1_takenCurve_0 rfl (lv_at hl 0 rfl) ?_
  refine gf C hK hP 0 rfl rfl aw_uX1 2 (by decide) aw_f_X1_22 rfl dX1_takenCurve_1 ?_
  refine lv_ifnonnull (tgt := 17) C.1 C.2.1 dX1_takenCurve_4 (by decide) ?_
  refine lv_aload_n C.1 C.2.1 dX1_takenCurve_17 rfl (lv_at hl 0 rfl) ?_
  refine gf C hK hP 0 rfl rfl aw_uX1 2 (by decide) aw_f_X1_22 rfl dX1_takenCurve_18 ?_
  exact rt_a C hr ⟨_, rfl⟩ hk dX1_takenCurve_21 rfl
set_option maxRecDepth 100000 in
set_option maxHeartbeats 4000000 in
theorem c_X1_load_n (l : Launch) (hL : l.stackTraces = false) (D : va_G) (z0 : Nat) (hx hr0 hq0 : Nat) (sec dr : Int) (x1 x2 x3 : Int32) : vx_Met l yX1_load (Cond.code yX1_load cX1_load 5 none :: AW) ({ frames := 7, cells := 1, slots := 6, locals := 130 } : Room) (PcX D z0 [(hx, .inr (1, [.ref hr0, .ref hq0, .null, .int (ii sec), .int (ii dr)]))] [] [.ref hx, .int x1, .int x2, .int x3]) (QcP none False) (XcP "java/lang/IllegalStateException" True) 1 6 (fun _ => False) := by
  refine mt_X (by decide +kernel) (Nat.le_of_ble_eq_true rfl) ?_
  intro P0 E0 S0 M0 A0 B0 T0 K0 C hN hZ hP hK hr hk hex ls hl
  have hl : lv_has ls 5 [(0, .ref hx), (1, .int x1), (2, .int x2), (3, .int x3)] := hl
  refine lv_aload_n C.1 C.2.1 dX1_load_0 rfl (lv_at hl 0 rfl) ?_
  refine cx_V (As := []) (rest := []) C (c_taken_n l hL D z0 hx hr0 hq0 sec dr) (pcx_preV [] hN hZ hP hK 0 (ci := 1) rfl rfl) aw_b_X1_takenCurve aw_m_X1_62 aw_v_X1_takenCurve aw_i_X1 aw_e_X1_takenCurve ⟨rfl, rfl⟩ 0 (by decide +kernel) rfl ⟨by decide, by decide⟩ hl.1 rfl (Nat.le_of_ble_eq_true rfl) dX1_load_1 ⟨by decide, by decide⟩ (fun _ H1 q9 ce z1 z2 z3 z4 z5 => ?_) (fun h => h.elim)
  exact ox_P hex hk z3 z4 z5 rfl trivial z1 z2 (fun q h => by cases h) (by decide) (by decide)
set_option maxRecDepth 100000 in
set_option maxHeartbeats 4000000 in
theorem c_X1_base_n (l : Launch) (hL : l.stackTraces = false) (D : va_G) (z0 : Nat) (hx hr0 hq0 : Nat) (sec dr : Int) (x1 : Int32) : vx_Met l yX1_base (Cond.code yX1_base cX1_base 3 none :: AW) ({ frames := 7, cells := 1, slots := 6, locals := 130 } : Room) (PcX D z0 [(hx, .inr (1, [.ref hr0, .ref hq0, .null, .int (ii sec), .int (ii dr)]))] [] [.ref hx, .int x1]) (QcP none False) (XcP "java/lang/IllegalStateException" True) 1 6 (fun _ => False) := by
  refine mt_X (by decide +kernel) (Nat.le_of_ble_eq_true rfl) ?_
  intro P0 E0 S0 M0 A0 B0 T0 K0 C hN hZ hP hK hr hk hex ls hl
  have hl : lv_has ls 3 [(0, .ref hx), (1, .int x1)] := hl
  refine lv_aload_n C.1 C.2.1 dX1_base_0 rfl (lv_at hl 0 rfl) ?_
  refine cx_V (As := []) (rest := []) C (c_taken_n l hL D z0 hx hr0 hq0 sec dr) (pcx_preV [] hN hZ hP hK 0 (ci := 1) rfl rfl) aw_b_X1_takenCurve aw_m_X1_62 aw_v_X1_takenCurve aw_i_X1 aw_e_X1_takenCurve ⟨rfl, rfl⟩ 0 (by decide +kernel) rfl ⟨by decide, by decide⟩ hl.1 rfl (Nat.le_of_ble_eq_true rfl) dX1_base_1 ⟨by decide, by decide⟩ (fun _ H1 q9 ce z1 z2 z3 z4 z5 => ?_) (fun h => h.elim)
  exact ox_P hex hk z3 z4 z5 rfl trivial z1 z2 (fun q h => by cases h) (by decide) (by decide)
set_option maxRecDepth 100000 in
set_option maxHeartbeats 4000000 in
theorem c_X1_sum_n (l : Launch) (hL : l.stackTraces = false) (D : va_G) (z0 : Nat) (hx hr0 hq0 : Nat) (sec dr : Int) (x1 x2 x3 : Int32) : vx_Met l yX1_sum (Cond.code yX1_sum cX1_sum 5 none :: AW) ({ frames := 7, cells := 1, slots := 6, locals := 130 } : Room) (PcX D z0 [(hx, .inr (1, [.ref hr0, .ref hq0, .null, .int (ii sec), .int (ii dr)]))] [] [.ref hx, .int x1, .int x2, .int x3]) (QcP none False) (XcP "java/lang/IllegalStateException" True) 1 6 (fun _ => False) := by
  refine mt_X (by decide +kernel) (Nat.le_of_ble_eq_true rfl) ?_
  intro P0 E0 S0 M0 A0 B0 T0 K0 C hN hZ hP hK hr hk hex ls hl
  have hl : lv_has ls 5 [(0, .ref hx), (1, .int x1), (2, .int x2), (3, .int x3)] := hl
  refine lv_aload_n C.1 C.2.1 dX1_sum_0 rfl (lv_at hl 0 rfl) ?_
  refine cx_V (As := []) (rest := []) C (c_taken_n l hL D z0 hx hr0 hq0 sec dr) (pcx_preV [] hN hZ hP hK 0 (ci := 1) rfl rfl) aw_b_X1_takenCurve aw_m_X1_62 aw_v_X1_takenCurve aw_i_X1 aw_e_X1_takenCurve ⟨rfl, rfl⟩ 0 (by decide +kernel) rfl ⟨by decide, by decide⟩ hl.1 rfl (Nat.le_of_ble_eq_true rfl) dX1_sum_1 ⟨by decide, by decide⟩ (fun _ H1 q9 ce z1 z2 z3 z4 z5 => ?_) (fun h => h.elim)
  exact ox_P hex hk z3 z4 z5 rfl trivial z1 z2 (fun q h => by cases h) (by decide) (by decide)
set_option maxRecDepth 100000 in
set_option maxHeartbeats 4000000 in
theorem c_X1_times_n (l : Launch) (hL : l.stackTraces = false) (D : va_G) (z0 : Nat) (hx hr0 hq0 : Nat) (sec dr : Int) (x1 x2 x3 : Int32) : vx_Met l yX1_times (Cond.code yX1_times cX1_times 5 none :: AW) ({ frames := 7, cells := 1, slots := 6, locals := 130 } : Room) (PcX D z0 [(hx, .inr (1, [.ref hr0, .ref hq0, .null, .int (ii sec), .int (ii dr)]))] [] [.ref hx, .int x1, .int x2, .int x3]) (QcP none False) (XcP "java/lang/IllegalStateException" True) 1 6 (fun _ => False) := by
  refine mt_X (by decide +kernel) (Nat.le_of_ble_eq_true rfl) ?_
  intro P0 E0 S0 M0 A0 B0 T0 K0 C hN hZ hP hK hr hk hex ls hl
  have hl : lv_has ls 5 [(0, .ref hx), (1, .int x1), (2, .int x2), (3, .int x3)] := hl
  refine lv_aload_n C.1 C.2.1 dX1_times_0 rfl (lv_at hl 0 rfl) ?_
  refine cx_V (As := []) (rest := []) C (c_taken_n l hL D z0 hx hr0 hq0 sec dr) (pcx_preV [] hN hZ hP hK 0 (ci := 1) rfl rfl) aw_b_X1_takenCurve aw_m_X1_62 aw_v_X1_takenCurve aw_i_X1 aw_e_X1_takenCurve ⟨rfl, rfl⟩ 0 (by decide +kernel) rfl ⟨by decide, by decide⟩ hl.1 rfl (Nat.le_of_ble_eq_true rfl) dX1_times_1 ⟨by decide, by decide⟩ (fun _ H1 q9 ce z1 z2 z3 z4 z5 => ?_) (fun h => h.elim)
  exact ox_P hex hk z3 z4 z5 rfl trivial z1 z2 (fun q h => by cases h) (by decide) (by decide)
set_option maxRecDepth 100000 in
set_option maxHeartbeats 4000000 in
theorem c_X1_decode_n (l : Launch) (hL : l.stackTraces = false) (D : va_G) (z0 : Nat) (hx hr0 hq0 : Nat) (sec dr : Int) (x1 x2 : Int32) (y1 : Int64) : vx_Met l yX1_decode (Cond.code yX1_decode cX1_decode 7 none :: AW) ({ frames := 7, cells := 1, slots := 6, locals := 130 } : Room) (PcX D z0 [(hx, .inr (1, [.ref hr0, .ref hq0, .null, .int (ii sec), .int (ii dr)]))] [] [.ref hx, .int x1, .int x2, .long y1]) (QcP none False) (XcP "java/lang/IllegalStateException" True) 1 6 (fun _ => False) := by
  refine mt_X (by decide +kernel) (Nat.le_of_ble_eq_true rfl) ?_
  intro P0 E0 S0 M0 A0 B0 T0 K0 C hN hZ hP hK hr hk hex ls hl
  have hl : lv_has ls 7 [(0, .ref hx), (1, .int x1), (2, .int x2), (3, .long y1)] := hl
  refine lv_aload_n C.1 C.2.1 dX1_decode_0 rfl (lv_at hl 0 rfl) ?_
  refine cx_V (As := []) (rest := []) C (c_taken_n l hL D z0 hx hr0 hq0 sec dr) (pcx_preV [] hN hZ hP hK 0 (ci := 1) rfl rfl) aw_b_X1_takenCurve aw_m_X1_62 aw_v_X1_takenCurve aw_i_X1 aw_e_X1_takenCurve ⟨rfl, rfl⟩ 0 (by decide +kernel) rfl ⟨by decide, by decide⟩ hl.1 rfl (Nat.le_of_ble_eq_true rfl) dX1_decode_1 ⟨by decide, by decide⟩ (fun _ H1 q9 ce z1 z2 z3 z4 z5 => ?_) (fun h => h.elim)
  exact ox_P hex hk z3 z4 z5 rfl trivial z1 z2 (fun q h => by cases h) (by decide) (by decide)
set_option maxRecDepth 100000 in
set_option maxHeartbeats 4000000 in
theorem c_X1_key_n (l : Launch) (hL : l.stackTraces = false) (D : va_G) (z0 : Nat) (hx hr0 hq0 : Nat) (sec dr : Int) (x1 x2 : Int32) : vx_Met l yX1_key (Cond.code yX1_key cX1_key 4 none :: AW) ({ frames := 7, cells := 1, slots := 6, locals := 130 } : Room) (PcX D z0 [(hx, .inr (1, [.ref hr0, .ref hq0, .null, .int (ii sec), .int (ii dr)]))] [] [.ref hx, .int x1, .int x2]) (QcP none False) (XcP "java/lang/IllegalStateException" True) 1 6 (fun _ => False) := by
  refine mt_X (by decide +kernel) (Nat.le_of_ble_eq_true rfl) ?_
  intro P0 E0 S0 M0 A0 B0 T0 K0 C hN hZ hP hK hr hk hex ls hl
  have hl : lv_has ls 4 [(0, .ref hx), (1, .int x1), (2, .int x2)] := hl
  refine lv_aload_n C.1 C.2.1 dX1_key_0 rfl (lv_at hl 0 rfl) ?_
  refine cx_V (As := []) (rest := []) C (c_taken_n l hL D z0 hx hr0 hq0 sec dr) (pcx_preV [] hN hZ hP hK 0 (ci := 1) rfl rfl) aw_b_X1_takenCurve aw_m_X1_62 aw_v_X1_takenCurve aw_i_X1 aw_e_X1_takenCurve ⟨rfl, rfl⟩ 0 (by decide +kernel) rfl ⟨by decide, by decide⟩ hl.1 rfl (Nat.le_of_ble_eq_true rfl) dX1_key_1 ⟨by decide, by decide⟩ (fun _ H1 q9 ce z1 z2 z3 z4 z5 => ?_) (fun h => h.elim)
  exact ox_P hex hk z3 z4 z5 rfl trivial z1 z2 (fun q h => by cases h) (by decide) (by decide)
set_option maxRecDepth 100000 in
set_option maxHeartbeats 4000000 in
theorem c_X1_sign_n (l : Launch) (hL : l.stackTraces = false) (D : va_G) (z0 : Nat) (hx hr0 hq0 : Nat) (sec dr : Int) (y1 : Int64) : vx_Met l yX1_sign (Cond.code yX1_sign cX1_sign 11 (some .long) :: AW) ({ frames := 7, cells := 1, slots := 6, locals := 130 } : Room) (PcX D z0 [(hx, .inr (1, [.ref hr0, .ref hq0, .null, .int (ii sec), .int (ii dr)]))] [] [.ref hx, .long y1]) (QcP none False) (XcP "java/lang/IllegalStateException" True) 1 6 (fun _ => False) := by
  refine mt_X (by decide +kernel) (Nat.le_of_ble_eq_true rfl) ?_
  intro P0 E0 S0 M0 A0 B0 T0 K0 C hN hZ hP hK hr hk hex ls hl
  have hl : lv_has ls 11 [(0, .ref hx), (1, .long y1)] := hl
  refine lv_aload_n C.1 C.2.1 dX1_sign_0 rfl (lv_at hl 0 rfl) ?_
  refine cx_V (As := []) (rest := []) C (c_taken_n l hL D z0 hx hr0 hq0 sec dr) (pcx_preV [] hN hZ hP hK 0 (ci := 1) rfl rfl) aw_b_X1_takenCurve aw_m_X1_62 aw_v_X1_takenCurve aw_i_X1 aw_e_X1_takenCurve ⟨rfl, rfl⟩ 0 (by decide +kernel) rfl ⟨by decide, by decide⟩ hl.1 rfl (Nat.le_of_ble_eq_true rfl) dX1_sign_1 ⟨by decide, by decide⟩ (fun _ H1 q9 ce z1 z2 z3 z4 z5 => ?_) (fun h => h.elim)
  exact ox_P hex hk z3 z4 z5 rfl trivial z1 z2 (fun q h => by cases h) (by decide) (by decide)
set_option maxRecDepth 100000 in
set_option maxHeartbeats 4000000 in
theorem c_X1_verify_n (l : Launch) (hL : l.stackTraces = false) (D : va_G) (z0 : Nat) (hx hr0 hq0 : Nat) (sec dr : Int) (x1 x2 x3 : Int32) (y1 : Int64) : vx_Met l yX1_verify (Cond.code yX1_verify cX1_verify 7 (some .boolean) :: AW) ({ frames := 7, cells := 1, slots := 6, locals := 130 } : Room) (PcX D z0 [(hx, .inr (1, [.ref hr0, .ref hq0, .null, .int (ii sec), .int (ii dr)]))] [] [.ref hx, .int x1, .long y1, .int x2, .int x3]) (QcP none False) (XcP "java/lang/IllegalStateException" True) 1 6 (fun _ => False) := by
  refine mt_X (by decide +kernel) (Nat.le_of_ble_eq_true rfl) ?_
  intro P0 E0 S0 M0 A0 B0 T0 K0 C hN hZ hP hK hr hk hex ls hl
  have hl : lv_has ls 7 [(0, .ref hx), (1, .int x1), (2, .long y1), (4, .int x2), (5, .int x3)] := hl
  refine lv_aload_n C.1 C.2.1 dX1_verify_0 rfl (lv_at hl 0 rfl) ?_
  refine cx_V (As := []) (rest := []) C (c_taken_n l hL D z0 hx hr0 hq0 sec dr) (pcx_preV [] hN hZ hP hK 0 (ci := 1) rfl rfl) aw_b_X1_takenCurve aw_m_X1_62 aw_v_X1_takenCurve aw_i_X1 aw_e_X1_takenCurve ⟨rfl, rfl⟩ 0 (by decide +kernel) rfl ⟨by decide, by decide⟩ hl.1 rfl (Nat.le_of_ble_eq_true rfl) dX1_verify_1 ⟨by decide, by decide⟩ (fun _ H1 q9 ce z1 z2 z3 z4 z5 => ?_) (fun h => h.elim)
  exact ox_P hex hk z3 z4 z5 rfl trivial z1 z2 (fun q h => by cases h) (by decide) (by decide)
set_option maxRecDepth 100000 in
set_option maxHeartbeats 4000000 in
theorem c_X1_accepts_n (l : Launch) (hL : l.stackTraces = false) (D : va_G) (z0 : Nat) (hx hr0 hq0 : Nat) (sec dr : Int) (x1 x2 x3 : Int32) (y1 y2 : Int64) : vx_Met l yX1_accepts (Cond.code yX1_accepts cX1_accepts 10 (some .boolean) :: AW) ({ frames := 7, cells := 1, slots := 6, locals := 130 } : Room) (PcX D z0 [(hx, .inr (1, [.ref hr0, .ref hq0, .null, .int (ii sec), .int (ii dr)]))] [] [.ref hx, .int x1, .long y1, .long y2, .int x2, .int x3]) (QcP none False) (XcP "java/lang/IllegalStateException" True) 1 6 (fun _ => False) := by
  refine mt_X (by decide +kernel) (Nat.le_of_ble_eq_true rfl) ?_
  intro P0 E0 S0 M0 A0 B0 T0 K0 C hN hZ hP hK hr hk hex ls hl
  have hl : lv_has ls 10 [(0, .ref hx), (1, .int x1), (2, .long y1), (4, .long y2), (6, .int x2), (7, .int x3)] := hl
  refine lv_aload_n C.1 C.2.1 dX1_accepts_0 rfl (lv_at hl 0 rfl) ?_
  refine cx_V (As := []) (rest := []) C (c_taken_n l hL D z0 hx hr0 hq0 sec dr) (pcx_preV [] hN hZ hP hK 0 (ci := 1) rfl rfl) aw_b_X1_takenCurve aw_m_X1_62 aw_v_X1_takenCurve aw_i_X1 aw_e_X1_takenCurve ⟨rfl, rfl⟩ 0 (by decide +kernel) rfl ⟨by decide, by decide⟩ hl.1 rfl (Nat.le_of_ble_eq_true rfl) dX1_accepts_1 ⟨by decide, by decide⟩ (fun _ H1 q9 ce z1 z2 z3 z4 z5 => ?_) (fun h => h.elim)
  exact ox_P hex hk z3 z4 z5 rfl trivial z1 z2 (fun q h => by cases h) (by decide) (by decide)
set_option maxRecDepth 100000 in
set_option maxHeartbeats 4000000 in
theorem c_order_n (l : Launch) (D : va_G) (hx hr0 hq0 : Nat) (sec dr : Int) : Met l yX1_order (Cond.code yX1_order cX1_order 1 (some .int) :: AW) ({ frames := 0, cells := 0, slots := 0, locals := 0 } : Room) (PcW D [(hx, .inr (1, [.ref hr0, .ref hq0, .null, .int (ii sec), .int (ii dr)]))] [] [.ref hx]) (QcV (some (.int (ii 0)))) 0 0 (fun _ => False) := by
  refine mt_W (by decide +kernel) (Nat.le_of_ble_eq_true rfl) ?_
  intro P0 E0 S0 M0 A0 B0 T0 K0 C hN hP hK hr hk ls hl
  have hl : lv_has ls 1 [(0, .ref hx)] := hl
  refine lv_aload_n C.1 C.2.1 dX1_order_0 rfl (lv_at hl 0 rfl) ?_
  refine gf C hK hP 0 rfl rfl aw_uX1 2 (by decide) aw_f_X1_22 rfl dX1_order_1 ?_
  refine lv_ifnonnullN C.1 C.2.1 dX1_order_4 ?_
  refine i_const C dX1_order_7 ?_
  refine lv_goto (tgt := 18) C.1 C.2.1 dX1_order_8 (by decide) ?_
  exact rt_i C hr hk dX1_order_18 rfl
set_option maxRecDepth 100000 in
set_option maxHeartbeats 4000000 in
theorem c_order_c (l : Launch) (D : va_G) (hx hr0 hq0 hc : Nat) (sec dr : Int) (p a b n : Nat) (g : Int) : Met l yX1_order (Cond.code yX1_order cX1_order 1 (some .int) :: AW) ({ frames := 0, cells := 0, slots := 0, locals := 0 } : Room) (PcW D [(hx, .inr (1, [.ref hr0, .ref hq0, .ref hc, .int (ii sec), .int (ii dr)])), (hc, .inr (0, [.int (ii (p : Int)), .int (ii (a : Int)), .int (ii (b : Int)), .int (ii (n : Int)), .int (ii g)]))] [] [.ref hx]) (QcV (some (.int (ii (n : Int))))) 0 0 (fun _ => False) := by
  refine mt_W (by decide +kernel) (Nat.le_of_ble_eq_true rfl) ?_
  intro P0 E0 S0 M0 A0 B0 T0 K0 C hN hP hK hr hk ls hl
  have hl : lv_has ls 1 [(0, .ref hx)] := hl
  refine lv_aload_n C.1 C.2.1 dX1_order_0 rfl (lv_at hl 0 rfl) ?_
  refine gf C hK hP 0 rfl rfl aw_uX1 2 (by decide) aw_f_X1_22 rfl dX1_order_1 ?_
  refine lv_ifnonnull (tgt := 11) C.1 C.2.1 dX1_order_4 (by decide) ?_
  refine lv_aload_n C.1 C.2.1 dX1_order_11 rfl (lv_at hl 0 rfl) ?_
  refine gf C hK hP 0 rfl rfl aw_uX1 2 (by decide) aw_f_X1_22 rfl dX1_order_12 ?_
  refine gf C hK hP 1 rfl rfl aw_uX0 3 (by decide) aw_f_X1_59 rfl dX1_order_15 ?_
  exact rt_i C hr hk dX1_order_18 rfl
set_option maxRecDepth 100000 in
set_option maxHeartbeats 4000000 in
theorem c_draws_n (l : Launch) (D : va_G) (hx hr0 hq0 : Nat) (sec dr : Int) : Met l yX1_draws (Cond.code yX1_draws cX1_draws 1 (some .int) :: AW) ({ frames := 0, cells := 0, slots := 0, locals := 0 } : Room) (PcW D [(hx, .inr (1, [.ref hr0, .ref hq0, .null, .int (ii sec), .int (ii dr)]))] [] [.ref hx]) (QcV (some (.int (ii dr)))) 0 0 (fun _ => False) := by
  refine mt_W (by decide +kernel) (Nat.le_of_ble_eq_true rfl) ?_
  intro P0 E0 S0 M0 A0 B0 T0 K0 C hN hP hK hr hk ls hl
  have hl : lv_has ls 1 [(0, .ref hx)] := hl
  refine lv_aload_n C.1 C.2.1 dX1_draws_0 rfl (lv_at hl 0 rfl) ?_
  refine gf C hK hP 0 rfl rfl aw_uX1 4 (by decide) aw_f_X1_30 rfl dX1_draws_1 ?_
  exact rt_i C hr hk dX1_draws_4 rfl
set_option maxRecDepth 100000 in
set_option maxHeartbeats 4000000 in
theorem c_draws_c (l : Launch) (D : va_G) (hx hr0 hq0 hc : Nat) (sec dr : Int) : Met l yX1_draws (Cond.code yX1_draws cX1_draws 1 (some .int) :: AW) ({ frames := 0, cells := 0, slots := 0, locals := 0 } : Room) (PcW D [(hx, .inr (1, [.ref hr0, .ref hq0, .ref hc, .int (ii sec), .int (ii dr)]))] [] [.ref hx]) (QcV (some (.int (ii dr)))) 0 0 (fun _ => False) := by
  refine mt_W (by decide +kernel) (Nat.le_of_ble_eq_true rfl) ?_
  intro P0 E0 S0 M0 A0 B0 T0 K0 C hN hP hK hr hk ls hl
  have hl : lv_has ls 1 [(0, .ref hx)] := hl
  refine lv_aload_n C.1 C.2.1 dX1_draws_0 rfl (lv_at hl 0 rfl) ?_
  refine gf C hK hP 0 rfl rfl aw_uX1 4 (by decide) aw_f_X1_30 rfl dX1_draws_1 ?_
  exact rt_i C hr hk dX1_draws_4 rfl
end
section
/-! The class: x, y, code, verify, accepts. By wip/whole/tools/gen8.py. -/
def pxF (P : Option (Nat × Nat)) : Int := match P with
  | none => -1
  | some q => (q.1 : Int)
def pyF (P : Option (Nat × Nat)) : Int := match P with
  | none => -1
  | some q => (q.2 : Int)
def cdF (P : Option (Nat × Nat)) (b : Bool) : Int := match P with
  | none => 0
  | some q => if b then (2 + (q.2 : Int) % 2) * 65536 + (q.1 : Int) else 17179869184 + ((q.1 : Int) * 65536 + (q.2 : Int))
theorem fiF_b (p a n : Nat) (G P : Option (Nat × Nat)) (z r s : Int) : fiF p a n G P z r s = 0 ∨ fiF p a n G P z r s = 1 := by
  unfold fiF
  repeat' split
  all_goals first | exact Or.inl rfl | exact Or.inr rfl
/-- a point out of its int -/
def ofC (k : Int) : Option (Nat × Nat) := if k < 0 then none else some ((k / 65536).toNat, (k % 65536).toNat)
theorem ofC_of {x y : Nat} (hy : y < 65536) : ofC ((x : Int) * 65536 + y) = some (x, y) := by
  unfold ofC
  rw [if_neg (by omega)]
  have e1 : (((x : Int) * 65536 + y) / 65536).toNat = x := by omega
  have e2 : (((x : Int) * 65536 + y) % 65536).toNat = y := by omega
  rw [e1, e2]
theorem lrF_hit {p v : Nat} : ∀ (f y : Nat), lrF p v f y ≠ -1 → ∃ t : Nat, lrF p v f y = t ∧ t * t % p = v
  | 0, _, h => absurd rfl h
  | f + 1, y, h => by
    rw [lrF_s] at h ⊢
    split at h
    · exact absurd rfl h
    · rw [if_neg (by assumption)]
      split at h
      · rw [if_pos (by assumption)]
        exact ⟨y, rfl, by assumption⟩
      · rw [if_neg (by assumption)]
        exact lrF_hit f (y + 1) h
/-- what was read is a point of the curve, or nothing -/
theorem pbF_pt {p a b : Nat} (hp : 5 ≤ p ∧ p ≤ 1021) (h0 : ∀ x, x < p → cub p a b x ≠ 0) (k z : Int) (h : pbF p a b k z ≠ -2) : ecd (ofC (pbF p a b k z)) = pbF p a b k z ∧ sm2 p (ofC (pbF p a b k z)) := by
  have fin : ∀ x y : Nat, x < p → y < p → ∀ v : Int, v = (x : Int) * 65536 + y → ecd (ofC v) = v ∧ sm2 p (ofC v) := by
    intro x y hx hy v hv
    subst hv
    rw [ofC_of (by omega)]
    exact ⟨rfl, fun u w e => by cases e; exact ⟨hx, hy⟩⟩
  unfold pbF at h ⊢
  split at h
  · rw [if_pos (by assumption)]
    split at h
    · rw [if_pos (by assumption)]
      exact ⟨rfl, sm2_none p⟩
    · exact absurd rfl h
  · rw [if_neg (by assumption)]
    split at h
    · rw [if_pos (by assumption)]
      unfold psF at h ⊢
      obtain ⟨x, hx⟩ := Int.eq_ofNat_of_zero_le (show 0 ≤ z % 65536 by omega)
      rw [hx, Int.toNat_natCast] at h ⊢
      split at h
      · rw [if_pos (by assumption)]
        split at h
        · rename_i hxp
          rw [if_pos hxp]
          split at h
          · exact absurd rfl h
          · rename_i hl
            rw [if_neg hl]
            obtain ⟨t, e, ht⟩ := lrF_hit 1100 0 hl
            have b1 := lrF_b (p := p) (cub p a b x) 1100 0
            have t0 : t ≠ 0 := by
              intro z0
              subst z0
              exact h0 x (by omega) (by rw [← ht]; simp)
            rw [e] at b1 ⊢
            split
            · exact fin x t (by omega) (by omega) _ rfl
            · refine fin x (p - t) (by omega) (by omega) _ ?_
              omega
        · exact absurd rfl h
      · exact absurd rfl h
    · rw [if_neg (by assumption)]
      split at h
      · rw [if_pos (by assumption)]
        unfold ppF at h ⊢
        split at h
        · rw [if_pos (by assumption)]
          split at h
          · exact absurd rfl h
          · rename_i hh
            rw [if_neg hh]
            unfold hoF at hh
            have q1 : z / 65536 % 65536 < p ∧ z % 65536 < p := by
              split at hh
              · exact absurd rfl hh
              · split at hh
                · exact absurd rfl hh
                · split at hh
                  · exact absurd rfl hh
                  · split at hh
                    · exact absurd rfl hh
                    · omega
            refine fin (z / 65536 % 65536).toNat (z % 65536).toNat (by omega) (by omega) _ ?_
            omega
        · exact absurd rfl h
      · exact absurd rfl h
set_option maxRecDepth 100000 in
set_option maxHeartbeats 4000000 in
theorem c_X1_x (l : Launch) (hL : l.stackTraces = false) (D : va_G) (z0 : Nat) (hx hr0 hq0 : Nat) (tk : Value) (sec dr : Int) (cI : ClassId) (P : Nat → Option (Nat × Nat)) (hPs : ∀ j, sm2 1021 (P j)) (r : Int) (hr1 : rg r) : vx_Met l yX1_x (Cond.code yX1_x cX1_x 2 (some .int) :: AW) ({ frames := 7, cells := 1, slots := 6, locals := 130 } : Room) (PcX D z0 [(hx, .inr (1, [.ref hr0, .ref hq0, tk, .int (ii sec), .int (ii dr)])), (hr0, .inl (cI, 4, .inl (fun j => ii (ecd (P j)))))] [(cI, .int)] [.ref hx, .int (ii r)]) (QcP (some (.int (ii (pxF (P r.toNat))))) (okr r)) (XcP "java/lang/IndexOutOfBoundsException" (¬ okr r)) 1 6 (fun _ => False) := by
  refine mt_X (by decide +kernel) (Nat.le_of_ble_eq_true rfl) ?_
  intro P0 E0 S0 M0 A0 B0 T0 K0 C hN hZ hP hK hr hk hex ls hl
  have hl : lv_has ls 2 [(0, .ref hx), (1, .int (ii r))] := hl
  refine lv_iload_n C.1 C.2.1 dX1_x_0 rfl (lv_at hl 1 rfl) ?_
  refine cx_S (As := [.int (ii r)]) (rest := []) C (c_check l hL D z0 r hr1) (pcx_pre _ hN hZ (hP.sub (ws' := []) [] rfl) (hK.sub (tys' := []) [] rfl)) aw_b_X1_checkRegister aw_m_X1_66 aw_s_X1_checkRegister aw_i_X1 ⟨rfl, rfl⟩ 1 (by decide +kernel) rfl ⟨by decide, by decide⟩ hl.1 rfl (Nat.le_of_ble_eq_true rfl) dX1_x_1 ⟨by decide, by decide⟩ (fun hw H1 q9 ce z1 z2 z3 z4 z5 => ?_) (fun ho => ?_)
  · exact ox_P hex hk z3 z4 z5 rfl hw z1 z2 (fun q h => by cases h) (by decide) (by decide)
  unfold okr at ho
  have bP := ecd_b (Nat.le_refl 1021) (hPs r.toNat)
  refine lv_aload_n C.1 C.2.1 dX1_x_4 rfl (lv_at hl 0 rfl) ?_
  refine gf C hK hP 0 rfl rfl aw_uX1 0 (by decide) aw_f_X1_9 rfl dX1_x_5 ?_
  refine lv_iload_n C.1 C.2.1 dX1_x_8 rfl (lv_at hl 1 rfl) ?_
  refine i_ald C hK hP 1 0 rfl rfl r.toNat (by omega) (by omega) (by omega) dX1_x_9 ?_
  refine i_const C dX1_x_10 ?_
  refine i_icmp_ne (tgt := 18) C dX1_x_11 (by decide) ⟨by omega, by omega⟩ ⟨by omega, by omega⟩ (fun h1 => ?_) (fun h1 => ?_)
  · refine lv_aload_n C.1 C.2.1 dX1_x_18 rfl (lv_at hl 0 rfl) ?_
    refine gf C hK hP 0 rfl rfl aw_uX1 0 (by decide) aw_f_X1_9 rfl dX1_x_19 ?_
    refine lv_iload_n C.1 C.2.1 dX1_x_22 rfl (lv_at hl 1 rfl) ?_
    refine i_ald C hK hP 1 0 rfl rfl r.toNat (by omega) (by omega) (by omega) dX1_x_23 ?_
    rcases hq : P r.toNat with _ | ⟨x, y⟩
    · rw [hq] at h1
      exact absurd rfl h1
    · obtain ⟨x0, y0⟩ := hPs r.toNat x y hq
      refine ca_S (As := [.int (ii ((x : Int) * 65536 + (y : Int)))]) (rest := []) C (c_X1_xOf l (x : Int) (y : Int) ⟨by omega, by omega⟩ ⟨by omega, by omega⟩) (pcn_pre _ hN) aw_b_X1_xOf aw_m_X1_89 aw_s_X1_xOf aw_i_X1 ⟨rfl, rfl⟩ 1 (by decide +kernel) rfl ⟨by decide, by decide⟩ hl.1 rfl (Nat.le_of_ble_eq_true rfl) dX1_x_24 ⟨by decide, by decide⟩ ?_
      exact px_i C hr hk ho dX1_x_27 rfl (by decide) (by decide)
  · have hq : P r.toNat = none := by
      rcases hq : P r.toNat with _ | ⟨x, y⟩
      · rfl
      · rw [hq] at h1
        have h1 := Classical.not_not.mp h1
        have h1 : (x : Int) * 65536 + (y : Int) = -1 := h1
        omega
    rw [hq]
    refine i_const C dX1_x_14 ?_
    refine lv_goto (tgt := 27) C.1 C.2.1 dX1_x_15 (by decide) ?_
    exact px_i C hr hk ho dX1_x_27 rfl (by decide) (by decide)
set_option maxRecDepth 100000 in
set_option maxHeartbeats 4000000 in
theorem c_X1_y (l : Launch) (hL : l.stackTraces = false) (D : va_G) (z0 : Nat) (hx hr0 hq0 : Nat) (tk : Value) (sec dr : Int) (cI : ClassId) (P : Nat → Option (Nat × Nat)) (hPs : ∀ j, sm2 1021 (P j)) (r : Int) (hr1 : rg r) : vx_Met l yX1_y (Cond.code yX1_y cX1_y 2 (some .int) :: AW) ({ frames := 7, cells := 1, slots := 6, locals := 130 } : Room) (PcX D z0 [(hx, .inr (1, [.ref hr0, .ref hq0, tk, .int (ii sec), .int (ii dr)])), (hr0, .inl (cI, 4, .inl (fun j => ii (ecd (P j)))))] [(cI, .int)] [.ref hx, .int (ii r)]) (QcP (some (.int (ii (pyF (P r.toNat))))) (okr r)) (XcP "java/lang/IndexOutOfBoundsException" (¬ okr r)) 1 6 (fun _ => False) := by
  refine mt_X (by decide +kernel) (Nat.le_of_ble_eq_true rfl) ?_
  intro P0 E0 S0 M0 A0 B0 T0 K0 C hN hZ hP hK hr hk hex ls hl
  have hl : lv_has ls 2 [(0, .ref hx), (1, .int (ii r))] := hl
  refine lv_iload_n C.1 C.2.1 dX1_y_0 rfl (lv_at hl 1 rfl) ?_
  refine cx_S (As := [.int (ii r)]) (rest := []) C (c_check l hL D z0 r hr1) (pcx_pre _ hN hZ (hP.sub (ws' := []) [] rfl) (hK.sub (tys' := []) [] rfl)) aw_b_X1_checkRegister aw_m_X1_66 aw_s_X1_checkRegister aw_i_X1 ⟨rfl, rfl⟩ 1 (by decide +kernel) rfl ⟨by decide, by decide⟩ hl.1 rfl (Nat.le_of_ble_eq_true rfl) dX1_y_1 ⟨by decide, by decide⟩ (fun hw H1 q9 ce z1 z2 z3 z4 z5 => ?_) (fun ho => ?_)
  · exact ox_P hex hk z3 z4 z5 rfl hw z1 z2 (fun q h => by cases h) (by decide) (by decide)
  unfold okr at ho
  have bP := ecd_b (Nat.le_refl 1021) (hPs r.toNat)
  refine lv_aload_n C.1 C.2.1 dX1_y_4 rfl (lv_at hl 0 rfl) ?_
  refine gf C hK hP 0 rfl rfl aw_uX1 0 (by decide) aw_f_X1_9 rfl dX1_y_5 ?_
  refine lv_iload_n C.1 C.2.1 dX1_y_8 rfl (lv_at hl 1 rfl) ?_
  refine i_ald C hK hP 1 0 rfl rfl r.toNat (by omega) (by omega) (by omega) dX1_y_9 ?_
  refine i_const C dX1_y_10 ?_
  refine i_icmp_ne (tgt := 18) C dX1_y_11 (by decide) ⟨by omega, by omega⟩ ⟨by omega, by omega⟩ (fun h1 => ?_) (fun h1 => ?_)
  · refine lv_aload_n C.1 C.2.1 dX1_y_18 rfl (lv_at hl 0 rfl) ?_
    refine gf C hK hP 0 rfl rfl aw_uX1 0 (by decide) aw_f_X1_9 rfl dX1_y_19 ?_
    refine lv_iload_n C.1 C.2.1 dX1_y_22 rfl (lv_at hl 1 rfl) ?_
    refine i_ald C hK hP 1 0 rfl rfl r.toNat (by omega) (by omega) (by omega) dX1_y_23 ?_
    rcases hq : P r.toNat with _ | ⟨x, y⟩
    · rw [hq] at h1
      exact absurd rfl h1
    · obtain ⟨x0, y0⟩ := hPs r.toNat x y hq
      refine ca_S (As := [.int (ii ((x : Int) * 65536 + (y : Int)))]) (rest := []) C (c_X1_yOf l (x : Int) (y : Int) ⟨by omega, by omega⟩ ⟨by omega, by omega⟩) (pcn_pre _ hN) aw_b_X1_yOf aw_m_X1_93 aw_s_X1_yOf aw_i_X1 ⟨rfl, rfl⟩ 1 (by decide +kernel) rfl ⟨by decide, by decide⟩ hl.1 rfl (Nat.le_of_ble_eq_true rfl) dX1_y_24 ⟨by decide, by decide⟩ ?_
      exact px_i C hr hk ho dX1_y_27 rfl (by decide) (by decide)
  · have hq : P r.toNat = none := by
      rcases hq : P r.toNat with _ | ⟨x, y⟩
      · rfl
      · rw [hq] at h1
        have h1 := Classical.not_not.mp h1
        have h1 : (x : Int) * 65536 + (y : Int) = -1 := h1
        omega
    rw [hq]
    refine i_const C dX1_y_14 ?_
    refine lv_goto (tgt := 27) C.1 C.2.1 dX1_y_15 (by decide) ?_
    exact px_i C hr hk ho dX1_y_27 rfl (by decide) (by decide)
set_option maxRecDepth 100000 in
set_option maxHeartbeats 4000000 in
theorem c_X1_code (l : Launch) (hL : l.stackTraces = false) (D : va_G) (z0 : Nat) (hx hr0 hq0 : Nat) (tk : Value) (sec dr : Int) (cI : ClassId) (P : Nat → Option (Nat × Nat)) (hPs : ∀ j, sm2 1021 (P j)) (r : Int) (hr1 : rg r) (k : Int) (hk1 : k = 0 ∨ k = 1) : vx_Met l yX1_code (Cond.code yX1_code cX1_code 4 (some .long) :: AW) ({ frames := 7, cells := 1, slots := 6, locals := 130 } : Room) (PcX D z0 [(hx, .inr (1, [.ref hr0, .ref hq0, tk, .int (ii sec), .int (ii dr)])), (hr0, .inl (cI, 4, .inl (fun j => ii (ecd (P j)))))] [(cI, .int)] [.ref hx, .int (ii r), .int (ii k)]) (QcP (some (.long (li (cdF (P r.toNat) (decide (k = 1)))))) (okr r)) (XcP "java/lang/IndexOutOfBoundsException" (¬ okr r)) 1 6 (fun _ => False) := by
  refine mt_X (by decide +kernel) (Nat.le_of_ble_eq_true rfl) ?_
  intro P0 E0 S0 M0 A0 B0 T0 K0 C hN hZ hP hK hr hk hex ls hl
  have hl : lv_has ls 4 [(0, .ref hx), (1, .int (ii r)), (2, .int (ii k))] := hl
  refine lv_iload_n C.1 C.2.1 dX1_code_0 rfl (lv_at hl 1 rfl) ?_
  refine cx_S (As := [.int (ii r)]) (rest := []) C (c_check l hL D z0 r hr1) (pcx_pre _ hN hZ (hP.sub (ws' := []) [] rfl) (hK.sub (tys' := []) [] rfl)) aw_b_X1_checkRegister aw_m_X1_66 aw_s_X1_checkRegister aw_i_X1 ⟨rfl, rfl⟩ 1 (by decide +kernel) rfl ⟨by decide, by decide⟩ hl.1 rfl (Nat.le_of_ble_eq_true rfl) dX1_code_1 ⟨by decide, by decide⟩ (fun hw H1 q9 ce z1 z2 z3 z4 z5 => ?_) (fun ho => ?_)
  · exact ox_P hex hk z3 z4 z5 rfl hw z1 z2 (fun q h => by cases h) (by decide) (by decide)
  unfold okr at ho
  have bP := ecd_b (Nat.le_refl 1021) (hPs r.toNat)
  refine lv_aload_n C.1 C.2.1 dX1_code_4 rfl (lv_at hl 0 rfl) ?_
  refine gf C hK hP 0 rfl rfl aw_uX1 0 (by decide) aw_f_X1_9 rfl dX1_code_5 ?_
  refine lv_iload_n C.1 C.2.1 dX1_code_8 rfl (lv_at hl 1 rfl) ?_
  refine i_ald C hK hP 1 0 rfl rfl r.toNat (by omega) (by omega) (by omega) dX1_code_9 ?_
  refine lv_istore_n C.1 C.2.1 dX1_code_10 rfl hl (by decide) rfl (fun ls hl => ?_)
  have hl : lv_has ls 4 [(3, .int (ii (ecd (P r.toNat)))), (0, .ref hx), (1, .int (ii r)), (2, .int (ii k))] := hl
  refine lv_iload_n C.1 C.2.1 dX1_code_11 rfl (lv_at hl 0 rfl) ?_
  refine i_const C dX1_code_12 ?_
  refine i_icmp_ne (tgt := 18) C dX1_code_13 (by decide) ⟨by omega, by omega⟩ ⟨by omega, by omega⟩ (fun h1 => ?_) (fun h1 => ?_)
  · rcases hq : P r.toNat with _ | ⟨x, y⟩
    · rw [hq] at h1
      exact absurd rfl h1
    · obtain ⟨x0, y0⟩ := hPs r.toNat x y hq
      rw [hq] at hl
      have hl : lv_has ls 4 [(3, .int (ii ((x : Int) * 65536 + (y : Int)))), (0, .ref hx), (1, .int (ii r)), (2, .int (ii k))] := hl
      refine lv_iload_n C.1 C.2.1 dX1_code_18 rfl (lv_at hl 3 rfl) ?_
      refine i_if_eq (tgt := 29) C dX1_code_19 (by decide) ⟨by omega, by omega⟩ (fun h2 => ?_) (fun h2 => ?_)
      · have e : decide (k = 1) = false := by rw [decide_eq_false_iff_not]; omega
        rw [e]
        refine lv_iload_n C.1 C.2.1 dX1_code_29 rfl (lv_at hl 0 rfl) ?_
        refine ca_S (As := [.int (ii ((x : Int) * 65536 + (y : Int)))]) (rest := []) C (c_X1_plainNumber l ((x : Int) * 65536 + (y : Int)) ⟨by omega, by omega⟩) (pcn_pre _ hN) aw_b_X1_plainNumber aw_m_X1_100 aw_s_X1_plainNumber aw_i_X1 ⟨rfl, rfl⟩ 1 (by decide +kernel) rfl ⟨by decide, by decide⟩ hl.1 rfl (Nat.le_of_ble_eq_true rfl) dX1_code_30 ⟨by decide, by decide⟩ ?_
        exact px_l C hr hk ho dX1_code_33 rfl (by decide) (by decide)
      · have e : decide (k = 1) = true := by rw [decide_eq_true_iff]; omega
        rw [e]
        refine lv_iload_n C.1 C.2.1 dX1_code_22 rfl (lv_at hl 0 rfl) ?_
        refine ca_S (As := [.int (ii ((x : Int) * 65536 + (y : Int)))]) (rest := []) C (c_X1_shortNumber l x y x0 y0) (pcn_pre _ hN) aw_b_X1_shortNumber aw_m_X1_96 aw_s_X1_shortNumber aw_i_X1 ⟨rfl, rfl⟩ 1 (by decide +kernel) rfl ⟨by decide, by decide⟩ hl.1 rfl (Nat.le_of_ble_eq_true rfl) dX1_code_23 ⟨by decide, by decide⟩ ?_
        refine lv_goto (tgt := 33) C.1 C.2.1 dX1_code_26 (by decide) ?_
        exact px_l C hr hk ho dX1_code_33 rfl (by decide) (by decide)
  · have hq : P r.toNat = none := by
      rcases hq : P r.toNat with _ | ⟨x, y⟩
      · rfl
      · rw [hq] at h1
        have h1 := Classical.not_not.mp h1
        have h1 : (x : Int) * 65536 + (y : Int) = -1 := h1
        omega
    rw [hq]
    refine l_const0 C dX1_code_16 ?_
    exact px_l C hr hk ho dX1_code_17 rfl (by decide) (by decide)
set_option maxRecDepth 100000 in
set_option maxHeartbeats 4000000 in
theorem c_X1_verify (l : Launch) (hL : l.stackTraces = false) (D : va_G) (z0 : Nat) (hx hr0 hq0 hc : Nat) (sec dr : Int) (cI : ClassId) (P : Nat → Option (Nat × Nat)) (p a b n : Nat) (G : Option (Nat × Nat)) (hp : 5 ≤ p ∧ p ≤ 1021) (ha : a < p) (hb : b < p) (hn : 2 ≤ n ∧ n ≤ 1100) (hG : sm2 p G) (hPs : ∀ j, sm2 p (P j)) (q : Int) (hq1 : rg q) (z r s : Int) (hz : rl z) (hr1 : rg r) (hs1 : rg s) : vx_Met l yX1_verify (Cond.code yX1_verify cX1_verify 7 (some .boolean) :: AW) ({ frames := 7, cells := 1, slots := 6, locals := 160 } : Room) (PcX D z0 [(hx, .inr (1, [.ref hr0, .ref hq0, .ref hc, .int (ii sec), .int (ii dr)])), (hr0, .inl (cI, 4, .inl (fun j => ii (ecd (P j))))), (hc, .inr (0, [.int (ii (p : Int)), .int (ii (a : Int)), .int (ii (b : Int)), .int (ii (n : Int)), .int (ii (ecd G))]))] [(cI, .int)] [.ref hx, .int (ii q), .long (li z), .int (ii r), .int (ii s)]) (QcP (some (.int (ii (fiF p a n G (P q.toNat) z r s)))) (okr q)) (XcP "java/lang/IndexOutOfBoundsException" (¬ okr q)) 1 6 (fun _ => False) := by
  refine mt_X (by decide +kernel) (Nat.le_of_ble_eq_true rfl) ?_
  intro P0 E0 S0 M0 A0 B0 T0 K0 C hN hZ hP hK hr hk hex ls hl
  have hl : lv_has ls 7 [(0, .ref hx), (1, .int (ii q)), (2, .long (li z)), (4, .int (ii r)), (5, .int (ii s))] := hl
  refine lv_aload_n C.1 C.2.1 dX1_verify_0 rfl (lv_at hl 0 rfl) ?_
  refine ca_V (As := []) (rest := []) C (c_taken_c l D hx hr0 hq0 hc sec dr) (pcw_preV [] hN (hP.sub (ws' := [(hx, .inr (1, [.ref hr0, .ref hq0, .ref hc, .int (ii sec), .int (ii dr)]))]) [0] rfl) (hK.sub (tys' := []) [] rfl) 0 (ci := 1) rfl rfl) aw_b_X1_takenCurve aw_m_X1_62 aw_v_X1_takenCurve aw_i_X1 aw_e_X1_takenCurve ⟨rfl, rfl⟩ 0 (by decide +kernel) rfl ⟨by decide, by decide⟩ hl.1 rfl (Nat.le_of_ble_eq_true rfl) dX1_verify_1 ⟨by decide, by decide⟩ ?_
  refine lv_astore C.1 C.2.1 dX1_verify_4 hl (by decide) rfl (fun ls hl => ?_)
  have hl : lv_has ls 7 [(6, .ref hc), (0, .ref hx), (1, .int (ii q)), (2, .long (li z)), (4, .int (ii r)), (5, .int (ii s))] := hl
  refine lv_iload_n C.1 C.2.1 dX1_verify_6 rfl (lv_at hl 2 rfl) ?_
  refine cx_S (As := [.int (ii q)]) (rest := []) C (c_check l hL D z0 q hq1) (pcx_pre _ hN hZ (hP.sub (ws' := []) [] rfl) (hK.sub (tys' := []) [] rfl)) aw_b_X1_checkRegister aw_m_X1_66 aw_s_X1_checkRegister aw_i_X1 ⟨rfl, rfl⟩ 1 (by decide +kernel) rfl ⟨by decide, by decide⟩ hl.1 rfl (Nat.le_of_ble_eq_true rfl) dX1_verify_7 ⟨by decide, by decide⟩ (fun hw H1 q9 ce z1 z2 z3 z4 z5 => ?_) (fun ho => ?_)
  · exact ox_P hex hk z3 z4 z5 rfl hw z1 z2 (fun q h => by cases h) (by decide) (by decide)
  unfold okr at ho
  refine lv_aload C.1 C.2.1 dX1_verify_10 (lv_at hl 0 rfl) ?_
  refine lv_aload_n C.1 C.2.1 dX1_verify_12 rfl (lv_at hl 1 rfl) ?_
  refine gf C hK hP 0 rfl rfl aw_uX1 0 (by decide) aw_f_X1_9 rfl dX1_verify_13 ?_
  refine lv_iload_n C.1 C.2.1 dX1_verify_16 rfl (lv_at hl 2 rfl) ?_
  refine i_ald C hK hP 1 0 rfl rfl q.toNat (by omega) (by omega) (by omega) dX1_verify_17 ?_
  refine lv_lload_n C.1 C.2.1 dX1_verify_18 rfl (lv_at hl 3 rfl) ?_
  refine lv_iload C.1 C.2.1 dX1_verify_19 (lv_at hl 4 rfl) ?_
  refine lv_iload C.1 C.2.1 dX1_verify_21 (lv_at hl 5 rfl) ?_
  refine ca_V (As := [.int (ii (ecd (P q.toNat))), .long (li z), .int (ii r), .int (ii s)]) (rest := []) C (c_X0_fits l D hc p a b n G hp ha hb hn hG (P q.toNat) (hPs q.toNat) z r s hz hr1 hs1) (pcw_preV [.int (ii (ecd (P q.toNat))), .long (li z), .int (ii r), .int (ii s)] hN (hP.sub (ws' := [(hc, .inr (0, [.int (ii (p : Int)), .int (ii (a : Int)), .int (ii (b : Int)), .int (ii (n : Int)), .int (ii (ecd G))]))]) [2] rfl) (hK.sub (tys' := []) [] rfl) 0 (ci := 0) rfl rfl) aw_b_X0_fits aw_m_X1_139 aw_v_X0_fits aw_i_X0 aw_e_X0_fits ⟨rfl, rfl⟩ 4 (by decide +kernel) rfl ⟨by decide, by decide⟩ hl.1 rfl (Nat.le_of_ble_eq_true rfl) dX1_verify_23 ⟨by decide, by decide⟩ ?_
  exact px_z C hr hk ho dX1_verify_26 (fiF_b _ _ _ _ _ _ _ _) rfl (by decide) (by decide)
def acF (p a b n : Nat) (G : Option (Nat × Nat)) (k m z r s : Int) : Int := if pbF p a b k m = -2 then 0 else fiF p a n G (ofC (pbF p a b k m)) z r s
set_option maxRecDepth 100000 in
set_option maxHeartbeats 4000000 in
theorem c_X1_accepts (l : Launch) (hL : l.stackTraces = false) (D : va_G) (z0 : Nat) (hx hr0 hq0 hc : Nat) (sec dr : Int) (cI : ClassId) (P : Nat → Option (Nat × Nat)) (p a b n : Nat) (G : Option (Nat × Nat)) (hp : 5 ≤ p ∧ p ≤ 1021) (ha : a < p) (hb : b < p) (hn : 2 ≤ n ∧ n ≤ 1100) (hG : sm2 p G) (h0 : ∀ x, x < p → cub p a b x ≠ 0) (k m z r s : Int) (hk1 : rg k) (hm : rl m) (hz : rl z) (hr1 : rg r) (hs1 : rg s) : vx_Met l yX1_accepts (Cond.code yX1_accepts cX1_accepts 10 (some .boolean) :: AW) ({ frames := 7, cells := 1, slots := 6, locals := 160 } : Room) (PcX D z0 [(hx, .inr (1, [.ref hr0, .ref hq0, .ref hc, .int (ii sec), .int (ii dr)])), (hr0, .inl (cI, 4, .inl (fun j => ii (ecd (P j))))), (hc, .inr (0, [.int (ii (p : Int)), .int (ii (a : Int)), .int (ii (b : Int)), .int (ii (n : Int)), .int (ii (ecd G))]))] [(cI, .int)] [.ref hx, .int (ii k), .long (li m), .long (li z), .int (ii r), .int (ii s)]) (QcP (some (.int (ii (acF p a b n G k m z r s)))) True) (XcP "java/lang/IllegalStateException" False) 1 6 (fun _ => False) := by
  refine mt_X (by decide +kernel) (Nat.le_of_ble_eq_true rfl) ?_
  intro P0 E0 S0 M0 A0 B0 T0 K0 C hN hZ hP hK hr hk hex ls hl
  have hl : lv_has ls 10 [(0, .ref hx), (1, .int (ii k)), (2, .long (li m)), (4, .long (li z)), (6, .int (ii r)), (7, .int (ii s))] := hl
  generalize hV : acF p a b n G k m z r s = V
  unfold acF at hV
  have pt := pbF_pt hp h0 k m
  refine lv_aload_n C.1 C.2.1 dX1_accepts_0 rfl (lv_at hl 0 rfl) ?_
  refine ca_V (As := []) (rest := []) C (c_taken_c l D hx hr0 hq0 hc sec dr) (pcw_preV [] hN (hP.sub (ws' := [(hx, .inr (1, [.ref hr0, .ref hq0, .ref hc, .int (ii sec), .int (ii dr)]))]) [0] rfl) (hK.sub (tys' := []) [] rfl) 0 (ci := 1) rfl rfl) aw_b_X1_takenCurve aw_m_X1_62 aw_v_X1_takenCurve aw_i_X1 aw_e_X1_takenCurve ⟨rfl, rfl⟩ 0 (by decide +kernel) rfl ⟨by decide, by decide⟩ hl.1 rfl (Nat.le_of_ble_eq_true rfl) dX1_accepts_1 ⟨by decide, by decide⟩ ?_
  refine lv_astore C.1 C.2.1 dX1_accepts_4 hl (by decide) rfl (fun ls hl => ?_)
  have hl : lv_has ls 10 [(8, .ref hc), (0, .ref hx), (1, .int (ii k)), (2, .long (li m)), (4, .long (li z)), (6, .int (ii r)), (7, .int (ii s))] := hl
  refine lv_aload C.1 C.2.1 dX1_accepts_6 (lv_at hl 0 rfl) ?_
  refine lv_iload_n C.1 C.2.1 dX1_accepts_8 rfl (lv_at hl 2 rfl) ?_
  refine lv_lload_n C.1 C.2.1 dX1_accepts_9 rfl (lv_at hl 3 rfl) ?_
  refine ca_V (As := [.int (ii k), .long (li m)]) (rest := []) C (c_X0_pointOfBytes l D hc p a b n (ecd G) hp ha hb k m hk1 hm) (pcw_preV [.int (ii k), .long (li m)] hN (hP.sub (ws' := [(hc, .inr (0, [.int (ii (p : Int)), .int (ii (a : Int)), .int (ii (b : Int)), .int (ii (n : Int)), .int (ii (ecd G))]))]) [2] rfl) (hK.sub (tys' := []) [] rfl) 0 (ci := 0) rfl rfl) aw_b_X0_pointOfBytes aw_m_X1_103 aw_v_X0_pointOfBytes aw_i_X0 aw_e_X0_pointOfBytes ⟨rfl, rfl⟩ 2 (by decide +kernel) rfl ⟨by decide, by decide⟩ hl.1 rfl (Nat.le_of_ble_eq_true rfl) dX1_accepts_10 ⟨by decide, by decide⟩ ?_
  have bd : -2 ≤ pbF p a b k m ∧ pbF p a b k m ≤ 66912255 := by
    by_cases q : pbF p a b k m = -2
    · omega
    · obtain ⟨e1, e2⟩ := pt q
      have := ecd_b hp.2 e2
      omega
  generalize pbF p a b k m = u at pt hV bd ⊢
  refine lv_istore C.1 C.2.1 dX1_accepts_13 hl (by decide) rfl (fun ls hl => ?_)
  have hl : lv_has ls 10 [(9, .int (ii u)), (8, .ref hc), (0, .ref hx), (1, .int (ii k)), (2, .long (li m)), (4, .long (li z)), (6, .int (ii r)), (7, .int (ii s))] := hl
  refine lv_iload C.1 C.2.1 dX1_accepts_15 (lv_at hl 0 rfl) ?_
  refine i_bipush C dX1_accepts_17 (by decide +kernel) ?_
  refine i_icmp_eq (tgt := 42) C dX1_accepts_19 (by decide) ⟨by omega, by omega⟩ ⟨by omega, by omega⟩ (fun h1 => ?_) (fun h1 => ?_)
  · rw [if_pos h1] at hV
    refine i_const C dX1_accepts_42 ?_
    subst hV
    exact px_z C hr hk trivial dX1_accepts_43 (Or.inl rfl) rfl (by decide) (by decide)
  · rw [if_neg h1] at hV
    obtain ⟨e1, e2⟩ := pt h1
    have fb := fiF_b p a n G (ofC u) z r s
    refine lv_aload C.1 C.2.1 dX1_accepts_22 (lv_at hl 1 rfl) ?_
    refine lv_iload C.1 C.2.1 dX1_accepts_24 (lv_at hl 0 rfl) ?_
    refine i_top (b := ecd (ofC u)) e1.symm ?_
    refine lv_lload C.1 C.2.1 dX1_accepts_26 (lv_at hl 5 rfl) ?_
    refine lv_iload C.1 C.2.1 dX1_accepts_28 (lv_at hl 6 rfl) ?_
    refine lv_iload C.1 C.2.1 dX1_accepts_30 (lv_at hl 7 rfl) ?_
    refine ca_V (As := [.int (ii (ecd (ofC u))), .long (li z), .int (ii r), .int (ii s)]) (rest := []) C (c_X0_fits l D hc p a b n G hp ha hb hn hG (ofC u) e2 z r s hz hr1 hs1) (pcw_preV [.int (ii (ecd (ofC u))), .long (li z), .int (ii r), .int (ii s)] hN (hP.sub (ws' := [(hc, .inr (0, [.int (ii (p : Int)), .int (ii (a : Int)), .int (ii (b : Int)), .int (ii (n : Int)), .int (ii (ecd G))]))]) [2] rfl) (hK.sub (tys' := []) [] rfl) 0 (ci := 0) rfl rfl) aw_b_X0_fits aw_m_X1_139 aw_v_X0_fits aw_i_X0 aw_e_X0_fits ⟨rfl, rfl⟩ 4 (by decide +kernel) rfl ⟨by decide, by decide⟩ hl.1 rfl (Nat.le_of_ble_eq_true rfl) dX1_accepts_32 ⟨by decide, by decide⟩ ?_
    generalize fiF p a n G (ofC u) z r s = j at fb hV ⊢
    refine i_if_eq (tgt := 42) C dX1_accepts_35 (by decide) ⟨by omega, by omega⟩ (fun h2 => ?_) (fun h2 => ?_)
    · have hV : 0 = V := by omega
      refine i_const C dX1_accepts_42 ?_
      subst hV
      exact px_z C hr hk trivial dX1_accepts_43 (Or.inl rfl) rfl (by decide) (by decide)
    · have hV : 1 = V := by omega
      refine i_const C dX1_accepts_38 ?_
      refine lv_goto (tgt := 43) C.1 C.2.1 dX1_accepts_39 (by decide) ?_
      subst hV
      exact px_z C hr hk trivial dX1_accepts_43 (Or.inr rfl) rfl (by decide) (by decide)
end
section
/-! Methods that write: worlds before and behind. -/
/-- the world ws stands, its cells in A -/
def Wd (D : va_G) (ws : va_W) (tys : List (ClassId × FieldType)) (A : Nat → Prop) (t : State) : Prop := va_P D clX ws t.heap ∧ va_K D clX tys t ∧ va_D A ws
def PcM (D : va_G) (z0 sz : Nat) (ws : va_W) (tys : List (ClassId × FieldType)) (av : List Value) : Array Value → State → Prop := fun v U => v = av.toArray ∧ Nw U ∧ Zs z0 U U.heap ∧ U.heap.size = sz ∧ z0 ≤ sz ∧ Wd D ws tys (AZ z0) U
theorem Wd.moved {D : va_G} {ws : va_W} {tys : List (ClassId × FieldType)} {A : Nat → Prop} {u U : State} (hvm : u.vm.Alike U.vm) (hh : U.heap = u.heap) (h : Wd D ws tys A u) : Wd D ws tys A U := ⟨by rw [hh]; exact h.1, va_K.moved hvm h.2.1, h.2.2⟩
theorem pcm_blind (D : va_G) (z0 sz : Nat) (ws : va_W) (tys : List (ClassId × FieldType)) (av : List Value) : FrameBlind (PcM D z0 sz ws tys av) := fun a U g mk h => ⟨h.1, Nw.same (u := U) (U := U.calling g mk a) rfl h.2.1, Zs.moved (u := U) (U := U.calling g mk a) (Vm.Alike.refl U.vm) h.2.2.1, h.2.2.2.1, h.2.2.2.2.1, Wd.moved (u := U) (U := U.calling g mk a) (Vm.Alike.refl U.vm) rfl h.2.2.2.2.2⟩
theorem pcm_pre {D : va_G} {z0 : Nat} {ws : va_W} {tys : List (ClassId × FieldType)} {s : State} {H : Heap} (As : List Value) (hN : Nw s) (hZ : Zs z0 s H) (hz : z0 ≤ H.size) (hP : va_P D clX ws H) (hK : va_K D clX tys s) (hD : va_D (AZ z0) ws) : PreS s H (PcM D z0 H.size ws tys As) As := ⟨pcm_blind D z0 H.size ws tys As, fun U hU hW => ⟨rfl, Nw.warm hW hN, by rw [hU]; exact Zs.moved hW.alike hZ, by rw [hU], hz, by rw [hU]; exact hP, va_K.moved hW.alike hK, hD⟩⟩
theorem pcm_preV {D : va_G} {z0 : Nat} {ws : va_W} {tys : List (ClassId × FieldType)} {s : State} {H : Heap} {b : Nat} (As : List Value) (hN : Nw s) (hZ : Zs z0 s H) (hz : z0 ≤ H.size) (hP : va_P D clX ws H) (hK : va_K D clX tys s) (hD : va_D (AZ z0) ws) (q0 : Nat) {ci : Nat} {q : vw_C} {fs : List Value} (hc : clX[ci]? = some q) (he : ws[q0]? = some (b, .inr (ci, fs))) : PreV s H q.1 b (PcM D z0 H.size ws tys (.ref b :: As)) As :=
  ⟨pcm_blind D z0 H.size ws tys _, va_recv hK hP hc he, fun U hU hW => ⟨rfl, Nw.warm hW hN, by rw [hU]; exact Zs.moved hW.alike hZ, by rw [hU], hz, by rw [hU]; exact hP, va_K.moved hW.alike hK, hD⟩⟩
/-- ends: what is answered, the world behind it, what stayed -/
def QcM (v : Option Value) (ok : Prop) (B : State → Prop) (A : Nat → Prop) : Array Value → State → Outcome → State → Prop := fun _ st o t => o = .returned v ∧ ok ∧ B t ∧ va_F A st t
def XcM (why : String → Prop) (B : State → Prop) (A : Nat → Prop) : String → State → State → Prop := fun E st t => why E ∧ B t ∧ va_F A st t
theorem va_S.mono {A B : Nat → Prop} {H0 H : Heap} {locs : List Loc} (h : va_S A H0 H locs) (hAB : ∀ q, A q → B q) : va_S B H0 H locs := ⟨h.1, fun q h1 h2 => h.2.1 q h1 (fun z => h2 (hAB q z)), fun z hz => hAB _ (h.2.2 z hz)⟩
theorem va_P.on {D : va_G} {cl : List vw_C} {ws : va_W} {H H1 : Heap} (hP : va_P D cl ws H) (z2 : ∀ q : Nat, q < H.size → H1[q]? = H[q]?) : va_P D cl ws H1 := hP.kept (fun k q hk => z2 q.1 (hP k q hk).lt)
theorem az_of {z0 sz : Nat} {ws : va_W} (hD : va_D (AZ z0) ws) (hz : z0 ≤ sz) : ∀ q, va_A ws sz q → z0 ≤ q := by
  intro q h
  rcases h with ⟨k, e, hk⟩ | h
  · exact hD.2 k _ hk
  · omega
theorem Zs.on {z0 : Nat} {s : State} {H : Heap} {A : Nat → Prop} {locs : List Loc} (h : Zs z0 s s.heap) (hS : va_S A s.heap H locs) (hA : ∀ q, A q → z0 ≤ q) : Zs z0 s H := h.kept (fun a h1 h2 => hS.2.1 a h1 (fun z => h2 (hA a z)))
theorem mt_M {l : Launch} {y : MethodName} {cc : ByteArray} {maxL : Nat} {ret : Option FieldType} {rm : Room} {D : va_G} {z0 sz : Nat} {ws : va_W} {tys : List (ClassId × FieldType)} {av : List Value} {Qc : Array Value → State → Outcome → State → Prop} {XC : String → State → State → Prop} {mc ms : Nat} {free : Addr → Prop} (hy : plainName y.cls = true) (hn : (lg_sl av).length ≤ maxL)
    (body : ∀ p e s m args below meth c, Cx p m c cc maxL s args y.cls → Nw s → Zs z0 s s.heap → s.heap.size = sz → z0 ≤ sz → va_P D clX ws s.heap → va_K D clX tys s → va_D (va_A ws sz) ws → (∀ q, va_A ws sz q → z0 ≤ q) → (∀ q, s.heap.size ≤ q → va_A ws sz q) → meth.sig.returnType = ret → meth.locks = false → (∀ x ∈ c.exceptionTable.toList, False) → (y.name = "<init>" → meth.name = "<init>") → ∀ ls, lv_has ls maxL (lv_args 0 av) → W p l e rm s m args below meth c s.heap [] 0 0 (vx_MQ below Qc XC args s mc ms free) (F0 m 0 ls [])) :
    vx_Met l y (Cond.code y cc maxL ret :: AW) rm (PcM D z0 sz ws tys av) Qc XC mc ms free := by
  refine vx_ofW (cc := cc) (maxL := maxL) (ret := ret) hy rfl ?_
  intro p e s m args below meth c s₁ B hml hex hv
  obtain ⟨rfl, hN, hZ, hsz, hz, hP, hK, hD⟩ := hv
  have hts := atoms_spec (ws := Cond.code y cc maxL ret :: AW) B.pre
  have hl := lv_entry av (n := maxL) hn
  rw [lg_entry_eq]
  generalize (lg_sl av ++ List.replicate (maxL - (lg_sl av).length) Slot.unset).toArray = ls at hl ⊢
  exact body p e s m _ below meth c ⟨B.exec, B.bytes, hml, findClass_of_methodNamed B.named, fun w h => hts w (List.mem_cons_of_mem _ h)⟩ hN hZ hsz hz hP hK hD.self (az_of hD hz) (fun q h => Or.inr (by omega)) B.returns B.notSynchronized hex (fun h => (name_of_methodNamed B.named B.method).1.trans h) ls hl
section WR
variable {p : Program} {l : Launch} {e : Env} {R : Room} {s : State} {m : MethodId} {args : Array Value} {below : List Frame} {meth : Method} {c : Code} {H : Heap} {locs : List Loc} {cells slots : Nat} {Q : State → Prop}
variable {cc : ByteArray} {nL pc : Nat} {own : String} {ls : Array Slot} {rest : List Value} {D : va_G} {ws : va_W} {tys : List (ClassId × FieldType)} {A : Nat → Prop} {H0 : Heap}
theorem i_ast (C : Cx p m c cc nL s args own) (hK : va_K D clX tys s) (hP : va_P D clX ws H) (hD : va_D A ws) (hS : va_S A H0 H locs) (q0 t0 : Nat) {a : Nat} {cA : ClassId} {n : Nat} {f : Nat → Int32} (ha : ws[q0]? = some (a, .inl (cA, n, .inl f))) (ht : tys[t0]? = some (cA, .int)) {i : Int} {x : Int32} (j : Nat) (hi : i = (j : Int)) (hj : j < n) (hn : n < 2147483648) (hdg : decode cc pc = .ok (.iastore, 1))
    (kk : ∀ (H1 : Heap) (locs1 : List Loc), va_P D clX (ws.set q0 (a, .inl (cA, n, .inl (va_up f j x)))) H1 → va_D A (ws.set q0 (a, .inl (cA, n, .inl (va_up f j x)))) → va_S A H0 H1 locs1 → W p l e R s m args below meth c H1 locs1 cells slots Q (F0 m (pc + 1) ls rest)) : W p l e R s m args below meth c H locs cells slots Q (F0 m pc ls (.int x :: .int (ii i) :: .ref a :: rest)) := by
  subst hi
  refine va_iast C.1 C.2.1 hK hP hD hS q0 t0 ha ht (by rw [ii_nI]; exact vp_in_nI hj (by omega)) hdg ?_
  rw [ii_nI, nI_clamp (by omega)]
  have e : upd f j x = va_up f j x := rfl
  rw [e]
  exact kk
/-- putfield of a field that isn't final -/
theorem p_f (C : Cx p m c cc nL s args own) (hK : va_K D clX tys s) (hP : va_P D clX ws H) (hD : va_D A ws) (hS : va_S A H0 H locs) (q0 : Nat) {a ci : Nat} {fs : List Value} (he : ws[q0]? = some (a, .inr (ci, fs))) {Cn : String} {T : u_T} {N : Nat} (hc : clX[ci]? = some (Cn, T, N)) (hu : ∀ w, w ∈ u_ws Cn T N → w ∈ AW) (ty0 : Nat → FieldType) (hty : ∀ k, k < N → parseFieldDescriptor (T k).2.2.1 = some (ty0 k)) (hnm : ∀ a, a < N → ∀ b, b < N → a ≠ b → (T a).2.1 ≠ (T b).2.1) (k : Nat) (hk : k < N) {idx : Nat} (hw : Cond.fieldLink own idx (T k).1 (T k).2.1 (T k).2.2.1 ∈ AW) (hfin : (T k).2.2.2 = false) {v : Value} (hn : narrow (ty0 k) v = v) (hfit : fits (ty0 k) v = true) (hl : k < fs.length) (hdg : decode cc pc = .ok (.putfield idx, 3))
    (kk : ∀ (H1 : Heap) (locs1 : List Loc), va_P D clX (ws.set q0 (a, .inr (ci, fs.set k v))) H1 → va_D A (ws.set q0 (a, .inr (ci, fs.set k v))) → va_S A H0 H1 locs1 → W p l e R s m args below meth c H1 locs1 cells slots Q (F0 m (pc + 3) ls rest)) : W p l e R s m args below meth c H locs cells slots Q (F0 m pc ls (v :: .ref a :: rest)) :=
  va_put C.1 C.2.1 C.2.2.2.2 hu ty0 hty hnm C.2.2.2.1 hK hP hD hS q0 he hc k hk (C.2.2.2.2 _ hw) (fun _ h => h) hfin (hty k hk) hn hfit hl hdg kk
/-- and of a final one, in the constructor -/
theorem p_ff (C : Cx p m c cc nL s args own) (hK : va_K D clX tys s) (hP : va_P D clX ws H) (hD : va_D A ws) (hS : va_S A H0 H locs) (q0 : Nat) {a ci : Nat} {fs : List Value} (he : ws[q0]? = some (a, .inr (ci, fs))) {Cn : String} {T : u_T} {N : Nat} (hc : clX[ci]? = some (Cn, T, N)) (hu : ∀ w, w ∈ u_ws Cn T N → w ∈ AW) (ty0 : Nat → FieldType) (hty : ∀ k, k < N → parseFieldDescriptor (T k).2.2.1 = some (ty0 k)) (hnm : ∀ a, a < N → ∀ b, b < N → a ≠ b → (T a).2.1 ≠ (T b).2.1) (k : Nat) (hk : k < N) {idx : Nat} (hw : Cond.fieldLink own idx (T k).1 (T k).2.1 (T k).2.2.1 ∈ AW) (hfin : (T k).2.2.2 = true) (hin : meth.name = "<init>") (hdecl : (T k).1 = own) {v : Value} (hn : narrow (ty0 k) v = v) (hfit : fits (ty0 k) v = true) (hl : k < fs.length) (hdg : decode cc pc = .ok (.putfield idx, 3))
    (kk : ∀ (H1 : Heap) (locs1 : List Loc), va_P D clX (ws.set q0 (a, .inr (ci, fs.set k v))) H1 → va_D A (ws.set q0 (a, .inr (ci, fs.set k v))) → va_S A H0 H1 locs1 → W p l e R s m args below meth c H1 locs1 cells slots Q (F0 m (pc + 3) ls rest)) : W p l e R s m args below meth c H locs cells slots Q (F0 m pc ls (v :: .ref a :: rest)) :=
  va_putF C.1 C.2.1 C.2.2.2.2 hu ty0 hty hnm C.2.2.2.1 hK hP hD hS q0 he hc k hk (C.2.2.2.2 _ hw) (fun _ h => h) hfin hin hdecl (hty k hk) hn hfit hl hdg kk
theorem py_v (C : Cx p m c cc nL s args own) (hr : meth.sig.returnType = none) (hk : meth.locks = false) {XC : String → State → State → Prop} {mc ms : Nat} {ok : Prop} {B : State → Prop} (hS : va_S A s.heap H locs) (hok : ok) (hB : ∀ t : State, t.heap = H → s.vm.Alike t.vm → B t) (hdg : decode cc pc = .ok (.return_, 1)) (hc : cells ≤ mc) (hs : slots ≤ ms) : W p l e R s m args below meth c H locs cells slots (vx_MQ below (QcM none ok B A) XC args s mc ms A) (F0 m pc ls []) :=
  vx_ret (W.widen hc hs (W.vret C.1 C.2.1 hr (fun t ht hW => ⟨rfl, hok, hB t ht hW.alike, hS.F ht⟩) hS.2.2 hdg hk))
theorem py_i (C : Cx p m c cc nL s args own) (hr : meth.sig.returnType = some .int) (hk : meth.locks = false) {XC : String → State → State → Prop} {mc ms : Nat} {ok : Prop} {B : State → Prop} {x v : Int32} (hS : va_S A s.heap H locs) (hok : ok) (hB : ∀ t : State, t.heap = H → s.vm.Alike t.vm → B t) (hdg : decode cc pc = .ok (.ireturn, 1)) (hv : x = v) (hc : cells ≤ mc) (hs : slots ≤ ms) : W p l e R s m args below meth c H locs cells slots (vx_MQ below (QcM (some (.int v)) ok B A) XC args s mc ms A) (F0 m pc ls [.int x]) := by
  subst hv
  exact vx_ret (W.widen hc hs (W.iret C.1 C.2.1 hr (fun t ht hW => ⟨rfl, hok, hB t ht hW.alike, hS.F ht⟩) hS.2.2 hdg hk))
theorem py_z (C : Cx p m c cc nL s args own) (hr : meth.sig.returnType = some .boolean) (hk : meth.locks = false) {XC : String → State → State → Prop} {mc ms : Nat} {ok : Prop} {B : State → Prop} {a : Int} {v : Int32} (hS : va_S A s.heap H locs) (hok : ok) (hB : ∀ t : State, t.heap = H → s.vm.Alike t.vm → B t) (hdg : decode cc pc = .ok (.ireturn, 1)) (h01 : a = 0 ∨ a = 1) (hv : ii a = v) (hc : cells ≤ mc) (hs : slots ≤ ms) : W p l e R s m args below meth c H locs cells slots (vx_MQ below (QcM (some (.int v)) ok B A) XC args s mc ms A) (F0 m pc ls [.int (ii a)]) := by
  subst hv
  exact vx_ret (W.widen hc hs (W.zret C.1 C.2.1 hr (by rcases h01 with rfl | rfl <;> decide +kernel) (fun t ht hW => ⟨rfl, hok, hB t ht hW.alike, hS.F ht⟩) hS.2.2 hdg hk))
theorem py_l (C : Cx p m c cc nL s args own) (hr : meth.sig.returnType = some .long) (hk : meth.locks = false) {XC : String → State → State → Prop} {mc ms : Nat} {ok : Prop} {B : State → Prop} {x v : Int64} (hS : va_S A s.heap H locs) (hok : ok) (hB : ∀ t : State, t.heap = H → s.vm.Alike t.vm → B t) (hdg : decode cc pc = .ok (.lreturn, 1)) (hv : x = v) (hc : cells ≤ mc) (hs : slots ≤ ms) : W p l e R s m args below meth c H locs cells slots (vx_MQ below (QcM (some (.long v)) ok B A) XC args s mc ms A) (F0 m pc ls [.long x]) := by
  subst hv
  exact vx_ret (W.widen hc hs (W.lret C.1 C.2.1 hr (fun t ht hW => ⟨rfl, hok, hB t ht hW.alike, hS.F ht⟩) hS.2.2 hdg hk))
/-- thrown on out of a writer -/
theorem ox_M {Qc : Array Value → State → Outcome → State → Prop} {mc ms : Nat} {E0 : String} {why : String → Prop} {B : State → Prop} {H1 : Heap} {q9 : Addr} {ce : Cell} (hex : ∀ x ∈ c.exceptionTable.toList, False) (hk : meth.locks = false) (hcell : H1[q9]? = some ce) (hv : ce.vm = .none) (hcl : s.vm.findClass E0 = some ce.cls)
    (hwhy : why E0) (hS : va_S A s.heap H locs) (z1 : H.size ≤ H1.size) (z2 : ∀ q : Nat, q < H.size → H1[q]? = H[q]?) (hB : ∀ t : State, t.heap = H1 → s.vm.Alike t.vm → B t) (hc : cells ≤ mc) (hs : slots ≤ ms) : vx_W p l e R s m args below meth c H1 locs cells slots (vx_MQ below Qc (XcM why B A) args s mc ms A) (F0 m pc ls rest) q9 :=
  ox hex hk hcell hv hcl (fun t ht hvm => ⟨hwhy, hB t ht hvm, by rw [ht]; exact Nat.le_trans hS.1 z1, fun q h1 h2 => by rw [ht, z2 q (Nat.lt_of_lt_of_le h1 hS.1)]; exact hS.2.1 q h1 h2⟩) hS.2.2 hc hs
end WR
end
section
/-! The class: what writes a register. By wip/whole/tools/gen9.py. -/
theorem up_P (P : Nat → Option (Nat × Nat)) (k : Nat) (X : Option (Nat × Nat)) : va_up (fun j => ii (ecd (P j))) k (ii (ecd X)) = fun j => ii (ecd (va_up P k X j)) := by
  funext j
  unfold va_up
  split <;> rfl
set_option maxRecDepth 100000 in
set_option maxHeartbeats 4000000 in
theorem c_X1_base (l : Launch) (hL : l.stackTraces = false) (D : va_G) (z0 sz : Nat) (p a b n : Nat) (G : Option (Nat × Nat)) (hp : 5 ≤ p ∧ p ≤ 1021) (ha : a < p) (hb : b < p) (hn : 2 ≤ n ∧ n ≤ 1100) (hG : sm2 p G) (hx hr0 hq0 hc : Nat) (sec dr : Int) (cI : ClassId) (P : Nat → Option (Nat × Nat)) (hPs : ∀ j, sm2 p (P j)) (r : Int) (hr1 : rg r) : vx_Met l yX1_base (Cond.code yX1_base cX1_base 3 none :: AW) ({ frames := 7, cells := 1, slots := 6, locals := 130 } : Room) (PcM D z0 sz [(hx, .inr (1, [.ref hr0, .ref hq0, .ref hc, .int (ii sec), .int (ii dr)])), (hr0, .inl (cI, 4, .inl (fun j => ii (ecd (P j))))), (hc, .inr (0, [.int (ii (p : Int)), .int (ii (a : Int)), .int (ii (b : Int)), .int (ii (n : Int)), .int (ii (ecd G))]))] [(cI, .int)] [.ref hx, .int (ii r)]) (QcM none (okr r) (Wd D [(hx, .inr (1, [.ref hr0, .ref hq0, .ref hc, .int (ii sec), .int (ii dr)])), (hr0, .inl (cI, 4, .inl (fun j => ii (ecd ((va_up P r.toNat G) j))))), (hc, .inr (0, [.int (ii (p : Int)), .int (ii (a : Int)), .int (ii (b : Int)), .int (ii (n : Int)), .int (ii (ecd G))]))] [(cI, .int)] (va_A [(hx, .inr (1, [.ref hr0, .ref hq0, .ref hc, .int (ii sec), .int (ii dr)])), (hr0, .inl (cI, 4, .inl (fun j => ii (ecd (P j))))), (hc, .inr (0, [.int (ii (p : Int)), .int (ii (a : Int)), .int (ii (b : Int)), .int (ii (n : Int)), .int (ii (ecd G))]))] sz)) (va_A [(hx, .inr (1, [.ref hr0, .ref hq0, .ref hc, .int (ii sec), .int (ii dr)])), (hr0, .inl (cI, 4, .inl (fun j => ii (ecd (P j))))), (hc, .inr (0, [.int (ii (p : Int)), .int (ii (a : Int)), .int (ii (b : Int)), .int (ii (n : Int)), .int (ii (ecd G))]))] sz)) (XcM (fun E => E = "java/lang/IndexOutOfBoundsException" ∧ ¬ okr r) (Wd D [(hx, .inr (1, [.ref hr0, .ref hq0, .ref hc, .int (ii sec), .int (ii dr)])), (hr0, .inl (cI, 4, .inl (fun j => ii (ecd (P j))))), (hc, .inr (0, [.int (ii (p : Int)), .int (ii (a : Int)), .int (ii (b : Int)), .int (ii (n : Int)), .int (ii (ecd G))]))] [(cI, .int)] (va_A [(hx, .inr (1, [.ref hr0, .ref hq0, .ref hc, .int (ii sec), .int (ii dr)])), (hr0, .inl (cI, 4, .inl (fun j => ii (ecd (P j))))), (hc, .inr (0, [.int (ii (p : Int)), .int (ii (a : Int)), .int (ii (b : Int)), .int (ii (n : Int)), .int (ii (ecd G))]))] sz)) (va_A [(hx, .inr (1, [.ref hr0, .ref hq0, .ref hc, .int (ii sec), .int (ii dr)])), (hr0, .inl (cI, 4, .inl (fun j => ii (ecd (P j))))), (hc, .inr (0, [.int (ii (p : Int)), .int (ii (a : Int)), .int (ii (b : Int)), .int (ii (n : Int)), .int (ii (ecd G))]))] sz)) 1 6 (va_A [(hx, .inr (1, [.ref hr0, .ref hq0, .ref hc, .int (ii sec), .int (ii dr)])), (hr0, .inl (cI, 4, .inl (fun j => ii (ecd (P j))))), (hc, .inr (0, [.int (ii (p : Int)), .int (ii (a : Int)), .int (ii (b : Int)), .int (ii (n : Int)), .int (ii (ecd G))]))] sz) := by
  refine mt_M (by decide +kernel) (Nat.le_of_ble_eq_true rfl) ?_
  intro P0 E0 S0 M0 A0 B0 T0 K0 C hN hZ hsz hz hP hK hD hAz hA hr hk hex hin ls hl
  have hl : lv_has ls 3 [(0, .ref hx), (1, .int (ii r))] := hl
  generalize hAe : va_A [(hx, .inr (1, [.ref hr0, .ref hq0, .ref hc, .int (ii sec), .int (ii dr)])), (hr0, .inl (cI, 4, .inl (fun j => ii (ecd (P j))))), (hc, .inr (0, [.int (ii (p : Int)), .int (ii (a : Int)), .int (ii (b : Int)), .int (ii (n : Int)), .int (ii (ecd G))]))] sz = A at hD hAz hA ⊢
  have hS : va_S A S0.heap S0.heap [] := va_S.rf
  refine lv_aload_n C.1 C.2.1 dX1_base_0 rfl (lv_at hl 0 rfl) ?_
  refine ca_V (As := []) (rest := []) C (c_taken_c l D hx hr0 hq0 hc sec dr) (pcw_preV [] hN (hP.sub (ws' := [(hx, .inr (1, [.ref hr0, .ref hq0, .ref hc, .int (ii sec), .int (ii dr)]))]) [0] rfl) (hK.sub (tys' := []) [] rfl) 0 (ci := 1) rfl rfl) aw_b_X1_takenCurve aw_m_X1_62 aw_v_X1_takenCurve aw_i_X1 aw_e_X1_takenCurve ⟨rfl, rfl⟩ 0 (by decide +kernel) rfl ⟨by decide, by decide⟩ hl.1 rfl (Nat.le_of_ble_eq_true rfl) dX1_base_1 ⟨by decide, by decide⟩ ?_
  refine lv_astore_n C.1 C.2.1 dX1_base_4 rfl hl (by decide) rfl (fun ls hl => ?_)
  have hl : lv_has ls 3 [(2, .ref hc), (0, .ref hx), (1, .int (ii r))] := hl
  refine lv_iload_n C.1 C.2.1 dX1_base_5 rfl (lv_at hl 2 rfl) ?_
  refine cx_S (As := [.int (ii r)]) (rest := []) C (c_check l hL D z0 r hr1) (pcx_pre _ hN hZ (hP.sub (ws' := []) [] rfl) (hK.sub (tys' := []) [] rfl)) aw_b_X1_checkRegister aw_m_X1_66 aw_s_X1_checkRegister aw_i_X1 ⟨rfl, rfl⟩ 1 (by decide +kernel) rfl ⟨by decide, by decide⟩ hl.1 rfl (Nat.le_of_ble_eq_true rfl) dX1_base_6 ⟨by decide, by decide⟩ (fun hw H1 q9 ce z1 z2 z3 z4 z5 => ?_) (fun ho => ?_)
  · exact ox_M hex hk z3 z4 z5 ⟨rfl, hw⟩ hS z1 z2 (fun t ht hvm => ⟨by rw [ht]; exact hP.on z2, va_K.moved hvm hK, hD⟩) (by decide) (by decide)
  have ho2 := ho
  unfold okr at ho2
  refine lv_aload_n C.1 C.2.1 dX1_base_9 rfl (lv_at hl 1 rfl) ?_
  refine gf C hK hP 0 rfl rfl aw_uX1 0 (by decide) aw_f_X1_9 rfl dX1_base_10 ?_
  refine lv_iload_n C.1 C.2.1 dX1_base_13 rfl (lv_at hl 2 rfl) ?_
  refine lv_aload_n C.1 C.2.1 dX1_base_14 rfl (lv_at hl 0 rfl) ?_
  refine gf C hK hP 2 rfl rfl aw_uX0 4 (by decide) aw_f_X1_80 rfl dX1_base_15 ?_
  refine i_ast C hK hP hD hS 1 0 rfl rfl r.toNat (by omega) (by omega) (by omega) dX1_base_18 (fun H1 locs1 hP hD hS => ?_)
  rw [up_P P r.toNat (G)] at hP hD
  have hP : va_P D clX [(hx, .inr (1, [.ref hr0, .ref hq0, .ref hc, .int (ii sec), .int (ii dr)])), (hr0, .inl (cI, 4, .inl (fun j => ii (ecd ((va_up P r.toNat G) j))))), (hc, .inr (0, [.int (ii (p : Int)), .int (ii (a : Int)), .int (ii (b : Int)), .int (ii (n : Int)), .int (ii (ecd G))]))] H1 := hP
  have hD : va_D A [(hx, .inr (1, [.ref hr0, .ref hq0, .ref hc, .int (ii sec), .int (ii dr)])), (hr0, .inl (cI, 4, .inl (fun j => ii (ecd ((va_up P r.toNat G) j))))), (hc, .inr (0, [.int (ii (p : Int)), .int (ii (a : Int)), .int (ii (b : Int)), .int (ii (n : Int)), .int (ii (ecd G))]))] := hD
  exact py_v C hr hk hS ho (fun t ht hvm => ⟨by rw [ht]; exact hP, va_K.moved hvm hK, hD⟩) dX1_base_19 (by decide) (by decide)
theorem hoF_1 {p a b : Nat} {x y : Int} (h : hoF p a b x y ≠ 0) : 0 ≤ x ∧ x < p ∧ 0 ≤ y ∧ y < p ∧ y * y % p = ((x * x + a) % p * x + b) % p := by
  unfold hoF at h
  split at h
  · exact absurd rfl h
  · split at h
    · exact absurd rfl h
    · split at h
      · exact absurd rfl h
      · split at h
        · exact absurd rfl h
        · split at h
          · refine ⟨by omega, by omega, by omega, by omega, by assumption⟩
          · exact absurd rfl h
set_option maxRecDepth 100000 in
set_option maxHeartbeats 4000000 in
theorem c_X1_load (l : Launch) (hL : l.stackTraces = false) (D : va_G) (z0 sz : Nat) (p a b n : Nat) (G : Option (Nat × Nat)) (hp : 5 ≤ p ∧ p ≤ 1021) (ha : a < p) (hb : b < p) (hn : 2 ≤ n ∧ n ≤ 1100) (hG : sm2 p G) (hx hr0 hq0 hc : Nat) (sec dr : Int) (cI : ClassId) (P : Nat → Option (Nat × Nat)) (hPs : ∀ j, sm2 p (P j)) (r x y : Int) (hr1 : rg r) (hx1 : rg x) (hy1 : rg y) : vx_Met l yX1_load (Cond.code yX1_load cX1_load 5 none :: AW) ({ frames := 7, cells := 2, slots := 12, locals := 130 } : Room) (PcM D z0 sz [(hx, .inr (1, [.ref hr0, .ref hq0, .ref hc, .int (ii sec), .int (ii dr)])), (hr0, .inl (cI, 4, .inl (fun j => ii (ecd (P j))))), (hc, .inr (0, [.int (ii (p : Int)), .int (ii (a : Int)), .int (ii (b : Int)), .int (ii (n : Int)), .int (ii (ecd G))]))] [(cI, .int)] [.ref hx, .int (ii r), .int (ii x), .int (ii y)]) (QcM none (okr r ∧ hoF p a b x y ≠ 0) (Wd D [(hx, .inr (1, [.ref hr0, .ref hq0, .ref hc, .int (ii sec), .int (ii dr)])), (hr0, .inl (cI, 4, .inl (fun j => ii (ecd ((va_up P r.toNat (some (x.toNat, y.toNat))) j))))), (hc, .inr (0, [.int (ii (p : Int)), .int (ii (a : Int)), .int (ii (b : Int)), .int (ii (n : Int)), .int (ii (ecd G))]))] [(cI, .int)] (va_A [(hx, .inr (1, [.ref hr0, .ref hq0, .ref hc, .int (ii sec), .int (ii dr)])), (hr0, .inl (cI, 4, .inl (fun j => ii (ecd (P j))))), (hc, .inr (0, [.int (ii (p : Int)), .int (ii (a : Int)), .int (ii (b : Int)), .int (ii (n : Int)), .int (ii (ecd G))]))] sz)) (va_A [(hx, .inr (1, [.ref hr0, .ref hq0, .ref hc, .int (ii sec), .int (ii dr)])), (hr0, .inl (cI, 4, .inl (fun j => ii (ecd (P j))))), (hc, .inr (0, [.int (ii (p : Int)), .int (ii (a : Int)), .int (ii (b : Int)), .int (ii (n : Int)), .int (ii (ecd G))]))] sz)) (XcM (fun E => (E = "java/lang/IndexOutOfBoundsException" ∧ ¬ okr r) ∨ (E = "java/lang/IllegalArgumentException" ∧ okr r ∧ hoF p a b x y = 0)) (Wd D [(hx, .inr (1, [.ref hr0, .ref hq0, .ref hc, .int (ii sec), .int (ii dr)])), (hr0, .inl (cI, 4, .inl (fun j => ii (ecd (P j))))), (hc, .inr (0, [.int (ii (p : Int)), .int (ii (a : Int)), .int (ii (b : Int)), .int (ii (n : Int)), .int (ii (ecd G))]))] [(cI, .int)] (va_A [(hx, .inr (1, [.ref hr0, .ref hq0, .ref hc, .int (ii sec), .int (ii dr)])), (hr0, .inl (cI, 4, .inl (fun j => ii (ecd (P j))))), (hc, .inr (0, [.int (ii (p : Int)), .int (ii (a : Int)), .int (ii (b : Int)), .int (ii (n : Int)), .int (ii (ecd G))]))] sz)) (va_A [(hx, .inr (1, [.ref hr0, .ref hq0, .ref hc, .int (ii sec), .int (ii dr)])), (hr0, .inl (cI, 4, .inl (fun j => ii (ecd (P j))))), (hc, .inr (0, [.int (ii (p : Int)), .int (ii (a : Int)), .int (ii (b : Int)), .int (ii (n : Int)), .int (ii (ecd G))]))] sz)) 2 12 (va_A [(hx, .inr (1, [.ref hr0, .ref hq0, .ref hc, .int (ii sec), .int (ii dr)])), (hr0, .inl (cI, 4, .inl (fun j => ii (ecd (P j))))), (hc, .inr (0, [.int (ii (p : Int)), .int (ii (a : Int)), .int (ii (b : Int)), .int (ii (n : Int)), .int (ii (ecd G))]))] sz) := by
  refine mt_M (by decide +kernel) (Nat.le_of_ble_eq_true rfl) ?_
  intro P0 E0 S0 M0 A0 B0 T0 K0 C hN hZ hsz hz hP hK hD hAz hA hr hk hex hin ls hl
  have hl : lv_has ls 5 [(0, .ref hx), (1, .int (ii r)), (2, .int (ii x)), (3, .int (ii y))] := hl
  generalize hAe : va_A [(hx, .inr (1, [.ref hr0, .ref hq0, .ref hc, .int (ii sec), .int (ii dr)])), (hr0, .inl (cI, 4, .inl (fun j => ii (ecd (P j))))), (hc, .inr (0, [.int (ii (p : Int)), .int (ii (a : Int)), .int (ii (b : Int)), .int (ii (n : Int)), .int (ii (ecd G))]))] sz = A at hD hAz hA ⊢
  have hS : va_S A S0.heap S0.heap [] := va_S.rf
  refine lv_aload_n C.1 C.2.1 dX1_load_0 rfl (lv_at hl 0 rfl) ?_
  refine ca_V (As := []) (rest := []) C (c_taken_c l D hx hr0 hq0 hc sec dr) (pcw_preV [] hN (hP.sub (ws' := [(hx, .inr (1, [.ref hr0, .ref hq0, .ref hc, .int (ii sec), .int (ii dr)]))]) [0] rfl) (hK.sub (tys' := []) [] rfl) 0 (ci := 1) rfl rfl) aw_b_X1_takenCurve aw_m_X1_62 aw_v_X1_takenCurve aw_i_X1 aw_e_X1_takenCurve ⟨rfl, rfl⟩ 0 (by decide +kernel) rfl ⟨by decide, by decide⟩ hl.1 rfl (Nat.le_of_ble_eq_true rfl) dX1_load_1 ⟨by decide, by decide⟩ ?_
  refine lv_astore C.1 C.2.1 dX1_load_4 hl (by decide) rfl (fun ls hl => ?_)
  have hl : lv_has ls 5 [(4, .ref hc), (0, .ref hx), (1, .int (ii r)), (2, .int (ii x)), (3, .int (ii y))] := hl
  refine lv_iload_n C.1 C.2.1 dX1_load_6 rfl (lv_at hl 2 rfl) ?_
  refine cx_S (As := [.int (ii r)]) (rest := []) C (c_check l hL D z0 r hr1) (pcx_pre _ hN hZ (hP.sub (ws' := []) [] rfl) (hK.sub (tys' := []) [] rfl)) aw_b_X1_checkRegister aw_m_X1_66 aw_s_X1_checkRegister aw_i_X1 ⟨rfl, rfl⟩ 1 (by decide +kernel) rfl ⟨by decide, by decide⟩ hl.1 rfl (Nat.le_of_ble_eq_true rfl) dX1_load_7 ⟨by decide, by decide⟩ (fun hw H1 q9 ce z1 z2 z3 z4 z5 => ?_) (fun ho => ?_)
  · exact ox_M hex hk z3 z4 z5 (Or.inl ⟨rfl, hw⟩) hS z1 z2 (fun t ht hvm => ⟨by rw [ht]; exact hP.on z2, va_K.moved hvm hK, hD⟩) (by decide) (by decide)
  have ho2 := ho
  unfold okr at ho2
  have hb1 := hoF_b p a b x y
  have hb2 := hoF_1 (p := p) (a := a) (b := b) (x := x) (y := y)
  refine lv_aload C.1 C.2.1 dX1_load_10 (lv_at hl 0 rfl) ?_
  refine lv_iload_n C.1 C.2.1 dX1_load_12 rfl (lv_at hl 3 rfl) ?_
  refine lv_iload_n C.1 C.2.1 dX1_load_13 rfl (lv_at hl 4 rfl) ?_
  refine ca_V (As := [.int (ii x), .int (ii y)]) (rest := []) C (c_X0_holds l D hc p a b n (ecd G) hp ha hb x y hx1 hy1) (pcw_preV [.int (ii x), .int (ii y)] hN (hP.sub (ws' := [(hc, .inr (0, [.int (ii (p : Int)), .int (ii (a : Int)), .int (ii (b : Int)), .int (ii (n : Int)), .int (ii (ecd G))]))]) [2] rfl) (hK.sub (tys' := []) [] rfl) 0 (ci := 0) rfl rfl) aw_b_X0_holds aw_m_X1_70 aw_v_X0_holds aw_i_X0 aw_e_X0_holds ⟨rfl, rfl⟩ 2 (by decide +kernel) rfl ⟨by decide, by decide⟩ hl.1 rfl (Nat.le_of_ble_eq_true rfl) dX1_load_14 ⟨by decide, by decide⟩ ?_
  generalize hoF p a b x y = j at hb1 hb2 ⊢
  refine i_if_ne (tgt := 30) C dX1_load_17 (by decide) ⟨by omega, by omega⟩ (fun h1 => ?_) (fun h1 => ?_)
  · have hb2 := hb2 h1
    refine lv_aload_n C.1 C.2.1 dX1_load_30 rfl (lv_at hl 1 rfl) ?_
    refine gf C hK hP 0 rfl rfl aw_uX1 0 (by decide) aw_f_X1_9 rfl dX1_load_31 ?_
    refine lv_iload_n C.1 C.2.1 dX1_load_34 rfl (lv_at hl 2 rfl) ?_
    refine lv_iload_n C.1 C.2.1 dX1_load_35 rfl (lv_at hl 3 rfl) ?_
    refine lv_iload_n C.1 C.2.1 dX1_load_36 rfl (lv_at hl 4 rfl) ?_
    refine ca_S (As := [.int (ii x), .int (ii y)]) (rest := [.int (ii r), .ref hr0]) C (c_X1_pointAt l x y) (pcn_pre _ hN) aw_b_X1_pointAt aw_m_X1_76 aw_s_X1_pointAt aw_i_X1 ⟨rfl, rfl⟩ 2 (by decide +kernel) rfl ⟨by decide, by decide⟩ hl.1 rfl (Nat.le_of_ble_eq_true rfl) dX1_load_37 ⟨by decide, by decide⟩ ?_
    refine i_top (b := ecd (some (x.toNat, y.toNat))) (show x * 65536 + y = (x.toNat : Int) * 65536 + (y.toNat : Int) by omega) ?_
    refine i_ast C hK hP hD hS 1 0 rfl rfl r.toNat (by omega) (by omega) (by omega) dX1_load_40 (fun H1 locs1 hP hD hS => ?_)
    rw [up_P P r.toNat (some (x.toNat, y.toNat))] at hP hD
    have hP : va_P D clX [(hx, .inr (1, [.ref hr0, .ref hq0, .ref hc, .int (ii sec), .int (ii dr)])), (hr0, .inl (cI, 4, .inl (fun j => ii (ecd ((va_up P r.toNat (some (x.toNat, y.toNat))) j))))), (hc, .inr (0, [.int (ii (p : Int)), .int (ii (a : Int)), .int (ii (b : Int)), .int (ii (n : Int)), .int (ii (ecd G))]))] H1 := hP
    have hD : va_D A [(hx, .inr (1, [.ref hr0, .ref hq0, .ref hc, .int (ii sec), .int (ii dr)])), (hr0, .inl (cI, 4, .inl (fun j => ii (ecd ((va_up P r.toNat (some (x.toNat, y.toNat))) j))))), (hc, .inr (0, [.int (ii (p : Int)), .int (ii (a : Int)), .int (ii (b : Int)), .int (ii (n : Int)), .int (ii (ecd G))]))] := hD
    exact py_v C hr hk hS ⟨ho, h1⟩ (fun t ht hvm => ⟨by rw [ht]; exact hP, va_K.moved hvm hK, hD⟩) dX1_load_41 (by decide) (by decide)
  · exact th_S (z0 := z0) C hL hN hZ va_S.rf (text := "no point of the curve") (by decide +kernel) (by decide +kernel) tw_iae hl.1 dX1_load_20 dX1_load_23 dX1_load_24 dX1_load_26 dX1_load_29 hex ⟨by decide, by decide, by decide, by decide⟩ (Nat.le_of_ble_eq_true rfl) hk (fun t hvm z1 z2 => ⟨Or.inr ⟨rfl, ho, Classical.not_not.mp h1⟩, ⟨hP.on z2, va_K.moved hvm hK, hD⟩, z1, fun q h1 _ => z2 q h1⟩) (fun q h => by cases h) (by decide) (by decide)
set_option maxRecDepth 100000 in
set_option maxHeartbeats 4000000 in
theorem c_X1_sum (l : Launch) (hL : l.stackTraces = false) (D : va_G) (z0 sz : Nat) (p a b n : Nat) (G : Option (Nat × Nat)) (hp : 5 ≤ p ∧ p ≤ 1021) (ha : a < p) (hb : b < p) (hn : 2 ≤ n ∧ n ≤ 1100) (hG : sm2 p G) (hx hr0 hq0 hc : Nat) (sec dr : Int) (cI : ClassId) (P : Nat → Option (Nat × Nat)) (hPs : ∀ j, sm2 p (P j)) (d u v : Int) (hd1 : rg d) (hu1 : rg u) (hv1 : rg v) : vx_Met l yX1_sum (Cond.code yX1_sum cX1_sum 5 none :: AW) ({ frames := 7, cells := 3, slots := 18, locals := 130 } : Room) (PcM D z0 sz [(hx, .inr (1, [.ref hr0, .ref hq0, .ref hc, .int (ii sec), .int (ii dr)])), (hr0, .inl (cI, 4, .inl (fun j => ii (ecd (P j))))), (hc, .inr (0, [.int (ii (p : Int)), .int (ii (a : Int)), .int (ii (b : Int)), .int (ii (n : Int)), .int (ii (ecd G))]))] [(cI, .int)] [.ref hx, .int (ii d), .int (ii u), .int (ii v)]) (QcM none (okr d ∧ okr u ∧ okr v) (Wd D [(hx, .inr (1, [.ref hr0, .ref hq0, .ref hc, .int (ii sec), .int (ii dr)])), (hr0, .inl (cI, 4, .inl (fun j => ii (ecd ((va_up P d.toNat (plF p a (P u.toNat) (P v.toNat))) j))))), (hc, .inr (0, [.int (ii (p : Int)), .int (ii (a : Int)), .int (ii (b : Int)), .int (ii (n : Int)), .int (ii (ecd G))]))] [(cI, .int)] (va_A [(hx, .inr (1, [.ref hr0, .ref hq0, .ref hc, .int (ii sec), .int (ii dr)])), (hr0, .inl (cI, 4, .inl (fun j => ii (ecd (P j))))), (hc, .inr (0, [.int (ii (p : Int)), .int (ii (a : Int)), .int (ii (b : Int)), .int (ii (n : Int)), .int (ii (ecd G))]))] sz)) (va_A [(hx, .inr (1, [.ref hr0, .ref hq0, .ref hc, .int (ii sec), .int (ii dr)])), (hr0, .inl (cI, 4, .inl (fun j => ii (ecd (P j))))), (hc, .inr (0, [.int (ii (p : Int)), .int (ii (a : Int)), .int (ii (b : Int)), .int (ii (n : Int)), .int (ii (ecd G))]))] sz)) (XcM (fun E => E = "java/lang/IndexOutOfBoundsException" ∧ ¬ (okr d ∧ okr u ∧ okr v)) (Wd D [(hx, .inr (1, [.ref hr0, .ref hq0, .ref hc, .int (ii sec), .int (ii dr)])), (hr0, .inl (cI, 4, .inl (fun j => ii (ecd (P j))))), (hc, .inr (0, [.int (ii (p : Int)), .int (ii (a : Int)), .int (ii (b : Int)), .int (ii (n : Int)), .int (ii (ecd G))]))] [(cI, .int)] (va_A [(hx, .inr (1, [.ref hr0, .ref hq0, .ref hc, .int (ii sec), .int (ii dr)])), (hr0, .inl (cI, 4, .inl (fun j => ii (ecd (P j))))), (hc, .inr (0, [.int (ii (p : Int)), .int (ii (a : Int)), .int (ii (b : Int)), .int (ii (n : Int)), .int (ii (ecd G))]))] sz)) (va_A [(hx, .inr (1, [.ref hr0, .ref hq0, .ref hc, .int (ii sec), .int (ii dr)])), (hr0, .inl (cI, 4, .inl (fun j => ii (ecd (P j))))), (hc, .inr (0, [.int (ii (p : Int)), .int (ii (a : Int)), .int (ii (b : Int)), .int (ii (n : Int)), .int (ii (ecd G))]))] sz)) 3 18 (va_A [(hx, .inr (1, [.ref hr0, .ref hq0, .ref hc, .int (ii sec), .int (ii dr)])), (hr0, .inl (cI, 4, .inl (fun j => ii (ecd (P j))))), (hc, .inr (0, [.int (ii (p : Int)), .int (ii (a : Int)), .int (ii (b : Int)), .int (ii (n : Int)), .int (ii (ecd G))]))] sz) := by
  refine mt_M (by decide +kernel) (Nat.le_of_ble_eq_true rfl) ?_
  intro P0 E0 S0 M0 A0 B0 T0 K0 C hN hZ hsz hz hP hK hD hAz hA hr hk hex hin ls hl
  have hl : lv_has ls 5 [(0, .ref hx), (1, .int (ii d)), (2, .int (ii u)), (3, .int (ii v))] := hl
  generalize hAe : va_A [(hx, .inr (1, [.ref hr0, .ref hq0, .ref hc, .int (ii sec), .int (ii dr)])), (hr0, .inl (cI, 4, .inl (fun j => ii (ecd (P j))))), (hc, .inr (0, [.int (ii (p : Int)), .int (ii (a : Int)), .int (ii (b : Int)), .int (ii (n : Int)), .int (ii (ecd G))]))] sz = A at hD hAz hA ⊢
  have hS : va_S A S0.heap S0.heap [] := va_S.rf
  refine lv_aload_n C.1 C.2.1 dX1_sum_0 rfl (lv_at hl 0 rfl) ?_
  refine ca_V (As := []) (rest := []) C (c_taken_c l D hx hr0 hq0 hc sec dr) (pcw_preV [] hN (hP.sub (ws' := [(hx, .inr (1, [.ref hr0, .ref hq0, .ref hc, .int (ii sec), .int (ii dr)]))]) [0] rfl) (hK.sub (tys' := []) [] rfl) 0 (ci := 1) rfl rfl) aw_b_X1_takenCurve aw_m_X1_62 aw_v_X1_takenCurve aw_i_X1 aw_e_X1_takenCurve ⟨rfl, rfl⟩ 0 (by decide +kernel) rfl ⟨by decide, by decide⟩ hl.1 rfl (Nat.le_of_ble_eq_true rfl) dX1_sum_1 ⟨by decide, by decide⟩ ?_
  refine lv_astore C.1 C.2.1 dX1_sum_4 hl (by decide) rfl (fun ls hl => ?_)
  have hl : lv_has ls 5 [(4, .ref hc), (0, .ref hx), (1, .int (ii d)), (2, .int (ii u)), (3, .int (ii v))] := hl
  refine lv_iload_n C.1 C.2.1 dX1_sum_6 rfl (lv_at hl 2 rfl) ?_
  refine cx_S (As := [.int (ii d)]) (rest := []) C (c_check l hL D z0 d hd1) (pcx_pre _ hN hZ (hP.sub (ws' := []) [] rfl) (hK.sub (tys' := []) [] rfl)) aw_b_X1_checkRegister aw_m_X1_66 aw_s_X1_checkRegister aw_i_X1 ⟨rfl, rfl⟩ 1 (by decide +kernel) rfl ⟨by decide, by decide⟩ hl.1 rfl (Nat.le_of_ble_eq_true rfl) dX1_sum_7 ⟨by decide, by decide⟩ (fun hw H1 q9 ce z1 z2 z3 z4 z5 => ?_) (fun o1 => ?_)
  · exact ox_M hex hk z3 z4 z5 ⟨rfl, fun z => hw z.1⟩ hS z1 z2 (fun t ht hvm => ⟨by rw [ht]; exact hP.on z2, va_K.moved hvm hK, hD⟩) (by decide) (by decide)
  refine lv_iload_n C.1 C.2.1 dX1_sum_10 rfl (lv_at hl 3 rfl) ?_
  refine cx_S (As := [.int (ii u)]) (rest := []) C (c_check l hL D z0 u hu1) (pcx_pre _ hN hZ (hP.sub (ws' := []) [] rfl) (hK.sub (tys' := []) [] rfl)) aw_b_X1_checkRegister aw_m_X1_66 aw_s_X1_checkRegister aw_i_X1 ⟨rfl, rfl⟩ 1 (by decide +kernel) rfl ⟨by decide, by decide⟩ hl.1 rfl (Nat.le_of_ble_eq_true rfl) dX1_sum_11 ⟨by decide, by decide⟩ (fun hw H1 q9 ce z1 z2 z3 z4 z5 => ?_) (fun o2 => ?_)
  · exact ox_M hex hk z3 z4 z5 ⟨rfl, fun z => hw z.2.1⟩ hS z1 z2 (fun t ht hvm => ⟨by rw [ht]; exact hP.on z2, va_K.moved hvm hK, hD⟩) (by decide) (by decide)
  refine lv_iload_n C.1 C.2.1 dX1_sum_14 rfl (lv_at hl 4 rfl) ?_
  refine cx_S (As := [.int (ii v)]) (rest := []) C (c_check l hL D z0 v hv1) (pcx_pre _ hN hZ (hP.sub (ws' := []) [] rfl) (hK.sub (tys' := []) [] rfl)) aw_b_X1_checkRegister aw_m_X1_66 aw_s_X1_checkRegister aw_i_X1 ⟨rfl, rfl⟩ 1 (by decide +kernel) rfl ⟨by decide, by decide⟩ hl.1 rfl (Nat.le_of_ble_eq_true rfl) dX1_sum_15 ⟨by decide, by decide⟩ (fun hw H1 q9 ce z1 z2 z3 z4 z5 => ?_) (fun o3 => ?_)
  · exact ox_M hex hk z3 z4 z5 ⟨rfl, fun z => hw z.2.2⟩ hS z1 z2 (fun t ht hvm => ⟨by rw [ht]; exact hP.on z2, va_K.moved hvm hK, hD⟩) (by decide) (by decide)
  have p1 := o1
  have p2 := o2
  have p3 := o3
  unfold okr at p1 p2 p3
  refine lv_aload_n C.1 C.2.1 dX1_sum_18 rfl (lv_at hl 1 rfl) ?_
  refine gf C hK hP 0 rfl rfl aw_uX1 0 (by decide) aw_f_X1_9 rfl dX1_sum_19 ?_
  refine lv_iload_n C.1 C.2.1 dX1_sum_22 rfl (lv_at hl 2 rfl) ?_
  refine lv_aload C.1 C.2.1 dX1_sum_23 (lv_at hl 0 rfl) ?_
  refine lv_aload_n C.1 C.2.1 dX1_sum_25 rfl (lv_at hl 1 rfl) ?_
  refine gf C hK hP 0 rfl rfl aw_uX1 0 (by decide) aw_f_X1_9 rfl dX1_sum_26 ?_
  refine lv_iload_n C.1 C.2.1 dX1_sum_29 rfl (lv_at hl 3 rfl) ?_
  refine i_ald C hK hP 1 0 rfl rfl u.toNat (by omega) (by omega) (by omega) dX1_sum_30 ?_
  refine lv_aload_n C.1 C.2.1 dX1_sum_31 rfl (lv_at hl 1 rfl) ?_
  refine gf C hK hP 0 rfl rfl aw_uX1 0 (by decide) aw_f_X1_9 rfl dX1_sum_32 ?_
  refine lv_iload_n C.1 C.2.1 dX1_sum_35 rfl (lv_at hl 4 rfl) ?_
  refine i_ald C hK hP 1 0 rfl rfl v.toNat (by omega) (by omega) (by omega) dX1_sum_36 ?_
  refine ca_V (As := [.int (ii (ecd (P u.toNat))), .int (ii (ecd (P v.toNat)))]) (rest := [.int (ii d), .ref hr0]) C (c_X0_plus l D hc p a b n (ecd G) hp ha hb (P u.toNat) (P v.toNat) (hPs _) (hPs _)) (pcw_preV [.int (ii (ecd (P u.toNat))), .int (ii (ecd (P v.toNat)))] hN (hP.sub (ws' := [(hc, .inr (0, [.int (ii (p : Int)), .int (ii (a : Int)), .int (ii (b : Int)), .int (ii (n : Int)), .int (ii (ecd G))]))]) [2] rfl) (hK.sub (tys' := []) [] rfl) 0 (ci := 0) rfl rfl) aw_b_X0_plus aw_m_X1_83 aw_v_X0_plus aw_i_X0 aw_e_X0_plus ⟨rfl, rfl⟩ 2 (by decide +kernel) rfl ⟨by decide, by decide⟩ hl.1 rfl (Nat.le_of_ble_eq_true rfl) dX1_sum_37 ⟨by decide, by decide⟩ ?_
  refine i_ast C hK hP hD hS 1 0 rfl rfl d.toNat (by omega) (by omega) (by omega) dX1_sum_40 (fun H1 locs1 hP hD hS => ?_)
  rw [up_P P d.toNat (plF p a (P u.toNat) (P v.toNat))] at hP hD
  have hP : va_P D clX [(hx, .inr (1, [.ref hr0, .ref hq0, .ref hc, .int (ii sec), .int (ii dr)])), (hr0, .inl (cI, 4, .inl (fun j => ii (ecd ((va_up P d.toNat (plF p a (P u.toNat) (P v.toNat))) j))))), (hc, .inr (0, [.int (ii (p : Int)), .int (ii (a : Int)), .int (ii (b : Int)), .int (ii (n : Int)), .int (ii (ecd G))]))] H1 := hP
  have hD : va_D A [(hx, .inr (1, [.ref hr0, .ref hq0, .ref hc, .int (ii sec), .int (ii dr)])), (hr0, .inl (cI, 4, .inl (fun j => ii (ecd ((va_up P d.toNat (plF p a (P u.toNat) (P v.toNat))) j))))), (hc, .inr (0, [.int (ii (p : Int)), .int (ii (a : Int)), .int (ii (b : Int)), .int (ii (n : Int)), .int (ii (ecd G))]))] := hD
  exact py_v C hr hk hS ⟨o1, o2, o3⟩ (fun t ht hvm => ⟨by rw [ht]; exact hP, va_K.moved hvm hK, hD⟩) dX1_sum_41 (by decide) (by decide)
set_option maxRecDepth 100000 in
set_option maxHeartbeats 4000000 in
theorem c_X1_times (l : Launch) (hL : l.stackTraces = false) (D : va_G) (z0 sz : Nat) (p a b n : Nat) (G : Option (Nat × Nat)) (hp : 5 ≤ p ∧ p ≤ 1021) (ha : a < p) (hb : b < p) (hn : 2 ≤ n ∧ n ≤ 1100) (hG : sm2 p G) (hx hr0 hq0 hc : Nat) (sec dr : Int) (cI : ClassId) (P : Nat → Option (Nat × Nat)) (hPs : ∀ j, sm2 p (P j)) (d k u : Int) (hd1 : rg d) (hk1 : rg k) (hu1 : rg u) : vx_Met l yX1_times (Cond.code yX1_times cX1_times 5 none :: AW) ({ frames := 7, cells := 2, slots := 12, locals := 130 } : Room) (PcM D z0 sz [(hx, .inr (1, [.ref hr0, .ref hq0, .ref hc, .int (ii sec), .int (ii dr)])), (hr0, .inl (cI, 4, .inl (fun j => ii (ecd (P j))))), (hc, .inr (0, [.int (ii (p : Int)), .int (ii (a : Int)), .int (ii (b : Int)), .int (ii (n : Int)), .int (ii (ecd G))]))] [(cI, .int)] [.ref hx, .int (ii d), .int (ii k), .int (ii u)]) (QcM none (okr d ∧ okr u) (Wd D [(hx, .inr (1, [.ref hr0, .ref hq0, .ref hc, .int (ii sec), .int (ii dr)])), (hr0, .inl (cI, 4, .inl (fun j => ii (ecd ((va_up P d.toNat (muF p a 11 none (P u.toNat) (k % (n : Int)).toNat)) j))))), (hc, .inr (0, [.int (ii (p : Int)), .int (ii (a : Int)), .int (ii (b : Int)), .int (ii (n : Int)), .int (ii (ecd G))]))] [(cI, .int)] (va_A [(hx, .inr (1, [.ref hr0, .ref hq0, .ref hc, .int (ii sec), .int (ii dr)])), (hr0, .inl (cI, 4, .inl (fun j => ii (ecd (P j))))), (hc, .inr (0, [.int (ii (p : Int)), .int (ii (a : Int)), .int (ii (b : Int)), .int (ii (n : Int)), .int (ii (ecd G))]))] sz)) (va_A [(hx, .inr (1, [.ref hr0, .ref hq0, .ref hc, .int (ii sec), .int (ii dr)])), (hr0, .inl (cI, 4, .inl (fun j => ii (ecd (P j))))), (hc, .inr (0, [.int (ii (p : Int)), .int (ii (a : Int)), .int (ii (b : Int)), .int (ii (n : Int)), .int (ii (ecd G))]))] sz)) (XcM (fun E => E = "java/lang/IndexOutOfBoundsException" ∧ ¬ (okr d ∧ okr u)) (Wd D [(hx, .inr (1, [.ref hr0, .ref hq0, .ref hc, .int (ii sec), .int (ii dr)])), (hr0, .inl (cI, 4, .inl (fun j => ii (ecd (P j))))), (hc, .inr (0, [.int (ii (p : Int)), .int (ii (a : Int)), .int (ii (b : Int)), .int (ii (n : Int)), .int (ii (ecd G))]))] [(cI, .int)] (va_A [(hx, .inr (1, [.ref hr0, .ref hq0, .ref hc, .int (ii sec), .int (ii dr)])), (hr0, .inl (cI, 4, .inl (fun j => ii (ecd (P j))))), (hc, .inr (0, [.int (ii (p : Int)), .int (ii (a : Int)), .int (ii (b : Int)), .int (ii (n : Int)), .int (ii (ecd G))]))] sz)) (va_A [(hx, .inr (1, [.ref hr0, .ref hq0, .ref hc, .int (ii sec), .int (ii dr)])), (hr0, .inl (cI, 4, .inl (fun j => ii (ecd (P j))))), (hc, .inr (0, [.int (ii (p : Int)), .int (ii (a : Int)), .int (ii (b : Int)), .int (ii (n : Int)), .int (ii (ecd G))]))] sz)) 2 12 (va_A [(hx, .inr (1, [.ref hr0, .ref hq0, .ref hc, .int (ii sec), .int (ii dr)])), (hr0, .inl (cI, 4, .inl (fun j => ii (ecd (P j))))), (hc, .inr (0, [.int (ii (p : Int)), .int (ii (a : Int)), .int (ii (b : Int)), .int (ii (n : Int)), .int (ii (ecd G))]))] sz) := by
  refine mt_M (by decide +kernel) (Nat.le_of_ble_eq_true rfl) ?_
  intro P0 E0 S0 M0 A0 B0 T0 K0 C hN hZ hsz hz hP hK hD hAz hA hr hk hex hin ls hl
  have hl : lv_has ls 5 [(0, .ref hx), (1, .int (ii d)), (2, .int (ii k)), (3, .int (ii u))] := hl
  generalize hAe : va_A [(hx, .inr (1, [.ref hr0, .ref hq0, .ref hc, .int (ii sec), .int (ii dr)])), (hr0, .inl (cI, 4, .inl (fun j => ii (ecd (P j))))), (hc, .inr (0, [.int (ii (p : Int)), .int (ii (a : Int)), .int (ii (b : Int)), .int (ii (n : Int)), .int (ii (ecd G))]))] sz = A at hD hAz hA ⊢
  have hS : va_S A S0.heap S0.heap [] := va_S.rf
  refine lv_aload_n C.1 C.2.1 dX1_times_0 rfl (lv_at hl 0 rfl) ?_
  refine ca_V (As := []) (rest := []) C (c_taken_c l D hx hr0 hq0 hc sec dr) (pcw_preV [] hN (hP.sub (ws' := [(hx, .inr (1, [.ref hr0, .ref hq0, .ref hc, .int (ii sec), .int (ii dr)]))]) [0] rfl) (hK.sub (tys' := []) [] rfl) 0 (ci := 1) rfl rfl) aw_b_X1_takenCurve aw_m_X1_62 aw_v_X1_takenCurve aw_i_X1 aw_e_X1_takenCurve ⟨rfl, rfl⟩ 0 (by decide +kernel) rfl ⟨by decide, by decide⟩ hl.1 rfl (Nat.le_of_ble_eq_true rfl) dX1_times_1 ⟨by decide, by decide⟩ ?_
  refine lv_astore C.1 C.2.1 dX1_times_4 hl (by decide) rfl (fun ls hl => ?_)
  have hl : lv_has ls 5 [(4, .ref hc), (0, .ref hx), (1, .int (ii d)), (2, .int (ii k)), (3, .int (ii u))] := hl
  refine lv_iload_n C.1 C.2.1 dX1_times_6 rfl (lv_at hl 2 rfl) ?_
  refine cx_S (As := [.int (ii d)]) (rest := []) C (c_check l hL D z0 d hd1) (pcx_pre _ hN hZ (hP.sub (ws' := []) [] rfl) (hK.sub (tys' := []) [] rfl)) aw_b_X1_checkRegister aw_m_X1_66 aw_s_X1_checkRegister aw_i_X1 ⟨rfl, rfl⟩ 1 (by decide +kernel) rfl ⟨by decide, by decide⟩ hl.1 rfl (Nat.le_of_ble_eq_true rfl) dX1_times_7 ⟨by decide, by decide⟩ (fun hw H1 q9 ce z1 z2 z3 z4 z5 => ?_) (fun o1 => ?_)
  · exact ox_M hex hk z3 z4 z5 ⟨rfl, fun z => hw z.1⟩ hS z1 z2 (fun t ht hvm => ⟨by rw [ht]; exact hP.on z2, va_K.moved hvm hK, hD⟩) (by decide) (by decide)
  refine lv_iload_n C.1 C.2.1 dX1_times_10 rfl (lv_at hl 4 rfl) ?_
  refine cx_S (As := [.int (ii u)]) (rest := []) C (c_check l hL D z0 u hu1) (pcx_pre _ hN hZ (hP.sub (ws' := []) [] rfl) (hK.sub (tys' := []) [] rfl)) aw_b_X1_checkRegister aw_m_X1_66 aw_s_X1_checkRegister aw_i_X1 ⟨rfl, rfl⟩ 1 (by decide +kernel) rfl ⟨by decide, by decide⟩ hl.1 rfl (Nat.le_of_ble_eq_true rfl) dX1_times_11 ⟨by decide, by decide⟩ (fun hw H1 q9 ce z1 z2 z3 z4 z5 => ?_) (fun o2 => ?_)
  · exact ox_M hex hk z3 z4 z5 ⟨rfl, fun z => hw z.2⟩ hS z1 z2 (fun t ht hvm => ⟨by rw [ht]; exact hP.on z2, va_K.moved hvm hK, hD⟩) (by decide) (by decide)
  have p1 := o1
  have p2 := o2
  unfold okr at p1 p2
  refine lv_aload_n C.1 C.2.1 dX1_times_14 rfl (lv_at hl 1 rfl) ?_
  refine gf C hK hP 0 rfl rfl aw_uX1 0 (by decide) aw_f_X1_9 rfl dX1_times_15 ?_
  refine lv_iload_n C.1 C.2.1 dX1_times_18 rfl (lv_at hl 2 rfl) ?_
  refine lv_aload C.1 C.2.1 dX1_times_19 (lv_at hl 0 rfl) ?_
  refine lv_iload_n C.1 C.2.1 dX1_times_21 rfl (lv_at hl 3 rfl) ?_
  refine lv_aload_n C.1 C.2.1 dX1_times_22 rfl (lv_at hl 1 rfl) ?_
  refine gf C hK hP 0 rfl rfl aw_uX1 0 (by decide) aw_f_X1_9 rfl dX1_times_23 ?_
  refine lv_iload_n C.1 C.2.1 dX1_times_26 rfl (lv_at hl 4 rfl) ?_
  refine i_ald C hK hP 1 0 rfl rfl u.toNat (by omega) (by omega) (by omega) dX1_times_27 ?_
  refine ca_V (As := [.int (ii k), .int (ii (ecd (P u.toNat)))]) (rest := [.int (ii d), .ref hr0]) C (c_X0_multiple l D hc p a b n (ecd G) hp ha hb (by omega) k hk1 (P u.toNat) (hPs _)) (pcw_preV [.int (ii k), .int (ii (ecd (P u.toNat)))] hN (hP.sub (ws' := [(hc, .inr (0, [.int (ii (p : Int)), .int (ii (a : Int)), .int (ii (b : Int)), .int (ii (n : Int)), .int (ii (ecd G))]))]) [2] rfl) (hK.sub (tys' := []) [] rfl) 0 (ci := 0) rfl rfl) aw_b_X0_multiple aw_m_X1_86 aw_v_X0_multiple aw_i_X0 aw_e_X0_multiple ⟨rfl, rfl⟩ 2 (by decide +kernel) rfl ⟨by decide, by decide⟩ hl.1 rfl (Nat.le_of_ble_eq_true rfl) dX1_times_28 ⟨by decide, by decide⟩ ?_
  refine i_ast C hK hP hD hS 1 0 rfl rfl d.toNat (by omega) (by omega) (by omega) dX1_times_31 (fun H1 locs1 hP hD hS => ?_)
  rw [up_P P d.toNat (muF p a 11 none (P u.toNat) (k % (n : Int)).toNat)] at hP hD
  have hP : va_P D clX [(hx, .inr (1, [.ref hr0, .ref hq0, .ref hc, .int (ii sec), .int (ii dr)])), (hr0, .inl (cI, 4, .inl (fun j => ii (ecd ((va_up P d.toNat (muF p a 11 none (P u.toNat) (k % (n : Int)).toNat)) j))))), (hc, .inr (0, [.int (ii (p : Int)), .int (ii (a : Int)), .int (ii (b : Int)), .int (ii (n : Int)), .int (ii (ecd G))]))] H1 := hP
  have hD : va_D A [(hx, .inr (1, [.ref hr0, .ref hq0, .ref hc, .int (ii sec), .int (ii dr)])), (hr0, .inl (cI, 4, .inl (fun j => ii (ecd ((va_up P d.toNat (muF p a 11 none (P u.toNat) (k % (n : Int)).toNat)) j))))), (hc, .inr (0, [.int (ii (p : Int)), .int (ii (a : Int)), .int (ii (b : Int)), .int (ii (n : Int)), .int (ii (ecd G))]))] := hD
  exact py_v C hr hk hS ⟨o1, o2⟩ (fun t ht hvm => ⟨by rw [ht]; exact hP, va_K.moved hvm hK, hD⟩) dX1_times_32 (by decide) (by decide)
set_option maxRecDepth 100000 in
set_option maxHeartbeats 4000000 in
theorem c_X1_decode (l : Launch) (hL : l.stackTraces = false) (D : va_G) (z0 sz : Nat) (p a b n : Nat) (G : Option (Nat × Nat)) (hp : 5 ≤ p ∧ p ≤ 1021) (ha : a < p) (hb : b < p) (hn : 2 ≤ n ∧ n ≤ 1100) (hG : sm2 p G) (hx hr0 hq0 hc : Nat) (sec dr : Int) (cI : ClassId) (P : Nat → Option (Nat × Nat)) (hPs : ∀ j, sm2 p (P j)) (h0 : ∀ x, x < p → cub p a b x ≠ 0) (d k m : Int) (hd1 : rg d) (hk1 : rg k) (hm : rl m) : vx_Met l yX1_decode (Cond.code yX1_decode cX1_decode 7 none :: AW) ({ frames := 7, cells := 2, slots := 12, locals := 130 } : Room) (PcM D z0 sz [(hx, .inr (1, [.ref hr0, .ref hq0, .ref hc, .int (ii sec), .int (ii dr)])), (hr0, .inl (cI, 4, .inl (fun j => ii (ecd (P j))))), (hc, .inr (0, [.int (ii (p : Int)), .int (ii (a : Int)), .int (ii (b : Int)), .int (ii (n : Int)), .int (ii (ecd G))]))] [(cI, .int)] [.ref hx, .int (ii d), .int (ii k), .long (li m)]) (QcM none (okr d ∧ pbF p a b k m ≠ -2) (Wd D [(hx, .inr (1, [.ref hr0, .ref hq0, .ref hc, .int (ii sec), .int (ii dr)])), (hr0, .inl (cI, 4, .inl (fun j => ii (ecd ((va_up P d.toNat (ofC (pbF p a b k m))) j))))), (hc, .inr (0, [.int (ii (p : Int)), .int (ii (a : Int)), .int (ii (b : Int)), .int (ii (n : Int)), .int (ii (ecd G))]))] [(cI, .int)] (va_A [(hx, .inr (1, [.ref hr0, .ref hq0, .ref hc, .int (ii sec), .int (ii dr)])), (hr0, .inl (cI, 4, .inl (fun j => ii (ecd (P j))))), (hc, .inr (0, [.int (ii (p : Int)), .int (ii (a : Int)), .int (ii (b : Int)), .int (ii (n : Int)), .int (ii (ecd G))]))] sz)) (va_A [(hx, .inr (1, [.ref hr0, .ref hq0, .ref hc, .int (ii sec), .int (ii dr)])), (hr0, .inl (cI, 4, .inl (fun j => ii (ecd (P j))))), (hc, .inr (0, [.int (ii (p : Int)), .int (ii (a : Int)), .int (ii (b : Int)), .int (ii (n : Int)), .int (ii (ecd G))]))] sz)) (XcM (fun E => (E = "java/lang/IndexOutOfBoundsException" ∧ ¬ okr d) ∨ (E = "java/lang/IllegalArgumentException" ∧ okr d ∧ pbF p a b k m = -2)) (Wd D [(hx, .inr (1, [.ref hr0, .ref hq0, .ref hc, .int (ii sec), .int (ii dr)])), (hr0, .inl (cI, 4, .inl (fun j => ii (ecd (P j))))), (hc, .inr (0, [.int (ii (p : Int)), .int (ii (a : Int)), .int (ii (b : Int)), .int (ii (n : Int)), .int (ii (ecd G))]))] [(cI, .int)] (va_A [(hx, .inr (1, [.ref hr0, .ref hq0, .ref hc, .int (ii sec), .int (ii dr)])), (hr0, .inl (cI, 4, .inl (fun j => ii (ecd (P j))))), (hc, .inr (0, [.int (ii (p : Int)), .int (ii (a : Int)), .int (ii (b : Int)), .int (ii (n : Int)), .int (ii (ecd G))]))] sz)) (va_A [(hx, .inr (1, [.ref hr0, .ref hq0, .ref hc, .int (ii sec), .int (ii dr)])), (hr0, .inl (cI, 4, .inl (fun j => ii (ecd (P j))))), (hc, .inr (0, [.int (ii (p : Int)), .int (ii (a : Int)), .int (ii (b : Int)), .int (ii (n : Int)), .int (ii (ecd G))]))] sz)) 2 12 (va_A [(hx, .inr (1, [.ref hr0, .ref hq0, .ref hc, .int (ii sec), .int (ii dr)])), (hr0, .inl (cI, 4, .inl (fun j => ii (ecd (P j))))), (hc, .inr (0, [.int (ii (p : Int)), .int (ii (a : Int)), .int (ii (b : Int)), .int (ii (n : Int)), .int (ii (ecd G))]))] sz) := by
  refine mt_M (by decide +kernel) (Nat.le_of_ble_eq_true rfl) ?_
  intro P0 E0 S0 M0 A0 B0 T0 K0 C hN hZ hsz hz hP hK hD hAz hA hr hk hex hin ls hl
  have hl : lv_has ls 7 [(0, .ref hx), (1, .int (ii d)), (2, .int (ii k)), (3, .long (li m))] := hl
  generalize hAe : va_A [(hx, .inr (1, [.ref hr0, .ref hq0, .ref hc, .int (ii sec), .int (ii dr)])), (hr0, .inl (cI, 4, .inl (fun j => ii (ecd (P j))))), (hc, .inr (0, [.int (ii (p : Int)), .int (ii (a : Int)), .int (ii (b : Int)), .int (ii (n : Int)), .int (ii (ecd G))]))] sz = A at hD hAz hA ⊢
  have hS : va_S A S0.heap S0.heap [] := va_S.rf
  refine lv_aload_n C.1 C.2.1 dX1_decode_0 rfl (lv_at hl 0 rfl) ?_
  refine ca_V (As := []) (rest := []) C (c_taken_c l D hx hr0 hq0 hc sec dr) (pcw_preV [] hN (hP.sub (ws' := [(hx, .inr (1, [.ref hr0, .ref hq0, .ref hc, .int (ii sec), .int (ii dr)]))]) [0] rfl) (hK.sub (tys' := []) [] rfl) 0 (ci := 1) rfl rfl) aw_b_X1_takenCurve aw_m_X1_62 aw_v_X1_takenCurve aw_i_X1 aw_e_X1_takenCurve ⟨rfl, rfl⟩ 0 (by decide +kernel) rfl ⟨by decide, by decide⟩ hl.1 rfl (Nat.le_of_ble_eq_true rfl) dX1_decode_1 ⟨by decide, by decide⟩ ?_
  refine lv_astore C.1 C.2.1 dX1_decode_4 hl (by decide) rfl (fun ls hl => ?_)
  have hl : lv_has ls 7 [(5, .ref hc), (0, .ref hx), (1, .int (ii d)), (2, .int (ii k)), (3, .long (li m))] := hl
  refine lv_iload_n C.1 C.2.1 dX1_decode_6 rfl (lv_at hl 2 rfl) ?_
  refine cx_S (As := [.int (ii d)]) (rest := []) C (c_check l hL D z0 d hd1) (pcx_pre _ hN hZ (hP.sub (ws' := []) [] rfl) (hK.sub (tys' := []) [] rfl)) aw_b_X1_checkRegister aw_m_X1_66 aw_s_X1_checkRegister aw_i_X1 ⟨rfl, rfl⟩ 1 (by decide +kernel) rfl ⟨by decide, by decide⟩ hl.1 rfl (Nat.le_of_ble_eq_true rfl) dX1_decode_7 ⟨by decide, by decide⟩ (fun hw H1 q9 ce z1 z2 z3 z4 z5 => ?_) (fun ho => ?_)
  · exact ox_M hex hk z3 z4 z5 (Or.inl ⟨rfl, hw⟩) hS z1 z2 (fun t ht hvm => ⟨by rw [ht]; exact hP.on z2, va_K.moved hvm hK, hD⟩) (by decide) (by decide)
  have ho2 := ho
  unfold okr at ho2
  have pt := pbF_pt hp h0 k m
  refine lv_aload C.1 C.2.1 dX1_decode_10 (lv_at hl 0 rfl) ?_
  refine lv_iload_n C.1 C.2.1 dX1_decode_12 rfl (lv_at hl 3 rfl) ?_
  refine lv_lload_n C.1 C.2.1 dX1_decode_13 rfl (lv_at hl 4 rfl) ?_
  refine ca_V (As := [.int (ii k), .long (li m)]) (rest := []) C (c_X0_pointOfBytes l D hc p a b n (ecd G) hp ha hb k m hk1 hm) (pcw_preV [.int (ii k), .long (li m)] hN (hP.sub (ws' := [(hc, .inr (0, [.int (ii (p : Int)), .int (ii (a : Int)), .int (ii (b : Int)), .int (ii (n : Int)), .int (ii (ecd G))]))]) [2] rfl) (hK.sub (tys' := []) [] rfl) 0 (ci := 0) rfl rfl) aw_b_X0_pointOfBytes aw_m_X1_103 aw_v_X0_pointOfBytes aw_i_X0 aw_e_X0_pointOfBytes ⟨rfl, rfl⟩ 2 (by decide +kernel) rfl ⟨by decide, by decide⟩ hl.1 rfl (Nat.le_of_ble_eq_true rfl) dX1_decode_14 ⟨by decide, by decide⟩ ?_
  have bd : -2 ≤ pbF p a b k m ∧ pbF p a b k m ≤ 66912255 := by
    by_cases q : pbF p a b k m = -2
    · omega
    · obtain ⟨e1, e2⟩ := pt q
      have := ecd_b hp.2 e2
      omega
  refine lv_istore C.1 C.2.1 dX1_decode_17 hl (by decide) rfl (fun ls hl => ?_)
  have hl : lv_has ls 7 [(6, .int (ii (pbF p a b k m))), (5, .ref hc), (0, .ref hx), (1, .int (ii d)), (2, .int (ii k)), (3, .long (li m))] := hl
  refine lv_iload C.1 C.2.1 dX1_decode_19 (lv_at hl 0 rfl) ?_
  refine i_bipush C dX1_decode_21 (by decide +kernel) ?_
  refine i_icmp_ne (tgt := 36) C dX1_decode_23 (by decide) ⟨by omega, by omega⟩ ⟨by omega, by omega⟩ (fun h1 => ?_) (fun h1 => ?_)
  · obtain ⟨e1, e2⟩ := pt h1
    refine lv_aload_n C.1 C.2.1 dX1_decode_36 rfl (lv_at hl 2 rfl) ?_
    refine gf C hK hP 0 rfl rfl aw_uX1 0 (by decide) aw_f_X1_9 rfl dX1_decode_37 ?_
    refine lv_iload_n C.1 C.2.1 dX1_decode_40 rfl (lv_at hl 3 rfl) ?_
    refine lv_iload C.1 C.2.1 dX1_decode_41 (lv_at hl 0 rfl) ?_
    refine i_top (b := ecd (ofC (pbF p a b k m))) e1.symm ?_
    refine i_ast C hK hP hD hS 1 0 rfl rfl d.toNat (by omega) (by omega) (by omega) dX1_decode_43 (fun H1 locs1 hP hD hS => ?_)
    rw [up_P P d.toNat (ofC (pbF p a b k m))] at hP hD
    have hP : va_P D clX [(hx, .inr (1, [.ref hr0, .ref hq0, .ref hc, .int (ii sec), .int (ii dr)])), (hr0, .inl (cI, 4, .inl (fun j => ii (ecd ((va_up P d.toNat (ofC (pbF p a b k m))) j))))), (hc, .inr (0, [.int (ii (p : Int)), .int (ii (a : Int)), .int (ii (b : Int)), .int (ii (n : Int)), .int (ii (ecd G))]))] H1 := hP
    have hD : va_D A [(hx, .inr (1, [.ref hr0, .ref hq0, .ref hc, .int (ii sec), .int (ii dr)])), (hr0, .inl (cI, 4, .inl (fun j => ii (ecd ((va_up P d.toNat (ofC (pbF p a b k m))) j))))), (hc, .inr (0, [.int (ii (p : Int)), .int (ii (a : Int)), .int (ii (b : Int)), .int (ii (n : Int)), .int (ii (ecd G))]))] := hD
    exact py_v C hr hk hS ⟨ho, h1⟩ (fun t ht hvm => ⟨by rw [ht]; exact hP, va_K.moved hvm hK, hD⟩) dX1_decode_44 (by decide) (by decide)
  · exact th_S (z0 := z0) C hL hN hZ va_S.rf (text := "not well-formed") (by decide +kernel) (by decide +kernel) tw_iae hl.1 dX1_decode_26 dX1_decode_29 dX1_decode_30 dX1_decode_32 dX1_decode_35 hex ⟨by decide, by decide, by decide, by decide⟩ (Nat.le_of_ble_eq_true rfl) hk (fun t hvm z1 z2 => ⟨Or.inr ⟨rfl, ho, Classical.not_not.mp h1⟩, ⟨hP.on z2, va_K.moved hvm hK, hD⟩, z1, fun q h1 _ => z2 q h1⟩) (fun q h => by cases h) (by decide) (by decide)
set_option maxRecDepth 100000 in
set_option maxHeartbeats 4000000 in
theorem c_X1_key (l : Launch) (hL : l.stackTraces = false) (D : va_G) (z0 sz : Nat) (p a b n : Nat) (G : Option (Nat × Nat)) (hp : 5 ≤ p ∧ p ≤ 1021) (ha : a < p) (hb : b < p) (hn : 2 ≤ n ∧ n ≤ 1100) (hG : sm2 p G) (hx hr0 hq0 hc : Nat) (sec dr : Int) (cI : ClassId) (P : Nat → Option (Nat × Nat)) (hPs : ∀ j, sm2 p (P j)) (r d : Int) (hr1 : rg r) (hd1 : rg d) : vx_Met l yX1_key (Cond.code yX1_key cX1_key 4 none :: AW) ({ frames := 7, cells := 2, slots := 12, locals := 130 } : Room) (PcM D z0 sz [(hx, .inr (1, [.ref hr0, .ref hq0, .ref hc, .int (ii sec), .int (ii dr)])), (hr0, .inl (cI, 4, .inl (fun j => ii (ecd (P j))))), (hc, .inr (0, [.int (ii (p : Int)), .int (ii (a : Int)), .int (ii (b : Int)), .int (ii (n : Int)), .int (ii (ecd G))]))] [(cI, .int)] [.ref hx, .int (ii r), .int (ii d)]) (QcM none (okr r ∧ unF n d ≠ 0) (Wd D [(hx, .inr (1, [.ref hr0, .ref hq0, .ref hc, .int (ii d), .int (ii dr)])), (hr0, .inl (cI, 4, .inl (fun j => ii (ecd ((va_up P r.toNat (muF p a 11 none G (d % (n : Int)).toNat)) j))))), (hc, .inr (0, [.int (ii (p : Int)), .int (ii (a : Int)), .int (ii (b : Int)), .int (ii (n : Int)), .int (ii (ecd G))]))] [(cI, .int)] (va_A [(hx, .inr (1, [.ref hr0, .ref hq0, .ref hc, .int (ii sec), .int (ii dr)])), (hr0, .inl (cI, 4, .inl (fun j => ii (ecd (P j))))), (hc, .inr (0, [.int (ii (p : Int)), .int (ii (a : Int)), .int (ii (b : Int)), .int (ii (n : Int)), .int (ii (ecd G))]))] sz)) (va_A [(hx, .inr (1, [.ref hr0, .ref hq0, .ref hc, .int (ii sec), .int (ii dr)])), (hr0, .inl (cI, 4, .inl (fun j => ii (ecd (P j))))), (hc, .inr (0, [.int (ii (p : Int)), .int (ii (a : Int)), .int (ii (b : Int)), .int (ii (n : Int)), .int (ii (ecd G))]))] sz)) (XcM (fun E => (E = "java/lang/IndexOutOfBoundsException" ∧ ¬ okr r) ∨ (E = "java/lang/IllegalArgumentException" ∧ okr r ∧ unF n d = 0)) (Wd D [(hx, .inr (1, [.ref hr0, .ref hq0, .ref hc, .int (ii sec), .int (ii dr)])), (hr0, .inl (cI, 4, .inl (fun j => ii (ecd (P j))))), (hc, .inr (0, [.int (ii (p : Int)), .int (ii (a : Int)), .int (ii (b : Int)), .int (ii (n : Int)), .int (ii (ecd G))]))] [(cI, .int)] (va_A [(hx, .inr (1, [.ref hr0, .ref hq0, .ref hc, .int (ii sec), .int (ii dr)])), (hr0, .inl (cI, 4, .inl (fun j => ii (ecd (P j))))), (hc, .inr (0, [.int (ii (p : Int)), .int (ii (a : Int)), .int (ii (b : Int)), .int (ii (n : Int)), .int (ii (ecd G))]))] sz)) (va_A [(hx, .inr (1, [.ref hr0, .ref hq0, .ref hc, .int (ii sec), .int (ii dr)])), (hr0, .inl (cI, 4, .inl (fun j => ii (ecd (P j))))), (hc, .inr (0, [.int (ii (p : Int)), .int (ii (a : Int)), .int (ii (b : Int)), .int (ii (n : Int)), .int (ii (ecd G))]))] sz)) 2 12 (va_A [(hx, .inr (1, [.ref hr0, .ref hq0, .ref hc, .int (ii sec), .int (ii dr)])), (hr0, .inl (cI, 4, .inl (fun j => ii (ecd (P j))))), (hc, .inr (0, [.int (ii (p : Int)), .int (ii (a : Int)), .int (ii (b : Int)), .int (ii (n : Int)), .int (ii (ecd G))]))] sz) := by
  refine mt_M (by decide +kernel) (Nat.le_of_ble_eq_true rfl) ?_
  intro P0 E0 S0 M0 A0 B0 T0 K0 C hN hZ hsz hz hP hK hD hAz hA hr hk hex hin ls hl
  have hl : lv_has ls 4 [(0, .ref hx), (1, .int (ii r)), (2, .int (ii d))] := hl
  generalize hAe : va_A [(hx, .inr (1, [.ref hr0, .ref hq0, .ref hc, .int (ii sec), .int (ii dr)])), (hr0, .inl (cI, 4, .inl (fun j => ii (ecd (P j))))), (hc, .inr (0, [.int (ii (p : Int)), .int (ii (a : Int)), .int (ii (b : Int)), .int (ii (n : Int)), .int (ii (ecd G))]))] sz = A at hD hAz hA ⊢
  have hS : va_S A S0.heap S0.heap [] := va_S.rf
  refine lv_aload_n C.1 C.2.1 dX1_key_0 rfl (lv_at hl 0 rfl) ?_
  refine ca_V (As := []) (rest := []) C (c_taken_c l D hx hr0 hq0 hc sec dr) (pcw_preV [] hN (hP.sub (ws' := [(hx, .inr (1, [.ref hr0, .ref hq0, .ref hc, .int (ii sec), .int (ii dr)]))]) [0] rfl) (hK.sub (tys' := []) [] rfl) 0 (ci := 1) rfl rfl) aw_b_X1_takenCurve aw_m_X1_62 aw_v_X1_takenCurve aw_i_X1 aw_e_X1_takenCurve ⟨rfl, rfl⟩ 0 (by decide +kernel) rfl ⟨by decide, by decide⟩ hl.1 rfl (Nat.le_of_ble_eq_true rfl) dX1_key_1 ⟨by decide, by decide⟩ ?_
  refine lv_astore_n C.1 C.2.1 dX1_key_4 rfl hl (by decide) rfl (fun ls hl => ?_)
  have hl : lv_has ls 4 [(3, .ref hc), (0, .ref hx), (1, .int (ii r)), (2, .int (ii d))] := hl
  refine lv_iload_n C.1 C.2.1 dX1_key_5 rfl (lv_at hl 2 rfl) ?_
  refine cx_S (As := [.int (ii r)]) (rest := []) C (c_check l hL D z0 r hr1) (pcx_pre _ hN hZ (hP.sub (ws' := []) [] rfl) (hK.sub (tys' := []) [] rfl)) aw_b_X1_checkRegister aw_m_X1_66 aw_s_X1_checkRegister aw_i_X1 ⟨rfl, rfl⟩ 1 (by decide +kernel) rfl ⟨by decide, by decide⟩ hl.1 rfl (Nat.le_of_ble_eq_true rfl) dX1_key_6 ⟨by decide, by decide⟩ (fun hw H1 q9 ce z1 z2 z3 z4 z5 => ?_) (fun ho => ?_)
  · exact ox_M hex hk z3 z4 z5 (Or.inl ⟨rfl, hw⟩) hS z1 z2 (fun t ht hvm => ⟨by rw [ht]; exact hP.on z2, va_K.moved hvm hK, hD⟩) (by decide) (by decide)
  have ho2 := ho
  unfold okr at ho2
  have u1 := unF_b n d
  refine lv_aload_n C.1 C.2.1 dX1_key_9 rfl (lv_at hl 0 rfl) ?_
  refine lv_iload_n C.1 C.2.1 dX1_key_10 rfl (lv_at hl 3 rfl) ?_
  refine ca_V (As := [.int (ii d)]) (rest := []) C (c_X0_isUnit l D hc p a b n (ecd G) (by omega) d hd1) (pcw_preV [.int (ii d)] hN (hP.sub (ws' := [(hc, .inr (0, [.int (ii (p : Int)), .int (ii (a : Int)), .int (ii (b : Int)), .int (ii (n : Int)), .int (ii (ecd G))]))]) [2] rfl) (hK.sub (tys' := []) [] rfl) 0 (ci := 0) rfl rfl) aw_b_X0_isUnit aw_m_X1_109 aw_v_X0_isUnit aw_i_X0 aw_e_X0_isUnit ⟨rfl, rfl⟩ 1 (by decide +kernel) rfl ⟨by decide, by decide⟩ hl.1 rfl (Nat.le_of_ble_eq_true rfl) dX1_key_11 ⟨by decide, by decide⟩ ?_
  generalize unF n d = j at u1 ⊢
  refine i_if_ne (tgt := 27) C dX1_key_14 (by decide) ⟨by omega, by omega⟩ (fun h1 => ?_) (fun h1 => ?_)
  · refine lv_aload_n C.1 C.2.1 dX1_key_27 rfl (lv_at hl 1 rfl) ?_
    refine lv_iload_n C.1 C.2.1 dX1_key_28 rfl (lv_at hl 3 rfl) ?_
    refine p_f C hK hP hD hS 0 rfl rfl aw_uX1 tyX1 tyX1_ok nmX1 3 (by decide) aw_f_X1_26 rfl rfl rfl (Nat.le_of_ble_eq_true rfl) dX1_key_29 (fun H1 locs1 hP hD hS => ?_)
    have hP : va_P D clX [(hx, .inr (1, [.ref hr0, .ref hq0, .ref hc, .int (ii d), .int (ii dr)])), (hr0, .inl (cI, 4, .inl (fun j => ii (ecd (P j))))), (hc, .inr (0, [.int (ii (p : Int)), .int (ii (a : Int)), .int (ii (b : Int)), .int (ii (n : Int)), .int (ii (ecd G))]))] H1 := hP
    have hD : va_D A [(hx, .inr (1, [.ref hr0, .ref hq0, .ref hc, .int (ii d), .int (ii dr)])), (hr0, .inl (cI, 4, .inl (fun j => ii (ecd (P j))))), (hc, .inr (0, [.int (ii (p : Int)), .int (ii (a : Int)), .int (ii (b : Int)), .int (ii (n : Int)), .int (ii (ecd G))]))] := hD
    refine lv_aload_n C.1 C.2.1 dX1_key_32 rfl (lv_at hl 1 rfl) ?_
    refine gf C hK hP 0 rfl rfl aw_uX1 0 (by decide) aw_f_X1_9 rfl dX1_key_33 ?_
    refine lv_iload_n C.1 C.2.1 dX1_key_36 rfl (lv_at hl 2 rfl) ?_
    refine lv_aload_n C.1 C.2.1 dX1_key_37 rfl (lv_at hl 0 rfl) ?_
    refine lv_iload_n C.1 C.2.1 dX1_key_38 rfl (lv_at hl 3 rfl) ?_
    refine lv_aload_n C.1 C.2.1 dX1_key_39 rfl (lv_at hl 0 rfl) ?_
    refine gf C hK hP 2 rfl rfl aw_uX0 4 (by decide) aw_f_X1_80 rfl dX1_key_40 ?_
    refine ca_V (As := [.int (ii d), .int (ii (ecd G))]) (rest := [.int (ii r), .ref hr0]) C (c_X0_multiple l D hc p a b n (ecd G) hp ha hb (by omega) d hd1 G hG) (pcw_preV [.int (ii d), .int (ii (ecd G))] hN (hP.sub (ws' := [(hc, .inr (0, [.int (ii (p : Int)), .int (ii (a : Int)), .int (ii (b : Int)), .int (ii (n : Int)), .int (ii (ecd G))]))]) [2] rfl) (hK.sub (tys' := []) [] rfl) 0 (ci := 0) rfl rfl) aw_b_X0_multiple aw_m_X1_86 aw_v_X0_multiple aw_i_X0 aw_e_X0_multiple ⟨rfl, rfl⟩ 2 (by decide +kernel) rfl ⟨by decide, by decide⟩ hl.1 rfl (Nat.le_of_ble_eq_true rfl) dX1_key_43 ⟨by decide, by decide⟩ ?_
    refine i_ast C hK hP hD hS 1 0 rfl rfl r.toNat (by omega) (by omega) (by omega) dX1_key_46 (fun H1 locs1 hP hD hS => ?_)
    rw [up_P P r.toNat (muF p a 11 none G (d % (n : Int)).toNat)] at hP hD
    have hP : va_P D clX [(hx, .inr (1, [.ref hr0, .ref hq0, .ref hc, .int (ii d), .int (ii dr)])), (hr0, .inl (cI, 4, .inl (fun j => ii (ecd ((va_up P r.toNat (muF p a 11 none G (d % (n : Int)).toNat)) j))))), (hc, .inr (0, [.int (ii (p : Int)), .int (ii (a : Int)), .int (ii (b : Int)), .int (ii (n : Int)), .int (ii (ecd G))]))] H1 := hP
    have hD : va_D A [(hx, .inr (1, [.ref hr0, .ref hq0, .ref hc, .int (ii d), .int (ii dr)])), (hr0, .inl (cI, 4, .inl (fun j => ii (ecd ((va_up P r.toNat (muF p a 11 none G (d % (n : Int)).toNat)) j))))), (hc, .inr (0, [.int (ii (p : Int)), .int (ii (a : Int)), .int (ii (b : Int)), .int (ii (n : Int)), .int (ii (ecd G))]))] := hD
    exact py_v C hr hk hS ⟨ho, h1⟩ (fun t ht hvm => ⟨by rw [ht]; exact hP, va_K.moved hvm hK, hD⟩) dX1_key_47 (by decide) (by decide)
  · exact th_S (z0 := z0) C hL hN hZ va_S.rf (text := "no key of the curve") (by decide +kernel) (by decide +kernel) tw_iae hl.1 dX1_key_17 dX1_key_20 dX1_key_21 dX1_key_23 dX1_key_26 hex ⟨by decide, by decide, by decide, by decide⟩ (Nat.le_of_ble_eq_true rfl) hk (fun t hvm z1 z2 => ⟨Or.inr ⟨rfl, ho, Classical.not_not.mp h1⟩, ⟨hP.on z2, va_K.moved hvm hK, hD⟩, z1, fun q h1 _ => z2 q h1⟩) (fun q h => by cases h) (by decide) (by decide)
end
section
/-! Writers that never throw: head, calls, ends; arrays by their first places. -/
theorem va_P.arr {D : va_G} {ws : va_W} {H : Heap} {q0 a : Nat} {cA : ClassId} {n : Nat} {f g : Nat → Int32} (hP : va_P D clX ws H) (he : ws[q0]? = some (a, .inl (cA, n, .inl f))) (h : ∀ j, j < n → f j = g j) : va_P D clX (ws.set q0 (a, .inl (cA, n, .inl g))) H := by
  have e : vp_cell cA (n, .inl f) = vp_cell cA (n, .inl g) := by
    show arrV cA n (fun j => .int (f j)) = arrV cA n (fun j => .int (g j))
    unfold arrV
    congr 1
    congr 1
    funext j
    show Value.int (f j.val) = Value.int (g j.val)
    rw [h j.val j.isLt]
  intro k q hk
  by_cases hkq : k = q0
  · subst hkq
    have hlt : k < ws.length := (List.getElem?_eq_some_iff.mp he).1
    rw [List.getElem?_set_self hlt] at hk
    cases hk
    have h0 := hP k _ he
    show H[a]? = some (vp_cell cA (n, .inl g))
    rw [← e]
    exact h0
  · rw [List.getElem?_set_ne (fun z => hkq z.symm)] at hk
    exact hP k q hk
theorem va_D.arr {A : Nat → Prop} {ws : va_W} {q0 a : Nat} {e0 e : va_E} (hD : va_D A ws) (he : ws[q0]? = some (a, e0)) : va_D A (ws.set q0 (a, e)) := hD.set he
theorem mt_N {l : Launch} {y : MethodName} {cc : ByteArray} {maxL : Nat} {ret : Option FieldType} {rm : Room} {D : va_G} {z0 sz : Nat} {ws : va_W} {tys : List (ClassId × FieldType)} {av : List Value} {Qc : Array Value → State → Outcome → State → Prop} {mc ms : Nat} {free : Addr → Prop} (hy : plainName y.cls = true) (hn : (lg_sl av).length ≤ maxL)
    (body : ∀ p e s m args below meth c, Cx p m c cc maxL s args y.cls → Nw s → Zs z0 s s.heap → s.heap.size = sz → z0 ≤ sz → va_P D clX ws s.heap → va_K D clX tys s → va_D (va_A ws sz) ws → (∀ q, va_A ws sz q → z0 ≤ q) → (∀ q, s.heap.size ≤ q → va_A ws sz q) → meth.sig.returnType = ret → meth.locks = false → (y.name = "<init>" → meth.name = "<init>") → ∀ ls, lv_has ls maxL (lv_args 0 av) → W p l e rm s m args below meth c s.heap [] 0 0 (MQ below Qc args s mc ms free) (F0 m 0 ls [])) :
    Met l y (Cond.code y cc maxL ret :: AW) rm (PcM D z0 sz ws tys av) Qc mc ms free := by
  refine Met.ofW (cc := cc) (maxL := maxL) (ret := ret) hy rfl ?_
  intro p e s m args below meth c s₁ B hml hv
  obtain ⟨rfl, hN, hZ, hsz, hz, hP, hK, hD⟩ := hv
  have hts := atoms_spec (ws := Cond.code y cc maxL ret :: AW) B.pre
  have hl := lv_entry av (n := maxL) hn
  rw [lg_entry_eq]
  generalize (lg_sl av ++ List.replicate (maxL - (lg_sl av).length) Slot.unset).toArray = ls at hl ⊢
  exact body p e s m _ below meth c ⟨B.exec, B.bytes, hml, findClass_of_methodNamed B.named, fun w h => hts w (List.mem_cons_of_mem _ h)⟩ hN hZ hsz hz hP hK hD.self (az_of hD hz) (fun q h => Or.inr (by omega)) B.returns B.notSynchronized (fun h => (name_of_methodNamed B.named B.method).1.trans h) ls hl
section BN
variable {p : Program} {l : Launch} {e : Env} {R : Room} {s : State} {m : MethodId} {args : Array Value} {below : List Frame} {meth : Method} {c : Code} {H : Heap} {locs : List Loc} {cells slots : Nat} {Q : State → Prop}
variable {cc : ByteArray} {nL pc : Nat} {own : String} {ls : Array Slot} {rest : List Value} {A : Nat → Prop} {H0 : Heap}
theorem pz_v (C : Cx p m c cc nL s args own) (hr : meth.sig.returnType = none) (hk : meth.locks = false) {mc ms : Nat} {ok : Prop} {B : State → Prop} (hS : va_S A s.heap H locs) (hok : ok) (hB : ∀ t : State, t.heap = H → s.vm.Alike t.vm → B t) (hdg : decode cc pc = .ok (.return_, 1)) (hc : cells ≤ mc) (hs : slots ≤ ms) : W p l e R s m args below meth c H locs cells slots (MQ below (QcM none ok B A) args s mc ms A) (F0 m pc ls []) :=
  W.widen hc hs (W.vret C.1 C.2.1 hr (fun t ht hW => ⟨rfl, hok, hB t ht hW.alike, hS.F ht⟩) hS.2.2 hdg hk)
theorem pz_i (C : Cx p m c cc nL s args own) (hr : meth.sig.returnType = some .int) (hk : meth.locks = false) {mc ms : Nat} {ok : Prop} {B : State → Prop} {x v : Int32} (hS : va_S A s.heap H locs) (hok : ok) (hB : ∀ t : State, t.heap = H → s.vm.Alike t.vm → B t) (hdg : decode cc pc = .ok (.ireturn, 1)) (hv : x = v) (hc : cells ≤ mc) (hs : slots ≤ ms) : W p l e R s m args below meth c H locs cells slots (MQ below (QcM (some (.int v)) ok B A) args s mc ms A) (F0 m pc ls [.int x]) := by
  subst hv
  exact W.widen hc hs (W.iret C.1 C.2.1 hr (fun t ht hW => ⟨rfl, hok, hB t ht hW.alike, hS.F ht⟩) hS.2.2 hdg hk)
theorem pz_z (C : Cx p m c cc nL s args own) (hr : meth.sig.returnType = some .boolean) (hk : meth.locks = false) {mc ms : Nat} {ok : Prop} {B : State → Prop} {a : Int} {v : Int32} (hS : va_S A s.heap H locs) (hok : ok) (hB : ∀ t : State, t.heap = H → s.vm.Alike t.vm → B t) (hdg : decode cc pc = .ok (.ireturn, 1)) (h01 : a = 0 ∨ a = 1) (hv : ii a = v) (hc : cells ≤ mc) (hs : slots ≤ ms) : W p l e R s m args below meth c H locs cells slots (MQ below (QcM (some (.int v)) ok B A) args s mc ms A) (F0 m pc ls [.int (ii a)]) := by
  subst hv
  exact W.widen hc hs (W.zret C.1 C.2.1 hr (by rcases h01 with rfl | rfl <;> decide +kernel) (fun t ht hW => ⟨rfl, hok, hB t ht hW.alike, hS.F ht⟩) hS.2.2 hdg hk)
theorem pz_l (C : Cx p m c cc nL s args own) (hr : meth.sig.returnType = some .long) (hk : meth.locks = false) {mc ms : Nat} {ok : Prop} {B : State → Prop} {x v : Int64} (hS : va_S A s.heap H locs) (hok : ok) (hB : ∀ t : State, t.heap = H → s.vm.Alike t.vm → B t) (hdg : decode cc pc = .ok (.lreturn, 1)) (hv : x = v) (hc : cells ≤ mc) (hs : slots ≤ ms) : W p l e R s m args below meth c H locs cells slots (MQ below (QcM (some (.long v)) ok B A) args s mc ms A) (F0 m pc ls [.long x]) := by
  subst hv
  exact W.widen hc hs (W.lret C.1 C.2.1 hr (fun t ht hW => ⟨rfl, hok, hB t ht hW.alike, hS.F ht⟩) hS.2.2 hdg hk)
theorem cn_go {v : Option Value} {ok : Prop} {B : State → Prop} {A1 : Nat → Prop} {a : Array Value} {mc ms : Nat} {g : JFrame} (hr : va_Run p l e R s m args below meth c H locs cells slots mc ms g rest (QcM v ok B A1 a) A1) (hS : va_S A H0 H locs) (hA : ∀ q, A1 q → A q)
    (kk : ∀ (t : State) (H1 : Heap) (locs1 : List Loc), t.heap = H1 → s.vm.Alike t.vm → ok → B t → H.size ≤ H1.size → (∀ q : Nat, q < H.size → ¬ A1 q → H1[q]? = H[q]?) → va_S A H0 H1 locs1 → W p l e R s m args below meth c H1 locs1 (cells + mc) (slots + ms) Q { g with pc := g.pc + 3, stack := v.toList ++ rest }) : W p l e R s m args below meth c H locs cells slots Q g := by
  intro T hT X
  obtain ⟨v', st₀, t, T', L, h0, X', hL, e1, e2, ⟨hv, hok, hB, hF⟩, st⟩ := hr T hT X
  cases hv
  obtain ⟨k1, k2, k3⟩ := vx_keep h0 e1 hS (fun q _ h => hA q h) hA hL hF
  obtain ⟨t2, a1, b1⟩ := kk t T'.heap (locs ++ L) e1.symm (by rw [← e2]; exact X'.warmed.alike) hok hB k1 k2 k3 T' rfl X'
  exact ⟨t2, st t2 a1, b1⟩
theorem cn_S {bytes : ByteArray} {maxL index : Nat} {y : MethodName} {ret : Option FieldType} {rm : Room} {As st0 : List Value} {v : Option Value} {ok : Prop} {B : State → Prop} {A1 : Nat → Prop} {Pc : Array Value → State → Prop} {mc ms : Nat}
    (C : Cx p m c cc nL s args own) (hM : Met l y (Cond.code y bytes maxL ret :: AW) rm Pc (QcM v ok B A1) mc ms A1) (hp : PreS s H Pc As) (hS : va_S A H0 H locs) (hA : ∀ q, A1 q → A q)
    (h1 : Cond.code y bytes maxL ret ∈ AW) (h2 : Cond.methodLink own index y ∈ AW) (h3 : Cond.static y ∈ AW) (h4 : Cond.initialized y.cls ∈ AW) (hrc : rm.cells = mc ∧ rm.slots = ms) (n : Nat)
    (hd : y.cls ≠ "java/lang/invoke/MethodHandle" ∧ y.cls ≠ "java/lang/invoke/VarHandle" ∧ (parseMethodDescriptor y.desc).map (fun d => d.parameters.length) = some n) (hn : As.length = n) (hR : rm.frames + 1 ≤ R.frames ∧ 8 + (maxL + 11) + rm.locals ≤ R.locals)
    (hsize : ls.size = nL) (hst : st0 = As.reverse ++ rest) (hrest : (rest.map fun v => v.category).sum ≤ 8) (hdg : decode cc pc = .ok (.invokestatic index, 3)) (hcs : cells + mc ≤ R.cells ∧ slots + ms ≤ R.slots)
    (kk : ∀ (t : State) (H1 : Heap) (locs1 : List Loc), t.heap = H1 → s.vm.Alike t.vm → ok → B t → H.size ≤ H1.size → (∀ q : Nat, q < H.size → ¬ A1 q → H1[q]? = H[q]?) → va_S A H0 H1 locs1 → W p l e R s m args below meth c H1 locs1 (cells + mc) (slots + ms) Q (F0 m (pc + 3) ls (v.toList ++ rest))) : W p l e R s m args below meth c H locs cells slots Q (F0 m pc ls st0) := by
  subst hst
  subst hn
  obtain ⟨hx, hb, hml, hown, hts⟩ := C
  exact cn_go (va_runS (g := F0 m pc ls (As.reverse ++ rest)) (As := As) (rest := rest) ⟨hx, hb, hml, hown, hts⟩ hM ⟨callB_of As.length hts (aw_ina h1) rfl hrc.1 hrc.2 (hts _ h4) (hts _ h2) hd hR, hts _ h3⟩ hp rfl rfl hsize rfl (lv_room hrest) hdg hcs) hS hA kk
theorem cn_V {bytes : ByteArray} {maxL index b : Nat} {Cn : String} {y : MethodName} {ret : Option FieldType} {rm : Room} {As st0 : List Value} {v : Option Value} {ok : Prop} {B : State → Prop} {A1 : Nat → Prop} {Pc : Array Value → State → Prop} {mc ms : Nat}
    (C : Cx p m c cc nL s args own) (hM : Met l y (Cond.code y bytes maxL ret :: AW) rm Pc (QcM v ok B A1) mc ms A1) (hp : PreV s H Cn b Pc As) (hS : va_S A H0 H locs) (hA : ∀ q, A1 q → A q)
    (h1 : Cond.code y bytes maxL ret ∈ AW) (h2 : Cond.methodLink own index y ∈ AW) (h3 : Cond.instanceMethod y ∈ AW) (h4 : Cond.initialized y.cls ∈ AW) (h5 : Cond.selects Cn y y ∈ AW) (hrc : rm.cells = mc ∧ rm.slots = ms) (n : Nat)
    (hd : y.cls ≠ "java/lang/invoke/MethodHandle" ∧ y.cls ≠ "java/lang/invoke/VarHandle" ∧ (parseMethodDescriptor y.desc).map (fun d => d.parameters.length) = some n) (hn : As.length = n) (hR : rm.frames + 1 ≤ R.frames ∧ 8 + (maxL + 11) + rm.locals ≤ R.locals)
    (hsize : ls.size = nL) (hst : st0 = As.reverse ++ .ref b :: rest) (hrest : (rest.map fun v => v.category).sum ≤ 8) (hdg : decode cc pc = .ok (.invokevirtual index, 3)) (hcs : cells + mc ≤ R.cells ∧ slots + ms ≤ R.slots)
    (kk : ∀ (t : State) (H1 : Heap) (locs1 : List Loc), t.heap = H1 → s.vm.Alike t.vm → ok → B t → H.size ≤ H1.size → (∀ q : Nat, q < H.size → ¬ A1 q → H1[q]? = H[q]?) → va_S A H0 H1 locs1 → W p l e R s m args below meth c H1 locs1 (cells + mc) (slots + ms) Q (F0 m (pc + 3) ls (v.toList ++ rest))) : W p l e R s m args below meth c H locs cells slots Q (F0 m pc ls st0) := by
  subst hst
  subst hn
  obtain ⟨hx, hb, hml, hown, hts⟩ := C
  exact cn_go (va_runV (g := F0 m pc ls (As.reverse ++ .ref b :: rest)) (As := As) (rest := rest) ⟨hx, hb, hml, hown, hts⟩ hM ⟨callB_of As.length hts (aw_ina h1) rfl hrc.1 hrc.2 (hts _ h4) (hts _ h2) hd hR, hts _ h3, hts _ h5⟩ hp rfl rfl hsize rfl (lv_room hrest) hdg hcs) hS hA kk
theorem cn_I {bytes : ByteArray} {maxL index b : Nat} {y : MethodName} {rm : Room} {As st0 : List Value} {v : Option Value} {ok : Prop} {B : State → Prop} {A1 : Nat → Prop} {Pc : Array Value → State → Prop} {mc ms : Nat}
    (C : Cx p m c cc nL s args own) (hM : Met l y (Cond.code y bytes maxL none :: AW) rm Pc (QcM v ok B A1) mc ms A1) (hp : PreS s H Pc (.ref b :: As)) (hS : va_S A H0 H locs) (hA : ∀ q, A1 q → A q)
    (h1 : Cond.code y bytes maxL none ∈ AW) (h2 : Cond.methodLink own index y ∈ AW) (h3 : Cond.instanceMethod y ∈ AW) (h4 : Cond.initialized y.cls ∈ AW) (h5 : y.name = "<init>") (hrc : rm.cells = mc ∧ rm.slots = ms) (n : Nat)
    (hd : y.cls ≠ "java/lang/invoke/MethodHandle" ∧ y.cls ≠ "java/lang/invoke/VarHandle" ∧ (parseMethodDescriptor y.desc).map (fun d => d.parameters.length) = some n) (hn : As.length = n) (hR : rm.frames + 1 ≤ R.frames ∧ 8 + (maxL + 11) + rm.locals ≤ R.locals)
    (hsize : ls.size = nL) (hst : st0 = As.reverse ++ .ref b :: rest) (hrest : (rest.map fun v => v.category).sum ≤ 8) (hdg : decode cc pc = .ok (.invokespecial index, 3)) (hcs : cells + mc ≤ R.cells ∧ slots + ms ≤ R.slots)
    (kk : ∀ (t : State) (H1 : Heap) (locs1 : List Loc), t.heap = H1 → s.vm.Alike t.vm → ok → B t → H.size ≤ H1.size → (∀ q : Nat, q < H.size → ¬ A1 q → H1[q]? = H[q]?) → va_S A H0 H1 locs1 → W p l e R s m args below meth c H1 locs1 (cells + mc) (slots + ms) Q (F0 m (pc + 3) ls (v.toList ++ rest))) : W p l e R s m args below meth c H locs cells slots Q (F0 m pc ls st0) := by
  subst hst
  subst hn
  obtain ⟨hx, hb, hml, hown, hts⟩ := C
  exact cn_go (va_runI (g := F0 m pc ls (As.reverse ++ .ref b :: rest)) (As := As) (rest := rest) ⟨hx, hb, hml, hown, hts⟩ hM ⟨callB_of As.length hts (aw_ina h1) rfl hrc.1 hrc.2 (hts _ h4) (hts _ h2) hd hR, h5, hts _ h3⟩ hp rfl rfl hsize rfl (lv_room hrest) hdg hcs) hS hA kk
theorem o_init (C : Cx p m c cc nL s args own) {idx : Nat} (h : Cond.methodLink own idx objectInit ∈ AW) (hsize : ls.size = nL) {a : Nat} (hd : decode cc pc = .ok (.invokespecial idx, 3)) (hR : 1 ≤ R.frames ∧ 12 ≤ R.locals) (kk : W p l e R s m args below meth c H locs cells slots Q (F0 m (pc + 3) ls [])) : W p l e R s m args below meth c H locs cells slots Q (F0 m pc ls [.ref a]) :=
  W.objInit C.1 C.2.1 C.2.2.2.1 (C.2.2.2.2 _ h) (C.2.2.2.2 _ aw_o_inst) (C.2.2.2.2 _ aw_o_code) rfl (hsize.trans C.2.2.1.symm) rfl hd hR.1 (by show 2 * 0 + 0 + 12 ≤ R.locals; omega) kk
end BN
end
section
/-! Arrays.fill; the class: countPoints, the constructors. By wip/whole/tools/gen10.py. -/
set_option maxRecDepth 100000 in
set_option maxHeartbeats 4000000 in
theorem c_fill (l : Launch) (D : va_G) (z0 sz : Nat) (ha n : Nat) (cI : ClassId) (f : Nat → Int32) (v : Int32) (hn : n ≤ 2000) : Met l yJA_fill (Cond.code yJA_fill cJA_fill 4 none :: AW) ({ frames := 0, cells := 0, slots := 0, locals := 0 } : Room) (PcM D z0 sz [(ha, .inl (cI, n, .inl f))] [(cI, .int)] [.ref ha, .int v]) (QcM none True (Wd D [(ha, .inl (cI, n, .inl (fun _ => v)))] [(cI, .int)] (va_A [(ha, .inl (cI, n, .inl f))] sz)) (va_A [(ha, .inl (cI, n, .inl f))] sz)) 0 0 (va_A [(ha, .inl (cI, n, .inl f))] sz) := by
  refine mt_N (by decide +kernel) (Nat.le_of_ble_eq_true rfl) ?_
  intro P0 E0 S0 M0 A0 B0 T0 K0 C hN hZ hsz hz hP hK hD hAz hA hr hk hin ls hl
  have hl : lv_has ls 4 [(0, .ref ha), (1, .int v)] := hl
  generalize hAe : va_A [(ha, .inl (cI, n, .inl f))] sz = A at hD hAz hA ⊢
  have hS : va_S A S0.heap S0.heap [] := va_S.rf
  have loop : ∀ (k : Nat) (ls : Array Slot) (H : Heap) (locs : List Loc) (g : Nat → Int32) (i : Nat), i + k = n → (∀ j, j < i → g j = v) → va_P D clX [(ha, .inl (cI, n, .inl g))] H → va_D A [(ha, .inl (cI, n, .inl g))] → va_S A S0.heap H locs → lv_has ls 4 [(0, .ref ha), (1, .int v), (2, .int (ii (i : Int))), (3, .int (ii (n : Int)))] → W P0 l E0 ({ frames := 0, cells := 0, slots := 0, locals := 0 } : Room) S0 M0 A0 B0 T0 K0 H locs 0 0 (MQ B0 (QcM none True (Wd D [(ha, .inl (cI, n, .inl (fun _ => v)))] [(cI, .int)] A) A) A0 S0 0 0 A) (F0 M0 5 ls []) := by
    intro k
    induction k with
    | zero =>
    intro ls H locs g i hi hg hP hD hS hl
    refine lv_iload_n C.1 C.2.1 dJA_fill_5 rfl (lv_at hl 2 rfl) ?_
    refine lv_iload_n C.1 C.2.1 dJA_fill_6 rfl (lv_at hl 3 rfl) ?_
    refine i_icmp_ge (tgt := 20) C dJA_fill_7 (by decide) ⟨by omega, by omega⟩ ⟨by omega, by omega⟩ (fun h1 => ?_) (fun h1 => ?_)
    · have hP : va_P D clX [(ha, .inl (cI, n, .inl (fun _ => v)))] H := hP.arr (q0 := 0) rfl (fun j hj => hg j (by omega))
      have hD : va_D A [(ha, .inl (cI, n, .inl (fun _ => v)))] := hD.arr (q0 := 0) rfl
      exact pz_v C hr hk hS trivial (fun t ht hvm => ⟨by rw [ht]; exact hP, va_K.moved hvm hK, hD⟩) dJA_fill_20 (by decide) (by decide)
    · omega
    | succ k ih =>
    intro ls H locs g i hi hg hP hD hS hl
    refine lv_iload_n C.1 C.2.1 dJA_fill_5 rfl (lv_at hl 2 rfl) ?_
    refine lv_iload_n C.1 C.2.1 dJA_fill_6 rfl (lv_at hl 3 rfl) ?_
    refine i_icmp_ge (tgt := 20) C dJA_fill_7 (by decide) ⟨by omega, by omega⟩ ⟨by omega, by omega⟩ (fun h1 => ?_) (fun h1 => ?_)
    · omega
    · refine lv_aload_n C.1 C.2.1 dJA_fill_10 rfl (lv_at hl 0 rfl) ?_
      refine lv_iload_n C.1 C.2.1 dJA_fill_11 rfl (lv_at hl 2 rfl) ?_
      refine lv_iload_n C.1 C.2.1 dJA_fill_12 rfl (lv_at hl 1 rfl) ?_
      refine i_ast C hK hP hD hS 0 0 rfl rfl i rfl (by omega) (by omega) dJA_fill_13 (fun H1 locs1 hP hD hS => ?_)
      refine lv_iinc C.1 C.2.1 dJA_fill_14 hl (k := 2) rfl (ii_add (i : Int) 1) (by decide) rfl (fun ls hl => ?_)
      have hl : lv_has ls 4 [(2, .int (ii ((i : Int) + 1))), (0, .ref ha), (1, .int v), (3, .int (ii (n : Int)))] := hl
      refine lv_goto (tgt := 5) C.1 C.2.1 dJA_fill_17 (by decide) ?_
      exact ih ls H1 locs1 _ (i + 1) (by omega) (fun j hj => by
        unfold va_up
        split
        · rfl
        · exact hg j (by omega)) hP hD hS (lv_sub (l' := [(0, .ref ha), (1, .int v), (2, .int (ii ((i : Int) + 1))), (3, .int (ii (n : Int)))]) hl [1, 2, 0, 3] rfl)
  refine i_const C dJA_fill_0 ?_
  refine lv_istore_n C.1 C.2.1 dJA_fill_1 rfl hl (by decide) rfl (fun ls hl => ?_)
  have hl : lv_has ls 4 [(2, .int (ii 0)), (0, .ref ha), (1, .int v)] := hl
  refine lv_aload_n C.1 C.2.1 dJA_fill_2 rfl (lv_at hl 1 rfl) ?_
  refine va_alen C.1 C.2.1 hK hP 0 0 rfl rfl (v := ii (n : Int)) (ii_nI n).symm dJA_fill_3 ?_
  refine lv_istore_n C.1 C.2.1 dJA_fill_4 rfl hl (by decide) rfl (fun ls hl => ?_)
  have hl : lv_has ls 4 [(3, .int (ii (n : Int))), (2, .int (ii 0)), (0, .ref ha), (1, .int v)] := hl
  exact loop n ls S0.heap [] f 0 (by omega) (fun j hj => absurd hj (Nat.not_lt_zero j)) hP hD hS (lv_sub (l' := [(0, .ref ha), (1, .int v), (2, .int (ii 0)), (3, .int (ii (n : Int)))]) hl [2, 3, 1, 0] rfl)
/-- how many of the first k numbers have the square v -/
noncomputable def rc (p k v : Nat) : Nat := sm (fun t => if (t * t % p == v) = true then 1 else 0) k
theorem rc_rt (p v : Nat) : rc p p v = rt p v := (sm_filter _ p).symm
theorem rc_s (p k v : Nat) : rc p (k + 1) v = rc p k v + (if (k * k % p == v) = true then 1 else 0) := rfl
theorem rc_le (p k v : Nat) : rc p k v ≤ k := by
  have := sm_le (f := fun t => if (t * t % p == v) = true then 1 else 0) (c := 1) (n := k) (fun t _ => by
    show (if (t * t % p == v) = true then 1 else 0) ≤ 1
    split <;> omega)
  unfold rc
  omega
theorem rc_up (p k : Nat) : va_up (fun v => ii ((rc p k v : Nat) : Int)) (k * k % p) (ii ((rc p k (k * k % p) : Nat) + 1)) = fun v => ii ((rc p (k + 1) v : Nat) : Int) := by
  funext v
  unfold va_up
  rw [rc_s]
  split
  · rename_i h
    subst h
    rw [if_pos (by simp)]
    rfl
  · rename_i h
    rw [if_neg (by simp; omega)]
    rfl
/-- the count so far -/
noncomputable def cs (p a b k : Nat) : Nat := 1 + sm (fun x => rc p p (cub p a b x)) k
theorem cs_cnt (p a b : Nat) : cs p a b p = cnt p a b := by
  unfold cs cnt
  rw [sm_range]
  congr 1
  exact sm_congr fun x _ => rc_rt p _
theorem cs_s (p a b k : Nat) : cs p a b (k + 1) = cs p a b k + rc p p (cub p a b k) := by
  unfold cs
  rw [sm_s]
  omega
theorem cs_le (p a b k : Nat) : cs p a b k ≤ 1 + k * p := by
  have := sm_le (f := fun x => rc p p (cub p a b x)) (c := p) (n := k) (fun x _ => rc_le p p _)
  unfold cs
  omega
set_option maxRecDepth 100000 in
set_option maxHeartbeats 4000000 in
theorem c_X1_countPoints (l : Launch) (D : va_G) (z0 sz : Nat) (hx hr0 hq0 : Nat) (tk : Value) (sec dr : Int) (cQ : ClassId) (f : Nat → Int32) (p a b : Nat) (hp : 5 ≤ p ∧ p ≤ 1021) (ha : a < p) (hb : b < p) : Met l yX1_countPoints (Cond.code yX1_countPoints cX1_countPoints 6 (some .int) :: AW) ({ frames := 1, cells := 0, slots := 0, locals := 24 } : Room) (PcM D z0 sz [(hx, .inr (1, [.ref hr0, .ref hq0, tk, .int (ii sec), .int (ii dr)])), (hq0, .inl (cQ, 1021, .inl f))] [(cQ, .int)] [.ref hx, .int (ii (p : Int)), .int (ii (a : Int)), .int (ii (b : Int))]) (QcM (some (.int (ii ((cnt p a b : Nat) : Int)))) True (Wd D [(hx, .inr (1, [.ref hr0, .ref hq0, tk, .int (ii sec), .int (ii dr)])), (hq0, .inl (cQ, 1021, .inl (fun v => ii ((rc p p v : Nat) : Int))))] [(cQ, .int)] (va_A [(hx, .inr (1, [.ref hr0, .ref hq0, tk, .int (ii sec), .int (ii dr)])), (hq0, .inl (cQ, 1021, .inl f))] sz)) (va_A [(hx, .inr (1, [.ref hr0, .ref hq0, tk, .int (ii sec), .int (ii dr)])), (hq0, .inl (cQ, 1021, .inl f))] sz)) 0 0 (va_A [(hx, .inr (1, [.ref hr0, .ref hq0, tk, .int (ii sec), .int (ii dr)])), (hq0, .inl (cQ, 1021, .inl f))] sz) := by
  refine mt_N (by decide +kernel) (Nat.le_of_ble_eq_true rfl) ?_
  intro P0 E0 S0 M0 A0 B0 T0 K0 C hN hZ hsz hz hP hK hD hAz hA hr hk hin ls hl
  have hl : lv_has ls 6 [(0, .ref hx), (1, .int (ii (p : Int))), (2, .int (ii (a : Int))), (3, .int (ii (b : Int)))] := hl
  generalize hAe : va_A [(hx, .inr (1, [.ref hr0, .ref hq0, tk, .int (ii sec), .int (ii dr)])), (hq0, .inl (cQ, 1021, .inl f))] sz = A at hD hAz hA ⊢
  have hS : va_S A S0.heap S0.heap [] := va_S.rf
  have loop2 : ∀ (k : Nat) (ls : Array Slot) (H : Heap) (locs : List Loc) (x : Nat), x + k = p → va_P D clX [(hx, .inr (1, [.ref hr0, .ref hq0, tk, .int (ii sec), .int (ii dr)])), (hq0, .inl (cQ, 1021, .inl (fun v => ii ((rc p p v : Nat) : Int))))] H → va_D A [(hx, .inr (1, [.ref hr0, .ref hq0, tk, .int (ii sec), .int (ii dr)])), (hq0, .inl (cQ, 1021, .inl (fun v => ii ((rc p p v : Nat) : Int))))] → va_S A S0.heap H locs → lv_has ls 6 [(0, .ref hx), (1, .int (ii (p : Int))), (2, .int (ii (a : Int))), (3, .int (ii (b : Int))), (4, .int (ii ((cs p a b x : Nat) : Int))), (5, .int (ii (x : Int)))] → W P0 l E0 ({ frames := 1, cells := 0, slots := 0, locals := 24 } : Room) S0 M0 A0 B0 T0 K0 H locs 0 0 (MQ B0 (QcM (some (.int (ii ((cnt p a b : Nat) : Int)))) True (Wd D [(hx, .inr (1, [.ref hr0, .ref hq0, tk, .int (ii sec), .int (ii dr)])), (hq0, .inl (cQ, 1021, .inl (fun v => ii ((rc p p v : Nat) : Int))))] [(cQ, .int)] A) A) A0 S0 0 0 A) (F0 M0 45 ls []) := by
    intro k
    induction k with
    | zero =>
    intro ls H locs x hxk hP hD hS hl
    have b1 := cs_le p a b x
    have b2 := Nat.mul_le_mul (show x ≤ 1021 by omega) (show p ≤ 1021 by omega)
    refine lv_iload C.1 C.2.1 dX1_countPoints_45 (lv_at hl 5 rfl) ?_
    refine lv_iload_n C.1 C.2.1 dX1_countPoints_47 rfl (lv_at hl 1 rfl) ?_
    refine i_icmp_ge (tgt := 75) C dX1_countPoints_48 (by decide) ⟨by omega, by omega⟩ ⟨by omega, by omega⟩ (fun h1 => ?_) (fun h1 => ?_)
    · refine lv_iload C.1 C.2.1 dX1_countPoints_75 (lv_at hl 4 rfl) ?_
      have e : x = p := by omega
      subst e
      rw [cs_cnt]
      exact pz_i C hr hk hS trivial (fun t ht hvm => ⟨by rw [ht]; exact hP, va_K.moved hvm hK, hD⟩) dX1_countPoints_77 rfl (by decide) (by decide)
    · omega
    | succ k ih =>
    intro ls H locs x hxk hP hD hS hl
    have b1 := cs_le p a b x
    have b2 := Nat.mul_le_mul (show x ≤ 1021 by omega) (show p ≤ 1021 by omega)
    have b3 := rc_le p p (cub p a b x)
    have m1 : cub p a b x < p := Nat.mod_lt _ (by omega)
    refine lv_iload C.1 C.2.1 dX1_countPoints_45 (lv_at hl 5 rfl) ?_
    refine lv_iload_n C.1 C.2.1 dX1_countPoints_47 rfl (lv_at hl 1 rfl) ?_
    refine i_icmp_ge (tgt := 75) C dX1_countPoints_48 (by decide) ⟨by omega, by omega⟩ ⟨by omega, by omega⟩ (fun h1 => ?_) (fun h1 => ?_)
    · omega
    · refine lv_iload C.1 C.2.1 dX1_countPoints_51 (lv_at hl 4 rfl) ?_
      refine lv_aload_n C.1 C.2.1 dX1_countPoints_53 rfl (lv_at hl 0 rfl) ?_
      refine gf C hK hP 0 rfl rfl aw_uX1 1 (by decide) aw_f_X1_13 rfl dX1_countPoints_54 ?_
      refine lv_iload_n C.1 C.2.1 dX1_countPoints_57 rfl (lv_at hl 1 rfl) ?_
      refine lv_iload_n C.1 C.2.1 dX1_countPoints_58 rfl (lv_at hl 2 rfl) ?_
      refine lv_iload_n C.1 C.2.1 dX1_countPoints_59 rfl (lv_at hl 3 rfl) ?_
      refine lv_iload C.1 C.2.1 dX1_countPoints_60 (lv_at hl 5 rfl) ?_
      refine ca_S (As := [.int (ii (p : Int)), .int (ii (a : Int)), .int (ii (b : Int)), .int (ii (x : Int))]) (rest := [.ref hq0, .int (ii ((cs p a b x : Nat) : Int))]) C (c_X1_cubic l (p : Int) (a : Int) (b : Int) (x : Int) (by omega) (by omega) (by omega) (by omega)) (pcn_pre _ hN) aw_b_X1_cubic aw_m_X1_150 aw_s_X1_cubic aw_i_X1 ⟨rfl, rfl⟩ 4 (by decide +kernel) rfl ⟨by decide, by decide⟩ hl.1 rfl (Nat.le_of_ble_eq_true rfl) dX1_countPoints_62 ⟨by decide, by decide⟩ ?_
      refine i_top (b := ((cub p a b x : Nat) : Int)) rfl ?_
      refine i_ald C hK hP 1 0 rfl rfl (cub p a b x) (by omega) (by omega) (by omega) dX1_countPoints_65 ?_
      refine i_add C dX1_countPoints_66 ?_
      refine i_top (b := ((cs p a b (x + 1) : Nat) : Int)) (by rw [cs_s]; omega) ?_
      refine lv_istore C.1 C.2.1 dX1_countPoints_67 hl (by decide) rfl (fun ls hl => ?_)
      have hl : lv_has ls 6 [(4, .int (ii ((cs p a b (x + 1) : Nat) : Int))), (0, .ref hx), (1, .int (ii (p : Int))), (2, .int (ii (a : Int))), (3, .int (ii (b : Int))), (5, .int (ii (x : Int)))] := hl
      refine lv_iinc C.1 C.2.1 dX1_countPoints_69 hl (k := 5) rfl (ii_add (x : Int) 1) (by decide) rfl (fun ls hl => ?_)
      have hl : lv_has ls 6 [(5, .int (ii ((x : Int) + 1))), (4, .int (ii ((cs p a b (x + 1) : Nat) : Int))), (0, .ref hx), (1, .int (ii (p : Int))), (2, .int (ii (a : Int))), (3, .int (ii (b : Int)))] := hl
      refine lv_goto (tgt := 45) C.1 C.2.1 dX1_countPoints_72 (by decide) ?_
      exact ih ls H locs (x + 1) (by omega) hP hD hS (lv_sub (l' := [(0, .ref hx), (1, .int (ii (p : Int))), (2, .int (ii (a : Int))), (3, .int (ii (b : Int))), (4, .int (ii ((cs p a b (x + 1) : Nat) : Int))), (5, .int (ii ((x : Int) + 1)))]) hl [2, 3, 4, 5, 1, 0] rfl)
  have loop1 : ∀ (k : Nat) (ls : Array Slot) (H : Heap) (locs : List Loc) (y : Nat), y + k = p → va_P D clX [(hx, .inr (1, [.ref hr0, .ref hq0, tk, .int (ii sec), .int (ii dr)])), (hq0, .inl (cQ, 1021, .inl (fun v => ii ((rc p y v : Nat) : Int))))] H → va_D A [(hx, .inr (1, [.ref hr0, .ref hq0, tk, .int (ii sec), .int (ii dr)])), (hq0, .inl (cQ, 1021, .inl (fun v => ii ((rc p y v : Nat) : Int))))] → va_S A S0.heap H locs → lv_has ls 6 [(0, .ref hx), (1, .int (ii (p : Int))), (2, .int (ii (a : Int))), (3, .int (ii (b : Int))), (4, .int (ii (y : Int)))] → W P0 l E0 ({ frames := 1, cells := 0, slots := 0, locals := 24 } : Room) S0 M0 A0 B0 T0 K0 H locs 0 0 (MQ B0 (QcM (some (.int (ii ((cnt p a b : Nat) : Int)))) True (Wd D [(hx, .inr (1, [.ref hr0, .ref hq0, tk, .int (ii sec), .int (ii dr)])), (hq0, .inl (cQ, 1021, .inl (fun v => ii ((rc p p v : Nat) : Int))))] [(cQ, .int)] A) A) A0 S0 0 0 A) (F0 M0 11 ls []) := by
    intro k
    induction k with
    | zero =>
    intro ls H locs y hyk hP hD hS hl
    refine lv_iload C.1 C.2.1 dX1_countPoints_11 (lv_at hl 4 rfl) ?_
    refine lv_iload_n C.1 C.2.1 dX1_countPoints_13 rfl (lv_at hl 1 rfl) ?_
    refine i_icmp_ge (tgt := 39) C dX1_countPoints_14 (by decide) ⟨by omega, by omega⟩ ⟨by omega, by omega⟩ (fun h1 => ?_) (fun h1 => ?_)
    · have e : p = y := by omega
      subst e
      refine i_const C dX1_countPoints_39 ?_
      refine lv_istore C.1 C.2.1 dX1_countPoints_40 hl (by decide) rfl (fun ls hl => ?_)
      have hl : lv_has ls 6 [(4, .int (ii 1)), (0, .ref hx), (1, .int (ii (p : Int))), (2, .int (ii (a : Int))), (3, .int (ii (b : Int)))] := hl
      refine i_const C dX1_countPoints_42 ?_
      refine lv_istore C.1 C.2.1 dX1_countPoints_43 hl (by decide) rfl (fun ls hl => ?_)
      have hl : lv_has ls 6 [(5, .int (ii 0)), (4, .int (ii 1)), (0, .ref hx), (1, .int (ii (p : Int))), (2, .int (ii (a : Int))), (3, .int (ii (b : Int)))] := hl
      have hl : lv_has ls 6 [(0, .ref hx), (1, .int (ii (p : Int))), (2, .int (ii (a : Int))), (3, .int (ii (b : Int))), (4, .int (ii ((cs p a b 0 : Nat) : Int))), (5, .int (ii ((0 : Nat) : Int)))] := lv_sub hl [2, 3, 4, 5, 1, 0] rfl
      exact loop2 p ls H locs 0 (by omega) hP hD hS hl
    · omega
    | succ k ih =>
    intro ls H locs y hyk hP hD hS hl
    have b1 := rc_le p y (y * y % p)
    have b2 := nmul_b (show y ≤ 1100 by omega) (show y ≤ 1100 by omega)
    have b3 := Nat.mod_lt (y * y) (show 0 < p by omega)
    refine lv_iload C.1 C.2.1 dX1_countPoints_11 (lv_at hl 4 rfl) ?_
    refine lv_iload_n C.1 C.2.1 dX1_countPoints_13 rfl (lv_at hl 1 rfl) ?_
    refine i_icmp_ge (tgt := 39) C dX1_countPoints_14 (by decide) ⟨by omega, by omega⟩ ⟨by omega, by omega⟩ (fun h1 => ?_) (fun h1 => ?_)
    · omega
    · refine lv_aload_n C.1 C.2.1 dX1_countPoints_17 rfl (lv_at hl 0 rfl) ?_
      refine gf C hK hP 0 rfl rfl aw_uX1 1 (by decide) aw_f_X1_13 rfl dX1_countPoints_18 ?_
      refine lv_iload C.1 C.2.1 dX1_countPoints_21 (lv_at hl 4 rfl) ?_
      refine lv_iload C.1 C.2.1 dX1_countPoints_23 (lv_at hl 4 rfl) ?_
      refine i_mul C dX1_countPoints_25 ?_
      refine lv_iload_n C.1 C.2.1 dX1_countPoints_26 rfl (lv_at hl 1 rfl) ?_
      refine i_rem C dX1_countPoints_27 ⟨by omega, by omega⟩ ⟨by omega, by omega⟩ ?_
      refine i_top (b := ((y * y % p : Nat) : Int)) rfl ?_
      refine lv_dup2_11 C.1 C.2.1 dX1_countPoints_28 rfl rfl ?_
      refine i_ald C hK hP 1 0 rfl rfl (y * y % p) (by omega) (by omega) (by omega) dX1_countPoints_29 ?_
      refine i_const C dX1_countPoints_30 ?_
      refine i_add C dX1_countPoints_31 ?_
      refine i_ast C hK hP hD hS 1 0 rfl rfl (y * y % p) rfl (by omega) (by omega) dX1_countPoints_32 (fun H1 locs1 hP hD hS => ?_)
      rw [rc_up] at hP hD
      have hP : va_P D clX [(hx, .inr (1, [.ref hr0, .ref hq0, tk, .int (ii sec), .int (ii dr)])), (hq0, .inl (cQ, 1021, .inl (fun v => ii ((rc p (y + 1) v : Nat) : Int))))] H1 := hP
      have hD : va_D A [(hx, .inr (1, [.ref hr0, .ref hq0, tk, .int (ii sec), .int (ii dr)])), (hq0, .inl (cQ, 1021, .inl (fun v => ii ((rc p (y + 1) v : Nat) : Int))))] := hD
      refine lv_iinc C.1 C.2.1 dX1_countPoints_33 hl (k := 4) rfl (ii_add (y : Int) 1) (by decide) rfl (fun ls hl => ?_)
      have hl : lv_has ls 6 [(4, .int (ii ((y : Int) + 1))), (0, .ref hx), (1, .int (ii (p : Int))), (2, .int (ii (a : Int))), (3, .int (ii (b : Int)))] := hl
      refine lv_goto (tgt := 11) C.1 C.2.1 dX1_countPoints_36 (by decide) ?_
      exact ih ls H1 locs1 (y + 1) (by omega) hP hD hS (lv_sub (l' := [(0, .ref hx), (1, .int (ii (p : Int))), (2, .int (ii (a : Int))), (3, .int (ii (b : Int))), (4, .int (ii ((y : Int) + 1)))]) hl [1, 2, 3, 4, 0] rfl)
  refine lv_aload_n C.1 C.2.1 dX1_countPoints_0 rfl (lv_at hl 0 rfl) ?_
  refine gf C hK hP 0 rfl rfl aw_uX1 1 (by decide) aw_f_X1_13 rfl dX1_countPoints_1 ?_
  refine i_const C dX1_countPoints_4 ?_
  have hFc := va_free (wc := [(hq0, .inl (cQ, 1021, .inl f))]) hD hS hA [1] rfl
  refine cn_S (As := [.ref hq0, .int (ii 0)]) (rest := []) C (c_fill l D z0 S0.heap.size hq0 1021 cQ f (ii 0) (by omega)) (pcm_pre _ hN (Zs.on hZ hS hAz) (by have := hS.1; omega) (hP.sub (ws' := [(hq0, .inl (cQ, 1021, .inl f))]) [1] rfl) (hK.sub (tys' := [(cQ, .int)]) [0] rfl) ((hD.sub (ws' := [(hq0, .inl (cQ, 1021, .inl f))]) [1] (by decide) rfl).weaken (fun _ _ _ h => hAz _ h))) hS hFc aw_b_JA_fill aw_m_X1_16 aw_s_JA_fill aw_i_JA ⟨rfl, rfl⟩ 2 (by decide +kernel) rfl ⟨by decide, by decide⟩ hl.1 rfl (Nat.le_of_ble_eq_true rfl) dX1_countPoints_5 ⟨by decide, by decide⟩ (fun t H1 locs1 ht hvm _ hB hz1 hk1 hS => ?_)
  obtain ⟨hP1, hK1, hD1⟩ := hB
  rw [ht] at hP1
  obtain ⟨hP, hD⟩ := va_join (wr := [(hx, .inr (1, [.ref hr0, .ref hq0, tk, .int (ii sec), .int (ii dr)]))]) (w1 := [(hq0, .inl (cQ, 1021, .inl (fun _ => ii 0)))]) hP hD [1] [0] rfl rfl (by decide) (by decide) hk1 hFc hP1 hD1
  have hP : va_P D clX [(hx, .inr (1, [.ref hr0, .ref hq0, tk, .int (ii sec), .int (ii dr)])), (hq0, .inl (cQ, 1021, .inl (fun _ => ii 0)))] H1 := hP
  have hD : va_D A [(hx, .inr (1, [.ref hr0, .ref hq0, tk, .int (ii sec), .int (ii dr)])), (hq0, .inl (cQ, 1021, .inl (fun _ => ii 0)))] := hD
  refine i_const C dX1_countPoints_8 ?_
  refine lv_istore C.1 C.2.1 dX1_countPoints_9 hl (by decide) rfl (fun ls hl => ?_)
  have hl : lv_has ls 6 [(4, .int (ii 0)), (0, .ref hx), (1, .int (ii (p : Int))), (2, .int (ii (a : Int))), (3, .int (ii (b : Int)))] := hl
  exact loop1 p ls H1 locs1 0 (by omega) hP hD hS (lv_sub (l' := [(0, .ref hx), (1, .int (ii (p : Int))), (2, .int (ii (a : Int))), (3, .int (ii (b : Int))), (4, .int (ii 0))]) hl [1, 2, 3, 4, 0] rfl)
end
section
/-! The class: constructors, curve. By wip/whole/tools/gen11.py. -/
set_option maxRecDepth 100000 in
set_option maxHeartbeats 4000000 in
theorem c_X0_init (l : Launch) (D : va_G) (z0 sz : Nat) (h0 p a b n : Nat) (hp : 5 ≤ p ∧ p ≤ 1021) (ha : a < p) (hb : b < p) : Met l yX0_init (Cond.code yX0_init cX0_init 5 none :: AW) ({ frames := 2, cells := 0, slots := 0, locals := 60 } : Room) (PcM D z0 sz [(h0, .inr (0, [.int 0, .int 0, .int 0, .int 0, .int 0]))] [] [.ref h0, .int (ii (p : Int)), .int (ii (a : Int)), .int (ii (b : Int)), .int (ii (n : Int))]) (QcM none True (Wd D [(h0, .inr (0, [.int (ii (p : Int)), .int (ii (a : Int)), .int (ii (b : Int)), .int (ii (n : Int)), .int (ii (lpF p a b 1100 0))]))] [] (va_A [(h0, .inr (0, [.int 0, .int 0, .int 0, .int 0, .int 0]))] sz)) (va_A [(h0, .inr (0, [.int 0, .int 0, .int 0, .int 0, .int 0]))] sz)) 0 0 (va_A [(h0, .inr (0, [.int 0, .int 0, .int 0, .int 0, .int 0]))] sz) := by
  refine mt_N (by decide +kernel) (Nat.le_of_ble_eq_true rfl) ?_
  intro P0 E0 S0 M0 A0 B0 T0 K0 C hN hZ hsz hz hP hK hD hAz hA hr hk hin ls hl
  have hl : lv_has ls 5 [(0, .ref h0), (1, .int (ii (p : Int))), (2, .int (ii (a : Int))), (3, .int (ii (b : Int))), (4, .int (ii (n : Int)))] := hl
  generalize hAe : va_A [(h0, .inr (0, [.int 0, .int 0, .int 0, .int 0, .int 0]))] sz = A at hD hAz hA ⊢
  have hS : va_S A S0.heap S0.heap [] := va_S.rf
  refine lv_aload_n C.1 C.2.1 dX0_init_0 rfl (lv_at hl 0 rfl) ?_
  refine o_init C aw_m_X0_3 hl.1 dX0_init_1 ⟨by decide, by decide⟩ ?_
  refine lv_aload_n C.1 C.2.1 dX0_init_4 rfl (lv_at hl 0 rfl) ?_
  refine lv_iload_n C.1 C.2.1 dX0_init_5 rfl (lv_at hl 1 rfl) ?_
  refine p_ff C hK hP hD hS 0 rfl rfl aw_uX0 tyX0 tyX0_ok nmX0 0 (by decide) aw_f_X0_9 rfl (hin rfl) rfl rfl rfl (Nat.le_of_ble_eq_true rfl) dX0_init_6 (fun H1 locs1 hP hD hS => ?_)
  have hP : va_P D clX [(h0, .inr (0, [.int (ii (p : Int)), .int 0, .int 0, .int 0, .int 0]))] H1 := hP
  have hD : va_D A [(h0, .inr (0, [.int (ii (p : Int)), .int 0, .int 0, .int 0, .int 0]))] := hD
  refine lv_aload_n C.1 C.2.1 dX0_init_9 rfl (lv_at hl 0 rfl) ?_
  refine lv_iload_n C.1 C.2.1 dX0_init_10 rfl (lv_at hl 2 rfl) ?_
  refine p_ff C hK hP hD hS 0 rfl rfl aw_uX0 tyX0 tyX0_ok nmX0 1 (by decide) aw_f_X0_15 rfl (hin rfl) rfl rfl rfl (Nat.le_of_ble_eq_true rfl) dX0_init_11 (fun H1 locs1 hP hD hS => ?_)
  have hP : va_P D clX [(h0, .inr (0, [.int (ii (p : Int)), .int (ii (a : Int)), .int 0, .int 0, .int 0]))] H1 := hP
  have hD : va_D A [(h0, .inr (0, [.int (ii (p : Int)), .int (ii (a : Int)), .int 0, .int 0, .int 0]))] := hD
  refine lv_aload_n C.1 C.2.1 dX0_init_14 rfl (lv_at hl 0 rfl) ?_
  refine lv_iload_n C.1 C.2.1 dX0_init_15 rfl (lv_at hl 3 rfl) ?_
  refine p_ff C hK hP hD hS 0 rfl rfl aw_uX0 tyX0 tyX0_ok nmX0 2 (by decide) aw_f_X0_18 rfl (hin rfl) rfl rfl rfl (Nat.le_of_ble_eq_true rfl) dX0_init_16 (fun H1 locs1 hP hD hS => ?_)
  have hP : va_P D clX [(h0, .inr (0, [.int (ii (p : Int)), .int (ii (a : Int)), .int (ii (b : Int)), .int 0, .int 0]))] H1 := hP
  have hD : va_D A [(h0, .inr (0, [.int (ii (p : Int)), .int (ii (a : Int)), .int (ii (b : Int)), .int 0, .int 0]))] := hD
  refine lv_aload_n C.1 C.2.1 dX0_init_19 rfl (lv_at hl 0 rfl) ?_
  refine lv_iload C.1 C.2.1 dX0_init_20 (lv_at hl 4 rfl) ?_
  refine p_ff C hK hP hD hS 0 rfl rfl aw_uX0 tyX0 tyX0_ok nmX0 3 (by decide) aw_f_X0_21 rfl (hin rfl) rfl rfl rfl (Nat.le_of_ble_eq_true rfl) dX0_init_22 (fun H1 locs1 hP hD hS => ?_)
  have hP : va_P D clX [(h0, .inr (0, [.int (ii (p : Int)), .int (ii (a : Int)), .int (ii (b : Int)), .int (ii (n : Int)), .int 0]))] H1 := hP
  have hD : va_D A [(h0, .inr (0, [.int (ii (p : Int)), .int (ii (a : Int)), .int (ii (b : Int)), .int (ii (n : Int)), .int 0]))] := hD
  refine lv_aload_n C.1 C.2.1 dX0_init_25 rfl (lv_at hl 0 rfl) ?_
  refine lv_iload_n C.1 C.2.1 dX0_init_26 rfl (lv_at hl 1 rfl) ?_
  refine lv_iload_n C.1 C.2.1 dX0_init_27 rfl (lv_at hl 2 rfl) ?_
  refine lv_iload_n C.1 C.2.1 dX0_init_28 rfl (lv_at hl 3 rfl) ?_
  refine ca_S (As := [.int (ii (p : Int)), .int (ii (a : Int)), .int (ii (b : Int))]) (rest := [.ref h0]) C (c_X0_leastPoint l p a b hp ha hb) (pcn_pre _ hN) aw_b_X0_leastPoint aw_m_X0_24 aw_s_X0_leastPoint aw_i_X0 ⟨rfl, rfl⟩ 3 (by decide +kernel) rfl ⟨by decide, by decide⟩ hl.1 rfl (Nat.le_of_ble_eq_true rfl) dX0_init_29 ⟨by decide, by decide⟩ ?_
  refine p_ff C hK hP hD hS 0 rfl rfl aw_uX0 tyX0 tyX0_ok nmX0 4 (by decide) aw_f_X0_28 rfl (hin rfl) rfl rfl rfl (Nat.le_of_ble_eq_true rfl) dX0_init_32 (fun H1 locs1 hP hD hS => ?_)
  have hP : va_P D clX [(h0, .inr (0, [.int (ii (p : Int)), .int (ii (a : Int)), .int (ii (b : Int)), .int (ii (n : Int)), .int (ii (lpF p a b 1100 0))]))] H1 := hP
  have hD : va_D A [(h0, .inr (0, [.int (ii (p : Int)), .int (ii (a : Int)), .int (ii (b : Int)), .int (ii (n : Int)), .int (ii (lpF p a b 1100 0))]))] := hD
  exact pz_v C hr hk hS trivial (fun t ht hvm => ⟨by rw [ht]; exact hP, va_K.moved hvm hK, hD⟩) dX0_init_35 (by decide) (by decide)
theorem icF_1 {p a b : Int} (h : icF p a b ≠ 0) : 5 ≤ p ∧ p ≤ 1021 ∧ 0 ≤ a ∧ a < p ∧ 0 ≤ b ∧ b < p ∧ prF p.toNat 1100 2 ≠ 0 ∧ (4 * (a * a % p * a % p) + 27 * (b * b % p)) % p ≠ 0 := by
  unfold icF at h
  split at h
  · exact absurd rfl h
  · split at h
    · exact absurd rfl h
    · split at h
      · exact absurd rfl h
      · split at h
        · exact absurd rfl h
        · split at h
          · exact absurd rfl h
          · split at h
            · exact absurd rfl h
            · split at h
              · exact absurd rfl h
              · split at h
                · exact absurd rfl h
                · refine ⟨by omega, by omega, by omega, by omega, by omega, by omega, by assumption, by assumption⟩
theorem icF_b (p a b : Int) : icF p a b = 0 ∨ icF p a b = 1 := by
  unfold icF
  repeat' split
  all_goals first | exact Or.inl rfl | exact Or.inr rfl
/-- the curve is taken -/
def tkF (p a b : Int) : Prop := icF p a b ≠ 0 ∧ 2 < cnt p.toNat a.toNat b.toNat ∧ prF (cnt p.toNat a.toNat b.toNat) 1100 2 ≠ 0
set_option maxRecDepth 100000 in
set_option maxHeartbeats 4000000 in
theorem c_X1_curve (l : Launch) (hL : l.stackTraces = false) (D : va_G) (z0 sz : Nat) (hx hr0 hq0 : Nat) (tk : Value) (sec dr : Int) (cI cQ : ClassId) (fr fq : Nat → Int32) (p a b : Int) (hp1 : rg p) (ha1 : rg a) (hb1 : rg b) : vx_Met l yX1_curve (Cond.code yX1_curve cX1_curve 5 (some .int) :: AW) ({ frames := 7, cells := 3, slots := 20, locals := 130 } : Room) (PcM D z0 sz [(hx, .inr (1, [.ref hr0, .ref hq0, tk, .int (ii sec), .int (ii dr)])), (hr0, .inl (cI, 4, .inl fr)), (hq0, .inl (cQ, 1021, .inl fq))] [(cI, .int), (cQ, .int)] [.ref hx, .int (ii p), .int (ii a), .int (ii b)]) (QcM (some (.int (ii ((cnt p.toNat a.toNat b.toNat : Nat) : Int)))) (tkF p a b) (fun t => ∃ (hc : Nat) (gq : Nat → Int32), Wd D [(hx, .inr (1, [.ref hr0, .ref hq0, .ref hc, .int (ii 0), .int (ii dr)])), (hr0, .inl (cI, 4, .inl (fun _ => ii (-1)))), (hq0, .inl (cQ, 1021, .inl gq)), (hc, .inr (0, [.int (ii ((p.toNat : Nat) : Int)), .int (ii ((a.toNat : Nat) : Int)), .int (ii ((b.toNat : Nat) : Int)), .int (ii ((cnt p.toNat a.toNat b.toNat : Nat) : Int)), .int (ii (lpF p.toNat a.toNat b.toNat 1100 0))]))] [(cI, .int), (cQ, .int)] (va_A [(hx, .inr (1, [.ref hr0, .ref hq0, tk, .int (ii sec), .int (ii dr)])), (hr0, .inl (cI, 4, .inl fr)), (hq0, .inl (cQ, 1021, .inl fq))] sz) t) (va_A [(hx, .inr (1, [.ref hr0, .ref hq0, tk, .int (ii sec), .int (ii dr)])), (hr0, .inl (cI, 4, .inl fr)), (hq0, .inl (cQ, 1021, .inl fq))] sz)) (XcM (fun E => E = "java/lang/IllegalArgumentException" ∧ ¬ tkF p a b) (fun t => ∃ gq : Nat → Int32, Wd D [(hx, .inr (1, [.ref hr0, .ref hq0, tk, .int (ii sec), .int (ii dr)])), (hr0, .inl (cI, 4, .inl fr)), (hq0, .inl (cQ, 1021, .inl gq))] [(cI, .int), (cQ, .int)] (va_A [(hx, .inr (1, [.ref hr0, .ref hq0, tk, .int (ii sec), .int (ii dr)])), (hr0, .inl (cI, 4, .inl fr)), (hq0, .inl (cQ, 1021, .inl fq))] sz) t) (va_A [(hx, .inr (1, [.ref hr0, .ref hq0, tk, .int (ii sec), .int (ii dr)])), (hr0, .inl (cI, 4, .inl fr)), (hq0, .inl (cQ, 1021, .inl fq))] sz)) 3 20 (va_A [(hx, .inr (1, [.ref hr0, .ref hq0, tk, .int (ii sec), .int (ii dr)])), (hr0, .inl (cI, 4, .inl fr)), (hq0, .inl (cQ, 1021, .inl fq))] sz) := by
  refine mt_M (by decide +kernel) (Nat.le_of_ble_eq_true rfl) ?_
  intro P0 E0 S0 M0 A0 B0 T0 K0 C hN hZ hsz hz hP hK hD hAz hA hr hk hex hin ls hl
  have hl : lv_has ls 5 [(0, .ref hx), (1, .int (ii p)), (2, .int (ii a)), (3, .int (ii b))] := hl
  generalize hAe : va_A [(hx, .inr (1, [.ref hr0, .ref hq0, tk, .int (ii sec), .int (ii dr)])), (hr0, .inl (cI, 4, .inl fr)), (hq0, .inl (cQ, 1021, .inl fq))] sz = A at hD hAz hA ⊢
  have hS : va_S A S0.heap S0.heap [] := va_S.rf
  unfold tkF
  have i1 := icF_b p a b
  have i2 := icF_1 (p := p) (a := a) (b := b)
  refine lv_iload_n C.1 C.2.1 dX1_curve_0 rfl (lv_at hl 1 rfl) ?_
  refine lv_iload_n C.1 C.2.1 dX1_curve_1 rfl (lv_at hl 2 rfl) ?_
  refine lv_iload_n C.1 C.2.1 dX1_curve_2 rfl (lv_at hl 3 rfl) ?_
  refine ca_S (As := [.int (ii p), .int (ii a), .int (ii b)]) (rest := []) C (c_X1_isCurve l p a b hp1 ha1 hb1) (pcn_pre _ hN) aw_b_X1_isCurve aw_m_X1_33 aw_s_X1_isCurve aw_i_X1 ⟨rfl, rfl⟩ 3 (by decide +kernel) rfl ⟨by decide, by decide⟩ hl.1 rfl (Nat.le_of_ble_eq_true rfl) dX1_curve_3 ⟨by decide, by decide⟩ ?_
  generalize icF p a b = j at i1 i2 ⊢
  refine i_if_ne (tgt := 19) C dX1_curve_6 (by decide) ⟨by omega, by omega⟩ (fun h1 => ?_) (fun h1 => ?_)
  · obtain ⟨i3, i4, i5, i6, i7, i8, i9, i10⟩ := i2 h1
    obtain ⟨P, rfl⟩ := Int.eq_ofNat_of_zero_le (show 0 ≤ p by omega)
    obtain ⟨A1, rfl⟩ := Int.eq_ofNat_of_zero_le i5
    obtain ⟨B1, rfl⟩ := Int.eq_ofNat_of_zero_le i7
    rw [Int.toNat_natCast, Int.toNat_natCast, Int.toNat_natCast]
    have c1 := cs_le P A1 B1 P
    have c2 := Nat.mul_le_mul (show P ≤ 1021 by omega) (show P ≤ 1021 by omega)
    rw [cs_cnt] at c1
    refine lv_aload_n C.1 C.2.1 dX1_curve_19 rfl (lv_at hl 0 rfl) ?_
    refine lv_iload_n C.1 C.2.1 dX1_curve_20 rfl (lv_at hl 1 rfl) ?_
    refine lv_iload_n C.1 C.2.1 dX1_curve_21 rfl (lv_at hl 2 rfl) ?_
    refine lv_iload_n C.1 C.2.1 dX1_curve_22 rfl (lv_at hl 3 rfl) ?_
    have hFc := va_free (wc := [(hx, .inr (1, [.ref hr0, .ref hq0, tk, .int (ii sec), .int (ii dr)])), (hq0, .inl (cQ, 1021, .inl fq))]) hD hS hA [0, 2] rfl
    refine cn_V (As := [.int (ii (P : Int)), .int (ii (A1 : Int)), .int (ii (B1 : Int))]) (rest := []) C (c_X1_countPoints l D z0 S0.heap.size hx hr0 hq0 tk sec dr cQ fq P A1 B1 (by omega) (by omega) (by omega)) (pcm_preV _ hN hZ (by omega) (hP.sub (ws' := [(hx, .inr (1, [.ref hr0, .ref hq0, tk, .int (ii sec), .int (ii dr)])), (hq0, .inl (cQ, 1021, .inl fq))]) [0, 2] rfl) (hK.sub (tys' := [(cQ, .int)]) [1] rfl) ((hD.sub (ws' := [(hx, .inr (1, [.ref hr0, .ref hq0, tk, .int (ii sec), .int (ii dr)])), (hq0, .inl (cQ, 1021, .inl fq))]) [0, 2] (by decide) rfl).weaken (fun _ _ _ h => hAz _ h)) 0 (ci := 1) rfl rfl) hS hFc aw_b_X1_countPoints aw_m_X1_44 aw_v_X1_countPoints aw_i_X1 aw_e_X1_countPoints ⟨rfl, rfl⟩ 3 (by decide +kernel) rfl ⟨by decide, by decide⟩ hl.1 rfl (Nat.le_of_ble_eq_true rfl) dX1_curve_23 ⟨by decide, by decide⟩ (fun t H1 locs1 ht hvm _ hB hz1 hk1 hS => ?_)
    obtain ⟨hP1, hK1, hD1⟩ := hB
    rw [ht] at hP1
    obtain ⟨hP, hD⟩ := va_join (wr := [(hr0, .inl (cI, 4, .inl fr))]) (w1 := [(hx, .inr (1, [.ref hr0, .ref hq0, tk, .int (ii sec), .int (ii dr)])), (hq0, .inl (cQ, 1021, .inl (fun v => ii ((rc P P v : Nat) : Int))))]) hP hD [0, 2] [1] rfl rfl (by decide) (by decide) hk1 hFc hP1 hD1
    have hP := hP.sub (ws' := [(hx, .inr (1, [.ref hr0, .ref hq0, tk, .int (ii sec), .int (ii dr)])), (hr0, .inl (cI, 4, .inl fr)), (hq0, .inl (cQ, 1021, .inl (fun v => ii ((rc P P v : Nat) : Int))))]) [1, 0, 2] rfl
    have hD := hD.sub (ws' := [(hx, .inr (1, [.ref hr0, .ref hq0, tk, .int (ii sec), .int (ii dr)])), (hr0, .inl (cI, 4, .inl fr)), (hq0, .inl (cQ, 1021, .inl (fun v => ii ((rc P P v : Nat) : Int))))]) [1, 0, 2] (by decide) rfl
    generalize cnt P A1 B1 = n at c1 ⊢
    refine lv_istore C.1 C.2.1 dX1_curve_26 hl (by decide) rfl (fun ls hl => ?_)
    have hl : lv_has ls 5 [(4, .int (ii (n : Int))), (0, .ref hx), (1, .int (ii (P : Int))), (2, .int (ii (A1 : Int))), (3, .int (ii (B1 : Int)))] := hl
    refine lv_iload C.1 C.2.1 dX1_curve_28 (lv_at hl 0 rfl) ?_
    refine i_const C dX1_curve_30 ?_
    refine i_icmp_le (tgt := 42) C dX1_curve_31 (by decide) ⟨by omega, by omega⟩ ⟨by omega, by omega⟩ (fun h2 => ?_) (fun h2 => ?_)
    · refine th_S (z0 := z0) C hL hN hZ (va_S.mono hS hAz) (text := "the order is no prime greater than 2") (by decide +kernel) (by decide +kernel) tw_iae hl.1 dX1_curve_42 dX1_curve_45 dX1_curve_46 dX1_curve_48 dX1_curve_51 hex ⟨by decide, by decide, by decide, by decide⟩ (Nat.le_of_ble_eq_true rfl) hk (fun t hvm z1 z2 => ⟨⟨rfl, fun z => absurd z.2.1 (by omega)⟩, ⟨(fun v => ii ((rc P P v : Nat) : Int)), hP.on z2, va_K.moved hvm hK, hD⟩, Nat.le_trans hS.1 z1, fun q h1 h2 => (z2 q (Nat.lt_of_lt_of_le h1 hS.1)).trans (hS.2.1 q h1 h2)⟩) hS.2.2 (by decide) (by decide)
    · have p1 := prF_b n 1100 2
      refine lv_iload C.1 C.2.1 dX1_curve_34 (lv_at hl 0 rfl) ?_
      refine ca_S (As := [.int (ii (n : Int))]) (rest := []) C (c_X1_isPrime l n (by omega)) (pcn_pre _ hN) aw_b_X1_isPrime aw_m_X1_48 aw_s_X1_isPrime aw_i_X1 ⟨rfl, rfl⟩ 1 (by decide +kernel) rfl ⟨by decide, by decide⟩ hl.1 rfl (Nat.le_of_ble_eq_true rfl) dX1_curve_36 ⟨by decide, by decide⟩ ?_
      generalize prF n 1100 2 = k at p1 ⊢
      refine i_if_ne (tgt := 52) C dX1_curve_39 (by decide) ⟨by omega, by omega⟩ (fun h3 => ?_) (fun h3 => ?_)
      · refine lv_aload_n C.1 C.2.1 dX1_curve_52 rfl (lv_at hl 1 rfl) ?_
        refine va_new (ci := 0) (fs := [.int 0, .int 0, .int 0, .int 0, .int 0]) C.1 C.2.1 C.2.2.2.2 aw_uX0 tyX0 tyX0_ok C.2.2.2.1 (C.2.2.2.2 _ aw_c_X1_54) (C.2.2.2.2 _ aw_n_X0) (C.2.2.2.2 _ aw_i_X0) hK hP hD hS hA rfl (fun j hj => by rcases (show j = 0 ∨ j = 1 ∨ j = 2 ∨ j = 3 ∨ j = 4 by omega) with rfl | rfl | rfl | rfl | rfl <;> rfl) (by decide) (by decide) dX1_curve_53 (fun hc H2 hP hD hS => ?_)
        have hP : va_P D clX [(hx, .inr (1, [.ref hr0, .ref hq0, tk, .int (ii sec), .int (ii dr)])), (hr0, .inl (cI, 4, .inl fr)), (hq0, .inl (cQ, 1021, .inl (fun v => ii ((rc P P v : Nat) : Int)))), (hc, .inr (0, [.int 0, .int 0, .int 0, .int 0, .int 0]))] H2 := hP
        have hD : va_D A [(hx, .inr (1, [.ref hr0, .ref hq0, tk, .int (ii sec), .int (ii dr)])), (hr0, .inl (cI, 4, .inl fr)), (hq0, .inl (cQ, 1021, .inl (fun v => ii ((rc P P v : Nat) : Int)))), (hc, .inr (0, [.int 0, .int 0, .int 0, .int 0, .int 0]))] := hD
        refine lv_dup C.1 C.2.1 dX1_curve_56 rfl ?_
        refine lv_iload_n C.1 C.2.1 dX1_curve_57 rfl (lv_at hl 2 rfl) ?_
        refine lv_iload_n C.1 C.2.1 dX1_curve_58 rfl (lv_at hl 3 rfl) ?_
        refine lv_iload_n C.1 C.2.1 dX1_curve_59 rfl (lv_at hl 4 rfl) ?_
        refine lv_iload C.1 C.2.1 dX1_curve_60 (lv_at hl 0 rfl) ?_
        have hFc := va_free (wc := [(hc, .inr (0, [.int 0, .int 0, .int 0, .int 0, .int 0]))]) hD hS hA [3] rfl
        refine cn_I (As := [.int (ii (P : Int)), .int (ii (A1 : Int)), .int (ii (B1 : Int)), .int (ii (n : Int))]) (rest := [.ref hc, .ref hx]) C (c_X0_init l D z0 H2.size hc P A1 B1 n (by omega) (by omega) (by omega)) (pcm_pre _ hN (Zs.on hZ hS hAz) (by have := hS.1; omega) (hP.sub (ws' := [(hc, .inr (0, [.int 0, .int 0, .int 0, .int 0, .int 0]))]) [3] rfl) (hK.sub (tys' := []) [] rfl) ((hD.sub (ws' := [(hc, .inr (0, [.int 0, .int 0, .int 0, .int 0, .int 0]))]) [3] (by decide) rfl).weaken (fun _ _ _ h => hAz _ h))) hS hFc aw_b_X0_init aw_m_X1_56 aw_v_X0_init aw_i_X0 rfl ⟨rfl, rfl⟩ 4 (by decide +kernel) rfl ⟨by decide, by decide⟩ hl.1 rfl (Nat.le_of_ble_eq_true rfl) dX1_curve_62 ⟨by decide, by decide⟩ (fun t H3 locs3 ht hvm _ hB hz1 hk1 hS => ?_)
        obtain ⟨hP1, hK1, hD1⟩ := hB
        rw [ht] at hP1
        obtain ⟨hP, hD⟩ := va_join (wr := [(hx, .inr (1, [.ref hr0, .ref hq0, tk, .int (ii sec), .int (ii dr)])), (hr0, .inl (cI, 4, .inl fr)), (hq0, .inl (cQ, 1021, .inl (fun v => ii ((rc P P v : Nat) : Int))))]) (w1 := [(hc, .inr (0, [.int (ii (P : Int)), .int (ii (A1 : Int)), .int (ii (B1 : Int)), .int (ii (n : Int)), .int (ii (lpF P A1 B1 1100 0))]))]) hP hD [3] [0, 1, 2] rfl rfl (by decide) (by decide) hk1 hFc hP1 hD1
        have hP : va_P D clX [(hx, .inr (1, [.ref hr0, .ref hq0, tk, .int (ii sec), .int (ii dr)])), (hr0, .inl (cI, 4, .inl fr)), (hq0, .inl (cQ, 1021, .inl (fun v => ii ((rc P P v : Nat) : Int)))), (hc, .inr (0, [.int (ii (P : Int)), .int (ii (A1 : Int)), .int (ii (B1 : Int)), .int (ii (n : Int)), .int (ii (lpF P A1 B1 1100 0))]))] H3 := hP
        have hD : va_D A [(hx, .inr (1, [.ref hr0, .ref hq0, tk, .int (ii sec), .int (ii dr)])), (hr0, .inl (cI, 4, .inl fr)), (hq0, .inl (cQ, 1021, .inl (fun v => ii ((rc P P v : Nat) : Int)))), (hc, .inr (0, [.int (ii (P : Int)), .int (ii (A1 : Int)), .int (ii (B1 : Int)), .int (ii (n : Int)), .int (ii (lpF P A1 B1 1100 0))]))] := hD
        refine p_f C hK hP hD hS 0 rfl rfl aw_uX1 tyX1 tyX1_ok nmX1 2 (by decide) aw_f_X1_22 rfl rfl rfl (Nat.le_of_ble_eq_true rfl) dX1_curve_65 (fun H1 locs1 hP hD hS => ?_)
        have hP : va_P D clX [(hx, .inr (1, [.ref hr0, .ref hq0, .ref hc, .int (ii sec), .int (ii dr)])), (hr0, .inl (cI, 4, .inl fr)), (hq0, .inl (cQ, 1021, .inl (fun v => ii ((rc P P v : Nat) : Int)))), (hc, .inr (0, [.int (ii (P : Int)), .int (ii (A1 : Int)), .int (ii (B1 : Int)), .int (ii (n : Int)), .int (ii (lpF P A1 B1 1100 0))]))] H1 := hP
        have hD : va_D A [(hx, .inr (1, [.ref hr0, .ref hq0, .ref hc, .int (ii sec), .int (ii dr)])), (hr0, .inl (cI, 4, .inl fr)), (hq0, .inl (cQ, 1021, .inl (fun v => ii ((rc P P v : Nat) : Int)))), (hc, .inr (0, [.int (ii (P : Int)), .int (ii (A1 : Int)), .int (ii (B1 : Int)), .int (ii (n : Int)), .int (ii (lpF P A1 B1 1100 0))]))] := hD
        refine lv_aload_n C.1 C.2.1 dX1_curve_68 rfl (lv_at hl 1 rfl) ?_
        refine gf C hK hP 0 rfl rfl aw_uX1 0 (by decide) aw_f_X1_9 rfl dX1_curve_69 ?_
        refine i_const C dX1_curve_72 ?_
        have hFc := va_free (wc := [(hr0, .inl (cI, 4, .inl fr))]) hD hS hA [1] rfl
        refine cn_S (As := [.ref hr0, .int (ii (-1))]) (rest := []) C (c_fill l D z0 H1.size hr0 4 cI fr (ii (-1)) (by omega)) (pcm_pre _ hN (Zs.on hZ hS hAz) (by have := hS.1; omega) (hP.sub (ws' := [(hr0, .inl (cI, 4, .inl fr))]) [1] rfl) (hK.sub (tys' := [(cI, .int)]) [0] rfl) ((hD.sub (ws' := [(hr0, .inl (cI, 4, .inl fr))]) [1] (by decide) rfl).weaken (fun _ _ _ h => hAz _ h))) hS hFc aw_b_JA_fill aw_m_X1_16 aw_s_JA_fill aw_i_JA ⟨rfl, rfl⟩ 2 (by decide +kernel) rfl ⟨by decide, by decide⟩ hl.1 rfl (Nat.le_of_ble_eq_true rfl) dX1_curve_73 ⟨by decide, by decide⟩ (fun t H1 locs1 ht hvm _ hB hz1 hk1 hS => ?_)
        obtain ⟨hP1, hK1, hD1⟩ := hB
        rw [ht] at hP1
        obtain ⟨hP, hD⟩ := va_join (wr := [(hx, .inr (1, [.ref hr0, .ref hq0, .ref hc, .int (ii sec), .int (ii dr)])), (hq0, .inl (cQ, 1021, .inl (fun v => ii ((rc P P v : Nat) : Int)))), (hc, .inr (0, [.int (ii (P : Int)), .int (ii (A1 : Int)), .int (ii (B1 : Int)), .int (ii (n : Int)), .int (ii (lpF P A1 B1 1100 0))]))]) (w1 := [(hr0, .inl (cI, 4, .inl (fun _ => ii (-1))))]) hP hD [1] [0, 2, 3] rfl rfl (by decide) (by decide) hk1 hFc hP1 hD1
        have hP : va_P D clX [(hx, .inr (1, [.ref hr0, .ref hq0, .ref hc, .int (ii sec), .int (ii dr)])), (hq0, .inl (cQ, 1021, .inl (fun v => ii ((rc P P v : Nat) : Int)))), (hc, .inr (0, [.int (ii (P : Int)), .int (ii (A1 : Int)), .int (ii (B1 : Int)), .int (ii (n : Int)), .int (ii (lpF P A1 B1 1100 0))])), (hr0, .inl (cI, 4, .inl (fun _ => ii (-1))))] H1 := hP
        have hD : va_D A [(hx, .inr (1, [.ref hr0, .ref hq0, .ref hc, .int (ii sec), .int (ii dr)])), (hq0, .inl (cQ, 1021, .inl (fun v => ii ((rc P P v : Nat) : Int)))), (hc, .inr (0, [.int (ii (P : Int)), .int (ii (A1 : Int)), .int (ii (B1 : Int)), .int (ii (n : Int)), .int (ii (lpF P A1 B1 1100 0))])), (hr0, .inl (cI, 4, .inl (fun _ => ii (-1))))] := hD
        have hP := hP.sub (ws' := [(hx, .inr (1, [.ref hr0, .ref hq0, .ref hc, .int (ii sec), .int (ii dr)])), (hr0, .inl (cI, 4, .inl (fun _ => ii (-1)))), (hq0, .inl (cQ, 1021, .inl (fun v => ii ((rc P P v : Nat) : Int)))), (hc, .inr (0, [.int (ii (P : Int)), .int (ii (A1 : Int)), .int (ii (B1 : Int)), .int (ii (n : Int)), .int (ii (lpF P A1 B1 1100 0))]))]) [0, 3, 1, 2] rfl
        have hD := hD.sub (ws' := [(hx, .inr (1, [.ref hr0, .ref hq0, .ref hc, .int (ii sec), .int (ii dr)])), (hr0, .inl (cI, 4, .inl (fun _ => ii (-1)))), (hq0, .inl (cQ, 1021, .inl (fun v => ii ((rc P P v : Nat) : Int)))), (hc, .inr (0, [.int (ii (P : Int)), .int (ii (A1 : Int)), .int (ii (B1 : Int)), .int (ii (n : Int)), .int (ii (lpF P A1 B1 1100 0))]))]) [0, 3, 1, 2] (by decide) rfl
        refine lv_aload_n C.1 C.2.1 dX1_curve_76 rfl (lv_at hl 1 rfl) ?_
        refine i_const C dX1_curve_77 ?_
        refine p_f C hK hP hD hS 0 rfl rfl aw_uX1 tyX1 tyX1_ok nmX1 3 (by decide) aw_f_X1_26 rfl rfl rfl (Nat.le_of_ble_eq_true rfl) dX1_curve_78 (fun H1 locs1 hP hD hS => ?_)
        have hP : va_P D clX [(hx, .inr (1, [.ref hr0, .ref hq0, .ref hc, .int (ii 0), .int (ii dr)])), (hr0, .inl (cI, 4, .inl (fun _ => ii (-1)))), (hq0, .inl (cQ, 1021, .inl (fun v => ii ((rc P P v : Nat) : Int)))), (hc, .inr (0, [.int (ii (P : Int)), .int (ii (A1 : Int)), .int (ii (B1 : Int)), .int (ii (n : Int)), .int (ii (lpF P A1 B1 1100 0))]))] H1 := hP
        have hD : va_D A [(hx, .inr (1, [.ref hr0, .ref hq0, .ref hc, .int (ii 0), .int (ii dr)])), (hr0, .inl (cI, 4, .inl (fun _ => ii (-1)))), (hq0, .inl (cQ, 1021, .inl (fun v => ii ((rc P P v : Nat) : Int)))), (hc, .inr (0, [.int (ii (P : Int)), .int (ii (A1 : Int)), .int (ii (B1 : Int)), .int (ii (n : Int)), .int (ii (lpF P A1 B1 1100 0))]))] := hD
        refine lv_iload C.1 C.2.1 dX1_curve_81 (lv_at hl 0 rfl) ?_
        exact py_i C hr hk hS ⟨h1, by omega, by omega⟩ (fun t ht hvm => ⟨hc, (fun v => ii ((rc P P v : Nat) : Int)), by rw [ht]; exact hP, va_K.moved hvm hK, hD⟩) dX1_curve_83 rfl (by decide) (by decide)
      · refine th_S (z0 := z0) C hL hN hZ (va_S.mono hS hAz) (text := "the order is no prime greater than 2") (by decide +kernel) (by decide +kernel) tw_iae hl.1 dX1_curve_42 dX1_curve_45 dX1_curve_46 dX1_curve_48 dX1_curve_51 hex ⟨by decide, by decide, by decide, by decide⟩ (Nat.le_of_ble_eq_true rfl) hk (fun t hvm z1 z2 => ⟨⟨rfl, fun z => z.2.2 (by omega)⟩, ⟨(fun v => ii ((rc P P v : Nat) : Int)), hP.on z2, va_K.moved hvm hK, hD⟩, Nat.le_trans hS.1 z1, fun q h1 h2 => (z2 q (Nat.lt_of_lt_of_le h1 hS.1)).trans (hS.2.1 q h1 h2)⟩) hS.2.2 (by decide) (by decide)
  · refine th_S (z0 := z0) C hL hN hZ (va_S.mono hS hAz) (text := "no curve") (by decide +kernel) (by decide +kernel) tw_iae hl.1 dX1_curve_9 dX1_curve_12 dX1_curve_13 dX1_curve_15 dX1_curve_18 hex ⟨by decide, by decide, by decide, by decide⟩ (Nat.le_of_ble_eq_true rfl) hk (fun t hvm z1 z2 => ⟨⟨rfl, fun z => h1 z.1⟩, ⟨fq, hP.on z2, va_K.moved hvm hK, hD⟩, Nat.le_trans hS.1 z1, fun q h1 h2 => (z2 q (Nat.lt_of_lt_of_le h1 hS.1)).trans (hS.2.1 q h1 h2)⟩) hS.2.2 (by decide) (by decide)
end
section
/-! The class: its constructor. By wip/whole/tools/gen11.py. -/
set_option maxRecDepth 100000 in
set_option maxHeartbeats 600000 in
theorem c_X1_init (l : Launch) (D : va_G) (z0 sz : Nat) (hx : Nat) : Met l yX1_init (Cond.code yX1_init cX1_init 1 none :: AW) ({ frames := 1, cells := 2, slots := 1025, locals := 40 } : Room) (PcM D z0 sz [(hx, .inr (1, [.null, .null, .null, .int 0, .int 0]))] [] [.ref hx]) (QcM none True (fun t => ∃ (hr0 hq0 : Nat) (cI cQ : ClassId), Wd D [(hx, .inr (1, [.ref hr0, .ref hq0, .null, .int (ii 0), .int (ii 0)])), (hr0, .inl (cI, 4, .inl (fun _ => ii (-1)))), (hq0, .inl (cQ, 1021, .inl (fun _ => 0)))] [(cI, .int), (cQ, .int)] (va_A [(hx, .inr (1, [.null, .null, .null, .int 0, .int 0]))] sz) t) (va_A [(hx, .inr (1, [.null, .null, .null, .int 0, .int 0]))] sz)) 2 1025 (va_A [(hx, .inr (1, [.null, .null, .null, .int 0, .int 0]))] sz) := by
  refine mt_N (by decide +kernel) (Nat.le_of_ble_eq_true rfl) ?_
  intro P0 E0 S0 M0 A0 B0 T0 K0 C hN hZ hsz hz hP hK hD hAz hA hr hk hin ls hl
  have hl : lv_has ls 1 [(0, .ref hx)] := hl
  generalize hAe : va_A [(hx, .inr (1, [.null, .null, .null, .int 0, .int 0]))] sz = A at hD hAz hA ⊢
  have hS : va_S A S0.heap S0.heap [] := va_S.rf
  refine lv_aload_n C.1 C.2.1 dX1_init_0 rfl (lv_at hl 0 rfl) ?_
  refine o_init C aw_m_X1_1 hl.1 dX1_init_1 ⟨by decide, by decide⟩ ?_
  refine lv_aload_n C.1 C.2.1 dX1_init_4 rfl (lv_at hl 0 rfl) ?_
  refine i_const C dX1_init_5 ?_
  refine va_newa (atype := .int) C.1 C.2.1 (C.2.2.2.2 _ aw_a_int) rfl hK hP hD hS hA (a0 := (4, .inl (fun _ => 0))) (N' := 4) (fun cA => rfl) (by decide +kernel) (by decide +kernel) (Nat.le_of_ble_eq_true rfl) (Nat.le_of_ble_eq_true rfl) (Nat.le_of_ble_eq_true rfl) dX1_init_6 (fun hr0 cI H1 hK hP hD hS => ?_)
  have hP : va_P D clX [(hx, .inr (1, [.null, .null, .null, .int 0, .int 0])), (hr0, .inl (cI, 4, .inl (fun _ => 0)))] H1 := hP
  have hD : va_D A [(hx, .inr (1, [.null, .null, .null, .int 0, .int 0])), (hr0, .inl (cI, 4, .inl (fun _ => 0)))] := hD
  have hK : va_K D clX [(cI, .int)] S0 := hK
  refine p_ff C hK hP hD hS 0 rfl rfl aw_uX1 tyX1 tyX1_ok nmX1 0 (by decide) aw_f_X1_9 rfl (hin rfl) rfl rfl rfl (Nat.le_of_ble_eq_true rfl) dX1_init_8 (fun H1 locs1 hP hD hS => ?_)
  have hP : va_P D clX [(hx, .inr (1, [.ref hr0, .null, .null, .int 0, .int 0])), (hr0, .inl (cI, 4, .inl (fun _ => 0)))] H1 := hP
  have hD : va_D A [(hx, .inr (1, [.ref hr0, .null, .null, .int 0, .int 0])), (hr0, .inl (cI, 4, .inl (fun _ => 0)))] := hD
  refine lv_aload_n C.1 C.2.1 dX1_init_11 rfl (lv_at hl 0 rfl) ?_
  refine i_sipush C dX1_init_12 (by decide +kernel) ?_
  refine va_newa (atype := .int) C.1 C.2.1 (C.2.2.2.2 _ aw_a_int) rfl hK hP hD hS hA (a0 := (1021, .inl (fun _ => 0))) (N' := 1021) (fun cA => rfl) (by decide +kernel) (by decide +kernel) (Nat.le_of_ble_eq_true rfl) (Nat.le_of_ble_eq_true rfl) (Nat.le_of_ble_eq_true rfl) dX1_init_15 (fun hq0 cQ H1 hK hP hD hS => ?_)
  have hP : va_P D clX [(hx, .inr (1, [.ref hr0, .null, .null, .int 0, .int 0])), (hr0, .inl (cI, 4, .inl (fun _ => 0))), (hq0, .inl (cQ, 1021, .inl (fun _ => 0)))] H1 := hP
  have hD : va_D A [(hx, .inr (1, [.ref hr0, .null, .null, .int 0, .int 0])), (hr0, .inl (cI, 4, .inl (fun _ => 0))), (hq0, .inl (cQ, 1021, .inl (fun _ => 0)))] := hD
  have hK : va_K D clX [(cI, .int), (cQ, .int)] S0 := hK
  refine p_ff C hK hP hD hS 0 rfl rfl aw_uX1 tyX1 tyX1_ok nmX1 1 (by decide) aw_f_X1_13 rfl (hin rfl) rfl rfl rfl (Nat.le_of_ble_eq_true rfl) dX1_init_17 (fun H1 locs1 hP hD hS => ?_)
  have hP : va_P D clX [(hx, .inr (1, [.ref hr0, .ref hq0, .null, .int 0, .int 0])), (hr0, .inl (cI, 4, .inl (fun _ => 0))), (hq0, .inl (cQ, 1021, .inl (fun _ => 0)))] H1 := hP
  have hD : va_D A [(hx, .inr (1, [.ref hr0, .ref hq0, .null, .int 0, .int 0])), (hr0, .inl (cI, 4, .inl (fun _ => 0))), (hq0, .inl (cQ, 1021, .inl (fun _ => 0)))] := hD
  refine lv_aload_n C.1 C.2.1 dX1_init_20 rfl (lv_at hl 0 rfl) ?_
  refine gf C hK hP 0 rfl rfl aw_uX1 0 (by decide) aw_f_X1_9 rfl dX1_init_21 ?_
  refine i_const C dX1_init_24 ?_
  have hFc := va_free (wc := [(hr0, .inl (cI, 4, .inl (fun _ => 0)))]) hD hS hA [1] rfl
  refine cn_S (As := [.ref hr0, .int (ii (-1))]) (rest := []) C (c_fill l D z0 H1.size hr0 4 cI (fun _ => 0) (ii (-1)) (by omega)) (pcm_pre _ hN (Zs.on hZ hS hAz) (by have := hS.1; omega) (hP.sub (ws' := [(hr0, .inl (cI, 4, .inl (fun _ => 0)))]) [1] rfl) (hK.sub (tys' := [(cI, .int)]) [0] rfl) ((hD.sub (ws' := [(hr0, .inl (cI, 4, .inl (fun _ => 0)))]) [1] (by decide) rfl).weaken (fun _ _ _ h => hAz _ h))) hS hFc aw_b_JA_fill aw_m_X1_16 aw_s_JA_fill aw_i_JA ⟨rfl, rfl⟩ 2 (by decide +kernel) rfl ⟨by decide, by decide⟩ hl.1 rfl (Nat.le_of_ble_eq_true rfl) dX1_init_25 ⟨Nat.le_of_ble_eq_true rfl, Nat.le_of_ble_eq_true rfl⟩ (fun t H1 locs1 ht hvm _ hB hz1 hk1 hS => ?_)
  obtain ⟨hP1, hK1, hD1⟩ := hB
  rw [ht] at hP1
  obtain ⟨hP, hD⟩ := va_join (wr := [(hx, .inr (1, [.ref hr0, .ref hq0, .null, .int 0, .int 0])), (hq0, .inl (cQ, 1021, .inl (fun _ => 0)))]) (w1 := [(hr0, .inl (cI, 4, .inl (fun _ => ii (-1))))]) hP hD [1] [0, 2] rfl rfl (by decide) (by decide) hk1 hFc hP1 hD1
  have hP : va_P D clX [(hx, .inr (1, [.ref hr0, .ref hq0, .null, .int 0, .int 0])), (hq0, .inl (cQ, 1021, .inl (fun _ => 0))), (hr0, .inl (cI, 4, .inl (fun _ => ii (-1))))] H1 := hP
  have hD : va_D A [(hx, .inr (1, [.ref hr0, .ref hq0, .null, .int 0, .int 0])), (hq0, .inl (cQ, 1021, .inl (fun _ => 0))), (hr0, .inl (cI, 4, .inl (fun _ => ii (-1))))] := hD
  refine lv_aload_n C.1 C.2.1 dX1_init_28 rfl (lv_at hl 0 rfl) ?_
  refine lv_null C.1 C.2.1 dX1_init_29 ?_
  refine p_f C hK hP hD hS 0 rfl rfl aw_uX1 tyX1 tyX1_ok nmX1 2 (by decide) aw_f_X1_22 rfl rfl rfl (Nat.le_of_ble_eq_true rfl) dX1_init_30 (fun H1 locs1 hP hD hS => ?_)
  have hP : va_P D clX [(hx, .inr (1, [.ref hr0, .ref hq0, .null, .int 0, .int 0])), (hq0, .inl (cQ, 1021, .inl (fun _ => 0))), (hr0, .inl (cI, 4, .inl (fun _ => ii (-1))))] H1 := hP
  have hD : va_D A [(hx, .inr (1, [.ref hr0, .ref hq0, .null, .int 0, .int 0])), (hq0, .inl (cQ, 1021, .inl (fun _ => 0))), (hr0, .inl (cI, 4, .inl (fun _ => ii (-1))))] := hD
  refine lv_aload_n C.1 C.2.1 dX1_init_33 rfl (lv_at hl 0 rfl) ?_
  refine i_const C dX1_init_34 ?_
  refine p_f C hK hP hD hS 0 rfl rfl aw_uX1 tyX1 tyX1_ok nmX1 3 (by decide) aw_f_X1_26 rfl rfl rfl (Nat.le_of_ble_eq_true rfl) dX1_init_35 (fun H1 locs1 hP hD hS => ?_)
  have hP : va_P D clX [(hx, .inr (1, [.ref hr0, .ref hq0, .null, .int (ii 0), .int 0])), (hq0, .inl (cQ, 1021, .inl (fun _ => 0))), (hr0, .inl (cI, 4, .inl (fun _ => ii (-1))))] H1 := hP
  have hD : va_D A [(hx, .inr (1, [.ref hr0, .ref hq0, .null, .int (ii 0), .int 0])), (hq0, .inl (cQ, 1021, .inl (fun _ => 0))), (hr0, .inl (cI, 4, .inl (fun _ => ii (-1))))] := hD
  refine lv_aload_n C.1 C.2.1 dX1_init_38 rfl (lv_at hl 0 rfl) ?_
  refine i_const C dX1_init_39 ?_
  refine p_f C hK hP hD hS 0 rfl rfl aw_uX1 tyX1 tyX1_ok nmX1 4 (by decide) aw_f_X1_30 rfl rfl rfl (Nat.le_of_ble_eq_true rfl) dX1_init_40 (fun H1 locs1 hP hD hS => ?_)
  have hP : va_P D clX [(hx, .inr (1, [.ref hr0, .ref hq0, .null, .int (ii 0), .int (ii 0)])), (hq0, .inl (cQ, 1021, .inl (fun _ => 0))), (hr0, .inl (cI, 4, .inl (fun _ => ii (-1))))] H1 := hP
  have hD : va_D A [(hx, .inr (1, [.ref hr0, .ref hq0, .null, .int (ii 0), .int (ii 0)])), (hq0, .inl (cQ, 1021, .inl (fun _ => 0))), (hr0, .inl (cI, 4, .inl (fun _ => ii (-1))))] := hD
  have hP := hP.sub (ws' := [(hx, .inr (1, [.ref hr0, .ref hq0, .null, .int (ii 0), .int (ii 0)])), (hr0, .inl (cI, 4, .inl (fun _ => ii (-1)))), (hq0, .inl (cQ, 1021, .inl (fun _ => 0)))]) [0, 2, 1] rfl
  have hD := hD.sub (ws' := [(hx, .inr (1, [.ref hr0, .ref hq0, .null, .int (ii 0), .int (ii 0)])), (hr0, .inl (cI, 4, .inl (fun _ => ii (-1)))), (hq0, .inl (cQ, 1021, .inl (fun _ => 0)))]) [0, 2, 1] (by decide) rfl
  exact pz_v C hr hk hS trivial (fun t ht hvm => ⟨hr0, hq0, cI, cQ, by rw [ht]; exact hP, va_K.moved hvm hK, hD⟩) dX1_init_43 (Nat.le_of_ble_eq_true rfl) (Nat.le_of_ble_eq_true rfl)
end
section
/-! The class: sign. By wip/whole/tools/gen12.py. -/
/-- the draws of sign: xq k is the first coordinate of k times the base -/
def siF (n : Nat) (xq : Int → Nat) (e sec : Int) (mk : Int32) : Nat → Nat → Int32 → Int32 → Option (Nat × Int)
  | 0, _, _, _ => none
  | f + 1, d, st, v =>
    if sgF n (xq (mxF st v &&& mk).toInt) (mxF st v &&& mk).toInt e sec = 0 then
      siF n xq e sec mk f (d + 1) (mxF st (mxF st v + ii 1)) (mxF (mxF st (mxF st v + ii 1)) (mxF st v))
    else some (d, sgF n (xq (mxF st v &&& mk).toInt) (mxF st v &&& mk).toInt e sec)
theorem siF_s (n : Nat) (xq : Int → Nat) (e sec : Int) (mk : Int32) (f d : Nat) (st v : Int32) : siF n xq e sec mk (f + 1) d st v = if sgF n (xq (mxF st v &&& mk).toInt) (mxF st v &&& mk).toInt e sec = 0 then siF n xq e sec mk f (d + 1) (mxF st (mxF st v + ii 1)) (mxF (mxF st (mxF st v + ii 1)) (mxF st v)) else some (d, sgF n (xq (mxF st v &&& mk).toInt) (mxF st v &&& mk).toInt e sec) := rfl
theorem siF_0 (n : Nat) (xq : Int → Nat) (e sec : Int) (mk : Int32) (d : Nat) (st v : Int32) : siF n xq e sec mk 0 d st v = none := rfl
theorem ii_self (x : Int32) : ii x.toInt = x := by
  unfold ii
  exact Int32.ofInt_toInt x
theorem rg_self (x : Int32) : rg x.toInt := ⟨by have := Int32.le_toInt x; omega, by have := Int32.toInt_lt x; omega⟩
theorem sgF_b {n : Nat} (hn : 0 < n ∧ n ≤ 1100) (x : Nat) (k e d : Int) : 0 ≤ sgF n x k e d ∧ sgF n x k e d ≤ 73000000 := by
  unfold sgF
  have h1 := Nat.mod_lt x hn.1
  have h2 := qtF_b (e + ((x % n : Nat) : Int) * d) k hn.1
  repeat' split
  all_goals omega
/-- where the draws begin: stirrer and value -/
def st1 (e sec : Int) : Int32 := mxF (mxF (ii 0) (ii (1 + sec))) (mxF (mxF (ii 0) (ii (1 + sec))) (ii 1) ^^^ ii e)
def vl1 (e sec : Int) : Int32 := mxF (st1 e sec) (mxF (mxF (ii 0) (ii (1 + sec))) (ii 1))
set_option maxRecDepth 100000 in
set_option maxHeartbeats 1000000 in
theorem c_X1_sign (l : Launch) (hL : l.stackTraces = false) (D : va_G) (z0 sz : Nat) (hx hr0 hq0 hc : Nat) (sec dr : Int) (p a b n : Nat) (G : Option (Nat × Nat)) (hp : 5 ≤ p ∧ p ≤ 1021) (ha : a < p) (hb : b < p) (hn : 2 ≤ n ∧ n ≤ 1100) (hG : sm2 p G) (X : Int → Nat × Nat) (hM : ∀ k : Int, unF n k ≠ 0 → muF p a 11 none G (k % (n : Int)).toNat = some ((X k).1, (X k).2)) (hXb : ∀ k, (X k).1 < p ∧ (X k).2 < p) (hs1 : 0 ≤ sec ∧ sec ≤ 1099) (z : Int) (hz1 : rl z) (V : Option (Nat × Int)) (hV : siF n (fun k => (X k).1) (z % (n : Int)) sec (ii ((dmF n 30 1 : Nat) : Int)) 24 1 (st1 (z % (n : Int)) sec) (vl1 (z % (n : Int)) sec) = V) : vx_Met l yX1_sign (Cond.code yX1_sign cX1_sign 11 (some .long) :: AW) ({ frames := 7, cells := 1, slots := 6, locals := 180 } : Room) (PcM D z0 sz [(hx, .inr (1, [.ref hr0, .ref hq0, .ref hc, .int (ii sec), .int (ii dr)])), (hc, .inr (0, [.int (ii (p : Int)), .int (ii (a : Int)), .int (ii (b : Int)), .int (ii (n : Int)), .int (ii (ecd G))]))] [] [.ref hx, .long (li z)]) (QcM (some (.long (li (V.getD (0, 0)).2))) (sec ≠ 0 ∧ V ≠ none) (Wd D [(hx, .inr (1, [.ref hr0, .ref hq0, .ref hc, .int (ii sec), .int (ii ((V.getD (0, 0)).1 : Int))])), (hc, .inr (0, [.int (ii (p : Int)), .int (ii (a : Int)), .int (ii (b : Int)), .int (ii (n : Int)), .int (ii (ecd G))]))] [] (va_A [(hx, .inr (1, [.ref hr0, .ref hq0, .ref hc, .int (ii sec), .int (ii dr)])), (hc, .inr (0, [.int (ii (p : Int)), .int (ii (a : Int)), .int (ii (b : Int)), .int (ii (n : Int)), .int (ii (ecd G))]))] sz)) (va_A [(hx, .inr (1, [.ref hr0, .ref hq0, .ref hc, .int (ii sec), .int (ii dr)])), (hc, .inr (0, [.int (ii (p : Int)), .int (ii (a : Int)), .int (ii (b : Int)), .int (ii (n : Int)), .int (ii (ecd G))]))] sz)) (XcM (fun E => (E = "java/lang/IllegalStateException" ∧ sec = 0) ∨ (E = "java/lang/ArithmeticException" ∧ sec ≠ 0 ∧ V = none)) (Wd D [(hx, .inr (1, [.ref hr0, .ref hq0, .ref hc, .int (ii sec), .int (ii dr)])), (hc, .inr (0, [.int (ii (p : Int)), .int (ii (a : Int)), .int (ii (b : Int)), .int (ii (n : Int)), .int (ii (ecd G))]))] [] (va_A [(hx, .inr (1, [.ref hr0, .ref hq0, .ref hc, .int (ii sec), .int (ii dr)])), (hc, .inr (0, [.int (ii (p : Int)), .int (ii (a : Int)), .int (ii (b : Int)), .int (ii (n : Int)), .int (ii (ecd G))]))] sz)) (va_A [(hx, .inr (1, [.ref hr0, .ref hq0, .ref hc, .int (ii sec), .int (ii dr)])), (hc, .inr (0, [.int (ii (p : Int)), .int (ii (a : Int)), .int (ii (b : Int)), .int (ii (n : Int)), .int (ii (ecd G))]))] sz)) 1 6 (va_A [(hx, .inr (1, [.ref hr0, .ref hq0, .ref hc, .int (ii sec), .int (ii dr)])), (hc, .inr (0, [.int (ii (p : Int)), .int (ii (a : Int)), .int (ii (b : Int)), .int (ii (n : Int)), .int (ii (ecd G))]))] sz) := by
  refine mt_M (by decide +kernel) (Nat.le_of_ble_eq_true rfl) ?_
  intro P0 E0 S0 M0 A0 B0 T0 K0 C hN hZ hsz hz hP hK hD hAz hA hr hk hex hin ls hl
  have hl : lv_has ls 11 [(0, .ref hx), (1, .long (li z))] := hl
  generalize hAe : va_A [(hx, .inr (1, [.ref hr0, .ref hq0, .ref hc, .int (ii sec), .int (ii dr)])), (hc, .inr (0, [.int (ii (p : Int)), .int (ii (a : Int)), .int (ii (b : Int)), .int (ii (n : Int)), .int (ii (ecd G))]))] sz = A at hD hAz hA ⊢
  have hS : va_S A S0.heap S0.heap [] := va_S.rf
  have q1 := em_b z (show (0 : Int) < n by omega)
  generalize hmk : ii ((dmF n 30 1 : Nat) : Int) = mk at hV
  generalize hF : (24 : Nat) = F24 at hV
  have loop : sec ≠ 0 → ∀ (f : Nat) (ls : Array Slot) (st v : Int32) (d : Nat), d + f = 25 → siF n (fun k => (X k).1) (z % (n : Int)) sec mk f d st v = V → lv_has ls 11 [(0, .ref hx), (3, .ref hc), (4, .int (ii (z % (n : Int)))), (5, .int mk), (6, .int st), (7, .int v), (8, .int (ii (d : Int)))] → W P0 l E0 ({ frames := 7, cells := 1, slots := 6, locals := 180 } : Room) S0 M0 A0 B0 T0 K0 S0.heap [] 0 0 (vx_MQ B0 (QcM (some (.long (li (V.getD (0, 0)).2))) (sec ≠ 0 ∧ V ≠ none) (Wd D [(hx, .inr (1, [.ref hr0, .ref hq0, .ref hc, .int (ii sec), .int (ii ((V.getD (0, 0)).1 : Int))])), (hc, .inr (0, [.int (ii (p : Int)), .int (ii (a : Int)), .int (ii (b : Int)), .int (ii (n : Int)), .int (ii (ecd G))]))] [] A) A) (XcM (fun E => (E = "java/lang/IllegalStateException" ∧ sec = 0) ∨ (E = "java/lang/ArithmeticException" ∧ sec ≠ 0 ∧ V = none)) (Wd D [(hx, .inr (1, [.ref hr0, .ref hq0, .ref hc, .int (ii sec), .int (ii dr)])), (hc, .inr (0, [.int (ii (p : Int)), .int (ii (a : Int)), .int (ii (b : Int)), .int (ii (n : Int)), .int (ii (ecd G))]))] [] A) A) A0 S0 1 6 A) (F0 M0 79 ls []) := by
    intro hsec f
    induction f with
    | zero =>
    intro ls st v d hd hV hl
    rw [siF_0] at hV
    refine lv_iload C.1 C.2.1 dX1_sign_79 (lv_at hl 6 rfl) ?_
    refine i_bipush C dX1_sign_81 (by decide +kernel) ?_
    refine i_icmp_gt (tgt := 154) C dX1_sign_83 (by decide) ⟨by omega, by omega⟩ ⟨by omega, by omega⟩ (fun h1 => ?_) (fun h1 => ?_)
    · exact th_S (z0 := z0) C hL hN hZ va_S.rf (text := "signing fails") (by decide +kernel) (by decide +kernel) tw_are hl.1 dX1_sign_154 dX1_sign_157 dX1_sign_158 dX1_sign_160 dX1_sign_163 hex ⟨by decide, by decide, by decide, by decide⟩ (Nat.le_of_ble_eq_true rfl) hk (fun t hvm z1 z2 => ⟨Or.inr ⟨rfl, hsec, hV.symm⟩, ⟨hP.on z2, va_K.moved hvm hK, hD⟩, z1, fun q h1 _ => z2 q h1⟩) (fun q h => by cases h) (by decide) (by decide)
    · omega
    | succ f ih =>
    intro ls st v d hd hV hl
    rw [siF_s] at hV
    refine lv_iload C.1 C.2.1 dX1_sign_79 (lv_at hl 6 rfl) ?_
    refine i_bipush C dX1_sign_81 (by decide +kernel) ?_
    refine i_icmp_gt (tgt := 154) C dX1_sign_83 (by decide) ⟨by omega, by omega⟩ ⟨by omega, by omega⟩ (fun h1 => ?_) (fun h1 => ?_)
    · omega
    · refine lv_iload C.1 C.2.1 dX1_sign_86 (lv_at hl 4 rfl) ?_
      refine lv_iload C.1 C.2.1 dX1_sign_88 (lv_at hl 5 rfl) ?_
      refine ca_S (As := [.int st, .int v]) (rest := []) C (c_X1_mix l st v) (pcn_pre _ hN) aw_b_X1_mix aw_m_X1_127 aw_s_X1_mix aw_i_X1 ⟨rfl, rfl⟩ 2 (by decide +kernel) rfl ⟨by decide, by decide⟩ hl.1 rfl (Nat.le_of_ble_eq_true rfl) dX1_sign_90 ⟨by decide, by decide⟩ ?_
      generalize mxF st v = v1 at hV ⊢
      refine lv_istore C.1 C.2.1 dX1_sign_93 hl (by decide) rfl (fun ls hl => ?_)
      have hl : lv_has ls 11 [(7, .int v1), (0, .ref hx), (3, .ref hc), (4, .int (ii (z % (n : Int)))), (5, .int mk), (6, .int st), (8, .int (ii (d : Int)))] := hl
      refine lv_aload_n C.1 C.2.1 dX1_sign_95 rfl (lv_at hl 2 rfl) ?_
      refine lv_iload C.1 C.2.1 dX1_sign_96 (lv_at hl 0 rfl) ?_
      refine lv_iload C.1 C.2.1 dX1_sign_98 (lv_at hl 4 rfl) ?_
      refine lv_iand C.1 C.2.1 dX1_sign_100 ?_
      rw [← ii_self (v1 &&& mk)]
      have k1 := rg_self (v1 &&& mk)
      generalize (v1 &&& mk).toInt = k at k1 hV ⊢
      have hV : (if sgF n (X k).1 k (z % (n : Int)) sec = 0 then siF n (fun k => (X k).1) (z % (n : Int)) sec mk f (d + 1) (mxF st (v1 + ii 1)) (mxF (mxF st (v1 + ii 1)) v1) else some (d, sgF n (X k).1 k (z % (n : Int)) sec)) = V := hV
      have x2 := sgF_b (show 0 < n ∧ n ≤ 1100 by omega) (X k).1 k (z % (n : Int)) sec
      refine lv_iload C.1 C.2.1 dX1_sign_101 (lv_at hl 3 rfl) ?_
      refine lv_aload_n C.1 C.2.1 dX1_sign_103 rfl (lv_at hl 1 rfl) ?_
      refine gf C hK hP 0 rfl rfl aw_uX1 3 (by decide) aw_f_X1_26 rfl dX1_sign_104 ?_
      refine ca_V (As := [.int (ii k), .int (ii (z % (n : Int))), .int (ii sec)]) (rest := []) C (c_X0_signatureFrom l D hc p a b n G hp ha hb hn hG k (z % (n : Int)) sec k1 (by omega) hs1 (X k).1 (X k).2 (hM k) (hXb k).1 (hXb k).2) (pcw_preV [.int (ii k), .int (ii (z % (n : Int))), .int (ii sec)] hN (hP.sub (ws' := [(hc, .inr (0, [.int (ii (p : Int)), .int (ii (a : Int)), .int (ii (b : Int)), .int (ii (n : Int)), .int (ii (ecd G))]))]) [1] rfl) (hK.sub (tys' := []) [] rfl) 0 (ci := 0) rfl rfl) aw_b_X0_signatureFrom aw_m_X1_130 aw_v_X0_signatureFrom aw_i_X0 aw_e_X0_signatureFrom ⟨rfl, rfl⟩ 3 (by decide +kernel) rfl ⟨by decide, by decide⟩ hl.1 rfl (Nat.le_of_ble_eq_true rfl) dX1_sign_107 ⟨by decide, by decide⟩ ?_
      generalize sgF n (X k).1 k (z % (n : Int)) sec = g at x2 hV ⊢
      refine lv_lstore C.1 C.2.1 dX1_sign_110 hl (by decide) rfl (fun ls hl => ?_)
      have hl : lv_has ls 11 [(9, .long (li g)), (7, .int v1), (0, .ref hx), (3, .ref hc), (4, .int (ii (z % (n : Int)))), (5, .int mk), (6, .int st), (8, .int (ii (d : Int)))] := hl
      refine lv_lload C.1 C.2.1 dX1_sign_112 (lv_at hl 0 rfl) ?_
      refine l_const0 C dX1_sign_114 ?_
      refine l_cmp C dX1_sign_115 ⟨by omega, by omega⟩ ⟨by omega, by omega⟩ ?_
      have cb115 := cmI_b g 0
      have ce115 := cmI_eq (a := g) (b := 0)
      have cl115 := cmI_lt (a := g) (b := 0)
      refine i_if_eq (tgt := 128) C dX1_sign_116 (by decide) ⟨by omega, by omega⟩ (fun h2 => ?_) (fun h2 => ?_)
      · rw [if_pos (show g = 0 by omega)] at hV
        refine lv_iload C.1 C.2.1 dX1_sign_128 (lv_at hl 6 rfl) ?_
        refine lv_iload C.1 C.2.1 dX1_sign_130 (lv_at hl 1 rfl) ?_
        refine i_const C dX1_sign_132 ?_
        refine lv_iadd C.1 C.2.1 dX1_sign_133 ?_
        refine ca_S (As := [.int st, .int (v1 + (ii 1))]) (rest := []) C (c_X1_mix l st (v1 + ii 1)) (pcn_pre _ hN) aw_b_X1_mix aw_m_X1_127 aw_s_X1_mix aw_i_X1 ⟨rfl, rfl⟩ 2 (by decide +kernel) rfl ⟨by decide, by decide⟩ hl.1 rfl (Nat.le_of_ble_eq_true rfl) dX1_sign_134 ⟨by decide, by decide⟩ ?_
        generalize mxF st (v1 + ii 1) = s2 at hV ⊢
        refine lv_istore C.1 C.2.1 dX1_sign_137 hl (by decide) rfl (fun ls hl => ?_)
        have hl : lv_has ls 11 [(6, .int s2), (9, .long (li g)), (7, .int v1), (0, .ref hx), (3, .ref hc), (4, .int (ii (z % (n : Int)))), (5, .int mk), (8, .int (ii (d : Int)))] := hl
        refine lv_iload C.1 C.2.1 dX1_sign_139 (lv_at hl 0 rfl) ?_
        refine lv_iload C.1 C.2.1 dX1_sign_141 (lv_at hl 2 rfl) ?_
        refine ca_S (As := [.int s2, .int v1]) (rest := []) C (c_X1_mix l s2 v1) (pcn_pre _ hN) aw_b_X1_mix aw_m_X1_127 aw_s_X1_mix aw_i_X1 ⟨rfl, rfl⟩ 2 (by decide +kernel) rfl ⟨by decide, by decide⟩ hl.1 rfl (Nat.le_of_ble_eq_true rfl) dX1_sign_143 ⟨by decide, by decide⟩ ?_
        refine lv_istore C.1 C.2.1 dX1_sign_146 hl (by decide) rfl (fun ls hl => ?_)
        have hl : lv_has ls 11 [(7, .int (mxF s2 v1)), (6, .int s2), (9, .long (li g)), (0, .ref hx), (3, .ref hc), (4, .int (ii (z % (n : Int)))), (5, .int mk), (8, .int (ii (d : Int)))] := hl
        refine lv_iinc C.1 C.2.1 dX1_sign_148 hl (k := 7) rfl (ii_add (d : Int) 1) (by decide) rfl (fun ls hl => ?_)
        have hl : lv_has ls 11 [(8, .int (ii ((d : Int) + 1))), (7, .int (mxF s2 v1)), (6, .int s2), (9, .long (li g)), (0, .ref hx), (3, .ref hc), (4, .int (ii (z % (n : Int)))), (5, .int mk)] := hl
        refine lv_goto (tgt := 79) C.1 C.2.1 dX1_sign_151 (by decide) ?_
        exact ih ls s2 _ (d + 1) (by omega) hV (lv_sub (l' := [(0, .ref hx), (3, .ref hc), (4, .int (ii (z % (n : Int)))), (5, .int mk), (6, .int s2), (7, .int (mxF s2 v1)), (8, .int (ii ((d : Int) + 1)))]) hl [4, 5, 6, 7, 2, 1, 0] rfl)
      · rw [if_neg (show ¬ g = 0 by omega)] at hV
        subst hV
        refine lv_aload_n C.1 C.2.1 dX1_sign_119 rfl (lv_at hl 2 rfl) ?_
        refine lv_iload C.1 C.2.1 dX1_sign_120 (lv_at hl 7 rfl) ?_
        refine p_f C hK hP hD hS 0 rfl rfl aw_uX1 tyX1 tyX1_ok nmX1 4 (by decide) aw_f_X1_30 rfl rfl rfl (Nat.le_of_ble_eq_true rfl) dX1_sign_122 (fun H1 locs1 hP hD hS => ?_)
        have hP : va_P D clX [(hx, .inr (1, [.ref hr0, .ref hq0, .ref hc, .int (ii sec), .int (ii (d : Int))])), (hc, .inr (0, [.int (ii (p : Int)), .int (ii (a : Int)), .int (ii (b : Int)), .int (ii (n : Int)), .int (ii (ecd G))]))] H1 := hP
        have hD : va_D A [(hx, .inr (1, [.ref hr0, .ref hq0, .ref hc, .int (ii sec), .int (ii (d : Int))])), (hc, .inr (0, [.int (ii (p : Int)), .int (ii (a : Int)), .int (ii (b : Int)), .int (ii (n : Int)), .int (ii (ecd G))]))] := hD
        refine lv_lload C.1 C.2.1 dX1_sign_125 (lv_at hl 0 rfl) ?_
        exact py_l C hr hk hS ⟨hsec, by intro z; cases z⟩ (fun t ht hvm => ⟨by rw [ht]; exact hP, va_K.moved hvm hK, hD⟩) dX1_sign_127 rfl (by decide) (by decide)
  refine lv_aload_n C.1 C.2.1 dX1_sign_0 rfl (lv_at hl 0 rfl) ?_
  refine ca_V (As := []) (rest := []) C (c_taken_c l D hx hr0 hq0 hc sec dr) (pcw_preV [] hN (hP.sub (ws' := [(hx, .inr (1, [.ref hr0, .ref hq0, .ref hc, .int (ii sec), .int (ii dr)]))]) [0] rfl) (hK.sub (tys' := []) [] rfl) 0 (ci := 1) rfl rfl) aw_b_X1_takenCurve aw_m_X1_62 aw_v_X1_takenCurve aw_i_X1 aw_e_X1_takenCurve ⟨rfl, rfl⟩ 0 (by decide +kernel) rfl ⟨by decide, by decide⟩ hl.1 rfl (Nat.le_of_ble_eq_true rfl) dX1_sign_1 ⟨by decide, by decide⟩ ?_
  refine lv_astore_n C.1 C.2.1 dX1_sign_4 rfl hl (by decide) rfl (fun ls hl => ?_)
  have hl : lv_has ls 11 [(3, .ref hc), (0, .ref hx), (1, .long (li z))] := hl
  refine lv_aload_n C.1 C.2.1 dX1_sign_5 rfl (lv_at hl 1 rfl) ?_
  refine gf C hK hP 0 rfl rfl aw_uX1 3 (by decide) aw_f_X1_26 rfl dX1_sign_6 ?_
  refine i_if_ne (tgt := 22) C dX1_sign_9 (by decide) ⟨by omega, by omega⟩ (fun h1 => ?_) (fun h1 => ?_)
  · refine lv_aload_n C.1 C.2.1 dX1_sign_22 rfl (lv_at hl 0 rfl) ?_
    refine lv_lload_n C.1 C.2.1 dX1_sign_23 rfl (lv_at hl 2 rfl) ?_
    refine ca_V (As := [.long (li z)]) (rest := []) C (c_X0_messageResidue l D hc p a b n (ecd G) (by omega) z hz1) (pcw_preV [.long (li z)] hN (hP.sub (ws' := [(hc, .inr (0, [.int (ii (p : Int)), .int (ii (a : Int)), .int (ii (b : Int)), .int (ii (n : Int)), .int (ii (ecd G))]))]) [1] rfl) (hK.sub (tys' := []) [] rfl) 0 (ci := 0) rfl rfl) aw_b_X0_messageResidue aw_m_X1_119 aw_v_X0_messageResidue aw_i_X0 aw_e_X0_messageResidue ⟨rfl, rfl⟩ 1 (by decide +kernel) rfl ⟨by decide, by decide⟩ hl.1 rfl (Nat.le_of_ble_eq_true rfl) dX1_sign_24 ⟨by decide, by decide⟩ ?_
    refine lv_istore C.1 C.2.1 dX1_sign_27 hl (by decide) rfl (fun ls hl => ?_)
    have hl : lv_has ls 11 [(4, .int (ii (z % (n : Int)))), (3, .ref hc), (0, .ref hx), (1, .long (li z))] := hl
    refine lv_aload_n C.1 C.2.1 dX1_sign_29 rfl (lv_at hl 1 rfl) ?_
    refine ca_V (As := []) (rest := []) C (c_X0_drawMask l D hc p a b n (ecd G) (by omega)) (pcw_preV [] hN (hP.sub (ws' := [(hc, .inr (0, [.int (ii (p : Int)), .int (ii (a : Int)), .int (ii (b : Int)), .int (ii (n : Int)), .int (ii (ecd G))]))]) [1] rfl) (hK.sub (tys' := []) [] rfl) 0 (ci := 0) rfl rfl) aw_b_X0_drawMask aw_m_X1_123 aw_v_X0_drawMask aw_i_X0 aw_e_X0_drawMask ⟨rfl, rfl⟩ 0 (by decide +kernel) rfl ⟨by decide, by decide⟩ hl.1 rfl (Nat.le_of_ble_eq_true rfl) dX1_sign_30 ⟨by decide, by decide⟩ ?_
    rw [hmk]
    unfold vl1 at hV
    unfold st1 at hV
    refine lv_istore C.1 C.2.1 dX1_sign_33 hl (by decide) rfl (fun ls hl => ?_)
    have hl : lv_has ls 11 [(5, .int mk), (4, .int (ii (z % (n : Int)))), (3, .ref hc), (0, .ref hx), (1, .long (li z))] := hl
    refine i_const C dX1_sign_35 ?_
    refine i_const C dX1_sign_36 ?_
    refine lv_aload_n C.1 C.2.1 dX1_sign_37 rfl (lv_at hl 3 rfl) ?_
    refine gf C hK hP 0 rfl rfl aw_uX1 3 (by decide) aw_f_X1_26 rfl dX1_sign_38 ?_
    refine i_add C dX1_sign_41 ?_
    refine ca_S (As := [.int (ii 0), .int (ii (1 + sec))]) (rest := []) C (c_X1_mix l (ii 0) (ii (1 + sec))) (pcn_pre _ hN) aw_b_X1_mix aw_m_X1_127 aw_s_X1_mix aw_i_X1 ⟨rfl, rfl⟩ 2 (by decide +kernel) rfl ⟨by decide, by decide⟩ hl.1 rfl (Nat.le_of_ble_eq_true rfl) dX1_sign_42 ⟨by decide, by decide⟩ ?_
    generalize mxF (ii 0) (ii (1 + sec)) = s0 at hV ⊢
    refine lv_istore C.1 C.2.1 dX1_sign_45 hl (by decide) rfl (fun ls hl => ?_)
    have hl : lv_has ls 11 [(6, .int s0), (5, .int mk), (4, .int (ii (z % (n : Int)))), (3, .ref hc), (0, .ref hx), (1, .long (li z))] := hl
    refine lv_iload C.1 C.2.1 dX1_sign_47 (lv_at hl 0 rfl) ?_
    refine i_const C dX1_sign_49 ?_
    refine ca_S (As := [.int s0, .int (ii 1)]) (rest := []) C (c_X1_mix l s0 (ii 1)) (pcn_pre _ hN) aw_b_X1_mix aw_m_X1_127 aw_s_X1_mix aw_i_X1 ⟨rfl, rfl⟩ 2 (by decide +kernel) rfl ⟨by decide, by decide⟩ hl.1 rfl (Nat.le_of_ble_eq_true rfl) dX1_sign_50 ⟨by decide, by decide⟩ ?_
    generalize mxF s0 (ii 1) = v0 at hV ⊢
    refine lv_istore C.1 C.2.1 dX1_sign_53 hl (by decide) rfl (fun ls hl => ?_)
    have hl : lv_has ls 11 [(7, .int v0), (6, .int s0), (5, .int mk), (4, .int (ii (z % (n : Int)))), (3, .ref hc), (0, .ref hx), (1, .long (li z))] := hl
    refine lv_iload C.1 C.2.1 dX1_sign_55 (lv_at hl 1 rfl) ?_
    refine lv_iload C.1 C.2.1 dX1_sign_57 (lv_at hl 0 rfl) ?_
    refine lv_iload C.1 C.2.1 dX1_sign_59 (lv_at hl 3 rfl) ?_
    refine lv_ixor C.1 C.2.1 dX1_sign_61 ?_
    refine ca_S (As := [.int s0, .int (v0 ^^^ (ii (z % (n : Int))))]) (rest := []) C (c_X1_mix l s0 (v0 ^^^ ii (z % (n : Int)))) (pcn_pre _ hN) aw_b_X1_mix aw_m_X1_127 aw_s_X1_mix aw_i_X1 ⟨rfl, rfl⟩ 2 (by decide +kernel) rfl ⟨by decide, by decide⟩ hl.1 rfl (Nat.le_of_ble_eq_true rfl) dX1_sign_62 ⟨by decide, by decide⟩ ?_
    generalize mxF s0 (v0 ^^^ ii (z % (n : Int))) = s1 at hV ⊢
    refine lv_istore C.1 C.2.1 dX1_sign_65 hl (by decide) rfl (fun ls hl => ?_)
    have hl : lv_has ls 11 [(6, .int s1), (7, .int v0), (5, .int mk), (4, .int (ii (z % (n : Int)))), (3, .ref hc), (0, .ref hx), (1, .long (li z))] := hl
    refine lv_iload C.1 C.2.1 dX1_sign_67 (lv_at hl 0 rfl) ?_
    refine lv_iload C.1 C.2.1 dX1_sign_69 (lv_at hl 1 rfl) ?_
    refine ca_S (As := [.int s1, .int v0]) (rest := []) C (c_X1_mix l s1 v0) (pcn_pre _ hN) aw_b_X1_mix aw_m_X1_127 aw_s_X1_mix aw_i_X1 ⟨rfl, rfl⟩ 2 (by decide +kernel) rfl ⟨by decide, by decide⟩ hl.1 rfl (Nat.le_of_ble_eq_true rfl) dX1_sign_71 ⟨by decide, by decide⟩ ?_
    refine lv_istore C.1 C.2.1 dX1_sign_74 hl (by decide) rfl (fun ls hl => ?_)
    have hl : lv_has ls 11 [(7, .int (mxF s1 v0)), (6, .int s1), (5, .int mk), (4, .int (ii (z % (n : Int)))), (3, .ref hc), (0, .ref hx), (1, .long (li z))] := hl
    refine i_const C dX1_sign_76 ?_
    refine lv_istore C.1 C.2.1 dX1_sign_77 hl (by decide) rfl (fun ls hl => ?_)
    have hl : lv_has ls 11 [(8, .int (ii 1)), (7, .int (mxF s1 v0)), (6, .int s1), (5, .int mk), (4, .int (ii (z % (n : Int)))), (3, .ref hc), (0, .ref hx), (1, .long (li z))] := hl
    exact loop h1 F24 ls s1 _ 1 (by omega) hV (lv_sub (l' := [(0, .ref hx), (3, .ref hc), (4, .int (ii (z % (n : Int)))), (5, .int mk), (6, .int s1), (7, .int (mxF s1 v0)), (8, .int (ii 1))]) hl [6, 5, 4, 3, 2, 1, 0] rfl)
  · exact th_S (z0 := z0) C hL hN hZ va_S.rf (text := "no key") (by decide +kernel) (by decide +kernel) tw_ise hl.1 dX1_sign_12 dX1_sign_15 dX1_sign_16 dX1_sign_18 dX1_sign_21 hex ⟨by decide, by decide, by decide, by decide⟩ (Nat.le_of_ble_eq_true rfl) hk (fun t hvm z1 z2 => ⟨Or.inl ⟨rfl, Classical.not_not.mp h1⟩, ⟨hP.on z2, va_K.moved hvm hK, hD⟩, z1, fun q h1 _ => z2 q h1⟩) (fun q h => by cases h) (by decide) (by decide)
end
section
/-! Decode rows, by wip/whole/tools/decode.py. -/
theorem dX2_init_0 : decode cX2_init 0 = .ok (.aload_n 0, 1) := by decide +kernel
theorem dX2_init_1 : decode cX2_init 1 = .ok (.invokespecial 1, 3) := by decide +kernel
theorem dX2_init_4 : decode cX2_init 4 = .ok (.aload_n 0, 1) := by decide +kernel
theorem dX2_init_5 : decode cX2_init 5 = .ok (.sipush 1100, 3) := by decide +kernel
theorem dX2_init_8 : decode cX2_init 8 = .ok (.newarray .int, 2) := by decide +kernel
theorem dX2_init_10 : decode cX2_init 10 = .ok (.putfield 7, 3) := by decide +kernel
theorem dX2_init_13 : decode cX2_init 13 = .ok (.aload_n 0, 1) := by decide +kernel
theorem dX2_init_14 : decode cX2_init 14 = .ok (.sipush 1100, 3) := by decide +kernel
theorem dX2_init_17 : decode cX2_init 17 = .ok (.newarray .int, 2) := by decide +kernel
theorem dX2_init_19 : decode cX2_init 19 = .ok (.putfield 13, 3) := by decide +kernel
theorem dX2_init_22 : decode cX2_init 22 = .ok (.aload_n 0, 1) := by decide +kernel
theorem dX2_init_23 : decode cX2_init 23 = .ok (.iconst 4, 1) := by decide +kernel
theorem dX2_init_24 : decode cX2_init 24 = .ok (.newarray .int, 2) := by decide +kernel
theorem dX2_init_26 : decode cX2_init 26 = .ok (.putfield 16, 3) := by decide +kernel
theorem dX2_init_29 : decode cX2_init 29 = .ok (.aload_n 0, 1) := by decide +kernel
theorem dX2_init_30 : decode cX2_init 30 = .ok (.sipush 1024, 3) := by decide +kernel
theorem dX2_init_33 : decode cX2_init 33 = .ok (.newarray .int, 2) := by decide +kernel
theorem dX2_init_35 : decode cX2_init 35 = .ok (.putfield 19, 3) := by decide +kernel
theorem dX2_init_38 : decode cX2_init 38 = .ok (.return_, 1) := by decide +kernel
theorem dX2_thrown_0 : decode cX2_thrown 0 = .ok (.aload_n 0, 1) := by decide +kernel
theorem dX2_thrown_1 : decode cX2_thrown 1 = .ok (.getfield 22, 3) := by decide +kernel
theorem dX2_thrown_4 : decode cX2_thrown 4 = .ok (.ireturn, 1) := by decide +kernel
theorem dX2_noRegister_0 : decode cX2_noRegister 0 = .ok (.iload_n 1, 1) := by decide +kernel
theorem dX2_noRegister_1 : decode cX2_noRegister 1 = .ok (.ifCond .lt 8, 3) := by decide +kernel
theorem dX2_noRegister_4 : decode cX2_noRegister 4 = .ok (.iload_n 1, 1) := by decide +kernel
theorem dX2_noRegister_5 : decode cX2_noRegister 5 = .ok (.iconst 3, 1) := by decide +kernel
theorem dX2_noRegister_6 : decode cX2_noRegister 6 = .ok (.if_icmp .le 7, 3) := by decide +kernel
theorem dX2_noRegister_9 : decode cX2_noRegister 9 = .ok (.iconst 1, 1) := by decide +kernel
theorem dX2_noRegister_10 : decode cX2_noRegister 10 = .ok (.goto 4, 3) := by decide +kernel
theorem dX2_noRegister_13 : decode cX2_noRegister 13 = .ok (.iconst 0, 1) := by decide +kernel
theorem dX2_noRegister_14 : decode cX2_noRegister 14 = .ok (.ireturn, 1) := by decide +kernel
theorem dX2_good_0 : decode cX2_good 0 = .ok (.aload_n 0, 1) := by decide +kernel
theorem dX2_good_1 : decode cX2_good 1 = .ok (.iload_n 1, 1) := by decide +kernel
theorem dX2_good_2 : decode cX2_good 2 = .ok (.ifCond .eq 7, 3) := by decide +kernel
theorem dX2_good_5 : decode cX2_good 5 = .ok (.iconst 1, 1) := by decide +kernel
theorem dX2_good_6 : decode cX2_good 6 = .ok (.goto 20, 3) := by decide +kernel
theorem dX2_good_9 : decode cX2_good 9 = .ok (.iload_n 2, 1) := by decide +kernel
theorem dX2_good_10 : decode cX2_good 10 = .ok (.ifCond .eq 7, 3) := by decide +kernel
theorem dX2_good_13 : decode cX2_good 13 = .ok (.iconst 2, 1) := by decide +kernel
theorem dX2_good_14 : decode cX2_good 14 = .ok (.goto 12, 3) := by decide +kernel
theorem dX2_good_17 : decode cX2_good 17 = .ok (.iload_n 3, 1) := by decide +kernel
theorem dX2_good_18 : decode cX2_good 18 = .ok (.ifCond .eq 7, 3) := by decide +kernel
theorem dX2_good_21 : decode cX2_good 21 = .ok (.iconst 3, 1) := by decide +kernel
theorem dX2_good_22 : decode cX2_good 22 = .ok (.goto 4, 3) := by decide +kernel
theorem dX2_good_25 : decode cX2_good 25 = .ok (.iconst 0, 1) := by decide +kernel
theorem dX2_good_26 : decode cX2_good 26 = .ok (.putfield 22, 3) := by decide +kernel
theorem dX2_good_29 : decode cX2_good 29 = .ok (.aload_n 0, 1) := by decide +kernel
theorem dX2_good_30 : decode cX2_good 30 = .ok (.getfield 22, 3) := by decide +kernel
theorem dX2_good_33 : decode cX2_good 33 = .ok (.ifCond .ne 7, 3) := by decide +kernel
theorem dX2_good_36 : decode cX2_good 36 = .ok (.iconst 1, 1) := by decide +kernel
theorem dX2_good_37 : decode cX2_good 37 = .ok (.goto 4, 3) := by decide +kernel
theorem dX2_good_40 : decode cX2_good 40 = .ok (.iconst 0, 1) := by decide +kernel
theorem dX2_good_41 : decode cX2_good 41 = .ok (.ireturn, 1) := by decide +kernel
theorem dX2_prime_0 : decode cX2_prime 0 = .ok (.iload_n 1, 1) := by decide +kernel
theorem dX2_prime_1 : decode cX2_prime 1 = .ok (.iconst 2, 1) := by decide +kernel
theorem dX2_prime_2 : decode cX2_prime 2 = .ok (.if_icmp .lt 7, 3) := by decide +kernel
theorem dX2_prime_5 : decode cX2_prime 5 = .ok (.iconst 1, 1) := by decide +kernel
theorem dX2_prime_6 : decode cX2_prime 6 = .ok (.goto 4, 3) := by decide +kernel
theorem dX2_prime_9 : decode cX2_prime 9 = .ok (.iconst 0, 1) := by decide +kernel
theorem dX2_prime_10 : decode cX2_prime 10 = .ok (.istore_n 2, 1) := by decide +kernel
theorem dX2_prime_11 : decode cX2_prime 11 = .ok (.iconst 2, 1) := by decide +kernel
theorem dX2_prime_12 : decode cX2_prime 12 = .ok (.istore_n 3, 1) := by decide +kernel
theorem dX2_prime_13 : decode cX2_prime 13 = .ok (.iload_n 3, 1) := by decide +kernel
theorem dX2_prime_14 : decode cX2_prime 14 = .ok (.iload_n 3, 1) := by decide +kernel
theorem dX2_prime_15 : decode cX2_prime 15 = .ok (.imul, 1) := by decide +kernel
theorem dX2_prime_16 : decode cX2_prime 16 = .ok (.iload_n 1, 1) := by decide +kernel
theorem dX2_prime_17 : decode cX2_prime 17 = .ok (.if_icmp .gt 25, 3) := by decide +kernel
theorem dX2_prime_20 : decode cX2_prime 20 = .ok (.iload_n 2, 1) := by decide +kernel
theorem dX2_prime_21 : decode cX2_prime 21 = .ok (.ifCond .eq 21, 3) := by decide +kernel
theorem dX2_prime_24 : decode cX2_prime 24 = .ok (.iload_n 1, 1) := by decide +kernel
theorem dX2_prime_25 : decode cX2_prime 25 = .ok (.iload_n 3, 1) := by decide +kernel
theorem dX2_prime_26 : decode cX2_prime 26 = .ok (.irem, 1) := by decide +kernel
theorem dX2_prime_27 : decode cX2_prime 27 = .ok (.ifCond .eq 7, 3) := by decide +kernel
theorem dX2_prime_30 : decode cX2_prime 30 = .ok (.iconst 1, 1) := by decide +kernel
theorem dX2_prime_31 : decode cX2_prime 31 = .ok (.goto 4, 3) := by decide +kernel
theorem dX2_prime_34 : decode cX2_prime 34 = .ok (.iconst 0, 1) := by decide +kernel
theorem dX2_prime_35 : decode cX2_prime 35 = .ok (.istore_n 2, 1) := by decide +kernel
theorem dX2_prime_36 : decode cX2_prime 36 = .ok (.iinc 3 1, 3) := by decide +kernel
theorem dX2_prime_39 : decode cX2_prime 39 = .ok (.goto (-26), 3) := by decide +kernel
theorem dX2_prime_42 : decode cX2_prime 42 = .ok (.iload_n 2, 1) := by decide +kernel
theorem dX2_prime_43 : decode cX2_prime 43 = .ok (.ireturn, 1) := by decide +kernel
theorem dX2_cube_0 : decode cX2_cube 0 = .ok (.iload_n 1, 1) := by decide +kernel
theorem dX2_cube_1 : decode cX2_cube 1 = .ok (.i2l, 1) := by decide +kernel
theorem dX2_cube_2 : decode cX2_cube 2 = .ok (.iload_n 1, 1) := by decide +kernel
theorem dX2_cube_3 : decode cX2_cube 3 = .ok (.i2l, 1) := by decide +kernel
theorem dX2_cube_4 : decode cX2_cube 4 = .ok (.lmul, 1) := by decide +kernel
theorem dX2_cube_5 : decode cX2_cube 5 = .ok (.iload_n 2, 1) := by decide +kernel
theorem dX2_cube_6 : decode cX2_cube 6 = .ok (.i2l, 1) := by decide +kernel
theorem dX2_cube_7 : decode cX2_cube 7 = .ok (.lrem, 1) := by decide +kernel
theorem dX2_cube_8 : decode cX2_cube 8 = .ok (.iload_n 1, 1) := by decide +kernel
theorem dX2_cube_9 : decode cX2_cube 9 = .ok (.i2l, 1) := by decide +kernel
theorem dX2_cube_10 : decode cX2_cube 10 = .ok (.lmul, 1) := by decide +kernel
theorem dX2_cube_11 : decode cX2_cube 11 = .ok (.iload_n 3, 1) := by decide +kernel
theorem dX2_cube_12 : decode cX2_cube 12 = .ok (.i2l, 1) := by decide +kernel
theorem dX2_cube_13 : decode cX2_cube 13 = .ok (.iload_n 1, 1) := by decide +kernel
theorem dX2_cube_14 : decode cX2_cube 14 = .ok (.i2l, 1) := by decide +kernel
theorem dX2_cube_15 : decode cX2_cube 15 = .ok (.lmul, 1) := by decide +kernel
theorem dX2_cube_16 : decode cX2_cube 16 = .ok (.ladd, 1) := by decide +kernel
theorem dX2_cube_17 : decode cX2_cube 17 = .ok (.iload 4, 2) := by decide +kernel
theorem dX2_cube_19 : decode cX2_cube 19 = .ok (.i2l, 1) := by decide +kernel
theorem dX2_cube_20 : decode cX2_cube 20 = .ok (.ladd, 1) := by decide +kernel
theorem dX2_cube_21 : decode cX2_cube 21 = .ok (.lstore 5, 2) := by decide +kernel
theorem dX2_cube_23 : decode cX2_cube 23 = .ok (.lload 5, 2) := by decide +kernel
theorem dX2_cube_25 : decode cX2_cube 25 = .ok (.iload_n 2, 1) := by decide +kernel
theorem dX2_cube_26 : decode cX2_cube 26 = .ok (.i2l, 1) := by decide +kernel
theorem dX2_cube_27 : decode cX2_cube 27 = .ok (.lrem, 1) := by decide +kernel
theorem dX2_cube_28 : decode cX2_cube 28 = .ok (.l2i, 1) := by decide +kernel
theorem dX2_cube_29 : decode cX2_cube 29 = .ok (.ireturn, 1) := by decide +kernel
theorem dX2_count_0 : decode cX2_count 0 = .ok (.iload_n 1, 1) := by decide +kernel
theorem dX2_count_1 : decode cX2_count 1 = .ok (.iconst 5, 1) := by decide +kernel
theorem dX2_count_2 : decode cX2_count 2 = .ok (.if_icmp .lt 36, 3) := by decide +kernel
theorem dX2_count_5 : decode cX2_count 5 = .ok (.iload_n 1, 1) := by decide +kernel
theorem dX2_count_6 : decode cX2_count 6 = .ok (.sipush 1021, 3) := by decide +kernel
theorem dX2_count_9 : decode cX2_count 9 = .ok (.if_icmp .gt 29, 3) := by decide +kernel
theorem dX2_count_12 : decode cX2_count 12 = .ok (.aload_n 0, 1) := by decide +kernel
theorem dX2_count_13 : decode cX2_count 13 = .ok (.iload_n 1, 1) := by decide +kernel
theorem dX2_count_14 : decode cX2_count 14 = .ok (.invokevirtual 26, 3) := by decide +kernel
theorem dX2_count_17 : decode cX2_count 17 = .ok (.ifCond .eq 21, 3) := by decide +kernel
theorem dX2_count_20 : decode cX2_count 20 = .ok (.iload_n 2, 1) := by decide +kernel
theorem dX2_count_21 : decode cX2_count 21 = .ok (.ifCond .lt 17, 3) := by decide +kernel
theorem dX2_count_24 : decode cX2_count 24 = .ok (.iload_n 2, 1) := by decide +kernel
theorem dX2_count_25 : decode cX2_count 25 = .ok (.iload_n 1, 1) := by decide +kernel
theorem dX2_count_26 : decode cX2_count 26 = .ok (.if_icmp .ge 12, 3) := by decide +kernel
theorem dX2_count_29 : decode cX2_count 29 = .ok (.iload_n 3, 1) := by decide +kernel
theorem dX2_count_30 : decode cX2_count 30 = .ok (.ifCond .lt 8, 3) := by decide +kernel
theorem dX2_count_33 : decode cX2_count 33 = .ok (.iload_n 3, 1) := by decide +kernel
theorem dX2_count_34 : decode cX2_count 34 = .ok (.iload_n 1, 1) := by decide +kernel
theorem dX2_count_35 : decode cX2_count 35 = .ok (.if_icmp .lt 5, 3) := by decide +kernel
theorem dX2_count_38 : decode cX2_count 38 = .ok (.iconst 0, 1) := by decide +kernel
theorem dX2_count_39 : decode cX2_count 39 = .ok (.ireturn, 1) := by decide +kernel
theorem dX2_count_40 : decode cX2_count 40 = .ok (.ldc2_w 30, 3) := by decide +kernel
theorem dX2_count_43 : decode cX2_count 43 = .ok (.iload_n 2, 1) := by decide +kernel
theorem dX2_count_44 : decode cX2_count 44 = .ok (.i2l, 1) := by decide +kernel
theorem dX2_count_45 : decode cX2_count 45 = .ok (.lmul, 1) := by decide +kernel
theorem dX2_count_46 : decode cX2_count 46 = .ok (.iload_n 2, 1) := by decide +kernel
theorem dX2_count_47 : decode cX2_count 47 = .ok (.i2l, 1) := by decide +kernel
theorem dX2_count_48 : decode cX2_count 48 = .ok (.lmul, 1) := by decide +kernel
theorem dX2_count_49 : decode cX2_count 49 = .ok (.iload_n 2, 1) := by decide +kernel
theorem dX2_count_50 : decode cX2_count 50 = .ok (.i2l, 1) := by decide +kernel
theorem dX2_count_51 : decode cX2_count 51 = .ok (.lmul, 1) := by decide +kernel
theorem dX2_count_52 : decode cX2_count 52 = .ok (.ldc2_w 32, 3) := by decide +kernel
theorem dX2_count_55 : decode cX2_count 55 = .ok (.iload_n 3, 1) := by decide +kernel
theorem dX2_count_56 : decode cX2_count 56 = .ok (.i2l, 1) := by decide +kernel
theorem dX2_count_57 : decode cX2_count 57 = .ok (.lmul, 1) := by decide +kernel
theorem dX2_count_58 : decode cX2_count 58 = .ok (.iload_n 3, 1) := by decide +kernel
theorem dX2_count_59 : decode cX2_count 59 = .ok (.i2l, 1) := by decide +kernel
theorem dX2_count_60 : decode cX2_count 60 = .ok (.lmul, 1) := by decide +kernel
theorem dX2_count_61 : decode cX2_count 61 = .ok (.ladd, 1) := by decide +kernel
theorem dX2_count_62 : decode cX2_count 62 = .ok (.lstore 4, 2) := by decide +kernel
theorem dX2_count_64 : decode cX2_count 64 = .ok (.lload 4, 2) := by decide +kernel
theorem dX2_count_66 : decode cX2_count 66 = .ok (.iload_n 1, 1) := by decide +kernel
theorem dX2_count_67 : decode cX2_count 67 = .ok (.i2l, 1) := by decide +kernel
theorem dX2_count_68 : decode cX2_count 68 = .ok (.lrem, 1) := by decide +kernel
theorem dX2_count_69 : decode cX2_count 69 = .ok (.lconst 0, 1) := by decide +kernel
theorem dX2_count_70 : decode cX2_count 70 = .ok (.lcmp, 1) := by decide +kernel
theorem dX2_count_71 : decode cX2_count 71 = .ok (.ifCond .ne 5, 3) := by decide +kernel
theorem dX2_count_74 : decode cX2_count 74 = .ok (.iconst 0, 1) := by decide +kernel
theorem dX2_count_75 : decode cX2_count 75 = .ok (.ireturn, 1) := by decide +kernel
theorem dX2_count_76 : decode cX2_count 76 = .ok (.iconst 0, 1) := by decide +kernel
theorem dX2_count_77 : decode cX2_count 77 = .ok (.istore 6, 2) := by decide +kernel
theorem dX2_count_79 : decode cX2_count 79 = .ok (.iload 6, 2) := by decide +kernel
theorem dX2_count_81 : decode cX2_count 81 = .ok (.iload_n 1, 1) := by decide +kernel
theorem dX2_count_82 : decode cX2_count 82 = .ok (.if_icmp .ge 17, 3) := by decide +kernel
theorem dX2_count_85 : decode cX2_count 85 = .ok (.aload_n 0, 1) := by decide +kernel
theorem dX2_count_86 : decode cX2_count 86 = .ok (.getfield 19, 3) := by decide +kernel
theorem dX2_count_89 : decode cX2_count 89 = .ok (.iload 6, 2) := by decide +kernel
theorem dX2_count_91 : decode cX2_count 91 = .ok (.iconst 0, 1) := by decide +kernel
theorem dX2_count_92 : decode cX2_count 92 = .ok (.iastore, 1) := by decide +kernel
theorem dX2_count_93 : decode cX2_count 93 = .ok (.iinc 6 1, 3) := by decide +kernel
theorem dX2_count_96 : decode cX2_count 96 = .ok (.goto (-17), 3) := by decide +kernel
theorem dX2_count_99 : decode cX2_count 99 = .ok (.iconst 0, 1) := by decide +kernel
theorem dX2_count_100 : decode cX2_count 100 = .ok (.istore 6, 2) := by decide +kernel
theorem dX2_count_102 : decode cX2_count 102 = .ok (.iload 6, 2) := by decide +kernel
theorem dX2_count_104 : decode cX2_count 104 = .ok (.iload_n 1, 1) := by decide +kernel
theorem dX2_count_105 : decode cX2_count 105 = .ok (.if_icmp .ge 25, 3) := by decide +kernel
theorem dX2_count_108 : decode cX2_count 108 = .ok (.aload_n 0, 1) := by decide +kernel
theorem dX2_count_109 : decode cX2_count 109 = .ok (.getfield 19, 3) := by decide +kernel
theorem dX2_count_112 : decode cX2_count 112 = .ok (.iload 6, 2) := by decide +kernel
theorem dX2_count_114 : decode cX2_count 114 = .ok (.iload 6, 2) := by decide +kernel
theorem dX2_count_116 : decode cX2_count 116 = .ok (.imul, 1) := by decide +kernel
theorem dX2_count_117 : decode cX2_count 117 = .ok (.iload_n 1, 1) := by decide +kernel
theorem dX2_count_118 : decode cX2_count 118 = .ok (.irem, 1) := by decide +kernel
theorem dX2_count_119 : decode cX2_count 119 = .ok (.dup2, 1) := by decide +kernel
theorem dX2_count_120 : decode cX2_count 120 = .ok (.iaload, 1) := by decide +kernel
theorem dX2_count_121 : decode cX2_count 121 = .ok (.iconst 1, 1) := by decide +kernel
theorem dX2_count_122 : decode cX2_count 122 = .ok (.iadd, 1) := by decide +kernel
theorem dX2_count_123 : decode cX2_count 123 = .ok (.iastore, 1) := by decide +kernel
theorem dX2_count_124 : decode cX2_count 124 = .ok (.iinc 6 1, 3) := by decide +kernel
theorem dX2_count_127 : decode cX2_count 127 = .ok (.goto (-25), 3) := by decide +kernel
theorem dX2_count_130 : decode cX2_count 130 = .ok (.iconst 1, 1) := by decide +kernel
theorem dX2_count_131 : decode cX2_count 131 = .ok (.istore 6, 2) := by decide +kernel
theorem dX2_count_133 : decode cX2_count 133 = .ok (.iconst 0, 1) := by decide +kernel
theorem dX2_count_134 : decode cX2_count 134 = .ok (.istore 7, 2) := by decide +kernel
theorem dX2_count_136 : decode cX2_count 136 = .ok (.iload 7, 2) := by decide +kernel
theorem dX2_count_138 : decode cX2_count 138 = .ok (.iload_n 1, 1) := by decide +kernel
theorem dX2_count_139 : decode cX2_count 139 = .ok (.if_icmp .ge 28, 3) := by decide +kernel
theorem dX2_count_142 : decode cX2_count 142 = .ok (.iload 6, 2) := by decide +kernel
theorem dX2_count_144 : decode cX2_count 144 = .ok (.aload_n 0, 1) := by decide +kernel
theorem dX2_count_145 : decode cX2_count 145 = .ok (.getfield 19, 3) := by decide +kernel
theorem dX2_count_148 : decode cX2_count 148 = .ok (.aload_n 0, 1) := by decide +kernel
theorem dX2_count_149 : decode cX2_count 149 = .ok (.iload 7, 2) := by decide +kernel
theorem dX2_count_151 : decode cX2_count 151 = .ok (.iload_n 1, 1) := by decide +kernel
theorem dX2_count_152 : decode cX2_count 152 = .ok (.iload_n 2, 1) := by decide +kernel
theorem dX2_count_153 : decode cX2_count 153 = .ok (.iload_n 3, 1) := by decide +kernel
theorem dX2_count_154 : decode cX2_count 154 = .ok (.invokevirtual 34, 3) := by decide +kernel
theorem dX2_count_157 : decode cX2_count 157 = .ok (.iaload, 1) := by decide +kernel
theorem dX2_count_158 : decode cX2_count 158 = .ok (.iadd, 1) := by decide +kernel
theorem dX2_count_159 : decode cX2_count 159 = .ok (.istore 6, 2) := by decide +kernel
theorem dX2_count_161 : decode cX2_count 161 = .ok (.iinc 7 1, 3) := by decide +kernel
theorem dX2_count_164 : decode cX2_count 164 = .ok (.goto (-28), 3) := by decide +kernel
theorem dX2_count_167 : decode cX2_count 167 = .ok (.iload 6, 2) := by decide +kernel
theorem dX2_count_169 : decode cX2_count 169 = .ok (.ireturn, 1) := by decide +kernel
theorem dX2_inverse_0 : decode cX2_inverse 0 = .ok (.iconst 1, 1) := by decide +kernel
theorem dX2_inverse_1 : decode cX2_inverse 1 = .ok (.istore_n 3, 1) := by decide +kernel
theorem dX2_inverse_2 : decode cX2_inverse 2 = .ok (.iload_n 3, 1) := by decide +kernel
theorem dX2_inverse_3 : decode cX2_inverse 3 = .ok (.iload_n 2, 1) := by decide +kernel
theorem dX2_inverse_4 : decode cX2_inverse 4 = .ok (.if_icmp .ge 20, 3) := by decide +kernel
theorem dX2_inverse_7 : decode cX2_inverse 7 = .ok (.iload_n 1, 1) := by decide +kernel
theorem dX2_inverse_8 : decode cX2_inverse 8 = .ok (.iload_n 3, 1) := by decide +kernel
theorem dX2_inverse_9 : decode cX2_inverse 9 = .ok (.imul, 1) := by decide +kernel
theorem dX2_inverse_10 : decode cX2_inverse 10 = .ok (.iload_n 2, 1) := by decide +kernel
theorem dX2_inverse_11 : decode cX2_inverse 11 = .ok (.irem, 1) := by decide +kernel
theorem dX2_inverse_12 : decode cX2_inverse 12 = .ok (.iconst 1, 1) := by decide +kernel
theorem dX2_inverse_13 : decode cX2_inverse 13 = .ok (.if_icmp .ne 5, 3) := by decide +kernel
theorem dX2_inverse_16 : decode cX2_inverse 16 = .ok (.iload_n 3, 1) := by decide +kernel
theorem dX2_inverse_17 : decode cX2_inverse 17 = .ok (.ireturn, 1) := by decide +kernel
theorem dX2_inverse_18 : decode cX2_inverse 18 = .ok (.iinc 3 1, 3) := by decide +kernel
theorem dX2_inverse_21 : decode cX2_inverse 21 = .ok (.goto (-19), 3) := by decide +kernel
theorem dX2_inverse_24 : decode cX2_inverse 24 = .ok (.iconst 0, 1) := by decide +kernel
theorem dX2_inverse_25 : decode cX2_inverse 25 = .ok (.ireturn, 1) := by decide +kernel
theorem dX2_add_0 : decode cX2_add 0 = .ok (.iload_n 1, 1) := by decide +kernel
theorem dX2_add_1 : decode cX2_add 1 = .ok (.iload_n 3, 1) := by decide +kernel
theorem dX2_add_2 : decode cX2_add 2 = .ok (.if_icmp .ne 16, 3) := by decide +kernel
theorem dX2_add_5 : decode cX2_add 5 = .ok (.iconst 3, 1) := by decide +kernel
theorem dX2_add_6 : decode cX2_add 6 = .ok (.iload_n 1, 1) := by decide +kernel
theorem dX2_add_7 : decode cX2_add 7 = .ok (.imul, 1) := by decide +kernel
theorem dX2_add_8 : decode cX2_add 8 = .ok (.iload_n 1, 1) := by decide +kernel
theorem dX2_add_9 : decode cX2_add 9 = .ok (.imul, 1) := by decide +kernel
theorem dX2_add_10 : decode cX2_add 10 = .ok (.aload_n 0, 1) := by decide +kernel
theorem dX2_add_11 : decode cX2_add 11 = .ok (.getfield 38, 3) := by decide +kernel
theorem dX2_add_14 : decode cX2_add 14 = .ok (.iadd, 1) := by decide +kernel
theorem dX2_add_15 : decode cX2_add 15 = .ok (.goto 12, 3) := by decide +kernel
theorem dX2_add_18 : decode cX2_add 18 = .ok (.iload 4, 2) := by decide +kernel
theorem dX2_add_20 : decode cX2_add 20 = .ok (.iload_n 2, 1) := by decide +kernel
theorem dX2_add_21 : decode cX2_add 21 = .ok (.isub, 1) := by decide +kernel
theorem dX2_add_22 : decode cX2_add 22 = .ok (.aload_n 0, 1) := by decide +kernel
theorem dX2_add_23 : decode cX2_add 23 = .ok (.getfield 41, 3) := by decide +kernel
theorem dX2_add_26 : decode cX2_add 26 = .ok (.iadd, 1) := by decide +kernel
theorem dX2_add_27 : decode cX2_add 27 = .ok (.istore 5, 2) := by decide +kernel
theorem dX2_add_29 : decode cX2_add 29 = .ok (.iload_n 1, 1) := by decide +kernel
theorem dX2_add_30 : decode cX2_add 30 = .ok (.iload_n 3, 1) := by decide +kernel
theorem dX2_add_31 : decode cX2_add 31 = .ok (.if_icmp .ne 14, 3) := by decide +kernel
theorem dX2_add_34 : decode cX2_add 34 = .ok (.iconst 2, 1) := by decide +kernel
theorem dX2_add_35 : decode cX2_add 35 = .ok (.iload_n 2, 1) := by decide +kernel
theorem dX2_add_36 : decode cX2_add 36 = .ok (.imul, 1) := by decide +kernel
theorem dX2_add_37 : decode cX2_add 37 = .ok (.aload_n 0, 1) := by decide +kernel
theorem dX2_add_38 : decode cX2_add 38 = .ok (.getfield 41, 3) := by decide +kernel
theorem dX2_add_41 : decode cX2_add 41 = .ok (.irem, 1) := by decide +kernel
theorem dX2_add_42 : decode cX2_add 42 = .ok (.goto 16, 3) := by decide +kernel
theorem dX2_add_45 : decode cX2_add 45 = .ok (.iload_n 3, 1) := by decide +kernel
theorem dX2_add_46 : decode cX2_add 46 = .ok (.iload_n 1, 1) := by decide +kernel
theorem dX2_add_47 : decode cX2_add 47 = .ok (.isub, 1) := by decide +kernel
theorem dX2_add_48 : decode cX2_add 48 = .ok (.aload_n 0, 1) := by decide +kernel
theorem dX2_add_49 : decode cX2_add 49 = .ok (.getfield 41, 3) := by decide +kernel
theorem dX2_add_52 : decode cX2_add 52 = .ok (.iadd, 1) := by decide +kernel
theorem dX2_add_53 : decode cX2_add 53 = .ok (.aload_n 0, 1) := by decide +kernel
theorem dX2_add_54 : decode cX2_add 54 = .ok (.getfield 41, 3) := by decide +kernel
theorem dX2_add_57 : decode cX2_add 57 = .ok (.irem, 1) := by decide +kernel
theorem dX2_add_58 : decode cX2_add 58 = .ok (.istore 6, 2) := by decide +kernel
theorem dX2_add_60 : decode cX2_add 60 = .ok (.iload 5, 2) := by decide +kernel
theorem dX2_add_62 : decode cX2_add 62 = .ok (.aload_n 0, 1) := by decide +kernel
theorem dX2_add_63 : decode cX2_add 63 = .ok (.getfield 41, 3) := by decide +kernel
theorem dX2_add_66 : decode cX2_add 66 = .ok (.irem, 1) := by decide +kernel
theorem dX2_add_67 : decode cX2_add 67 = .ok (.aload_n 0, 1) := by decide +kernel
theorem dX2_add_68 : decode cX2_add 68 = .ok (.iload 6, 2) := by decide +kernel
theorem dX2_add_70 : decode cX2_add 70 = .ok (.aload_n 0, 1) := by decide +kernel
theorem dX2_add_71 : decode cX2_add 71 = .ok (.getfield 41, 3) := by decide +kernel
theorem dX2_add_74 : decode cX2_add 74 = .ok (.invokevirtual 44, 3) := by decide +kernel
theorem dX2_add_77 : decode cX2_add 77 = .ok (.imul, 1) := by decide +kernel
theorem dX2_add_78 : decode cX2_add 78 = .ok (.aload_n 0, 1) := by decide +kernel
theorem dX2_add_79 : decode cX2_add 79 = .ok (.getfield 41, 3) := by decide +kernel
theorem dX2_add_82 : decode cX2_add 82 = .ok (.irem, 1) := by decide +kernel
theorem dX2_add_83 : decode cX2_add 83 = .ok (.istore 7, 2) := by decide +kernel
theorem dX2_add_85 : decode cX2_add 85 = .ok (.aload_n 0, 1) := by decide +kernel
theorem dX2_add_86 : decode cX2_add 86 = .ok (.iload 7, 2) := by decide +kernel
theorem dX2_add_88 : decode cX2_add 88 = .ok (.iload 7, 2) := by decide +kernel
theorem dX2_add_90 : decode cX2_add 90 = .ok (.imul, 1) := by decide +kernel
theorem dX2_add_91 : decode cX2_add 91 = .ok (.iconst 2, 1) := by decide +kernel
theorem dX2_add_92 : decode cX2_add 92 = .ok (.aload_n 0, 1) := by decide +kernel
theorem dX2_add_93 : decode cX2_add 93 = .ok (.getfield 41, 3) := by decide +kernel
theorem dX2_add_96 : decode cX2_add 96 = .ok (.imul, 1) := by decide +kernel
theorem dX2_add_97 : decode cX2_add 97 = .ok (.iadd, 1) := by decide +kernel
theorem dX2_add_98 : decode cX2_add 98 = .ok (.iload_n 1, 1) := by decide +kernel
theorem dX2_add_99 : decode cX2_add 99 = .ok (.isub, 1) := by decide +kernel
theorem dX2_add_100 : decode cX2_add 100 = .ok (.iload_n 3, 1) := by decide +kernel
theorem dX2_add_101 : decode cX2_add 101 = .ok (.isub, 1) := by decide +kernel
theorem dX2_add_102 : decode cX2_add 102 = .ok (.aload_n 0, 1) := by decide +kernel
theorem dX2_add_103 : decode cX2_add 103 = .ok (.getfield 41, 3) := by decide +kernel
theorem dX2_add_106 : decode cX2_add 106 = .ok (.irem, 1) := by decide +kernel
theorem dX2_add_107 : decode cX2_add 107 = .ok (.putfield 48, 3) := by decide +kernel
theorem dX2_add_110 : decode cX2_add 110 = .ok (.aload_n 0, 1) := by decide +kernel
theorem dX2_add_111 : decode cX2_add 111 = .ok (.iload 7, 2) := by decide +kernel
theorem dX2_add_113 : decode cX2_add 113 = .ok (.iload_n 1, 1) := by decide +kernel
theorem dX2_add_114 : decode cX2_add 114 = .ok (.aload_n 0, 1) := by decide +kernel
theorem dX2_add_115 : decode cX2_add 115 = .ok (.getfield 48, 3) := by decide +kernel
theorem dX2_add_118 : decode cX2_add 118 = .ok (.isub, 1) := by decide +kernel
theorem dX2_add_119 : decode cX2_add 119 = .ok (.aload_n 0, 1) := by decide +kernel
theorem dX2_add_120 : decode cX2_add 120 = .ok (.getfield 41, 3) := by decide +kernel
theorem dX2_add_123 : decode cX2_add 123 = .ok (.iadd, 1) := by decide +kernel
theorem dX2_add_124 : decode cX2_add 124 = .ok (.imul, 1) := by decide +kernel
theorem dX2_add_125 : decode cX2_add 125 = .ok (.aload_n 0, 1) := by decide +kernel
theorem dX2_add_126 : decode cX2_add 126 = .ok (.getfield 41, 3) := by decide +kernel
theorem dX2_add_129 : decode cX2_add 129 = .ok (.iadd, 1) := by decide +kernel
theorem dX2_add_130 : decode cX2_add 130 = .ok (.iload_n 2, 1) := by decide +kernel
theorem dX2_add_131 : decode cX2_add 131 = .ok (.isub, 1) := by decide +kernel
theorem dX2_add_132 : decode cX2_add 132 = .ok (.aload_n 0, 1) := by decide +kernel
theorem dX2_add_133 : decode cX2_add 133 = .ok (.getfield 41, 3) := by decide +kernel
theorem dX2_add_136 : decode cX2_add 136 = .ok (.irem, 1) := by decide +kernel
theorem dX2_add_137 : decode cX2_add 137 = .ok (.putfield 51, 3) := by decide +kernel
theorem dX2_add_140 : decode cX2_add 140 = .ok (.return_, 1) := by decide +kernel
theorem dX2_curve_0 : decode cX2_curve 0 = .ok (.aload_n 0, 1) := by decide +kernel
theorem dX2_curve_1 : decode cX2_curve 1 = .ok (.iload_n 1, 1) := by decide +kernel
theorem dX2_curve_2 : decode cX2_curve 2 = .ok (.iload_n 2, 1) := by decide +kernel
theorem dX2_curve_3 : decode cX2_curve 3 = .ok (.iload_n 3, 1) := by decide +kernel
theorem dX2_curve_4 : decode cX2_curve 4 = .ok (.invokevirtual 54, 3) := by decide +kernel
theorem dX2_curve_7 : decode cX2_curve 7 = .ok (.istore 4, 2) := by decide +kernel
theorem dX2_curve_9 : decode cX2_curve 9 = .ok (.aload_n 0, 1) := by decide +kernel
theorem dX2_curve_10 : decode cX2_curve 10 = .ok (.iload 4, 2) := by decide +kernel
theorem dX2_curve_12 : decode cX2_curve 12 = .ok (.iconst 3, 1) := by decide +kernel
theorem dX2_curve_13 : decode cX2_curve 13 = .ok (.if_icmp .lt 12, 3) := by decide +kernel
theorem dX2_curve_16 : decode cX2_curve 16 = .ok (.aload_n 0, 1) := by decide +kernel
theorem dX2_curve_17 : decode cX2_curve 17 = .ok (.iload 4, 2) := by decide +kernel
theorem dX2_curve_19 : decode cX2_curve 19 = .ok (.invokevirtual 26, 3) := by decide +kernel
theorem dX2_curve_22 : decode cX2_curve 22 = .ok (.ifCond .ne 7, 3) := by decide +kernel
theorem dX2_curve_25 : decode cX2_curve 25 = .ok (.iconst 1, 1) := by decide +kernel
theorem dX2_curve_26 : decode cX2_curve 26 = .ok (.goto 4, 3) := by decide +kernel
theorem dX2_curve_29 : decode cX2_curve 29 = .ok (.iconst 0, 1) := by decide +kernel
theorem dX2_curve_30 : decode cX2_curve 30 = .ok (.iconst 0, 1) := by decide +kernel
theorem dX2_curve_31 : decode cX2_curve 31 = .ok (.iconst 0, 1) := by decide +kernel
theorem dX2_curve_32 : decode cX2_curve 32 = .ok (.invokevirtual 58, 3) := by decide +kernel
theorem dX2_curve_35 : decode cX2_curve 35 = .ok (.ifCond .ne 5, 3) := by decide +kernel
theorem dX2_curve_38 : decode cX2_curve 38 = .ok (.iconst 0, 1) := by decide +kernel
theorem dX2_curve_39 : decode cX2_curve 39 = .ok (.ireturn, 1) := by decide +kernel
theorem dX2_curve_40 : decode cX2_curve 40 = .ok (.aload_n 0, 1) := by decide +kernel
theorem dX2_curve_41 : decode cX2_curve 41 = .ok (.iload_n 1, 1) := by decide +kernel
theorem dX2_curve_42 : decode cX2_curve 42 = .ok (.putfield 41, 3) := by decide +kernel
theorem dX2_curve_45 : decode cX2_curve 45 = .ok (.aload_n 0, 1) := by decide +kernel
theorem dX2_curve_46 : decode cX2_curve 46 = .ok (.iload_n 2, 1) := by decide +kernel
theorem dX2_curve_47 : decode cX2_curve 47 = .ok (.putfield 38, 3) := by decide +kernel
theorem dX2_curve_50 : decode cX2_curve 50 = .ok (.aload_n 0, 1) := by decide +kernel
theorem dX2_curve_51 : decode cX2_curve 51 = .ok (.iload_n 3, 1) := by decide +kernel
theorem dX2_curve_52 : decode cX2_curve 52 = .ok (.putfield 62, 3) := by decide +kernel
theorem dX2_curve_55 : decode cX2_curve 55 = .ok (.aload_n 0, 1) := by decide +kernel
theorem dX2_curve_56 : decode cX2_curve 56 = .ok (.iload 4, 2) := by decide +kernel
theorem dX2_curve_58 : decode cX2_curve 58 = .ok (.putfield 65, 3) := by decide +kernel
theorem dX2_curve_61 : decode cX2_curve 61 = .ok (.aload_n 0, 1) := by decide +kernel
theorem dX2_curve_62 : decode cX2_curve 62 = .ok (.iconst 0, 1) := by decide +kernel
theorem dX2_curve_63 : decode cX2_curve 63 = .ok (.putfield 68, 3) := by decide +kernel
theorem dX2_curve_66 : decode cX2_curve 66 = .ok (.iconst 0, 1) := by decide +kernel
theorem dX2_curve_67 : decode cX2_curve 67 = .ok (.istore 5, 2) := by decide +kernel
theorem dX2_curve_69 : decode cX2_curve 69 = .ok (.iload 5, 2) := by decide +kernel
theorem dX2_curve_71 : decode cX2_curve 71 = .ok (.iconst 4, 1) := by decide +kernel
theorem dX2_curve_72 : decode cX2_curve 72 = .ok (.if_icmp .ge 17, 3) := by decide +kernel
theorem dX2_curve_75 : decode cX2_curve 75 = .ok (.aload_n 0, 1) := by decide +kernel
theorem dX2_curve_76 : decode cX2_curve 76 = .ok (.getfield 16, 3) := by decide +kernel
theorem dX2_curve_79 : decode cX2_curve 79 = .ok (.iload 5, 2) := by decide +kernel
theorem dX2_curve_81 : decode cX2_curve 81 = .ok (.iconst 0, 1) := by decide +kernel
theorem dX2_curve_82 : decode cX2_curve 82 = .ok (.iastore, 1) := by decide +kernel
theorem dX2_curve_83 : decode cX2_curve 83 = .ok (.iinc 5 1, 3) := by decide +kernel
theorem dX2_curve_86 : decode cX2_curve 86 = .ok (.goto (-17), 3) := by decide +kernel
theorem dX2_curve_89 : decode cX2_curve 89 = .ok (.aload_n 0, 1) := by decide +kernel
theorem dX2_curve_90 : decode cX2_curve 90 = .ok (.invokevirtual 71, 3) := by decide +kernel
theorem dX2_curve_93 : decode cX2_curve 93 = .ok (.iconst 2, 1) := by decide +kernel
theorem dX2_curve_94 : decode cX2_curve 94 = .ok (.istore 5, 2) := by decide +kernel
theorem dX2_curve_96 : decode cX2_curve 96 = .ok (.iload 5, 2) := by decide +kernel
theorem dX2_curve_98 : decode cX2_curve 98 = .ok (.aload_n 0, 1) := by decide +kernel
theorem dX2_curve_99 : decode cX2_curve 99 = .ok (.getfield 65, 3) := by decide +kernel
theorem dX2_curve_102 : decode cX2_curve 102 = .ok (.if_icmp .ge 65, 3) := by decide +kernel
theorem dX2_curve_105 : decode cX2_curve 105 = .ok (.aload_n 0, 1) := by decide +kernel
theorem dX2_curve_106 : decode cX2_curve 106 = .ok (.aload_n 0, 1) := by decide +kernel
theorem dX2_curve_107 : decode cX2_curve 107 = .ok (.getfield 7, 3) := by decide +kernel
theorem dX2_curve_110 : decode cX2_curve 110 = .ok (.iload 5, 2) := by decide +kernel
theorem dX2_curve_112 : decode cX2_curve 112 = .ok (.iconst 1, 1) := by decide +kernel
theorem dX2_curve_113 : decode cX2_curve 113 = .ok (.isub, 1) := by decide +kernel
theorem dX2_curve_114 : decode cX2_curve 114 = .ok (.iaload, 1) := by decide +kernel
theorem dX2_curve_115 : decode cX2_curve 115 = .ok (.aload_n 0, 1) := by decide +kernel
theorem dX2_curve_116 : decode cX2_curve 116 = .ok (.getfield 13, 3) := by decide +kernel
theorem dX2_curve_119 : decode cX2_curve 119 = .ok (.iload 5, 2) := by decide +kernel
theorem dX2_curve_121 : decode cX2_curve 121 = .ok (.iconst 1, 1) := by decide +kernel
theorem dX2_curve_122 : decode cX2_curve 122 = .ok (.isub, 1) := by decide +kernel
theorem dX2_curve_123 : decode cX2_curve 123 = .ok (.iaload, 1) := by decide +kernel
theorem dX2_curve_124 : decode cX2_curve 124 = .ok (.aload_n 0, 1) := by decide +kernel
theorem dX2_curve_125 : decode cX2_curve 125 = .ok (.getfield 7, 3) := by decide +kernel
theorem dX2_curve_128 : decode cX2_curve 128 = .ok (.iconst 1, 1) := by decide +kernel
theorem dX2_curve_129 : decode cX2_curve 129 = .ok (.iaload, 1) := by decide +kernel
theorem dX2_curve_130 : decode cX2_curve 130 = .ok (.aload_n 0, 1) := by decide +kernel
theorem dX2_curve_131 : decode cX2_curve 131 = .ok (.getfield 13, 3) := by decide +kernel
theorem dX2_curve_134 : decode cX2_curve 134 = .ok (.iconst 1, 1) := by decide +kernel
theorem dX2_curve_135 : decode cX2_curve 135 = .ok (.iaload, 1) := by decide +kernel
theorem dX2_curve_136 : decode cX2_curve 136 = .ok (.invokevirtual 74, 3) := by decide +kernel
theorem dX2_curve_139 : decode cX2_curve 139 = .ok (.aload_n 0, 1) := by decide +kernel
theorem dX2_curve_140 : decode cX2_curve 140 = .ok (.getfield 7, 3) := by decide +kernel
theorem dX2_curve_143 : decode cX2_curve 143 = .ok (.iload 5, 2) := by decide +kernel
theorem dX2_curve_145 : decode cX2_curve 145 = .ok (.aload_n 0, 1) := by decide +kernel
theorem dX2_curve_146 : decode cX2_curve 146 = .ok (.getfield 48, 3) := by decide +kernel
theorem dX2_curve_149 : decode cX2_curve 149 = .ok (.iastore, 1) := by decide +kernel
theorem dX2_curve_150 : decode cX2_curve 150 = .ok (.aload_n 0, 1) := by decide +kernel
theorem dX2_curve_151 : decode cX2_curve 151 = .ok (.getfield 13, 3) := by decide +kernel
theorem dX2_curve_154 : decode cX2_curve 154 = .ok (.iload 5, 2) := by decide +kernel
theorem dX2_curve_156 : decode cX2_curve 156 = .ok (.aload_n 0, 1) := by decide +kernel
theorem dX2_curve_157 : decode cX2_curve 157 = .ok (.getfield 51, 3) := by decide +kernel
theorem dX2_curve_160 : decode cX2_curve 160 = .ok (.iastore, 1) := by decide +kernel
theorem dX2_curve_161 : decode cX2_curve 161 = .ok (.iinc 5 1, 3) := by decide +kernel
theorem dX2_curve_164 : decode cX2_curve 164 = .ok (.goto (-68), 3) := by decide +kernel
theorem dX2_curve_167 : decode cX2_curve 167 = .ok (.aload_n 0, 1) := by decide +kernel
theorem dX2_curve_168 : decode cX2_curve 168 = .ok (.getfield 65, 3) := by decide +kernel
theorem dX2_curve_171 : decode cX2_curve 171 = .ok (.ireturn, 1) := by decide +kernel
theorem dX2_findBase_0 : decode cX2_findBase 0 = .ok (.iconst 0, 1) := by decide +kernel
theorem dX2_findBase_1 : decode cX2_findBase 1 = .ok (.istore_n 1, 1) := by decide +kernel
theorem dX2_findBase_2 : decode cX2_findBase 2 = .ok (.iload_n 1, 1) := by decide +kernel
theorem dX2_findBase_3 : decode cX2_findBase 3 = .ok (.aload_n 0, 1) := by decide +kernel
theorem dX2_findBase_4 : decode cX2_findBase 4 = .ok (.getfield 41, 3) := by decide +kernel
theorem dX2_findBase_7 : decode cX2_findBase 7 = .ok (.iconst 1, 1) := by decide +kernel
theorem dX2_findBase_8 : decode cX2_findBase 8 = .ok (.isub, 1) := by decide +kernel
theorem dX2_findBase_9 : decode cX2_findBase 9 = .ok (.if_icmp .ge 34, 3) := by decide +kernel
theorem dX2_findBase_12 : decode cX2_findBase 12 = .ok (.aload_n 0, 1) := by decide +kernel
theorem dX2_findBase_13 : decode cX2_findBase 13 = .ok (.getfield 19, 3) := by decide +kernel
theorem dX2_findBase_16 : decode cX2_findBase 16 = .ok (.aload_n 0, 1) := by decide +kernel
theorem dX2_findBase_17 : decode cX2_findBase 17 = .ok (.iload_n 1, 1) := by decide +kernel
theorem dX2_findBase_18 : decode cX2_findBase 18 = .ok (.aload_n 0, 1) := by decide +kernel
theorem dX2_findBase_19 : decode cX2_findBase 19 = .ok (.getfield 41, 3) := by decide +kernel
theorem dX2_findBase_22 : decode cX2_findBase 22 = .ok (.aload_n 0, 1) := by decide +kernel
theorem dX2_findBase_23 : decode cX2_findBase 23 = .ok (.getfield 38, 3) := by decide +kernel
theorem dX2_findBase_26 : decode cX2_findBase 26 = .ok (.aload_n 0, 1) := by decide +kernel
theorem dX2_findBase_27 : decode cX2_findBase 27 = .ok (.getfield 62, 3) := by decide +kernel
theorem dX2_findBase_30 : decode cX2_findBase 30 = .ok (.invokevirtual 34, 3) := by decide +kernel
theorem dX2_findBase_33 : decode cX2_findBase 33 = .ok (.iaload, 1) := by decide +kernel
theorem dX2_findBase_34 : decode cX2_findBase 34 = .ok (.ifCond .ne 9, 3) := by decide +kernel
theorem dX2_findBase_37 : decode cX2_findBase 37 = .ok (.iinc 1 1, 3) := by decide +kernel
theorem dX2_findBase_40 : decode cX2_findBase 40 = .ok (.goto (-38), 3) := by decide +kernel
theorem dX2_findBase_43 : decode cX2_findBase 43 = .ok (.iconst 0, 1) := by decide +kernel
theorem dX2_findBase_44 : decode cX2_findBase 44 = .ok (.istore_n 2, 1) := by decide +kernel
theorem dX2_findBase_45 : decode cX2_findBase 45 = .ok (.iload_n 2, 1) := by decide +kernel
theorem dX2_findBase_46 : decode cX2_findBase 46 = .ok (.aload_n 0, 1) := by decide +kernel
theorem dX2_findBase_47 : decode cX2_findBase 47 = .ok (.getfield 41, 3) := by decide +kernel
theorem dX2_findBase_50 : decode cX2_findBase 50 = .ok (.iconst 1, 1) := by decide +kernel
theorem dX2_findBase_51 : decode cX2_findBase 51 = .ok (.isub, 1) := by decide +kernel
theorem dX2_findBase_52 : decode cX2_findBase 52 = .ok (.if_icmp .ge 37, 3) := by decide +kernel
theorem dX2_findBase_55 : decode cX2_findBase 55 = .ok (.iload_n 2, 1) := by decide +kernel
theorem dX2_findBase_56 : decode cX2_findBase 56 = .ok (.iload_n 2, 1) := by decide +kernel
theorem dX2_findBase_57 : decode cX2_findBase 57 = .ok (.imul, 1) := by decide +kernel
theorem dX2_findBase_58 : decode cX2_findBase 58 = .ok (.aload_n 0, 1) := by decide +kernel
theorem dX2_findBase_59 : decode cX2_findBase 59 = .ok (.getfield 41, 3) := by decide +kernel
theorem dX2_findBase_62 : decode cX2_findBase 62 = .ok (.irem, 1) := by decide +kernel
theorem dX2_findBase_63 : decode cX2_findBase 63 = .ok (.aload_n 0, 1) := by decide +kernel
theorem dX2_findBase_64 : decode cX2_findBase 64 = .ok (.iload_n 1, 1) := by decide +kernel
theorem dX2_findBase_65 : decode cX2_findBase 65 = .ok (.aload_n 0, 1) := by decide +kernel
theorem dX2_findBase_66 : decode cX2_findBase 66 = .ok (.getfield 41, 3) := by decide +kernel
theorem dX2_findBase_69 : decode cX2_findBase 69 = .ok (.aload_n 0, 1) := by decide +kernel
theorem dX2_findBase_70 : decode cX2_findBase 70 = .ok (.getfield 38, 3) := by decide +kernel
theorem dX2_findBase_73 : decode cX2_findBase 73 = .ok (.aload_n 0, 1) := by decide +kernel
theorem dX2_findBase_74 : decode cX2_findBase 74 = .ok (.getfield 62, 3) := by decide +kernel
theorem dX2_findBase_77 : decode cX2_findBase 77 = .ok (.invokevirtual 34, 3) := by decide +kernel
theorem dX2_findBase_80 : decode cX2_findBase 80 = .ok (.if_icmp .eq 9, 3) := by decide +kernel
theorem dX2_findBase_83 : decode cX2_findBase 83 = .ok (.iinc 2 1, 3) := by decide +kernel
theorem dX2_findBase_86 : decode cX2_findBase 86 = .ok (.goto (-41), 3) := by decide +kernel
theorem dX2_findBase_89 : decode cX2_findBase 89 = .ok (.aload_n 0, 1) := by decide +kernel
theorem dX2_findBase_90 : decode cX2_findBase 90 = .ok (.getfield 7, 3) := by decide +kernel
theorem dX2_findBase_93 : decode cX2_findBase 93 = .ok (.iconst 1, 1) := by decide +kernel
theorem dX2_findBase_94 : decode cX2_findBase 94 = .ok (.iload_n 1, 1) := by decide +kernel
theorem dX2_findBase_95 : decode cX2_findBase 95 = .ok (.iastore, 1) := by decide +kernel
theorem dX2_findBase_96 : decode cX2_findBase 96 = .ok (.aload_n 0, 1) := by decide +kernel
theorem dX2_findBase_97 : decode cX2_findBase 97 = .ok (.getfield 13, 3) := by decide +kernel
theorem dX2_findBase_100 : decode cX2_findBase 100 = .ok (.iconst 1, 1) := by decide +kernel
theorem dX2_findBase_101 : decode cX2_findBase 101 = .ok (.iload_n 2, 1) := by decide +kernel
theorem dX2_findBase_102 : decode cX2_findBase 102 = .ok (.iastore, 1) := by decide +kernel
theorem dX2_findBase_103 : decode cX2_findBase 103 = .ok (.return_, 1) := by decide +kernel
theorem dX2_order_0 : decode cX2_order 0 = .ok (.aload_n 0, 1) := by decide +kernel
theorem dX2_order_1 : decode cX2_order 1 = .ok (.iconst 0, 1) := by decide +kernel
theorem dX2_order_2 : decode cX2_order 2 = .ok (.putfield 22, 3) := by decide +kernel
theorem dX2_order_5 : decode cX2_order 5 = .ok (.aload_n 0, 1) := by decide +kernel
theorem dX2_order_6 : decode cX2_order 6 = .ok (.getfield 65, 3) := by decide +kernel
theorem dX2_order_9 : decode cX2_order 9 = .ok (.ireturn, 1) := by decide +kernel
theorem dX2_find_0 : decode cX2_find 0 = .ok (.iconst 0, 1) := by decide +kernel
theorem dX2_find_1 : decode cX2_find 1 = .ok (.istore_n 3, 1) := by decide +kernel
theorem dX2_find_2 : decode cX2_find 2 = .ok (.iconst 1, 1) := by decide +kernel
theorem dX2_find_3 : decode cX2_find 3 = .ok (.istore 4, 2) := by decide +kernel
theorem dX2_find_5 : decode cX2_find 5 = .ok (.iload 4, 2) := by decide +kernel
theorem dX2_find_7 : decode cX2_find 7 = .ok (.aload_n 0, 1) := by decide +kernel
theorem dX2_find_8 : decode cX2_find 8 = .ok (.getfield 65, 3) := by decide +kernel
theorem dX2_find_11 : decode cX2_find 11 = .ok (.if_icmp .ge 38, 3) := by decide +kernel
theorem dX2_find_14 : decode cX2_find 14 = .ok (.aload_n 0, 1) := by decide +kernel
theorem dX2_find_15 : decode cX2_find 15 = .ok (.getfield 7, 3) := by decide +kernel
theorem dX2_find_18 : decode cX2_find 18 = .ok (.iload 4, 2) := by decide +kernel
theorem dX2_find_20 : decode cX2_find 20 = .ok (.iaload, 1) := by decide +kernel
theorem dX2_find_21 : decode cX2_find 21 = .ok (.iload_n 1, 1) := by decide +kernel
theorem dX2_find_22 : decode cX2_find 22 = .ok (.if_icmp .ne 19, 3) := by decide +kernel
theorem dX2_find_25 : decode cX2_find 25 = .ok (.aload_n 0, 1) := by decide +kernel
theorem dX2_find_26 : decode cX2_find 26 = .ok (.getfield 13, 3) := by decide +kernel
theorem dX2_find_29 : decode cX2_find 29 = .ok (.iload 4, 2) := by decide +kernel
theorem dX2_find_31 : decode cX2_find 31 = .ok (.iaload, 1) := by decide +kernel
theorem dX2_find_32 : decode cX2_find 32 = .ok (.iload_n 2, 1) := by decide +kernel
theorem dX2_find_33 : decode cX2_find 33 = .ok (.if_icmp .ne 8, 3) := by decide +kernel
theorem dX2_find_36 : decode cX2_find 36 = .ok (.iload 4, 2) := by decide +kernel
theorem dX2_find_38 : decode cX2_find 38 = .ok (.goto 4, 3) := by decide +kernel
theorem dX2_find_41 : decode cX2_find 41 = .ok (.iload_n 3, 1) := by decide +kernel
theorem dX2_find_42 : decode cX2_find 42 = .ok (.istore_n 3, 1) := by decide +kernel
theorem dX2_find_43 : decode cX2_find 43 = .ok (.iinc 4 1, 3) := by decide +kernel
theorem dX2_find_46 : decode cX2_find 46 = .ok (.goto (-41), 3) := by decide +kernel
theorem dX2_find_49 : decode cX2_find 49 = .ok (.iload_n 3, 1) := by decide +kernel
theorem dX2_find_50 : decode cX2_find 50 = .ok (.ireturn, 1) := by decide +kernel
theorem dX2_load_0 : decode cX2_load 0 = .ok (.aload_n 0, 1) := by decide +kernel
theorem dX2_load_1 : decode cX2_load 1 = .ok (.iload_n 2, 1) := by decide +kernel
theorem dX2_load_2 : decode cX2_load 2 = .ok (.iload_n 3, 1) := by decide +kernel
theorem dX2_load_3 : decode cX2_load 3 = .ok (.invokevirtual 78, 3) := by decide +kernel
theorem dX2_load_6 : decode cX2_load 6 = .ok (.istore 4, 2) := by decide +kernel
theorem dX2_load_8 : decode cX2_load 8 = .ok (.aload_n 0, 1) := by decide +kernel
theorem dX2_load_9 : decode cX2_load 9 = .ok (.aload_n 0, 1) := by decide +kernel
theorem dX2_load_10 : decode cX2_load 10 = .ok (.getfield 65, 3) := by decide +kernel
theorem dX2_load_13 : decode cX2_load 13 = .ok (.ifCond .ne 7, 3) := by decide +kernel
theorem dX2_load_16 : decode cX2_load 16 = .ok (.iconst 1, 1) := by decide +kernel
theorem dX2_load_17 : decode cX2_load 17 = .ok (.goto 4, 3) := by decide +kernel
theorem dX2_load_20 : decode cX2_load 20 = .ok (.iconst 0, 1) := by decide +kernel
theorem dX2_load_21 : decode cX2_load 21 = .ok (.aload_n 0, 1) := by decide +kernel
theorem dX2_load_22 : decode cX2_load 22 = .ok (.iload_n 1, 1) := by decide +kernel
theorem dX2_load_23 : decode cX2_load 23 = .ok (.invokevirtual 81, 3) := by decide +kernel
theorem dX2_load_26 : decode cX2_load 26 = .ok (.iload 4, 2) := by decide +kernel
theorem dX2_load_28 : decode cX2_load 28 = .ok (.ifCond .ne 7, 3) := by decide +kernel
theorem dX2_load_31 : decode cX2_load 31 = .ok (.iconst 1, 1) := by decide +kernel
theorem dX2_load_32 : decode cX2_load 32 = .ok (.goto 4, 3) := by decide +kernel
theorem dX2_load_35 : decode cX2_load 35 = .ok (.iconst 0, 1) := by decide +kernel
theorem dX2_load_36 : decode cX2_load 36 = .ok (.invokevirtual 58, 3) := by decide +kernel
theorem dX2_load_39 : decode cX2_load 39 = .ok (.ifCond .eq 11, 3) := by decide +kernel
theorem dX2_load_42 : decode cX2_load 42 = .ok (.aload_n 0, 1) := by decide +kernel
theorem dX2_load_43 : decode cX2_load 43 = .ok (.getfield 16, 3) := by decide +kernel
theorem dX2_load_46 : decode cX2_load 46 = .ok (.iload_n 1, 1) := by decide +kernel
theorem dX2_load_47 : decode cX2_load 47 = .ok (.iload 4, 2) := by decide +kernel
theorem dX2_load_49 : decode cX2_load 49 = .ok (.iastore, 1) := by decide +kernel
theorem dX2_load_50 : decode cX2_load 50 = .ok (.return_, 1) := by decide +kernel
theorem dX2_base_0 : decode cX2_base 0 = .ok (.aload_n 0, 1) := by decide +kernel
theorem dX2_base_1 : decode cX2_base 1 = .ok (.aload_n 0, 1) := by decide +kernel
theorem dX2_base_2 : decode cX2_base 2 = .ok (.getfield 65, 3) := by decide +kernel
theorem dX2_base_5 : decode cX2_base 5 = .ok (.ifCond .ne 7, 3) := by decide +kernel
theorem dX2_base_8 : decode cX2_base 8 = .ok (.iconst 1, 1) := by decide +kernel
theorem dX2_base_9 : decode cX2_base 9 = .ok (.goto 4, 3) := by decide +kernel
theorem dX2_base_12 : decode cX2_base 12 = .ok (.iconst 0, 1) := by decide +kernel
theorem dX2_base_13 : decode cX2_base 13 = .ok (.aload_n 0, 1) := by decide +kernel
theorem dX2_base_14 : decode cX2_base 14 = .ok (.iload_n 1, 1) := by decide +kernel
theorem dX2_base_15 : decode cX2_base 15 = .ok (.invokevirtual 81, 3) := by decide +kernel
theorem dX2_base_18 : decode cX2_base 18 = .ok (.iconst 0, 1) := by decide +kernel
theorem dX2_base_19 : decode cX2_base 19 = .ok (.invokevirtual 58, 3) := by decide +kernel
theorem dX2_base_22 : decode cX2_base 22 = .ok (.ifCond .eq 10, 3) := by decide +kernel
theorem dX2_base_25 : decode cX2_base 25 = .ok (.aload_n 0, 1) := by decide +kernel
theorem dX2_base_26 : decode cX2_base 26 = .ok (.getfield 16, 3) := by decide +kernel
theorem dX2_base_29 : decode cX2_base 29 = .ok (.iload_n 1, 1) := by decide +kernel
theorem dX2_base_30 : decode cX2_base 30 = .ok (.iconst 1, 1) := by decide +kernel
theorem dX2_base_31 : decode cX2_base 31 = .ok (.iastore, 1) := by decide +kernel
theorem dX2_base_32 : decode cX2_base 32 = .ok (.return_, 1) := by decide +kernel
theorem dX2_sum_0 : decode cX2_sum 0 = .ok (.aload_n 0, 1) := by decide +kernel
theorem dX2_sum_1 : decode cX2_sum 1 = .ok (.aload_n 0, 1) := by decide +kernel
theorem dX2_sum_2 : decode cX2_sum 2 = .ok (.getfield 65, 3) := by decide +kernel
theorem dX2_sum_5 : decode cX2_sum 5 = .ok (.ifCond .ne 7, 3) := by decide +kernel
theorem dX2_sum_8 : decode cX2_sum 8 = .ok (.iconst 1, 1) := by decide +kernel
theorem dX2_sum_9 : decode cX2_sum 9 = .ok (.goto 4, 3) := by decide +kernel
theorem dX2_sum_12 : decode cX2_sum 12 = .ok (.iconst 0, 1) := by decide +kernel
theorem dX2_sum_13 : decode cX2_sum 13 = .ok (.aload_n 0, 1) := by decide +kernel
theorem dX2_sum_14 : decode cX2_sum 14 = .ok (.iload_n 1, 1) := by decide +kernel
theorem dX2_sum_15 : decode cX2_sum 15 = .ok (.invokevirtual 81, 3) := by decide +kernel
theorem dX2_sum_18 : decode cX2_sum 18 = .ok (.ifCond .ne 19, 3) := by decide +kernel
theorem dX2_sum_21 : decode cX2_sum 21 = .ok (.aload_n 0, 1) := by decide +kernel
theorem dX2_sum_22 : decode cX2_sum 22 = .ok (.iload_n 2, 1) := by decide +kernel
theorem dX2_sum_23 : decode cX2_sum 23 = .ok (.invokevirtual 81, 3) := by decide +kernel
theorem dX2_sum_26 : decode cX2_sum 26 = .ok (.ifCond .ne 11, 3) := by decide +kernel
theorem dX2_sum_29 : decode cX2_sum 29 = .ok (.aload_n 0, 1) := by decide +kernel
theorem dX2_sum_30 : decode cX2_sum 30 = .ok (.iload_n 3, 1) := by decide +kernel
theorem dX2_sum_31 : decode cX2_sum 31 = .ok (.invokevirtual 81, 3) := by decide +kernel
theorem dX2_sum_34 : decode cX2_sum 34 = .ok (.ifCond .eq 7, 3) := by decide +kernel
theorem dX2_sum_37 : decode cX2_sum 37 = .ok (.iconst 1, 1) := by decide +kernel
theorem dX2_sum_38 : decode cX2_sum 38 = .ok (.goto 4, 3) := by decide +kernel
theorem dX2_sum_41 : decode cX2_sum 41 = .ok (.iconst 0, 1) := by decide +kernel
theorem dX2_sum_42 : decode cX2_sum 42 = .ok (.iconst 0, 1) := by decide +kernel
theorem dX2_sum_43 : decode cX2_sum 43 = .ok (.invokevirtual 58, 3) := by decide +kernel
theorem dX2_sum_46 : decode cX2_sum 46 = .ok (.ifCond .eq 27, 3) := by decide +kernel
theorem dX2_sum_49 : decode cX2_sum 49 = .ok (.aload_n 0, 1) := by decide +kernel
theorem dX2_sum_50 : decode cX2_sum 50 = .ok (.getfield 16, 3) := by decide +kernel
theorem dX2_sum_53 : decode cX2_sum 53 = .ok (.iload_n 1, 1) := by decide +kernel
theorem dX2_sum_54 : decode cX2_sum 54 = .ok (.aload_n 0, 1) := by decide +kernel
theorem dX2_sum_55 : decode cX2_sum 55 = .ok (.getfield 16, 3) := by decide +kernel
theorem dX2_sum_58 : decode cX2_sum 58 = .ok (.iload_n 2, 1) := by decide +kernel
theorem dX2_sum_59 : decode cX2_sum 59 = .ok (.iaload, 1) := by decide +kernel
theorem dX2_sum_60 : decode cX2_sum 60 = .ok (.aload_n 0, 1) := by decide +kernel
theorem dX2_sum_61 : decode cX2_sum 61 = .ok (.getfield 16, 3) := by decide +kernel
theorem dX2_sum_64 : decode cX2_sum 64 = .ok (.iload_n 3, 1) := by decide +kernel
theorem dX2_sum_65 : decode cX2_sum 65 = .ok (.iaload, 1) := by decide +kernel
theorem dX2_sum_66 : decode cX2_sum 66 = .ok (.iadd, 1) := by decide +kernel
theorem dX2_sum_67 : decode cX2_sum 67 = .ok (.aload_n 0, 1) := by decide +kernel
theorem dX2_sum_68 : decode cX2_sum 68 = .ok (.getfield 65, 3) := by decide +kernel
theorem dX2_sum_71 : decode cX2_sum 71 = .ok (.irem, 1) := by decide +kernel
theorem dX2_sum_72 : decode cX2_sum 72 = .ok (.iastore, 1) := by decide +kernel
theorem dX2_sum_73 : decode cX2_sum 73 = .ok (.return_, 1) := by decide +kernel
theorem dX2_modulo_0 : decode cX2_modulo 0 = .ok (.lload_n 1, 1) := by decide +kernel
theorem dX2_modulo_1 : decode cX2_modulo 1 = .ok (.aload_n 0, 1) := by decide +kernel
theorem dX2_modulo_2 : decode cX2_modulo 2 = .ok (.getfield 65, 3) := by decide +kernel
theorem dX2_modulo_5 : decode cX2_modulo 5 = .ok (.i2l, 1) := by decide +kernel
theorem dX2_modulo_6 : decode cX2_modulo 6 = .ok (.lrem, 1) := by decide +kernel
theorem dX2_modulo_7 : decode cX2_modulo 7 = .ok (.lstore_n 3, 1) := by decide +kernel
theorem dX2_modulo_8 : decode cX2_modulo 8 = .ok (.lload_n 3, 1) := by decide +kernel
theorem dX2_modulo_9 : decode cX2_modulo 9 = .ok (.lconst 0, 1) := by decide +kernel
theorem dX2_modulo_10 : decode cX2_modulo 10 = .ok (.lcmp, 1) := by decide +kernel
theorem dX2_modulo_11 : decode cX2_modulo 11 = .ok (.ifCond .ge 13, 3) := by decide +kernel
theorem dX2_modulo_14 : decode cX2_modulo 14 = .ok (.lload_n 3, 1) := by decide +kernel
theorem dX2_modulo_15 : decode cX2_modulo 15 = .ok (.aload_n 0, 1) := by decide +kernel
theorem dX2_modulo_16 : decode cX2_modulo 16 = .ok (.getfield 65, 3) := by decide +kernel
theorem dX2_modulo_19 : decode cX2_modulo 19 = .ok (.i2l, 1) := by decide +kernel
theorem dX2_modulo_20 : decode cX2_modulo 20 = .ok (.ladd, 1) := by decide +kernel
theorem dX2_modulo_21 : decode cX2_modulo 21 = .ok (.goto 4, 3) := by decide +kernel
theorem dX2_modulo_24 : decode cX2_modulo 24 = .ok (.lload_n 3, 1) := by decide +kernel
theorem dX2_modulo_25 : decode cX2_modulo 25 = .ok (.l2i, 1) := by decide +kernel
theorem dX2_modulo_26 : decode cX2_modulo 26 = .ok (.ireturn, 1) := by decide +kernel
theorem dX2_times_0 : decode cX2_times 0 = .ok (.aload_n 0, 1) := by decide +kernel
theorem dX2_times_1 : decode cX2_times 1 = .ok (.aload_n 0, 1) := by decide +kernel
theorem dX2_times_2 : decode cX2_times 2 = .ok (.getfield 65, 3) := by decide +kernel
theorem dX2_times_5 : decode cX2_times 5 = .ok (.ifCond .ne 7, 3) := by decide +kernel
theorem dX2_times_8 : decode cX2_times 8 = .ok (.iconst 1, 1) := by decide +kernel
theorem dX2_times_9 : decode cX2_times 9 = .ok (.goto 4, 3) := by decide +kernel
theorem dX2_times_12 : decode cX2_times 12 = .ok (.iconst 0, 1) := by decide +kernel
theorem dX2_times_13 : decode cX2_times 13 = .ok (.aload_n 0, 1) := by decide +kernel
theorem dX2_times_14 : decode cX2_times 14 = .ok (.iload_n 1, 1) := by decide +kernel
theorem dX2_times_15 : decode cX2_times 15 = .ok (.invokevirtual 81, 3) := by decide +kernel
theorem dX2_times_18 : decode cX2_times 18 = .ok (.ifCond .ne 11, 3) := by decide +kernel
theorem dX2_times_21 : decode cX2_times 21 = .ok (.aload_n 0, 1) := by decide +kernel
theorem dX2_times_22 : decode cX2_times 22 = .ok (.iload_n 3, 1) := by decide +kernel
theorem dX2_times_23 : decode cX2_times 23 = .ok (.invokevirtual 81, 3) := by decide +kernel
theorem dX2_times_26 : decode cX2_times 26 = .ok (.ifCond .eq 7, 3) := by decide +kernel
theorem dX2_times_29 : decode cX2_times 29 = .ok (.iconst 1, 1) := by decide +kernel
theorem dX2_times_30 : decode cX2_times 30 = .ok (.goto 4, 3) := by decide +kernel
theorem dX2_times_33 : decode cX2_times 33 = .ok (.iconst 0, 1) := by decide +kernel
theorem dX2_times_34 : decode cX2_times 34 = .ok (.iconst 0, 1) := by decide +kernel
theorem dX2_times_35 : decode cX2_times 35 = .ok (.invokevirtual 58, 3) := by decide +kernel
theorem dX2_times_38 : decode cX2_times 38 = .ok (.ifCond .eq 27, 3) := by decide +kernel
theorem dX2_times_41 : decode cX2_times 41 = .ok (.aload_n 0, 1) := by decide +kernel
theorem dX2_times_42 : decode cX2_times 42 = .ok (.getfield 16, 3) := by decide +kernel
theorem dX2_times_45 : decode cX2_times 45 = .ok (.iload_n 1, 1) := by decide +kernel
theorem dX2_times_46 : decode cX2_times 46 = .ok (.aload_n 0, 1) := by decide +kernel
theorem dX2_times_47 : decode cX2_times 47 = .ok (.iload_n 2, 1) := by decide +kernel
theorem dX2_times_48 : decode cX2_times 48 = .ok (.i2l, 1) := by decide +kernel
theorem dX2_times_49 : decode cX2_times 49 = .ok (.invokevirtual 84, 3) := by decide +kernel
theorem dX2_times_52 : decode cX2_times 52 = .ok (.aload_n 0, 1) := by decide +kernel
theorem dX2_times_53 : decode cX2_times 53 = .ok (.getfield 16, 3) := by decide +kernel
theorem dX2_times_56 : decode cX2_times 56 = .ok (.iload_n 3, 1) := by decide +kernel
theorem dX2_times_57 : decode cX2_times 57 = .ok (.iaload, 1) := by decide +kernel
theorem dX2_times_58 : decode cX2_times 58 = .ok (.imul, 1) := by decide +kernel
theorem dX2_times_59 : decode cX2_times 59 = .ok (.aload_n 0, 1) := by decide +kernel
theorem dX2_times_60 : decode cX2_times 60 = .ok (.getfield 65, 3) := by decide +kernel
theorem dX2_times_63 : decode cX2_times 63 = .ok (.irem, 1) := by decide +kernel
theorem dX2_times_64 : decode cX2_times 64 = .ok (.iastore, 1) := by decide +kernel
theorem dX2_times_65 : decode cX2_times 65 = .ok (.return_, 1) := by decide +kernel
theorem dX2_x_0 : decode cX2_x 0 = .ok (.aload_n 0, 1) := by decide +kernel
theorem dX2_x_1 : decode cX2_x 1 = .ok (.aload_n 0, 1) := by decide +kernel
theorem dX2_x_2 : decode cX2_x 2 = .ok (.iload_n 1, 1) := by decide +kernel
theorem dX2_x_3 : decode cX2_x 3 = .ok (.invokevirtual 81, 3) := by decide +kernel
theorem dX2_x_6 : decode cX2_x 6 = .ok (.iconst 0, 1) := by decide +kernel
theorem dX2_x_7 : decode cX2_x 7 = .ok (.iconst 0, 1) := by decide +kernel
theorem dX2_x_8 : decode cX2_x 8 = .ok (.invokevirtual 58, 3) := by decide +kernel
theorem dX2_x_11 : decode cX2_x 11 = .ok (.ifCond .ne 5, 3) := by decide +kernel
theorem dX2_x_14 : decode cX2_x 14 = .ok (.iconst 0, 1) := by decide +kernel
theorem dX2_x_15 : decode cX2_x 15 = .ok (.ireturn, 1) := by decide +kernel
theorem dX2_x_16 : decode cX2_x 16 = .ok (.aload_n 0, 1) := by decide +kernel
theorem dX2_x_17 : decode cX2_x 17 = .ok (.getfield 16, 3) := by decide +kernel
theorem dX2_x_20 : decode cX2_x 20 = .ok (.iload_n 1, 1) := by decide +kernel
theorem dX2_x_21 : decode cX2_x 21 = .ok (.iaload, 1) := by decide +kernel
theorem dX2_x_22 : decode cX2_x 22 = .ok (.ifCond .ne 7, 3) := by decide +kernel
theorem dX2_x_25 : decode cX2_x 25 = .ok (.iconst (-1), 1) := by decide +kernel
theorem dX2_x_26 : decode cX2_x 26 = .ok (.goto 14, 3) := by decide +kernel
theorem dX2_x_29 : decode cX2_x 29 = .ok (.aload_n 0, 1) := by decide +kernel
theorem dX2_x_30 : decode cX2_x 30 = .ok (.getfield 7, 3) := by decide +kernel
theorem dX2_x_33 : decode cX2_x 33 = .ok (.aload_n 0, 1) := by decide +kernel
theorem dX2_x_34 : decode cX2_x 34 = .ok (.getfield 16, 3) := by decide +kernel
theorem dX2_x_37 : decode cX2_x 37 = .ok (.iload_n 1, 1) := by decide +kernel
theorem dX2_x_38 : decode cX2_x 38 = .ok (.iaload, 1) := by decide +kernel
theorem dX2_x_39 : decode cX2_x 39 = .ok (.iaload, 1) := by decide +kernel
theorem dX2_x_40 : decode cX2_x 40 = .ok (.ireturn, 1) := by decide +kernel
theorem dX2_y_0 : decode cX2_y 0 = .ok (.aload_n 0, 1) := by decide +kernel
theorem dX2_y_1 : decode cX2_y 1 = .ok (.aload_n 0, 1) := by decide +kernel
theorem dX2_y_2 : decode cX2_y 2 = .ok (.iload_n 1, 1) := by decide +kernel
theorem dX2_y_3 : decode cX2_y 3 = .ok (.invokevirtual 81, 3) := by decide +kernel
theorem dX2_y_6 : decode cX2_y 6 = .ok (.iconst 0, 1) := by decide +kernel
theorem dX2_y_7 : decode cX2_y 7 = .ok (.iconst 0, 1) := by decide +kernel
theorem dX2_y_8 : decode cX2_y 8 = .ok (.invokevirtual 58, 3) := by decide +kernel
theorem dX2_y_11 : decode cX2_y 11 = .ok (.ifCond .ne 5, 3) := by decide +kernel
theorem dX2_y_14 : decode cX2_y 14 = .ok (.iconst 0, 1) := by decide +kernel
theorem dX2_y_15 : decode cX2_y 15 = .ok (.ireturn, 1) := by decide +kernel
theorem dX2_y_16 : decode cX2_y 16 = .ok (.aload_n 0, 1) := by decide +kernel
theorem dX2_y_17 : decode cX2_y 17 = .ok (.getfield 16, 3) := by decide +kernel
theorem dX2_y_20 : decode cX2_y 20 = .ok (.iload_n 1, 1) := by decide +kernel
theorem dX2_y_21 : decode cX2_y 21 = .ok (.iaload, 1) := by decide +kernel
theorem dX2_y_22 : decode cX2_y 22 = .ok (.ifCond .ne 7, 3) := by decide +kernel
theorem dX2_y_25 : decode cX2_y 25 = .ok (.iconst (-1), 1) := by decide +kernel
theorem dX2_y_26 : decode cX2_y 26 = .ok (.goto 14, 3) := by decide +kernel
theorem dX2_y_29 : decode cX2_y 29 = .ok (.aload_n 0, 1) := by decide +kernel
theorem dX2_y_30 : decode cX2_y 30 = .ok (.getfield 13, 3) := by decide +kernel
theorem dX2_y_33 : decode cX2_y 33 = .ok (.aload_n 0, 1) := by decide +kernel
theorem dX2_y_34 : decode cX2_y 34 = .ok (.getfield 16, 3) := by decide +kernel
theorem dX2_y_37 : decode cX2_y 37 = .ok (.iload_n 1, 1) := by decide +kernel
theorem dX2_y_38 : decode cX2_y 38 = .ok (.iaload, 1) := by decide +kernel
theorem dX2_y_39 : decode cX2_y 39 = .ok (.iaload, 1) := by decide +kernel
theorem dX2_y_40 : decode cX2_y 40 = .ok (.ireturn, 1) := by decide +kernel
theorem dX2_bytesOf_0 : decode cX2_bytesOf 0 = .ok (.iload_n 1, 1) := by decide +kernel
theorem dX2_bytesOf_1 : decode cX2_bytesOf 1 = .ok (.ifCond .ne 5, 3) := by decide +kernel
theorem dX2_bytesOf_4 : decode cX2_bytesOf 4 = .ok (.lconst 0, 1) := by decide +kernel
theorem dX2_bytesOf_5 : decode cX2_bytesOf 5 = .ok (.lreturn, 1) := by decide +kernel
theorem dX2_bytesOf_6 : decode cX2_bytesOf 6 = .ok (.iload_n 2, 1) := by decide +kernel
theorem dX2_bytesOf_7 : decode cX2_bytesOf 7 = .ok (.ifCond .eq 29, 3) := by decide +kernel
theorem dX2_bytesOf_10 : decode cX2_bytesOf 10 = .ok (.ldc2_w 88, 3) := by decide +kernel
theorem dX2_bytesOf_13 : decode cX2_bytesOf 13 = .ok (.aload_n 0, 1) := by decide +kernel
theorem dX2_bytesOf_14 : decode cX2_bytesOf 14 = .ok (.getfield 13, 3) := by decide +kernel
theorem dX2_bytesOf_17 : decode cX2_bytesOf 17 = .ok (.iload_n 1, 1) := by decide +kernel
theorem dX2_bytesOf_18 : decode cX2_bytesOf 18 = .ok (.iaload, 1) := by decide +kernel
theorem dX2_bytesOf_19 : decode cX2_bytesOf 19 = .ok (.iconst 2, 1) := by decide +kernel
theorem dX2_bytesOf_20 : decode cX2_bytesOf 20 = .ok (.irem, 1) := by decide +kernel
theorem dX2_bytesOf_21 : decode cX2_bytesOf 21 = .ok (.i2l, 1) := by decide +kernel
theorem dX2_bytesOf_22 : decode cX2_bytesOf 22 = .ok (.ladd, 1) := by decide +kernel
theorem dX2_bytesOf_23 : decode cX2_bytesOf 23 = .ok (.ldc2_w 90, 3) := by decide +kernel
theorem dX2_bytesOf_26 : decode cX2_bytesOf 26 = .ok (.lmul, 1) := by decide +kernel
theorem dX2_bytesOf_27 : decode cX2_bytesOf 27 = .ok (.aload_n 0, 1) := by decide +kernel
theorem dX2_bytesOf_28 : decode cX2_bytesOf 28 = .ok (.getfield 7, 3) := by decide +kernel
theorem dX2_bytesOf_31 : decode cX2_bytesOf 31 = .ok (.iload_n 1, 1) := by decide +kernel
theorem dX2_bytesOf_32 : decode cX2_bytesOf 32 = .ok (.iaload, 1) := by decide +kernel
theorem dX2_bytesOf_33 : decode cX2_bytesOf 33 = .ok (.i2l, 1) := by decide +kernel
theorem dX2_bytesOf_34 : decode cX2_bytesOf 34 = .ok (.ladd, 1) := by decide +kernel
theorem dX2_bytesOf_35 : decode cX2_bytesOf 35 = .ok (.lreturn, 1) := by decide +kernel
theorem dX2_bytesOf_36 : decode cX2_bytesOf 36 = .ok (.ldc2_w 92, 3) := by decide +kernel
theorem dX2_bytesOf_39 : decode cX2_bytesOf 39 = .ok (.aload_n 0, 1) := by decide +kernel
theorem dX2_bytesOf_40 : decode cX2_bytesOf 40 = .ok (.getfield 7, 3) := by decide +kernel
theorem dX2_bytesOf_43 : decode cX2_bytesOf 43 = .ok (.iload_n 1, 1) := by decide +kernel
theorem dX2_bytesOf_44 : decode cX2_bytesOf 44 = .ok (.iaload, 1) := by decide +kernel
theorem dX2_bytesOf_45 : decode cX2_bytesOf 45 = .ok (.i2l, 1) := by decide +kernel
theorem dX2_bytesOf_46 : decode cX2_bytesOf 46 = .ok (.ldc2_w 90, 3) := by decide +kernel
theorem dX2_bytesOf_49 : decode cX2_bytesOf 49 = .ok (.lmul, 1) := by decide +kernel
theorem dX2_bytesOf_50 : decode cX2_bytesOf 50 = .ok (.ladd, 1) := by decide +kernel
theorem dX2_bytesOf_51 : decode cX2_bytesOf 51 = .ok (.aload_n 0, 1) := by decide +kernel
theorem dX2_bytesOf_52 : decode cX2_bytesOf 52 = .ok (.getfield 13, 3) := by decide +kernel
theorem dX2_bytesOf_55 : decode cX2_bytesOf 55 = .ok (.iload_n 1, 1) := by decide +kernel
theorem dX2_bytesOf_56 : decode cX2_bytesOf 56 = .ok (.iaload, 1) := by decide +kernel
theorem dX2_bytesOf_57 : decode cX2_bytesOf 57 = .ok (.i2l, 1) := by decide +kernel
theorem dX2_bytesOf_58 : decode cX2_bytesOf 58 = .ok (.ladd, 1) := by decide +kernel
theorem dX2_bytesOf_59 : decode cX2_bytesOf 59 = .ok (.lreturn, 1) := by decide +kernel
theorem dX2_read_0 : decode cX2_read 0 = .ok (.iload_n 1, 1) := by decide +kernel
theorem dX2_read_1 : decode cX2_read 1 = .ok (.iconst 1, 1) := by decide +kernel
theorem dX2_read_2 : decode cX2_read 2 = .ok (.if_icmp .ne 15, 3) := by decide +kernel
theorem dX2_read_5 : decode cX2_read 5 = .ok (.lload_n 2, 1) := by decide +kernel
theorem dX2_read_6 : decode cX2_read 6 = .ok (.lconst 0, 1) := by decide +kernel
theorem dX2_read_7 : decode cX2_read 7 = .ok (.lcmp, 1) := by decide +kernel
theorem dX2_read_8 : decode cX2_read 8 = .ok (.ifCond .ne 7, 3) := by decide +kernel
theorem dX2_read_11 : decode cX2_read 11 = .ok (.iconst 0, 1) := by decide +kernel
theorem dX2_read_12 : decode cX2_read 12 = .ok (.goto 4, 3) := by decide +kernel
theorem dX2_read_15 : decode cX2_read 15 = .ok (.iconst (-1), 1) := by decide +kernel
theorem dX2_read_16 : decode cX2_read 16 = .ok (.ireturn, 1) := by decide +kernel
theorem dX2_read_17 : decode cX2_read 17 = .ok (.iconst (-1), 1) := by decide +kernel
theorem dX2_read_18 : decode cX2_read 18 = .ok (.istore 4, 2) := by decide +kernel
theorem dX2_read_20 : decode cX2_read 20 = .ok (.iconst 1, 1) := by decide +kernel
theorem dX2_read_21 : decode cX2_read 21 = .ok (.istore 5, 2) := by decide +kernel
theorem dX2_read_23 : decode cX2_read 23 = .ok (.iload 5, 2) := by decide +kernel
theorem dX2_read_25 : decode cX2_read 25 = .ok (.aload_n 0, 1) := by decide +kernel
theorem dX2_read_26 : decode cX2_read 26 = .ok (.getfield 65, 3) := by decide +kernel
theorem dX2_read_29 : decode cX2_read 29 = .ok (.if_icmp .ge 64, 3) := by decide +kernel
theorem dX2_read_32 : decode cX2_read 32 = .ok (.iload_n 1, 1) := by decide +kernel
theorem dX2_read_33 : decode cX2_read 33 = .ok (.iconst 3, 1) := by decide +kernel
theorem dX2_read_34 : decode cX2_read 34 = .ok (.if_icmp .ne 15, 3) := by decide +kernel
theorem dX2_read_37 : decode cX2_read 37 = .ok (.aload_n 0, 1) := by decide +kernel
theorem dX2_read_38 : decode cX2_read 38 = .ok (.iload 5, 2) := by decide +kernel
theorem dX2_read_40 : decode cX2_read 40 = .ok (.iconst 1, 1) := by decide +kernel
theorem dX2_read_41 : decode cX2_read 41 = .ok (.invokevirtual 94, 3) := by decide +kernel
theorem dX2_read_44 : decode cX2_read 44 = .ok (.lload_n 2, 1) := by decide +kernel
theorem dX2_read_45 : decode cX2_read 45 = .ok (.lcmp, 1) := by decide +kernel
theorem dX2_read_46 : decode cX2_read 46 = .ok (.ifCond .eq 20, 3) := by decide +kernel
theorem dX2_read_49 : decode cX2_read 49 = .ok (.iload_n 1, 1) := by decide +kernel
theorem dX2_read_50 : decode cX2_read 50 = .ok (.iconst 5, 1) := by decide +kernel
theorem dX2_read_51 : decode cX2_read 51 = .ok (.if_icmp .ne 19, 3) := by decide +kernel
theorem dX2_read_54 : decode cX2_read 54 = .ok (.aload_n 0, 1) := by decide +kernel
theorem dX2_read_55 : decode cX2_read 55 = .ok (.iload 5, 2) := by decide +kernel
theorem dX2_read_57 : decode cX2_read 57 = .ok (.iconst 0, 1) := by decide +kernel
theorem dX2_read_58 : decode cX2_read 58 = .ok (.invokevirtual 94, 3) := by decide +kernel
theorem dX2_read_61 : decode cX2_read 61 = .ok (.lload_n 2, 1) := by decide +kernel
theorem dX2_read_62 : decode cX2_read 62 = .ok (.lcmp, 1) := by decide +kernel
theorem dX2_read_63 : decode cX2_read 63 = .ok (.ifCond .ne 7, 3) := by decide +kernel
theorem dX2_read_66 : decode cX2_read 66 = .ok (.iconst 1, 1) := by decide +kernel
theorem dX2_read_67 : decode cX2_read 67 = .ok (.goto 4, 3) := by decide +kernel
theorem dX2_read_70 : decode cX2_read 70 = .ok (.iconst 0, 1) := by decide +kernel
theorem dX2_read_71 : decode cX2_read 71 = .ok (.istore 6, 2) := by decide +kernel
theorem dX2_read_73 : decode cX2_read 73 = .ok (.iload 6, 2) := by decide +kernel
theorem dX2_read_75 : decode cX2_read 75 = .ok (.ifCond .eq 8, 3) := by decide +kernel
theorem dX2_read_78 : decode cX2_read 78 = .ok (.iload 5, 2) := by decide +kernel
theorem dX2_read_80 : decode cX2_read 80 = .ok (.goto 5, 3) := by decide +kernel
theorem dX2_read_83 : decode cX2_read 83 = .ok (.iload 4, 2) := by decide +kernel
theorem dX2_read_85 : decode cX2_read 85 = .ok (.istore 4, 2) := by decide +kernel
theorem dX2_read_87 : decode cX2_read 87 = .ok (.iinc 5 1, 3) := by decide +kernel
theorem dX2_read_90 : decode cX2_read 90 = .ok (.goto (-67), 3) := by decide +kernel
theorem dX2_read_93 : decode cX2_read 93 = .ok (.iload 4, 2) := by decide +kernel
theorem dX2_read_95 : decode cX2_read 95 = .ok (.ireturn, 1) := by decide +kernel
theorem dX2_code_0 : decode cX2_code 0 = .ok (.aload_n 0, 1) := by decide +kernel
theorem dX2_code_1 : decode cX2_code 1 = .ok (.aload_n 0, 1) := by decide +kernel
theorem dX2_code_2 : decode cX2_code 2 = .ok (.iload_n 1, 1) := by decide +kernel
theorem dX2_code_3 : decode cX2_code 3 = .ok (.invokevirtual 81, 3) := by decide +kernel
theorem dX2_code_6 : decode cX2_code 6 = .ok (.iconst 0, 1) := by decide +kernel
theorem dX2_code_7 : decode cX2_code 7 = .ok (.iconst 0, 1) := by decide +kernel
theorem dX2_code_8 : decode cX2_code 8 = .ok (.invokevirtual 58, 3) := by decide +kernel
theorem dX2_code_11 : decode cX2_code 11 = .ok (.ifCond .ne 5, 3) := by decide +kernel
theorem dX2_code_14 : decode cX2_code 14 = .ok (.lconst 0, 1) := by decide +kernel
theorem dX2_code_15 : decode cX2_code 15 = .ok (.lreturn, 1) := by decide +kernel
theorem dX2_code_16 : decode cX2_code 16 = .ok (.aload_n 0, 1) := by decide +kernel
theorem dX2_code_17 : decode cX2_code 17 = .ok (.aload_n 0, 1) := by decide +kernel
theorem dX2_code_18 : decode cX2_code 18 = .ok (.getfield 16, 3) := by decide +kernel
theorem dX2_code_21 : decode cX2_code 21 = .ok (.iload_n 1, 1) := by decide +kernel
theorem dX2_code_22 : decode cX2_code 22 = .ok (.iaload, 1) := by decide +kernel
theorem dX2_code_23 : decode cX2_code 23 = .ok (.iload_n 2, 1) := by decide +kernel
theorem dX2_code_24 : decode cX2_code 24 = .ok (.invokevirtual 94, 3) := by decide +kernel
theorem dX2_code_27 : decode cX2_code 27 = .ok (.lreturn, 1) := by decide +kernel
theorem dX2_decode_0 : decode cX2_decode 0 = .ok (.aload_n 0, 1) := by decide +kernel
theorem dX2_decode_1 : decode cX2_decode 1 = .ok (.iload_n 2, 1) := by decide +kernel
theorem dX2_decode_2 : decode cX2_decode 2 = .ok (.lload_n 3, 1) := by decide +kernel
theorem dX2_decode_3 : decode cX2_decode 3 = .ok (.invokevirtual 98, 3) := by decide +kernel
theorem dX2_decode_6 : decode cX2_decode 6 = .ok (.istore 5, 2) := by decide +kernel
theorem dX2_decode_8 : decode cX2_decode 8 = .ok (.aload_n 0, 1) := by decide +kernel
theorem dX2_decode_9 : decode cX2_decode 9 = .ok (.aload_n 0, 1) := by decide +kernel
theorem dX2_decode_10 : decode cX2_decode 10 = .ok (.getfield 65, 3) := by decide +kernel
theorem dX2_decode_13 : decode cX2_decode 13 = .ok (.ifCond .ne 7, 3) := by decide +kernel
theorem dX2_decode_16 : decode cX2_decode 16 = .ok (.iconst 1, 1) := by decide +kernel
theorem dX2_decode_17 : decode cX2_decode 17 = .ok (.goto 4, 3) := by decide +kernel
theorem dX2_decode_20 : decode cX2_decode 20 = .ok (.iconst 0, 1) := by decide +kernel
theorem dX2_decode_21 : decode cX2_decode 21 = .ok (.aload_n 0, 1) := by decide +kernel
theorem dX2_decode_22 : decode cX2_decode 22 = .ok (.iload_n 1, 1) := by decide +kernel
theorem dX2_decode_23 : decode cX2_decode 23 = .ok (.invokevirtual 81, 3) := by decide +kernel
theorem dX2_decode_26 : decode cX2_decode 26 = .ok (.iload 5, 2) := by decide +kernel
theorem dX2_decode_28 : decode cX2_decode 28 = .ok (.ifCond .ge 7, 3) := by decide +kernel
theorem dX2_decode_31 : decode cX2_decode 31 = .ok (.iconst 1, 1) := by decide +kernel
theorem dX2_decode_32 : decode cX2_decode 32 = .ok (.goto 4, 3) := by decide +kernel
theorem dX2_decode_35 : decode cX2_decode 35 = .ok (.iconst 0, 1) := by decide +kernel
theorem dX2_decode_36 : decode cX2_decode 36 = .ok (.invokevirtual 58, 3) := by decide +kernel
theorem dX2_decode_39 : decode cX2_decode 39 = .ok (.ifCond .eq 11, 3) := by decide +kernel
theorem dX2_decode_42 : decode cX2_decode 42 = .ok (.aload_n 0, 1) := by decide +kernel
theorem dX2_decode_43 : decode cX2_decode 43 = .ok (.getfield 16, 3) := by decide +kernel
theorem dX2_decode_46 : decode cX2_decode 46 = .ok (.iload_n 1, 1) := by decide +kernel
theorem dX2_decode_47 : decode cX2_decode 47 = .ok (.iload 5, 2) := by decide +kernel
theorem dX2_decode_49 : decode cX2_decode 49 = .ok (.iastore, 1) := by decide +kernel
theorem dX2_decode_50 : decode cX2_decode 50 = .ok (.return_, 1) := by decide +kernel
theorem dX2_key_0 : decode cX2_key 0 = .ok (.aload_n 0, 1) := by decide +kernel
theorem dX2_key_1 : decode cX2_key 1 = .ok (.aload_n 0, 1) := by decide +kernel
theorem dX2_key_2 : decode cX2_key 2 = .ok (.getfield 65, 3) := by decide +kernel
theorem dX2_key_5 : decode cX2_key 5 = .ok (.ifCond .ne 7, 3) := by decide +kernel
theorem dX2_key_8 : decode cX2_key 8 = .ok (.iconst 1, 1) := by decide +kernel
theorem dX2_key_9 : decode cX2_key 9 = .ok (.goto 4, 3) := by decide +kernel
theorem dX2_key_12 : decode cX2_key 12 = .ok (.iconst 0, 1) := by decide +kernel
theorem dX2_key_13 : decode cX2_key 13 = .ok (.aload_n 0, 1) := by decide +kernel
theorem dX2_key_14 : decode cX2_key 14 = .ok (.iload_n 1, 1) := by decide +kernel
theorem dX2_key_15 : decode cX2_key 15 = .ok (.invokevirtual 81, 3) := by decide +kernel
theorem dX2_key_18 : decode cX2_key 18 = .ok (.iload_n 2, 1) := by decide +kernel
theorem dX2_key_19 : decode cX2_key 19 = .ok (.iconst 1, 1) := by decide +kernel
theorem dX2_key_20 : decode cX2_key 20 = .ok (.if_icmp .lt 11, 3) := by decide +kernel
theorem dX2_key_23 : decode cX2_key 23 = .ok (.iload_n 2, 1) := by decide +kernel
theorem dX2_key_24 : decode cX2_key 24 = .ok (.aload_n 0, 1) := by decide +kernel
theorem dX2_key_25 : decode cX2_key 25 = .ok (.getfield 65, 3) := by decide +kernel
theorem dX2_key_28 : decode cX2_key 28 = .ok (.if_icmp .lt 7, 3) := by decide +kernel
theorem dX2_key_31 : decode cX2_key 31 = .ok (.iconst 1, 1) := by decide +kernel
theorem dX2_key_32 : decode cX2_key 32 = .ok (.goto 4, 3) := by decide +kernel
theorem dX2_key_35 : decode cX2_key 35 = .ok (.iconst 0, 1) := by decide +kernel
theorem dX2_key_36 : decode cX2_key 36 = .ok (.invokevirtual 58, 3) := by decide +kernel
theorem dX2_key_39 : decode cX2_key 39 = .ok (.ifCond .eq 15, 3) := by decide +kernel
theorem dX2_key_42 : decode cX2_key 42 = .ok (.aload_n 0, 1) := by decide +kernel
theorem dX2_key_43 : decode cX2_key 43 = .ok (.iload_n 2, 1) := by decide +kernel
theorem dX2_key_44 : decode cX2_key 44 = .ok (.putfield 68, 3) := by decide +kernel
theorem dX2_key_47 : decode cX2_key 47 = .ok (.aload_n 0, 1) := by decide +kernel
theorem dX2_key_48 : decode cX2_key 48 = .ok (.getfield 16, 3) := by decide +kernel
theorem dX2_key_51 : decode cX2_key 51 = .ok (.iload_n 1, 1) := by decide +kernel
theorem dX2_key_52 : decode cX2_key 52 = .ok (.iload_n 2, 1) := by decide +kernel
theorem dX2_key_53 : decode cX2_key 53 = .ok (.iastore, 1) := by decide +kernel
theorem dX2_key_54 : decode cX2_key 54 = .ok (.return_, 1) := by decide +kernel
theorem dX2_mix_0 : decode cX2_mix 0 = .ok (.iload_n 1, 1) := by decide +kernel
theorem dX2_mix_1 : decode cX2_mix 1 = .ok (.iload_n 2, 1) := by decide +kernel
theorem dX2_mix_2 : decode cX2_mix 2 = .ok (.ixor, 1) := by decide +kernel
theorem dX2_mix_3 : decode cX2_mix 3 = .ok (.ldc 102, 2) := by decide +kernel
theorem dX2_mix_5 : decode cX2_mix 5 = .ok (.imul, 1) := by decide +kernel
theorem dX2_mix_6 : decode cX2_mix 6 = .ok (.iload_n 1, 1) := by decide +kernel
theorem dX2_mix_7 : decode cX2_mix 7 = .ok (.iadd, 1) := by decide +kernel
theorem dX2_mix_8 : decode cX2_mix 8 = .ok (.istore_n 3, 1) := by decide +kernel
theorem dX2_mix_9 : decode cX2_mix 9 = .ok (.iload_n 3, 1) := by decide +kernel
theorem dX2_mix_10 : decode cX2_mix 10 = .ok (.iload_n 3, 1) := by decide +kernel
theorem dX2_mix_11 : decode cX2_mix 11 = .ok (.bipush 7, 2) := by decide +kernel
theorem dX2_mix_13 : decode cX2_mix 13 = .ok (.ishl, 1) := by decide +kernel
theorem dX2_mix_14 : decode cX2_mix 14 = .ok (.iload_n 3, 1) := by decide +kernel
theorem dX2_mix_15 : decode cX2_mix 15 = .ok (.bipush 25, 2) := by decide +kernel
theorem dX2_mix_17 : decode cX2_mix 17 = .ok (.iushr, 1) := by decide +kernel
theorem dX2_mix_18 : decode cX2_mix 18 = .ok (.ior, 1) := by decide +kernel
theorem dX2_mix_19 : decode cX2_mix 19 = .ok (.iadd, 1) := by decide +kernel
theorem dX2_mix_20 : decode cX2_mix 20 = .ok (.ireturn, 1) := by decide +kernel
theorem dX2_stir_0 : decode cX2_stir 0 = .ok (.aload_n 0, 1) := by decide +kernel
theorem dX2_stir_1 : decode cX2_stir 1 = .ok (.aload_n 0, 1) := by decide +kernel
theorem dX2_stir_2 : decode cX2_stir 2 = .ok (.aload_n 0, 1) := by decide +kernel
theorem dX2_stir_3 : decode cX2_stir 3 = .ok (.getfield 103, 3) := by decide +kernel
theorem dX2_stir_6 : decode cX2_stir 6 = .ok (.iload_n 1, 1) := by decide +kernel
theorem dX2_stir_7 : decode cX2_stir 7 = .ok (.invokevirtual 106, 3) := by decide +kernel
theorem dX2_stir_10 : decode cX2_stir 10 = .ok (.putfield 103, 3) := by decide +kernel
theorem dX2_stir_13 : decode cX2_stir 13 = .ok (.aload_n 0, 1) := by decide +kernel
theorem dX2_stir_14 : decode cX2_stir 14 = .ok (.aload_n 0, 1) := by decide +kernel
theorem dX2_stir_15 : decode cX2_stir 15 = .ok (.aload_n 0, 1) := by decide +kernel
theorem dX2_stir_16 : decode cX2_stir 16 = .ok (.getfield 103, 3) := by decide +kernel
theorem dX2_stir_19 : decode cX2_stir 19 = .ok (.aload_n 0, 1) := by decide +kernel
theorem dX2_stir_20 : decode cX2_stir 20 = .ok (.getfield 109, 3) := by decide +kernel
theorem dX2_stir_23 : decode cX2_stir 23 = .ok (.invokevirtual 106, 3) := by decide +kernel
theorem dX2_stir_26 : decode cX2_stir 26 = .ok (.putfield 109, 3) := by decide +kernel
theorem dX2_stir_29 : decode cX2_stir 29 = .ok (.return_, 1) := by decide +kernel
theorem dX2_sign_0 : decode cX2_sign 0 = .ok (.aload_n 0, 1) := by decide +kernel
theorem dX2_sign_1 : decode cX2_sign 1 = .ok (.aload_n 0, 1) := by decide +kernel
theorem dX2_sign_2 : decode cX2_sign 2 = .ok (.getfield 65, 3) := by decide +kernel
theorem dX2_sign_5 : decode cX2_sign 5 = .ok (.ifCond .eq 10, 3) := by decide +kernel
theorem dX2_sign_8 : decode cX2_sign 8 = .ok (.aload_n 0, 1) := by decide +kernel
theorem dX2_sign_9 : decode cX2_sign 9 = .ok (.getfield 68, 3) := by decide +kernel
theorem dX2_sign_12 : decode cX2_sign 12 = .ok (.ifCond .ne 7, 3) := by decide +kernel
theorem dX2_sign_15 : decode cX2_sign 15 = .ok (.iconst 1, 1) := by decide +kernel
theorem dX2_sign_16 : decode cX2_sign 16 = .ok (.goto 4, 3) := by decide +kernel
theorem dX2_sign_19 : decode cX2_sign 19 = .ok (.iconst 0, 1) := by decide +kernel
theorem dX2_sign_20 : decode cX2_sign 20 = .ok (.iconst 0, 1) := by decide +kernel
theorem dX2_sign_21 : decode cX2_sign 21 = .ok (.iconst 0, 1) := by decide +kernel
theorem dX2_sign_22 : decode cX2_sign 22 = .ok (.invokevirtual 58, 3) := by decide +kernel
theorem dX2_sign_25 : decode cX2_sign 25 = .ok (.ifCond .ne 5, 3) := by decide +kernel
theorem dX2_sign_28 : decode cX2_sign 28 = .ok (.lconst 0, 1) := by decide +kernel
theorem dX2_sign_29 : decode cX2_sign 29 = .ok (.lreturn, 1) := by decide +kernel
theorem dX2_sign_30 : decode cX2_sign 30 = .ok (.aload_n 0, 1) := by decide +kernel
theorem dX2_sign_31 : decode cX2_sign 31 = .ok (.lload_n 1, 1) := by decide +kernel
theorem dX2_sign_32 : decode cX2_sign 32 = .ok (.invokevirtual 84, 3) := by decide +kernel
theorem dX2_sign_35 : decode cX2_sign 35 = .ok (.istore_n 3, 1) := by decide +kernel
theorem dX2_sign_36 : decode cX2_sign 36 = .ok (.iconst 1, 1) := by decide +kernel
theorem dX2_sign_37 : decode cX2_sign 37 = .ok (.istore 4, 2) := by decide +kernel
theorem dX2_sign_39 : decode cX2_sign 39 = .ok (.iload 4, 2) := by decide +kernel
theorem dX2_sign_41 : decode cX2_sign 41 = .ok (.aload_n 0, 1) := by decide +kernel
theorem dX2_sign_42 : decode cX2_sign 42 = .ok (.getfield 65, 3) := by decide +kernel
theorem dX2_sign_45 : decode cX2_sign 45 = .ok (.if_icmp .ge 14, 3) := by decide +kernel
theorem dX2_sign_48 : decode cX2_sign 48 = .ok (.iconst 2, 1) := by decide +kernel
theorem dX2_sign_49 : decode cX2_sign 49 = .ok (.iload 4, 2) := by decide +kernel
theorem dX2_sign_51 : decode cX2_sign 51 = .ok (.imul, 1) := by decide +kernel
theorem dX2_sign_52 : decode cX2_sign 52 = .ok (.iconst 1, 1) := by decide +kernel
theorem dX2_sign_53 : decode cX2_sign 53 = .ok (.iadd, 1) := by decide +kernel
theorem dX2_sign_54 : decode cX2_sign 54 = .ok (.istore 4, 2) := by decide +kernel
theorem dX2_sign_56 : decode cX2_sign 56 = .ok (.goto (-17), 3) := by decide +kernel
theorem dX2_sign_59 : decode cX2_sign 59 = .ok (.aload_n 0, 1) := by decide +kernel
theorem dX2_sign_60 : decode cX2_sign 60 = .ok (.iconst 0, 1) := by decide +kernel
theorem dX2_sign_61 : decode cX2_sign 61 = .ok (.putfield 103, 3) := by decide +kernel
theorem dX2_sign_64 : decode cX2_sign 64 = .ok (.aload_n 0, 1) := by decide +kernel
theorem dX2_sign_65 : decode cX2_sign 65 = .ok (.iconst 1, 1) := by decide +kernel
theorem dX2_sign_66 : decode cX2_sign 66 = .ok (.putfield 109, 3) := by decide +kernel
theorem dX2_sign_69 : decode cX2_sign 69 = .ok (.aload_n 0, 1) := by decide +kernel
theorem dX2_sign_70 : decode cX2_sign 70 = .ok (.aload_n 0, 1) := by decide +kernel
theorem dX2_sign_71 : decode cX2_sign 71 = .ok (.getfield 109, 3) := by decide +kernel
theorem dX2_sign_74 : decode cX2_sign 74 = .ok (.aload_n 0, 1) := by decide +kernel
theorem dX2_sign_75 : decode cX2_sign 75 = .ok (.getfield 68, 3) := by decide +kernel
theorem dX2_sign_78 : decode cX2_sign 78 = .ok (.iadd, 1) := by decide +kernel
theorem dX2_sign_79 : decode cX2_sign 79 = .ok (.invokevirtual 112, 3) := by decide +kernel
theorem dX2_sign_82 : decode cX2_sign 82 = .ok (.aload_n 0, 1) := by decide +kernel
theorem dX2_sign_83 : decode cX2_sign 83 = .ok (.aload_n 0, 1) := by decide +kernel
theorem dX2_sign_84 : decode cX2_sign 84 = .ok (.getfield 109, 3) := by decide +kernel
theorem dX2_sign_87 : decode cX2_sign 87 = .ok (.iload_n 3, 1) := by decide +kernel
theorem dX2_sign_88 : decode cX2_sign 88 = .ok (.ixor, 1) := by decide +kernel
theorem dX2_sign_89 : decode cX2_sign 89 = .ok (.invokevirtual 112, 3) := by decide +kernel
theorem dX2_sign_92 : decode cX2_sign 92 = .ok (.iconst 1, 1) := by decide +kernel
theorem dX2_sign_93 : decode cX2_sign 93 = .ok (.istore 5, 2) := by decide +kernel
theorem dX2_sign_95 : decode cX2_sign 95 = .ok (.iload 5, 2) := by decide +kernel
theorem dX2_sign_97 : decode cX2_sign 97 = .ok (.bipush 24, 2) := by decide +kernel
theorem dX2_sign_99 : decode cX2_sign 99 = .ok (.if_icmp .gt 133, 3) := by decide +kernel
theorem dX2_sign_102 : decode cX2_sign 102 = .ok (.aload_n 0, 1) := by decide +kernel
theorem dX2_sign_103 : decode cX2_sign 103 = .ok (.aload_n 0, 1) := by decide +kernel
theorem dX2_sign_104 : decode cX2_sign 104 = .ok (.aload_n 0, 1) := by decide +kernel
theorem dX2_sign_105 : decode cX2_sign 105 = .ok (.getfield 103, 3) := by decide +kernel
theorem dX2_sign_108 : decode cX2_sign 108 = .ok (.aload_n 0, 1) := by decide +kernel
theorem dX2_sign_109 : decode cX2_sign 109 = .ok (.getfield 109, 3) := by decide +kernel
theorem dX2_sign_112 : decode cX2_sign 112 = .ok (.invokevirtual 106, 3) := by decide +kernel
theorem dX2_sign_115 : decode cX2_sign 115 = .ok (.putfield 109, 3) := by decide +kernel
theorem dX2_sign_118 : decode cX2_sign 118 = .ok (.aload_n 0, 1) := by decide +kernel
theorem dX2_sign_119 : decode cX2_sign 119 = .ok (.getfield 109, 3) := by decide +kernel
theorem dX2_sign_122 : decode cX2_sign 122 = .ok (.iload 4, 2) := by decide +kernel
theorem dX2_sign_124 : decode cX2_sign 124 = .ok (.iand, 1) := by decide +kernel
theorem dX2_sign_125 : decode cX2_sign 125 = .ok (.istore 6, 2) := by decide +kernel
theorem dX2_sign_127 : decode cX2_sign 127 = .ok (.iload 6, 2) := by decide +kernel
theorem dX2_sign_129 : decode cX2_sign 129 = .ok (.iconst 1, 1) := by decide +kernel
theorem dX2_sign_130 : decode cX2_sign 130 = .ok (.if_icmp .lt 86, 3) := by decide +kernel
theorem dX2_sign_133 : decode cX2_sign 133 = .ok (.iload 6, 2) := by decide +kernel
theorem dX2_sign_135 : decode cX2_sign 135 = .ok (.aload_n 0, 1) := by decide +kernel
theorem dX2_sign_136 : decode cX2_sign 136 = .ok (.getfield 65, 3) := by decide +kernel
theorem dX2_sign_139 : decode cX2_sign 139 = .ok (.if_icmp .ge 77, 3) := by decide +kernel
theorem dX2_sign_142 : decode cX2_sign 142 = .ok (.aload_n 0, 1) := by decide +kernel
theorem dX2_sign_143 : decode cX2_sign 143 = .ok (.getfield 7, 3) := by decide +kernel
theorem dX2_sign_146 : decode cX2_sign 146 = .ok (.iload 6, 2) := by decide +kernel
theorem dX2_sign_148 : decode cX2_sign 148 = .ok (.iaload, 1) := by decide +kernel
theorem dX2_sign_149 : decode cX2_sign 149 = .ok (.aload_n 0, 1) := by decide +kernel
theorem dX2_sign_150 : decode cX2_sign 150 = .ok (.getfield 65, 3) := by decide +kernel
theorem dX2_sign_153 : decode cX2_sign 153 = .ok (.irem, 1) := by decide +kernel
theorem dX2_sign_154 : decode cX2_sign 154 = .ok (.istore 7, 2) := by decide +kernel
theorem dX2_sign_156 : decode cX2_sign 156 = .ok (.iload_n 3, 1) := by decide +kernel
theorem dX2_sign_157 : decode cX2_sign 157 = .ok (.iload 7, 2) := by decide +kernel
theorem dX2_sign_159 : decode cX2_sign 159 = .ok (.aload_n 0, 1) := by decide +kernel
theorem dX2_sign_160 : decode cX2_sign 160 = .ok (.getfield 68, 3) := by decide +kernel
theorem dX2_sign_163 : decode cX2_sign 163 = .ok (.imul, 1) := by decide +kernel
theorem dX2_sign_164 : decode cX2_sign 164 = .ok (.iadd, 1) := by decide +kernel
theorem dX2_sign_165 : decode cX2_sign 165 = .ok (.aload_n 0, 1) := by decide +kernel
theorem dX2_sign_166 : decode cX2_sign 166 = .ok (.getfield 65, 3) := by decide +kernel
theorem dX2_sign_169 : decode cX2_sign 169 = .ok (.irem, 1) := by decide +kernel
theorem dX2_sign_170 : decode cX2_sign 170 = .ok (.aload_n 0, 1) := by decide +kernel
theorem dX2_sign_171 : decode cX2_sign 171 = .ok (.iload 6, 2) := by decide +kernel
theorem dX2_sign_173 : decode cX2_sign 173 = .ok (.aload_n 0, 1) := by decide +kernel
theorem dX2_sign_174 : decode cX2_sign 174 = .ok (.getfield 65, 3) := by decide +kernel
theorem dX2_sign_177 : decode cX2_sign 177 = .ok (.invokevirtual 44, 3) := by decide +kernel
theorem dX2_sign_180 : decode cX2_sign 180 = .ok (.imul, 1) := by decide +kernel
theorem dX2_sign_181 : decode cX2_sign 181 = .ok (.aload_n 0, 1) := by decide +kernel
theorem dX2_sign_182 : decode cX2_sign 182 = .ok (.getfield 65, 3) := by decide +kernel
theorem dX2_sign_185 : decode cX2_sign 185 = .ok (.irem, 1) := by decide +kernel
theorem dX2_sign_186 : decode cX2_sign 186 = .ok (.istore 8, 2) := by decide +kernel
theorem dX2_sign_188 : decode cX2_sign 188 = .ok (.iload 7, 2) := by decide +kernel
theorem dX2_sign_190 : decode cX2_sign 190 = .ok (.ifCond .eq 26, 3) := by decide +kernel
theorem dX2_sign_193 : decode cX2_sign 193 = .ok (.iload 8, 2) := by decide +kernel
theorem dX2_sign_195 : decode cX2_sign 195 = .ok (.ifCond .eq 21, 3) := by decide +kernel
theorem dX2_sign_198 : decode cX2_sign 198 = .ok (.aload_n 0, 1) := by decide +kernel
theorem dX2_sign_199 : decode cX2_sign 199 = .ok (.iload 5, 2) := by decide +kernel
theorem dX2_sign_201 : decode cX2_sign 201 = .ok (.putfield 116, 3) := by decide +kernel
theorem dX2_sign_204 : decode cX2_sign 204 = .ok (.iload 7, 2) := by decide +kernel
theorem dX2_sign_206 : decode cX2_sign 206 = .ok (.i2l, 1) := by decide +kernel
theorem dX2_sign_207 : decode cX2_sign 207 = .ok (.ldc2_w 90, 3) := by decide +kernel
theorem dX2_sign_210 : decode cX2_sign 210 = .ok (.lmul, 1) := by decide +kernel
theorem dX2_sign_211 : decode cX2_sign 211 = .ok (.iload 8, 2) := by decide +kernel
theorem dX2_sign_213 : decode cX2_sign 213 = .ok (.i2l, 1) := by decide +kernel
theorem dX2_sign_214 : decode cX2_sign 214 = .ok (.ladd, 1) := by decide +kernel
theorem dX2_sign_215 : decode cX2_sign 215 = .ok (.lreturn, 1) := by decide +kernel
theorem dX2_sign_216 : decode cX2_sign 216 = .ok (.aload_n 0, 1) := by decide +kernel
theorem dX2_sign_217 : decode cX2_sign 217 = .ok (.aload_n 0, 1) := by decide +kernel
theorem dX2_sign_218 : decode cX2_sign 218 = .ok (.getfield 109, 3) := by decide +kernel
theorem dX2_sign_221 : decode cX2_sign 221 = .ok (.iconst 1, 1) := by decide +kernel
theorem dX2_sign_222 : decode cX2_sign 222 = .ok (.iadd, 1) := by decide +kernel
theorem dX2_sign_223 : decode cX2_sign 223 = .ok (.invokevirtual 112, 3) := by decide +kernel
theorem dX2_sign_226 : decode cX2_sign 226 = .ok (.iinc 5 1, 3) := by decide +kernel
theorem dX2_sign_229 : decode cX2_sign 229 = .ok (.goto (-134), 3) := by decide +kernel
theorem dX2_sign_232 : decode cX2_sign 232 = .ok (.aload_n 0, 1) := by decide +kernel
theorem dX2_sign_233 : decode cX2_sign 233 = .ok (.iconst 2, 1) := by decide +kernel
theorem dX2_sign_234 : decode cX2_sign 234 = .ok (.putfield 22, 3) := by decide +kernel
theorem dX2_sign_237 : decode cX2_sign 237 = .ok (.lconst 0, 1) := by decide +kernel
theorem dX2_sign_238 : decode cX2_sign 238 = .ok (.lreturn, 1) := by decide +kernel
theorem dX2_draws_0 : decode cX2_draws 0 = .ok (.aload_n 0, 1) := by decide +kernel
theorem dX2_draws_1 : decode cX2_draws 1 = .ok (.iconst 0, 1) := by decide +kernel
theorem dX2_draws_2 : decode cX2_draws 2 = .ok (.putfield 22, 3) := by decide +kernel
theorem dX2_draws_5 : decode cX2_draws 5 = .ok (.aload_n 0, 1) := by decide +kernel
theorem dX2_draws_6 : decode cX2_draws 6 = .ok (.getfield 116, 3) := by decide +kernel
theorem dX2_draws_9 : decode cX2_draws 9 = .ok (.ireturn, 1) := by decide +kernel
theorem dX2_fits_0 : decode cX2_fits 0 = .ok (.iload_n 1, 1) := by decide +kernel
theorem dX2_fits_1 : decode cX2_fits 1 = .ok (.ifCond .le 33, 3) := by decide +kernel
theorem dX2_fits_4 : decode cX2_fits 4 = .ok (.iload 4, 2) := by decide +kernel
theorem dX2_fits_6 : decode cX2_fits 6 = .ok (.iconst 1, 1) := by decide +kernel
theorem dX2_fits_7 : decode cX2_fits 7 = .ok (.if_icmp .lt 27, 3) := by decide +kernel
theorem dX2_fits_10 : decode cX2_fits 10 = .ok (.iload 4, 2) := by decide +kernel
theorem dX2_fits_12 : decode cX2_fits 12 = .ok (.aload_n 0, 1) := by decide +kernel
theorem dX2_fits_13 : decode cX2_fits 13 = .ok (.getfield 65, 3) := by decide +kernel
theorem dX2_fits_16 : decode cX2_fits 16 = .ok (.if_icmp .ge 18, 3) := by decide +kernel
theorem dX2_fits_19 : decode cX2_fits 19 = .ok (.iload 5, 2) := by decide +kernel
theorem dX2_fits_21 : decode cX2_fits 21 = .ok (.iconst 1, 1) := by decide +kernel
theorem dX2_fits_22 : decode cX2_fits 22 = .ok (.if_icmp .lt 12, 3) := by decide +kernel
theorem dX2_fits_25 : decode cX2_fits 25 = .ok (.iload 5, 2) := by decide +kernel
theorem dX2_fits_27 : decode cX2_fits 27 = .ok (.aload_n 0, 1) := by decide +kernel
theorem dX2_fits_28 : decode cX2_fits 28 = .ok (.getfield 65, 3) := by decide +kernel
theorem dX2_fits_31 : decode cX2_fits 31 = .ok (.if_icmp .lt 5, 3) := by decide +kernel
theorem dX2_fits_34 : decode cX2_fits 34 = .ok (.iconst 0, 1) := by decide +kernel
theorem dX2_fits_35 : decode cX2_fits 35 = .ok (.ireturn, 1) := by decide +kernel
theorem dX2_fits_36 : decode cX2_fits 36 = .ok (.aload_n 0, 1) := by decide +kernel
theorem dX2_fits_37 : decode cX2_fits 37 = .ok (.iload 5, 2) := by decide +kernel
theorem dX2_fits_39 : decode cX2_fits 39 = .ok (.aload_n 0, 1) := by decide +kernel
theorem dX2_fits_40 : decode cX2_fits 40 = .ok (.getfield 65, 3) := by decide +kernel
theorem dX2_fits_43 : decode cX2_fits 43 = .ok (.invokevirtual 44, 3) := by decide +kernel
theorem dX2_fits_46 : decode cX2_fits 46 = .ok (.istore 6, 2) := by decide +kernel
theorem dX2_fits_48 : decode cX2_fits 48 = .ok (.aload_n 0, 1) := by decide +kernel
theorem dX2_fits_49 : decode cX2_fits 49 = .ok (.lload_n 2, 1) := by decide +kernel
theorem dX2_fits_50 : decode cX2_fits 50 = .ok (.invokevirtual 84, 3) := by decide +kernel
theorem dX2_fits_53 : decode cX2_fits 53 = .ok (.iload 6, 2) := by decide +kernel
theorem dX2_fits_55 : decode cX2_fits 55 = .ok (.imul, 1) := by decide +kernel
theorem dX2_fits_56 : decode cX2_fits 56 = .ok (.iload 4, 2) := by decide +kernel
theorem dX2_fits_58 : decode cX2_fits 58 = .ok (.iload 6, 2) := by decide +kernel
theorem dX2_fits_60 : decode cX2_fits 60 = .ok (.imul, 1) := by decide +kernel
theorem dX2_fits_61 : decode cX2_fits 61 = .ok (.aload_n 0, 1) := by decide +kernel
theorem dX2_fits_62 : decode cX2_fits 62 = .ok (.getfield 65, 3) := by decide +kernel
theorem dX2_fits_65 : decode cX2_fits 65 = .ok (.irem, 1) := by decide +kernel
theorem dX2_fits_66 : decode cX2_fits 66 = .ok (.iload_n 1, 1) := by decide +kernel
theorem dX2_fits_67 : decode cX2_fits 67 = .ok (.imul, 1) := by decide +kernel
theorem dX2_fits_68 : decode cX2_fits 68 = .ok (.iadd, 1) := by decide +kernel
theorem dX2_fits_69 : decode cX2_fits 69 = .ok (.aload_n 0, 1) := by decide +kernel
theorem dX2_fits_70 : decode cX2_fits 70 = .ok (.getfield 65, 3) := by decide +kernel
theorem dX2_fits_73 : decode cX2_fits 73 = .ok (.irem, 1) := by decide +kernel
theorem dX2_fits_74 : decode cX2_fits 74 = .ok (.istore 7, 2) := by decide +kernel
theorem dX2_fits_76 : decode cX2_fits 76 = .ok (.iload 7, 2) := by decide +kernel
theorem dX2_fits_78 : decode cX2_fits 78 = .ok (.ifCond .eq 24, 3) := by decide +kernel
theorem dX2_fits_81 : decode cX2_fits 81 = .ok (.aload_n 0, 1) := by decide +kernel
theorem dX2_fits_82 : decode cX2_fits 82 = .ok (.getfield 7, 3) := by decide +kernel
theorem dX2_fits_85 : decode cX2_fits 85 = .ok (.iload 7, 2) := by decide +kernel
theorem dX2_fits_87 : decode cX2_fits 87 = .ok (.iaload, 1) := by decide +kernel
theorem dX2_fits_88 : decode cX2_fits 88 = .ok (.aload_n 0, 1) := by decide +kernel
theorem dX2_fits_89 : decode cX2_fits 89 = .ok (.getfield 65, 3) := by decide +kernel
theorem dX2_fits_92 : decode cX2_fits 92 = .ok (.irem, 1) := by decide +kernel
theorem dX2_fits_93 : decode cX2_fits 93 = .ok (.iload 4, 2) := by decide +kernel
theorem dX2_fits_95 : decode cX2_fits 95 = .ok (.if_icmp .ne 7, 3) := by decide +kernel
theorem dX2_fits_98 : decode cX2_fits 98 = .ok (.iconst 1, 1) := by decide +kernel
theorem dX2_fits_99 : decode cX2_fits 99 = .ok (.goto 4, 3) := by decide +kernel
theorem dX2_fits_102 : decode cX2_fits 102 = .ok (.iconst 0, 1) := by decide +kernel
theorem dX2_fits_103 : decode cX2_fits 103 = .ok (.ireturn, 1) := by decide +kernel
theorem dX2_verify_0 : decode cX2_verify 0 = .ok (.aload_n 0, 1) := by decide +kernel
theorem dX2_verify_1 : decode cX2_verify 1 = .ok (.aload_n 0, 1) := by decide +kernel
theorem dX2_verify_2 : decode cX2_verify 2 = .ok (.getfield 65, 3) := by decide +kernel
theorem dX2_verify_5 : decode cX2_verify 5 = .ok (.ifCond .ne 7, 3) := by decide +kernel
theorem dX2_verify_8 : decode cX2_verify 8 = .ok (.iconst 1, 1) := by decide +kernel
theorem dX2_verify_9 : decode cX2_verify 9 = .ok (.goto 4, 3) := by decide +kernel
theorem dX2_verify_12 : decode cX2_verify 12 = .ok (.iconst 0, 1) := by decide +kernel
theorem dX2_verify_13 : decode cX2_verify 13 = .ok (.aload_n 0, 1) := by decide +kernel
theorem dX2_verify_14 : decode cX2_verify 14 = .ok (.iload_n 1, 1) := by decide +kernel
theorem dX2_verify_15 : decode cX2_verify 15 = .ok (.invokevirtual 81, 3) := by decide +kernel
theorem dX2_verify_18 : decode cX2_verify 18 = .ok (.iconst 0, 1) := by decide +kernel
theorem dX2_verify_19 : decode cX2_verify 19 = .ok (.invokevirtual 58, 3) := by decide +kernel
theorem dX2_verify_22 : decode cX2_verify 22 = .ok (.ifCond .eq 25, 3) := by decide +kernel
theorem dX2_verify_25 : decode cX2_verify 25 = .ok (.aload_n 0, 1) := by decide +kernel
theorem dX2_verify_26 : decode cX2_verify 26 = .ok (.aload_n 0, 1) := by decide +kernel
theorem dX2_verify_27 : decode cX2_verify 27 = .ok (.getfield 16, 3) := by decide +kernel
theorem dX2_verify_30 : decode cX2_verify 30 = .ok (.iload_n 1, 1) := by decide +kernel
theorem dX2_verify_31 : decode cX2_verify 31 = .ok (.iaload, 1) := by decide +kernel
theorem dX2_verify_32 : decode cX2_verify 32 = .ok (.lload_n 2, 1) := by decide +kernel
theorem dX2_verify_33 : decode cX2_verify 33 = .ok (.iload 4, 2) := by decide +kernel
theorem dX2_verify_35 : decode cX2_verify 35 = .ok (.iload 5, 2) := by decide +kernel
theorem dX2_verify_37 : decode cX2_verify 37 = .ok (.invokevirtual 119, 3) := by decide +kernel
theorem dX2_verify_40 : decode cX2_verify 40 = .ok (.ifCond .eq 7, 3) := by decide +kernel
theorem dX2_verify_43 : decode cX2_verify 43 = .ok (.iconst 1, 1) := by decide +kernel
theorem dX2_verify_44 : decode cX2_verify 44 = .ok (.goto 4, 3) := by decide +kernel
theorem dX2_verify_47 : decode cX2_verify 47 = .ok (.iconst 0, 1) := by decide +kernel
theorem dX2_verify_48 : decode cX2_verify 48 = .ok (.ireturn, 1) := by decide +kernel
theorem dX2_accepts_0 : decode cX2_accepts 0 = .ok (.aload_n 0, 1) := by decide +kernel
theorem dX2_accepts_1 : decode cX2_accepts 1 = .ok (.aload_n 0, 1) := by decide +kernel
theorem dX2_accepts_2 : decode cX2_accepts 2 = .ok (.getfield 65, 3) := by decide +kernel
theorem dX2_accepts_5 : decode cX2_accepts 5 = .ok (.ifCond .ne 7, 3) := by decide +kernel
theorem dX2_accepts_8 : decode cX2_accepts 8 = .ok (.iconst 1, 1) := by decide +kernel
theorem dX2_accepts_9 : decode cX2_accepts 9 = .ok (.goto 4, 3) := by decide +kernel
theorem dX2_accepts_12 : decode cX2_accepts 12 = .ok (.iconst 0, 1) := by decide +kernel
theorem dX2_accepts_13 : decode cX2_accepts 13 = .ok (.iconst 0, 1) := by decide +kernel
theorem dX2_accepts_14 : decode cX2_accepts 14 = .ok (.iconst 0, 1) := by decide +kernel
theorem dX2_accepts_15 : decode cX2_accepts 15 = .ok (.invokevirtual 58, 3) := by decide +kernel
theorem dX2_accepts_18 : decode cX2_accepts 18 = .ok (.ifCond .ne 5, 3) := by decide +kernel
theorem dX2_accepts_21 : decode cX2_accepts 21 = .ok (.iconst 0, 1) := by decide +kernel
theorem dX2_accepts_22 : decode cX2_accepts 22 = .ok (.ireturn, 1) := by decide +kernel
theorem dX2_accepts_23 : decode cX2_accepts 23 = .ok (.aload_n 0, 1) := by decide +kernel
theorem dX2_accepts_24 : decode cX2_accepts 24 = .ok (.iload_n 1, 1) := by decide +kernel
theorem dX2_accepts_25 : decode cX2_accepts 25 = .ok (.lload_n 2, 1) := by decide +kernel
theorem dX2_accepts_26 : decode cX2_accepts 26 = .ok (.invokevirtual 98, 3) := by decide +kernel
theorem dX2_accepts_29 : decode cX2_accepts 29 = .ok (.istore 8, 2) := by decide +kernel
theorem dX2_accepts_31 : decode cX2_accepts 31 = .ok (.aload_n 0, 1) := by decide +kernel
theorem dX2_accepts_32 : decode cX2_accepts 32 = .ok (.iload 8, 2) := by decide +kernel
theorem dX2_accepts_34 : decode cX2_accepts 34 = .ok (.lload 4, 2) := by decide +kernel
theorem dX2_accepts_36 : decode cX2_accepts 36 = .ok (.iload 6, 2) := by decide +kernel
theorem dX2_accepts_38 : decode cX2_accepts 38 = .ok (.iload 7, 2) := by decide +kernel
theorem dX2_accepts_40 : decode cX2_accepts 40 = .ok (.invokevirtual 119, 3) := by decide +kernel
theorem dX2_accepts_43 : decode cX2_accepts 43 = .ok (.ireturn, 1) := by decide +kernel
end
section
/-! The reference: what only reads (1). By wip/whole/tools/gen13.py. -/
/-- the reference's object: its fields in their order -/
abbrev MO (p a b n key dr th : Int) (hX hY hR hO : Nat) (sx sy dk dv : Int32) : List Value := [.int (ii p), .int (ii a), .int (ii b), .int (ii n), .int (ii key), .int (ii dr), .int (ii th), .ref hX, .ref hY, .ref hR, .ref hO, .int sx, .int sy, .int dk, .int dv]
theorem pcw_preV0 {D : va_G} {ws : va_W} {tys : List (ClassId × FieldType)} {s : State} {H : Heap} {b : Nat} (As : List Value) (hN : Nw s) (hP : va_P D clX ws H) (hK : va_K D clX tys s) (q0 : Nat) {ci : Nat} {q : vw_C} {fs : List Value} (hc : clX[ci]? = some q) (he : ws[q0]? = some (b, .inr (ci, fs))) : PreV s H q.1 b (PcW D [] [] (.ref b :: As)) As :=
  ⟨pcw_blind D [] [] _, va_recv hK hP hc he, fun U hU hW => ⟨rfl, Nw.warm hW hN, by rw [hU]; exact hP.sub (ws' := []) [] rfl, va_K.moved hW.alike (hK.sub (tys' := []) [] rfl)⟩⟩
theorem l_rem {p : Program} {l : Launch} {e : Env} {R : Room} {s : State} {m : MethodId} {args : Array Value} {below : List Frame} {meth : Method} {c : Code} {H : Heap} {locs : List Loc} {cells slots : Nat} {Q : State → Prop} {cc : ByteArray} {nL pc : Nat} {own : String} {ls : Array Slot} {rest : List Value} (C : Cx p m c cc nL s args own) {a d : Int} (hdg : decode cc pc = .ok (.lrem, 1)) (ha : 0 ≤ a ∧ a < 9223372036854775808) (hd : 0 < d ∧ d < 9223372036854775808) (k : W p l e R s m args below meth c H locs cells slots Q (F0 m (pc + 1) ls (.long (li (a % d)) :: rest))) : W p l e R s m args below meth c H locs cells slots Q (F0 m pc ls (.long (li d) :: .long (li a) :: rest)) :=
  l_remT C hdg ⟨by omega, by omega⟩ hd (by rw [Int.tmod_eq_emod_of_nonneg ha.1]; exact k)
def nrF (r : Int) : Int := if r < 0 then 1 else if r ≤ 3 then 0 else 1
set_option maxRecDepth 100000 in
set_option maxHeartbeats 1000000 in
theorem c_X2_noRegister (l : Launch) (D : va_G) (hm : Nat) (r : Int) (hr1 : rg r) : Met l yX2_noRegister (Cond.code yX2_noRegister cX2_noRegister 2 (some .boolean) :: AW) ({ frames := 0, cells := 0, slots := 0, locals := 0 } : Room) (PcW D [] [] [.ref hm, .int (ii r)]) (QcV (some (.int (ii (nrF r))))) 0 0 (fun _ => False) := by
  refine mt_W (by decide +kernel) (Nat.le_of_ble_eq_true rfl) ?_
  intro P0 E0 S0 M0 A0 B0 T0 K0 C hN hP hK hr hk ls hl
  have hl : lv_has ls 2 [(0, .ref hm), (1, .int (ii r))] := hl
  generalize hV : nrF r = V
  unfold nrF at hV
  refine lv_iload_n C.1 C.2.1 dX2_noRegister_0 rfl (lv_at hl 1 rfl) ?_
  refine i_if_lt (tgt := 9) C dX2_noRegister_1 (by decide) ⟨by omega, by omega⟩ (fun h1 => ?_) (fun h1 => ?_)
  · rw [if_pos h1] at hV
    refine i_const C dX2_noRegister_9 ?_
    refine lv_goto (tgt := 14) C.1 C.2.1 dX2_noRegister_10 (by decide) ?_
    subst hV
    exact rt_z C hr hk dX2_noRegister_14 (Or.inr rfl) rfl
  · rw [if_neg h1] at hV
    refine lv_iload_n C.1 C.2.1 dX2_noRegister_4 rfl (lv_at hl 1 rfl) ?_
    refine i_const C dX2_noRegister_5 ?_
    refine i_icmp_le (tgt := 13) C dX2_noRegister_6 (by decide) ⟨by omega, by omega⟩ ⟨by omega, by omega⟩ (fun h2 => ?_) (fun h2 => ?_)
    · rw [if_pos h2] at hV
      refine i_const C dX2_noRegister_13 ?_
      subst hV
      exact rt_z C hr hk dX2_noRegister_14 (Or.inl rfl) rfl
    · rw [if_neg h2] at hV
      refine i_const C dX2_noRegister_9 ?_
      refine lv_goto (tgt := 14) C.1 C.2.1 dX2_noRegister_10 (by decide) ?_
      subst hV
      exact rt_z C hr hk dX2_noRegister_14 (Or.inr rfl) rfl
def pmF (n : Nat) : Nat → Nat → Nat → Nat
  | 0, _, ok => ok
  | f + 1, d, ok => if n < d * d then ok else if ok = 0 then ok else pmF n f (d + 1) (if n % d = 0 then 0 else 1)
theorem pmF_s (n f d ok : Nat) : pmF n (f + 1) d ok = if n < d * d then ok else if ok = 0 then ok else pmF n f (d + 1) (if n % d = 0 then 0 else 1) := rfl
theorem pmF_b (n : Nat) : ∀ (f d ok : Nat), ok ≤ 1 → pmF n f d ok ≤ 1
  | 0, _, _, h => h
  | f + 1, d, ok, h => by
    rw [pmF_s]
    split
    · exact h
    · split
      · exact h
      · exact pmF_b n f (d + 1) _ (by split <;> omega)
set_option maxRecDepth 100000 in
set_option maxHeartbeats 1000000 in
theorem c_X2_prime (l : Launch) (D : va_G) (hm n : Nat) (hn : n ≤ 1100000) : Met l yX2_prime (Cond.code yX2_prime cX2_prime 4 (some .boolean) :: AW) ({ frames := 0, cells := 0, slots := 0, locals := 0 } : Room) (PcW D [] [] [.ref hm, .int (ii (n : Int))]) (QcV (some (.int (ii ((pmF n 1100 2 (if n < 2 then 0 else 1) : Nat) : Int))))) 0 0 (fun _ => False) := by
  refine mt_W (by decide +kernel) (Nat.le_of_ble_eq_true rfl) ?_
  intro P0 E0 S0 M0 A0 B0 T0 K0 C hN hP hK hr hk ls hl
  have hl : lv_has ls 4 [(0, .ref hm), (1, .int (ii (n : Int)))] := hl
  have hV0 := pmF_b n 1100 2 (if n < 2 then 0 else 1) (by split <;> omega)
  generalize hV : pmF n 1100 2 (if n < 2 then 0 else 1) = V at hV0 ⊢
  have loop : ∀ (f : Nat) (ls : Array Slot) (d ok : Nat), 2 ≤ d → d + f = 1102 → d ≤ 1050 → ok ≤ 1 → pmF n f d ok = V → lv_has ls 4 [(0, .ref hm), (1, .int (ii (n : Int))), (2, .int (ii (ok : Int))), (3, .int (ii (d : Int)))] → W P0 l E0 ({ frames := 0, cells := 0, slots := 0, locals := 0 } : Room) S0 M0 A0 B0 T0 K0 S0.heap [] 0 0 (MQ B0 (QcV (some (.int (ii (V : Nat))))) A0 S0 0 0 (fun _ => False)) (F0 M0 13 ls []) := by
    intro f
    induction f with
    | zero =>
      intro ls d ok h2 hf hd
      omega
    | succ f ih =>
    intro ls d ok h2 hf hd1 ho hV hl
    rw [pmF_s] at hV
    have m1 := Nat.mul_le_mul (show d ≤ 1050 by omega) (show d ≤ 1050 by omega)
    refine lv_iload_n C.1 C.2.1 dX2_prime_13 rfl (lv_at hl 3 rfl) ?_
    refine lv_iload_n C.1 C.2.1 dX2_prime_14 rfl (lv_at hl 3 rfl) ?_
    refine i_mul C dX2_prime_15 ?_
    refine i_top (b := ((d * d : Nat) : Int)) rfl ?_
    refine lv_iload_n C.1 C.2.1 dX2_prime_16 rfl (lv_at hl 1 rfl) ?_
    refine i_icmp_gt (tgt := 42) C dX2_prime_17 (by decide) ⟨by omega, by omega⟩ ⟨by omega, by omega⟩ (fun h1 => ?_) (fun h1 => ?_)
    · rw [if_pos (show n < d * d by omega)] at hV
      refine lv_iload_n C.1 C.2.1 dX2_prime_42 rfl (lv_at hl 2 rfl) ?_
      exact rt_z C hr hk dX2_prime_43 (by omega) (by rw [hV])
    · rw [if_neg (show ¬ n < d * d by omega)] at hV
      refine lv_iload_n C.1 C.2.1 dX2_prime_20 rfl (lv_at hl 2 rfl) ?_
      refine i_if_eq (tgt := 42) C dX2_prime_21 (by decide) ⟨by omega, by omega⟩ (fun h2 => ?_) (fun h2 => ?_)
      · rw [if_pos (show ok = 0 by omega)] at hV
        refine lv_iload_n C.1 C.2.1 dX2_prime_42 rfl (lv_at hl 2 rfl) ?_
        exact rt_z C hr hk dX2_prime_43 (by omega) (by rw [hV])
      · rw [if_neg (show ¬ ok = 0 by omega)] at hV
        have m2 := dd_b (show d * d ≤ n by omega) hn
        refine lv_iload_n C.1 C.2.1 dX2_prime_24 rfl (lv_at hl 1 rfl) ?_
        refine lv_iload_n C.1 C.2.1 dX2_prime_25 rfl (lv_at hl 3 rfl) ?_
        refine i_rem C dX2_prime_26 ⟨by omega, by omega⟩ ⟨by omega, by omega⟩ ?_
        refine i_top (b := ((n % d : Nat) : Int)) rfl ?_
        have m3 := Nat.mod_lt n (show 0 < d by omega)
        refine i_if_eq (tgt := 34) C dX2_prime_27 (by decide) ⟨by omega, by omega⟩ (fun h3 => ?_) (fun h3 => ?_)
        · rw [if_pos (show n % d = 0 by omega)] at hV
          refine i_const C dX2_prime_34 ?_
          refine lv_istore_n C.1 C.2.1 dX2_prime_35 rfl hl (by decide) rfl (fun ls hl => ?_)
          have hl : lv_has ls 4 [(2, .int (ii 0)), (0, .ref hm), (1, .int (ii (n : Int))), (3, .int (ii (d : Int)))] := hl
          refine lv_iinc C.1 C.2.1 dX2_prime_36 hl (k := 3) rfl (ii_add (d : Int) 1) (by decide) rfl (fun ls hl => ?_)
          have hl : lv_has ls 4 [(3, .int (ii ((d : Int) + 1))), (2, .int (ii 0)), (0, .ref hm), (1, .int (ii (n : Int)))] := hl
          refine lv_goto (tgt := 13) C.1 C.2.1 dX2_prime_39 (by decide) ?_
          exact ih ls (d + 1) 0 (by omega) (by omega) (by omega) (by omega) hV (lv_sub (l' := [(0, .ref hm), (1, .int (ii (n : Int))), (2, .int (ii 0)), (3, .int (ii ((d : Int) + 1)))]) hl [2, 3, 1, 0] rfl)
        · rw [if_neg (show ¬ n % d = 0 by omega)] at hV
          refine i_const C dX2_prime_30 ?_
          refine lv_goto (tgt := 35) C.1 C.2.1 dX2_prime_31 (by decide) ?_
          refine lv_istore_n C.1 C.2.1 dX2_prime_35 rfl hl (by decide) rfl (fun ls hl => ?_)
          have hl : lv_has ls 4 [(2, .int (ii 1)), (0, .ref hm), (1, .int (ii (n : Int))), (3, .int (ii (d : Int)))] := hl
          refine lv_iinc C.1 C.2.1 dX2_prime_36 hl (k := 3) rfl (ii_add (d : Int) 1) (by decide) rfl (fun ls hl => ?_)
          have hl : lv_has ls 4 [(3, .int (ii ((d : Int) + 1))), (2, .int (ii 1)), (0, .ref hm), (1, .int (ii (n : Int)))] := hl
          refine lv_goto (tgt := 13) C.1 C.2.1 dX2_prime_39 (by decide) ?_
          exact ih ls (d + 1) 1 (by omega) (by omega) (by omega) (by omega) hV (lv_sub (l' := [(0, .ref hm), (1, .int (ii (n : Int))), (2, .int (ii 1)), (3, .int (ii ((d : Int) + 1)))]) hl [2, 3, 1, 0] rfl)
  refine lv_iload_n C.1 C.2.1 dX2_prime_0 rfl (lv_at hl 1 rfl) ?_
  refine i_const C dX2_prime_1 ?_
  refine i_icmp_lt (tgt := 9) C dX2_prime_2 (by decide) ⟨by omega, by omega⟩ ⟨by omega, by omega⟩ (fun h1 => ?_) (fun h1 => ?_)
  · rw [if_pos (show n < 2 by omega)] at hV
    refine i_const C dX2_prime_9 ?_
    refine lv_istore_n C.1 C.2.1 dX2_prime_10 rfl hl (by decide) rfl (fun ls hl => ?_)
    have hl : lv_has ls 4 [(2, .int (ii 0)), (0, .ref hm), (1, .int (ii (n : Int)))] := hl
    refine i_const C dX2_prime_11 ?_
    refine lv_istore_n C.1 C.2.1 dX2_prime_12 rfl hl (by decide) rfl (fun ls hl => ?_)
    have hl : lv_has ls 4 [(3, .int (ii 2)), (2, .int (ii 0)), (0, .ref hm), (1, .int (ii (n : Int)))] := hl
    exact loop 1100 ls 2 0 (by omega) (by omega) (by omega) (by omega) hV (lv_sub (l' := [(0, .ref hm), (1, .int (ii (n : Int))), (2, .int (ii 0)), (3, .int (ii 2))]) hl [2, 3, 1, 0] rfl)
  · rw [if_neg (show ¬ n < 2 by omega)] at hV
    refine i_const C dX2_prime_5 ?_
    refine lv_goto (tgt := 10) C.1 C.2.1 dX2_prime_6 (by decide) ?_
    refine lv_istore_n C.1 C.2.1 dX2_prime_10 rfl hl (by decide) rfl (fun ls hl => ?_)
    have hl : lv_has ls 4 [(2, .int (ii 1)), (0, .ref hm), (1, .int (ii (n : Int)))] := hl
    refine i_const C dX2_prime_11 ?_
    refine lv_istore_n C.1 C.2.1 dX2_prime_12 rfl hl (by decide) rfl (fun ls hl => ?_)
    have hl : lv_has ls 4 [(3, .int (ii 2)), (2, .int (ii 1)), (0, .ref hm), (1, .int (ii (n : Int)))] := hl
    exact loop 1100 ls 2 1 (by omega) (by omega) (by omega) (by omega) hV (lv_sub (l' := [(0, .ref hm), (1, .int (ii (n : Int))), (2, .int (ii 1)), (3, .int (ii 2))]) hl [2, 3, 1, 0] rfl)
set_option maxRecDepth 100000 in
set_option maxHeartbeats 1000000 in
theorem c_X2_cube (l : Launch) (D : va_G) (hm x p a b : Nat) (hp : 5 ≤ p ∧ p ≤ 1021) (ha : a < p) (hb : b < p) (hx0 : x < p) : Met l yX2_cube (Cond.code yX2_cube cX2_cube 7 (some .int) :: AW) ({ frames := 0, cells := 0, slots := 0, locals := 0 } : Room) (PcW D [] [] [.ref hm, .int (ii (x : Int)), .int (ii (p : Int)), .int (ii (a : Int)), .int (ii (b : Int))]) (QcV (some (.int (ii ((cub p a b x : Nat) : Int))))) 0 0 (fun _ => False) := by
  refine mt_W (by decide +kernel) (Nat.le_of_ble_eq_true rfl) ?_
  intro P0 E0 S0 M0 A0 B0 T0 K0 C hN hP hK hr hk ls hl
  have hl : lv_has ls 7 [(0, .ref hm), (1, .int (ii (x : Int))), (2, .int (ii (p : Int))), (3, .int (ii (a : Int))), (4, .int (ii (b : Int)))] := hl
  have m1 := nmul_b (show x ≤ 1100 by omega) (show x ≤ 1100 by omega)
  have m2 := Nat.mod_lt (x * x) (show 0 < p by omega)
  have m3 := nmul_b (show x * x % p ≤ 1100 by omega) (show x ≤ 1100 by omega)
  have m4 := nmul_b (show a ≤ 1100 by omega) (show x ≤ 1100 by omega)
  have m5 : cub p a b x < p := Nat.mod_lt _ (by omega)
  refine lv_iload_n C.1 C.2.1 dX2_cube_0 rfl (lv_at hl 1 rfl) ?_
  refine l_i2l C dX2_cube_1 ⟨by omega, by omega⟩ ?_
  refine lv_iload_n C.1 C.2.1 dX2_cube_2 rfl (lv_at hl 1 rfl) ?_
  refine l_i2l C dX2_cube_3 ⟨by omega, by omega⟩ ?_
  refine l_mul C dX2_cube_4 ?_
  refine l_top (b := ((x * x : Nat) : Int)) rfl ?_
  refine lv_iload_n C.1 C.2.1 dX2_cube_5 rfl (lv_at hl 2 rfl) ?_
  refine l_i2l C dX2_cube_6 ⟨by omega, by omega⟩ ?_
  refine l_rem C dX2_cube_7 ⟨by omega, by omega⟩ ⟨by omega, by omega⟩ ?_
  refine l_top (b := ((x * x % p : Nat) : Int)) rfl ?_
  refine lv_iload_n C.1 C.2.1 dX2_cube_8 rfl (lv_at hl 1 rfl) ?_
  refine l_i2l C dX2_cube_9 ⟨by omega, by omega⟩ ?_
  refine l_mul C dX2_cube_10 ?_
  refine l_top (b := ((x * x % p * x : Nat) : Int)) rfl ?_
  refine lv_iload_n C.1 C.2.1 dX2_cube_11 rfl (lv_at hl 3 rfl) ?_
  refine l_i2l C dX2_cube_12 ⟨by omega, by omega⟩ ?_
  refine lv_iload_n C.1 C.2.1 dX2_cube_13 rfl (lv_at hl 1 rfl) ?_
  refine l_i2l C dX2_cube_14 ⟨by omega, by omega⟩ ?_
  refine l_mul C dX2_cube_15 ?_
  refine l_top (b := ((a * x : Nat) : Int)) rfl ?_
  refine l_add C dX2_cube_16 ?_
  refine lv_iload C.1 C.2.1 dX2_cube_17 (lv_at hl 4 rfl) ?_
  refine l_i2l C dX2_cube_19 ⟨by omega, by omega⟩ ?_
  refine l_add C dX2_cube_20 ?_
  refine l_top (b := ((x * x % p * x + a * x + b : Nat) : Int)) rfl ?_
  refine lv_lstore C.1 C.2.1 dX2_cube_21 hl (by decide) rfl (fun ls hl => ?_)
  have hl : lv_has ls 7 [(5, .long (li ((x * x % p * x + a * x + b : Nat) : Int))), (0, .ref hm), (1, .int (ii (x : Int))), (2, .int (ii (p : Int))), (3, .int (ii (a : Int))), (4, .int (ii (b : Int)))] := hl
  refine lv_lload C.1 C.2.1 dX2_cube_23 (lv_at hl 0 rfl) ?_
  refine lv_iload_n C.1 C.2.1 dX2_cube_25 rfl (lv_at hl 3 rfl) ?_
  refine l_i2l C dX2_cube_26 ⟨by omega, by omega⟩ ?_
  refine l_rem C dX2_cube_27 ⟨by omega, by omega⟩ ⟨by omega, by omega⟩ ?_
  refine l_top (b := ((cub p a b x : Nat) : Int)) (by rw [cub_eq, ← Int.natCast_emod, Int.natCast_inj, Nat.add_assoc, Nat.add_mod, Nat.mod_mul_mod, ← Nat.add_mod, ← Nat.add_assoc]) ?_
  refine l_l2i C dX2_cube_28 ⟨by omega, by omega⟩ ?_
  exact rt_i C hr hk dX2_cube_29 rfl
def ivF (v m : Nat) : Nat → Nat → Nat
  | 0, _ => 0
  | f + 1, t => if m ≤ t then 0 else if v * t % m = 1 then t else ivF v m f (t + 1)
theorem ivF_s (v m f t : Nat) : ivF v m (f + 1) t = if m ≤ t then 0 else if v * t % m = 1 then t else ivF v m f (t + 1) := rfl
set_option maxRecDepth 100000 in
set_option maxHeartbeats 1000000 in
theorem c_X2_inverse (l : Launch) (D : va_G) (hm v m : Nat) (hv : v ≤ 1100) (hm0 : 2 ≤ m ∧ m ≤ 1100) : Met l yX2_inverse (Cond.code yX2_inverse cX2_inverse 4 (some .int) :: AW) ({ frames := 0, cells := 0, slots := 0, locals := 0 } : Room) (PcW D [] [] [.ref hm, .int (ii (v : Int)), .int (ii (m : Int))]) (QcV (some (.int (ii ((ivF v m 1100 1 : Nat) : Int))))) 0 0 (fun _ => False) := by
  refine mt_W (by decide +kernel) (Nat.le_of_ble_eq_true rfl) ?_
  intro P0 E0 S0 M0 A0 B0 T0 K0 C hN hP hK hr hk ls hl
  have hl : lv_has ls 4 [(0, .ref hm), (1, .int (ii (v : Int))), (2, .int (ii (m : Int)))] := hl
  generalize hV : ivF v m 1100 1 = V
  have loop : ∀ (f : Nat) (ls : Array Slot) (t : Nat), t + f = 1101 → t ≤ m → ivF v m f t = V → lv_has ls 4 [(0, .ref hm), (1, .int (ii (v : Int))), (2, .int (ii (m : Int))), (3, .int (ii (t : Int)))] → W P0 l E0 ({ frames := 0, cells := 0, slots := 0, locals := 0 } : Room) S0 M0 A0 B0 T0 K0 S0.heap [] 0 0 (MQ B0 (QcV (some (.int (ii (V : Nat))))) A0 S0 0 0 (fun _ => False)) (F0 M0 2 ls []) := by
    intro f
    induction f with
    | zero =>
      intro ls t hf ht
      omega
    | succ f ih =>
    intro ls t hf ht hV hl
    rw [ivF_s] at hV
    have m1 := nmul_b hv (show t ≤ 1100 by omega)
    have m2 := Nat.mod_lt (v * t) (show 0 < m by omega)
    refine lv_iload_n C.1 C.2.1 dX2_inverse_2 rfl (lv_at hl 3 rfl) ?_
    refine lv_iload_n C.1 C.2.1 dX2_inverse_3 rfl (lv_at hl 2 rfl) ?_
    refine i_icmp_ge (tgt := 24) C dX2_inverse_4 (by decide) ⟨by omega, by omega⟩ ⟨by omega, by omega⟩ (fun h1 => ?_) (fun h1 => ?_)
    · rw [if_pos (show m ≤ t by omega)] at hV
      refine i_const C dX2_inverse_24 ?_
      exact rt_i C hr hk dX2_inverse_25 (by subst hV; rfl)
    · rw [if_neg (show ¬ m ≤ t by omega)] at hV
      refine lv_iload_n C.1 C.2.1 dX2_inverse_7 rfl (lv_at hl 1 rfl) ?_
      refine lv_iload_n C.1 C.2.1 dX2_inverse_8 rfl (lv_at hl 3 rfl) ?_
      refine i_mul C dX2_inverse_9 ?_
      refine lv_iload_n C.1 C.2.1 dX2_inverse_10 rfl (lv_at hl 2 rfl) ?_
      refine i_rem C dX2_inverse_11 ⟨by omega, by omega⟩ ⟨by omega, by omega⟩ ?_
      refine i_top (b := ((v * t % m : Nat) : Int)) rfl ?_
      refine i_const C dX2_inverse_12 ?_
      refine i_icmp_ne (tgt := 18) C dX2_inverse_13 (by decide) ⟨by omega, by omega⟩ ⟨by omega, by omega⟩ (fun h2 => ?_) (fun h2 => ?_)
      · rw [if_neg (show ¬ v * t % m = 1 by omega)] at hV
        refine lv_iinc C.1 C.2.1 dX2_inverse_18 hl (k := 3) rfl (ii_add (t : Int) 1) (by decide) rfl (fun ls hl => ?_)
        have hl : lv_has ls 4 [(3, .int (ii ((t : Int) + 1))), (0, .ref hm), (1, .int (ii (v : Int))), (2, .int (ii (m : Int)))] := hl
        refine lv_goto (tgt := 2) C.1 C.2.1 dX2_inverse_21 (by decide) ?_
        exact ih ls (t + 1) (by omega) (by omega) hV (lv_sub (l' := [(0, .ref hm), (1, .int (ii (v : Int))), (2, .int (ii (m : Int))), (3, .int (ii ((t : Int) + 1)))]) hl [1, 2, 3, 0] rfl)
      · rw [if_pos (show v * t % m = 1 by omega)] at hV
        refine lv_iload_n C.1 C.2.1 dX2_inverse_16 rfl (lv_at hl 3 rfl) ?_
        exact rt_i C hr hk dX2_inverse_17 (by subst hV; rfl)
  refine i_const C dX2_inverse_0 ?_
  refine lv_istore_n C.1 C.2.1 dX2_inverse_1 rfl hl (by decide) rfl (fun ls hl => ?_)
  have hl : lv_has ls 4 [(3, .int (ii 1)), (0, .ref hm), (1, .int (ii (v : Int))), (2, .int (ii (m : Int)))] := hl
  exact loop 1100 ls 1 (by omega) (by omega) hV (lv_sub (l' := [(0, .ref hm), (1, .int (ii (v : Int))), (2, .int (ii (m : Int))), (3, .int (ii 1))]) hl [1, 2, 3, 0] rfl)
set_option maxRecDepth 100000 in
set_option maxHeartbeats 1000000 in
theorem c_X2_mix (l : Launch) (D : va_G) (hm : Nat) (u v : Int32) : Met l yX2_mix (Cond.code yX2_mix cX2_mix 4 (some .int) :: AW) ({ frames := 0, cells := 0, slots := 0, locals := 0 } : Room) (PcW D [] [] [.ref hm, .int u, .int v]) (QcV (some (.int (mxF u v)))) 0 0 (fun _ => False) := by
  refine mt_W (by decide +kernel) (Nat.le_of_ble_eq_true rfl) ?_
  intro P0 E0 S0 M0 A0 B0 T0 K0 C hN hP hK hr hk ls hl
  have hl : lv_has ls 4 [(0, .ref hm), (1, .int u), (2, .int v)] := hl
  refine lv_iload_n C.1 C.2.1 dX2_mix_0 rfl (lv_at hl 1 rfl) ?_
  refine lv_iload_n C.1 C.2.1 dX2_mix_1 rfl (lv_at hl 2 rfl) ?_
  refine lv_ixor C.1 C.2.1 dX2_mix_2 ?_
  refine i_ldc (n := 668265261) C dX2_mix_3 aw_k_X2_102 (by decide +kernel) ?_
  refine lv_imul C.1 C.2.1 dX2_mix_5 ?_
  refine lv_iload_n C.1 C.2.1 dX2_mix_6 rfl (lv_at hl 1 rfl) ?_
  refine lv_iadd C.1 C.2.1 dX2_mix_7 ?_
  refine lv_istore_n C.1 C.2.1 dX2_mix_8 rfl hl (by decide) rfl (fun ls hl => ?_)
  have hl : lv_has ls 4 [(3, .int (((u ^^^ v) * (ii 668265261)) + u)), (0, .ref hm), (1, .int u), (2, .int v)] := hl
  refine lv_iload_n C.1 C.2.1 dX2_mix_9 rfl (lv_at hl 0 rfl) ?_
  refine lv_iload_n C.1 C.2.1 dX2_mix_10 rfl (lv_at hl 0 rfl) ?_
  refine i_bipush C dX2_mix_11 (by decide +kernel) ?_
  refine lv_ishl C.1 C.2.1 dX2_mix_13 ?_
  refine lv_iload_n C.1 C.2.1 dX2_mix_14 rfl (lv_at hl 0 rfl) ?_
  refine i_bipush C dX2_mix_15 (by decide +kernel) ?_
  refine lv_iushr C.1 C.2.1 dX2_mix_17 rfl ?_
  refine lv_ior C.1 C.2.1 dX2_mix_18 ?_
  refine lv_iadd C.1 C.2.1 dX2_mix_19 ?_
  exact rt_r C hr hk dX2_mix_20 rfl
set_option maxRecDepth 100000 in
set_option maxHeartbeats 1000000 in
theorem c_X2_thrown (l : Launch) (D : va_G) (hm : Nat) (p a b : Int) (n : Nat) (key dr th : Int) (hX hY hR hO : Nat) (sx sy dk dv : Int32) : Met l yX2_thrown (Cond.code yX2_thrown cX2_thrown 1 (some .int) :: AW) ({ frames := 0, cells := 0, slots := 0, locals := 0 } : Room) (PcW D [(hm, .inr (2, MO p a b n key dr th hX hY hR hO sx sy dk dv))] [] [.ref hm]) (QcV (some (.int (ii th)))) 0 0 (fun _ => False) := by
  refine mt_W (by decide +kernel) (Nat.le_of_ble_eq_true rfl) ?_
  intro P0 E0 S0 M0 A0 B0 T0 K0 C hN hP hK hr hk ls hl
  have hl : lv_has ls 1 [(0, .ref hm)] := hl
  refine lv_aload_n C.1 C.2.1 dX2_thrown_0 rfl (lv_at hl 0 rfl) ?_
  refine gf C hK hP 0 rfl rfl aw_uX2 6 (by decide) aw_f_X2_22 rfl dX2_thrown_1 ?_
  exact rt_i C hr hk dX2_thrown_4 rfl
set_option maxRecDepth 100000 in
set_option maxHeartbeats 1000000 in
theorem c_X2_modulo (l : Launch) (D : va_G) (hm : Nat) (p a b : Int) (n : Nat) (key dr th : Int) (hX hY hR hO : Nat) (sx sy dk dv : Int32) (hn : 0 < n ∧ n ≤ 1100) (z : Int) (hz : rl z) : Met l yX2_modulo (Cond.code yX2_modulo cX2_modulo 5 (some .int) :: AW) ({ frames := 0, cells := 0, slots := 0, locals := 0 } : Room) (PcW D [(hm, .inr (2, MO p a b n key dr th hX hY hR hO sx sy dk dv))] [] [.ref hm, .long (li z)]) (QcV (some (.int (ii (z % (n : Int)))))) 0 0 (fun _ => False) := by
  refine mt_W (by decide +kernel) (Nat.le_of_ble_eq_true rfl) ?_
  intro P0 E0 S0 M0 A0 B0 T0 K0 C hN hP hK hr hk ls hl
  have hl : lv_has ls 5 [(0, .ref hm), (1, .long (li z))] := hl
  have q := tmod_emod (a := z) (show (0 : Int) < n by omega)
  have z2 := Int.lt_tmod_of_pos z (show (0 : Int) < n by omega)
  have z3 := Int.tmod_lt_of_pos z (show (0 : Int) < n by omega)
  have q1 := em_b z (show (0 : Int) < n by omega)
  refine lv_lload_n C.1 C.2.1 dX2_modulo_0 rfl (lv_at hl 1 rfl) ?_
  refine lv_aload_n C.1 C.2.1 dX2_modulo_1 rfl (lv_at hl 0 rfl) ?_
  refine gf C hK hP 0 rfl rfl aw_uX2 3 (by decide) aw_f_X2_65 rfl dX2_modulo_2 ?_
  refine l_i2l C dX2_modulo_5 ⟨by omega, by omega⟩ ?_
  refine l_remT C dX2_modulo_6 hz ⟨by omega, by omega⟩ ?_
  refine lv_lstore_n C.1 C.2.1 dX2_modulo_7 rfl hl (by decide) rfl (fun ls hl => ?_)
  have hl : lv_has ls 5 [(3, .long (li (z.tmod (n : Int)))), (0, .ref hm), (1, .long (li z))] := hl
  refine lv_lload_n C.1 C.2.1 dX2_modulo_8 rfl (lv_at hl 0 rfl) ?_
  refine l_const0 C dX2_modulo_9 ?_
  refine l_cmp C dX2_modulo_10 ⟨by omega, by omega⟩ ⟨by omega, by omega⟩ ?_
  have cb10 := cmI_b (z.tmod (n : Int)) 0
  have ce10 := cmI_eq (a := z.tmod (n : Int)) (b := 0)
  have cl10 := cmI_lt (a := z.tmod (n : Int)) (b := 0)
  refine i_if_ge (tgt := 24) C dX2_modulo_11 (by decide) ⟨by omega, by omega⟩ (fun h1 => ?_) (fun h1 => ?_)
  · rw [if_neg (show ¬ z.tmod (n : Int) < 0 by omega)] at q
    refine lv_lload_n C.1 C.2.1 dX2_modulo_24 rfl (lv_at hl 0 rfl) ?_
    refine l_l2i C dX2_modulo_25 ⟨by omega, by omega⟩ ?_
    exact rt_i C hr hk dX2_modulo_26 (by rw [q])
  · rw [if_pos (show z.tmod (n : Int) < 0 by omega)] at q
    refine lv_lload_n C.1 C.2.1 dX2_modulo_14 rfl (lv_at hl 0 rfl) ?_
    refine lv_aload_n C.1 C.2.1 dX2_modulo_15 rfl (lv_at hl 1 rfl) ?_
    refine gf C hK hP 0 rfl rfl aw_uX2 3 (by decide) aw_f_X2_65 rfl dX2_modulo_16 ?_
    refine l_i2l C dX2_modulo_19 ⟨by omega, by omega⟩ ?_
    refine l_add C dX2_modulo_20 ?_
    refine lv_goto (tgt := 25) C.1 C.2.1 dX2_modulo_21 (by decide) ?_
    refine l_l2i C dX2_modulo_25 ⟨by omega, by omega⟩ ?_
    exact rt_i C hr hk dX2_modulo_26 (by rw [q])
end
section
/-! The reference: what reads its tables. By wip/whole/tools/gen14.py. -/
def fdF (tx ty : Nat → Nat) (n : Nat) (x y : Int) : Nat → Nat → Nat → Nat
  | 0, _, at1 => at1
  | f + 1, i, at1 => if n ≤ i then at1 else fdF tx ty n x y f (i + 1) (if (tx i : Int) = x then (if (ty i : Int) = y then i else at1) else at1)
theorem fdF_s (tx ty : Nat → Nat) (n : Nat) (x y : Int) (f i at1 : Nat) : fdF tx ty n x y (f + 1) i at1 = if n ≤ i then at1 else fdF tx ty n x y f (i + 1) (if (tx i : Int) = x then (if (ty i : Int) = y then i else at1) else at1) := rfl
theorem fdF_0 (tx ty : Nat → Nat) (n : Nat) (x y : Int) (i at1 : Nat) : fdF tx ty n x y 0 i at1 = at1 := rfl
set_option maxRecDepth 100000 in
set_option maxHeartbeats 1000000 in
theorem c_X2_find (l : Launch) (D : va_G) (hm : Nat) (p a b : Int) (n : Nat) (key dr th : Int) (hX hY hR hO : Nat) (sx sy dk dv : Int32) (cX cY : ClassId) (tx ty : Nat → Nat) (hT : ∀ j, tx j ≤ 1020 ∧ ty j ≤ 1020) (hn : n ≤ 1100) (x y : Int) (hx1 : rg x) (hy1 : rg y) : Met l yX2_find (Cond.code yX2_find cX2_find 5 (some .int) :: AW) ({ frames := 0, cells := 0, slots := 0, locals := 0 } : Room) (PcW D [(hm, .inr (2, MO p a b n key dr th hX hY hR hO sx sy dk dv)), (hX, .inl (cX, 1100, .inl (fun j => ii ((tx j : Nat) : Int)))), (hY, .inl (cY, 1100, .inl (fun j => ii ((ty j : Nat) : Int))))] [(cX, .int), (cY, .int)] [.ref hm, .int (ii x), .int (ii y)]) (QcV (some (.int (ii ((fdF tx ty n x y 1100 1 0 : Nat) : Int))))) 0 0 (fun _ => False) := by
  refine mt_W (by decide +kernel) (Nat.le_of_ble_eq_true rfl) ?_
  intro P0 E0 S0 M0 A0 B0 T0 K0 C hN hP hK hr hk ls hl
  have hl : lv_has ls 5 [(0, .ref hm), (1, .int (ii x)), (2, .int (ii y))] := hl
  generalize hV : fdF tx ty n x y 1100 1 0 = V
  have loop : ∀ (f : Nat) (ls : Array Slot) (i k : Nat), i + f = 1101 → k ≤ 1100 → fdF tx ty n x y f i k = V → lv_has ls 5 [(0, .ref hm), (1, .int (ii x)), (2, .int (ii y)), (3, .int (ii (k : Int))), (4, .int (ii (i : Int)))] → W P0 l E0 ({ frames := 0, cells := 0, slots := 0, locals := 0 } : Room) S0 M0 A0 B0 T0 K0 S0.heap [] 0 0 (MQ B0 (QcV (some (.int (ii (V : Nat))))) A0 S0 0 0 (fun _ => False)) (F0 M0 5 ls []) := by
    intro f
    induction f with
    | zero =>
    intro ls i k hf hk1 hV hl
    rw [fdF_0] at hV
    refine lv_iload C.1 C.2.1 dX2_find_5 (lv_at hl 4 rfl) ?_
    refine lv_aload_n C.1 C.2.1 dX2_find_7 rfl (lv_at hl 0 rfl) ?_
    refine gf C hK hP 0 rfl rfl aw_uX2 3 (by decide) aw_f_X2_65 rfl dX2_find_8 ?_
    refine i_icmp_ge (tgt := 49) C dX2_find_11 (by decide) ⟨by omega, by omega⟩ ⟨by omega, by omega⟩ (fun h1 => ?_) (fun h1 => ?_)
    · refine lv_iload_n C.1 C.2.1 dX2_find_49 rfl (lv_at hl 3 rfl) ?_
      exact rt_i C hr hk dX2_find_50 (by subst hV; rfl)
    · omega
    | succ f ih =>
    intro ls i k hf hk1 hV hl
    rw [fdF_s] at hV
    have b1 := hT i
    refine lv_iload C.1 C.2.1 dX2_find_5 (lv_at hl 4 rfl) ?_
    refine lv_aload_n C.1 C.2.1 dX2_find_7 rfl (lv_at hl 0 rfl) ?_
    refine gf C hK hP 0 rfl rfl aw_uX2 3 (by decide) aw_f_X2_65 rfl dX2_find_8 ?_
    refine i_icmp_ge (tgt := 49) C dX2_find_11 (by decide) ⟨by omega, by omega⟩ ⟨by omega, by omega⟩ (fun h1 => ?_) (fun h1 => ?_)
    · rw [if_pos (show n ≤ i by omega)] at hV
      refine lv_iload_n C.1 C.2.1 dX2_find_49 rfl (lv_at hl 3 rfl) ?_
      exact rt_i C hr hk dX2_find_50 (by subst hV; rfl)
    · rw [if_neg (show ¬ n ≤ i by omega)] at hV
      refine lv_aload_n C.1 C.2.1 dX2_find_14 rfl (lv_at hl 0 rfl) ?_
      refine gf C hK hP 0 rfl rfl aw_uX2 7 (by decide) aw_f_X2_7 rfl dX2_find_15 ?_
      refine lv_iload C.1 C.2.1 dX2_find_18 (lv_at hl 4 rfl) ?_
      refine i_ald C hK hP 1 0 rfl rfl i (by omega) (by omega) (by omega) dX2_find_20 ?_
      refine lv_iload_n C.1 C.2.1 dX2_find_21 rfl (lv_at hl 1 rfl) ?_
      refine i_icmp_ne (tgt := 41) C dX2_find_22 (by decide) ⟨by omega, by omega⟩ ⟨by omega, by omega⟩ (fun h2 => ?_) (fun h2 => ?_)
      · rw [if_neg h2] at hV
        refine lv_iload_n C.1 C.2.1 dX2_find_41 rfl (lv_at hl 3 rfl) ?_
        refine lv_istore_n C.1 C.2.1 dX2_find_42 rfl hl (by decide) rfl (fun ls hl => ?_)
        have hl : lv_has ls 5 [(3, .int (ii (k : Int))), (0, .ref hm), (1, .int (ii x)), (2, .int (ii y)), (4, .int (ii (i : Int)))] := hl
        refine lv_iinc C.1 C.2.1 dX2_find_43 hl (k := 4) rfl (ii_add (i : Int) 1) (by decide) rfl (fun ls hl => ?_)
        have hl : lv_has ls 5 [(4, .int (ii ((i : Int) + 1))), (3, .int (ii (k : Int))), (0, .ref hm), (1, .int (ii x)), (2, .int (ii y))] := hl
        refine lv_goto (tgt := 5) C.1 C.2.1 dX2_find_46 (by decide) ?_
        exact ih ls (i + 1) k (by omega) (by omega) hV (lv_sub (l' := [(0, .ref hm), (1, .int (ii x)), (2, .int (ii y)), (3, .int (ii (k : Int))), (4, .int (ii ((i : Int) + 1)))]) hl [2, 3, 4, 1, 0] rfl)
      · rw [if_pos (Classical.not_not.mp h2)] at hV
        refine lv_aload_n C.1 C.2.1 dX2_find_25 rfl (lv_at hl 0 rfl) ?_
        refine gf C hK hP 0 rfl rfl aw_uX2 8 (by decide) aw_f_X2_13 rfl dX2_find_26 ?_
        refine lv_iload C.1 C.2.1 dX2_find_29 (lv_at hl 4 rfl) ?_
        refine i_ald C hK hP 2 1 rfl rfl i (by omega) (by omega) (by omega) dX2_find_31 ?_
        refine lv_iload_n C.1 C.2.1 dX2_find_32 rfl (lv_at hl 2 rfl) ?_
        refine i_icmp_ne (tgt := 41) C dX2_find_33 (by decide) ⟨by omega, by omega⟩ ⟨by omega, by omega⟩ (fun h3 => ?_) (fun h3 => ?_)
        · rw [if_neg h3] at hV
          refine lv_iload_n C.1 C.2.1 dX2_find_41 rfl (lv_at hl 3 rfl) ?_
          refine lv_istore_n C.1 C.2.1 dX2_find_42 rfl hl (by decide) rfl (fun ls hl => ?_)
          have hl : lv_has ls 5 [(3, .int (ii (k : Int))), (0, .ref hm), (1, .int (ii x)), (2, .int (ii y)), (4, .int (ii (i : Int)))] := hl
          refine lv_iinc C.1 C.2.1 dX2_find_43 hl (k := 4) rfl (ii_add (i : Int) 1) (by decide) rfl (fun ls hl => ?_)
          have hl : lv_has ls 5 [(4, .int (ii ((i : Int) + 1))), (3, .int (ii (k : Int))), (0, .ref hm), (1, .int (ii x)), (2, .int (ii y))] := hl
          refine lv_goto (tgt := 5) C.1 C.2.1 dX2_find_46 (by decide) ?_
          exact ih ls (i + 1) k (by omega) (by omega) hV (lv_sub (l' := [(0, .ref hm), (1, .int (ii x)), (2, .int (ii y)), (3, .int (ii (k : Int))), (4, .int (ii ((i : Int) + 1)))]) hl [2, 3, 4, 1, 0] rfl)
        · rw [if_pos (Classical.not_not.mp h3)] at hV
          refine lv_iload C.1 C.2.1 dX2_find_36 (lv_at hl 4 rfl) ?_
          refine lv_goto (tgt := 42) C.1 C.2.1 dX2_find_38 (by decide) ?_
          refine lv_istore_n C.1 C.2.1 dX2_find_42 rfl hl (by decide) rfl (fun ls hl => ?_)
          have hl : lv_has ls 5 [(3, .int (ii (i : Int))), (0, .ref hm), (1, .int (ii x)), (2, .int (ii y)), (4, .int (ii (i : Int)))] := hl
          refine lv_iinc C.1 C.2.1 dX2_find_43 hl (k := 4) rfl (ii_add (i : Int) 1) (by decide) rfl (fun ls hl => ?_)
          have hl : lv_has ls 5 [(4, .int (ii ((i : Int) + 1))), (3, .int (ii (i : Int))), (0, .ref hm), (1, .int (ii x)), (2, .int (ii y))] := hl
          refine lv_goto (tgt := 5) C.1 C.2.1 dX2_find_46 (by decide) ?_
          exact ih ls (i + 1) i (by omega) (by omega) hV (lv_sub (l' := [(0, .ref hm), (1, .int (ii x)), (2, .int (ii y)), (3, .int (ii (i : Int))), (4, .int (ii ((i : Int) + 1)))]) hl [2, 3, 4, 1, 0] rfl)
  refine i_const C dX2_find_0 ?_
  refine lv_istore_n C.1 C.2.1 dX2_find_1 rfl hl (by decide) rfl (fun ls hl => ?_)
  have hl : lv_has ls 5 [(3, .int (ii 0)), (0, .ref hm), (1, .int (ii x)), (2, .int (ii y))] := hl
  refine i_const C dX2_find_2 ?_
  refine lv_istore C.1 C.2.1 dX2_find_3 hl (by decide) rfl (fun ls hl => ?_)
  have hl : lv_has ls 5 [(4, .int (ii 1)), (3, .int (ii 0)), (0, .ref hm), (1, .int (ii x)), (2, .int (ii y))] := hl
  exact loop 1100 ls 1 0 (by omega) (by omega) hV (lv_sub (l' := [(0, .ref hm), (1, .int (ii x)), (2, .int (ii y)), (3, .int (ii 0)), (4, .int (ii 1))]) hl [2, 3, 4, 1, 0] rfl)
def boF (tx ty : Nat → Nat) (i : Nat) (k : Int) : Int := if i = 0 then 0 else if k = 0 then 17179869184 + (tx i : Int) * 65536 + (ty i : Int) else (2 + (ty i : Int) % 2) * 65536 + (tx i : Int)
theorem boF_b {tx ty : Nat → Nat} (hT : ∀ j, tx j ≤ 1020 ∧ ty j ≤ 1020) (i : Nat) (k : Int) : 0 ≤ boF tx ty i k ∧ boF tx ty i k < 18000000000 := by
  unfold boF
  have := hT i
  repeat' split
  all_goals omega
set_option maxRecDepth 100000 in
set_option maxHeartbeats 1000000 in
theorem c_X2_bytesOf (l : Launch) (D : va_G) (hm : Nat) (p a b : Int) (n : Nat) (key dr th : Int) (hX hY hR hO : Nat) (sx sy dk dv : Int32) (cX cY : ClassId) (tx ty : Nat → Nat) (hT : ∀ j, tx j ≤ 1020 ∧ ty j ≤ 1020) (hn : n ≤ 1100) (i : Nat) (hi : i < 1100) (k : Int) (hk1 : k = 0 ∨ k = 1) : Met l yX2_bytesOf (Cond.code yX2_bytesOf cX2_bytesOf 3 (some .long) :: AW) ({ frames := 0, cells := 0, slots := 0, locals := 0 } : Room) (PcW D [(hm, .inr (2, MO p a b n key dr th hX hY hR hO sx sy dk dv)), (hX, .inl (cX, 1100, .inl (fun j => ii ((tx j : Nat) : Int)))), (hY, .inl (cY, 1100, .inl (fun j => ii ((ty j : Nat) : Int))))] [(cX, .int), (cY, .int)] [.ref hm, .int (ii (i : Int)), .int (ii k)]) (QcV (some (.long (li (boF tx ty i k))))) 0 0 (fun _ => False) := by
  refine mt_W (by decide +kernel) (Nat.le_of_ble_eq_true rfl) ?_
  intro P0 E0 S0 M0 A0 B0 T0 K0 C hN hP hK hr hk ls hl
  have hl : lv_has ls 3 [(0, .ref hm), (1, .int (ii (i : Int))), (2, .int (ii k))] := hl
  generalize hV : boF tx ty i k = V
  unfold boF at hV
  have b1 := hT i
  refine lv_iload_n C.1 C.2.1 dX2_bytesOf_0 rfl (lv_at hl 1 rfl) ?_
  refine i_if_ne (tgt := 6) C dX2_bytesOf_1 (by decide) ⟨by omega, by omega⟩ (fun h1 => ?_) (fun h1 => ?_)
  · rw [if_neg (show ¬ i = 0 by omega)] at hV
    refine lv_iload_n C.1 C.2.1 dX2_bytesOf_6 rfl (lv_at hl 2 rfl) ?_
    refine i_if_eq (tgt := 36) C dX2_bytesOf_7 (by decide) ⟨by omega, by omega⟩ (fun h2 => ?_) (fun h2 => ?_)
    · rw [if_pos h2] at hV
      refine l_ldc2 (n := 17179869184) C dX2_bytesOf_36 aw_k_X2_92 (by decide +kernel) ?_
      refine lv_aload_n C.1 C.2.1 dX2_bytesOf_39 rfl (lv_at hl 0 rfl) ?_
      refine gf C hK hP 0 rfl rfl aw_uX2 7 (by decide) aw_f_X2_7 rfl dX2_bytesOf_40 ?_
      refine lv_iload_n C.1 C.2.1 dX2_bytesOf_43 rfl (lv_at hl 1 rfl) ?_
      refine i_ald C hK hP 1 0 rfl rfl i (by omega) (by omega) (by omega) dX2_bytesOf_44 ?_
      refine l_i2l C dX2_bytesOf_45 ⟨by omega, by omega⟩ ?_
      refine l_ldc2 (n := 65536) C dX2_bytesOf_46 aw_k_X2_90 (by decide +kernel) ?_
      refine l_mul C dX2_bytesOf_49 ?_
      refine l_add C dX2_bytesOf_50 ?_
      refine lv_aload_n C.1 C.2.1 dX2_bytesOf_51 rfl (lv_at hl 0 rfl) ?_
      refine gf C hK hP 0 rfl rfl aw_uX2 8 (by decide) aw_f_X2_13 rfl dX2_bytesOf_52 ?_
      refine lv_iload_n C.1 C.2.1 dX2_bytesOf_55 rfl (lv_at hl 1 rfl) ?_
      refine i_ald C hK hP 2 1 rfl rfl i (by omega) (by omega) (by omega) dX2_bytesOf_56 ?_
      refine l_i2l C dX2_bytesOf_57 ⟨by omega, by omega⟩ ?_
      refine l_add C dX2_bytesOf_58 ?_
      exact rt_l C hr hk dX2_bytesOf_59 (by rw [← hV])
    · rw [if_neg h2] at hV
      refine l_ldc2 (n := 2) C dX2_bytesOf_10 aw_k_X2_88 (by decide +kernel) ?_
      refine lv_aload_n C.1 C.2.1 dX2_bytesOf_13 rfl (lv_at hl 0 rfl) ?_
      refine gf C hK hP 0 rfl rfl aw_uX2 8 (by decide) aw_f_X2_13 rfl dX2_bytesOf_14 ?_
      refine lv_iload_n C.1 C.2.1 dX2_bytesOf_17 rfl (lv_at hl 1 rfl) ?_
      refine i_ald C hK hP 2 1 rfl rfl i (by omega) (by omega) (by omega) dX2_bytesOf_18 ?_
      refine i_const C dX2_bytesOf_19 ?_
      refine i_rem C dX2_bytesOf_20 ⟨by omega, by omega⟩ ⟨by omega, by omega⟩ ?_
      refine l_i2l C dX2_bytesOf_21 ⟨by omega, by omega⟩ ?_
      refine l_add C dX2_bytesOf_22 ?_
      refine l_ldc2 (n := 65536) C dX2_bytesOf_23 aw_k_X2_90 (by decide +kernel) ?_
      refine l_mul C dX2_bytesOf_26 ?_
      refine lv_aload_n C.1 C.2.1 dX2_bytesOf_27 rfl (lv_at hl 0 rfl) ?_
      refine gf C hK hP 0 rfl rfl aw_uX2 7 (by decide) aw_f_X2_7 rfl dX2_bytesOf_28 ?_
      refine lv_iload_n C.1 C.2.1 dX2_bytesOf_31 rfl (lv_at hl 1 rfl) ?_
      refine i_ald C hK hP 1 0 rfl rfl i (by omega) (by omega) (by omega) dX2_bytesOf_32 ?_
      refine l_i2l C dX2_bytesOf_33 ⟨by omega, by omega⟩ ?_
      refine l_add C dX2_bytesOf_34 ?_
      exact rt_l C hr hk dX2_bytesOf_35 (by rw [← hV])
  · rw [if_pos (show i = 0 by omega)] at hV
    refine l_const0 C dX2_bytesOf_4 ?_
    exact rt_l C hr hk dX2_bytesOf_5 (by subst hV; rfl)
def rdF (tx ty : Nat → Nat) (n : Nat) (k z : Int) : Nat → Nat → Int → Int
  | 0, _, at1 => at1
  | f + 1, i, at1 => if n ≤ i then at1 else rdF tx ty n k z f (i + 1) (if (k = 3 ∧ boF tx ty i 1 = z) ∨ (k = 5 ∧ boF tx ty i 0 = z) then (i : Int) else at1)
theorem rdF_s (tx ty : Nat → Nat) (n : Nat) (k z : Int) (f i : Nat) (at1 : Int) : rdF tx ty n k z (f + 1) i at1 = if n ≤ i then at1 else rdF tx ty n k z f (i + 1) (if (k = 3 ∧ boF tx ty i 1 = z) ∨ (k = 5 ∧ boF tx ty i 0 = z) then (i : Int) else at1) := rfl
theorem rdF_0 (tx ty : Nat → Nat) (n : Nat) (k z : Int) (i : Nat) (at1 : Int) : rdF tx ty n k z 0 i at1 = at1 := rfl
def reF (tx ty : Nat → Nat) (n : Nat) (k z : Int) : Int := if k = 1 then (if z = 0 then 0 else -1) else rdF tx ty n k z 1100 1 (-1)
set_option maxRecDepth 100000 in
set_option maxHeartbeats 1000000 in
theorem c_X2_read (l : Launch) (D : va_G) (hm : Nat) (p a b : Int) (n : Nat) (key dr th : Int) (hX hY hR hO : Nat) (sx sy dk dv : Int32) (cX cY : ClassId) (tx ty : Nat → Nat) (hT : ∀ j, tx j ≤ 1020 ∧ ty j ≤ 1020) (hn : n ≤ 1100) (k z : Int) (hk1 : rg k) (hz : rl z) : Met l yX2_read (Cond.code yX2_read cX2_read 7 (some .int) :: AW) ({ frames := 1, cells := 0, slots := 0, locals := 24 } : Room) (PcW D [(hm, .inr (2, MO p a b n key dr th hX hY hR hO sx sy dk dv)), (hX, .inl (cX, 1100, .inl (fun j => ii ((tx j : Nat) : Int)))), (hY, .inl (cY, 1100, .inl (fun j => ii ((ty j : Nat) : Int))))] [(cX, .int), (cY, .int)] [.ref hm, .int (ii k), .long (li z)]) (QcV (some (.int (ii (reF tx ty n k z))))) 0 0 (fun _ => False) := by
  refine mt_W (by decide +kernel) (Nat.le_of_ble_eq_true rfl) ?_
  intro P0 E0 S0 M0 A0 B0 T0 K0 C hN hP hK hr hk ls hl
  have hl : lv_has ls 7 [(0, .ref hm), (1, .int (ii k)), (2, .long (li z))] := hl
  generalize hV : reF tx ty n k z = V
  unfold reF at hV
  have loop : ∀ (f : Nat) (ls : Array Slot) (i : Nat) (u : Int), 1 ≤ i → i + f = 1101 → (-1 ≤ u ∧ u ≤ 1100) → rdF tx ty n k z f i u = V → lv_has ls 7 [(0, .ref hm), (1, .int (ii k)), (2, .long (li z)), (4, .int (ii u)), (5, .int (ii (i : Int)))] → W P0 l E0 ({ frames := 1, cells := 0, slots := 0, locals := 24 } : Room) S0 M0 A0 B0 T0 K0 S0.heap [] 0 0 (MQ B0 (QcV (some (.int (ii V)))) A0 S0 0 0 (fun _ => False)) (F0 M0 23 ls []) := by
    intro f
    induction f with
    | zero =>
    intro ls i u h1i hf hu hV hl
    rw [rdF_0] at hV
    refine lv_iload C.1 C.2.1 dX2_read_23 (lv_at hl 4 rfl) ?_
    refine lv_aload_n C.1 C.2.1 dX2_read_25 rfl (lv_at hl 0 rfl) ?_
    refine gf C hK hP 0 rfl rfl aw_uX2 3 (by decide) aw_f_X2_65 rfl dX2_read_26 ?_
    refine i_icmp_ge (tgt := 93) C dX2_read_29 (by decide) ⟨by omega, by omega⟩ ⟨by omega, by omega⟩ (fun h1 => ?_) (fun h1 => ?_)
    · refine lv_iload C.1 C.2.1 dX2_read_93 (lv_at hl 3 rfl) ?_
      exact rt_i C hr hk dX2_read_95 (by subst hV; rfl)
    · omega
    | succ f ih =>
    intro ls i u h1i hf hu hV hl
    rw [rdF_s] at hV
    have b1 := boF_b hT i 1
    have b0 := boF_b hT i 0
    refine lv_iload C.1 C.2.1 dX2_read_23 (lv_at hl 4 rfl) ?_
    refine lv_aload_n C.1 C.2.1 dX2_read_25 rfl (lv_at hl 0 rfl) ?_
    refine gf C hK hP 0 rfl rfl aw_uX2 3 (by decide) aw_f_X2_65 rfl dX2_read_26 ?_
    refine i_icmp_ge (tgt := 93) C dX2_read_29 (by decide) ⟨by omega, by omega⟩ ⟨by omega, by omega⟩ (fun h1 => ?_) (fun h1 => ?_)
    · rw [if_pos (show n ≤ i by omega)] at hV
      refine lv_iload C.1 C.2.1 dX2_read_93 (lv_at hl 3 rfl) ?_
      exact rt_i C hr hk dX2_read_95 (by subst hV; rfl)
    · rw [if_neg (show ¬ n ≤ i by omega)] at hV
      refine lv_iload_n C.1 C.2.1 dX2_read_32 rfl (lv_at hl 1 rfl) ?_
      refine i_const C dX2_read_33 ?_
      refine i_icmp_ne (tgt := 49) C dX2_read_34 (by decide) ⟨by omega, by omega⟩ ⟨by omega, by omega⟩ (fun h2 => ?_) (fun h2 => ?_)
      · refine lv_iload_n C.1 C.2.1 dX2_read_49 rfl (lv_at hl 1 rfl) ?_
        refine i_const C dX2_read_50 ?_
        refine i_icmp_ne (tgt := 70) C dX2_read_51 (by decide) ⟨by omega, by omega⟩ ⟨by omega, by omega⟩ (fun h4 => ?_) (fun h4 => ?_)
        · rw [if_neg (show ¬ ((k = 3 ∧ boF tx ty i 1 = z) ∨ (k = 5 ∧ boF tx ty i 0 = z)) by omega)] at hV
          refine i_const C dX2_read_70 ?_
          refine lv_istore C.1 C.2.1 dX2_read_71 hl (by decide) rfl (fun ls hl => ?_)
          have hl : lv_has ls 7 [(6, .int (ii 0)), (0, .ref hm), (1, .int (ii k)), (2, .long (li z)), (4, .int (ii u)), (5, .int (ii (i : Int)))] := hl
          refine lv_iload C.1 C.2.1 dX2_read_73 (lv_at hl 0 rfl) ?_
          refine i_if_eq (tgt := 83) C dX2_read_75 (by decide) ⟨by omega, by omega⟩ (fun h9 => ?_) (fun h9 => ?_)
          · refine lv_iload C.1 C.2.1 dX2_read_83 (lv_at hl 4 rfl) ?_
            refine lv_istore C.1 C.2.1 dX2_read_85 hl (by decide) rfl (fun ls hl => ?_)
            have hl : lv_has ls 7 [(4, .int (ii u)), (6, .int (ii 0)), (0, .ref hm), (1, .int (ii k)), (2, .long (li z)), (5, .int (ii (i : Int)))] := hl
            refine lv_iinc C.1 C.2.1 dX2_read_87 hl (k := 5) rfl (ii_add (i : Int) 1) (by decide) rfl (fun ls hl => ?_)
            have hl : lv_has ls 7 [(5, .int (ii ((i : Int) + 1))), (4, .int (ii u)), (6, .int (ii 0)), (0, .ref hm), (1, .int (ii k)), (2, .long (li z))] := hl
            refine lv_goto (tgt := 23) C.1 C.2.1 dX2_read_90 (by decide) ?_
            exact ih ls (i + 1) u (by omega) (by omega) (by omega) hV (lv_sub (l' := [(0, .ref hm), (1, .int (ii k)), (2, .long (li z)), (4, .int (ii u)), (5, .int (ii ((i : Int) + 1)))]) hl [3, 4, 5, 1, 0] rfl)
          · omega
        · refine lv_aload_n C.1 C.2.1 dX2_read_54 rfl (lv_at hl 0 rfl) ?_
          refine lv_iload C.1 C.2.1 dX2_read_55 (lv_at hl 4 rfl) ?_
          refine i_const C dX2_read_57 ?_
          refine ca_V (As := [.int (ii (i : Int)), .int (ii 0)]) (rest := []) C (c_X2_bytesOf l D hm p a b n key dr th hX hY hR hO sx sy dk dv cX cY tx ty hT hn i (by omega) 0 (by omega)) (pcw_preV [.int (ii (i : Int)), .int (ii 0)] hN hP hK 0 (ci := 2) rfl rfl) aw_b_X2_bytesOf aw_m_X2_94 aw_v_X2_bytesOf aw_i_X2 aw_e_X2_bytesOf ⟨rfl, rfl⟩ 2 (by decide +kernel) rfl ⟨by decide, by decide⟩ hl.1 rfl (Nat.le_of_ble_eq_true rfl) dX2_read_58 ⟨by decide, by decide⟩ ?_
          refine lv_lload_n C.1 C.2.1 dX2_read_61 rfl (lv_at hl 2 rfl) ?_
          refine l_cmp C dX2_read_62 ⟨by omega, by omega⟩ ⟨by omega, by omega⟩ ?_
          have cb62 := cmI_b (boF tx ty i 0) z
          have ce62 := cmI_eq (a := boF tx ty i 0) (b := z)
          have cl62 := cmI_lt (a := boF tx ty i 0) (b := z)
          refine i_if_ne (tgt := 70) C dX2_read_63 (by decide) ⟨by omega, by omega⟩ (fun h5 => ?_) (fun h5 => ?_)
          · rw [if_neg (show ¬ ((k = 3 ∧ boF tx ty i 1 = z) ∨ (k = 5 ∧ boF tx ty i 0 = z)) by omega)] at hV
            refine i_const C dX2_read_70 ?_
            refine lv_istore C.1 C.2.1 dX2_read_71 hl (by decide) rfl (fun ls hl => ?_)
            have hl : lv_has ls 7 [(6, .int (ii 0)), (0, .ref hm), (1, .int (ii k)), (2, .long (li z)), (4, .int (ii u)), (5, .int (ii (i : Int)))] := hl
            refine lv_iload C.1 C.2.1 dX2_read_73 (lv_at hl 0 rfl) ?_
            refine i_if_eq (tgt := 83) C dX2_read_75 (by decide) ⟨by omega, by omega⟩ (fun h9 => ?_) (fun h9 => ?_)
            · refine lv_iload C.1 C.2.1 dX2_read_83 (lv_at hl 4 rfl) ?_
              refine lv_istore C.1 C.2.1 dX2_read_85 hl (by decide) rfl (fun ls hl => ?_)
              have hl : lv_has ls 7 [(4, .int (ii u)), (6, .int (ii 0)), (0, .ref hm), (1, .int (ii k)), (2, .long (li z)), (5, .int (ii (i : Int)))] := hl
              refine lv_iinc C.1 C.2.1 dX2_read_87 hl (k := 5) rfl (ii_add (i : Int) 1) (by decide) rfl (fun ls hl => ?_)
              have hl : lv_has ls 7 [(5, .int (ii ((i : Int) + 1))), (4, .int (ii u)), (6, .int (ii 0)), (0, .ref hm), (1, .int (ii k)), (2, .long (li z))] := hl
              refine lv_goto (tgt := 23) C.1 C.2.1 dX2_read_90 (by decide) ?_
              exact ih ls (i + 1) u (by omega) (by omega) (by omega) hV (lv_sub (l' := [(0, .ref hm), (1, .int (ii k)), (2, .long (li z)), (4, .int (ii u)), (5, .int (ii ((i : Int) + 1)))]) hl [3, 4, 5, 1, 0] rfl)
            · omega
          · rw [if_pos (show (k = 3 ∧ boF tx ty i 1 = z) ∨ (k = 5 ∧ boF tx ty i 0 = z) by omega)] at hV
            refine i_const C dX2_read_66 ?_
            refine lv_goto (tgt := 71) C.1 C.2.1 dX2_read_67 (by decide) ?_
            refine lv_istore C.1 C.2.1 dX2_read_71 hl (by decide) rfl (fun ls hl => ?_)
            have hl : lv_has ls 7 [(6, .int (ii 1)), (0, .ref hm), (1, .int (ii k)), (2, .long (li z)), (4, .int (ii u)), (5, .int (ii (i : Int)))] := hl
            refine lv_iload C.1 C.2.1 dX2_read_73 (lv_at hl 0 rfl) ?_
            refine i_if_eq (tgt := 83) C dX2_read_75 (by decide) ⟨by omega, by omega⟩ (fun h9 => ?_) (fun h9 => ?_)
            · omega
            · refine lv_iload C.1 C.2.1 dX2_read_78 (lv_at hl 5 rfl) ?_
              refine lv_goto (tgt := 85) C.1 C.2.1 dX2_read_80 (by decide) ?_
              refine lv_istore C.1 C.2.1 dX2_read_85 hl (by decide) rfl (fun ls hl => ?_)
              have hl : lv_has ls 7 [(4, .int (ii (i : Int))), (6, .int (ii 1)), (0, .ref hm), (1, .int (ii k)), (2, .long (li z)), (5, .int (ii (i : Int)))] := hl
              refine lv_iinc C.1 C.2.1 dX2_read_87 hl (k := 5) rfl (ii_add (i : Int) 1) (by decide) rfl (fun ls hl => ?_)
              have hl : lv_has ls 7 [(5, .int (ii ((i : Int) + 1))), (4, .int (ii (i : Int))), (6, .int (ii 1)), (0, .ref hm), (1, .int (ii k)), (2, .long (li z))] := hl
              refine lv_goto (tgt := 23) C.1 C.2.1 dX2_read_90 (by decide) ?_
              exact ih ls (i + 1) (i : Int) (by omega) (by omega) (by omega) hV (lv_sub (l' := [(0, .ref hm), (1, .int (ii k)), (2, .long (li z)), (4, .int (ii (i : Int))), (5, .int (ii ((i : Int) + 1)))]) hl [3, 4, 5, 1, 0] rfl)
      · refine lv_aload_n C.1 C.2.1 dX2_read_37 rfl (lv_at hl 0 rfl) ?_
        refine lv_iload C.1 C.2.1 dX2_read_38 (lv_at hl 4 rfl) ?_
        refine i_const C dX2_read_40 ?_
        refine ca_V (As := [.int (ii (i : Int)), .int (ii 1)]) (rest := []) C (c_X2_bytesOf l D hm p a b n key dr th hX hY hR hO sx sy dk dv cX cY tx ty hT hn i (by omega) 1 (by omega)) (pcw_preV [.int (ii (i : Int)), .int (ii 1)] hN hP hK 0 (ci := 2) rfl rfl) aw_b_X2_bytesOf aw_m_X2_94 aw_v_X2_bytesOf aw_i_X2 aw_e_X2_bytesOf ⟨rfl, rfl⟩ 2 (by decide +kernel) rfl ⟨by decide, by decide⟩ hl.1 rfl (Nat.le_of_ble_eq_true rfl) dX2_read_41 ⟨by decide, by decide⟩ ?_
        refine lv_lload_n C.1 C.2.1 dX2_read_44 rfl (lv_at hl 2 rfl) ?_
        refine l_cmp C dX2_read_45 ⟨by omega, by omega⟩ ⟨by omega, by omega⟩ ?_
        have cb45 := cmI_b (boF tx ty i 1) z
        have ce45 := cmI_eq (a := boF tx ty i 1) (b := z)
        have cl45 := cmI_lt (a := boF tx ty i 1) (b := z)
        refine i_if_eq (tgt := 66) C dX2_read_46 (by decide) ⟨by omega, by omega⟩ (fun h3 => ?_) (fun h3 => ?_)
        · rw [if_pos (show (k = 3 ∧ boF tx ty i 1 = z) ∨ (k = 5 ∧ boF tx ty i 0 = z) by omega)] at hV
          refine i_const C dX2_read_66 ?_
          refine lv_goto (tgt := 71) C.1 C.2.1 dX2_read_67 (by decide) ?_
          refine lv_istore C.1 C.2.1 dX2_read_71 hl (by decide) rfl (fun ls hl => ?_)
          have hl : lv_has ls 7 [(6, .int (ii 1)), (0, .ref hm), (1, .int (ii k)), (2, .long (li z)), (4, .int (ii u)), (5, .int (ii (i : Int)))] := hl
          refine lv_iload C.1 C.2.1 dX2_read_73 (lv_at hl 0 rfl) ?_
          refine i_if_eq (tgt := 83) C dX2_read_75 (by decide) ⟨by omega, by omega⟩ (fun h9 => ?_) (fun h9 => ?_)
          · omega
          · refine lv_iload C.1 C.2.1 dX2_read_78 (lv_at hl 5 rfl) ?_
            refine lv_goto (tgt := 85) C.1 C.2.1 dX2_read_80 (by decide) ?_
            refine lv_istore C.1 C.2.1 dX2_read_85 hl (by decide) rfl (fun ls hl => ?_)
            have hl : lv_has ls 7 [(4, .int (ii (i : Int))), (6, .int (ii 1)), (0, .ref hm), (1, .int (ii k)), (2, .long (li z)), (5, .int (ii (i : Int)))] := hl
            refine lv_iinc C.1 C.2.1 dX2_read_87 hl (k := 5) rfl (ii_add (i : Int) 1) (by decide) rfl (fun ls hl => ?_)
            have hl : lv_has ls 7 [(5, .int (ii ((i : Int) + 1))), (4, .int (ii (i : Int))), (6, .int (ii 1)), (0, .ref hm), (1, .int (ii k)), (2, .long (li z))] := hl
            refine lv_goto (tgt := 23) C.1 C.2.1 dX2_read_90 (by decide) ?_
            exact ih ls (i + 1) (i : Int) (by omega) (by omega) (by omega) hV (lv_sub (l' := [(0, .ref hm), (1, .int (ii k)), (2, .long (li z)), (4, .int (ii (i : Int))), (5, .int (ii ((i : Int) + 1)))]) hl [3, 4, 5, 1, 0] rfl)
        · refine lv_iload_n C.1 C.2.1 dX2_read_49 rfl (lv_at hl 1 rfl) ?_
          refine i_const C dX2_read_50 ?_
          refine i_icmp_ne (tgt := 70) C dX2_read_51 (by decide) ⟨by omega, by omega⟩ ⟨by omega, by omega⟩ (fun h4 => ?_) (fun h4 => ?_)
          · rw [if_neg (show ¬ ((k = 3 ∧ boF tx ty i 1 = z) ∨ (k = 5 ∧ boF tx ty i 0 = z)) by omega)] at hV
            refine i_const C dX2_read_70 ?_
            refine lv_istore C.1 C.2.1 dX2_read_71 hl (by decide) rfl (fun ls hl => ?_)
            have hl : lv_has ls 7 [(6, .int (ii 0)), (0, .ref hm), (1, .int (ii k)), (2, .long (li z)), (4, .int (ii u)), (5, .int (ii (i : Int)))] := hl
            refine lv_iload C.1 C.2.1 dX2_read_73 (lv_at hl 0 rfl) ?_
            refine i_if_eq (tgt := 83) C dX2_read_75 (by decide) ⟨by omega, by omega⟩ (fun h9 => ?_) (fun h9 => ?_)
            · refine lv_iload C.1 C.2.1 dX2_read_83 (lv_at hl 4 rfl) ?_
              refine lv_istore C.1 C.2.1 dX2_read_85 hl (by decide) rfl (fun ls hl => ?_)
              have hl : lv_has ls 7 [(4, .int (ii u)), (6, .int (ii 0)), (0, .ref hm), (1, .int (ii k)), (2, .long (li z)), (5, .int (ii (i : Int)))] := hl
              refine lv_iinc C.1 C.2.1 dX2_read_87 hl (k := 5) rfl (ii_add (i : Int) 1) (by decide) rfl (fun ls hl => ?_)
              have hl : lv_has ls 7 [(5, .int (ii ((i : Int) + 1))), (4, .int (ii u)), (6, .int (ii 0)), (0, .ref hm), (1, .int (ii k)), (2, .long (li z))] := hl
              refine lv_goto (tgt := 23) C.1 C.2.1 dX2_read_90 (by decide) ?_
              exact ih ls (i + 1) u (by omega) (by omega) (by omega) hV (lv_sub (l' := [(0, .ref hm), (1, .int (ii k)), (2, .long (li z)), (4, .int (ii u)), (5, .int (ii ((i : Int) + 1)))]) hl [3, 4, 5, 1, 0] rfl)
            · omega
          · refine lv_aload_n C.1 C.2.1 dX2_read_54 rfl (lv_at hl 0 rfl) ?_
            refine lv_iload C.1 C.2.1 dX2_read_55 (lv_at hl 4 rfl) ?_
            refine i_const C dX2_read_57 ?_
            refine ca_V (As := [.int (ii (i : Int)), .int (ii 0)]) (rest := []) C (c_X2_bytesOf l D hm p a b n key dr th hX hY hR hO sx sy dk dv cX cY tx ty hT hn i (by omega) 0 (by omega)) (pcw_preV [.int (ii (i : Int)), .int (ii 0)] hN hP hK 0 (ci := 2) rfl rfl) aw_b_X2_bytesOf aw_m_X2_94 aw_v_X2_bytesOf aw_i_X2 aw_e_X2_bytesOf ⟨rfl, rfl⟩ 2 (by decide +kernel) rfl ⟨by decide, by decide⟩ hl.1 rfl (Nat.le_of_ble_eq_true rfl) dX2_read_58 ⟨by decide, by decide⟩ ?_
            refine lv_lload_n C.1 C.2.1 dX2_read_61 rfl (lv_at hl 2 rfl) ?_
            refine l_cmp C dX2_read_62 ⟨by omega, by omega⟩ ⟨by omega, by omega⟩ ?_
            have cb62 := cmI_b (boF tx ty i 0) z
            have ce62 := cmI_eq (a := boF tx ty i 0) (b := z)
            have cl62 := cmI_lt (a := boF tx ty i 0) (b := z)
            refine i_if_ne (tgt := 70) C dX2_read_63 (by decide) ⟨by omega, by omega⟩ (fun h5 => ?_) (fun h5 => ?_)
            · rw [if_neg (show ¬ ((k = 3 ∧ boF tx ty i 1 = z) ∨ (k = 5 ∧ boF tx ty i 0 = z)) by omega)] at hV
              refine i_const C dX2_read_70 ?_
              refine lv_istore C.1 C.2.1 dX2_read_71 hl (by decide) rfl (fun ls hl => ?_)
              have hl : lv_has ls 7 [(6, .int (ii 0)), (0, .ref hm), (1, .int (ii k)), (2, .long (li z)), (4, .int (ii u)), (5, .int (ii (i : Int)))] := hl
              refine lv_iload C.1 C.2.1 dX2_read_73 (lv_at hl 0 rfl) ?_
              refine i_if_eq (tgt := 83) C dX2_read_75 (by decide) ⟨by omega, by omega⟩ (fun h9 => ?_) (fun h9 => ?_)
              · refine lv_iload C.1 C.2.1 dX2_read_83 (lv_at hl 4 rfl) ?_
                refine lv_istore C.1 C.2.1 dX2_read_85 hl (by decide) rfl (fun ls hl => ?_)
                have hl : lv_has ls 7 [(4, .int (ii u)), (6, .int (ii 0)), (0, .ref hm), (1, .int (ii k)), (2, .long (li z)), (5, .int (ii (i : Int)))] := hl
                refine lv_iinc C.1 C.2.1 dX2_read_87 hl (k := 5) rfl (ii_add (i : Int) 1) (by decide) rfl (fun ls hl => ?_)
                have hl : lv_has ls 7 [(5, .int (ii ((i : Int) + 1))), (4, .int (ii u)), (6, .int (ii 0)), (0, .ref hm), (1, .int (ii k)), (2, .long (li z))] := hl
                refine lv_goto (tgt := 23) C.1 C.2.1 dX2_read_90 (by decide) ?_
                exact ih ls (i + 1) u (by omega) (by omega) (by omega) hV (lv_sub (l' := [(0, .ref hm), (1, .int (ii k)), (2, .long (li z)), (4, .int (ii u)), (5, .int (ii ((i : Int) + 1)))]) hl [3, 4, 5, 1, 0] rfl)
              · omega
            · rw [if_pos (show (k = 3 ∧ boF tx ty i 1 = z) ∨ (k = 5 ∧ boF tx ty i 0 = z) by omega)] at hV
              refine i_const C dX2_read_66 ?_
              refine lv_goto (tgt := 71) C.1 C.2.1 dX2_read_67 (by decide) ?_
              refine lv_istore C.1 C.2.1 dX2_read_71 hl (by decide) rfl (fun ls hl => ?_)
              have hl : lv_has ls 7 [(6, .int (ii 1)), (0, .ref hm), (1, .int (ii k)), (2, .long (li z)), (4, .int (ii u)), (5, .int (ii (i : Int)))] := hl
              refine lv_iload C.1 C.2.1 dX2_read_73 (lv_at hl 0 rfl) ?_
              refine i_if_eq (tgt := 83) C dX2_read_75 (by decide) ⟨by omega, by omega⟩ (fun h9 => ?_) (fun h9 => ?_)
              · omega
              · refine lv_iload C.1 C.2.1 dX2_read_78 (lv_at hl 5 rfl) ?_
                refine lv_goto (tgt := 85) C.1 C.2.1 dX2_read_80 (by decide) ?_
                refine lv_istore C.1 C.2.1 dX2_read_85 hl (by decide) rfl (fun ls hl => ?_)
                have hl : lv_has ls 7 [(4, .int (ii (i : Int))), (6, .int (ii 1)), (0, .ref hm), (1, .int (ii k)), (2, .long (li z)), (5, .int (ii (i : Int)))] := hl
                refine lv_iinc C.1 C.2.1 dX2_read_87 hl (k := 5) rfl (ii_add (i : Int) 1) (by decide) rfl (fun ls hl => ?_)
                have hl : lv_has ls 7 [(5, .int (ii ((i : Int) + 1))), (4, .int (ii (i : Int))), (6, .int (ii 1)), (0, .ref hm), (1, .int (ii k)), (2, .long (li z))] := hl
                refine lv_goto (tgt := 23) C.1 C.2.1 dX2_read_90 (by decide) ?_
                exact ih ls (i + 1) (i : Int) (by omega) (by omega) (by omega) hV (lv_sub (l' := [(0, .ref hm), (1, .int (ii k)), (2, .long (li z)), (4, .int (ii (i : Int))), (5, .int (ii ((i : Int) + 1)))]) hl [3, 4, 5, 1, 0] rfl)
  refine lv_iload_n C.1 C.2.1 dX2_read_0 rfl (lv_at hl 1 rfl) ?_
  refine i_const C dX2_read_1 ?_
  refine i_icmp_ne (tgt := 17) C dX2_read_2 (by decide) ⟨by omega, by omega⟩ ⟨by omega, by omega⟩ (fun h1 => ?_) (fun h1 => ?_)
  · rw [if_neg h1] at hV
    refine i_const C dX2_read_17 ?_
    refine lv_istore C.1 C.2.1 dX2_read_18 hl (by decide) rfl (fun ls hl => ?_)
    have hl : lv_has ls 7 [(4, .int (ii (-1))), (0, .ref hm), (1, .int (ii k)), (2, .long (li z))] := hl
    refine i_const C dX2_read_20 ?_
    refine lv_istore C.1 C.2.1 dX2_read_21 hl (by decide) rfl (fun ls hl => ?_)
    have hl : lv_has ls 7 [(5, .int (ii 1)), (4, .int (ii (-1))), (0, .ref hm), (1, .int (ii k)), (2, .long (li z))] := hl
    exact loop 1100 ls 1 (-1) (by omega) (by omega) (by omega) hV (lv_sub (l' := [(0, .ref hm), (1, .int (ii k)), (2, .long (li z)), (4, .int (ii (-1))), (5, .int (ii 1))]) hl [2, 3, 4, 1, 0] rfl)
  · rw [if_pos (Classical.not_not.mp h1)] at hV
    refine lv_lload_n C.1 C.2.1 dX2_read_5 rfl (lv_at hl 2 rfl) ?_
    refine l_const0 C dX2_read_6 ?_
    refine l_cmp C dX2_read_7 ⟨by omega, by omega⟩ ⟨by omega, by omega⟩ ?_
    have cb7 := cmI_b z 0
    have ce7 := cmI_eq (a := z) (b := 0)
    have cl7 := cmI_lt (a := z) (b := 0)
    refine i_if_ne (tgt := 15) C dX2_read_8 (by decide) ⟨by omega, by omega⟩ (fun h2 => ?_) (fun h2 => ?_)
    · rw [if_neg (show ¬ z = 0 by omega)] at hV
      refine i_const C dX2_read_15 ?_
      exact rt_i C hr hk dX2_read_16 (by subst hV; rfl)
    · rw [if_pos (show z = 0 by omega)] at hV
      refine i_const C dX2_read_11 ?_
      refine lv_goto (tgt := 16) C.1 C.2.1 dX2_read_12 (by decide) ?_
      exact rt_i C hr hk dX2_read_16 (by subst hV; rfl)
def mfF (tx : Nat → Nat) (n : Nat) (q z r s : Int) : Int := if q ≤ 0 then 0 else if r < 1 then 0 else if (n : Int) ≤ r then 0 else if s < 1 then 0 else if (n : Int) ≤ s then 0 else
  if (z % (n : Int) * ((ivF s.toNat n 1100 1 : Nat) : Int) + r * ((ivF s.toNat n 1100 1 : Nat) : Int) % (n : Int) * q) % (n : Int) = 0 then 0
  else if ((tx ((z % (n : Int) * ((ivF s.toNat n 1100 1 : Nat) : Int) + r * ((ivF s.toNat n 1100 1 : Nat) : Int) % (n : Int) * q) % (n : Int)).toNat : Nat) : Int) % (n : Int) = r then 1 else 0
theorem ivF_b (v m : Nat) : ∀ (f t : Nat), ivF v m f t ≤ m
  | 0, _ => Nat.zero_le _
  | f + 1, t => by
    rw [ivF_s]
    split
    · omega
    · split
      · omega
      · exact ivF_b v m f (t + 1)
set_option maxRecDepth 100000 in
set_option maxHeartbeats 1000000 in
theorem c_X2_fits (l : Launch) (D : va_G) (hm : Nat) (p a b : Int) (n : Nat) (key dr th : Int) (hX hY hR hO : Nat) (sx sy dk dv : Int32) (cX cY : ClassId) (tx ty : Nat → Nat) (hT : ∀ j, tx j ≤ 1020 ∧ ty j ≤ 1020) (hn : n ≤ 1100) (q z r s : Int) (hq : -1 ≤ q ∧ q ≤ 1099) (hz : rl z) (hr1 : rg r) (hs1 : rg s) : Met l yX2_fits (Cond.code yX2_fits cX2_fits 8 (some .boolean) :: AW) ({ frames := 1, cells := 0, slots := 0, locals := 26 } : Room) (PcW D [(hm, .inr (2, MO p a b n key dr th hX hY hR hO sx sy dk dv)), (hX, .inl (cX, 1100, .inl (fun j => ii ((tx j : Nat) : Int)))), (hY, .inl (cY, 1100, .inl (fun j => ii ((ty j : Nat) : Int))))] [(cX, .int), (cY, .int)] [.ref hm, .int (ii q), .long (li z), .int (ii r), .int (ii s)]) (QcV (some (.int (ii (mfF tx n q z r s))))) 0 0 (fun _ => False) := by
  refine mt_W (by decide +kernel) (Nat.le_of_ble_eq_true rfl) ?_
  intro P0 E0 S0 M0 A0 B0 T0 K0 C hN hP hK hr hk ls hl
  have hl : lv_has ls 8 [(0, .ref hm), (1, .int (ii q)), (2, .long (li z)), (4, .int (ii r)), (5, .int (ii s))] := hl
  generalize hV : mfF tx n q z r s = V
  unfold mfF at hV
  refine lv_iload_n C.1 C.2.1 dX2_fits_0 rfl (lv_at hl 1 rfl) ?_
  refine i_if_le (tgt := 34) C dX2_fits_1 (by decide) ⟨by omega, by omega⟩ (fun h1 => ?_) (fun h1 => ?_)
  · rw [if_pos h1] at hV
    refine i_const C dX2_fits_34 ?_
    subst hV
    exact rt_z C hr hk dX2_fits_35 (Or.inl rfl) rfl
  · rw [if_neg h1] at hV
    refine lv_iload C.1 C.2.1 dX2_fits_4 (lv_at hl 3 rfl) ?_
    refine i_const C dX2_fits_6 ?_
    refine i_icmp_lt (tgt := 34) C dX2_fits_7 (by decide) ⟨by omega, by omega⟩ ⟨by omega, by omega⟩ (fun h2 => ?_) (fun h2 => ?_)
    · rw [if_pos h2] at hV
      refine i_const C dX2_fits_34 ?_
      subst hV
      exact rt_z C hr hk dX2_fits_35 (Or.inl rfl) rfl
    · rw [if_neg h2] at hV
      refine lv_iload C.1 C.2.1 dX2_fits_10 (lv_at hl 3 rfl) ?_
      refine lv_aload_n C.1 C.2.1 dX2_fits_12 rfl (lv_at hl 0 rfl) ?_
      refine gf C hK hP 0 rfl rfl aw_uX2 3 (by decide) aw_f_X2_65 rfl dX2_fits_13 ?_
      refine i_icmp_ge (tgt := 34) C dX2_fits_16 (by decide) ⟨by omega, by omega⟩ ⟨by omega, by omega⟩ (fun h3 => ?_) (fun h3 => ?_)
      · rw [if_pos h3] at hV
        refine i_const C dX2_fits_34 ?_
        subst hV
        exact rt_z C hr hk dX2_fits_35 (Or.inl rfl) rfl
      · rw [if_neg h3] at hV
        refine lv_iload C.1 C.2.1 dX2_fits_19 (lv_at hl 4 rfl) ?_
        refine i_const C dX2_fits_21 ?_
        refine i_icmp_lt (tgt := 34) C dX2_fits_22 (by decide) ⟨by omega, by omega⟩ ⟨by omega, by omega⟩ (fun h4 => ?_) (fun h4 => ?_)
        · rw [if_pos h4] at hV
          refine i_const C dX2_fits_34 ?_
          subst hV
          exact rt_z C hr hk dX2_fits_35 (Or.inl rfl) rfl
        · rw [if_neg h4] at hV
          refine lv_iload C.1 C.2.1 dX2_fits_25 (lv_at hl 4 rfl) ?_
          refine lv_aload_n C.1 C.2.1 dX2_fits_27 rfl (lv_at hl 0 rfl) ?_
          refine gf C hK hP 0 rfl rfl aw_uX2 3 (by decide) aw_f_X2_65 rfl dX2_fits_28 ?_
          refine i_icmp_lt (tgt := 36) C dX2_fits_31 (by decide) ⟨by omega, by omega⟩ ⟨by omega, by omega⟩ (fun h5 => ?_) (fun h5 => ?_)
          · rw [if_neg (show ¬ (n : Int) ≤ s by omega)] at hV
            refine lv_aload_n C.1 C.2.1 dX2_fits_36 rfl (lv_at hl 0 rfl) ?_
            refine lv_iload C.1 C.2.1 dX2_fits_37 (lv_at hl 4 rfl) ?_
            refine i_top (b := ((s.toNat : Nat) : Int)) (by omega) ?_
            refine lv_aload_n C.1 C.2.1 dX2_fits_39 rfl (lv_at hl 0 rfl) ?_
            refine gf C hK hP 0 rfl rfl aw_uX2 3 (by decide) aw_f_X2_65 rfl dX2_fits_40 ?_
            refine ca_V (As := [.int (ii ((s.toNat : Nat) : Int)), .int (ii (n : Int))]) (rest := []) C (c_X2_inverse l D hm s.toNat n (by omega) (by omega)) (pcw_preV0 [.int (ii ((s.toNat : Nat) : Int)), .int (ii (n : Int))] hN hP hK 0 (ci := 2) rfl rfl) aw_b_X2_inverse aw_m_X2_44 aw_v_X2_inverse aw_i_X2 aw_e_X2_inverse ⟨rfl, rfl⟩ 2 (by decide +kernel) rfl ⟨by decide, by decide⟩ hl.1 rfl (Nat.le_of_ble_eq_true rfl) dX2_fits_43 ⟨by decide, by decide⟩ ?_
            have v1 := ivF_b s.toNat n 1100 1
            generalize ivF s.toNat n 1100 1 = t at v1 hV ⊢
            have v2 := em_b z (show (0 : Int) < n by omega)
            refine lv_istore C.1 C.2.1 dX2_fits_46 hl (by decide) rfl (fun ls hl => ?_)
            have hl : lv_has ls 8 [(6, .int (ii (t : Int))), (0, .ref hm), (1, .int (ii q)), (2, .long (li z)), (4, .int (ii r)), (5, .int (ii s))] := hl
            refine lv_aload_n C.1 C.2.1 dX2_fits_48 rfl (lv_at hl 1 rfl) ?_
            refine lv_lload_n C.1 C.2.1 dX2_fits_49 rfl (lv_at hl 3 rfl) ?_
            refine ca_V (As := [.long (li z)]) (rest := []) C (c_X2_modulo l D hm p a b n key dr th hX hY hR hO sx sy dk dv (by omega) z hz) (pcw_preV [.long (li z)] hN (hP.sub (ws' := [(hm, .inr (2, MO p a b n key dr th hX hY hR hO sx sy dk dv))]) [0] rfl) (hK.sub (tys' := []) [] rfl) 0 (ci := 2) rfl rfl) aw_b_X2_modulo aw_m_X2_84 aw_v_X2_modulo aw_i_X2 aw_e_X2_modulo ⟨rfl, rfl⟩ 1 (by decide +kernel) rfl ⟨by decide, by decide⟩ hl.1 rfl (Nat.le_of_ble_eq_true rfl) dX2_fits_50 ⟨by decide, by decide⟩ ?_
            have bm : ∀ u v : Int, 0 ≤ u ∧ u ≤ 1100 → 0 ≤ v ∧ v ≤ 1100 → 0 ≤ u * v ∧ u * v ≤ 1210000 := fun u v h1 h2 => ⟨Int.mul_nonneg h1.1 h2.1, Int.mul_le_mul h1.2 h2.2 h2.1 (by omega)⟩
            have v3 := bm (z % (n : Int)) (t : Int) (by omega) (by omega)
            have v4 := bm r (t : Int) (by omega) (by omega)
            have v5 := em_b (r * (t : Int)) (show (0 : Int) < n by omega)
            have v6 := bm (r * (t : Int) % (n : Int)) q (by omega) (by omega)
            have v7 := em_b (z % (n : Int) * (t : Int) + r * (t : Int) % (n : Int) * q) (show (0 : Int) < n by omega)
            refine lv_iload C.1 C.2.1 dX2_fits_53 (lv_at hl 0 rfl) ?_
            refine i_mul C dX2_fits_55 ?_
            refine lv_iload C.1 C.2.1 dX2_fits_56 (lv_at hl 4 rfl) ?_
            refine lv_iload C.1 C.2.1 dX2_fits_58 (lv_at hl 0 rfl) ?_
            refine i_mul C dX2_fits_60 ?_
            refine lv_aload_n C.1 C.2.1 dX2_fits_61 rfl (lv_at hl 1 rfl) ?_
            refine gf C hK hP 0 rfl rfl aw_uX2 3 (by decide) aw_f_X2_65 rfl dX2_fits_62 ?_
            refine i_rem C dX2_fits_65 ⟨by omega, by omega⟩ ⟨by omega, by omega⟩ ?_
            refine lv_iload_n C.1 C.2.1 dX2_fits_66 rfl (lv_at hl 2 rfl) ?_
            refine i_mul C dX2_fits_67 ?_
            refine i_add C dX2_fits_68 ?_
            refine lv_aload_n C.1 C.2.1 dX2_fits_69 rfl (lv_at hl 1 rfl) ?_
            refine gf C hK hP 0 rfl rfl aw_uX2 3 (by decide) aw_f_X2_65 rfl dX2_fits_70 ?_
            refine i_rem C dX2_fits_73 ⟨by omega, by omega⟩ ⟨by omega, by omega⟩ ?_
            generalize (z % (n : Int) * (t : Int) + r * (t : Int) % (n : Int) * q) % (n : Int) = j at v7 hV ⊢
            refine lv_istore C.1 C.2.1 dX2_fits_74 hl (by decide) rfl (fun ls hl => ?_)
            have hl : lv_has ls 8 [(7, .int (ii j)), (6, .int (ii (t : Int))), (0, .ref hm), (1, .int (ii q)), (2, .long (li z)), (4, .int (ii r)), (5, .int (ii s))] := hl
            refine lv_iload C.1 C.2.1 dX2_fits_76 (lv_at hl 0 rfl) ?_
            refine i_if_eq (tgt := 102) C dX2_fits_78 (by decide) ⟨by omega, by omega⟩ (fun h6 => ?_) (fun h6 => ?_)
            · rw [if_pos h6] at hV
              refine i_const C dX2_fits_102 ?_
              subst hV
              exact rt_z C hr hk dX2_fits_103 (Or.inl rfl) rfl
            · rw [if_neg h6] at hV
              have b1 := hT j.toNat
              have b2 := em_b ((tx j.toNat : Nat) : Int) (show (0 : Int) < n by omega)
              refine lv_aload_n C.1 C.2.1 dX2_fits_81 rfl (lv_at hl 2 rfl) ?_
              refine gf C hK hP 0 rfl rfl aw_uX2 7 (by decide) aw_f_X2_7 rfl dX2_fits_82 ?_
              refine lv_iload C.1 C.2.1 dX2_fits_85 (lv_at hl 0 rfl) ?_
              refine i_ald C hK hP 1 0 rfl rfl j.toNat (by omega) (by omega) (by omega) dX2_fits_87 ?_
              refine lv_aload_n C.1 C.2.1 dX2_fits_88 rfl (lv_at hl 2 rfl) ?_
              refine gf C hK hP 0 rfl rfl aw_uX2 3 (by decide) aw_f_X2_65 rfl dX2_fits_89 ?_
              refine i_rem C dX2_fits_92 ⟨by omega, by omega⟩ ⟨by omega, by omega⟩ ?_
              refine lv_iload C.1 C.2.1 dX2_fits_93 (lv_at hl 5 rfl) ?_
              refine i_icmp_ne (tgt := 102) C dX2_fits_95 (by decide) ⟨by omega, by omega⟩ ⟨by omega, by omega⟩ (fun h7 => ?_) (fun h7 => ?_)
              · rw [if_neg h7] at hV
                refine i_const C dX2_fits_102 ?_
                subst hV
                exact rt_z C hr hk dX2_fits_103 (Or.inl rfl) rfl
              · rw [if_pos (Classical.not_not.mp h7)] at hV
                refine i_const C dX2_fits_98 ?_
                refine lv_goto (tgt := 103) C.1 C.2.1 dX2_fits_99 (by decide) ?_
                subst hV
                exact rt_z C hr hk dX2_fits_103 (Or.inr rfl) rfl
          · rw [if_pos (show (n : Int) ≤ s by omega)] at hV
            refine i_const C dX2_fits_34 ?_
            subst hV
            exact rt_z C hr hk dX2_fits_35 (Or.inl rfl) rfl
end
section
/-! The reference: what writes (1). By wip/whole/tools/gen15.py. -/
def gdF (k1 k2 k3 : Int) : Int := if k1 = 0 then (if k2 = 0 then (if k3 = 0 then 0 else 3) else 2) else 1
def goF (k : Int) : Int := if k = 0 then 1 else 0
theorem gdF_b (k1 k2 k3 : Int) : 0 ≤ gdF k1 k2 k3 ∧ gdF k1 k2 k3 ≤ 3 := by
  unfold gdF
  repeat' split
  all_goals omega
def zb (n : Nat) : Int := if n = 0 then 1 else 0
theorem zb_b (n : Nat) : zb n = 0 ∨ zb n = 1 := by
  unfold zb
  split
  · exact Or.inr rfl
  · exact Or.inl rfl
theorem nrF_b (r : Int) : nrF r = 0 ∨ nrF r = 1 := by
  unfold nrF
  repeat' split
  all_goals first | exact Or.inl rfl | exact Or.inr rfl
theorem nrF_0 {r : Int} : nrF r = 0 ↔ okr r := by
  unfold nrF okr
  split
  · omega
  · split <;> omega
set_option maxRecDepth 100000 in
set_option maxHeartbeats 1000000 in
theorem c_X2_good (l : Launch) (D : va_G) (z0 sz : Nat) (hm : Nat) (p a b : Int) (n : Nat) (key dr th : Int) (hX hY hR hO : Nat) (sx sy dk dv : Int32) (k1 k2 k3 : Int) (h1 : k1 = 0 ∨ k1 = 1) (h2 : k2 = 0 ∨ k2 = 1) (h3 : k3 = 0 ∨ k3 = 1) : Met l yX2_good (Cond.code yX2_good cX2_good 4 (some .boolean) :: AW) ({ frames := 0, cells := 0, slots := 0, locals := 0 } : Room) (PcM D z0 sz [(hm, .inr (2, MO p a b n key dr th hX hY hR hO sx sy dk dv))] [] [.ref hm, .int (ii k1), .int (ii k2), .int (ii k3)]) (QcM (some (.int (ii (goF (gdF k1 k2 k3))))) True (Wd D [(hm, .inr (2, MO p a b n key dr (gdF k1 k2 k3) hX hY hR hO sx sy dk dv))] [] (va_A [(hm, .inr (2, MO p a b n key dr th hX hY hR hO sx sy dk dv))] sz)) (va_A [(hm, .inr (2, MO p a b n key dr th hX hY hR hO sx sy dk dv))] sz)) 0 0 (va_A [(hm, .inr (2, MO p a b n key dr th hX hY hR hO sx sy dk dv))] sz) := by
  refine mt_N (by decide +kernel) (Nat.le_of_ble_eq_true rfl) ?_
  intro P0 E0 S0 M0 A0 B0 T0 K0 C hN hZ hsz hz hP hK hD hAz hA hr hk hin ls hl
  have hl : lv_has ls 4 [(0, .ref hm), (1, .int (ii k1)), (2, .int (ii k2)), (3, .int (ii k3))] := hl
  generalize hAe : va_A [(hm, .inr (2, MO p a b n key dr th hX hY hR hO sx sy dk dv))] sz = A at hD hAz hA ⊢
  have hS : va_S A S0.heap S0.heap [] := va_S.rf
  generalize hV : gdF k1 k2 k3 = V
  unfold gdF at hV
  refine lv_aload_n C.1 C.2.1 dX2_good_0 rfl (lv_at hl 0 rfl) ?_
  refine lv_iload_n C.1 C.2.1 dX2_good_1 rfl (lv_at hl 1 rfl) ?_
  refine i_if_eq (tgt := 9) C dX2_good_2 (by decide) ⟨by omega, by omega⟩ (fun e1 => ?_) (fun e1 => ?_)
  · rw [if_pos e1] at hV
    refine lv_iload_n C.1 C.2.1 dX2_good_9 rfl (lv_at hl 2 rfl) ?_
    refine i_if_eq (tgt := 17) C dX2_good_10 (by decide) ⟨by omega, by omega⟩ (fun e2 => ?_) (fun e2 => ?_)
    · rw [if_pos e2] at hV
      refine lv_iload_n C.1 C.2.1 dX2_good_17 rfl (lv_at hl 3 rfl) ?_
      refine i_if_eq (tgt := 25) C dX2_good_18 (by decide) ⟨by omega, by omega⟩ (fun e3 => ?_) (fun e3 => ?_)
      · rw [if_pos e3] at hV
        have hV : 0 = V := hV
        subst hV
        refine i_const C dX2_good_25 ?_
        refine p_f C hK hP hD hS 0 rfl rfl aw_uX2 tyX2 tyX2_ok nmX2 6 (by decide) aw_f_X2_22 rfl rfl rfl (Nat.le_of_ble_eq_true rfl) dX2_good_26 (fun H1 locs1 hP hD hS => ?_)
        have hP : va_P D clX [(hm, .inr (2, MO p a b n key dr 0 hX hY hR hO sx sy dk dv))] H1 := hP
        have hD : va_D A [(hm, .inr (2, MO p a b n key dr 0 hX hY hR hO sx sy dk dv))] := hD
        refine lv_aload_n C.1 C.2.1 dX2_good_29 rfl (lv_at hl 0 rfl) ?_
        refine gf C hK hP 0 rfl rfl aw_uX2 6 (by decide) aw_f_X2_22 rfl dX2_good_30 ?_
        refine i_if_ne (tgt := 40) C dX2_good_33 (by decide) ⟨by omega, by omega⟩ (fun g1 => ?_) (fun g1 => ?_)
        · omega
        · refine i_const C dX2_good_36 ?_
          refine lv_goto (tgt := 41) C.1 C.2.1 dX2_good_37 (by decide) ?_
          exact pz_z C hr hk hS trivial (fun t ht hvm => ⟨by rw [ht]; exact hP, va_K.moved hvm hK, hD⟩) dX2_good_41 (Or.inr rfl) rfl (by decide) (by decide)
      · rw [if_neg e3] at hV
        have hV : 3 = V := hV
        subst hV
        refine i_const C dX2_good_21 ?_
        refine lv_goto (tgt := 26) C.1 C.2.1 dX2_good_22 (by decide) ?_
        refine p_f C hK hP hD hS 0 rfl rfl aw_uX2 tyX2 tyX2_ok nmX2 6 (by decide) aw_f_X2_22 rfl rfl rfl (Nat.le_of_ble_eq_true rfl) dX2_good_26 (fun H1 locs1 hP hD hS => ?_)
        have hP : va_P D clX [(hm, .inr (2, MO p a b n key dr 3 hX hY hR hO sx sy dk dv))] H1 := hP
        have hD : va_D A [(hm, .inr (2, MO p a b n key dr 3 hX hY hR hO sx sy dk dv))] := hD
        refine lv_aload_n C.1 C.2.1 dX2_good_29 rfl (lv_at hl 0 rfl) ?_
        refine gf C hK hP 0 rfl rfl aw_uX2 6 (by decide) aw_f_X2_22 rfl dX2_good_30 ?_
        refine i_if_ne (tgt := 40) C dX2_good_33 (by decide) ⟨by omega, by omega⟩ (fun g1 => ?_) (fun g1 => ?_)
        · refine i_const C dX2_good_40 ?_
          exact pz_z C hr hk hS trivial (fun t ht hvm => ⟨by rw [ht]; exact hP, va_K.moved hvm hK, hD⟩) dX2_good_41 (Or.inl rfl) rfl (by decide) (by decide)
        · omega
    · rw [if_neg e2] at hV
      have hV : 2 = V := hV
      subst hV
      refine i_const C dX2_good_13 ?_
      refine lv_goto (tgt := 26) C.1 C.2.1 dX2_good_14 (by decide) ?_
      refine p_f C hK hP hD hS 0 rfl rfl aw_uX2 tyX2 tyX2_ok nmX2 6 (by decide) aw_f_X2_22 rfl rfl rfl (Nat.le_of_ble_eq_true rfl) dX2_good_26 (fun H1 locs1 hP hD hS => ?_)
      have hP : va_P D clX [(hm, .inr (2, MO p a b n key dr 2 hX hY hR hO sx sy dk dv))] H1 := hP
      have hD : va_D A [(hm, .inr (2, MO p a b n key dr 2 hX hY hR hO sx sy dk dv))] := hD
      refine lv_aload_n C.1 C.2.1 dX2_good_29 rfl (lv_at hl 0 rfl) ?_
      refine gf C hK hP 0 rfl rfl aw_uX2 6 (by decide) aw_f_X2_22 rfl dX2_good_30 ?_
      refine i_if_ne (tgt := 40) C dX2_good_33 (by decide) ⟨by omega, by omega⟩ (fun g1 => ?_) (fun g1 => ?_)
      · refine i_const C dX2_good_40 ?_
        exact pz_z C hr hk hS trivial (fun t ht hvm => ⟨by rw [ht]; exact hP, va_K.moved hvm hK, hD⟩) dX2_good_41 (Or.inl rfl) rfl (by decide) (by decide)
      · omega
  · rw [if_neg e1] at hV
    have hV : 1 = V := hV
    subst hV
    refine i_const C dX2_good_5 ?_
    refine lv_goto (tgt := 26) C.1 C.2.1 dX2_good_6 (by decide) ?_
    refine p_f C hK hP hD hS 0 rfl rfl aw_uX2 tyX2 tyX2_ok nmX2 6 (by decide) aw_f_X2_22 rfl rfl rfl (Nat.le_of_ble_eq_true rfl) dX2_good_26 (fun H1 locs1 hP hD hS => ?_)
    have hP : va_P D clX [(hm, .inr (2, MO p a b n key dr 1 hX hY hR hO sx sy dk dv))] H1 := hP
    have hD : va_D A [(hm, .inr (2, MO p a b n key dr 1 hX hY hR hO sx sy dk dv))] := hD
    refine lv_aload_n C.1 C.2.1 dX2_good_29 rfl (lv_at hl 0 rfl) ?_
    refine gf C hK hP 0 rfl rfl aw_uX2 6 (by decide) aw_f_X2_22 rfl dX2_good_30 ?_
    refine i_if_ne (tgt := 40) C dX2_good_33 (by decide) ⟨by omega, by omega⟩ (fun g1 => ?_) (fun g1 => ?_)
    · refine i_const C dX2_good_40 ?_
      exact pz_z C hr hk hS trivial (fun t ht hvm => ⟨by rw [ht]; exact hP, va_K.moved hvm hK, hD⟩) dX2_good_41 (Or.inl rfl) rfl (by decide) (by decide)
    · omega
set_option maxRecDepth 100000 in
set_option maxHeartbeats 1000000 in
theorem c_X2_order (l : Launch) (D : va_G) (z0 sz : Nat) (hm : Nat) (p a b : Int) (n : Nat) (key dr th : Int) (hX hY hR hO : Nat) (sx sy dk dv : Int32) : Met l yX2_order (Cond.code yX2_order cX2_order 1 (some .int) :: AW) ({ frames := 0, cells := 0, slots := 0, locals := 0 } : Room) (PcM D z0 sz [(hm, .inr (2, MO p a b n key dr th hX hY hR hO sx sy dk dv))] [] [.ref hm]) (QcM (some (.int (ii (n : Int)))) True (Wd D [(hm, .inr (2, MO p a b n key dr 0 hX hY hR hO sx sy dk dv))] [] (va_A [(hm, .inr (2, MO p a b n key dr th hX hY hR hO sx sy dk dv))] sz)) (va_A [(hm, .inr (2, MO p a b n key dr th hX hY hR hO sx sy dk dv))] sz)) 0 0 (va_A [(hm, .inr (2, MO p a b n key dr th hX hY hR hO sx sy dk dv))] sz) := by
  refine mt_N (by decide +kernel) (Nat.le_of_ble_eq_true rfl) ?_
  intro P0 E0 S0 M0 A0 B0 T0 K0 C hN hZ hsz hz hP hK hD hAz hA hr hk hin ls hl
  have hl : lv_has ls 1 [(0, .ref hm)] := hl
  generalize hAe : va_A [(hm, .inr (2, MO p a b n key dr th hX hY hR hO sx sy dk dv))] sz = A at hD hAz hA ⊢
  have hS : va_S A S0.heap S0.heap [] := va_S.rf
  refine lv_aload_n C.1 C.2.1 dX2_order_0 rfl (lv_at hl 0 rfl) ?_
  refine i_const C dX2_order_1 ?_
  refine p_f C hK hP hD hS 0 rfl rfl aw_uX2 tyX2 tyX2_ok nmX2 6 (by decide) aw_f_X2_22 rfl rfl rfl (Nat.le_of_ble_eq_true rfl) dX2_order_2 (fun H1 locs1 hP hD hS => ?_)
  have hP : va_P D clX [(hm, .inr (2, MO p a b n key dr 0 hX hY hR hO sx sy dk dv))] H1 := hP
  have hD : va_D A [(hm, .inr (2, MO p a b n key dr 0 hX hY hR hO sx sy dk dv))] := hD
  refine lv_aload_n C.1 C.2.1 dX2_order_5 rfl (lv_at hl 0 rfl) ?_
  refine gf C hK hP 0 rfl rfl aw_uX2 3 (by decide) aw_f_X2_65 rfl dX2_order_6 ?_
  exact pz_i C hr hk hS trivial (fun t ht hvm => ⟨by rw [ht]; exact hP, va_K.moved hvm hK, hD⟩) dX2_order_9 rfl (by decide) (by decide)
set_option maxRecDepth 100000 in
set_option maxHeartbeats 1000000 in
theorem c_X2_draws (l : Launch) (D : va_G) (z0 sz : Nat) (hm : Nat) (p a b : Int) (n : Nat) (key dr th : Int) (hX hY hR hO : Nat) (sx sy dk dv : Int32) : Met l yX2_draws (Cond.code yX2_draws cX2_draws 1 (some .int) :: AW) ({ frames := 0, cells := 0, slots := 0, locals := 0 } : Room) (PcM D z0 sz [(hm, .inr (2, MO p a b n key dr th hX hY hR hO sx sy dk dv))] [] [.ref hm]) (QcM (some (.int (ii dr))) True (Wd D [(hm, .inr (2, MO p a b n key dr 0 hX hY hR hO sx sy dk dv))] [] (va_A [(hm, .inr (2, MO p a b n key dr th hX hY hR hO sx sy dk dv))] sz)) (va_A [(hm, .inr (2, MO p a b n key dr th hX hY hR hO sx sy dk dv))] sz)) 0 0 (va_A [(hm, .inr (2, MO p a b n key dr th hX hY hR hO sx sy dk dv))] sz) := by
  refine mt_N (by decide +kernel) (Nat.le_of_ble_eq_true rfl) ?_
  intro P0 E0 S0 M0 A0 B0 T0 K0 C hN hZ hsz hz hP hK hD hAz hA hr hk hin ls hl
  have hl : lv_has ls 1 [(0, .ref hm)] := hl
  generalize hAe : va_A [(hm, .inr (2, MO p a b n key dr th hX hY hR hO sx sy dk dv))] sz = A at hD hAz hA ⊢
  have hS : va_S A S0.heap S0.heap [] := va_S.rf
  refine lv_aload_n C.1 C.2.1 dX2_draws_0 rfl (lv_at hl 0 rfl) ?_
  refine i_const C dX2_draws_1 ?_
  refine p_f C hK hP hD hS 0 rfl rfl aw_uX2 tyX2 tyX2_ok nmX2 6 (by decide) aw_f_X2_22 rfl rfl rfl (Nat.le_of_ble_eq_true rfl) dX2_draws_2 (fun H1 locs1 hP hD hS => ?_)
  have hP : va_P D clX [(hm, .inr (2, MO p a b n key dr 0 hX hY hR hO sx sy dk dv))] H1 := hP
  have hD : va_D A [(hm, .inr (2, MO p a b n key dr 0 hX hY hR hO sx sy dk dv))] := hD
  refine lv_aload_n C.1 C.2.1 dX2_draws_5 rfl (lv_at hl 0 rfl) ?_
  refine gf C hK hP 0 rfl rfl aw_uX2 5 (by decide) aw_f_X2_116 rfl dX2_draws_6 ?_
  exact pz_i C hr hk hS trivial (fun t ht hvm => ⟨by rw [ht]; exact hP, va_K.moved hvm hK, hD⟩) dX2_draws_9 rfl (by decide) (by decide)
set_option maxRecDepth 100000 in
set_option maxHeartbeats 1000000 in
theorem c_X2_stir (l : Launch) (D : va_G) (z0 sz : Nat) (hm : Nat) (p a b : Int) (n : Nat) (key dr th : Int) (hX hY hR hO : Nat) (sx sy dk dv : Int32) (v : Int32) : Met l yX2_stir (Cond.code yX2_stir cX2_stir 2 none :: AW) ({ frames := 1, cells := 0, slots := 0, locals := 24 } : Room) (PcM D z0 sz [(hm, .inr (2, MO p a b n key dr th hX hY hR hO sx sy dk dv))] [] [.ref hm, .int v]) (QcM none True (Wd D [(hm, .inr (2, MO p a b n key dr th hX hY hR hO sx sy (mxF dk v) (mxF (mxF dk v) dv)))] [] (va_A [(hm, .inr (2, MO p a b n key dr th hX hY hR hO sx sy dk dv))] sz)) (va_A [(hm, .inr (2, MO p a b n key dr th hX hY hR hO sx sy dk dv))] sz)) 0 0 (va_A [(hm, .inr (2, MO p a b n key dr th hX hY hR hO sx sy dk dv))] sz) := by
  refine mt_N (by decide +kernel) (Nat.le_of_ble_eq_true rfl) ?_
  intro P0 E0 S0 M0 A0 B0 T0 K0 C hN hZ hsz hz hP hK hD hAz hA hr hk hin ls hl
  have hl : lv_has ls 2 [(0, .ref hm), (1, .int v)] := hl
  generalize hAe : va_A [(hm, .inr (2, MO p a b n key dr th hX hY hR hO sx sy dk dv))] sz = A at hD hAz hA ⊢
  have hS : va_S A S0.heap S0.heap [] := va_S.rf
  refine lv_aload_n C.1 C.2.1 dX2_stir_0 rfl (lv_at hl 0 rfl) ?_
  refine lv_aload_n C.1 C.2.1 dX2_stir_1 rfl (lv_at hl 0 rfl) ?_
  refine lv_aload_n C.1 C.2.1 dX2_stir_2 rfl (lv_at hl 0 rfl) ?_
  refine gf C hK hP 0 rfl rfl aw_uX2 13 (by decide) aw_f_X2_103 rfl dX2_stir_3 ?_
  refine lv_iload_n C.1 C.2.1 dX2_stir_6 rfl (lv_at hl 1 rfl) ?_
  refine ca_V (As := [.int dk, .int v]) (rest := [.ref hm]) C (c_X2_mix l D hm (dk) (v)) (pcw_preV0 [.int dk, .int v] hN hP hK 0 (ci := 2) rfl rfl) aw_b_X2_mix aw_m_X2_106 aw_v_X2_mix aw_i_X2 aw_e_X2_mix ⟨rfl, rfl⟩ 2 (by decide +kernel) rfl ⟨by decide, by decide⟩ hl.1 rfl (Nat.le_of_ble_eq_true rfl) dX2_stir_7 ⟨by decide, by decide⟩ ?_
  refine p_f C hK hP hD hS 0 rfl rfl aw_uX2 tyX2 tyX2_ok nmX2 13 (by decide) aw_f_X2_103 rfl rfl rfl (Nat.le_of_ble_eq_true rfl) dX2_stir_10 (fun H1 locs1 hP hD hS => ?_)
  have hP : va_P D clX [(hm, .inr (2, MO p a b n key dr th hX hY hR hO sx sy (mxF dk v) dv))] H1 := hP
  have hD : va_D A [(hm, .inr (2, MO p a b n key dr th hX hY hR hO sx sy (mxF dk v) dv))] := hD
  refine lv_aload_n C.1 C.2.1 dX2_stir_13 rfl (lv_at hl 0 rfl) ?_
  refine lv_aload_n C.1 C.2.1 dX2_stir_14 rfl (lv_at hl 0 rfl) ?_
  refine lv_aload_n C.1 C.2.1 dX2_stir_15 rfl (lv_at hl 0 rfl) ?_
  refine gf C hK hP 0 rfl rfl aw_uX2 13 (by decide) aw_f_X2_103 rfl dX2_stir_16 ?_
  refine lv_aload_n C.1 C.2.1 dX2_stir_19 rfl (lv_at hl 0 rfl) ?_
  refine gf C hK hP 0 rfl rfl aw_uX2 14 (by decide) aw_f_X2_109 rfl dX2_stir_20 ?_
  refine ca_V (As := [.int (mxF dk v), .int dv]) (rest := [.ref hm]) C (c_X2_mix l D hm (mxF dk v) (dv)) (pcw_preV0 [.int (mxF dk v), .int dv] hN hP hK 0 (ci := 2) rfl rfl) aw_b_X2_mix aw_m_X2_106 aw_v_X2_mix aw_i_X2 aw_e_X2_mix ⟨rfl, rfl⟩ 2 (by decide +kernel) rfl ⟨by decide, by decide⟩ hl.1 rfl (Nat.le_of_ble_eq_true rfl) dX2_stir_23 ⟨by decide, by decide⟩ ?_
  refine p_f C hK hP hD hS 0 rfl rfl aw_uX2 tyX2 tyX2_ok nmX2 14 (by decide) aw_f_X2_109 rfl rfl rfl (Nat.le_of_ble_eq_true rfl) dX2_stir_26 (fun H1 locs1 hP hD hS => ?_)
  have hP : va_P D clX [(hm, .inr (2, MO p a b n key dr th hX hY hR hO sx sy (mxF dk v) (mxF (mxF dk v) dv)))] H1 := hP
  have hD : va_D A [(hm, .inr (2, MO p a b n key dr th hX hY hR hO sx sy (mxF dk v) (mxF (mxF dk v) dv)))] := hD
  exact pz_v C hr hk hS trivial (fun t ht hvm => ⟨by rw [ht]; exact hP, va_K.moved hvm hK, hD⟩) dX2_stir_29 (by decide) (by decide)
theorem up_I (ix : Nat → Nat) (k v : Nat) : va_up (fun j => ii ((ix j : Nat) : Int)) k (ii ((v : Nat) : Int)) = fun j => ii ((va_up ix k v j : Nat) : Int) := by
  funext j
  unfold va_up
  split <;> rfl
theorem goF_b (k : Int) : goF k = 0 ∨ goF k = 1 := by
  unfold goF
  split
  · exact Or.inr rfl
  · exact Or.inl rfl
theorem goF_0 {k : Int} : goF k = 0 ↔ k ≠ 0 := by
  unfold goF
  split <;> omega
theorem gdF_0 {k1 k2 k3 : Int} : gdF k1 k2 k3 = 0 ↔ k1 = 0 ∧ k2 = 0 ∧ k3 = 0 := by
  unfold gdF
  repeat' split
  all_goals omega
set_option maxRecDepth 100000 in
set_option maxHeartbeats 1000000 in
theorem c_X2_base (l : Launch) (D : va_G) (z0 sz : Nat) (hm : Nat) (p a b : Int) (n : Nat) (key dr th : Int) (hX hY hR hO : Nat) (sx sy dk dv : Int32) (cR : ClassId) (ix : Nat → Nat) (hn : n ≤ 1100) (r : Int) (hr1 : rg r) : Met l yX2_base (Cond.code yX2_base cX2_base 2 none :: AW) ({ frames := 1, cells := 0, slots := 0, locals := 24 } : Room) (PcM D z0 sz [(hm, .inr (2, MO p a b n key dr th hX hY hR hO sx sy dk dv)), (hR, .inl (cR, 4, .inl (fun j => ii ((ix j : Nat) : Int))))] [(cR, .int)] [.ref hm, .int (ii r)]) (QcM none True (Wd D [(hm, .inr (2, MO p a b n key dr (gdF (zb n) (nrF r) 0) hX hY hR hO sx sy dk dv)), (hR, .inl (cR, 4, .inl (fun j => ii (((if gdF (zb n) (nrF r) 0 = 0 then va_up ix r.toNat 1 else ix) j : Nat) : Int))))] [(cR, .int)] (va_A [(hm, .inr (2, MO p a b n key dr th hX hY hR hO sx sy dk dv)), (hR, .inl (cR, 4, .inl (fun j => ii ((ix j : Nat) : Int))))] sz)) (va_A [(hm, .inr (2, MO p a b n key dr th hX hY hR hO sx sy dk dv)), (hR, .inl (cR, 4, .inl (fun j => ii ((ix j : Nat) : Int))))] sz)) 0 0 (va_A [(hm, .inr (2, MO p a b n key dr th hX hY hR hO sx sy dk dv)), (hR, .inl (cR, 4, .inl (fun j => ii ((ix j : Nat) : Int))))] sz) := by
  refine mt_N (by decide +kernel) (Nat.le_of_ble_eq_true rfl) ?_
  intro P0 E0 S0 M0 A0 B0 T0 K0 C hN hZ hsz hz hP hK hD hAz hA hr hk hin ls hl
  have hl : lv_has ls 2 [(0, .ref hm), (1, .int (ii r))] := hl
  generalize hAe : va_A [(hm, .inr (2, MO p a b n key dr th hX hY hR hO sx sy dk dv)), (hR, .inl (cR, 4, .inl (fun j => ii ((ix j : Nat) : Int))))] sz = A at hD hAz hA ⊢
  have hS : va_S A S0.heap S0.heap [] := va_S.rf
  have nb := nrF_b r
  have n0 := nrF_0 (r := r)
  unfold okr at n0
  refine lv_aload_n C.1 C.2.1 dX2_base_0 rfl (lv_at hl 0 rfl) ?_
  refine lv_aload_n C.1 C.2.1 dX2_base_1 rfl (lv_at hl 0 rfl) ?_
  refine gf C hK hP 0 rfl rfl aw_uX2 3 (by decide) aw_f_X2_65 rfl dX2_base_2 ?_
  refine i_if_ne (tgt := 12) C dX2_base_5 (by decide) ⟨by omega, by omega⟩ (fun h1 => ?_) (fun h1 => ?_)
  · have zn : zb n = 0 := if_neg (by omega)
    rw [zn]
    refine i_const C dX2_base_12 ?_
    refine lv_aload_n C.1 C.2.1 dX2_base_13 rfl (lv_at hl 0 rfl) ?_
    refine lv_iload_n C.1 C.2.1 dX2_base_14 rfl (lv_at hl 1 rfl) ?_
    refine ca_V (As := [.int (ii r)]) (rest := [.int (ii 0), .ref hm]) C (c_X2_noRegister l D hm r hr1) (pcw_preV0 [.int (ii r)] hN hP hK 0 (ci := 2) rfl rfl) aw_b_X2_noRegister aw_m_X2_81 aw_v_X2_noRegister aw_i_X2 aw_e_X2_noRegister ⟨rfl, rfl⟩ 1 (by decide +kernel) rfl ⟨by decide, by decide⟩ hl.1 rfl (Nat.le_of_ble_eq_true rfl) dX2_base_15 ⟨by decide, by decide⟩ ?_
    refine i_const C dX2_base_18 ?_
    have hFc := va_free (wc := [(hm, .inr (2, MO p a b n key dr th hX hY hR hO sx sy dk dv))]) hD hS hA [0] rfl
    refine cn_V (As := [.int (ii 0), .int (ii (nrF r)), .int (ii 0)]) (rest := []) C (c_X2_good l D z0 _ hm p a b n key dr th hX hY hR hO sx sy dk dv 0 (nrF r) 0 (by omega) nb (by omega)) (pcm_preV _ hN (Zs.on hZ hS hAz) (by have := hS.1; omega) (hP.sub (ws' := [(hm, .inr (2, MO p a b n key dr th hX hY hR hO sx sy dk dv))]) [0] rfl) (hK.sub (tys' := []) [] rfl) ((hD.sub (ws' := [(hm, .inr (2, MO p a b n key dr th hX hY hR hO sx sy dk dv))]) [0] (by decide) rfl).weaken (fun _ _ _ h => hAz _ h)) 0 (ci := 2) rfl rfl) hS hFc aw_b_X2_good aw_m_X2_58 aw_v_X2_good aw_i_X2 aw_e_X2_good ⟨rfl, rfl⟩ 3 (by decide +kernel) rfl ⟨by decide, by decide⟩ hl.1 rfl (Nat.le_of_ble_eq_true rfl) dX2_base_19 ⟨by decide, by decide⟩ (fun t H1 locs1 ht hvm _ hB hz1 hk1 hS => ?_)
    obtain ⟨hP1, hK1, hD1⟩ := hB
    rw [ht] at hP1
    obtain ⟨hP, hD⟩ := va_join (wr := [(hR, .inl (cR, 4, .inl (fun j => ii ((ix j : Nat) : Int))))]) (w1 := [(hm, .inr (2, MO p a b n key dr (gdF 0 (nrF r) 0) hX hY hR hO sx sy dk dv))]) hP hD [0] [1] rfl rfl (by decide) (by decide) hk1 hFc hP1 hD1
    have hP := hP.sub (ws' := [(hm, .inr (2, MO p a b n key dr (gdF 0 (nrF r) 0) hX hY hR hO sx sy dk dv)), (hR, .inl (cR, 4, .inl (fun j => ii ((ix j : Nat) : Int))))]) [1, 0] rfl
    have hD := hD.sub (ws' := [(hm, .inr (2, MO p a b n key dr (gdF 0 (nrF r) 0) hX hY hR hO sx sy dk dv)), (hR, .inl (cR, 4, .inl (fun j => ii ((ix j : Nat) : Int))))]) [1, 0] (by decide) rfl
    have gb := goF_b (gdF 0 (nrF r) 0)
    have g0 := goF_0 (k := gdF 0 (nrF r) 0)
    have gz := gdF_0 (k1 := 0) (k2 := nrF r) (k3 := 0)
    refine i_if_eq (tgt := 32) C dX2_base_22 (by decide) ⟨by omega, by omega⟩ (fun h2 => ?_) (fun h2 => ?_)
    · rw [if_neg (show ¬ gdF 0 (nrF r) 0 = 0 from g0.mp h2)]
      exact pz_v C hr hk hS trivial (fun t ht hvm => ⟨by rw [ht]; exact hP, va_K.moved hvm hK, hD⟩) dX2_base_32 (by decide) (by decide)
    · have e : gdF 0 (nrF r) 0 = 0 := Classical.byContradiction fun z => h2 (g0.mpr z)
      have ez := gz.mp e
      rw [if_pos e]
      refine lv_aload_n C.1 C.2.1 dX2_base_25 rfl (lv_at hl 0 rfl) ?_
      refine gf C hK hP 0 rfl rfl aw_uX2 9 (by decide) aw_f_X2_16 rfl dX2_base_26 ?_
      refine lv_iload_n C.1 C.2.1 dX2_base_29 rfl (lv_at hl 1 rfl) ?_
      refine i_const C dX2_base_30 ?_
      refine i_ast C hK hP hD hS 1 0 rfl rfl r.toNat (by omega) (by omega) (by omega) dX2_base_31 (fun H1 locs1 hP hD hS => ?_)
      rw [show va_up (fun j => ii ((ix j : Nat) : Int)) r.toNat (ii 1) = fun j => ii ((va_up ix r.toNat 1 j : Nat) : Int) from up_I ix r.toNat 1] at hP hD
      have hP : va_P D clX [(hm, .inr (2, MO p a b n key dr (gdF 0 (nrF r) 0) hX hY hR hO sx sy dk dv)), (hR, .inl (cR, 4, .inl (fun j => ii (((va_up ix r.toNat 1) j : Nat) : Int))))] H1 := hP
      have hD : va_D A [(hm, .inr (2, MO p a b n key dr (gdF 0 (nrF r) 0) hX hY hR hO sx sy dk dv)), (hR, .inl (cR, 4, .inl (fun j => ii (((va_up ix r.toNat 1) j : Nat) : Int))))] := hD
      exact pz_v C hr hk hS trivial (fun t ht hvm => ⟨by rw [ht]; exact hP, va_K.moved hvm hK, hD⟩) dX2_base_32 (by decide) (by decide)
  · have zn : zb n = 1 := if_pos (by omega)
    rw [zn]
    refine i_const C dX2_base_8 ?_
    refine lv_goto (tgt := 13) C.1 C.2.1 dX2_base_9 (by decide) ?_
    refine lv_aload_n C.1 C.2.1 dX2_base_13 rfl (lv_at hl 0 rfl) ?_
    refine lv_iload_n C.1 C.2.1 dX2_base_14 rfl (lv_at hl 1 rfl) ?_
    refine ca_V (As := [.int (ii r)]) (rest := [.int (ii 1), .ref hm]) C (c_X2_noRegister l D hm r hr1) (pcw_preV0 [.int (ii r)] hN hP hK 0 (ci := 2) rfl rfl) aw_b_X2_noRegister aw_m_X2_81 aw_v_X2_noRegister aw_i_X2 aw_e_X2_noRegister ⟨rfl, rfl⟩ 1 (by decide +kernel) rfl ⟨by decide, by decide⟩ hl.1 rfl (Nat.le_of_ble_eq_true rfl) dX2_base_15 ⟨by decide, by decide⟩ ?_
    refine i_const C dX2_base_18 ?_
    have hFc := va_free (wc := [(hm, .inr (2, MO p a b n key dr th hX hY hR hO sx sy dk dv))]) hD hS hA [0] rfl
    refine cn_V (As := [.int (ii 1), .int (ii (nrF r)), .int (ii 0)]) (rest := []) C (c_X2_good l D z0 _ hm p a b n key dr th hX hY hR hO sx sy dk dv 1 (nrF r) 0 (by omega) nb (by omega)) (pcm_preV _ hN (Zs.on hZ hS hAz) (by have := hS.1; omega) (hP.sub (ws' := [(hm, .inr (2, MO p a b n key dr th hX hY hR hO sx sy dk dv))]) [0] rfl) (hK.sub (tys' := []) [] rfl) ((hD.sub (ws' := [(hm, .inr (2, MO p a b n key dr th hX hY hR hO sx sy dk dv))]) [0] (by decide) rfl).weaken (fun _ _ _ h => hAz _ h)) 0 (ci := 2) rfl rfl) hS hFc aw_b_X2_good aw_m_X2_58 aw_v_X2_good aw_i_X2 aw_e_X2_good ⟨rfl, rfl⟩ 3 (by decide +kernel) rfl ⟨by decide, by decide⟩ hl.1 rfl (Nat.le_of_ble_eq_true rfl) dX2_base_19 ⟨by decide, by decide⟩ (fun t H1 locs1 ht hvm _ hB hz1 hk1 hS => ?_)
    obtain ⟨hP1, hK1, hD1⟩ := hB
    rw [ht] at hP1
    obtain ⟨hP, hD⟩ := va_join (wr := [(hR, .inl (cR, 4, .inl (fun j => ii ((ix j : Nat) : Int))))]) (w1 := [(hm, .inr (2, MO p a b n key dr (gdF 1 (nrF r) 0) hX hY hR hO sx sy dk dv))]) hP hD [0] [1] rfl rfl (by decide) (by decide) hk1 hFc hP1 hD1
    have hP := hP.sub (ws' := [(hm, .inr (2, MO p a b n key dr (gdF 1 (nrF r) 0) hX hY hR hO sx sy dk dv)), (hR, .inl (cR, 4, .inl (fun j => ii ((ix j : Nat) : Int))))]) [1, 0] rfl
    have hD := hD.sub (ws' := [(hm, .inr (2, MO p a b n key dr (gdF 1 (nrF r) 0) hX hY hR hO sx sy dk dv)), (hR, .inl (cR, 4, .inl (fun j => ii ((ix j : Nat) : Int))))]) [1, 0] (by decide) rfl
    have gb := goF_b (gdF 1 (nrF r) 0)
    have g0 := goF_0 (k := gdF 1 (nrF r) 0)
    have gz := gdF_0 (k1 := 1) (k2 := nrF r) (k3 := 0)
    refine i_if_eq (tgt := 32) C dX2_base_22 (by decide) ⟨by omega, by omega⟩ (fun h2 => ?_) (fun h2 => ?_)
    · rw [if_neg (show ¬ gdF 1 (nrF r) 0 = 0 from g0.mp h2)]
      exact pz_v C hr hk hS trivial (fun t ht hvm => ⟨by rw [ht]; exact hP, va_K.moved hvm hK, hD⟩) dX2_base_32 (by decide) (by decide)
    · have e : gdF 1 (nrF r) 0 = 0 := Classical.byContradiction fun z => h2 (g0.mpr z)
      have ez := gz.mp e
      rw [if_pos e]
      refine lv_aload_n C.1 C.2.1 dX2_base_25 rfl (lv_at hl 0 rfl) ?_
      refine gf C hK hP 0 rfl rfl aw_uX2 9 (by decide) aw_f_X2_16 rfl dX2_base_26 ?_
      refine lv_iload_n C.1 C.2.1 dX2_base_29 rfl (lv_at hl 1 rfl) ?_
      refine i_const C dX2_base_30 ?_
      refine i_ast C hK hP hD hS 1 0 rfl rfl r.toNat (by omega) (by omega) (by omega) dX2_base_31 (fun H1 locs1 hP hD hS => ?_)
      rw [show va_up (fun j => ii ((ix j : Nat) : Int)) r.toNat (ii 1) = fun j => ii ((va_up ix r.toNat 1 j : Nat) : Int) from up_I ix r.toNat 1] at hP hD
      have hP : va_P D clX [(hm, .inr (2, MO p a b n key dr (gdF 1 (nrF r) 0) hX hY hR hO sx sy dk dv)), (hR, .inl (cR, 4, .inl (fun j => ii (((va_up ix r.toNat 1) j : Nat) : Int))))] H1 := hP
      have hD : va_D A [(hm, .inr (2, MO p a b n key dr (gdF 1 (nrF r) 0) hX hY hR hO sx sy dk dv)), (hR, .inl (cR, 4, .inl (fun j => ii (((va_up ix r.toNat 1) j : Nat) : Int))))] := hD
      exact pz_v C hr hk hS trivial (fun t ht hvm => ⟨by rw [ht]; exact hP, va_K.moved hvm hK, hD⟩) dX2_base_32 (by decide) (by decide)
end
