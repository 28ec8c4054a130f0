/-! The curve y*y = x*x*x + a*x + b over a commutative ring without zero divisors: chord and tangent in one relation of slopes, and what associativity rests on. -/
def ec_on {F : Type} [Lean.Grind.CommRing F] (a b x y : F) : Prop := y * y = x * x * x + a * x + b
/-- m is the slope of the chord, or of the tangent -/
def ec_sl {F : Type} [Lean.Grind.CommRing F] (a x1 y1 x2 y2 m : F) : Prop := m * (x2 - x1) = y2 - y1 ∧ m * (y1 + y2) = x1 * x1 + x1 * x2 + x2 * x2 + a
theorem ec_sl_a {F : Type} [Lean.Grind.CommRing F] {a x1 y1 x2 y2 m : F} (h : ec_sl a x1 y1 x2 y2 m) : y2 = y1 + m * (x2 - x1) ∧ a = m * (y1 + (y1 + m * (x2 - x1))) - x1 * x1 - x1 * x2 - x2 * x2 := by
  obtain ⟨h1, h2⟩ := h
  have e : y2 = y1 + m * (x2 - x1) := by rw [h1]; grind
  refine ⟨e, ?_⟩
  rw [← e, h2]
  grind
theorem ec_on_b {F : Type} [Lean.Grind.CommRing F] {a b x y : F} (h : ec_on a b x y) : b = y * y - x * x * x - a * x := by
  unfold ec_on at h
  rw [h]
  grind
theorem ec_sl_sym {F : Type} [Lean.Grind.CommRing F] {a x1 y1 x2 y2 m : F} (h : ec_sl a x1 y1 x2 y2 m) : ec_sl a x2 y2 x1 y1 m := by
  obtain ⟨h1, h2⟩ := h
  refine ⟨?_, ?_⟩
  · grind
  · grind
/-- of two points that aren't opposite there is one slope -/
theorem ec_sl_one {F : Type} [Lean.Grind.CommRing F] (dom : ∀ u v : F, u * v = 0 → u = 0 ∨ v = 0) {a x1 y1 x2 y2 m k : F} (hn : ¬ (x1 = x2 ∧ y1 + y2 = 0)) (h : ec_sl a x1 y1 x2 y2 m) (g : ec_sl a x1 y1 x2 y2 k) : m = k := by
  obtain ⟨h1, h2⟩ := h
  obtain ⟨g1, g2⟩ := g
  have e1 : (m - k) * (x2 - x1) = 0 := by grind
  have e2 : (m - k) * (y1 + y2) = 0 := by grind
  rcases dom _ _ e1 with z | z
  · grind
  · rcases dom _ _ e2 with w | w
    · grind
    · exact absurd ⟨by grind, w⟩ hn
/-- the cubic less the line's square -/
theorem ec_line {F : Type} [Lean.Grind.CommRing F] {a b x1 y1 x2 y2 m : F} (h : ec_sl a x1 y1 x2 y2 m) (o : ec_on a b x1 y1) (x : F) : x * x * x + a * x + b - (y1 + m * (x - x1)) * (y1 + m * (x - x1)) = (x - x1) * (x - x2) * (x - (m * m - x1 - x2)) := by
  obtain ⟨e1, e2⟩ := ec_sl_a h
  have e3 := ec_on_b o
  rw [e3, e2]
  grind
/-- a secant of that difference -/
theorem ec_sec {F : Type} [Lean.Grind.CommRing F] {a x1 y1 x2 y2 m : F} (h : ec_sl a x1 y1 x2 y2 m) (x u : F) : x * x + x * u + u * u + a - m * ((y1 + m * (x - x1)) + (y1 + m * (u - x1))) = x * x + x * u + u * u - m * m * (x + u) + (x1 * x2 + (x1 + x2) * (m * m - x1 - x2)) := by
  obtain ⟨e1, e2⟩ := ec_sl_a h
  rw [e2]
  grind
/-- the sum lies on the curve -/
theorem ec_sum_on {F : Type} [Lean.Grind.CommRing F] {a b x1 y1 x2 y2 m : F} (h : ec_sl a x1 y1 x2 y2 m) (o : ec_on a b x1 y1) : ec_on a b (m * m - x1 - x2) (m * (x1 - (m * m - x1 - x2)) - y1) := by
  have e := ec_line h o (m * m - x1 - x2)
  unfold ec_on
  grind
/-- the other point's line is the same -/
theorem ec_sum_y {F : Type} [Lean.Grind.CommRing F] {a x1 y1 x2 y2 m : F} (h : ec_sl a x1 y1 x2 y2 m) (x : F) : m * (x1 - x) - y1 = m * (x2 - x) - y2 := by
  obtain ⟨h1, h2⟩ := h
  grind
/-- (P + Q) - Q: the slope is the first one's negative -/
theorem ec_back_sl {F : Type} [Lean.Grind.CommRing F] {a x1 y1 x2 y2 m : F} (h : ec_sl a x1 y1 x2 y2 m) : ec_sl a (m * m - x1 - x2) (m * (x1 - (m * m - x1 - x2)) - y1) x2 (-y2) (-m) := by
  obtain ⟨e1, e2⟩ := ec_sl_a h
  refine ⟨?_, ?_⟩
  · rw [e1]; grind
  · rw [e1, e2]; grind
theorem ec_back_x {F : Type} [Lean.Grind.CommRing F] {x1 x2 m : F} : (-m) * (-m) - (m * m - x1 - x2) - x2 = x1 := by grind
theorem ec_back_y {F : Type} [Lean.Grind.CommRing F] {x1 y1 x2 m : F} : (-m) * ((m * m - x1 - x2) - x1) - (m * (x1 - (m * m - x1 - x2)) - y1) = y1 := by grind
theorem ec_c1 {F : Type} [Lean.Grind.CommRing F] {v s w : F} (hv : v * s = 1) : v * w * s = w := by grind
theorem ec_c2 {F : Type} [Lean.Grind.CommRing F] {v s t w q : F} (hv : v * s = 1) (K : t * s = q * w) : v * w * q = t := by
  have e : v * w * q = v * (q * w) := by grind
  rw [e, ← K]
  grind
theorem ec_c3 {F : Type} [Lean.Grind.CommRing F] {v s t w q : F} (hv : v * q = 1) (K : t * s = q * w) : v * t * s = w := by
  have e : v * t * s = v * (t * s) := by grind
  rw [e, K]
  grind
theorem ec_c4 {F : Type} [Lean.Grind.CommRing F] {y l q w : F} (e : y * y - l * l = q * w) : (y - l) * (y + l) = q * w := by rw [← e]; grind
theorem ec_c5 {F : Type} [Lean.Grind.CommRing F] {x u : F} (w : x - u = 0) : u = x := by grind
theorem ec_c6 {F : Type} [Lean.Grind.CommRing F] {x u y1 y3 m l : F} (w : x - u = 0) (hl : y1 + m * (x - u) = l) (z : y3 + l = 0) : y1 + y3 = 0 := by
  rw [w] at hl
  grind
theorem ec_c7 {F : Type} [Lean.Grind.CommRing F] {x1 x2 x3 y1 y2 y3 m l : F} (w : x3 - x2 = 0) (e : y2 = y1 + m * (x2 - x1)) (hl : y1 + m * (x3 - x1) = l) (z : y3 + l = 0) : y2 + y3 = 0 := by
  have h : x2 = x3 := ec_c5 w
  rw [← h, ← e] at hl
  grind
/-- what the third point's number is: the second divided difference, by one of two rows -/
theorem ec_three {F : Type} [Lean.Grind.CommRing F] (dom : ∀ u v : F, u * v = 0 → u = 0 ∨ v = 0) (hinv : ∀ u : F, u ≠ 0 → ∃ v, v * u = 1) {a b x1 y1 x2 y2 x3 y3 m : F} (h : ec_sl a x1 y1 x2 y2 m) (o1 : ec_on a b x1 y1) (o3 : ec_on a b x3 y3)
    (n13 : ¬ (x1 = x3 ∧ y1 + y3 = 0)) (n23 : ¬ (x2 = x3 ∧ y2 + y3 = 0)) : ∃ k : F, k * ((x3 - x1) * (x3 - x2)) = y3 - (y1 + m * (x3 - x1)) ∧ k * (y3 + (y1 + m * (x3 - x1))) = x3 - (m * m - x1 - x2) := by
  have e := ec_line h o1 x3
  unfold ec_on at o3
  obtain ⟨e1, e2⟩ := ec_sl_a h
  rw [← o3] at e
  generalize hl : y1 + m * (x3 - x1) = l3 at e ⊢
  generalize hq : (x3 - x1) * (x3 - x2) = q3 at e ⊢
  generalize hx : m * m - x1 - x2 = x' at e ⊢
  have K : (y3 - l3) * (y3 + l3) = q3 * (x3 - x') := ec_c4 e
  by_cases q0 : q3 = 0
  · have hs : y3 + l3 ≠ 0 := by
      intro z
      rw [q0] at hq
      rcases dom _ _ hq with w | w
      · exact n13 ⟨ec_c5 w, ec_c6 w hl z⟩
      · exact n23 ⟨ec_c5 w, ec_c7 w e1 hl z⟩
    obtain ⟨v, hv⟩ := hinv _ hs
    exact ⟨v * (x3 - x'), ec_c2 hv K, ec_c1 hv⟩
  · obtain ⟨v, hv⟩ := hinv _ q0
    exact ⟨v * (y3 - l3), ec_c1 hv, ec_c3 hv K⟩
/-- the second and the third point change places: the slope .. -/
theorem ec_swap_sl {F : Type} [Lean.Grind.CommRing F] {a x1 y1 x2 y2 x3 y3 m k : F} (h : ec_sl a x1 y1 x2 y2 m) (k1 : k * ((x3 - x1) * (x3 - x2)) = y3 - (y1 + m * (x3 - x1))) (k2 : k * (y3 + (y1 + m * (x3 - x1))) = x3 - (m * m - x1 - x2)) :
    ec_sl a x1 y1 x3 y3 (m + k * (x3 - x2)) := by
  obtain ⟨e1, e2⟩ := ec_sl_a h
  have e3 : y3 = y1 + m * (x3 - x1) + k * ((x3 - x1) * (x3 - x2)) := by rw [k1]; grind
  refine ⟨?_, ?_⟩
  · rw [e3]; grind
  · have k3 : (x3 - x2) * (k * (y3 + (y1 + m * (x3 - x1)))) = (x3 - x2) * (x3 - (m * m - x1 - x2)) := by rw [k2]
    rw [e2]
    rw [e3] at k3 ⊢
    grind
/-- .. and the number stays -/
theorem ec_swap_k1 {F : Type} [Lean.Grind.CommRing F] {a x1 y1 x2 y2 x3 m k : F} (h : ec_sl a x1 y1 x2 y2 m) :
    k * ((x2 - x1) * (x2 - x3)) = y2 - (y1 + (m + k * (x3 - x2)) * (x2 - x1)) := by
  obtain ⟨e1, e2⟩ := ec_sl_a h
  rw [e1]; grind
theorem ec_swap_k2 {F : Type} [Lean.Grind.CommRing F] {a x1 y1 x2 y2 x3 y3 m k : F} (h : ec_sl a x1 y1 x2 y2 m) (k1 : k * ((x3 - x1) * (x3 - x2)) = y3 - (y1 + m * (x3 - x1))) (k2 : k * (y3 + (y1 + m * (x3 - x1))) = x3 - (m * m - x1 - x2)) :
    k * (y2 + (y1 + (m + k * (x3 - x2)) * (x2 - x1))) = x2 - ((m + k * (x3 - x2)) * (m + k * (x3 - x2)) - x1 - x3) := by
  obtain ⟨e1, e2⟩ := ec_sl_a h
  have e3 : y3 = y1 + m * (x3 - x1) + k * ((x3 - x1) * (x3 - x2)) := by rw [k1]; grind
  rw [e1]
  rw [e3] at k2
  grind
theorem ec_c8a {F : Type} [Lean.Grind.CommRing F] {a x1 x2 x3 M w X : F} (s : x3 * x3 + x3 * X + X * X + a - w = x3 * x3 + x3 * X + X * X - M * (x3 + X) + (x1 * x2 + (x1 + x2) * X)) (hX : M = X + x1 + x2) :
    X * X + X * x3 + x3 * x3 + a = w + (x3 - x1) * (x3 - x2) := by
  subst hX
  grind
theorem ec_c8b {F : Type} [Lean.Grind.CommRing F] {x1 y1 y3 l3 m r u X : F} (e : r * (y3 - l3) + m * u = r * (m * (x1 - X) - y1 + y3)) (hu : u = y3 + l3) :
    (r - m) * (m * (x1 - X) - y1 + y3) = m * (l3 + (y1 + m * (X - x1))) + r * (y3 - l3) := by
  subst hu
  have : (r - m) * (m * (x1 - X) - y1 + y3) = r * (m * (x1 - X) - y1 + y3) - m * (m * (x1 - X) - y1 + y3) := by grind
  rw [this, ← e]
  grind
theorem ec_c8 {F : Type} [Lean.Grind.CommRing F] {a x1 y1 x2 x3 y3 m r X : F} (s : x3 * x3 + x3 * X + X * X + a - m * ((y1 + m * (x3 - x1)) + (y1 + m * (X - x1))) = x3 * x3 + x3 * X + X * X - m * m * (x3 + X) + (x1 * x2 + (x1 + x2) * X)) (r1 : (x3 - x1) * (x3 - x2) = r * (y3 - (y1 + m * (x3 - x1)))) (r2 : y3 + (y1 + m * (x3 - x1)) = r * (x3 - X)) (hX : m * m = X + x1 + x2) :
    (r - m) * (m * (x1 - X) - y1 + y3) = X * X + X * x3 + x3 * x3 + a := by
  rw [ec_c8a s hX, r1]
  refine ec_c8b (u := r * (x3 - X)) ?_ r2.symm
  clear s r1 r2 hX
  grind
/-- the slope of the second chord -/
theorem ec_third_sl {F : Type} [Lean.Grind.CommRing F] {a x1 y1 x2 y2 x3 y3 m k r : F} (h : ec_sl a x1 y1 x2 y2 m) (k1 : k * ((x3 - x1) * (x3 - x2)) = y3 - (y1 + m * (x3 - x1))) (k2 : k * (y3 + (y1 + m * (x3 - x1))) = x3 - (m * m - x1 - x2)) (hr : r * k = 1) :
    ec_sl a (m * m - x1 - x2) (m * (x1 - (m * m - x1 - x2)) - y1) x3 y3 (r - m) := by
  obtain ⟨e1, e2⟩ := ec_sl_a h
  have r1 : (x3 - x1) * (x3 - x2) = r * (y3 - (y1 + m * (x3 - x1))) := by rw [← k1]; grind
  have r2 : y3 + (y1 + m * (x3 - x1)) = r * (x3 - (m * m - x1 - x2)) := by rw [← k2]; grind
  refine ⟨?_, ?_⟩
  · grind
  · have s := ec_sec h x3 (m * m - x1 - x2)
    exact ec_c8 s r1 r2 (by grind)
theorem ec_third_x {F : Type} [Lean.Grind.CommRing F] {x1 x2 x3 m k r : F} (hr : r * k = 1) :
    (r - m) * (r - m) - (m * m - x1 - x2) - x3 = (r - (m + k * (x3 - x2))) * (r - (m + k * (x3 - x2))) - ((m + k * (x3 - x2)) * (m + k * (x3 - x2)) - x1 - x3) - x2 := by
  have e : r * (k * (x3 - x2)) = x3 - x2 := by grind
  grind
theorem ec_third_y {F : Type} [Lean.Grind.CommRing F] {a x1 y1 x2 y2 x3 y3 m k r X : F} (h : ec_sl a x1 y1 x2 y2 m) (k1 : k * ((x3 - x1) * (x3 - x2)) = y3 - (y1 + m * (x3 - x1))) (hr : r * k = 1) (hX : X = (r - m) * (r - m) - (m * m - x1 - x2) - x3) :
    (r - m) * (x3 - X) - y3 = (r - (m + k * (x3 - x2))) * (x2 - X) - y2 := by
  obtain ⟨e1, e2⟩ := ec_sl_a h
  have e3 : y3 = y1 + m * (x3 - x1) + k * ((x3 - x1) * (x3 - x2)) := by rw [k1]; grind
  have e4 : k * X = k * ((r - m) * (r - m) - (m * m - x1 - x2) - x3) := by rw [hX]
  have e5 : k * X = r - (m + m) + k * (x1 + x2 - x3) := by
    have : k * (r * r) = r := by grind
    have : k * (r * m) = m := by grind
    grind
  rw [e1, e3]
  have e6 : k * (x3 - x2) * (x2 - X) = (x3 - x2) * (k * x2 - k * X) := by grind
  have e7 : (r - (m + k * (x3 - x2))) * (x2 - X) = (r - m) * (x2 - X) - k * (x3 - x2) * (x2 - X) := by grind
  rw [e7, e6, e5]
  grind
/-- a point that is its own opposite, where the tangent is no chord: the curve is singular -/
theorem ec_sing {F : Type} [Lean.Grind.CommRing F] {a b x : F} (o : x * x * x + a * x + b = 0) (d : x * x + x * x + x * x + a = 0) : (1 + 1 + 1 + 1) * (a * a * a) + (1 + 1 + 1) * (1 + 1 + 1) * (1 + 1 + 1) * (b * b) = 0 := by
  have e : a = -(x * x + x * x + x * x) := by grind
  have e2 : b = -(x * x * x) - a * x := by grind
  rw [e2, e]
  grind
