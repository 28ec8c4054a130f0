/-! What the walk of the two classes asks of the points: in naturals. -/
theorem Cv.tb0 {p a gx gy : Nat} [NeZero p] : tb p a gx gy 0 = none := rfl
theorem Cv.tb1 {p a b n gx gy : Nat} [NeZero p] (h : Cv p a b n gx gy) : tb p a gx gy 1 = some (gx, gy) := by
  have e : tF p a gx gy 1 = some (fz p (gx : Int), fz p (gy : Int)) := ec_add_none_l (fi p) (fz p (a : Int)) _
  unfold tb
  rw [e]
  show some ((fz p (gx : Int)).val, (fz p (gy : Int)).val) = some (gx, gy)
  rw [fz_lt h.2.2.2.2.2.2.2.2.1, fz_lt h.2.2.2.2.2.2.2.2.2.1]
theorem Cv.tmod {p a b n gx gy : Nat} [NeZero p] (h : Cv p a b n gx gy) (i : Nat) : tb p a gx gy i = tb p a gx gy (i % n) := by
  unfold tb
  rw [h.mod]
theorem Cv.tinj {p a b n gx gy : Nat} [NeZero p] (h : Cv p a b n gx gy) {i j : Nat} (hi : i < n) (hj : j < n) (e : tb p a gx gy i = tb p a gx gy j) : i = j := h.inj hi hj (pn_inj e)
theorem Cv.tnone {p a b n gx gy : Nat} [NeZero p] (h : Cv p a b n gx gy) {i : Nat} (hi : i < n) (e : tb p a gx gy i = none) : i = 0 := h.tinj hi (by have := h.2.2.2.2.2.2.1; omega) (e.trans Cv.tb0.symm)
theorem Cv.tsome {p a b n gx gy : Nat} [NeZero p] (h : Cv p a b n gx gy) {i : Nat} (h0 : 1 ≤ i) (hi : i < n) : ∃ x y, tb p a gx gy i = some (x, y) := by
  cases e : tb p a gx gy i with
  | none => have := h.tnone hi e; omega
  | some q => exact ⟨q.1, q.2, rfl⟩
theorem Cv.tof {p a gx gy i x y : Nat} [NeZero p] (e : tb p a gx gy i = some (x, y)) : tF p a gx gy i = some (fz p (x : Int), fz p (y : Int)) := by
  rw [← pf_pn (tF p a gx gy i)]
  show pf p (tb p a gx gy i) = _
  rw [e]
  rfl
theorem Cv.tpt {p a b n gx gy : Nat} [NeZero p] (h : Cv p a b n gx gy) {i x y : Nat} (e : tb p a gx gy i = some (x, y)) : x < p ∧ y < p ∧ y * y % p = cub p a b x ∧ 0 < y := by
  have m := pn_mem.mpr (h.tP i)
  have m : tb p a gx gy i ∈ pts p a b := m
  rw [e, pts_mem] at m
  rcases m with z | ⟨x', y', e', hx, hy, ho⟩
  · cases z
  · cases e'
    refine ⟨hx, hy, ho, ?_⟩
    apply Nat.pos_of_ne_zero
    intro z
    subst z
    have s := h.step i i
    rw [Cv.tof e, ec_add_op _ _ (P := (fz p (x : Int), fz p ((0 : Nat) : Int))) (Q := (fz p (x : Int), fz p ((0 : Nat) : Int))) ⟨rfl, by
      show fz p ((0 : Nat) : Int) + fz p ((0 : Nat) : Int) = 0
      rw [← fz_add]
      exact fz_zero p⟩] at s
    have hn := h.2.2.2.2.2.2.2.1
    have h3 := h.2.2.2.2.2.2.1
    rw [h.mod] at s
    have d := h.zero (Nat.mod_lt _ (by omega)) s.symm
    have d2 : n ∣ 2 * i := Nat.dvd_of_mod_eq_zero (by rw [show 2 * i = i + i by omega]; exact d)
    rcases pr_euclid hn d2 with g | g
    · exact pr_small (by omega) (by omega) g
    · have e2 := h.tmod i
      rw [Nat.mod_eq_zero_of_dvd g, Cv.tb0, e] at e2
      cases e2
theorem Cv.tfind {p a b n gx gy : Nat} [NeZero p] (h : Cv p a b n gx gy) {x y : Nat} (hx : x < p) (hy : y < p) (ho : y * y % p = cub p a b x) : ∃ i, 1 ≤ i ∧ i < n ∧ tb p a gx gy i = some (x, y) := by
  obtain ⟨i, hi, e⟩ := h.all (P := some (fz p (x : Int), fz p (y : Int))) (ec_P_some (q := (fz p (x : Int), fz p (y : Int))) (on_iff.mpr ho))
  have e2 : tb p a gx gy i = some (x, y) := by
    unfold tb
    rw [e]
    show some ((fz p (x : Int)).val, (fz p (y : Int)).val) = some (x, y)
    rw [fz_lt hx, fz_lt hy]
  refine ⟨i, ?_, hi, e2⟩
  apply Nat.pos_of_ne_zero
  intro z
  subst z
  rw [Cv.tb0] at e2
  cases e2
theorem Cv.padd0 {p a b n gx gy : Nat} [NeZero p] (h : Cv p a b n gx gy) {i j x y v : Nat} (ei : tb p a gx gy i = some (x, y)) (ej : tb p a gx gy j = some (x, v)) (hs : y + v = p) : tb p a gx gy (i + j) = none := by
  unfold tb
  rw [← h.step i j, Cv.tof ei, Cv.tof ej, ec_add_op]
  · rfl
  · refine ⟨rfl, ?_⟩
    show fz p (y : Int) + fz p (v : Int) = 0
    rw [← fz_add, ← Int.natCast_add, hs, fz_0iff]
    exact Int.emod_self
/-- two points that aren't opposite: any slope will do -/
theorem Cv.padd {p a b n gx gy : Nat} [NeZero p] (h : Cv p a b n gx gy) {i j x y u v : Nat} (ei : tb p a gx gy i = some (x, y)) (ej : tb p a gx gy j = some (u, v)) (hs : ¬ (x = u ∧ y + v = p)) {m : Int} {w z : Nat}
    (h1 : x ≠ u → m * ((u : Int) - x) % p = ((v : Int) - y) % p) (h2 : x = u → m * (2 * (y : Int)) % p = (3 * (x : Int) * x + a) % p)
    (hw : w < p) (hz : z < p) (ew : (w : Int) % p = (m * m - x - u) % p) (ez : (z : Int) % p = (m * ((x : Int) - w) - y) % p) : tb p a gx gy (i + j) = some (w, z) := by
  obtain ⟨hx, hy, ox, y0⟩ := h.tpt ei
  obtain ⟨hu, hv, ou, v0⟩ := h.tpt ej
  have hF := h.F
  have o1 : ec_on (fz p (a : Int)) (fz p (b : Int)) (fz p (x : Int)) (fz p (y : Int)) := on_iff.mpr ox
  have o2 : ec_on (fz p (a : Int)) (fz p (b : Int)) (fz p (u : Int)) (fz p (v : Int)) := on_iff.mpr ou
  have hn : ¬ ((fz p (x : Int), fz p (y : Int)).1 = (fz p (u : Int), fz p (v : Int)).1 ∧ (fz p (x : Int), fz p (y : Int)).2 + (fz p (u : Int), fz p (v : Int)).2 = 0) := by
    rintro ⟨z1, z2⟩
    have z1 : fz p (x : Int) = fz p (u : Int) := z1
    have z2 : fz p (y : Int) + fz p (v : Int) = 0 := z2
    refine hs ⟨fz_inj hx hu z1, ?_⟩
    rw [← fz_add, ← Int.natCast_add, fz_0iff, ← Int.natCast_emod] at z2
    have z3 : (y + v) % p = 0 := by omega
    obtain ⟨c, hc⟩ := Nat.dvd_of_mod_eq_zero z3
    rcases (show c = 0 ∨ c = 1 ∨ 2 ≤ c by omega) with rfl | rfl | g
    · omega
    · omega
    · have := Nat.mul_le_mul_left p g
      omega
  have hm := ec_m_sl (P := (fz p (x : Int), fz p (y : Int))) (Q := (fz p (u : Int), fz p (v : Int))) hF o1 o2 hn
  have add := ec_add_no (fi p) (fz p (a : Int)) hn
  generalize ec_m (fi p) (fz p (a : Int)) (fz p (x : Int), fz p (y : Int)) (fz p (u : Int), fz p (v : Int)) = k at hm add
  obtain ⟨s1, s2⟩ := hm
  have s1 : k * (fz p (u : Int) - fz p (x : Int)) = fz p (v : Int) - fz p (y : Int) := s1
  have s2 : k * (fz p (y : Int) + fz p (v : Int)) = fz p (x : Int) * fz p (x : Int) + fz p (x : Int) * fz p (u : Int) + fz p (u : Int) * fz p (u : Int) + fz p (a : Int) := s2
  have ek : fz p m = k := by
    by_cases hxu : x = u
    · have q := h2 hxu
      subst hxu
      have hyv : fz p (y : Int) = fz p (v : Int) := by
        have : k * (fz p (x : Int) - fz p (x : Int)) = 0 := by grind
        rw [this] at s1
        grind
      have q : fz p m * (fz p (y : Int) + fz p (y : Int)) = fz p (x : Int) * fz p (x : Int) + fz p (x : Int) * fz p (x : Int) + fz p (x : Int) * fz p (x : Int) + fz p (a : Int) := by
        rw [← fz_add, ← fz_mul, ← fz_mul, ← fz_add, ← fz_add, ← fz_add, fz_eq, show (y : Int) + y = 2 * y by omega, q]
        congr 1
        rw [Int.mul_assoc]
        omega
      rw [← hyv] at s2
      have d : (fz p m - k) * (fz p (y : Int) + fz p (y : Int)) = 0 := by grind
      rcases hF.1 _ _ d with g | g
      · grind
      · refine absurd ⟨rfl, ?_⟩ hn
        show fz p (y : Int) + fz p (v : Int) = 0
        rw [← hyv, g]
    · have q := h1 hxu
      have q : fz p m * (fz p (u : Int) - fz p (x : Int)) = fz p (v : Int) - fz p (y : Int) := by
        rw [← fz_sub, ← fz_sub, ← fz_mul, fz_eq, q]
      have d : (fz p m - k) * (fz p (u : Int) - fz p (x : Int)) = 0 := by grind
      rcases hF.1 _ _ d with g | g
      · grind
      · refine absurd ?_ hxu
        exact fz_inj hx hu (by grind)
  subst ek
  have e1 : (ec_at (fz p (x : Int), fz p (y : Int)) (fz p (u : Int), fz p (v : Int)) (fz p m)) = (fz p (w : Int), fz p (z : Int)) := by
    have w1 : fz p (w : Int) = fz p m * fz p m - fz p (x : Int) - fz p (u : Int) := by
      rw [← fz_mul, ← fz_sub, ← fz_sub, fz_eq, ew]
    have w2 : fz p (z : Int) = fz p m * (fz p (x : Int) - fz p (w : Int)) - fz p (y : Int) := by
      rw [← fz_sub, ← fz_mul, ← fz_sub, fz_eq, ez]
    unfold ec_at
    simp only
    rw [w2, w1]
  unfold tb
  rw [← h.step i j, Cv.tof ei, Cv.tof ej, add, e1]
  show some ((fz p (w : Int)).val, (fz p (z : Int)).val) = some (w, z)
  rw [fz_lt hw, fz_lt hz]
