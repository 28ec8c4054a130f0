/-! Links: reading, finding, fitting, signing on both sides. -/
/-- the reference's table holds the multiples -/
def Tb (p a gx gy n : Nat) [NeZero p] (tx ty : Nat → Nat) : Prop := ∀ j, 1 ≤ j → j < n → tb p a gx gy j = some (tx j, ty j)
theorem ecd_none : ecd none = -1 := rfl
theorem ecd_some (x y : Nat) : ecd (some (x, y)) = (x : Int) * 65536 + y := rfl
theorem Tb.ec {p a b n gx gy : Nat} [NeZero p] {tx ty : Nat → Nat} (h : Cv p a b n gx gy) (hT : Tb p a gx gy n tx ty) {i : Nat} (hi : i < n) : ecd (tb p a gx gy i) = -1 ↔ i = 0 := by
  by_cases h0 : i = 0
  · subst h0
    rw [Cv.tb0]
    exact ⟨fun _ => rfl, fun _ => rfl⟩
  · rw [hT i (by omega) hi, ecd_some]
    omega
theorem Tb.pt {p a b n gx gy : Nat} [NeZero p] {tx ty : Nat → Nat} (h : Cv p a b n gx gy) (hT : Tb p a gx gy n tx ty) {i : Nat} (h1 : 1 ≤ i) (hi : i < n) : tx i < p ∧ ty i < p ∧ ty i * ty i % p = cub p a b (tx i) ∧ 0 < ty i := h.tpt (hT i h1 hi)
theorem Tb.one {p a b n gx gy : Nat} [NeZero p] {tx ty : Nat → Nat} (h : Cv p a b n gx gy) (hT : Tb p a gx gy n tx ty) {i j : Nat} (h1 : 1 ≤ i) (hi : i < n) (h2 : 1 ≤ j) (hj : j < n) (ex : tx i = tx j) (ey : ty i = ty j) : i = j := h.tinj hi hj (by rw [hT i h1 hi, hT j h2 hj, ex, ey])
theorem Tb.px {p a b n gx gy : Nat} [NeZero p] {tx ty : Nat → Nat} (_ : Cv p a b n gx gy) (hT : Tb p a gx gy n tx ty) {i : Nat} (hi : i < n) : pxF (tb p a gx gy i) = if i = 0 then -1 else (tx i : Int) := by
  by_cases h0 : i = 0
  · subst h0
    rfl
  · rw [hT i (by omega) hi, if_neg h0]
    rfl
theorem Tb.py {p a b n gx gy : Nat} [NeZero p] {tx ty : Nat → Nat} (_ : Cv p a b n gx gy) (hT : Tb p a gx gy n tx ty) {i : Nat} (hi : i < n) : pyF (tb p a gx gy i) = if i = 0 then -1 else (ty i : Int) := by
  by_cases h0 : i = 0
  · subst h0
    rfl
  · rw [hT i (by omega) hi, if_neg h0]
    rfl
theorem Tb.cd {p a b n gx gy : Nat} [NeZero p] {tx ty : Nat → Nat} (_ : Cv p a b n gx gy) (hT : Tb p a gx gy n tx ty) {i : Nat} (hi : i < n) (k : Int) : cdF (tb p a gx gy i) (decide (k ≠ 0)) = boF tx ty i k := by
  unfold boF
  by_cases h0 : i = 0
  · subst h0
    rfl
  · rw [hT i (by omega) hi, if_neg h0]
    show (if decide (k ≠ 0) = true then _ else _) = _
    by_cases hk : k = 0
    · rw [if_pos hk, if_neg (by simp [hk])]
      show 17179869184 + ((tx i : Int) * 65536 + (ty i : Int)) = _
      omega
    · rw [if_neg hk, if_pos (by simp [hk])]
theorem fdF_no {tx ty : Nat → Nat} {n : Nat} {x y : Int} : ∀ (f i at1 : Nat), (∀ j, i ≤ j → j < n → ¬ ((tx j : Int) = x ∧ (ty j : Int) = y)) → fdF tx ty n x y f i at1 = at1
  | 0, _, _, _ => rfl
  | f + 1, i, at1, h => by
    rw [fdF_s]
    by_cases h1 : n ≤ i
    · rw [if_pos h1]
    · rw [if_neg h1]
      have e : (if (tx i : Int) = x then (if (ty i : Int) = y then i else at1) else at1) = at1 := by
        have := h i (Nat.le_refl i) (by omega)
        by_cases g : (tx i : Int) = x
        · rw [if_pos g, if_neg (fun z => this ⟨g, z⟩)]
        · rw [if_neg g]
      rw [e]
      exact fdF_no f (i + 1) at1 fun j g1 g2 => h j (by omega) g2
theorem fdF_at {tx ty : Nat → Nat} {n : Nat} {x y : Int} {j : Nat} (hj : j < n) (ex : (tx j : Int) = x) (ey : (ty j : Int) = y) (hu : ∀ k, j < k → k < n → ¬ ((tx k : Int) = x ∧ (ty k : Int) = y)) : ∀ (f i at1 : Nat), i ≤ j → j < i + f → fdF tx ty n x y f i at1 = j
  | 0, i, at1, h1, h2 => by omega
  | f + 1, i, at1, h1, h2 => by
    rw [fdF_s, if_neg (by omega)]
    by_cases h : i = j
    · subst h
      rw [if_pos ex, if_pos ey]
      exact fdF_no f (i + 1) i fun k g1 g2 => hu k (by omega) g2
    · exact fdF_at hj ex ey hu f (i + 1) _ (by omega) (by omega)
theorem hoF_i {p a b : Nat} {x y : Int} : hoF p a b x y ≠ 0 ↔ ∃ u v : Nat, x = u ∧ y = v ∧ u < p ∧ v < p ∧ v * v % p = cub p a b u := by
  constructor
  · intro h
    obtain ⟨h1, h2, h3, h4, h5⟩ := hoF_1 h
    refine ⟨x.toNat, y.toNat, by omega, by omega, by omega, by omega, ?_⟩
    have e1 : x = (x.toNat : Int) := by omega
    have e2 : y = (y.toNat : Int) := by omega
    generalize x.toNat = u at e1
    generalize y.toNat = v at e2
    subst e1 e2
    unfold cub
    exact Int.ofNat.inj (by
      show ((v * v % p : Nat) : Int) = ((((u * u + a) % p * u + b) % p : Nat) : Int)
      rw [Int.natCast_emod, Int.natCast_mul, Int.natCast_emod, Int.natCast_add, Int.natCast_mul, Int.natCast_emod, Int.natCast_add, Int.natCast_mul]
      exact h5)
  · rintro ⟨u, v, rfl, rfl, hu, hv, e⟩
    unfold hoF
    rw [if_neg (by omega), if_neg (by omega), if_neg (by omega), if_neg (by omega), if_pos]
    · decide
    · have : ((v * v % p : Nat) : Int) = ((cub p a b u : Nat) : Int) := by rw [e]
      unfold cub at this
      rw [Int.natCast_emod, Int.natCast_mul, Int.natCast_emod, Int.natCast_add, Int.natCast_mul, Int.natCast_emod, Int.natCast_add, Int.natCast_mul] at this
      exact this
theorem Tb.find {p a b n gx gy : Nat} [NeZero p] {tx ty : Nat → Nat} (h : Cv p a b n gx gy) (hn : n ≤ 1100) (hT : Tb p a gx gy n tx ty) (x y : Int) : (hoF p a b x y = 0 → fdF tx ty n x y 1100 1 0 = 0) ∧ (hoF p a b x y ≠ 0 → 1 ≤ fdF tx ty n x y 1100 1 0 ∧ fdF tx ty n x y 1100 1 0 < n ∧ tb p a gx gy (fdF tx ty n x y 1100 1 0) = some (x.toNat, y.toNat)) := by
  constructor
  · intro z
    refine fdF_no 1100 1 0 fun j h1 h2 g => ?_
    obtain ⟨k1, k2, k3, -⟩ := hT.pt h h1 h2
    exact hoF_i.mpr ⟨tx j, ty j, g.1.symm, g.2.symm, k1, k2, k3⟩ z
  · intro z
    obtain ⟨u, v, rfl, rfl, hu, hv, e⟩ := hoF_i.mp z
    obtain ⟨i, i1, i2, i3⟩ := h.tfind hu hv e
    have ex : tx i = u ∧ ty i = v := by
      have := (hT i i1 i2).symm.trans i3
      injection this with this
      injection this with a b
      exact ⟨a, b⟩
    have : fdF tx ty n (u : Int) (v : Int) 1100 1 0 = i := by
      refine fdF_at i2 (by rw [ex.1]) (by rw [ex.2]) (fun k g1 g2 g => ?_) 1100 1 0 i1 (by omega)
      have := hT.one h (i := k) (j := i) (by omega) g2 i1 i2 (by omega) (by omega)
      omega
    rw [this]
    exact ⟨i1, i2, i3⟩
theorem rdF_no {tx ty : Nat → Nat} {n : Nat} {k z : Int} : ∀ (f i : Nat) (at1 : Int), (∀ j, i ≤ j → j < n → ¬ ((k = 3 ∧ boF tx ty j 1 = z) ∨ (k = 5 ∧ boF tx ty j 0 = z))) → rdF tx ty n k z f i at1 = at1
  | 0, _, _, _ => rfl
  | f + 1, i, at1, h => by
    rw [rdF_s]
    by_cases h1 : n ≤ i
    · rw [if_pos h1]
    · rw [if_neg h1, if_neg (h i (Nat.le_refl i) (by omega))]
      exact rdF_no f (i + 1) at1 fun j g1 g2 => h j (by omega) g2
theorem rdF_at {tx ty : Nat → Nat} {n : Nat} {k z : Int} {j : Nat} (hj : j < n) (e : (k = 3 ∧ boF tx ty j 1 = z) ∨ (k = 5 ∧ boF tx ty j 0 = z)) (hu : ∀ i, j < i → i < n → ¬ ((k = 3 ∧ boF tx ty i 1 = z) ∨ (k = 5 ∧ boF tx ty i 0 = z))) : ∀ (f i : Nat) (at1 : Int), i ≤ j → j < i + f → rdF tx ty n k z f i at1 = (j : Int)
  | 0, i, at1, h1, h2 => by omega
  | f + 1, i, at1, h1, h2 => by
    rw [rdF_s, if_neg (by omega)]
    by_cases h : i = j
    · subst h
      rw [if_pos e]
      exact rdF_no f (i + 1) i fun k g1 g2 => hu k (by omega) g2
    · exact rdF_at hj e hu f (i + 1) _ (by omega) (by omega)
theorem p_odd {p : Nat} (h : pr p) (h5 : 5 ≤ p) : p % 2 = 1 := by
  apply Classical.byContradiction
  intro z
  rcases pr_dvd h (Nat.dvd_of_mod_eq_zero (show p % 2 = 0 by omega)) with g | g <;> omega
theorem Tb.read3 {p a b n gx gy : Nat} [NeZero p] {tx ty : Nat → Nat} (h : Cv p a b n gx gy) (hp : p ≤ 1021) (hn : n ≤ 1100) (hT : Tb p a gx gy n tx ty) (z : Int) : psF p a b z = (if rdF tx ty n 3 z 1100 1 (-1) = -1 then -2 else ecd (tb p a gx gy (rdF tx ty n 3 z 1100 1 (-1)).toNat)) := by
  have od := p_odd h.1 h.2.1
  have bo : ∀ j, 1 ≤ j → boF tx ty j 1 = (2 + (ty j : Int) % 2) * 65536 + (tx j : Int) := fun j hj => by
    unfold boF
    rw [if_neg (by omega), if_neg (by decide)]
  have no : (∀ j, 1 ≤ j → j < n → (2 + (ty j : Int) % 2) * 65536 + (tx j : Int) ≠ z) → rdF tx ty n 3 z 1100 1 (-1) = -1 := fun k => rdF_no 1100 1 (-1) fun j h1 h2 g => by
    rcases g with g | g
    · rw [bo j h1] at g
      exact k j h1 h2 g.2
    · exact absurd g.1 (by decide)
  unfold psF
  by_cases h1 : z / 65536 = 2 ∨ z / 65536 = 3
  · rw [if_pos h1]
    by_cases h2 : z % 65536 < p
    · rw [if_pos h2]
      generalize hX : (z % 65536).toNat = X
      have eX : z % 65536 = (X : Int) := by omega
      have lX : X < p := by omega
      by_cases h3 : qr p (cub p a b X)
      · obtain ⟨s, e1, e2, e3, e4⟩ := lr_yes (by omega) h3
        rw [e1, if_neg (by omega), eX]
        have s0 : 0 < s := by
          obtain ⟨i, i1, i2, i3⟩ := h.tfind lX (show s < p by omega) e3
          exact (h.tpt i3).2.2.2
        obtain ⟨y, ey, yp, yo, y2, y0⟩ : ∃ y : Nat, (if (s : Int) % 2 = z / 65536 - 2 then (s : Int) else p - s) = (y : Int) ∧ y < p ∧ y * y % p = cub p a b X ∧ (y : Int) % 2 = z / 65536 - 2 ∧ 0 < y := by
          by_cases g : (s : Int) % 2 = z / 65536 - 2
          · exact ⟨s, if_pos g, by omega, e3, g, s0⟩
          · exact ⟨p - s, by rw [if_neg g]; omega, by omega, by rw [sq_neg (by omega)]; exact e3, by omega, by omega⟩
        rw [ey]
        obtain ⟨i, i1, i2, i3⟩ := h.tfind lX yp yo
        have ex : tx i = X ∧ ty i = y := by
          have := (hT i i1 i2).symm.trans i3
          injection this with this
          injection this with a b
          exact ⟨a, b⟩
        have e : rdF tx ty n 3 z 1100 1 (-1) = (i : Int) := by
          refine rdF_at i2 (.inl ⟨rfl, ?_⟩) (fun j g1 g2 g => ?_) 1100 1 (-1) i1 (by omega)
          · rw [bo i i1, ex.1, ex.2]
            omega
          · rcases g with g | g
            · have g := g.2
              rw [bo j (by omega)] at g
              obtain ⟨k1, k2, k3, k4⟩ := hT.pt h (i := j) (by omega) g2
              have xj : tx j = X := by omega
              rw [xj] at k3
              rcases sq_eq h.1 k2 yp k4 y0 (by rw [k3, yo]) with q | q
              · have := hT.one h (i := j) (j := i) (by omega) g2 i1 i2 (by omega) (by omega)
                omega
              · omega
            · exact absurd g.1 (by decide)
        rw [e, if_neg (by omega), Int.toNat_natCast, i3]
        rfl
      · rw [lr_no (show 2 ≤ p by have := h.2.1; omega) h3, if_pos rfl, no fun j j1 j2 g => ?_, if_pos rfl]
        obtain ⟨k1, k2, k3, k4⟩ := hT.pt h j1 j2
        refine h3 ⟨ty j, k2, ?_⟩
        rw [k3]
        congr 1
        omega
    · rw [if_neg h2, no fun j j1 j2 g => ?_, if_pos rfl]
      have := (hT.pt h j1 j2).1
      omega
  · rw [if_neg h1, no fun j j1 j2 g => ?_, if_pos rfl]
    have := (hT.pt h j1 j2).1
    omega
theorem Tb.read5 {p a b n gx gy : Nat} [NeZero p] {tx ty : Nat → Nat} (h : Cv p a b n gx gy) (hp : p ≤ 1021) (hn : n ≤ 1100) (hT : Tb p a gx gy n tx ty) (z : Int) : ppF p a b z = (if rdF tx ty n 5 z 1100 1 (-1) = -1 then -2 else ecd (tb p a gx gy (rdF tx ty n 5 z 1100 1 (-1)).toNat)) := by
  have bo : ∀ j, 1 ≤ j → boF tx ty j 0 = 17179869184 + (tx j : Int) * 65536 + (ty j : Int) := fun j hj => by
    unfold boF
    rw [if_neg (by omega), if_pos rfl]
  have no : (∀ j, 1 ≤ j → j < n → 17179869184 + (tx j : Int) * 65536 + (ty j : Int) ≠ z) → rdF tx ty n 5 z 1100 1 (-1) = -1 := fun k => rdF_no 1100 1 (-1) fun j h1 h2 g => by
    rcases g with g | g
    · exact absurd g.1 (by decide)
    · rw [bo j h1] at g
      exact k j h1 h2 g.2
  unfold ppF
  by_cases h1 : z / 4294967296 = 4
  · rw [if_pos h1]
    by_cases h2 : hoF p a b (z / 65536 % 65536) (z % 65536) = 0
    · rw [if_pos h2, no fun j j1 j2 g => ?_, if_pos rfl]
      obtain ⟨k1, k2, k3, k4⟩ := hT.pt h j1 j2
      exact hoF_i.mpr ⟨tx j, ty j, by omega, by omega, k1, k2, k3⟩ h2
    · rw [if_neg h2]
      obtain ⟨u, v, eu, ev, hu, hv, eo⟩ := hoF_i.mp h2
      obtain ⟨i, i1, i2, i3⟩ := h.tfind hu hv eo
      have ex : tx i = u ∧ ty i = v := by
        have := (hT i i1 i2).symm.trans i3
        injection this with this
        injection this with a b
        exact ⟨a, b⟩
      have e : rdF tx ty n 5 z 1100 1 (-1) = (i : Int) := by
        refine rdF_at i2 (.inr ⟨rfl, ?_⟩) (fun j g1 g2 g => ?_) 1100 1 (-1) i1 (by omega)
        · rw [bo i i1, ex.1, ex.2]
          omega
        · rcases g with g | g
          · exact absurd g.1 (by decide)
          · have g := g.2
            rw [bo j (by omega)] at g
            obtain ⟨k1, k2, k3, k4⟩ := hT.pt h (i := j) (by omega) g2
            have := hT.one h (i := j) (j := i) (by omega) g2 i1 i2 (by omega) (by omega)
            omega
      rw [e, if_neg (by omega), Int.toNat_natCast, i3, eu, ev]
      rfl
  · rw [if_neg h1, no fun j j1 j2 g => ?_, if_pos rfl]
    have := hT.pt h j1 j2
    omega
theorem Tb.read {p a b n gx gy : Nat} [NeZero p] {tx ty : Nat → Nat} (h : Cv p a b n gx gy) (hp : p ≤ 1021) (hn : n ≤ 1100) (hT : Tb p a gx gy n tx ty) (k z : Int) : pbF p a b k z = (if reF tx ty n k z = -1 then -2 else ecd (tb p a gx gy (reF tx ty n k z).toNat)) := by
  unfold pbF reF
  by_cases k1 : k = 1
  · rw [if_pos k1, if_pos k1]
    by_cases z0 : z = 0
    · rw [if_pos z0, if_pos z0, if_neg (by decide)]
      rfl
    · rw [if_neg z0, if_neg z0, if_pos rfl]
  · rw [if_neg k1, if_neg k1]
    by_cases k3 : k = 3
    · subst k3
      rw [if_pos rfl]
      exact hT.read3 h hp hn z
    · rw [if_neg k3]
      by_cases k5 : k = 5
      · subst k5
        rw [if_pos rfl]
        exact hT.read5 h hp hn z
      · rw [if_neg k5, rdF_no, if_pos rfl]
        rintro j - - (g | g)
        · exact k3 g.1
        · exact k5 g.1
theorem rdF_lt {tx ty : Nat → Nat} {n : Nat} {k z : Int} : ∀ (f i : Nat) (at1 : Int), at1 < n → rdF tx ty n k z f i at1 < n
  | 0, _, _, h => h
  | f + 1, i, at1, h => by
    rw [rdF_s]
    split
    · exact h
    · refine rdF_lt f (i + 1) _ ?_
      split
      · omega
      · exact h
theorem reF_lt {tx ty : Nat → Nat} {n : Nat} (hn : 0 < n) (k z : Int) : reF tx ty n k z < n := by
  unfold reF
  split
  · split <;> omega
  · exact rdF_lt _ _ _ (by omega)
theorem unF_0 {n : Nat} {k : Int} : unF n k = 0 ↔ k < 1 ∨ n ≤ k := by
  unfold unF
  by_cases h1 : k < 1
  · rw [if_pos h1]
    exact ⟨fun _ => .inl h1, fun _ => rfl⟩
  · rw [if_neg h1]
    by_cases h2 : (n : Int) ≤ k
    · rw [if_pos h2]
      exact ⟨fun _ => .inr h2, fun _ => rfl⟩
    · rw [if_neg h2]
      omega
theorem Tb.fits {p a b n gx gy : Nat} [NeZero p] {tx ty : Nat → Nat} (h : Cv p a b n gx gy) (hp : p ≤ 1021) (hn : n ≤ 1100) (hT : Tb p a gx gy n tx ty) {q : Nat} (hq : q < n) (z r s : Int) : fiF p a n (some (gx, gy)) (tb p a gx gy q) z r s = mfF tx n q z r s := by
  have n3 : 3 ≤ n := h.2.2.2.2.2.2.1
  have prn : pr n := h.2.2.2.2.2.2.2.1
  have hl : ∀ k : Int, (k % (n : Int)).toNat < n := fun k => by
    have := em_b k (show (0 : Int) < n by omega)
    omega
  unfold fiF mfF
  by_cases h1 : q = 0
  · rw [if_pos ((hT.ec h hq).mpr h1), if_pos (by omega)]
  · rw [if_neg (fun z => h1 ((hT.ec h hq).mp z)), if_neg (show ¬ (q : Int) ≤ 0 by omega)]
    by_cases h2 : r < 1
    · rw [if_pos h2, if_pos (unF_0.mpr (.inl h2))]
    · rw [if_neg h2]
      by_cases h3 : (n : Int) ≤ r
      · rw [if_pos h3, if_pos (unF_0.mpr (.inr h3))]
      · rw [if_neg h3, if_neg (fun z => by have := unF_0.mp z; omega)]
        by_cases h4 : s < 1
        · rw [if_pos h4, if_pos (unF_0.mpr (.inl h4))]
        · rw [if_neg h4]
          by_cases h5 : (n : Int) ≤ s
          · rw [if_pos h5, if_pos (unF_0.mpr (.inr h5))]
          · rw [if_neg h5, if_neg (show ¬ unF n s = 0 from fun z => by have := unF_0.mp z; omega)]
            rw [inv_same prn n3 hn (v := s.toNat) (by omega)]
            generalize ivF s.toNat n 1100 1 = iv
            rw [← h.tb1, h.times hp (Nat.lt_trans (hl _) (by omega)), h.times hp (Nat.lt_trans (hl _) (by omega)), h.plus hp, h.tmod]
            have eI : ((((z % (n : Int) * (iv : Int) % (n : Int) % (n : Int)).toNat * 1 + (r * (iv : Int) % (n : Int) % (n : Int)).toNat * q) % n : Nat) : Int) = (z % (n : Int) * (iv : Int) + r * (iv : Int) % (n : Int) * q) % (n : Int) := by
              rw [Int.natCast_emod, Int.natCast_add, Int.natCast_mul, Int.natCast_mul, Int.toNat_of_nonneg (em_b _ (by omega)).1, Int.toNat_of_nonneg (em_b _ (by omega)).1, Int.emod_emod_of_dvd _ (Int.dvd_refl _), Int.emod_emod_of_dvd _ (Int.dvd_refl _)]
              rw [show ((1 : Nat) : Int) = 1 from rfl, Int.mul_one, Int.add_emod, Int.emod_emod_of_dvd _ (Int.dvd_refl _), ← Int.add_emod]
            have lI : ((z % (n : Int) * (iv : Int) % (n : Int) % (n : Int)).toNat * 1 + (r * (iv : Int) % (n : Int) % (n : Int)).toNat * q) % n < n := Nat.mod_lt _ (by omega)
            generalize ((z % (n : Int) * (iv : Int) % (n : Int) % (n : Int)).toNat * 1 + (r * (iv : Int) % (n : Int) % (n : Int)).toNat * q) % n = I at eI lI
            rw [← eI]
            by_cases h6 : I = 0
            · rw [if_pos ((hT.ec h lI).mpr h6), if_pos (by omega)]
            · rw [if_neg (fun z => h6 ((hT.ec h lI).mp z)), if_neg (show ¬ (I : Int) = 0 by omega), hT I (by omega) lI, Int.toNat_natCast, ← Int.natCast_emod]
              rfl
theorem ofC_ecd {p : Nat} (hp : p ≤ 1021) {P : Option (Nat × Nat)} (h : sm2 p P) : ofC (ecd P) = P := by
  cases P with
  | none => rfl
  | some q =>
    obtain ⟨x, y⟩ := q
    have := h x y rfl
    rw [ecd_some]
    unfold ofC
    rw [if_neg (by omega)]
    congr 2 <;> omega
theorem Cv.sm {p a b n gx gy : Nat} [NeZero p] (h : Cv p a b n gx gy) (i : Nat) : sm2 p (tb p a gx gy i) := fun x y e => ⟨(h.tpt e).1, (h.tpt e).2.1⟩
theorem Tb.acc {p a b n gx gy : Nat} [NeZero p] {tx ty : Nat → Nat} (h : Cv p a b n gx gy) (hp : p ≤ 1021) (hn : n ≤ 1100) (hT : Tb p a gx gy n tx ty) (k m z r s : Int) : acF p a b n (some (gx, gy)) k m z r s = mfF tx n (reF tx ty n k m) z r s := by
  have n3 : 3 ≤ n := h.2.2.2.2.2.2.1
  unfold acF
  rw [hT.read h hp hn]
  have b1 := reF_b tx ty n hn k m
  have b2 := reF_lt (tx := tx) (ty := ty) (show 0 < n by omega) k m
  generalize reF tx ty n k m = e at b1 b2
  by_cases h1 : e = -1
  · rw [if_pos h1, if_pos rfl]
    unfold mfF
    rw [if_pos (by omega)]
  · rw [if_neg h1]
    have c := ecd_b hp (h.sm e.toNat)
    rw [if_neg (by omega), ofC_ecd hp (h.sm e.toNat), hT.fits h hp hn (by omega), Int.toNat_of_nonneg (by omega)]
theorem sg_same {n : Nat} (hn : pr n) (h3 : 3 ≤ n) (hl : n ≤ 1100) (x : Nat) (k e d : Int) : sgF n x k e d = sg2 n x k e d := by
  unfold sgF sg2
  by_cases h1 : k < 1
  · rw [if_pos h1, if_pos (unF_0.mpr (.inl h1))]
  · rw [if_neg h1]
    by_cases h2 : (n : Int) ≤ k
    · rw [if_pos h2, if_pos (unF_0.mpr (.inr h2))]
    · rw [if_neg h2, if_neg (fun z => by have := unF_0.mp z; omega)]
      unfold qtF
      rw [Int.emod_eq_of_lt (a := k) (by omega) (by omega), inv_same hn h3 hl (by omega), Int.natCast_emod]
theorem sg_out {n : Nat} {x y : Nat} {k e d : Int} (h : ¬ (1 ≤ k ∧ k < n)) : sg2 n x k e d = sg2 n y k e d := by
  unfold sg2
  by_cases h1 : k < 1
  · rw [if_pos h1, if_pos h1]
  · rw [if_neg h1, if_neg h1, if_pos (by omega), if_pos (by omega)]
