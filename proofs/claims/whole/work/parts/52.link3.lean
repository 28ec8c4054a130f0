/-! Links: the table of multiples, sums and products on both sides. -/
theorem iv_one {q v : Nat} (h : pr q) (hq : q ≤ 1100) (h0 : 1 ≤ v) (hv : v < q) : v * ivF v q 1100 1 % q = 1 ∧ ivF v q 1100 1 < q := by
  have o := pwF_one h (by omega) h0 hv
  have l := pwF_ltq (show 0 < q by omega) 11 1 v (q - 2) (by have := h.1; omega)
  have l1 : 1 ≤ pwF q 11 1 v (q - 2) := by
    apply Classical.byContradiction
    intro z
    rw [show pwF q 11 1 v (q - 2) = 0 by omega, Nat.mul_zero, Nat.zero_mod] at o
    omega
  exact ivF_spec v q 1100 1 _ l1 l (by omega) o
theorem sq_eq1 {p y v : Nat} (hp : pr p) (hv : v < p) (h0 : 0 < y) (hle : y ≤ v) (h : y * y % p = v * v % p) : y = v ∨ y + v = p := by
  have d : p ∣ (v - y) * (v + y) := by
    have e : (v - y) * (v + y) = v * v - y * y := by
      rw [Nat.mul_comm]
      exact (Nat.mul_self_sub_mul_self_eq v y).symm
    rw [e]
    exact Nat.dvd_of_mod_eq_zero (Nat.sub_mod_eq_zero_of_mod_eq h.symm)
  rcases pr_euclid hp d with g | g
  · left
    apply Classical.byContradiction
    intro z
    exact pr_small (by omega) (by omega) g
  · right
    obtain ⟨c, hc⟩ := g
    rcases (show c = 0 ∨ c = 1 ∨ 2 ≤ c by omega) with rfl | rfl | g
    · omega
    · omega
    · have := Nat.mul_le_mul_left p g
      omega
theorem sq_eq {p y v : Nat} (hp : pr p) (hy : y < p) (hv : v < p) (h0 : 0 < y) (h1 : 0 < v) (h : y * y % p = v * v % p) : y = v ∨ y + v = p := by
  rcases Nat.le_total y v with g | g
  · exact sq_eq1 hp hv h0 g h
  · rcases sq_eq1 hp hy h1 g h.symm with k | k
    · exact .inl k.symm
    · exact .inr (by omega)
theorem two_ne {p y : Nat} (hp : pr p) (h5 : 5 ≤ p) (h0 : 0 < y) (h1 : y < p) : 2 * y % p ≠ 0 := by
  intro z
  rcases pr_euclid hp (Nat.dvd_of_mod_eq_zero z) with g | g
  · exact pr_small (by omega) (by omega) g
  · exact pr_small h0 h1 g
theorem two_neI {p y : Nat} (hp : pr p) (h5 : 5 ≤ p) (h0 : 0 < y) (h1 : y < p) : 2 * (y : Int) % (p : Int) ≠ 0 := by
  have h := two_ne hp h5 h0 h1
  have e : 2 * (y : Int) % (p : Int) = ((2 * y % p : Nat) : Int) := by
    rw [Int.natCast_emod, Int.natCast_mul]
    rfl
  rw [e]
  exact fun z => h (Int.ofNat.inj z)
theorem sub_ne {p x u : Nat} (hx : x < p) (hu : u < p) (h : x ≠ u) : ((u : Int) - x) % (p : Int) ≠ 0 := by
  intro z
  obtain ⟨c, hc⟩ := Int.dvd_of_emod_eq_zero z
  rcases (show c ≤ -1 ∨ c = 0 ∨ 1 ≤ c by omega) with g | rfl | g
  · have := Int.mul_le_mul_of_nonneg_left g (show (0 : Int) ≤ p by omega)
    omega
  · omega
  · have := Int.mul_le_mul_of_nonneg_left g (show (0 : Int) ≤ p by omega)
    omega
theorem nn_of {p : Nat} {k : Int} (hp : 0 < p) (h : k % (p : Int) ≠ 0) : 1 ≤ (k % (p : Int)).toNat ∧ (k % (p : Int)).toNat < p := by
  have := Int.emod_nonneg k (show (p : Int) ≠ 0 by omega)
  have := Int.emod_lt_of_pos k (show (0 : Int) < p by omega)
  omega
theorem Cv.plus {p a b n gx gy : Nat} [NeZero p] (h : Cv p a b n gx gy) (hp : p ≤ 1021) (i j : Nat) : plF p a (tb p a gx gy i) (tb p a gx gy j) = tb p a gx gy (i + j) := by
  have step : ∀ i j, tb p a gx gy (i + j) = pn (ec_add (fi p) (fz p (a : Int)) (tF p a gx gy i) (tF p a gx gy j)) := fun i j => by
    rw [h.step i j]
    rfl
  cases hi : tb p a gx gy i with
  | none =>
    have e : tF p a gx gy i = none := pn_inj (Q := none) hi
    rw [step, e]
    show tb p a gx gy j = pn (ec_add (fi p) (fz p (a : Int)) none (tF p a gx gy j))
    unfold tb
    congr 1
  | some P =>
    obtain ⟨x, y⟩ := P
    cases hj : tb p a gx gy j with
    | none =>
      have e : tF p a gx gy j = none := pn_inj (Q := none) hj
      have e1 : tb p a gx gy (i + j) = tb p a gx gy i := by
        rw [step, e]
        unfold tb
        congr 1
        cases tF p a gx gy i <;> rfl
      rw [e1, hi]
      rfl
    | some Q =>
      obtain ⟨u, v⟩ := Q
      obtain ⟨hx, hy, ox, y0⟩ := h.tpt hi
      obtain ⟨hu, hv, ou, v0⟩ := h.tpt hj
      show (if x = u ∧ y + v = p then none else some (((slF p a x y u v * slF p a x y u v - x - u) % p).toNat, ((slF p a x y u v * ((x : Int) - (slF p a x y u v * slF p a x y u v - x - u) % p) - y) % p).toNat)) = tb p a gx gy (i + j)
      by_cases hs : x = u ∧ y + v = p
      · rw [if_pos hs]
        obtain ⟨rfl, hs⟩ := hs
        exact (h.padd0 hi hj hs).symm
      · rw [if_neg hs]
        have p0 : (0 : Int) < p := by omega
        have n1 := em_b (slF p a x y u v * slF p a x y u v - x - u) p0
        have n2 := em_b (slF p a x y u v * ((x : Int) - (slF p a x y u v * slF p a x y u v - x - u) % p) - y) p0
        refine (h.padd hi hj hs (m := slF p a x y u v) ?_ ?_ (by omega) (by omega) ?_ ?_).symm
        · intro g
          unfold slF
          rw [if_neg (by omega)]
          have k := nn_of (show 0 < p by omega) (sub_ne hx hu g)
          exact sl_ok (by omega) (pwF_one h.1 (by omega) k.1 k.2)
        · intro g
          subst g
          have e : y = v := by
            rcases sq_eq h.1 hy hv y0 v0 (by rw [ox, ou]) with k | k
            · exact k
            · exact absurd ⟨rfl, k⟩ hs
          subst e
          unfold slF
          rw [if_pos rfl]
          have k := nn_of (p := p) (k := 2 * (y : Int)) (show 0 < p by omega) (two_neI h.1 h.2.1 y0 hy)
          exact sl_ok (by omega) (pwF_one h.1 (by omega) k.1 k.2)
        · rw [Int.toNat_of_nonneg n1.1, Int.emod_emod_of_dvd _ (Int.dvd_refl _)]
        · rw [Int.toNat_of_nonneg n2.1, Int.toNat_of_nonneg n1.1, Int.emod_emod_of_dvd _ (Int.dvd_refl _)]
theorem Cv.mult {p a b n gx gy : Nat} [NeZero p] (h : Cv p a b n gx gy) (hp : p ≤ 1021) : ∀ (f r s e : Nat), e < 2 ^ f → muF p a f (tb p a gx gy r) (tb p a gx gy s) e = tb p a gx gy (r + e * s)
  | 0, r, s, e, he => by
    have : e = 0 := by
      rw [Nat.pow_zero] at he
      omega
    subst this
    rw [Nat.zero_mul, Nat.add_zero]
    rfl
  | f + 1, r, s, e, he => by
    show (if e = 0 then tb p a gx gy r else muF p a f (if e % 2 = 1 then plF p a (tb p a gx gy r) (tb p a gx gy s) else tb p a gx gy r) (plF p a (tb p a gx gy s) (tb p a gx gy s)) (e / 2)) = _
    by_cases h0 : e = 0
    · rw [if_pos h0, h0, Nat.zero_mul, Nat.add_zero]
    · rw [if_neg h0, h.plus hp s s]
      have hl : e / 2 < 2 ^ f := by
        rw [Nat.pow_succ] at he
        omega
      by_cases h1 : e % 2 = 1
      · rw [if_pos h1, h.plus hp r s, h.mult hp f _ _ _ hl]
        congr 1
        have : e * s = (2 * (e / 2) + 1) * s := by rw [show 2 * (e / 2) + 1 = e by omega]
        rw [this]
        grind
      · rw [if_neg h1, h.mult hp f _ _ _ hl]
        congr 1
        have : e * s = (2 * (e / 2)) * s := by rw [show 2 * (e / 2) = e by omega]
        rw [this]
        grind
theorem Cv.times {p a b n gx gy : Nat} [NeZero p] (h : Cv p a b n gx gy) (hp : p ≤ 1021) {s e : Nat} (he : e < 2048) : muF p a 11 none (tb p a gx gy s) e = tb p a gx gy (e * s) := by
  have := h.mult hp 11 0 s e he
  rw [Nat.zero_add] at this
  exact this
/-- the reference's table -/
theorem Cv.tabl {p a b n gx gy : Nat} [NeZero p] (h : Cv p a b n gx gy) (hp : p ≤ 1021) : ∀ j, 1 ≤ j → j < n → tb p a gx gy j = some (tpF p a gx gy j)
  | 0, h1, _ => by omega
  | 1, _, _ => h.tb1
  | j + 2, _, hj => by
    have ih := h.tabl hp (j + 1) (by omega) (by omega)
    have e : tpF p a gx gy (j + 2) = adF p a (tpF p a gx gy (j + 1)) (gx, gy) := rfl
    rw [e]
    generalize tpF p a gx gy (j + 1) = P at ih
    obtain ⟨x, y⟩ := P
    obtain ⟨hx, hy, ox, y0⟩ := h.tpt ih
    obtain ⟨hu, hv, ou, v0⟩ := h.tpt h.tb1
    have hs : ¬ (x = gx ∧ y + gy = p) := by
      rintro ⟨rfl, z⟩
      have := h.padd0 ih h.tb1 z
      have := h.tnone (i := j + 1 + 1) hj this
      omega
    have p0 : (0 : Int) < p := by omega
    have n1 := axF_b p a x y gx gy p0
    have n2 := ayF_b p a x y gx gy p0
    show tb p a gx gy (j + 1 + 1) = some ((axF p a x y gx gy).toNat, (ayF p a x y gx gy).toNat)
    refine h.padd ih h.tb1 hs (m := mmF p a x y gx gy) ?_ ?_ (by omega) (by omega) ?_ ?_
    · intro g
      have q : dnF p x y gx = ((gx : Int) - x + p) % p := if_neg (by omega)
      have q2 : upF p a x y gx gy = (gy : Int) - y + p := if_neg (by omega)
      have k := nn_of (show 0 < p by omega) (sub_ne hx hu g)
      have q3 : ((gx : Int) - x + p) % p = ((gx : Int) - x) % p := Int.add_emod_right ..
      have := sl_ok (p := p) (up := (gy : Int) - y + p) (c := (gx : Int) - x) (by omega) (iv_one h.1 (by omega) k.1 k.2).1
      unfold mmF
      rw [q, q2, q3, Int.toNat_natCast, this]
      exact Int.add_emod_right ..
    · intro g
      subst g
      have q : dnF p x y x = 2 * (y : Int) % p := if_pos rfl
      have q2 : upF p a x y x gy = 3 * (x : Int) * x + a := if_pos rfl
      have k := nn_of (p := p) (k := 2 * (y : Int)) (show 0 < p by omega) (two_neI h.1 h.2.1 y0 hy)
      have := sl_ok (p := p) (up := 3 * (x : Int) * x + a) (c := 2 * (y : Int)) (by omega) (iv_one h.1 (by omega) k.1 k.2).1
      unfold mmF
      rw [q, q2, Int.toNat_natCast, this]
    · show ((axF p a x y gx gy).toNat : Int) % p = _
      rw [Int.toNat_of_nonneg n1.1]
      unfold axF
      rw [Int.emod_emod_of_dvd _ (Int.dvd_refl _), show mmF p a x y gx gy * mmF p a x y gx gy + 2 * (p : Int) - x - gx = mmF p a x y gx gy * mmF p a x y gx gy - x - gx + 2 * p by omega]
      exact Int.add_mul_emod_self_right ..
    · show ((ayF p a x y gx gy).toNat : Int) % p = _
      rw [Int.toNat_of_nonneg n2.1]
      show ayF p a x y gx gy % p = (mmF p a x y gx gy * ((x : Int) - ((axF p a x y gx gy).toNat : Int)) - y) % p
      rw [Int.toNat_of_nonneg n1.1]
      unfold ayF
      generalize axF p a x y gx gy = A
      generalize mmF p a x y gx gy = M
      rw [Int.emod_emod_of_dvd _ (Int.dvd_refl _), show M * ((x : Int) - A + p) + p - y = M * ((x : Int) - A) - y + (M + 1) * p by grind]
      exact Int.add_mul_emod_self_right ..
