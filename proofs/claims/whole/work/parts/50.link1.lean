/-! Links: primes, inverses, discriminants of the two sides. -/
theorem pl_mono {a b : Nat} (h : a ≤ b) : a * a ≤ b * b := Nat.mul_le_mul h h
theorem prF_ss (n f d : Nat) : prF n (f + 1) d = if n < d * d then (if n < 2 then 0 else 1) else if n % d = 0 then 0 else prF n f (d + 1) := rfl
theorem prF_iff (n : Nat) : ∀ (f d : Nat), n < (d + f) * (d + f) → (prF n (f + 1) d ≠ 0 ↔ 2 ≤ n ∧ ∀ e, d ≤ e → e * e ≤ n → n % e ≠ 0)
  | 0, d, h => by
    rw [Nat.add_zero] at h
    rw [prF_ss, if_pos h]
    constructor
    · intro g
      refine ⟨?_, fun e he h2 => ?_⟩
      · apply Classical.byContradiction
        intro z
        exact g (if_pos (by omega))
      · have := pl_mono he
        omega
    · rintro ⟨g, -⟩
      rw [if_neg (by omega)]
      omega
  | f + 1, d, h => by
    rw [prF_ss]
    by_cases h1 : n < d * d
    · rw [if_pos h1]
      constructor
      · intro g
        refine ⟨?_, fun e he h2 => ?_⟩
        · apply Classical.byContradiction
          intro z
          exact g (if_pos (by omega))
        · have := pl_mono he
          omega
      · rintro ⟨g, -⟩
        rw [if_neg (by omega)]
        omega
    · rw [if_neg h1]
      by_cases h2 : n % d = 0
      · rw [if_pos h2]
        constructor
        · intro g
          exact absurd rfl g
        · rintro ⟨-, g⟩
          exact absurd h2 (g d (Nat.le_refl d) (by omega))
      · rw [if_neg h2, prF_iff n f (d + 1) (by rw [show d + 1 + f = d + (f + 1) by omega]; exact h)]
        constructor
        · rintro ⟨g1, g2⟩
          refine ⟨g1, fun e he h3 => ?_⟩
          rcases Nat.eq_or_lt_of_le he with rfl | h4
          · exact h2
          · exact g2 e h4 h3
        · rintro ⟨g1, g2⟩
          exact ⟨g1, fun e he h3 => g2 e (by omega) h3⟩
theorem prF_pr {n : Nat} (h : n ≤ 1100000) : prF n 1100 2 ≠ 0 ↔ pr n := prF_iff n 1099 2 (Nat.lt_of_le_of_lt h (show (1100000 : Nat) < 1101 * 1101 from Nat.le_of_ble_eq_true rfl))
theorem pmF_0 (n d : Nat) : ∀ f, pmF n f d 0 = 0
  | 0 => rfl
  | f + 1 => by
    rw [pmF_s]
    split
    · rfl
    · rfl
theorem pmF_iff (n : Nat) : ∀ (f d : Nat), n < (d + f) * (d + f) → (pmF n (f + 1) d 1 ≠ 0 ↔ ∀ e, d ≤ e → e * e ≤ n → n % e ≠ 0)
  | 0, d, h => by
    rw [Nat.add_zero] at h
    rw [pmF_s, if_pos h]
    constructor
    · intro _ e he h2
      have := pl_mono he
      omega
    · intro _ z
      cases z
  | f + 1, d, h => by
    rw [pmF_s]
    by_cases h1 : n < d * d
    · rw [if_pos h1]
      constructor
      · intro _ e he h2
        have := pl_mono he
        omega
      · intro _ z
        cases z
    · rw [if_neg h1, if_neg (by decide)]
      by_cases h2 : n % d = 0
      · rw [if_pos h2, pmF_0]
        constructor
        · intro g
          exact absurd rfl g
        · intro g
          exact absurd h2 (g d (Nat.le_refl d) (by omega))
      · rw [if_neg h2, pmF_iff n f (d + 1) (by rw [show d + 1 + f = d + (f + 1) by omega]; exact h)]
        constructor
        · intro g2 e he h3
          rcases Nat.eq_or_lt_of_le he with rfl | h4
          · exact h2
          · exact g2 e h4 h3
        · intro g2 e he h3
          exact g2 e (by omega) h3
theorem pmF_pr {n : Nat} (h : n ≤ 1100000) : pmF n 1100 2 (if n < 2 then 0 else 1) ≠ 0 ↔ pr n := by
  by_cases h2 : n < 2
  · rw [if_pos h2, pmF_0]
    constructor
    · intro g
      exact absurd rfl g
    · intro g
      have := g.1
      omega
  · rw [if_neg h2, pmF_iff n 1099 2 (Nat.lt_of_le_of_lt h (show (1100000 : Nat) < 1101 * 1101 from Nat.le_of_ble_eq_true rfl))]
    constructor
    · intro g
      exact ⟨by omega, g⟩
    · intro g
      exact g.2
/-- the power by squares -/
theorem pwF_ss (q f r s e : Nat) : pwF q (f + 1) r s e = if e = 0 then r else pwF q f (if e % 2 = 1 then r * s % q else r) (s * s % q) (e / 2) := rfl
theorem pw_sq (s e : Nat) : (s * s) ^ e = s ^ (2 * e) := by
  rw [Nat.pow_mul, Nat.pow_two]
theorem pwF_ltq {q : Nat} (hq : 0 < q) : ∀ (f r s e : Nat), r < q → pwF q f r s e < q
  | 0, _, _, _, h => h
  | f + 1, r, s, e, h => by
    rw [pwF_ss]
    split
    · exact h
    · refine pwF_ltq hq f _ _ _ ?_
      split
      · exact Nat.mod_lt _ hq
      · exact h
theorem pwF_eq (q : Nat) : ∀ (f r s e : Nat), e < 2 ^ f → pwF q f r s e % q = r * s ^ e % q
  | 0, r, s, e, h => by
    have : e = 0 := by
      rw [Nat.pow_zero] at h
      omega
    subst this
    rw [Nat.pow_zero, Nat.mul_one]
    rfl
  | f + 1, r, s, e, h => by
    rw [pwF_ss]
    by_cases h0 : e = 0
    · rw [if_pos h0, h0, Nat.pow_zero, Nat.mul_one]
    · rw [if_neg h0, pwF_eq q f _ _ _ (by rw [Nat.pow_succ] at h; omega)]
      have e1 : (s * s % q) ^ (e / 2) % q = (s * s) ^ (e / 2) % q := (Nat.pow_mod (s * s) (e / 2) q).symm
      by_cases h1 : e % 2 = 1
      · rw [if_pos h1, Nat.mul_mod, e1, ← Nat.mul_mod, Nat.mod_mul_mod, pw_sq, Nat.mul_assoc, ← Nat.pow_succ']
        congr 3
        omega
      · rw [if_neg h1, Nat.mul_mod, e1, ← Nat.mul_mod, pw_sq]
        congr 3
        omega
theorem pwF_inv {q v : Nat} (hq : 2 ≤ q) (h1 : q ≤ 2049) : pwF q 11 1 v (q - 2) = v ^ (q - 2) % q := by
  have h := pwF_eq q 11 1 v (q - 2) (by have : (2 : Nat) ^ 11 = 2048 := rfl; omega)
  have l := pwF_ltq (show 0 < q by omega) 11 1 v (q - 2) (by omega)
  rw [Nat.mod_eq_of_lt l, Nat.one_mul] at h
  exact h
theorem pwF_one {q v : Nat} (h : pr q) (hq : q ≤ 2049) (h0 : 1 ≤ v) (h1 : v < q) : v * pwF q 11 1 v (q - 2) % q = 1 := by
  rw [pwF_inv h.1 hq, Nat.mul_comm]
  exact pr_inv h h0 h1
theorem ivF_spec (v m : Nat) : ∀ (f t s : Nat), t ≤ s → s < m → s < t + f → v * s % m = 1 → v * ivF v m f t % m = 1 ∧ ivF v m f t < m
  | 0, t, s, h1, h2, h3, h4 => by omega
  | f + 1, t, s, h1, h2, h3, h4 => by
    rw [ivF_s, if_neg (by omega)]
    by_cases h5 : v * t % m = 1
    · rw [if_pos h5]
      exact ⟨h5, by omega⟩
    · rw [if_neg h5]
      have : t ≠ s := fun z => h5 (by rw [z]; exact h4)
      exact ivF_spec v m f (t + 1) s (by omega) h2 (by omega) h4
theorem ivF_zero (m : Nat) : ∀ (f t : Nat), ivF 0 m f t = 0
  | 0, _ => rfl
  | f + 1, t => by
    rw [ivF_s]
    split
    · rfl
    · rw [if_neg (by rw [Nat.zero_mul, Nat.zero_mod]; decide)]
      exact ivF_zero m f (t + 1)
theorem inv_same {q v : Nat} (h : pr q) (h3 : 3 ≤ q) (hq : q ≤ 1100) (hv : v < q) : pwF q 11 1 v (q - 2) = ivF v q 1100 1 := by
  rcases Nat.eq_zero_or_pos v with rfl | h0
  · rw [ivF_zero, pwF_inv h.1 (by omega), Nat.zero_pow (by omega), Nat.zero_mod]
  · have o := pwF_one h (by omega) h0 hv
    have l := pwF_ltq (show 0 < q by omega) 11 1 v (q - 2) (by omega)
    have l1 : 1 ≤ pwF q 11 1 v (q - 2) := by
      apply Classical.byContradiction
      intro z
      rw [show pwF q 11 1 v (q - 2) = 0 by omega, Nat.mul_zero, Nat.zero_mod] at o
      omega
    have s := ivF_spec v q 1100 1 _ l1 l (by omega) o
    exact pr_inv_one h h0 hv l s.2 o s.1
/-- a slope made with an inverse -/
theorem sl_ok {p : Nat} (hp : 1 < p) {up c : Int} {iv : Nat} (hiv : (c % (p : Int)).toNat * iv % p = 1) : up % (p : Int) * (iv : Int) % (p : Int) * c % (p : Int) = up % (p : Int) := by
  have hc := Int.emod_nonneg c (show (p : Int) ≠ 0 by omega)
  have e1 : c % (p : Int) * (iv : Int) % (p : Int) = 1 := by
    have : (((c % (p : Int)).toNat * iv % p : Nat) : Int) = 1 := by rw [hiv]; rfl
    rw [Int.natCast_emod, Int.natCast_mul, Int.toNat_of_nonneg hc] at this
    exact this
  have e2 : (iv : Int) * c % (p : Int) = 1 := by
    rw [← e1, Int.mul_comm (c % (p : Int)), Int.mul_emod (iv : Int) c, Int.mul_emod (iv : Int) (c % (p : Int)), Int.emod_emod_of_dvd _ (Int.dvd_refl _)]
  rw [Int.mul_emod, Int.emod_emod_of_dvd _ (Int.dvd_refl _), ← Int.mul_emod, Int.mul_assoc, Int.mul_emod, e2, Int.emod_emod_of_dvd _ (Int.dvd_refl _), Int.mul_one, Int.emod_emod_of_dvd _ (Int.dvd_refl _)]
/-- the discriminant, in three forms -/
theorem dc_1 (p a b : Int) : (4 * (a * a % p * a % p) + 27 * (b * b % p)) % p = (4 * a * a * a + 27 * b * b) % p := by
  have e1 : 4 * (a * a % p * a % p) % p = 4 * a * a * a % p := by
    rw [Int.mul_emod, Int.emod_emod_of_dvd _ (Int.dvd_refl _), Int.mul_emod (a * a % p), Int.emod_emod_of_dvd _ (Int.dvd_refl _), ← Int.mul_emod (a * a), ← Int.mul_emod 4]
    congr 1
    rw [Int.mul_assoc 4 a a, Int.mul_assoc 4 (a * a) a]
  have e2 : 27 * (b * b % p) % p = 27 * b * b % p := by
    rw [Int.mul_emod, Int.emod_emod_of_dvd _ (Int.dvd_refl _), ← Int.mul_emod 27, Int.mul_assoc 27 b b]
  rw [Int.add_emod, e1, e2, ← Int.add_emod]
theorem dc_2 (p a b : Nat) : (4 * (a : Int) * a * a + 27 * (b : Int) * b) % (p : Int) = (((4 * (a * a * a) + 27 * (b * b)) % p : Nat) : Int) := by
  rw [Int.natCast_emod]
  congr 1
  rw [Int.natCast_add, Int.natCast_mul, Int.natCast_mul, Int.natCast_mul, Int.natCast_mul, Int.natCast_mul]
  rw [Int.mul_assoc 4 (a : Int) a, Int.mul_assoc 4 ((a : Int) * a) a, Int.mul_assoc 27 (b : Int) b]
  rfl
theorem ic_cr (p a b : Int) : icF p a b ≠ 0 ↔ crF p a b ≠ 0 := by
  unfold icF crF
  by_cases h1 : p < 5
  · rw [if_pos h1, if_pos h1]
  · rw [if_neg h1, if_neg h1]
    by_cases h2 : 1021 < p
    · rw [if_pos h2, if_pos h2]
    · rw [if_neg h2, if_neg h2, dc_1]
      by_cases h3 : pr p.toNat
      · rw [if_neg ((prF_pr (by omega)).mpr h3), if_neg ((pmF_pr (by omega)).mpr h3)]
      · rw [if_pos (Classical.not_not.mp fun z => h3 ((prF_pr (by omega)).mp z)), if_pos (Classical.not_not.mp fun z => h3 ((pmF_pr (by omega)).mp z))]
theorem tk_cv (p a b : Int) : tkF p a b ↔ cvF p a b = 0 := by
  have hle := coF_le p a b
  unfold tkF cvF
  rw [ic_cr]
  by_cases h1 : crF p a b = 0
  · have e : coF p a b = 0 := if_pos h1
    rw [e]
    constructor
    · rintro ⟨z, -⟩
      exact absurd h1 z
    · intro z
      rw [if_pos (by decide)] at z
      cases z
  · have e : coF p a b = cnt p.toNat a.toNat b.toNat := if_neg h1
    rw [← e]
    by_cases h2 : coF p a b < 3
    · rw [if_pos h2]
      constructor
      · rintro ⟨-, z, -⟩
        omega
      · intro z
        cases z
    · rw [if_neg h2]
      by_cases h3 : pr (coF p a b)
      · rw [if_neg ((pmF_pr (by omega)).mpr h3)]
        exact ⟨fun _ => rfl, fun _ => ⟨h1, by omega, (prF_pr (by omega)).mpr h3⟩⟩
      · rw [if_pos (Classical.not_not.mp fun z => h3 ((pmF_pr (by omega)).mp z))]
        constructor
        · rintro ⟨-, -, z⟩
          exact absurd ((prF_pr (by omega)).mp z) h3
        · intro z
          cases z
