/-! The whole numbers modulo a prime p, as Fin p, and the way there from the integers. -/
def fz (p : Nat) [NeZero p] (k : Int) : Fin p := Fin.ofNat p (k % (p : Int)).toNat
theorem fz_p0 (p : Nat) [NeZero p] : 0 < p := Nat.pos_of_ne_zero (NeZero.ne p)
theorem fz_val (p : Nat) [NeZero p] (k : Int) : ((fz p k).val : Int) = k % (p : Int) := by
  have hp : (0 : Int) < (p : Int) := by have := fz_p0 p; omega
  have h0 := Int.emod_nonneg k (Int.ne_of_gt hp)
  have h1 := Int.emod_lt_of_pos k hp
  show (((k % (p : Int)).toNat % p : Nat) : Int) = k % (p : Int)
  rw [Nat.mod_eq_of_lt (by omega)]
  omega
theorem fz_ext {p : Nat} {u v : Fin p} (h : (u.val : Int) = (v.val : Int)) : u = v := Fin.ext (by omega)
theorem fz_eq {p : Nat} [NeZero p] {j k : Int} : fz p j = fz p k ↔ j % (p : Int) = k % (p : Int) := by
  constructor
  · intro h
    rw [← fz_val, ← fz_val, h]
  · intro h
    apply fz_ext
    rw [fz_val, fz_val, h]
theorem fz_add (p : Nat) [NeZero p] (j k : Int) : fz p (j + k) = fz p j + fz p k := by
  apply fz_ext
  rw [fz_val, Fin.val_add, Int.natCast_emod, Int.natCast_add, fz_val, fz_val, ← Int.add_emod]
theorem fz_mul (p : Nat) [NeZero p] (j k : Int) : fz p (j * k) = fz p j * fz p k := by
  apply fz_ext
  rw [fz_val, Fin.val_mul, Int.natCast_emod, Int.natCast_mul, fz_val, fz_val, ← Int.mul_emod]
theorem fz_zero (p : Nat) [NeZero p] : fz p 0 = 0 := by
  apply fz_ext
  rw [fz_val, Int.zero_emod]
  simp
theorem fz_sub (p : Nat) [NeZero p] (j k : Int) : fz p (j - k) = fz p j - fz p k := by
  have h := fz_add p (j - k) k
  rw [show j - k + k = j by omega] at h
  rw [h]
  generalize fz p (j - k) = u
  generalize fz p k = v
  grind
theorem fz_one (p : Nat) [NeZero p] : fz p 1 = 1 := by
  apply fz_ext
  rw [fz_val]
  rfl
theorem fz_nat (p : Nat) [NeZero p] (n : Nat) : (fz p (n : Int)).val = n % p := by
  have h := fz_val p (n : Int)
  rw [← Int.natCast_emod] at h
  omega
theorem fz_self {p : Nat} [NeZero p] (u : Fin p) : fz p (u.val : Int) = u := by
  apply Fin.ext
  rw [fz_nat, Nat.mod_eq_of_lt u.isLt]
theorem fz_0iff {p : Nat} [NeZero p] {k : Int} : fz p k = 0 ↔ k % (p : Int) = 0 := by
  rw [← fz_zero p, fz_eq, Int.zero_emod]
theorem fz_lt {p : Nat} [NeZero p] {n : Nat} (h : n < p) : (fz p (n : Int)).val = n := by
  rw [fz_nat, Nat.mod_eq_of_lt h]
theorem fz_inj {p : Nat} [NeZero p] {m n : Nat} (hm : m < p) (hn : n < p) (h : fz p (m : Int) = fz p (n : Int)) : m = n := by
  rw [← fz_lt hm, ← fz_lt hn, h]
/-- the inverse, by Fermat -/
def fi (p : Nat) [NeZero p] (u : Fin p) : Fin p := fz p ((u.val ^ (p - 2) : Nat) : Int)
theorem fi_mul {p : Nat} [NeZero p] (hp : pr p) {u : Fin p} (h : u ≠ 0) : u * fi p u = 1 := by
  have h0 : 1 ≤ u.val := by
    apply Nat.pos_of_ne_zero
    intro z
    exact h (Fin.ext (by rw [z]; simp))
  have f := pr_inv hp h0 u.isLt
  have h2 := hp.1
  apply Fin.ext
  show u.val * (fz p ((u.val ^ (p - 2) : Nat) : Int)).val % p = (1 : Fin p).val
  rw [fz_nat, Nat.mul_comm, f]
  have : (fz p 1).val = 1 % p := fz_nat p 1
  rw [fz_one] at this
  rw [this, Nat.mod_eq_of_lt (by omega)]
theorem fz_dom {p : Nat} [NeZero p] (hp : pr p) (u v : Fin p) (h : u * v = 0) : u = 0 ∨ v = 0 := by
  have e : u.val * v.val % p = 0 := by
    have := congrArg Fin.val h
    rw [Fin.val_mul] at this
    simpa using this
  have key : ∀ w : Fin p, p ∣ w.val → w = 0 := by
    intro w hw
    apply Fin.ext
    rcases Nat.eq_zero_or_pos w.val with z | z
    · rw [z]; simp
    · exact absurd hw (pr_small z w.isLt)
  rcases pr_euclid hp (Nat.dvd_of_mod_eq_zero e) with g | g
  · exact Or.inl (key u g)
  · exact Or.inr (key v g)
/-- a curve over it -/
theorem fz_F {p a b : Nat} [NeZero p] (hp : pr p) (h3 : 3 ≤ p) (hd : (4 * (a * a * a) + 27 * (b * b)) % p ≠ 0) : ec_F (fi p) (fz p (a : Int)) (fz p (b : Int)) := by
  refine ⟨fz_dom hp, fun u hu => fi_mul hp hu, ?_, ?_⟩
  · intro u hu
    have e : fz p 2 * u = 0 := by
      rw [show (2 : Int) = 1 + 1 by rfl, fz_add, fz_one]
      grind
    rcases fz_dom hp _ _ e with z | z
    · have := congrArg Fin.val z
      have h2 : (fz p 2).val = 2 := fz_lt (n := 2) (by omega)
      rw [h2] at this
      simp at this
    · exact z
  · intro x h1 h2
    have e := ec_sing h1 h2
    apply hd
    have k : fz p ((4 * (a * a * a) + 27 * (b * b) : Nat) : Int) = 0 := by
      have h4 : fz p ((4 : Nat) : Int) = 1 + 1 + 1 + 1 := by
        rw [show ((4 : Nat) : Int) = 1 + 1 + 1 + 1 by rfl]
        simp only [fz_add, fz_one]
      have h27 : fz p ((27 : Nat) : Int) = (1 + 1 + 1) * (1 + 1 + 1) * (1 + 1 + 1) := by
        rw [show ((27 : Nat) : Int) = (1 + 1 + 1) * (1 + 1 + 1) * (1 + 1 + 1) by rfl]
        simp only [fz_mul, fz_add, fz_one]
      simp only [Int.natCast_add, Int.natCast_mul, fz_add, fz_mul]
      rw [h4, h27]
      exact e
    have := congrArg Fin.val k
    rw [fz_nat] at this
    simpa using this
