/-! Links: the base point of the two sides, and the table. -/
theorem sq_neg {p t : Nat} (h1 : t < p) : (p - t) * (p - t) % p = t * t % p := by
  have e : ((((p - t) * (p - t) % p : Nat)) : Int) = ((t * t % p : Nat) : Int) := by
    rw [Int.natCast_emod, Int.natCast_emod, Int.natCast_mul, Int.natCast_mul, Int.natCast_sub (by omega)]
    have : ((p : Int) - t) * (p - t) = (t : Int) * t + p * (p - 2 * t) := by grind
    rw [this, Int.add_mul_emod_self_left]
  exact Int.ofNat.inj e
theorem lrF_at (p v : Nat) : ∀ (f y t : Nat), y ≤ t → t ≤ p / 2 → t < y + f → t * t % p = v → ∃ s : Nat, lrF p v f y = (s : Int) ∧ s ≤ p / 2 ∧ s * s % p = v ∧ y ≤ s ∧ ∀ r, y ≤ r → r < s → r * r % p ≠ v
  | 0, y, t, h1, h2, h3, h4 => by omega
  | f + 1, y, t, h1, h2, h3, h4 => by
    rw [lrF_s, if_neg (by omega)]
    by_cases h : y * y % p = v
    · rw [if_pos h]
      exact ⟨y, rfl, by omega, h, Nat.le_refl y, fun r g1 g2 => by omega⟩
    · rw [if_neg h]
      have n : y ≠ t := fun z => h (by rw [z]; exact h4)
      obtain ⟨s, e1, e2, e3, e4, e5⟩ := lrF_at p v f (y + 1) t (by omega) h2 (by omega) h4
      refine ⟨s, e1, e2, e3, by omega, fun r g1 g2 => ?_⟩
      by_cases g : r = y
      · rw [g]
        exact h
      · exact e5 r (by omega) g2
theorem lrF_no (p v : Nat) : ∀ (f y : Nat), (∀ t, y ≤ t → t ≤ p / 2 → t * t % p ≠ v) → lrF p v f y = -1
  | 0, y, _ => rfl
  | f + 1, y, h => by
    rw [lrF_s]
    by_cases h1 : p / 2 < y
    · rw [if_pos h1]
    · rw [if_neg h1, if_neg (h y (Nat.le_refl y) (by omega))]
      exact lrF_no p v f (y + 1) fun t g1 g2 => h t (by omega) g2
/-- v is a square -/
def qr (p v : Nat) : Prop := ∃ t, t < p ∧ t * t % p = v
theorem qr_half {p v : Nat} (h : qr p v) : ∃ t, t ≤ p / 2 ∧ t * t % p = v := by
  obtain ⟨t, h1, h2⟩ := h
  by_cases h3 : t ≤ p / 2
  · exact ⟨t, h3, h2⟩
  · exact ⟨p - t, by omega, by rw [sq_neg h1]; exact h2⟩
theorem lr_yes {p v : Nat} (hp : p ≤ 1100) (h : qr p v) : ∃ s : Nat, lrF p v 1100 0 = (s : Int) ∧ s ≤ p / 2 ∧ s * s % p = v ∧ ∀ r, r < s → r * r % p ≠ v := by
  obtain ⟨t, h1, h2⟩ := qr_half h
  obtain ⟨s, e1, e2, e3, e4, e5⟩ := lrF_at p v 1100 0 t (by omega) h1 (by omega) h2
  exact ⟨s, e1, e2, e3, fun r g => e5 r (by omega) g⟩
theorem lr_no {p v : Nat} (hp : 2 ≤ p) (h : ¬ qr p v) : lrF p v 1100 0 = -1 := lrF_no p v 1100 0 fun t _ h2 h3 => h ⟨t, by omega, h3⟩
theorem lr_qr {p v : Nat} (h2 : 2 ≤ p) (hp : p ≤ 1100) : lrF p v 1100 0 = -1 ↔ ¬ qr p v := by
  constructor
  · intro h z
    obtain ⟨s, e, -⟩ := lr_yes hp z
    omega
  · exact lr_no h2
theorem rc_qr (p v : Nat) : rc p p v ≠ 0 ↔ qr p v := by
  constructor
  · intro h
    obtain ⟨k, h1, h2⟩ := sm_pos h
    refine ⟨k, h1, ?_⟩
    apply Classical.byContradiction
    intro z
    refine h2 (if_neg ?_)
    intro g
    exact z (eq_of_beq g)
  · rintro ⟨t, h1, h2⟩ h
    have := sm_none h t h1
    rw [if_pos (by rw [h2]; exact beq_self_eq_true v)] at this
    cases this
theorem fyF_at (p c : Nat) : ∀ (f y t : Nat), y ≤ t → t < p → t ≤ y + f → t * t % p = c → fyF p c f y * fyF p c f y % p = c ∧ y ≤ fyF p c f y ∧ ∀ r, y ≤ r → r < fyF p c f y → r * r % p ≠ c
  | 0, y, t, h1, h2, h3, h4 => by
    have : t = y := by omega
    subst this
    exact ⟨h4, Nat.le_refl t, fun r g1 g2 => absurd g2 (by rw [fyF_0]; omega)⟩
  | f + 1, y, t, h1, h2, h3, h4 => by
    rw [fyF_s]
    by_cases g1 : p - 1 ≤ y
    · rw [if_pos g1]
      have : t = y := by omega
      subst this
      exact ⟨h4, Nat.le_refl t, fun r _ _ => by omega⟩
    · rw [if_neg g1]
      by_cases h : y * y % p = c
      · rw [if_pos h]
        exact ⟨h, Nat.le_refl y, fun r _ _ => by omega⟩
      · rw [if_neg h]
        have n : y ≠ t := fun z => h (by rw [z]; exact h4)
        obtain ⟨e1, e2, e3⟩ := fyF_at p c f (y + 1) t (by omega) h2 (by omega) h4
        refine ⟨e1, by omega, fun r k1 k2 => ?_⟩
        by_cases g : r = y
        · rw [g]
          exact h
        · exact e3 r (by omega) k2
theorem lr_fy {p c : Nat} (hp : p ≤ 1100) (h : qr p c) : lrF p c 1100 0 = ((fyF p c 1100 0 : Nat) : Int) ∧ fyF p c 1100 0 * fyF p c 1100 0 % p = c := by
  obtain ⟨s, e1, e2, e3, e4⟩ := lr_yes hp h
  obtain ⟨t, h1, h2⟩ := h
  obtain ⟨g1, g2, g3⟩ := fyF_at p c 1100 0 t (by omega) h1 (by omega) h2
  refine ⟨?_, g1⟩
  generalize fyF p c 1100 0 = y at g1 g2 g3
  rw [e1]
  have n1 : ¬ y < s := fun z => e4 y z g1
  have n2 : ¬ s < y := fun z => g3 s (by omega) z e3
  omega
theorem fxF_at (p a b : Nat) : ∀ (f x t : Nat), x ≤ t → t < p → t ≤ x + f → qr p (cub p a b t) → qr p (cub p a b (fxF p a b f x)) ∧ x ≤ fxF p a b f x ∧ fxF p a b f x ≤ t ∧ ∀ r, x ≤ r → r < fxF p a b f x → ¬ qr p (cub p a b r)
  | 0, x, t, h1, h2, h3, h4 => by
    have : t = x := by omega
    subst this
    exact ⟨h4, Nat.le_refl t, Nat.le_refl t, fun r g1 g2 => absurd g2 (by rw [fxF_0]; omega)⟩
  | f + 1, x, t, h1, h2, h3, h4 => by
    rw [fxF_s]
    by_cases g1 : p - 1 ≤ x
    · rw [if_pos g1]
      have : t = x := by omega
      subst this
      exact ⟨h4, Nat.le_refl t, Nat.le_refl t, fun r _ _ => by omega⟩
    · rw [if_neg g1]
      by_cases h : rc p p (cub p a b x) = 0
      · rw [if_pos h]
        have h' : ¬ qr p (cub p a b x) := fun z => (rc_qr p _).mpr z h
        have n : x ≠ t := fun z => h' (by rw [z]; exact h4)
        obtain ⟨e1, e2, e4, e3⟩ := fxF_at p a b f (x + 1) t (by omega) h2 (by omega) h4
        refine ⟨e1, by omega, e4, fun r k1 k2 => ?_⟩
        by_cases g : r = x
        · rw [g]
          exact h'
        · exact e3 r (by omega) k2
      · rw [if_neg h]
        exact ⟨(rc_qr p _).mp h, Nat.le_refl x, h1, fun r _ _ => by omega⟩
theorem lpF_at {p : Nat} (a b : Nat) (h2 : 2 ≤ p) (hp : p ≤ 1100) : ∀ (f x t : Nat), x ≤ t → t < p → t < x + f → qr p (cub p a b t) → (∀ r, x ≤ r → r < t → ¬ qr p (cub p a b r)) → lpF p a b f x = (t : Int) * 65536 + lrF p (cub p a b t) 1100 0
  | 0, x, t, k1, k2, k3, k4, k5 => by omega
  | f + 1, x, t, k1, k2, k3, k4, k5 => by
    rw [lpF_s, if_neg (by omega)]
    by_cases h : x = t
    · subst h
      rw [if_neg (fun z => (lr_qr h2 hp).mp z k4)]
    · rw [if_pos ((lr_qr h2 hp).mpr (k5 x (Nat.le_refl x) (by omega)))]
      exact lpF_at a b h2 hp f (x + 1) t (by omega) k2 (by omega) k4 fun r g1 g2 => k5 r (by omega) g2
theorem base_is {p a b : Nat} (h2 : 2 ≤ p) (hp : p ≤ 1100) (hc : 3 ≤ cnt p a b) : lpF p a b 1100 0 = ecd (some (bxF p a b, byF p a b)) ∧ byF p a b * byF p a b % p = cub p a b (bxF p a b) := by
  have hx : ∃ x, x < p ∧ qr p (cub p a b x) := by
    rw [← cs_cnt] at hc
    have : sm (fun x => rc p p (cub p a b x)) p ≠ 0 := by
      unfold cs at hc
      omega
    obtain ⟨x, h1, h2⟩ := sm_pos this
    exact ⟨x, h1, (rc_qr p _).mp h2⟩
  obtain ⟨x, h1, h3⟩ := hx
  obtain ⟨e1, e2, e3, e4⟩ := fxF_at p a b 1100 0 x (by omega) h1 (by omega) h3
  have f := lr_fy hp e1
  refine ⟨?_, f.2⟩
  rw [lpF_at a b h2 hp 1100 0 (fxF p a b 1100 0) e2 (by omega) (by omega) e1 e4, f.1]
  rfl
theorem base_cv {p a b : Nat} (hp : pr p) (h5 : 5 ≤ p) (h1 : p ≤ 1021) (ha : a < p) (hb : b < p) (hd : (4 * (a * a * a) + 27 * (b * b)) % p ≠ 0) (hc : 3 ≤ cnt p a b) (hn : pr (cnt p a b)) : Cv p a b (cnt p a b) (bxF p a b) (byF p a b) := ⟨hp, h5, ha, hb, hd, rfl, hc, hn, bxF_b (by omega), byF_b (by omega), (base_is (by omega) (by omega) hc).2⟩
