/-! No curve over a prime up to 1021 has more than 1100 points: counted for one curve of each kind, in digits of large numbers. -/
noncomputable def sm (f : Nat → Nat) (n : Nat) : Nat := Nat.rec (motive := fun _ => Nat) 0 (fun k ih => Nat.add ih (f k)) n
theorem sm_0 (f : Nat → Nat) : sm f 0 = 0 := rfl
theorem sm_s (f : Nat → Nat) (k : Nat) : sm f (k + 1) = sm f k + f k := rfl
theorem sm_add (f : Nat → Nat) (a : Nat) : ∀ b, sm f (a + b) = sm f a + sm (fun j => f (a + j)) b
  | 0 => rfl
  | b + 1 => by
    rw [← Nat.add_assoc, sm_s, sm_s, sm_add f a b, Nat.add_assoc]
theorem sm_mul (f : Nat → Nat) (c : Nat) : ∀ m, sm (fun i => sm (fun j => f (c * i + j)) c) m = sm f (c * m)
  | 0 => rfl
  | m + 1 => by
    rw [sm_s, sm_mul f c m, Nat.mul_succ, sm_add]
theorem sm_congr {f g : Nat → Nat} : ∀ {n : Nat}, (∀ k, k < n → f k = g k) → sm f n = sm g n
  | 0, _ => rfl
  | n + 1, h => by
    rw [sm_s, sm_s, sm_congr (fun k hk => h k (by omega)), h n (by omega)]
theorem sm_le {f : Nat → Nat} {c : Nat} : ∀ {n : Nat}, (∀ k, k < n → f k ≤ c) → sm f n ≤ n * c
  | 0, _ => by simp [sm_0]
  | n + 1, h => by
    have h1 := sm_le (fun k hk => h k (show k < n + 1 by omega)) (n := n)
    have h2 := h n (by omega)
    rw [sm_s, Nat.succ_mul]
    omega
theorem sm_pos {f : Nat → Nat} : ∀ {n : Nat}, sm f n ≠ 0 → ∃ k, k < n ∧ f k ≠ 0
  | 0, h => absurd (sm_0 f) h
  | n + 1, h => by
    rw [sm_s] at h
    by_cases z : f n = 0
    · obtain ⟨k, hk, e⟩ := sm_pos (f := f) (n := n) (by omega)
      exact ⟨k, by omega, e⟩
    · exact ⟨n, by omega, z⟩
theorem sm_none {f : Nat → Nat} : ∀ {n : Nat}, sm f n = 0 → ∀ k, k < n → f k = 0
  | 0, _, k, hk => by omega
  | n + 1, h, k, hk => by
    rw [sm_s] at h
    rcases (show k < n ∨ k = n by omega) with g | rfl
    · exact sm_none (by omega) k g
    · omega
/-- the same sum, in pieces of 32, which the kernel sums without depth -/
noncomputable def sk (f : Nat → Nat) (n : Nat) : Nat := Nat.add (sm (fun i => sm (fun j => f (Nat.add (Nat.mul 32 i) j)) 32) (Nat.div n 32)) (sm (fun j => f (Nat.add (Nat.mul 32 (Nat.div n 32)) j)) (Nat.mod n 32))
theorem sk_eq (f : Nat → Nat) (n : Nat) : sk f n = sm f n := by
  show sm (fun i => sm (fun j => f (32 * i + j)) 32) (n / 32) + sm (fun j => f (32 * (n / 32) + j)) (n % 32) = sm f n
  rw [sm_mul, ← sm_add, Nat.div_add_mod]
theorem sm_range (f : Nat → Nat) : ∀ n, ((List.range n).map f).sum = sm f n
  | 0 => rfl
  | n + 1 => by
    rw [List.range_succ, List.map_append, List.sum_append, sm_range f n, sm_s]
    simp
theorem sm_filter (q : Nat → Bool) : ∀ n, ((List.range n).filter q).length = sm (fun y => if q y = true then 1 else 0) n
  | 0 => rfl
  | n + 1 => by
    rw [List.range_succ, List.filter_append, List.length_append, sm_filter q n, sm_s]
    by_cases h : q n = true
    · simp [h]
    · simp [h]
/-- the digit at place b, base 2 ^ 20 -/
def dg (n b : Nat) : Nat := n / 2 ^ (20 * b) % 2 ^ 20
theorem dg_s (n b : Nat) : dg n (b + 1) = dg (n / 2 ^ 20) b := by
  unfold dg
  rw [Nat.mul_succ, Nat.pow_add, Nat.mul_comm, Nat.div_div_eq_div_mul]
theorem dg_0 (n : Nat) : dg n 0 = n % 2 ^ 20 := by
  unfold dg
  simp
theorem dg_add : ∀ (b m n : Nat), (∀ v, dg m v + dg n v < 2 ^ 20) → dg (m + n) b = dg m b + dg n b
  | 0, m, n, h => by
    have := h 0
    rw [dg_0, dg_0] at this
    rw [dg_0, dg_0, dg_0]
    omega
  | b + 1, m, n, h => by
    have h0 := h 0
    rw [dg_0, dg_0] at h0
    have e : (m + n) / 2 ^ 20 = m / 2 ^ 20 + n / 2 ^ 20 := by omega
    rw [dg_s, dg_s, dg_s, e]
    refine dg_add b _ _ ?_
    intro v
    have := h (v + 1)
    rwa [dg_s, dg_s] at this
theorem dg_div (n g b : Nat) : dg (n / 2 ^ (20 * g)) b = dg n (g + b) := by
  unfold dg
  rw [Nat.div_div_eq_div_mul, ← Nat.pow_add, ← Nat.mul_add]
theorem dg_pow : ∀ (k v : Nat), dg (2 ^ (20 * k)) v = if v = k then 1 else 0
  | 0, 0 => by simp [dg_0]
  | 0, v + 1 => by
    rw [dg_s]
    have : 2 ^ (20 * 0) / 2 ^ 20 = 0 := by simp
    rw [this]
    unfold dg
    simp
  | k + 1, 0 => by
    rw [dg_0, Nat.mul_succ, Nat.pow_add, Nat.mul_mod_left]
    simp
  | k + 1, v + 1 => by
    rw [dg_s, Nat.mul_succ, Nat.pow_add, Nat.mul_div_cancel _ (by decide), dg_pow k v]
    simp
theorem dg_sm {f : Nat → Nat} : ∀ {n : Nat}, (∀ v, sm (fun y => dg (f y) v) n < 2 ^ 20) → ∀ v, dg (sm f n) v = sm (fun y => dg (f y) v) n
  | 0, _, v => by
    show dg 0 v = 0
    unfold dg
    simp
  | n + 1, h, v => by
    have ih := dg_sm (f := f) (n := n) (fun v => by
      have := h v
      rw [sm_s] at this
      omega)
    rw [sm_s, sm_s, dg_add, ih v]
    intro w
    have := h w
    rw [sm_s] at this
    rw [ih w]
    exact this
/-- the squares, laid twice -/
noncomputable def hsR (p : Nat) : Nat := sk (fun y => Nat.add (Nat.pow 2 (Nat.mul 20 (Nat.mod (Nat.mul y y) p))) (Nat.pow 2 (Nat.mul 20 (Nat.add (Nat.mod (Nat.mul y y) p) p)))) p
noncomputable def hsT (p a R : Nat) : Nat := sk (fun x => Nat.shiftRight R (Nat.mul 20 (Nat.mod (Nat.mul (Nat.mod (Nat.add (Nat.mul x x) a) p) x) p))) p
noncomputable def hsD (p T : Nat) : Nat := sk (fun b => cond (Nat.ble (Nat.mod (Nat.shiftRight T (Nat.mul 20 b)) 1048576) 1099) 0 1) p
/-- n is reckoned first -/
noncomputable def hsF (n : Nat) (f : Nat → Nat) : Nat := Nat.rec (motive := fun _ => Nat) (f 0) (fun k _ => f (Nat.succ k)) n
theorem hsF_eq (n : Nat) (f : Nat → Nat) : hsF n f = f n := by cases n <;> rfl
/-- fourth powers times g ^ 0 .. g ^ 3: which numbers they reach -/
noncomputable def hsC (p g : Nat) : Nat := sk (fun w => hsF (Nat.mod (Nat.mul (Nat.mul w w) (Nat.mul w w)) p) (fun q => Nat.add (Nat.add (Nat.pow 2 (Nat.mul 20 q)) (Nat.pow 2 (Nat.mul 20 (Nat.mod (Nat.mul q g) p)))) (Nat.add (Nat.pow 2 (Nat.mul 20 (Nat.mod (Nat.mul q (Nat.mul g g)) p))) (Nat.pow 2 (Nat.mul 20 (Nat.mod (Nat.mul q (Nat.mul (Nat.mul g g) g)) p)))))) p
noncomputable def hsE (p C : Nat) : Nat := sk (fun a => cond (Nat.ble 1 (Nat.mod (Nat.shiftRight C (Nat.mul 20 a)) 1048576)) 0 1) p
noncomputable def hsX (p a : Nat) : Nat := hsF (hsR p) fun R => hsF (hsT p a R) fun T => hsD p T
noncomputable def hsY (p g : Nat) : Nat := hsF (hsC p g) fun C => hsE p C
