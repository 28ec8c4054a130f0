/-! Finite abelian groups as lists; primes by trial division; Fermat. -/
def gp_pow {α : Type} (op : α → α → α) (e g : α) : Nat → α
  | 0 => e
  | k + 1 => op (gp_pow op e g k) g
def gp_ok {α : Type} (S : α → Prop) (op : α → α → α) (e : α) : Prop := S e ∧ (∀ x y, S x → S y → S (op x y)) ∧ (∀ x y, S x → S y → op x y = op y x) ∧ (∀ x y z, S x → S y → S z → op (op x y) z = op x (op y z)) ∧ (∀ x, S x → op e x = x) ∧ (∀ x y z, S x → S y → S z → op x y = op x z → y = z)
theorem gp_pow_S {α : Type} {S : α → Prop} {op : α → α → α} {e g : α} (h : gp_ok S op e) (hg : S g) : ∀ k, S (gp_pow op e g k)
  | 0 => h.1
  | k + 1 => h.2.1 _ _ (gp_pow_S h hg k) hg
theorem gp_add {α : Type} {S : α → Prop} {op : α → α → α} {e g : α} (h : gp_ok S op e) (hg : S g) (i : Nat) : ∀ j, op (gp_pow op e g i) (gp_pow op e g j) = gp_pow op e g (i + j)
  | 0 => by
    obtain ⟨he, hc, hm, ha, hi, hk⟩ := h
    show op (gp_pow op e g i) e = gp_pow op e g i
    rw [hm _ _ (gp_pow_S ⟨he, hc, hm, ha, hi, hk⟩ hg i) he, hi _ (gp_pow_S ⟨he, hc, hm, ha, hi, hk⟩ hg i)]
  | j + 1 => by
    have ih := gp_add h hg i j
    show op (gp_pow op e g i) (op (gp_pow op e g j) g) = op (gp_pow op e g (i + j)) g
    rw [← ih, h.2.2.2.1 _ _ _ (gp_pow_S h hg i) (gp_pow_S h hg j) hg]
theorem gp_mul {α : Type} {S : α → Prop} {op : α → α → α} {e g : α} (h : gp_ok S op e) (hg : S g) (i : Nat) : ∀ j, gp_pow op e (gp_pow op e g i) j = gp_pow op e g (i * j)
  | 0 => rfl
  | j + 1 => by
    show op (gp_pow op e (gp_pow op e g i) j) (gp_pow op e g i) = _
    rw [gp_mul h hg i j, gp_add h hg, Nat.mul_succ]
theorem gp_e {α : Type} {S : α → Prop} {op : α → α → α} {e : α} (h : gp_ok S op e) : ∀ j, gp_pow op e e j = e
  | 0 => rfl
  | j + 1 => by
    show op (gp_pow op e e j) e = e
    rw [gp_e h j, h.2.2.2.2.1 _ h.1]
/-- a list of different members of L that is as long as L holds all of L -/
theorem gp_full {α : Type} {l L : List α} (hn : l.Nodup) (hs : ∀ x, x ∈ l → x ∈ L) (hl : L.length ≤ l.length) {x : α} (hx : x ∈ L) : x ∈ l := by
  apply Classical.byContradiction
  intro z
  have h1 : (x :: l).Nodup := List.nodup_cons.mpr ⟨z, hn⟩
  have h2 : (x :: l) ⊆ L := by
    intro w hw
    rcases List.mem_cons.mp hw with rfl | hw
    · exact hx
    · exact hs w hw
  have h3 := h1.length_le_of_subset h2
  simp only [List.length_cons] at h3
  omega
theorem gp_map_nodup {α β : Type} {f : α → β} : ∀ {l : List α}, (∀ x, x ∈ l → ∀ y, y ∈ l → f x = f y → x = y) → l.Nodup → (l.map f).Nodup
  | [], _, _ => List.nodup_nil
  | a :: l, hi, hn => by
    rw [List.nodup_cons] at hn
    rw [List.map_cons, List.nodup_cons]
    refine ⟨?_, gp_map_nodup (fun x hx y hy => hi x (List.mem_cons_of_mem _ hx) y (List.mem_cons_of_mem _ hy)) hn.2⟩
    intro z
    obtain ⟨y, hy, e⟩ := List.mem_map.mp z
    have := hi y (List.mem_cons_of_mem _ hy) a List.mem_cons_self e
    exact hn.1 (this ▸ hy)
theorem gp_fold_S {α : Type} {S : α → Prop} {op : α → α → α} {e : α} (h : gp_ok S op e) : ∀ l : List α, (∀ x, x ∈ l → S x) → S (l.foldr op e)
  | [], _ => h.1
  | a :: l, hl => h.2.1 _ _ (hl a List.mem_cons_self) (gp_fold_S h l fun x hx => hl x (List.mem_cons_of_mem _ hx))
theorem gp_fold {α : Type} {S : α → Prop} {op : α → α → α} {e g : α} (h : gp_ok S op e) (hg : S g) : ∀ l : List α, (∀ x, x ∈ l → S x) → (l.map (op g)).foldr op e = op (gp_pow op e g l.length) (l.foldr op e)
  | [], _ => by
    show e = op e e
    rw [h.2.2.2.2.1 _ h.1]
  | a :: l, hl => by
    have ih := gp_fold h hg l fun x hx => hl x (List.mem_cons_of_mem _ hx)
    have sa := hl a List.mem_cons_self
    have sl := gp_fold_S h l fun x hx => hl x (List.mem_cons_of_mem _ hx)
    have sp := gp_pow_S h hg l.length
    obtain ⟨he, hc, hm, ha, hi, hk⟩ := h
    show op (op g a) ((l.map (op g)).foldr op e) = op (op (gp_pow op e g l.length) g) (op a (l.foldr op e))
    rw [ih]
    generalize gp_pow op e g l.length = P at sp ⊢
    generalize l.foldr op e = T at sl ⊢
    rw [ha g a _ hg sa (hc _ _ sp sl), ← ha a P T sa sp sl, hm a P sa sp, ha P a T sp sa sl, ← ha g P _ hg sp (hc _ _ sa sl), hm g P hg sp]
/-- every member's power by the number of members is e -/
theorem gp_order {α : Type} {S : α → Prop} {op : α → α → α} {e g : α} (h : gp_ok S op e) (hg : S g) (L : List α) (hn : L.Nodup) (hL : ∀ x, x ∈ L ↔ S x) : gp_pow op e g L.length = e := by
  have inj : ∀ x, x ∈ L → ∀ y, y ∈ L → op g x = op g y → x = y := fun x hx y hy z => h.2.2.2.2.2 _ _ _ hg ((hL x).mp hx) ((hL y).mp hy) z
  have hm := gp_map_nodup inj hn
  have sub : ∀ x, x ∈ L.map (op g) → x ∈ L := by
    intro x hx
    obtain ⟨y, hy, rfl⟩ := List.mem_map.mp hx
    exact (hL _).mpr (h.2.1 _ _ hg ((hL y).mp hy))
  have perm : (L.map (op g)).Perm L := by
    rw [List.perm_ext_iff_of_nodup hm hn]
    intro x
    exact ⟨sub x, fun hx => gp_full hm sub (by simp) hx⟩
  have hS : ∀ x, x ∈ L → S x := fun x hx => (hL x).mp hx
  have key : ∀ (l : List α), (∀ x, x ∈ l → S x) → ∀ l' : List α, l.Perm l' → l.foldr op e = l'.foldr op e := by
    intro l hl l' hp
    induction hp with
    | nil => rfl
    | cons x hp ih =>
      simp only [List.foldr_cons]
      rw [ih fun y hy => hl y (List.mem_cons_of_mem _ hy)]
    | swap x y l =>
      simp only [List.foldr_cons]
      have sx := hl x (List.mem_cons_of_mem _ List.mem_cons_self)
      have sy := hl y List.mem_cons_self
      have sl := gp_fold_S h l fun z hz => hl z (List.mem_cons_of_mem _ (List.mem_cons_of_mem _ hz))
      rw [← h.2.2.2.1 _ _ _ sy sx sl, h.2.2.1 _ _ sy sx, h.2.2.2.1 _ _ _ sx sy sl]
    | trans h1 h2 ih1 ih2 =>
      rw [ih1 hl, ih2 fun x hx => hl x (h1.mem_iff.mpr hx)]
  have e1 := gp_fold h hg L hS
  have e2 := key (L.map (op g)) (fun x hx => hS x (sub x hx)) L perm
  rw [e2] at e1
  have sT := gp_fold_S h L hS
  have sp := gp_pow_S h hg L.length
  obtain ⟨he, hc, hm', ha, hi, hk⟩ := h
  generalize L.foldr op e = T at e1 sT
  generalize gp_pow op e g L.length = P at e1 sp ⊢
  apply hk T P e sT sp he
  rw [hm' T P sT sp, ← e1, hm' T e sT he, hi T sT]
/-- prime, by trial division -/
def pr (m : Nat) : Prop := 2 ≤ m ∧ ∀ d, 2 ≤ d → d * d ≤ m → m % d ≠ 0
theorem pr_dvd {m d : Nat} (h : pr m) (hd : d ∣ m) : d = 1 ∨ d = m := by
  obtain ⟨k, rfl⟩ := hd
  obtain ⟨h1, h2⟩ := h
  rcases Nat.lt_or_ge d 2 with hd | hd
  · left
    rcases (show d = 0 ∨ d = 1 by omega) with rfl | rfl
    · simp at h1
    · rfl
  · rcases Nat.lt_or_ge k 2 with hk | hk
    · right
      rcases (show k = 0 ∨ k = 1 by omega) with rfl | rfl
      · simp at h1
      · simp
    · exfalso
      rcases Nat.le_total d k with g | g
      · exact h2 d hd (Nat.mul_le_mul_left d g) (Nat.mul_mod_right d k)
      · exact h2 k hk (Nat.mul_le_mul_right k g) (Nat.mul_mod_left d k)
theorem pr_cop {m a : Nat} (h : pr m) (ha : ¬ m ∣ a) : Nat.Coprime m a := by
  rcases pr_dvd h (Nat.gcd_dvd_left m a) with g | g
  · exact g
  · exact absurd (g ▸ Nat.gcd_dvd_right m a) ha
theorem pr_euclid {m a b : Nat} (h : pr m) (hd : m ∣ a * b) : m ∣ a ∨ m ∣ b := by
  by_cases ha : m ∣ a
  · exact Or.inl ha
  · exact Or.inr ((pr_cop h ha).dvd_of_dvd_mul_left hd)
theorem pr_small {m a : Nat} (h0 : 0 < a) (h1 : a < m) : ¬ m ∣ a := fun z => absurd (Nat.le_of_dvd h0 z) (by omega)
/-- the units modulo a prime -/
theorem pr_units {m : Nat} (h : pr m) : gp_ok (fun x => 1 ≤ x ∧ x < m) (fun x y => x * y % m) 1 := by
  have h2 := h.1
  refine ⟨⟨by omega, by omega⟩, ?_, ?_, ?_, ?_, ?_⟩
  · intro x y hx hy
    refine ⟨?_, Nat.mod_lt _ (by omega)⟩
    apply Nat.pos_of_ne_zero
    intro z
    rcases pr_euclid h (Nat.dvd_of_mod_eq_zero z) with g | g
    · exact pr_small (by omega) hx.2 g
    · exact pr_small (by omega) hy.2 g
  · intro x y _ _
    show x * y % m = y * x % m
    rw [Nat.mul_comm]
  · intro x y z _ _ _
    show x * y % m * z % m = x * (y * z % m) % m
    rw [Nat.mod_mul_mod, Nat.mul_mod_mod, Nat.mul_assoc]
  · intro x hx
    show 1 * x % m = x
    rw [Nat.one_mul, Nat.mod_eq_of_lt hx.2]
  · intro x y z hx hy hz e
    have e : x * y % m = x * z % m := e
    have key : ∀ y z : Nat, y < m → z < m → y ≤ z → x * y % m = x * z % m → y = z := by
      intro y z hy hz hyz e
      have d : m ∣ x * z - x * y := Nat.dvd_of_mod_eq_zero (Nat.sub_mod_eq_zero_of_mod_eq e.symm)
      rw [← Nat.mul_sub] at d
      rcases pr_euclid h d with g | g
      · exact absurd g (pr_small (by omega) hx.2)
      · rcases Nat.eq_zero_or_pos (z - y) with w | w
        · omega
        · exact absurd g (pr_small w (by omega))
    rcases Nat.le_total y z with g | g
    · exact key y z hy.2 hz.2 g e
    · exact (key z y hz.2 hy.2 g e.symm).symm
theorem pr_pow (m a : Nat) (h : 1 < m) : ∀ k, gp_pow (fun x y => x * y % m) 1 a k = a ^ k % m
  | 0 => by
    show 1 = 1 % m
    rw [Nat.mod_eq_of_lt h]
  | k + 1 => by
    show gp_pow (fun x y => x * y % m) 1 a k * a % m = a ^ (k + 1) % m
    rw [pr_pow m a h k, Nat.mod_mul_mod, Nat.pow_succ]
/-- Fermat -/
theorem pr_fermat {m a : Nat} (h : pr m) (h0 : 1 ≤ a) (h1 : a < m) : a ^ (m - 1) % m = 1 := by
  have h2 := h.1
  have f := gp_order (pr_units h) (g := a) ⟨h0, h1⟩ (List.range' 1 (m - 1)) (List.nodup_range' (s := 1) (n := m - 1)) (by
    intro x
    rw [List.mem_range'_1]
    omega)
  rw [List.length_range', pr_pow m a (by omega)] at f
  exact f
theorem pr_inv {m a : Nat} (h : pr m) (h0 : 1 ≤ a) (h1 : a < m) : a ^ (m - 2) % m * a % m = 1 := by
  have f := pr_fermat h h0 h1
  have h2 := h.1
  rw [Nat.mod_mul_mod, ← Nat.pow_succ, show (m - 2).succ = m - 1 by omega]
  exact f
/-- two inverses are one -/
theorem pr_inv_one {m a s t : Nat} (h : pr m) (h0 : 1 ≤ a) (h1 : a < m) (hs : s < m) (ht : t < m) (es : a * s % m = 1) (et : a * t % m = 1) : s = t := by
  have h2 := h.1
  have s0 : 1 ≤ s := by
    rcases Nat.eq_zero_or_pos s with rfl | z
    · simp at es
    · exact z
  have t0 : 1 ≤ t := by
    rcases Nat.eq_zero_or_pos t with rfl | z
    · simp at et
    · exact z
  exact (pr_units h).2.2.2.2.2 a s t ⟨h0, h1⟩ ⟨s0, hs⟩ ⟨t0, ht⟩ (es.trans et.symm)
