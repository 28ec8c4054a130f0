/-! The points as pairs of naturals, their number, and the multiples of a point. -/
def cub (p a b x : Nat) : Nat := ((x * x + a) % p * x + b) % p
theorem cub_eq (p a b x : Nat) : cub p a b x = (x * x * x + a * x + b) % p := by
  unfold cub
  rw [Nat.add_mod, Nat.mod_mul_mod, ← Nat.add_mod, Nat.add_mul]
/-- how many y below p have y * y = v modulo p -/
def rt (p v : Nat) : Nat := ((List.range p).filter fun y => y * y % p == v).length
def cnt (p a b : Nat) : Nat := 1 + ((List.range p).map fun x => rt p (cub p a b x)).sum
/-- all points, as pairs of naturals -/
def pts (p a b : Nat) : List (Option (Nat × Nat)) := none :: (List.range p).flatMap fun x => ((List.range p).filter fun y => y * y % p == cub p a b x).map fun y => some (x, y)
theorem pts_len (p a b : Nat) : (pts p a b).length = cnt p a b := by
  unfold pts cnt
  rw [List.length_cons, List.length_flatMap, Nat.add_comm]
  congr 3
  funext x
  rw [List.length_map]
  rfl
theorem pts_mem {p a b : Nat} {P : Option (Nat × Nat)} : P ∈ pts p a b ↔ (P = none ∨ ∃ x y, P = some (x, y) ∧ x < p ∧ y < p ∧ y * y % p = cub p a b x) := by
  unfold pts
  rw [List.mem_cons, List.mem_flatMap]
  constructor
  · rintro (h | ⟨x, hx, h⟩)
    · exact Or.inl h
    · obtain ⟨y, hy, rfl⟩ := List.mem_map.mp h
      rw [List.mem_filter] at hy
      exact Or.inr ⟨x, y, rfl, List.mem_range.mp hx, List.mem_range.mp hy.1, by simpa using hy.2⟩
  · rintro (h | ⟨x, y, rfl, hx, hy, e⟩)
    · exact Or.inl h
    · exact Or.inr ⟨x, List.mem_range.mpr hx, List.mem_map.mpr ⟨y, List.mem_filter.mpr ⟨List.mem_range.mpr hy, by simpa using e⟩, rfl⟩⟩
theorem pts_nodup (p a b : Nat) : (pts p a b).Nodup := by
  unfold pts
  rw [List.nodup_cons]
  refine ⟨?_, ?_⟩
  · intro h
    obtain ⟨x, _, h⟩ := List.mem_flatMap.mp h
    obtain ⟨y, _, h⟩ := List.mem_map.mp h
    cases h
  · unfold List.Nodup
    rw [List.pairwise_flatMap]
    refine ⟨?_, ?_⟩
    · intro x _
      exact gp_map_nodup (fun y _ z _ e => by cases e; rfl) (List.Pairwise.filter _ List.nodup_range)
    · refine List.Pairwise.imp ?_ (List.nodup_range (n := p))
      intro x x' hx P hP Q hQ e
      obtain ⟨y, _, rfl⟩ := List.mem_map.mp hP
      obtain ⟨y', _, rfl⟩ := List.mem_map.mp hQ
      cases e
      exact hx rfl
/-- a pair of naturals as a point over the field, and back -/
def pf (p : Nat) [NeZero p] (P : Option (Nat × Nat)) : Option (Fin p × Fin p) := P.map fun q => (fz p (q.1 : Int), fz p (q.2 : Int))
def pn {p : Nat} (P : Option (Fin p × Fin p)) : Option (Nat × Nat) := P.map fun q => (q.1.val, q.2.val)
theorem pf_pn {p : Nat} [NeZero p] (P : Option (Fin p × Fin p)) : pf p (pn P) = P := by
  cases P with
  | none => rfl
  | some q =>
    show some (fz p (q.1.val : Int), fz p (q.2.val : Int)) = some q
    rw [fz_self, fz_self]
theorem pn_inj {p : Nat} [NeZero p] {P Q : Option (Fin p × Fin p)} (h : pn P = pn Q) : P = Q := by
  rw [← pf_pn P, h, pf_pn]
theorem on_iff {p a b x y : Nat} [NeZero p] : ec_on (fz p (a : Int)) (fz p (b : Int)) (fz p (x : Int)) (fz p (y : Int)) ↔ y * y % p = cub p a b x := by
  have e1 : fz p (y : Int) * fz p (y : Int) = fz p ((y * y : Nat) : Int) := by
    simp only [Int.natCast_mul, fz_mul]
  have e2 : fz p (x : Int) * fz p (x : Int) * fz p (x : Int) + fz p (a : Int) * fz p (x : Int) + fz p (b : Int) = fz p ((x * x * x + a * x + b : Nat) : Int) := by
    simp only [Int.natCast_add, Int.natCast_mul, fz_add, fz_mul]
  unfold ec_on
  rw [e1, e2, cub_eq, fz_eq, ← Int.natCast_emod, ← Int.natCast_emod]
  exact Int.ofNat_inj
theorem pn_mem {p a b : Nat} [NeZero p] {P : Option (Fin p × Fin p)} : pn P ∈ pts p a b ↔ ec_P (fz p (a : Int)) (fz p (b : Int)) P := by
  rw [pts_mem]
  cases P with
  | none => exact ⟨fun _ => ec_P_none _ _, fun _ => Or.inl rfl⟩
  | some q =>
    obtain ⟨u, v⟩ := q
    constructor
    · rintro (h | ⟨x, y, e, hx, hy, h⟩)
      · cases h
      · have e1 : u.val = x := by
          have : some (u.val, v.val) = some (x, y) := e
          cases this; rfl
        have e2 : v.val = y := by
          have : some (u.val, v.val) = some (x, y) := e
          cases this; rfl
        refine ec_P_some (q := (u, v)) ?_
        show ec_on _ _ u v
        rw [← fz_self u, ← fz_self v, e1, e2]
        exact on_iff.mpr h
    · intro h
      have o := h (u, v) rfl
      refine Or.inr ⟨u.val, v.val, rfl, u.isLt, v.isLt, ?_⟩
      rw [← fz_self u, ← fz_self v] at o
      exact on_iff.mp o
/-- a curve that is taken, with its number of points and one of them -/
def Cv (p a b n gx gy : Nat) : Prop := pr p ∧ 5 ≤ p ∧ a < p ∧ b < p ∧ (4 * (a * a * a) + 27 * (b * b)) % p ≠ 0 ∧ n = cnt p a b ∧ 3 ≤ n ∧ pr n ∧ gx < p ∧ gy < p ∧ gy * gy % p = cub p a b gx
def tF (p a gx gy : Nat) [NeZero p] (i : Nat) : Option (Fin p × Fin p) := gp_pow (ec_add (fi p) (fz p (a : Int))) none (some (fz p (gx : Int), fz p (gy : Int))) i
def tb (p a gx gy : Nat) [NeZero p] (i : Nat) : Option (Nat × Nat) := pn (tF p a gx gy i)
theorem Cv.ne {p a b n gx gy : Nat} (h : Cv p a b n gx gy) : NeZero p := ⟨by have := h.2.1; omega⟩
theorem Cv.F {p a b n gx gy : Nat} [NeZero p] (h : Cv p a b n gx gy) : ec_F (fi p) (fz p (a : Int)) (fz p (b : Int)) := fz_F h.1 (by have := h.2.1; omega) h.2.2.2.2.1
theorem Cv.gp {p a b n gx gy : Nat} [NeZero p] (h : Cv p a b n gx gy) : gp_ok (ec_P (fz p (a : Int)) (fz p (b : Int))) (ec_add (fi p) (fz p (a : Int))) none := by
  have hF := h.F
  refine ⟨ec_P_none _ _, fun x y hx hy => ec_P_add hF hx hy, fun x y hx hy => ec_comm hF hx hy, fun x y z hx hy hz => ec_assoc hF hx hy hz, fun x _ => ec_add_none_l _ _ x, ?_⟩
  intro x y z hx hy hz e
  have h1 := ec_back hF hy hx
  have h2 := ec_back hF hz hx
  rw [← h1, ← h2, ec_comm hF hy hx, ec_comm hF hz hx, e]
theorem Cv.G {p a b n gx gy : Nat} [NeZero p] (h : Cv p a b n gx gy) : ec_P (fz p (a : Int)) (fz p (b : Int)) (some (fz p (gx : Int), fz p (gy : Int))) := ec_P_some (q := (fz p (gx : Int), fz p (gy : Int))) (on_iff.mpr h.2.2.2.2.2.2.2.2.2.2)
theorem Cv.tP {p a b n gx gy : Nat} [NeZero p] (h : Cv p a b n gx gy) (i : Nat) : ec_P (fz p (a : Int)) (fz p (b : Int)) (tF p a gx gy i) := gp_pow_S h.gp h.G i
/-- n times any point is none -/
theorem Cv.n0 {p a b n gx gy : Nat} [NeZero p] (h : Cv p a b n gx gy) {P : Option (Fin p × Fin p)} (hP : ec_P (fz p (a : Int)) (fz p (b : Int)) P) : gp_pow (ec_add (fi p) (fz p (a : Int))) none P n = none := by
  have hn : ((pts p a b).map (pf p)).Nodup := gp_map_nodup (by
    intro x hx y hy e
    rw [pts_mem] at hx hy
    rcases hx with rfl | ⟨x1, x2, rfl, hx1, hx2, _⟩
    · rcases hy with rfl | ⟨y1, y2, rfl, hy1, hy2, _⟩
      · rfl
      · cases e
    · rcases hy with rfl | ⟨y1, y2, rfl, hy1, hy2, _⟩
      · cases e
      · have e : some (fz p (x1 : Int), fz p (x2 : Int)) = some (fz p (y1 : Int), fz p (y2 : Int)) := e
        have e1 := congrArg Prod.fst (Option.some.inj e)
        have e2 := congrArg Prod.snd (Option.some.inj e)
        rw [fz_inj hx1 hy1 e1, fz_inj hx2 hy2 e2]) (pts_nodup p a b)
  have hl : ((pts p a b).map (pf p)).length = n := by
    rw [List.length_map, pts_len, h.2.2.2.2.2.1]
  rw [← hl]
  refine gp_order h.gp hP _ hn ?_
  intro Q
  rw [← pn_mem, List.mem_map]
  constructor
  · rintro ⟨R, hR, rfl⟩
    have : pn (pf p R) = R := by
      rw [pts_mem] at hR
      rcases hR with rfl | ⟨x, y, rfl, hx, hy, _⟩
      · rfl
      · show some ((fz p (x : Int)).val, (fz p (y : Int)).val) = some (x, y)
        rw [fz_lt hx, fz_lt hy]
    rw [this]
    exact hR
  · intro hQ
    exact ⟨pn Q, hQ, pf_pn Q⟩
theorem Cv.step {p a b n gx gy : Nat} [NeZero p] (h : Cv p a b n gx gy) (i j : Nat) : ec_add (fi p) (fz p (a : Int)) (tF p a gx gy i) (tF p a gx gy j) = tF p a gx gy (i + j) := gp_add h.gp h.G i j
theorem Cv.mod {p a b n gx gy : Nat} [NeZero p] (h : Cv p a b n gx gy) (i : Nat) : tF p a gx gy i = tF p a gx gy (i % n) := by
  have e : tF p a gx gy (n * (i / n)) = none := by
    unfold tF
    rw [← gp_mul h.gp h.G, h.n0 h.G, gp_e h.gp]
  have := h.step (n * (i / n)) (i % n)
  rw [e, ec_add_none_l, Nat.div_add_mod] at this
  exact this.symm
theorem Cv.zero {p a b n gx gy : Nat} [NeZero p] (h : Cv p a b n gx gy) {i : Nat} (hi : i < n) (e : tF p a gx gy i = none) : i = 0 := by
  apply Classical.byContradiction
  intro z
  have hpn := h.2.2.2.2.2.2.2.1
  have key := (pr_inv hpn (a := i) (by omega) hi)
  have e1 : tF p a gx gy (i * (i ^ (n - 2) % n)) = none := by
    unfold tF at e ⊢
    rw [← gp_mul h.gp h.G, e, gp_e h.gp]
  rw [h.mod, Nat.mul_comm, key] at e1
  have : tF p a gx gy 1 = some (fz p (gx : Int), fz p (gy : Int)) := ec_add_none_l (fi p) (fz p (a : Int)) _
  rw [this] at e1
  cases e1
theorem Cv.inj {p a b n gx gy : Nat} [NeZero p] (h : Cv p a b n gx gy) {i j : Nat} (hi : i < n) (hj : j < n) (e : tF p a gx gy i = tF p a gx gy j) : i = j := by
  have key : ∀ i j : Nat, i ≤ j → j < n → tF p a gx gy i = tF p a gx gy j → i = j := by
    intro i j hij hj e
    have s := h.step i (j - i)
    rw [show i + (j - i) = j by omega, ← e] at s
    have s0 : ec_add (fi p) (fz p (a : Int)) (tF p a gx gy i) none = tF p a gx gy i := ec_add_none_r _ _ _
    have c := h.gp.2.2.2.2.2 _ _ _ (h.tP i) (h.tP (j - i)) (ec_P_none _ _) (s.trans s0.symm)
    have := h.zero (by omega) c
    omega
  rcases Nat.le_total i j with g | g
  · exact key i j g hj e
  · exact (key j i g hi e.symm).symm
/-- every point is a multiple -/
theorem Cv.all {p a b n gx gy : Nat} [NeZero p] (h : Cv p a b n gx gy) {P : Option (Fin p × Fin p)} (hP : ec_P (fz p (a : Int)) (fz p (b : Int)) P) : ∃ i, i < n ∧ tF p a gx gy i = P := by
  have hn : ((List.range n).map fun i => pn (tF p a gx gy i)).Nodup := gp_map_nodup (fun i hi j hj e => h.inj (List.mem_range.mp hi) (List.mem_range.mp hj) (pn_inj e)) List.nodup_range
  have hs : ∀ x, x ∈ ((List.range n).map fun i => pn (tF p a gx gy i)) → x ∈ pts p a b := by
    intro x hx
    obtain ⟨i, _, rfl⟩ := List.mem_map.mp hx
    exact pn_mem.mpr (h.tP i)
  have hm := gp_full hn hs (by rw [pts_len, List.length_map, List.length_range, h.2.2.2.2.2.1]; exact Nat.le_refl _) (pn_mem.mpr hP)
  obtain ⟨i, hi, e⟩ := List.mem_map.mp hm
  exact ⟨i, List.mem_range.mp hi, pn_inj e⟩
