theorem hs_two (k j v : Nat) : dg (2 ^ (20 * k) + 2 ^ (20 * j)) v = (if v = k then 1 else 0) + (if v = j then 1 else 0) := by
  rw [dg_add, dg_pow, dg_pow]
  intro w
  rw [dg_pow, dg_pow]
  split <;> split <;> decide
theorem hsR_dg {p : Nat} (hp : p ≤ 1021) (v : Nat) : dg (hsR p) v = sm (fun y => (if v = y * y % p then 1 else 0) + (if v = y * y % p + p then 1 else 0)) p := by
  unfold hsR
  rw [sk_eq]
  show dg (sm (fun y => 2 ^ (20 * (y * y % p)) + 2 ^ (20 * (y * y % p + p))) p) v = _
  rw [dg_sm]
  · exact sm_congr fun y _ => hs_two _ _ v
  · intro w
    have e : sm (fun y => dg (2 ^ (20 * (y * y % p)) + 2 ^ (20 * (y * y % p + p))) w) p ≤ p * 2 := sm_le fun y _ => by
      show dg (2 ^ (20 * (y * y % p)) + 2 ^ (20 * (y * y % p + p))) w ≤ 2
      rw [hs_two]
      split <;> split <;> decide
    have : (2 : Nat) ^ 20 = 1048576 := by decide
    omega
theorem hsR_le {p : Nat} (h0 : 0 < p) (hp : p ≤ 1021) (v : Nat) : dg (hsR p) v ≤ p := by
  rw [hsR_dg hp]
  have e := sm_le (f := fun y => (if v = y * y % p then 1 else 0) + (if v = y * y % p + p then 1 else 0)) (c := 1) (n := p) (fun y _ => by
    show (if v = y * y % p then 1 else 0) + (if v = y * y % p + p then 1 else 0) ≤ 1
    split <;> split <;> omega)
  omega
theorem hsR_rt {p : Nat} (h0 : 0 < p) (hp : p ≤ 1021) {v : Nat} (hv : v < 2 * p) : dg (hsR p) v = rt p (v % p) := by
  rw [hsR_dg hp]
  unfold rt
  rw [sm_filter]
  refine sm_congr fun y _ => ?_
  have hk := Nat.mod_lt (y * y) h0
  generalize y * y % p = k at hk
  show (if v = k then 1 else 0) + (if v = k + p then 1 else 0) = if (k == v % p) = true then 1 else 0
  rcases Nat.lt_or_ge v p with g | g
  · rw [Nat.mod_eq_of_lt g, if_neg (show ¬ v = k + p by omega)]
    by_cases z : v = k
    · rw [if_pos z, if_pos (by simp [z])]
    · rw [if_neg z, if_neg (by simp; omega)]
  · rw [Nat.mod_eq_sub_mod g, Nat.mod_eq_of_lt (show v - p < p by omega), if_neg (show ¬ v = k by omega)]
    by_cases z : v = k + p
    · rw [if_pos z, if_pos (by simp; omega)]
    · rw [if_neg z, if_neg (by simp; omega)]
theorem hsT_dg {p a b : Nat} (h0 : 0 < p) (hp : p ≤ 1021) (hb : b < p) : dg (hsT p a (hsR p)) b + 1 = cnt p a b := by
  have sq : p * p ≤ 1021 * 1021 := Nat.mul_le_mul hp hp
  unfold hsT
  rw [sk_eq]
  have e1 : (fun x => Nat.shiftRight (hsR p) (Nat.mul 20 (Nat.mod (Nat.mul (Nat.mod (Nat.add (Nat.mul x x) a) p) x) p))) = fun x => hsR p / 2 ^ (20 * ((x * x + a) % p * x % p)) := by
    funext x
    exact Nat.shiftRight_eq_div_pow _ _
  rw [e1, dg_sm]
  · unfold cnt
    rw [sm_range, Nat.add_comm]
    congr 1
    refine sm_congr fun x _ => ?_
    show dg (hsR p / 2 ^ (20 * ((x * x + a) % p * x % p))) b = rt p (cub p a b x)
    have hg := Nat.mod_lt ((x * x + a) % p * x) h0
    rw [dg_div, hsR_rt h0 hp (by omega), Nat.mod_add_mod]
    rfl
  · intro w
    have e : sm (fun x => dg (hsR p / 2 ^ (20 * ((x * x + a) % p * x % p))) w) p ≤ p * p := sm_le fun x _ => by
      show dg (hsR p / 2 ^ (20 * ((x * x + a) % p * x % p))) w ≤ p
      rw [dg_div]
      exact hsR_le h0 hp _
    have : (2 : Nat) ^ 20 = 1048576 := by decide
    omega
theorem hsX_ok {p a b : Nat} (h0 : 0 < p) (hp : p ≤ 1021) (hb : b < p) (h : hsX p a = 0) : cnt p a b ≤ 1100 := by
  unfold hsX at h
  rw [hsF_eq, hsF_eq] at h
  unfold hsD at h
  rw [sk_eq] at h
  have e := sm_none h b hb
  have e : cond (Nat.ble (Nat.mod (Nat.shiftRight (hsT p a (hsR p)) (Nat.mul 20 b)) 1048576) 1099) 0 1 = 0 := e
  have e2 : Nat.mod (Nat.shiftRight (hsT p a (hsR p)) (Nat.mul 20 b)) 1048576 = dg (hsT p a (hsR p)) b := by
    unfold dg
    rw [← Nat.shiftRight_eq_div_pow]
    rfl
  rw [e2] at e
  have k := hsT_dg (a := a) h0 hp hb
  cases z : Nat.ble (dg (hsT p a (hsR p)) b) 1099 with
  | true =>
    have := Nat.le_of_ble_eq_true z
    omega
  | false =>
    rw [z] at e
    cases e
theorem hs_four (k1 k2 k3 k4 v : Nat) : dg ((2 ^ (20 * k1) + 2 ^ (20 * k2)) + (2 ^ (20 * k3) + 2 ^ (20 * k4))) v = ((if v = k1 then 1 else 0) + (if v = k2 then 1 else 0)) + ((if v = k3 then 1 else 0) + (if v = k4 then 1 else 0)) := by
  rw [dg_add, hs_two, hs_two]
  intro w
  rw [hs_two, hs_two]
  split <;> split <;> split <;> split <;> decide
theorem hsY_ok {p g a : Nat} (hp : p ≤ 1021) (ha : a < p) (h : hsY p g = 0) : ∃ w, w < p ∧ (a = w * w * (w * w) % p ∨ a = w * w * (w * w) % p * g % p ∨ a = w * w * (w * w) % p * (g * g) % p ∨ a = w * w * (w * w) % p * (g * g * g) % p) := by
  unfold hsY at h
  rw [hsF_eq] at h
  unfold hsE at h
  rw [sk_eq] at h
  have e := sm_none h a ha
  have e : cond (Nat.ble 1 (Nat.mod (Nat.shiftRight (hsC p g) (Nat.mul 20 a)) 1048576)) 0 1 = 0 := e
  have e2 : Nat.mod (Nat.shiftRight (hsC p g) (Nat.mul 20 a)) 1048576 = dg (hsC p g) a := by
    unfold dg
    rw [← Nat.shiftRight_eq_div_pow]
    rfl
  rw [e2] at e
  have pos : dg (hsC p g) a ≠ 0 := by
    cases z : Nat.ble 1 (dg (hsC p g) a) with
    | true =>
      have := Nat.le_of_ble_eq_true z
      omega
    | false =>
      rw [z] at e
      cases e
  have eC : hsC p g = sm (fun w => (2 ^ (20 * (w * w * (w * w) % p)) + 2 ^ (20 * (w * w * (w * w) % p * g % p))) + (2 ^ (20 * (w * w * (w * w) % p * (g * g) % p)) + 2 ^ (20 * (w * w * (w * w) % p * (g * g * g) % p)))) p := by
    unfold hsC
    rw [sk_eq]
    refine sm_congr fun w _ => ?_
    rw [hsF_eq]
    rfl
  rw [eC, dg_sm] at pos
  · obtain ⟨w, hw, z⟩ := sm_pos pos
    refine ⟨w, hw, ?_⟩
    rw [hs_four] at z
    by_cases z1 : a = w * w * (w * w) % p
    · exact Or.inl z1
    · by_cases z2 : a = w * w * (w * w) % p * g % p
      · exact Or.inr (Or.inl z2)
      · by_cases z3 : a = w * w * (w * w) % p * (g * g) % p
        · exact Or.inr (Or.inr (Or.inl z3))
        · by_cases z4 : a = w * w * (w * w) % p * (g * g * g) % p
          · exact Or.inr (Or.inr (Or.inr z4))
          · rw [if_neg z1, if_neg z2, if_neg z3, if_neg z4] at z
            exact absurd rfl z
  · intro v
    have e : sm (fun w => dg ((2 ^ (20 * (w * w * (w * w) % p)) + 2 ^ (20 * (w * w * (w * w) % p * g % p))) + (2 ^ (20 * (w * w * (w * w) % p * (g * g) % p)) + 2 ^ (20 * (w * w * (w * w) % p * (g * g * g) % p)))) v) p ≤ p * 4 := sm_le fun w _ => by
      show dg ((2 ^ (20 * (w * w * (w * w) % p)) + 2 ^ (20 * (w * w * (w * w) % p * g % p))) + (2 ^ (20 * (w * w * (w * w) % p * (g * g) % p)) + 2 ^ (20 * (w * w * (w * w) % p * (g * g * g) % p)))) v ≤ 4
      rw [hs_four]
      split <;> split <;> split <;> split <;> decide
    have : (2 : Nat) ^ 20 = 1048576 := by decide
    omega
theorem fz_mod (p : Nat) [NeZero p] (n : Nat) : fz p ((n % p : Nat) : Int) = fz p (n : Int) := by
  rw [fz_eq, Int.natCast_emod, Int.emod_emod]
/-- curves of one kind have equally many points (one direction) -/
theorem cnt_iso {p a b u : Nat} (hp : pr p) (h0 : 1 ≤ u) (hu : u < p) : cnt p a b ≤ cnt p (u * u * u * u * a % p) (u * u * u * u * u * u * b % p) := by
  have : NeZero p := ⟨by have := hp.1; omega⟩
  have p0 := fz_p0 p
  have U0 : fz p (u : Int) ≠ 0 := by
    intro z
    have := congrArg Fin.val z
    rw [fz_lt hu] at this
    simp at this
    omega
  have can : ∀ X Y : Fin p, fz p (u : Int) * X = fz p (u : Int) * Y → X = Y := by
    intro X Y e
    have d : fz p (u : Int) * (X - Y) = 0 := by grind
    rcases fz_dom hp _ _ d with g | g
    · exact absurd g U0
    · grind
  have hn : ((pts p a b).map fun P => P.map fun q => (u * u * q.1 % p, u * u * u * q.2 % p)).Nodup := gp_map_nodup (by
    intro x hx y hy e
    rw [pts_mem] at hx hy
    rcases hx with rfl | ⟨x1, x2, rfl, hx1, hx2, _⟩
    · rcases hy with rfl | ⟨y1, y2, rfl, hy1, hy2, _⟩
      · rfl
      · cases e
    · rcases hy with rfl | ⟨y1, y2, rfl, hy1, hy2, _⟩
      · cases e
      · have e : some (u * u * x1 % p, u * u * u * x2 % p) = some (u * u * y1 % p, u * u * u * y2 % p) := e
        have e1 := congrArg (fun n : Nat => fz p (n : Int)) (congrArg Prod.fst (Option.some.inj e))
        have e2 := congrArg (fun n : Nat => fz p (n : Int)) (congrArg Prod.snd (Option.some.inj e))
        simp only [fz_mod, Int.natCast_mul, fz_mul] at e1 e2
        have i1 : fz p (x1 : Int) = fz p (y1 : Int) := can _ _ (can _ _ (by grind))
        have i2 : fz p (x2 : Int) = fz p (y2 : Int) := can _ _ (can _ _ (can _ _ (by grind)))
        rw [fz_inj hx1 hy1 i1, fz_inj hx2 hy2 i2]) (pts_nodup p a b)
  have hs : ((pts p a b).map fun P => P.map fun q => (u * u * q.1 % p, u * u * u * q.2 % p)) ⊆ pts p (u * u * u * u * a % p) (u * u * u * u * u * u * b % p) := by
    intro Q hQ
    obtain ⟨P, hP, rfl⟩ := List.mem_map.mp hQ
    rw [pts_mem] at hP ⊢
    rcases hP with rfl | ⟨x, y, rfl, hx, hy, o⟩
    · exact Or.inl rfl
    · refine Or.inr ⟨u * u * x % p, u * u * u * y % p, rfl, Nat.mod_lt _ p0, Nat.mod_lt _ p0, ?_⟩
      have o := on_iff.mpr o
      refine on_iff.mp ?_
      unfold ec_on at o ⊢
      simp only [fz_mod, Int.natCast_mul, fz_mul]
      generalize fz p (u : Int) = U
      generalize fz p (x : Int) = X at o ⊢
      generalize fz p (y : Int) = Y at o ⊢
      generalize fz p (a : Int) = A at o ⊢
      generalize fz p (b : Int) = B at o ⊢
      have : U * U * U * Y * (U * U * U * Y) = U * U * U * U * U * U * (Y * Y) := by grind
      rw [this, o]
      grind
  have := hn.length_le_of_subset hs
  rwa [List.length_map, pts_len, pts_len] at this
noncomputable def hsZ (p g : Nat) : Nat := Nat.add (Nat.add (Nat.add (hsX p 0) (hsX p 1)) (Nat.add (hsX p g) (hsX p (Nat.mod (Nat.mul g g) p)))) (Nat.add (hsX p (Nat.mod (Nat.mul (Nat.mul g g) g) p)) (hsY p g))
theorem hsZ_ok {p g a b : Nat} (hp : pr p) (h1 : p ≤ 1021) (hg : g < p) (ha : a < p) (hb : b < p) (h : hsZ p g = 0) : cnt p a b ≤ 1100 := by
  have h : ((hsX p 0 + hsX p 1) + (hsX p g + hsX p (g * g % p))) + (hsX p (g * g * g % p) + hsY p g) = 0 := h
  have p0 : 0 < p := by omega
  have p2 := hp.1
  by_cases a0 : a = 0
  · subst a0
    exact hsX_ok p0 h1 hb (by omega)
  · obtain ⟨w, hw, hc⟩ := hsY_ok (g := g) h1 ha (by omega)
    have w0 : 1 ≤ w := by
      apply Nat.pos_of_ne_zero
      intro z
      subst z
      simp at hc
      omega
    have : NeZero p := ⟨by omega⟩
    have key : ∀ r, a = w * w * (w * w) % p * r % p → hsX p (r % p) = 0 → cnt p a b ≤ 1100 := by
      intro r e hr
      have i := pr_inv hp w0 hw
      have hu := Nat.mod_lt (w ^ (p - 2)) p0
      generalize w ^ (p - 2) % p = u at i hu
      have u0 : 1 ≤ u := by
        apply Nat.pos_of_ne_zero
        intro z
        subst z
        simp at i
      have c := cnt_iso (a := a) (b := b) hp u0 hu
      have e2 : u * u * u * u * a % p = r % p := by
        have f : fz p ((u * u * u * u * a : Nat) : Int) = fz p (r : Int) := by
          have f1 : fz p (u : Int) * fz p (w : Int) = 1 := by
            rw [← fz_mul, ← Int.natCast_mul, ← fz_mod, i]
            exact fz_one p
          rw [e]
          simp only [fz_mod, Int.natCast_mul, fz_mul]
          generalize fz p (u : Int) = U at f1 ⊢
          generalize fz p (w : Int) = W at f1 ⊢
          generalize fz p (r : Int) = T
          have : U * U * U * U * (W * W * (W * W) * T) = (U * W) * (U * W) * (U * W) * (U * W) * T := by grind
          rw [this, f1]
          grind
        have := congrArg Fin.val f
        rwa [fz_nat, fz_nat] at this
      rw [e2] at c
      exact Nat.le_trans c (hsX_ok p0 h1 (Nat.mod_lt _ p0) hr)
    rcases hc with z | z | z | z
    · refine key 1 (by rw [Nat.mul_one, Nat.mod_mod]; exact z) ?_
      rw [Nat.mod_eq_of_lt (by omega)]
      omega
    · refine key g z ?_
      rw [Nat.mod_eq_of_lt hg]
      omega
    · exact key (g * g) z (by omega)
    · exact key (g * g * g) z (by omega)
