/-! Links: one step of the two sides, method by method. -/
/-- the i-th multiple of the base, also where no curve is taken -/
def tbN (p a gx gy i : Nat) : Option (Nat × Nat) := if h : p ≠ 0 then @tb p a gx gy ⟨h⟩ i else none
theorem tbN_is {p a gx gy : Nat} [h : NeZero p] (i : Nat) : tbN p a gx gy i = tb p a gx gy i := dif_pos h.out
/-- a curve is taken -/
def TK (n p a b gx gy : Nat) (sec : Int) (ix tx ty : Nat → Nat) : Prop := Cv p a b n gx gy ∧ p ≤ 1021 ∧ n ≤ 1100 ∧ (∀ j, ix j < n) ∧ (0 ≤ sec ∧ sec < n) ∧ ∀ j, 1 ≤ j → j < n → tbN p a gx gy j = some (tx j, ty j)
section Tk
variable {n p a b gx gy : Nat} {sec : Int} {ix tx ty : Nat → Nat}
theorem TK.T (h : TK n p a b gx gy sec ix tx ty) : @Tb p a gx gy n h.1.ne tx ty := by
  intro j h1 h2
  have := h.2.2.2.2.2 j h1 h2
  rw [@tbN_is p a gx gy h.1.ne] at this
  exact this
theorem TK.p5 (h : TK n p a b gx gy sec ix tx ty) : 5 ≤ p ∧ p ≤ 1021 := ⟨h.1.2.1, h.2.1⟩
theorem TK.la (h : TK n p a b gx gy sec ix tx ty) : a < p := h.1.2.2.1
theorem TK.lb (h : TK n p a b gx gy sec ix tx ty) : b < p := h.1.2.2.2.1
theorem TK.n3 (h : TK n p a b gx gy sec ix tx ty) : 3 ≤ n := h.1.2.2.2.2.2.2.1
theorem TK.n2 (h : TK n p a b gx gy sec ix tx ty) : 2 ≤ n ∧ n ≤ 1100 := ⟨by have := h.n3; omega, h.2.2.1⟩
theorem TK.zn (h : TK n p a b gx gy sec ix tx ty) : zb n = 0 := if_neg (by have := h.n3; omega)
theorem TK.prn (h : TK n p a b gx gy sec ix tx ty) : pr n := h.1.2.2.2.2.2.2.2.1
theorem TK.sm (h : TK n p a b gx gy sec ix tx ty) (i : Nat) : sm2 p (tbN p a gx gy i) := by
  rw [@tbN_is p a gx gy h.1.ne]
  exact @Cv.sm p a b n gx gy h.1.ne h.1 i
theorem TK.sG (h : TK n p a b gx gy sec ix tx ty) : sm2 p (some (gx, gy)) := fun x y e => by
  cases e
  exact ⟨h.1.2.2.2.2.2.2.2.2.1, h.1.2.2.2.2.2.2.2.2.2.1⟩
theorem TK.cub0 (h : TK n p a b gx gy sec ix tx ty) : ∀ x, x < p → cub p a b x ≠ 0 := fun x hx z => by
  obtain ⟨i, -, -, e⟩ := @Cv.tfind p a b n gx gy h.1.ne h.1 x 0 hx (by omega) (by rw [z, Nat.zero_mul, Nat.zero_mod])
  have := (@Cv.tpt p a b n gx gy h.1.ne h.1 i x 0 e).2.2.2
  omega
theorem TK.one (h : TK n p a b gx gy sec ix tx ty) : tbN p a gx gy 1 = some (gx, gy) := by
  rw [@tbN_is p a gx gy h.1.ne]
  exact @Cv.tb1 p a b n gx gy h.1.ne h.1
theorem tbN_0 : tbN p a gx gy 0 = none := by
  unfold tbN
  split <;> rfl
theorem TK.up (h : TK n p a b gx gy sec ix tx ty) (i : Nat) {k : Nat} (hk : k < n) : TK n p a b gx gy sec (va_up ix i k) tx ty := by
  refine ⟨h.1, h.2.1, h.2.2.1, fun j => ?_, h.2.2.2.2⟩
  unfold va_up
  split
  · exact hk
  · exact h.2.2.2.1 j
theorem up_tb {i k : Nat} {Q : Option (Nat × Nat)} (e : tbN p a gx gy k = Q) : va_up (fun j => tbN p a gx gy (ix j)) i Q = fun j => tbN p a gx gy (va_up ix i k j) := by
  funext j
  unfold va_up
  split
  · exact e.symm
  · rfl
theorem TK.load (h : TK n p a b gx gy sec ix tx ty) (x y : Int) : (hoF p a b x y = 0 ↔ zb (fdF tx ty n x y 1100 1 0) = 1) ∧ fdF tx ty n x y 1100 1 0 < n ∧ (hoF p a b x y ≠ 0 → tbN p a gx gy (fdF tx ty n x y 1100 1 0) = some (x.toNat, y.toNat)) := by
  have f := @Tb.find p a b n gx gy h.1.ne tx ty h.1 h.2.2.1 h.T x y
  have n3 := h.n3
  by_cases g : hoF p a b x y = 0
  · rw [f.1 g]
    exact ⟨⟨fun _ => rfl, fun _ => g⟩, by omega, fun z => absurd g z⟩
  · obtain ⟨f1, f2, f3⟩ := f.2 g
    refine ⟨⟨fun z => absurd z g, fun z => ?_⟩, f2, fun _ => ?_⟩
    · rw [show zb (fdF tx ty n x y 1100 1 0) = 0 from if_neg (by omega)] at z
      cases z
    · rw [@tbN_is p a gx gy h.1.ne]
      exact f3
theorem TK.sum (h : TK n p a b gx gy sec ix tx ty) (i j : Nat) : plF p a (tbN p a gx gy i) (tbN p a gx gy j) = tbN p a gx gy ((i + j) % n) := by
  rw [@tbN_is p a gx gy h.1.ne, @tbN_is p a gx gy h.1.ne, @tbN_is p a gx gy h.1.ne, @Cv.plus p a b n gx gy h.1.ne h.1 h.2.1, @Cv.tmod p a b n gx gy h.1.ne h.1]
theorem TK.mod (h : TK n p a b gx gy sec ix tx ty) (k : Int) : (k % (n : Int)).toNat < n := by
  have := em_b k (show (0 : Int) < n by have := h.n3; omega)
  omega
theorem TK.times (h : TK n p a b gx gy sec ix tx ty) (i : Nat) (k : Int) : muF p a 11 none (tbN p a gx gy i) (k % (n : Int)).toNat = tbN p a gx gy ((k % (n : Int)).toNat * i % n) := by
  have hk := h.mod k
  have hn := h.2.2.1
  rw [@tbN_is p a gx gy h.1.ne, @tbN_is p a gx gy h.1.ne, @Cv.times p a b n gx gy h.1.ne h.1 h.2.1 _ _ (by omega), @Cv.tmod p a b n gx gy h.1.ne h.1]
theorem TK.key (h : TK n p a b gx gy sec ix tx ty) {d : Int} (hd : 1 ≤ d ∧ d < n) : muF p a 11 none (some (gx, gy)) (d % (n : Int)).toNat = tbN p a gx gy d.toNat ∧ d.toNat < n := by
  rw [← h.one, h.times, Int.emod_eq_of_lt (by omega) (by omega), Nat.mul_one, Nat.mod_eq_of_lt (by omega)]
  exact ⟨rfl, by omega⟩
theorem un_ky {n : Nat} {d : Int} : unF n d = 0 ↔ kyF n d = 1 := by
  rw [unF_0]
  unfold kyF
  split
  · omega
  · split <;> omega
theorem TK.x (h : TK n p a b gx gy sec ix tx ty) {r : Int} (hr : okr r) : pxF (tbN p a gx gy (ix r.toNat)) = rvF tx ix r := by
  rw [@tbN_is p a gx gy h.1.ne, @Tb.px p a b n gx gy h.1.ne tx ty h.1 h.T _ (h.2.2.2.1 _)]
  exact (if_pos (nrF_0.mpr hr)).symm
theorem TK.y (h : TK n p a b gx gy sec ix tx ty) {r : Int} (hr : okr r) : pyF (tbN p a gx gy (ix r.toNat)) = rvF ty ix r := by
  rw [@tbN_is p a gx gy h.1.ne, @Tb.py p a b n gx gy h.1.ne tx ty h.1 h.T _ (h.2.2.2.1 _)]
  exact (if_pos (nrF_0.mpr hr)).symm
theorem TK.code (h : TK n p a b gx gy sec ix tx ty) {r k : Int} (hr : okr r) (hk : k = 0 ∨ k = 1) : cdF (tbN p a gx gy (ix r.toNat)) (decide (k = 1)) = rcF tx ty ix r k := by
  have := @Tb.cd p a b n gx gy h.1.ne tx ty h.1 h.T _ (h.2.2.2.1 r.toNat) k
  rw [@tbN_is p a gx gy h.1.ne]
  rw [show rcF tx ty ix r k = boF tx ty (ix r.toNat) k from if_pos (nrF_0.mpr hr), ← this]
  rcases hk with rfl | rfl <;> rfl
theorem TK.decode (h : TK n p a b gx gy sec ix tx ty) (k z : Int) : (pbF p a b k z = -2 ↔ ng1 (reF tx ty n k z) = 1) ∧ (reF tx ty n k z).toNat < n ∧ (pbF p a b k z ≠ -2 → ofC (pbF p a b k z) = tbN p a gx gy (reF tx ty n k z).toNat) := by
  have f := @Tb.read p a b n gx gy h.1.ne tx ty h.1 h.2.1 h.2.2.1 h.T k z
  have n3 := h.n3
  have b1 := reF_b tx ty n h.2.2.1 k z
  have b2 := reF_lt (tx := tx) (ty := ty) (show 0 < n by omega) k z
  rw [f]
  generalize reF tx ty n k z = e at b1 b2
  have c := ecd_b h.2.1 (h.sm e.toNat)
  rw [← @tbN_is p a gx gy h.1.ne]
  refine ⟨?_, by omega, fun z => ?_⟩
  · by_cases g : e = -1
    · rw [if_pos g]
      exact ⟨fun _ => if_pos (by omega), fun _ => rfl⟩
    · rw [if_neg g]
      constructor
      · intro z
        omega
      · intro z
        rw [show ng1 e = 0 from if_neg (by omega)] at z
        cases z
  · by_cases g : e = -1
    · exact absurd (if_pos g) z
    · rw [if_neg g]
      exact ofC_ecd h.2.1 (h.sm _)
theorem TK.verify (h : TK n p a b gx gy sec ix tx ty) (q : Nat) (z r s : Int) : fiF p a n (some (gx, gy)) (tbN p a gx gy (ix q)) z r s = mfF tx n ((ix q : Nat) : Int) z r s := by
  rw [@tbN_is p a gx gy h.1.ne]
  exact @Tb.fits p a b n gx gy h.1.ne tx ty h.1 h.2.1 h.2.2.1 h.T _ (h.2.2.2.1 q) z r s
theorem TK.acc (h : TK n p a b gx gy sec ix tx ty) (k m z r s : Int) : acF p a b n (some (gx, gy)) k m z r s = mfF tx n (reF tx ty n k m) z r s := @Tb.acc p a b n gx gy h.1.ne tx ty h.1 h.2.1 h.2.2.1 h.T k m z r s
/-- the point that a draw gives -/
def sgX (n gx gy : Nat) (tx ty : Nat → Nat) (k : Int) : Nat × Nat := if 1 ≤ k ∧ k < n then (tx k.toNat, ty k.toNat) else (gx, gy)
theorem TK.sgM (h : TK n p a b gx gy sec ix tx ty) : ∀ k : Int, unF n k ≠ 0 → muF p a 11 none (some (gx, gy)) (k % (n : Int)).toNat = some ((sgX n gx gy tx ty k).1, (sgX n gx gy tx ty k).2) := by
  intro k hk
  have h1 : 1 ≤ k ∧ k < n := by
    have := mt unF_0.mpr hk
    omega
  rw [(h.key h1).1, h.2.2.2.2.2 k.toNat (by omega) (by omega)]
  unfold sgX
  rw [if_pos h1]
theorem TK.sgB (h : TK n p a b gx gy sec ix tx ty) : ∀ k, (sgX n gx gy tx ty k).1 < p ∧ (sgX n gx gy tx ty k).2 < p := by
  intro k
  unfold sgX
  split
  · have := @Tb.pt p a b n gx gy h.1.ne tx ty h.1 h.T k.toNat (by omega) (by omega)
    exact ⟨this.1, this.2.1⟩
  · exact h.sG gx gy rfl
theorem TK.sgV (h : TK n p a b gx gy sec ix tx ty) (e : Int) (mk : Int32) (f d : Nat) (st v : Int32) : siF n (fun k => (sgX n gx gy tx ty k).1) e sec mk f d st v = soF (fun k => sg2 n (tx k.toNat) k e sec) mk f d st v := by
  rw [siF_so]
  congr 1
  funext k
  rw [sg_same h.prn h.n3 h.2.2.1]
  by_cases g : 1 ≤ k ∧ k < n
  · unfold sgX
    rw [if_pos g]
  · exact sg_out g
end Tk
theorem tk_dc {p a b : Int} (h0 : 0 ≤ p) (h1 : 0 ≤ a) (h2 : 0 ≤ b) (h : (4 * a * a * a + 27 * b * b) % p ≠ 0) : (4 * (a.toNat * a.toNat * a.toNat) + 27 * (b.toNat * b.toNat)) % p.toNat ≠ 0 := by
  have e := dc_2 p.toNat a.toNat b.toNat
  rw [Int.toNat_of_nonneg h0, Int.toNat_of_nonneg h1, Int.toNat_of_nonneg h2] at e
  intro z
  rw [z] at e
  exact h e
/-- a curve newly taken -/
theorem tk_new {p a b : Int} (h : tkF p a b) (tx ty : Nat → Nat) : cvF p a b = 0 ∧ coF p a b = cnt p.toNat a.toNat b.toNat ∧ lpF p.toNat a.toNat b.toNat 1100 0 = ecd (some (bxF p.toNat a.toNat b.toNat, byF p.toNat a.toNat b.toNat)) ∧
    TK (cnt p.toNat a.toNat b.toNat) p.toNat a.toNat b.toNat (bxF p.toNat a.toNat b.toNat) (byF p.toNat a.toNat b.toNat) 0 (fun _ => 0) (tbX (fun j => (tpF p.toNat a.toNat (bxF p.toNat a.toNat b.toNat) (byF p.toNat a.toNat b.toNat) j).1) tx (cnt p.toNat a.toNat b.toNat)) (tbX (fun j => (tpF p.toNat a.toNat (bxF p.toNat a.toNat b.toNat) (byF p.toNat a.toNat b.toNat) j).2) ty (cnt p.toNat a.toNat b.toNat)) := by
  have hcv := (tk_cv p a b).mp h
  have hcr := (ic_cr p a b).mp h.1
  obtain ⟨k1, k2, k3, k4, k5, k6, k7, k8⟩ := crF_1 hcr
  have hp : pr p.toNat := (pmF_pr (by omega)).mp k7
  have hle := cnt_le hp (show 5 ≤ p.toNat by omega) (by omega) (show a.toNat < p.toNat by omega) (show b.toNat < p.toNat by omega)
  have hn : pr (cnt p.toNat a.toNat b.toNat) := (prF_pr (by omega)).mp h.2.2
  have cv := base_cv hp (by omega) (by omega) (show a.toNat < p.toNat by omega) (show b.toNat < p.toNat by omega) (tk_dc (by omega) k3 k5 k8) h.2.1 hn
  refine ⟨hcv, if_neg hcr, (base_is (by omega) (by omega) h.2.1).1, cv, by omega, hle, fun _ => (show 0 < _ by have := h.2.1; omega), ⟨by omega, by have := h.2.1; omega⟩, fun j h1 h2 => ?_⟩
  rw [@tbN_is _ _ _ _ cv.ne, @Cv.tabl _ _ _ _ _ _ cv.ne cv (by omega) j h1 h2, tbX, tbX, if_pos ⟨h1, h2⟩, if_pos ⟨h1, h2⟩]
theorem tk_le {p a b : Int} (h : crF p a b ≠ 0) : coF p a b ≤ 1100 := by
  obtain ⟨k1, k2, k3, k4, k5, k6, k7, k8⟩ := crF_1 h
  rw [show coF p a b = cnt p.toNat a.toNat b.toNat from if_neg h]
  exact cnt_le ((pmF_pr (by omega)).mp k7) (by omega) (by omega) (by omega) (by omega)
