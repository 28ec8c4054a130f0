/-! The points of the curve, none being the one at infinity: an abelian group. -/
def ec_P {F : Type} [Lean.Grind.CommRing F] (a b : F) (P : Option (F × F)) : Prop := ∀ q, P = some q → ec_on a b q.1 q.2
def ec_op {F : Type} [Lean.Grind.CommRing F] (P Q : F × F) : Prop := P.1 = Q.1 ∧ P.2 + Q.2 = 0
def ec_at {F : Type} [Lean.Grind.CommRing F] (P Q : F × F) (m : F) : F × F := (m * m - P.1 - Q.1, m * (P.1 - (m * m - P.1 - Q.1)) - P.2)
def ec_m {F : Type} [Lean.Grind.CommRing F] [DecidableEq F] (iv : F → F) (a : F) (P Q : F × F) : F := if P.1 = Q.1 then (P.1 * P.1 + P.1 * Q.1 + Q.1 * Q.1 + a) * iv (P.2 + Q.2) else (Q.2 - P.2) * iv (Q.1 - P.1)
def ec_add {F : Type} [Lean.Grind.CommRing F] [DecidableEq F] (iv : F → F) (a : F) (P Q : Option (F × F)) : Option (F × F) :=
  match P, Q with
  | none, Q => Q
  | some P, none => some P
  | some P, some Q => if P.1 = Q.1 ∧ P.2 + Q.2 = 0 then none else some (ec_at P Q (ec_m iv a P Q))
def ec_neg {F : Type} [Lean.Grind.CommRing F] (P : Option (F × F)) : Option (F × F) :=
  match P with
  | none => none
  | some q => some (q.1, -q.2)
/-- what the theory asks of the field and of the curve -/
def ec_F {F : Type} [Lean.Grind.CommRing F] (iv : F → F) (a b : F) : Prop := (∀ u v : F, u * v = 0 → u = 0 ∨ v = 0) ∧ (∀ u : F, u ≠ 0 → u * iv u = 1) ∧ (∀ u : F, u + u = 0 → u = 0) ∧ (∀ x : F, x * x * x + a * x + b = 0 → x * x + x * x + x * x + a = 0 → False)
theorem ec_add_none_l {F : Type} [Lean.Grind.CommRing F] [DecidableEq F] (iv : F → F) (a : F) (Q : Option (F × F)) : ec_add iv a none Q = Q := by
  cases Q <;> rfl
theorem ec_add_none_r {F : Type} [Lean.Grind.CommRing F] [DecidableEq F] (iv : F → F) (a : F) (Q : Option (F × F)) : ec_add iv a Q none = Q := by
  cases Q <;> rfl
theorem ec_add_op {F : Type} [Lean.Grind.CommRing F] [DecidableEq F] (iv : F → F) (a : F) {P Q : F × F} (h : P.1 = Q.1 ∧ P.2 + Q.2 = 0) : ec_add iv a (some P) (some Q) = none := by
  show (if P.1 = Q.1 ∧ P.2 + Q.2 = 0 then none else some (ec_at P Q (ec_m iv a P Q))) = none
  rw [if_pos h]
theorem ec_add_no {F : Type} [Lean.Grind.CommRing F] [DecidableEq F] (iv : F → F) (a : F) {P Q : F × F} (h : ¬ (P.1 = Q.1 ∧ P.2 + Q.2 = 0)) : ec_add iv a (some P) (some Q) = some (ec_at P Q (ec_m iv a P Q)) := by
  show (if P.1 = Q.1 ∧ P.2 + Q.2 = 0 then none else some (ec_at P Q (ec_m iv a P Q))) = _
  rw [if_neg h]
theorem ec_m_sl {F : Type} [Lean.Grind.CommRing F] [DecidableEq F] {iv : F → F} {a b : F} (hF : ec_F iv a b) {P Q : F × F} (oP : ec_on a b P.1 P.2) (oQ : ec_on a b Q.1 Q.2) (h : ¬ (P.1 = Q.1 ∧ P.2 + Q.2 = 0)) : ec_sl a P.1 P.2 Q.1 Q.2 (ec_m iv a P Q) := by
  obtain ⟨dom, hiv, h2, hs⟩ := hF
  obtain ⟨x1, y1⟩ := P
  obtain ⟨x2, y2⟩ := Q
  simp only at oP oQ h ⊢
  unfold ec_on at oP oQ
  unfold ec_m
  by_cases hx : x1 = x2
  · have hy : y1 + y2 ≠ 0 := fun z => h ⟨hx, z⟩
    have e := hiv _ hy
    simp only [if_pos hx]
    subst hx
    have e0 : (y1 - y2) * (y1 + y2) = 0 := by grind
    have e1 : y1 = y2 := by
      rcases dom _ _ e0 with z | z
      · grind
      · exact absurd z hy
    refine ⟨?_, ?_⟩
    · grind
    · generalize iv (y1 + y2) = v at e ⊢
      grind
  · have hd : x2 - x1 ≠ 0 := fun z => hx (by grind)
    have e := hiv _ hd
    simp only [if_neg hx]
    generalize iv (x2 - x1) = v at e ⊢
    have s1 : (y2 - y1) * v * (x2 - x1) = y2 - y1 := by grind
    refine ⟨s1, ?_⟩
    generalize (y2 - y1) * v = m at s1 ⊢
    have e3 : (x2 - x1) * (m * (y1 + y2) - (x1 * x1 + x1 * x2 + x2 * x2 + a)) = 0 := by
      have : (x2 - x1) * (m * (y1 + y2)) = (m * (x2 - x1)) * (y1 + y2) := by grind
      have : (x2 - x1) * (m * (y1 + y2)) = (y2 - y1) * (y1 + y2) := by rw [this, s1]
      grind
    rcases dom _ _ e3 with z | z
    · exact absurd z hd
    · grind
theorem ec_add_of {F : Type} [Lean.Grind.CommRing F] [DecidableEq F] {iv : F → F} {a b : F} (hF : ec_F iv a b) {P Q : F × F} (oP : ec_on a b P.1 P.2) (oQ : ec_on a b Q.1 Q.2) (h : ¬ (P.1 = Q.1 ∧ P.2 + Q.2 = 0)) {m : F} (hm : ec_sl a P.1 P.2 Q.1 Q.2 m) : ec_add iv a (some P) (some Q) = some (ec_at P Q m) := by
  rw [ec_add_no iv a h, ec_sl_one hF.1 h (ec_m_sl hF oP oQ h) hm]
theorem ec_at_on {F : Type} [Lean.Grind.CommRing F] {a b : F} {P Q : F × F} (oP : ec_on a b P.1 P.2) {m : F} (hm : ec_sl a P.1 P.2 Q.1 Q.2 m) : ec_on a b (ec_at P Q m).1 (ec_at P Q m).2 := ec_sum_on hm oP
theorem ec_P_none {F : Type} [Lean.Grind.CommRing F] (a b : F) : ec_P a b none := fun q h => by cases h
theorem ec_P_some {F : Type} [Lean.Grind.CommRing F] {a b : F} {q : F × F} (h : ec_on a b q.1 q.2) : ec_P a b (some q) := fun q' e => by cases e; exact h
theorem ec_P_neg {F : Type} [Lean.Grind.CommRing F] {a b : F} {P : Option (F × F)} (h : ec_P a b P) : ec_P a b (ec_neg P) := by
  cases P with
  | none => exact ec_P_none a b
  | some q =>
    have o := h q rfl
    refine ec_P_some (q := (q.1, -q.2)) ?_
    unfold ec_on at o ⊢
    simp only
    grind
theorem ec_P_add {F : Type} [Lean.Grind.CommRing F] [DecidableEq F] {iv : F → F} {a b : F} (hF : ec_F iv a b) {P Q : Option (F × F)} (hP : ec_P a b P) (hQ : ec_P a b Q) : ec_P a b (ec_add iv a P Q) := by
  cases P with
  | none => rw [ec_add_none_l]; exact hQ
  | some P =>
    cases Q with
    | none => exact hP
    | some Q =>
      by_cases h : P.1 = Q.1 ∧ P.2 + Q.2 = 0
      · rw [ec_add_op iv a h]; exact ec_P_none a b
      · rw [ec_add_no iv a h]
        exact ec_P_some (ec_at_on (hP P rfl) (ec_m_sl hF (hP P rfl) (hQ Q rfl) h))
theorem ec_comm {F : Type} [Lean.Grind.CommRing F] [DecidableEq F] {iv : F → F} {a b : F} (hF : ec_F iv a b) {P Q : Option (F × F)} (hP : ec_P a b P) (hQ : ec_P a b Q) : ec_add iv a P Q = ec_add iv a Q P := by
  cases P with
  | none => rw [ec_add_none_l, ec_add_none_r]
  | some P =>
    cases Q with
    | none => rw [ec_add_none_l, ec_add_none_r]
    | some Q =>
      by_cases h : P.1 = Q.1 ∧ P.2 + Q.2 = 0
      · rw [ec_add_op iv a h, ec_add_op iv a (P := Q) (Q := P) ⟨h.1.symm, by have := h.2; grind⟩]
      · have h' : ¬ (Q.1 = P.1 ∧ Q.2 + P.2 = 0) := fun z => h ⟨z.1.symm, by have := z.2; grind⟩
        have hm := ec_m_sl hF (hP P rfl) (hQ Q rfl) h
        rw [ec_add_no iv a h, ec_add_of hF (hQ Q rfl) (hP P rfl) h' (ec_sl_sym hm)]
        generalize ec_m iv a P Q = m at hm ⊢
        unfold ec_at
        have e1 : m * m - P.1 - Q.1 = m * m - Q.1 - P.1 := by grind
        rw [← e1, ec_sum_y hm]
theorem ec_back {F : Type} [Lean.Grind.CommRing F] [DecidableEq F] {iv : F → F} {a b : F} (hF : ec_F iv a b) {P Q : Option (F × F)} (hP : ec_P a b P) (hQ : ec_P a b Q) : ec_add iv a (ec_add iv a P Q) (ec_neg Q) = P := by
  cases Q with
  | none => rw [ec_add_none_r]; exact ec_add_none_r iv a P
  | some Q =>
    cases P with
    | none =>
      rw [ec_add_none_l]
      exact ec_add_op iv a (P := Q) (Q := (Q.1, -Q.2)) ⟨rfl, by simp only; grind⟩
    | some P =>
      by_cases h : P.1 = Q.1 ∧ P.2 + Q.2 = 0
      · rw [ec_add_op iv a h, ec_add_none_l]
        obtain ⟨x1, y1⟩ := P
        obtain ⟨x2, y2⟩ := Q
        simp only at h
        show some (x2, -y2) = some (x1, y1)
        have e : -y2 = y1 := by have := h.2; grind
        rw [h.1, e]
      · have hm := ec_m_sl hF (hP P rfl) (hQ Q rfl) h
        rw [ec_add_no iv a h]
        generalize ec_m iv a P Q = m at hm ⊢
        have oS := ec_at_on (hP P rfl) hm
        have oQ := ec_P_neg hQ (Q.1, -Q.2) rfl
        have hb := ec_back_sl hm
        have hn : ¬ ((ec_at P Q m).1 = (Q.1, -Q.2).1 ∧ (ec_at P Q m).2 + (Q.1, -Q.2).2 = 0) := by
          intro z
          obtain ⟨z1, z2⟩ := z
          have y := ec_sum_y hm (ec_at P Q m).1
          have q := hQ Q rfl
          obtain ⟨b1, b2⟩ := hb
          obtain ⟨dom, hiv, h2, hs⟩ := hF
          unfold ec_on at q
          unfold ec_at at z1 z2 y
          simp only at z1 z2 y b1 b2
          rw [z2] at b2
          rw [z1] at b2 y z2
          have y0 : Q.2 + Q.2 = 0 := by grind
          have y1 := h2 _ y0
          rw [y1] at q
          exact hs Q.1 (by grind) (by grind)
        show ec_add iv a (some (ec_at P Q m)) (some (Q.1, -Q.2)) = some P
        rw [ec_add_of hF oS oQ hn hb]
        unfold ec_at
        simp only
        rw [ec_back_x, ec_back_y]
theorem ec_nop {F : Type} [Lean.Grind.CommRing F] (dom : ∀ u v : F, u * v = 0 → u = 0 ∨ v = 0) (h2 : ∀ u : F, u + u = 0 → u = 0) {a x1 y1 x2 y2 x3 y3 m k : F} (h : ec_sl a x1 y1 x2 y2 m) (k1 : k * ((x3 - x1) * (x3 - x2)) = y3 - (y1 + m * (x3 - x1))) (k2 : k * (y3 + (y1 + m * (x3 - x1))) = x3 - (m * m - x1 - x2)) (k0 : k ≠ 0)
    (n13 : ¬ (x1 = x3 ∧ y1 + y3 = 0)) (n23 : ¬ (x2 = x3 ∧ y2 + y3 = 0)) : ¬ (m * m - x1 - x2 = x3 ∧ m * (x1 - (m * m - x1 - x2)) - y1 + y3 = 0) := by
  intro z
  obtain ⟨z1, z2⟩ := z
  obtain ⟨e1, e2⟩ := ec_sl_a h
  rw [z1] at z2 k2
  have l0 : y3 - (y1 + m * (x3 - x1)) = 0 := by grind
  have l1 : k * (y3 + (y1 + m * (x3 - x1))) = 0 := by rw [k2]; grind
  have l2 : y3 + (y1 + m * (x3 - x1)) = 0 := (dom _ _ l1).resolve_left k0
  have l3 : y3 = 0 := h2 _ (by grind)
  rw [l0] at k1
  rcases dom _ _ ((dom _ _ k1).resolve_left k0) with w | w
  · exact n13 ⟨by grind, by grind⟩
  · exact n23 ⟨by grind, by grind⟩
theorem ec_swap {F : Type} [Lean.Grind.CommRing F] [DecidableEq F] {iv : F → F} {a b : F} (hF : ec_F iv a b) {P Q R : Option (F × F)} (hP : ec_P a b P) (hQ : ec_P a b Q) (hR : ec_P a b R) : ec_add iv a (ec_add iv a P Q) R = ec_add iv a (ec_add iv a P R) Q := by
  cases P with
  | none => rw [ec_add_none_l, ec_add_none_l, ec_comm hF hQ hR]
  | some P =>
    cases Q with
    | none => rw [ec_add_none_r, ec_add_none_r]
    | some Q =>
      cases R with
      | none => rw [ec_add_none_r, ec_add_none_r]
      | some R =>
        by_cases n12 : P.1 = Q.1 ∧ P.2 + Q.2 = 0
        · have e : some Q = ec_neg (some P) := by
            obtain ⟨x1, y1⟩ := P
            obtain ⟨x2, y2⟩ := Q
            simp only at n12
            show some (x2, y2) = some (x1, -y1)
            have : y2 = -y1 := by have := n12.2; grind
            rw [n12.1, this]
          rw [ec_add_op iv a n12, ec_add_none_l, ec_comm hF hP hR, e, ec_back hF hR hP]
        · by_cases n13 : P.1 = R.1 ∧ P.2 + R.2 = 0
          · have e : some R = ec_neg (some P) := by
              obtain ⟨x1, y1⟩ := P
              obtain ⟨x2, y2⟩ := R
              simp only at n13
              show some (x2, y2) = some (x1, -y1)
              have : y2 = -y1 := by have := n13.2; grind
              rw [n13.1, this]
            rw [ec_add_op iv a n13, ec_add_none_l, ec_comm hF hP hQ, e, ec_back hF hQ hP]
          · by_cases n23 : Q.1 = R.1 ∧ Q.2 + R.2 = 0
            · have e : some R = ec_neg (some Q) := by
                obtain ⟨x1, y1⟩ := Q
                obtain ⟨x2, y2⟩ := R
                simp only at n23
                show some (x2, y2) = some (x1, -y1)
                have : y2 = -y1 := by have := n23.2; grind
                rw [n23.1, this]
              have e' : some Q = ec_neg (some R) := by
                obtain ⟨x1, y1⟩ := Q
                obtain ⟨x2, y2⟩ := R
                simp only at n23
                show some (x1, y1) = some (x2, -y2)
                have : y1 = -y2 := by have := n23.2; grind
                rw [n23.1, this]
              have r1 := ec_back hF hP hQ
              have r2 := ec_back hF hP hR
              rw [← e] at r1
              rw [← e'] at r2
              rw [r1, r2]
            · have oP := hP P rfl
              have oQ := hQ Q rfl
              have oR := hR R rfl
              have hm := ec_m_sl hF oP oQ n12
              rw [ec_add_no iv a n12]
              generalize ec_m iv a P Q = m at hm ⊢
              obtain ⟨dom, hiv, h2, hs⟩ := id hF
              obtain ⟨k, k1, k2⟩ := ec_three dom (fun u hu => ⟨iv u, by rw [← hiv u hu]; grind⟩) hm oP oR n13 n23
              have sm := ec_swap_sl hm k1 k2
              have s1 := ec_swap_k1 (x3 := R.1) (k := k) hm
              have s2 := ec_swap_k2 hm k1 k2
              rw [ec_add_of hF oP oR n13 sm]
              have n32 : ¬ (R.1 = Q.1 ∧ R.2 + Q.2 = 0) := fun z => n23 ⟨z.1.symm, by have := z.2; grind⟩
              have oS := ec_at_on oP hm
              have oT := ec_at_on (Q := R) oP sm
              by_cases k0 : k = 0
              · subst k0
                rw [ec_add_op iv a (P := ec_at P Q m) (Q := R), ec_add_op iv a (P := ec_at P R (m + 0 * (R.1 - Q.1))) (Q := Q)]
                · unfold ec_at
                  simp only
                  obtain ⟨e1, e2⟩ := ec_sl_a hm
                  refine ⟨?_, ?_⟩
                  · grind
                  · grind
                · unfold ec_at
                  simp only
                  refine ⟨?_, ?_⟩
                  · grind
                  · grind
              · have hr : iv k * k = 1 := by rw [← hiv k k0]; grind
                generalize iv k = r at hr
                have nS := ec_nop dom h2 hm k1 k2 k0 n13 n23
                have nT := ec_nop dom h2 sm s1 s2 k0 n12 n32
                have tS := ec_third_sl hm k1 k2 hr
                have tT := ec_third_sl sm s1 s2 hr
                rw [ec_add_of hF (P := ec_at P Q m) (Q := R) oS oR nS tS, ec_add_of hF (P := ec_at P R (m + k * (R.1 - Q.1))) (Q := Q) oT oQ nT tT]
                have yS := ec_sum_y tS
                have yT := ec_sum_y tT
                have ex := ec_third_x (x1 := P.1) (x2 := Q.1) (x3 := R.1) (m := m) hr
                have ey := ec_third_y hm k1 hr (X := (r - m) * (r - m) - (m * m - P.1 - Q.1) - R.1) rfl
                unfold ec_at
                simp only
                rw [yS, yT, ← ex, ey]
theorem ec_assoc {F : Type} [Lean.Grind.CommRing F] [DecidableEq F] {iv : F → F} {a b : F} (hF : ec_F iv a b) {P Q R : Option (F × F)} (hP : ec_P a b P) (hQ : ec_P a b Q) (hR : ec_P a b R) : ec_add iv a (ec_add iv a P Q) R = ec_add iv a P (ec_add iv a Q R) := by
  rw [ec_comm hF hP (ec_P_add hF hQ hR), ec_comm hF hP hQ, ec_swap hF hQ hP hR]
theorem ec_neg_r {F : Type} [Lean.Grind.CommRing F] [DecidableEq F] {iv : F → F} {a b : F} (hF : ec_F iv a b) {P : Option (F × F)} (hP : ec_P a b P) : ec_add iv a P (ec_neg P) = none := by
  have h := ec_back hF (ec_P_none a b) hP
  rwa [ec_add_none_l] at h
