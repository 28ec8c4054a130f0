/-! Curve: what only reads. By wip/whole/tools/gen4.py. -/
def unF (n : Nat) (k : Int) : Int := if k < 1 then 0 else if (n : Int) ≤ k then 0 else 1
set_option maxRecDepth 100000 in
set_option maxHeartbeats 4000000 in
theorem c_X0_isUnit (l : Launch) (D : va_G) (h0 p a b n : Nat) (g : Int) (hn : n ≤ 1100) (k : Int) (hk0 : rg k) : Met l yX0_isUnit (Cond.code yX0_isUnit cX0_isUnit 2 (some .boolean) :: AW) ({ frames := 0, cells := 0, slots := 0, locals := 0 } : Room) (PcW D [(h0, .inr (0, [.int (ii (p : Int)), .int (ii (a : Int)), .int (ii (b : Int)), .int (ii (n : Int)), .int (ii g)]))] [] [.ref h0, .int (ii k)]) (QcV (some (.int (ii (unF n k))))) 0 0 (fun _ => False) := by
  refine mt_W (by decide +kernel) (Nat.le_of_ble_eq_true rfl) ?_
  intro P0 E0 S0 M0 A0 B0 T0 K0 C hN hP hK hr hk ls hl
  have hl : lv_has ls 2 [(0, .ref h0), (1, .int (ii k))] := hl
  generalize hV : unF n k = V
  unfold unF at hV
  refine lv_iload_n C.1 C.2.1 dX0_isUnit_0 rfl (lv_at hl 1 rfl) ?_
  refine i_const C dX0_isUnit_1 ?_
  refine i_icmp_lt (tgt := 17) C dX0_isUnit_2 (by decide) ⟨by omega, by omega⟩ ⟨by omega, by omega⟩ (fun h1 => ?_) (fun h1 => ?_)
  · rw [if_pos (show k < 1 by omega)] at hV
    refine i_const C dX0_isUnit_17 ?_
    subst hV
    exact rt_z C hr hk dX0_isUnit_18 (Or.inl rfl) rfl
  · rw [if_neg (show ¬ k < 1 by omega)] at hV
    refine lv_iload_n C.1 C.2.1 dX0_isUnit_5 rfl (lv_at hl 1 rfl) ?_
    refine lv_aload_n C.1 C.2.1 dX0_isUnit_6 rfl (lv_at hl 0 rfl) ?_
    refine gf C hK hP 0 rfl rfl aw_uX0 3 (by decide) aw_f_X0_21 rfl dX0_isUnit_7 ?_
    refine i_icmp_ge (tgt := 17) C dX0_isUnit_10 (by decide) ⟨by omega, by omega⟩ ⟨by omega, by omega⟩ (fun h2 => ?_) (fun h2 => ?_)
    · rw [if_pos (show (n : Int) ≤ k by omega)] at hV
      refine i_const C dX0_isUnit_17 ?_
      subst hV
      exact rt_z C hr hk dX0_isUnit_18 (Or.inl rfl) rfl
    · rw [if_neg (show ¬ (n : Int) ≤ k by omega)] at hV
      refine i_const C dX0_isUnit_13 ?_
      refine lv_goto (tgt := 18) C.1 C.2.1 dX0_isUnit_14 (by decide) ?_
      subst hV
      exact rt_z C hr hk dX0_isUnit_18 (Or.inr rfl) rfl
def hoF (p a b : Nat) (x y : Int) : Int := if x < 0 then 0 else if (p : Int) ≤ x then 0 else if y < 0 then 0 else if (p : Int) ≤ y then 0 else if y * y % p = ((x * x + a) % p * x + b) % p then 1 else 0
set_option maxRecDepth 100000 in
set_option maxHeartbeats 4000000 in
theorem c_X0_holds (l : Launch) (D : va_G) (h0 p a b n : Nat) (g : Int) (hp : 5 ≤ p ∧ p ≤ 1021) (ha : a < p) (hb : b < p) (x y : Int) (hx0 : rg x) (hy0 : rg y) : Met l yX0_holds (Cond.code yX0_holds cX0_holds 3 (some .boolean) :: AW) ({ frames := 1, cells := 0, slots := 0, locals := 24 } : Room) (PcW D [(h0, .inr (0, [.int (ii (p : Int)), .int (ii (a : Int)), .int (ii (b : Int)), .int (ii (n : Int)), .int (ii g)]))] [] [.ref h0, .int (ii x), .int (ii y)]) (QcV (some (.int (ii (hoF p a b x y))))) 0 0 (fun _ => False) := by
  refine mt_W (by decide +kernel) (Nat.le_of_ble_eq_true rfl) ?_
  intro P0 E0 S0 M0 A0 B0 T0 K0 C hN hP hK hr hk ls hl
  have hl : lv_has ls 3 [(0, .ref h0), (1, .int (ii x)), (2, .int (ii y))] := hl
  generalize hV : hoF p a b x y = V
  unfold hoF at hV
  refine lv_iload_n C.1 C.2.1 dX0_holds_0 rfl (lv_at hl 1 rfl) ?_
  refine i_if_lt (tgt := 55) C dX0_holds_1 (by decide) ⟨by omega, by omega⟩ (fun h1 => ?_) (fun h1 => ?_)
  · rw [if_pos (show x < 0 by omega)] at hV
    refine i_const C dX0_holds_55 ?_
    subst hV
    exact rt_z C hr hk dX0_holds_56 (Or.inl rfl) rfl
  · rw [if_neg (show ¬ x < 0 by omega)] at hV
    refine lv_iload_n C.1 C.2.1 dX0_holds_4 rfl (lv_at hl 1 rfl) ?_
    refine lv_aload_n C.1 C.2.1 dX0_holds_5 rfl (lv_at hl 0 rfl) ?_
    refine gf C hK hP 0 rfl rfl aw_uX0 0 (by decide) aw_f_X0_9 rfl dX0_holds_6 ?_
    refine i_icmp_ge (tgt := 55) C dX0_holds_9 (by decide) ⟨by omega, by omega⟩ ⟨by omega, by omega⟩ (fun h2 => ?_) (fun h2 => ?_)
    · rw [if_pos (show (p : Int) ≤ x by omega)] at hV
      refine i_const C dX0_holds_55 ?_
      subst hV
      exact rt_z C hr hk dX0_holds_56 (Or.inl rfl) rfl
    · rw [if_neg (show ¬ (p : Int) ≤ x by omega)] at hV
      refine lv_iload_n C.1 C.2.1 dX0_holds_12 rfl (lv_at hl 2 rfl) ?_
      refine i_if_lt (tgt := 55) C dX0_holds_13 (by decide) ⟨by omega, by omega⟩ (fun h3 => ?_) (fun h3 => ?_)
      · rw [if_pos (show y < 0 by omega)] at hV
        refine i_const C dX0_holds_55 ?_
        subst hV
        exact rt_z C hr hk dX0_holds_56 (Or.inl rfl) rfl
      · rw [if_neg (show ¬ y < 0 by omega)] at hV
        refine lv_iload_n C.1 C.2.1 dX0_holds_16 rfl (lv_at hl 2 rfl) ?_
        refine lv_aload_n C.1 C.2.1 dX0_holds_17 rfl (lv_at hl 0 rfl) ?_
        refine gf C hK hP 0 rfl rfl aw_uX0 0 (by decide) aw_f_X0_9 rfl dX0_holds_18 ?_
        refine i_icmp_ge (tgt := 55) C dX0_holds_21 (by decide) ⟨by omega, by omega⟩ ⟨by omega, by omega⟩ (fun h4 => ?_) (fun h4 => ?_)
        · rw [if_pos (show (p : Int) ≤ y by omega)] at hV
          refine i_const C dX0_holds_55 ?_
          subst hV
          exact rt_z C hr hk dX0_holds_56 (Or.inl rfl) rfl
        · rw [if_neg (show ¬ (p : Int) ≤ y by omega)] at hV
          have q1 := mu_b (show 0 ≤ y by omega) (show y ≤ 1099 by omega) (show 0 ≤ y by omega) (show y ≤ 1099 by omega)
          have q2 := em_b (y * y) (show (0 : Int) < p by omega)
          have q3 := em_b ((x * x + a) % p * x + b) (show (0 : Int) < p by omega)
          refine lv_iload_n C.1 C.2.1 dX0_holds_24 rfl (lv_at hl 2 rfl) ?_
          refine lv_iload_n C.1 C.2.1 dX0_holds_25 rfl (lv_at hl 2 rfl) ?_
          refine i_mul C dX0_holds_26 ?_
          refine lv_aload_n C.1 C.2.1 dX0_holds_27 rfl (lv_at hl 0 rfl) ?_
          refine gf C hK hP 0 rfl rfl aw_uX0 0 (by decide) aw_f_X0_9 rfl dX0_holds_28 ?_
          refine i_rem C dX0_holds_31 ⟨by omega, by omega⟩ ⟨by omega, by omega⟩ ?_
          refine lv_aload_n C.1 C.2.1 dX0_holds_32 rfl (lv_at hl 0 rfl) ?_
          refine gf C hK hP 0 rfl rfl aw_uX0 0 (by decide) aw_f_X0_9 rfl dX0_holds_33 ?_
          refine lv_aload_n C.1 C.2.1 dX0_holds_36 rfl (lv_at hl 0 rfl) ?_
          refine gf C hK hP 0 rfl rfl aw_uX0 1 (by decide) aw_f_X0_15 rfl dX0_holds_37 ?_
          refine lv_aload_n C.1 C.2.1 dX0_holds_40 rfl (lv_at hl 0 rfl) ?_
          refine gf C hK hP 0 rfl rfl aw_uX0 2 (by decide) aw_f_X0_18 rfl dX0_holds_41 ?_
          refine lv_iload_n C.1 C.2.1 dX0_holds_44 rfl (lv_at hl 1 rfl) ?_
          refine ca_SN (As := [.int (ii (p : Int)), .int (ii (a : Int)), .int (ii (b : Int)), .int (ii x)]) (rest := [.int (ii ((y * y) % (p : Int)))]) C (c_X1_cubic l (p : Int) (a : Int) (b : Int) x (by omega) (by omega) (by omega) (by omega)) hN (pcn_pre _ hN) aw_b_X1_cubic nw_X0_31 aw_s_X1_cubic aw_i_X1 ⟨rfl, rfl⟩ 4 (by decide +kernel) rfl ⟨by decide, by decide⟩ hl.1 rfl (Nat.le_of_ble_eq_true rfl) dX0_holds_45 ⟨by decide, by decide⟩ ?_
          refine i_icmp_ne (tgt := 55) C dX0_holds_48 (by decide) ⟨by omega, by omega⟩ ⟨by omega, by omega⟩ (fun h5 => ?_) (fun h5 => ?_)
          · rw [if_neg h5] at hV
            refine i_const C dX0_holds_55 ?_
            subst hV
            exact rt_z C hr hk dX0_holds_56 (Or.inl rfl) rfl
          · rw [if_pos (Classical.not_not.mp h5)] at hV
            refine i_const C dX0_holds_51 ?_
            refine lv_goto (tgt := 56) C.1 C.2.1 dX0_holds_52 (by decide) ?_
            subst hV
            exact rt_z C hr hk dX0_holds_56 (Or.inr rfl) rfl
def qtF (x y : Int) (q : Nat) : Int := (x % q * (pwF q 11 1 (y % q).toNat (q - 2) : Nat)) % q
theorem qtF_b (x y : Int) {q : Nat} (hq : 0 < q) : 0 ≤ qtF x y q ∧ qtF x y q < q := em_b _ (by omega)
def slF (p a x y u v : Nat) : Int := if (x : Int) * 65536 + y = (u : Int) * 65536 + v then qtF (3 * x * x + a) (2 * y) p else qtF ((v : Int) - y) ((u : Int) - x) p
set_option maxRecDepth 100000 in
set_option maxHeartbeats 4000000 in
theorem c_X0_slope (l : Launch) (D : va_G) (h0 p a b n : Nat) (g : Int) (hp : 5 ≤ p ∧ p ≤ 1021) (ha : a < p) (hb : b < p) (x y u v : Nat) (hx0 : x < p) (hy0 : y < p) (hu0 : u < p) (hv0 : v < p) : Met l yX0_slope (Cond.code yX0_slope cX0_slope 5 (some .int) :: AW) ({ frames := 2, cells := 0, slots := 0, locals := 46 } : Room) (PcW D [(h0, .inr (0, [.int (ii (p : Int)), .int (ii (a : Int)), .int (ii (b : Int)), .int (ii (n : Int)), .int (ii g)]))] [] [.ref h0, .int (ii ((x : Int) * 65536 + (y : Int))), .int (ii ((u : Int) * 65536 + (v : Int)))]) (QcV (some (.int (ii (slF p a x y u v))))) 0 0 (fun _ => False) := by
  refine mt_W (by decide +kernel) (Nat.le_of_ble_eq_true rfl) ?_
  intro P0 E0 S0 M0 A0 B0 T0 K0 C hN hP hK hr hk ls hl
  have hl : lv_has ls 5 [(0, .ref h0), (1, .int (ii ((x : Int) * 65536 + (y : Int)))), (2, .int (ii ((u : Int) * 65536 + (v : Int))))] := hl
  generalize hV : slF p a x y u v = V
  unfold slF at hV
  have q1 := nmul_b (show x ≤ 1100 by omega) (show x ≤ 1100 by omega)
  refine lv_iload_n C.1 C.2.1 dX0_slope_0 rfl (lv_at hl 1 rfl) ?_
  refine ca_SN (As := [.int (ii ((x : Int) * 65536 + (y : Int)))]) (rest := []) C (c_X1_xOf l (x : Int) (y : Int) ⟨by omega, by omega⟩ ⟨by omega, by omega⟩) hN (pcn_pre _ hN) aw_b_X1_xOf nw_X0_48 aw_s_X1_xOf aw_i_X1 ⟨rfl, rfl⟩ 1 (by decide +kernel) rfl ⟨by decide, by decide⟩ hl.1 rfl (Nat.le_of_ble_eq_true rfl) dX0_slope_1 ⟨by decide, by decide⟩ ?_
  refine lv_istore_n C.1 C.2.1 dX0_slope_4 rfl hl (by decide) rfl (fun ls hl => ?_)
  have hl : lv_has ls 5 [(3, .int (ii (x : Int))), (0, .ref h0), (1, .int (ii ((x : Int) * 65536 + (y : Int)))), (2, .int (ii ((u : Int) * 65536 + (v : Int))))] := hl
  refine lv_iload_n C.1 C.2.1 dX0_slope_5 rfl (lv_at hl 2 rfl) ?_
  refine ca_SN (As := [.int (ii ((x : Int) * 65536 + (y : Int)))]) (rest := []) C (c_X1_yOf l (x : Int) (y : Int) ⟨by omega, by omega⟩ ⟨by omega, by omega⟩) hN (pcn_pre _ hN) aw_b_X1_yOf nw_X0_52 aw_s_X1_yOf aw_i_X1 ⟨rfl, rfl⟩ 1 (by decide +kernel) rfl ⟨by decide, by decide⟩ hl.1 rfl (Nat.le_of_ble_eq_true rfl) dX0_slope_6 ⟨by decide, by decide⟩ ?_
  refine lv_istore C.1 C.2.1 dX0_slope_9 hl (by decide) rfl (fun ls hl => ?_)
  have hl : lv_has ls 5 [(4, .int (ii (y : Int))), (3, .int (ii (x : Int))), (0, .ref h0), (1, .int (ii ((x : Int) * 65536 + (y : Int)))), (2, .int (ii ((u : Int) * 65536 + (v : Int))))] := hl
  refine lv_iload_n C.1 C.2.1 dX0_slope_11 rfl (lv_at hl 3 rfl) ?_
  refine lv_iload_n C.1 C.2.1 dX0_slope_12 rfl (lv_at hl 4 rfl) ?_
  refine i_icmp_ne (tgt := 38) C dX0_slope_13 (by decide) ⟨by omega, by omega⟩ ⟨by omega, by omega⟩ (fun h1 => ?_) (fun h1 => ?_)
  · rw [if_neg h1] at hV
    refine lv_iload_n C.1 C.2.1 dX0_slope_38 rfl (lv_at hl 4 rfl) ?_
    refine ca_SN (As := [.int (ii ((u : Int) * 65536 + (v : Int)))]) (rest := []) C (c_X1_yOf l (u : Int) (v : Int) ⟨by omega, by omega⟩ ⟨by omega, by omega⟩) hN (pcn_pre _ hN) aw_b_X1_yOf nw_X0_52 aw_s_X1_yOf aw_i_X1 ⟨rfl, rfl⟩ 1 (by decide +kernel) rfl ⟨by decide, by decide⟩ hl.1 rfl (Nat.le_of_ble_eq_true rfl) dX0_slope_39 ⟨by decide, by decide⟩ ?_
    refine lv_iload C.1 C.2.1 dX0_slope_42 (lv_at hl 0 rfl) ?_
    refine i_sub C dX0_slope_44 ?_
    refine lv_iload_n C.1 C.2.1 dX0_slope_45 rfl (lv_at hl 4 rfl) ?_
    refine ca_SN (As := [.int (ii ((u : Int) * 65536 + (v : Int)))]) (rest := [.int (ii ((v : Int) - (y : Int)))]) C (c_X1_xOf l (u : Int) (v : Int) ⟨by omega, by omega⟩ ⟨by omega, by omega⟩) hN (pcn_pre _ hN) aw_b_X1_xOf nw_X0_48 aw_s_X1_xOf aw_i_X1 ⟨rfl, rfl⟩ 1 (by decide +kernel) rfl ⟨by decide, by decide⟩ hl.1 rfl (Nat.le_of_ble_eq_true rfl) dX0_slope_46 ⟨by decide, by decide⟩ ?_
    refine lv_iload_n C.1 C.2.1 dX0_slope_49 rfl (lv_at hl 1 rfl) ?_
    refine i_sub C dX0_slope_50 ?_
    refine lv_aload_n C.1 C.2.1 dX0_slope_51 rfl (lv_at hl 2 rfl) ?_
    refine gf C hK hP 0 rfl rfl aw_uX0 0 (by decide) aw_f_X0_9 rfl dX0_slope_52 ?_
    refine ca_SN (As := [.int (ii ((v : Int) - (y : Int))), .int (ii ((u : Int) - (x : Int))), .int (ii (p : Int))]) (rest := []) C (c_X1_quotient l ((v : Int) - y) ((u : Int) - x) p ⟨by omega, by omega⟩ ⟨by omega, by omega⟩ ⟨by omega, by omega⟩) hN (pcn_pre _ hN) aw_b_X1_quotient nw_X0_60 aw_s_X1_quotient aw_i_X1 ⟨rfl, rfl⟩ 3 (by decide +kernel) rfl ⟨by decide, by decide⟩ hl.1 rfl (Nat.le_of_ble_eq_true rfl) dX0_slope_55 ⟨by decide, by decide⟩ ?_
    rw [← hV]
    exact rt_i C hr hk dX0_slope_58 rfl
  · rw [if_pos (Classical.not_not.mp h1)] at hV
    refine i_const C dX0_slope_16 ?_
    refine lv_iload_n C.1 C.2.1 dX0_slope_17 rfl (lv_at hl 1 rfl) ?_
    refine i_mul C dX0_slope_18 ?_
    refine lv_iload_n C.1 C.2.1 dX0_slope_19 rfl (lv_at hl 1 rfl) ?_
    refine i_mul C dX0_slope_20 ?_
    refine lv_aload_n C.1 C.2.1 dX0_slope_21 rfl (lv_at hl 2 rfl) ?_
    refine gf C hK hP 0 rfl rfl aw_uX0 1 (by decide) aw_f_X0_15 rfl dX0_slope_22 ?_
    refine i_add C dX0_slope_25 ?_
    refine i_const C dX0_slope_26 ?_
    refine lv_iload C.1 C.2.1 dX0_slope_27 (lv_at hl 0 rfl) ?_
    refine i_mul C dX0_slope_29 ?_
    refine lv_aload_n C.1 C.2.1 dX0_slope_30 rfl (lv_at hl 2 rfl) ?_
    refine gf C hK hP 0 rfl rfl aw_uX0 0 (by decide) aw_f_X0_9 rfl dX0_slope_31 ?_
    have q2 : (3 * (x : Int)) * x = 3 * ((x * x : Nat) : Int) := by rw [Int.mul_assoc]; rfl
    refine ca_SN (As := [.int (ii (((3 * (x : Int)) * (x : Int)) + (a : Int))), .int (ii (2 * (y : Int))), .int (ii (p : Int))]) (rest := []) C (c_X1_quotient l (3 * (x : Int) * x + a) (2 * (y : Int)) p ⟨by omega, by omega⟩ ⟨by omega, by omega⟩ ⟨by omega, by omega⟩) hN (pcn_pre _ hN) aw_b_X1_quotient nw_X0_60 aw_s_X1_quotient aw_i_X1 ⟨rfl, rfl⟩ 3 (by decide +kernel) rfl ⟨by decide, by decide⟩ hl.1 rfl (Nat.le_of_ble_eq_true rfl) dX0_slope_34 ⟨by decide, by decide⟩ ?_
    rw [← hV]
    exact rt_i C hr hk dX0_slope_37 rfl
/-- a point's int -/
def ecd (P : Option (Nat × Nat)) : Int := match P with
  | none => -1
  | some q => (q.1 : Int) * 65536 + (q.2 : Int)
def plF (p a : Nat) (P Q : Option (Nat × Nat)) : Option (Nat × Nat) := match P, Q with
  | none, Q => Q
  | some P, none => some P
  | some (x, y), some (u, v) => if x = u ∧ y + v = p then none else
    some (((slF p a x y u v * slF p a x y u v - x - u) % p).toNat, ((slF p a x y u v * ((x : Int) - (slF p a x y u v * slF p a x y u v - x - u) % p) - y) % p).toNat)
def sm2 (p : Nat) (P : Option (Nat × Nat)) : Prop := ∀ x y, P = some (x, y) → x < p ∧ y < p
theorem sm2_none (p : Nat) : sm2 p none := fun x y h => by cases h
theorem plF_sm {p a : Nat} (hp : 0 < p) {P Q : Option (Nat × Nat)} (hP : sm2 p P) (hQ : sm2 p Q) : sm2 p (plF p a P Q) := by
  intro w z h
  rcases P with _ | ⟨x, y⟩
  · exact hQ w z h
  · rcases Q with _ | ⟨u, v⟩
    · exact hP w z h
    · have h : (if x = u ∧ y + v = p then none else some (((slF p a x y u v * slF p a x y u v - x - u) % p).toNat, ((slF p a x y u v * ((x : Int) - (slF p a x y u v * slF p a x y u v - x - u) % p) - y) % p).toNat)) = some (w, z) := h
      split at h
      · cases h
      · cases h
        have e1 := em_b (slF p a x y u v * slF p a x y u v - x - u) (show (0 : Int) < p by omega)
        have e2 := em_b (slF p a x y u v * ((x : Int) - (slF p a x y u v * slF p a x y u v - x - u) % p) - y) (show (0 : Int) < p by omega)
        omega
theorem ecd_b {p : Nat} (hp : p ≤ 1021) {P : Option (Nat × Nat)} (h : sm2 p P) : -1 ≤ ecd P ∧ ecd P ≤ 66912255 := by
  rcases P with _ | ⟨x, y⟩
  · show (-1 : Int) ≤ -1 ∧ (-1 : Int) ≤ 66912255
    omega
  · obtain ⟨h1, h2⟩ := h x y rfl
    show -1 ≤ (x : Int) * 65536 + (y : Int) ∧ (x : Int) * 65536 + (y : Int) ≤ 66912255
    omega
theorem slF_b {p : Nat} (hp : 0 < p) (a x y u v : Nat) : 0 ≤ slF p a x y u v ∧ slF p a x y u v < p := by
  unfold slF
  split
  · exact qtF_b _ _ hp
  · exact qtF_b _ _ hp
set_option maxRecDepth 100000 in
set_option maxHeartbeats 4000000 in
theorem c_X0_plus (l : Launch) (D : va_G) (h0 p a b n : Nat) (g : Int) (hp : 5 ≤ p ∧ p ≤ 1021) (ha : a < p) (hb : b < p) (P Q : Option (Nat × Nat)) (hP0 : sm2 p P) (hQ0 : sm2 p Q) : Met l yX0_plus (Cond.code yX0_plus cX0_plus 7 (some .int) :: AW) ({ frames := 3, cells := 0, slots := 0, locals := 70 } : Room) (PcW D [(h0, .inr (0, [.int (ii (p : Int)), .int (ii (a : Int)), .int (ii (b : Int)), .int (ii (n : Int)), .int (ii g)]))] [] [.ref h0, .int (ii (ecd P)), .int (ii (ecd Q))]) (QcV (some (.int (ii (ecd (plF p a P Q)))))) 0 0 (fun _ => False) := by
  refine mt_W (by decide +kernel) (Nat.le_of_ble_eq_true rfl) ?_
  intro P0 E0 S0 M0 A0 B0 T0 K0 C hN hP hK hr hk ls hl
  have hl : lv_has ls 7 [(0, .ref h0), (1, .int (ii (ecd P))), (2, .int (ii (ecd Q)))] := hl
  have bP := ecd_b hp.2 hP0
  have bQ := ecd_b hp.2 hQ0
  rcases P with _ | ⟨x, y⟩
  · have hl : lv_has ls 7 [(0, .ref h0), (1, .int (ii (-1))), (2, .int (ii (ecd Q)))] := hl
    refine lv_iload_n C.1 C.2.1 dX0_plus_0 rfl (lv_at hl 1 rfl) ?_
    refine i_const C dX0_plus_1 ?_
    refine i_icmp_ne (tgt := 7) C dX0_plus_2 (by decide) ⟨by omega, by omega⟩ ⟨by omega, by omega⟩ (fun h1 => ?_) (fun h1 => ?_)
    · exact absurd rfl h1
    · refine lv_iload_n C.1 C.2.1 dX0_plus_5 rfl (lv_at hl 2 rfl) ?_
      exact rt_i C hr hk dX0_plus_6 rfl
  · rcases Q with _ | ⟨u, v⟩
    · have hl : lv_has ls 7 [(0, .ref h0), (1, .int (ii ((x : Int) * 65536 + (y : Int)))), (2, .int (ii (-1)))] := hl
      obtain ⟨x0, y0⟩ := hP0 x y rfl
      refine lv_iload_n C.1 C.2.1 dX0_plus_0 rfl (lv_at hl 1 rfl) ?_
      refine i_const C dX0_plus_1 ?_
      refine i_icmp_ne (tgt := 7) C dX0_plus_2 (by decide) ⟨by omega, by omega⟩ ⟨by omega, by omega⟩ (fun h1 => ?_) (fun h1 => ?_)
      · refine lv_iload_n C.1 C.2.1 dX0_plus_7 rfl (lv_at hl 2 rfl) ?_
        refine i_const C dX0_plus_8 ?_
        refine i_icmp_ne (tgt := 14) C dX0_plus_9 (by decide) ⟨by omega, by omega⟩ ⟨by omega, by omega⟩ (fun h2 => ?_) (fun h2 => ?_)
        · exact absurd rfl h2
        · refine lv_iload_n C.1 C.2.1 dX0_plus_12 rfl (lv_at hl 1 rfl) ?_
          exact rt_i C hr hk dX0_plus_13 rfl
      · omega
    · have hl : lv_has ls 7 [(0, .ref h0), (1, .int (ii ((x : Int) * 65536 + (y : Int)))), (2, .int (ii ((u : Int) * 65536 + (v : Int))))] := hl
      obtain ⟨x0, y0⟩ := hP0 x y rfl
      obtain ⟨u0, v0⟩ := hQ0 u v rfl
      have sb := slF_b (show 0 < p by omega) a x y u v
      generalize hV : ecd (plF p a (some (x, y)) (some (u, v))) = V
      have hV : ecd (if x = u ∧ y + v = p then none else some (((slF p a x y u v * slF p a x y u v - x - u) % p).toNat, ((slF p a x y u v * ((x : Int) - (slF p a x y u v * slF p a x y u v - x - u) % p) - y) % p).toNat)) = V := hV
      refine lv_iload_n C.1 C.2.1 dX0_plus_0 rfl (lv_at hl 1 rfl) ?_
      refine i_const C dX0_plus_1 ?_
      refine i_icmp_ne (tgt := 7) C dX0_plus_2 (by decide) ⟨by omega, by omega⟩ ⟨by omega, by omega⟩ (fun h1 => ?_) (fun h1 => ?_)
      · refine lv_iload_n C.1 C.2.1 dX0_plus_7 rfl (lv_at hl 2 rfl) ?_
        refine i_const C dX0_plus_8 ?_
        refine i_icmp_ne (tgt := 14) C dX0_plus_9 (by decide) ⟨by omega, by omega⟩ ⟨by omega, by omega⟩ (fun h2 => ?_) (fun h2 => ?_)
        · refine lv_iload_n C.1 C.2.1 dX0_plus_14 rfl (lv_at hl 1 rfl) ?_
          refine ca_SN (As := [.int (ii ((x : Int) * 65536 + (y : Int)))]) (rest := []) C (c_X1_xOf l (x : Int) (y : Int) ⟨by omega, by omega⟩ ⟨by omega, by omega⟩) hN (pcn_pre _ hN) aw_b_X1_xOf nw_X0_48 aw_s_X1_xOf aw_i_X1 ⟨rfl, rfl⟩ 1 (by decide +kernel) rfl ⟨by decide, by decide⟩ hl.1 rfl (Nat.le_of_ble_eq_true rfl) dX0_plus_15 ⟨by decide, by decide⟩ ?_
          refine lv_istore_n C.1 C.2.1 dX0_plus_18 rfl hl (by decide) rfl (fun ls hl => ?_)
          have hl : lv_has ls 7 [(3, .int (ii (x : Int))), (0, .ref h0), (1, .int (ii ((x : Int) * 65536 + (y : Int)))), (2, .int (ii ((u : Int) * 65536 + (v : Int))))] := hl
          refine lv_iload_n C.1 C.2.1 dX0_plus_19 rfl (lv_at hl 3 rfl) ?_
          refine ca_SN (As := [.int (ii ((u : Int) * 65536 + (v : Int)))]) (rest := []) C (c_X1_xOf l (u : Int) (v : Int) ⟨by omega, by omega⟩ ⟨by omega, by omega⟩) hN (pcn_pre _ hN) aw_b_X1_xOf nw_X0_48 aw_s_X1_xOf aw_i_X1 ⟨rfl, rfl⟩ 1 (by decide +kernel) rfl ⟨by decide, by decide⟩ hl.1 rfl (Nat.le_of_ble_eq_true rfl) dX0_plus_20 ⟨by decide, by decide⟩ ?_
          refine lv_istore C.1 C.2.1 dX0_plus_23 hl (by decide) rfl (fun ls hl => ?_)
          have hl : lv_has ls 7 [(4, .int (ii (u : Int))), (3, .int (ii (x : Int))), (0, .ref h0), (1, .int (ii ((x : Int) * 65536 + (y : Int)))), (2, .int (ii ((u : Int) * 65536 + (v : Int))))] := hl
          refine lv_iload_n C.1 C.2.1 dX0_plus_25 rfl (lv_at hl 1 rfl) ?_
          refine lv_iload C.1 C.2.1 dX0_plus_26 (lv_at hl 0 rfl) ?_
          refine i_icmp_ne (tgt := 49) C dX0_plus_28 (by decide) ⟨by omega, by omega⟩ ⟨by omega, by omega⟩ (fun h3 => ?_) (fun h3 => ?_)
          · rw [if_neg (show ¬ (x = u ∧ y + v = p) by omega)] at hV
            refine lv_aload_n C.1 C.2.1 dX0_plus_49 rfl (lv_at hl 2 rfl) ?_
            refine lv_iload_n C.1 C.2.1 dX0_plus_50 rfl (lv_at hl 3 rfl) ?_
            refine lv_iload_n C.1 C.2.1 dX0_plus_51 rfl (lv_at hl 4 rfl) ?_
            refine ca_V (As := [.int (ii ((x : Int) * 65536 + (y : Int))), .int (ii ((u : Int) * 65536 + (v : Int)))]) (rest := []) C (c_X0_slope l D h0 p a b n g hp ha hb x y u v x0 y0 u0 v0) (pcw_preV [.int (ii ((x : Int) * 65536 + (y : Int))), .int (ii ((u : Int) * 65536 + (v : Int)))] hN hP hK 0 (ci := 0) rfl rfl) aw_b_X0_slope aw_m_X0_55 aw_v_X0_slope aw_i_X0 aw_e_X0_slope ⟨rfl, rfl⟩ 2 (by decide +kernel) rfl ⟨by decide, by decide⟩ hl.1 rfl (Nat.le_of_ble_eq_true rfl) dX0_plus_52 ⟨by decide, by decide⟩ ?_
            generalize slF p a x y u v = k at sb hV ⊢
            have s1 := mu_b sb.1 (show k ≤ 1099 by omega) sb.1 (show k ≤ 1099 by omega)
            refine lv_istore C.1 C.2.1 dX0_plus_55 hl (by decide) rfl (fun ls hl => ?_)
            have hl : lv_has ls 7 [(5, .int (ii k)), (4, .int (ii (u : Int))), (3, .int (ii (x : Int))), (0, .ref h0), (1, .int (ii ((x : Int) * 65536 + (y : Int)))), (2, .int (ii ((u : Int) * 65536 + (v : Int))))] := hl
            refine lv_iload C.1 C.2.1 dX0_plus_57 (lv_at hl 0 rfl) ?_
            refine lv_iload C.1 C.2.1 dX0_plus_59 (lv_at hl 0 rfl) ?_
            refine i_mul C dX0_plus_61 ?_
            refine lv_iload_n C.1 C.2.1 dX0_plus_62 rfl (lv_at hl 2 rfl) ?_
            refine i_sub C dX0_plus_63 ?_
            refine lv_iload C.1 C.2.1 dX0_plus_64 (lv_at hl 1 rfl) ?_
            refine i_sub C dX0_plus_66 ?_
            refine lv_aload_n C.1 C.2.1 dX0_plus_67 rfl (lv_at hl 3 rfl) ?_
            refine gf C hK hP 0 rfl rfl aw_uX0 0 (by decide) aw_f_X0_9 rfl dX0_plus_68 ?_
            refine ca_S (As := [.int (ii (((k * k) - (x : Int)) - (u : Int))), .int (ii (p : Int))]) (rest := []) C (c_floorModI l (k * k - (x : Int) - (u : Int)) (p : Int) ⟨by omega, by omega⟩ ⟨by omega, by omega⟩) (pcn_pre _ hN) aw_b_JM_floorModI aw_m_X0_58 aw_s_JM_floorModI aw_i_JM ⟨rfl, rfl⟩ 2 (by decide +kernel) rfl ⟨by decide, by decide⟩ hl.1 rfl (Nat.le_of_ble_eq_true rfl) dX0_plus_71 ⟨by decide, by decide⟩ ?_
            have s2 := em_b (k * k - (x : Int) - (u : Int)) (show (0 : Int) < p by omega)
            generalize (k * k - (x : Int) - (u : Int)) % (p : Int) = w at s2 hV ⊢
            have s3 : -1208900 ≤ k * ((x : Int) - w) ∧ k * ((x : Int) - w) ≤ 1208900 := by
              rw [Int.mul_sub]
              have z1 := mu_b sb.1 (show k ≤ 1099 by omega) (show (0 : Int) ≤ (x : Int) by omega) (show (x : Int) ≤ 1099 by omega)
              have z2 := mu_b sb.1 (show k ≤ 1099 by omega) s2.1 (show w ≤ 1099 by omega)
              omega
            refine lv_istore C.1 C.2.1 dX0_plus_74 hl (by decide) rfl (fun ls hl => ?_)
            have hl : lv_has ls 7 [(6, .int (ii w)), (5, .int (ii k)), (4, .int (ii (u : Int))), (3, .int (ii (x : Int))), (0, .ref h0), (1, .int (ii ((x : Int) * 65536 + (y : Int)))), (2, .int (ii ((u : Int) * 65536 + (v : Int))))] := hl
            refine lv_iload C.1 C.2.1 dX0_plus_76 (lv_at hl 0 rfl) ?_
            refine lv_iload C.1 C.2.1 dX0_plus_78 (lv_at hl 1 rfl) ?_
            refine lv_iload_n C.1 C.2.1 dX0_plus_80 rfl (lv_at hl 3 rfl) ?_
            refine lv_iload C.1 C.2.1 dX0_plus_81 (lv_at hl 0 rfl) ?_
            refine i_sub C dX0_plus_83 ?_
            refine i_mul C dX0_plus_84 ?_
            refine lv_iload_n C.1 C.2.1 dX0_plus_85 rfl (lv_at hl 5 rfl) ?_
            refine ca_SN (As := [.int (ii ((x : Int) * 65536 + (y : Int)))]) (rest := [.int (ii (k * ((x : Int) - w))), .int (ii w)]) C (c_X1_yOf l (x : Int) (y : Int) ⟨by omega, by omega⟩ ⟨by omega, by omega⟩) hN (pcn_pre _ hN) aw_b_X1_yOf nw_X0_52 aw_s_X1_yOf aw_i_X1 ⟨rfl, rfl⟩ 1 (by decide +kernel) rfl ⟨by decide, by decide⟩ hl.1 rfl (Nat.le_of_ble_eq_true rfl) dX0_plus_86 ⟨by decide, by decide⟩ ?_
            refine i_sub C dX0_plus_89 ?_
            refine lv_aload_n C.1 C.2.1 dX0_plus_90 rfl (lv_at hl 4 rfl) ?_
            refine gf C hK hP 0 rfl rfl aw_uX0 0 (by decide) aw_f_X0_9 rfl dX0_plus_91 ?_
            refine ca_S (As := [.int (ii ((k * ((x : Int) - w)) - (y : Int))), .int (ii (p : Int))]) (rest := [.int (ii w)]) C (c_floorModI l (k * ((x : Int) - w) - (y : Int)) (p : Int) ⟨by omega, by omega⟩ ⟨by omega, by omega⟩) (pcn_pre _ hN) aw_b_JM_floorModI aw_m_X0_58 aw_s_JM_floorModI aw_i_JM ⟨rfl, rfl⟩ 2 (by decide +kernel) rfl ⟨by decide, by decide⟩ hl.1 rfl (Nat.le_of_ble_eq_true rfl) dX0_plus_94 ⟨by decide, by decide⟩ ?_
            have s4 := em_b (k * ((x : Int) - w) - (y : Int)) (show (0 : Int) < p by omega)
            generalize (k * ((x : Int) - w) - (y : Int)) % (p : Int) = z at s4 hV ⊢
            refine ca_SN (As := [.int (ii w), .int (ii z)]) (rest := []) C (c_X1_pointAt l w z) hN (pcn_pre _ hN) aw_b_X1_pointAt nw_X0_39 aw_s_X1_pointAt aw_i_X1 ⟨rfl, rfl⟩ 2 (by decide +kernel) rfl ⟨by decide, by decide⟩ hl.1 rfl (Nat.le_of_ble_eq_true rfl) dX0_plus_97 ⟨by decide, by decide⟩ ?_
            have hV : ((w.toNat : Int)) * 65536 + (z.toNat : Int) = V := hV
            exact rt_i C hr hk dX0_plus_100 (by rw [← hV, Int.toNat_of_nonneg s2.1, Int.toNat_of_nonneg s4.1])
          · refine lv_iload_n C.1 C.2.1 dX0_plus_31 rfl (lv_at hl 3 rfl) ?_
            refine ca_SN (As := [.int (ii ((x : Int) * 65536 + (y : Int)))]) (rest := []) C (c_X1_yOf l (x : Int) (y : Int) ⟨by omega, by omega⟩ ⟨by omega, by omega⟩) hN (pcn_pre _ hN) aw_b_X1_yOf nw_X0_52 aw_s_X1_yOf aw_i_X1 ⟨rfl, rfl⟩ 1 (by decide +kernel) rfl ⟨by decide, by decide⟩ hl.1 rfl (Nat.le_of_ble_eq_true rfl) dX0_plus_32 ⟨by decide, by decide⟩ ?_
            refine lv_iload_n C.1 C.2.1 dX0_plus_35 rfl (lv_at hl 4 rfl) ?_
            refine ca_SN (As := [.int (ii ((u : Int) * 65536 + (v : Int)))]) (rest := [.int (ii (y : Int))]) C (c_X1_yOf l (u : Int) (v : Int) ⟨by omega, by omega⟩ ⟨by omega, by omega⟩) hN (pcn_pre _ hN) aw_b_X1_yOf nw_X0_52 aw_s_X1_yOf aw_i_X1 ⟨rfl, rfl⟩ 1 (by decide +kernel) rfl ⟨by decide, by decide⟩ hl.1 rfl (Nat.le_of_ble_eq_true rfl) dX0_plus_36 ⟨by decide, by decide⟩ ?_
            refine i_add C dX0_plus_39 ?_
            refine lv_aload_n C.1 C.2.1 dX0_plus_40 rfl (lv_at hl 2 rfl) ?_
            refine gf C hK hP 0 rfl rfl aw_uX0 0 (by decide) aw_f_X0_9 rfl dX0_plus_41 ?_
            refine i_icmp_ne (tgt := 49) C dX0_plus_44 (by decide) ⟨by omega, by omega⟩ ⟨by omega, by omega⟩ (fun h4 => ?_) (fun h4 => ?_)
            · rw [if_neg (show ¬ (x = u ∧ y + v = p) by omega)] at hV
              refine lv_aload_n C.1 C.2.1 dX0_plus_49 rfl (lv_at hl 2 rfl) ?_
              refine lv_iload_n C.1 C.2.1 dX0_plus_50 rfl (lv_at hl 3 rfl) ?_
              refine lv_iload_n C.1 C.2.1 dX0_plus_51 rfl (lv_at hl 4 rfl) ?_
              refine ca_V (As := [.int (ii ((x : Int) * 65536 + (y : Int))), .int (ii ((u : Int) * 65536 + (v : Int)))]) (rest := []) C (c_X0_slope l D h0 p a b n g hp ha hb x y u v x0 y0 u0 v0) (pcw_preV [.int (ii ((x : Int) * 65536 + (y : Int))), .int (ii ((u : Int) * 65536 + (v : Int)))] hN hP hK 0 (ci := 0) rfl rfl) aw_b_X0_slope aw_m_X0_55 aw_v_X0_slope aw_i_X0 aw_e_X0_slope ⟨rfl, rfl⟩ 2 (by decide +kernel) rfl ⟨by decide, by decide⟩ hl.1 rfl (Nat.le_of_ble_eq_true rfl) dX0_plus_52 ⟨by decide, by decide⟩ ?_
              generalize slF p a x y u v = k at sb hV ⊢
              have s1 := mu_b sb.1 (show k ≤ 1099 by omega) sb.1 (show k ≤ 1099 by omega)
              refine lv_istore C.1 C.2.1 dX0_plus_55 hl (by decide) rfl (fun ls hl => ?_)
              have hl : lv_has ls 7 [(5, .int (ii k)), (4, .int (ii (u : Int))), (3, .int (ii (x : Int))), (0, .ref h0), (1, .int (ii ((x : Int) * 65536 + (y : Int)))), (2, .int (ii ((u : Int) * 65536 + (v : Int))))] := hl
              refine lv_iload C.1 C.2.1 dX0_plus_57 (lv_at hl 0 rfl) ?_
              refine lv_iload C.1 C.2.1 dX0_plus_59 (lv_at hl 0 rfl) ?_
              refine i_mul C dX0_plus_61 ?_
              refine lv_iload_n C.1 C.2.1 dX0_plus_62 rfl (lv_at hl 2 rfl) ?_
              refine i_sub C dX0_plus_63 ?_
              refine lv_iload C.1 C.2.1 dX0_plus_64 (lv_at hl 1 rfl) ?_
              refine i_sub C dX0_plus_66 ?_
              refine lv_aload_n C.1 C.2.1 dX0_plus_67 rfl (lv_at hl 3 rfl) ?_
              refine gf C hK hP 0 rfl rfl aw_uX0 0 (by decide) aw_f_X0_9 rfl dX0_plus_68 ?_
              refine ca_S (As := [.int (ii (((k * k) - (x : Int)) - (u : Int))), .int (ii (p : Int))]) (rest := []) C (c_floorModI l (k * k - (x : Int) - (u : Int)) (p : Int) ⟨by omega, by omega⟩ ⟨by omega, by omega⟩) (pcn_pre _ hN) aw_b_JM_floorModI aw_m_X0_58 aw_s_JM_floorModI aw_i_JM ⟨rfl, rfl⟩ 2 (by decide +kernel) rfl ⟨by decide, by decide⟩ hl.1 rfl (Nat.le_of_ble_eq_true rfl) dX0_plus_71 ⟨by decide, by decide⟩ ?_
              have s2 := em_b (k * k - (x : Int) - (u : Int)) (show (0 : Int) < p by omega)
              generalize (k * k - (x : Int) - (u : Int)) % (p : Int) = w at s2 hV ⊢
              have s3 : -1208900 ≤ k * ((x : Int) - w) ∧ k * ((x : Int) - w) ≤ 1208900 := by
                rw [Int.mul_sub]
                have z1 := mu_b sb.1 (show k ≤ 1099 by omega) (show (0 : Int) ≤ (x : Int) by omega) (show (x : Int) ≤ 1099 by omega)
                have z2 := mu_b sb.1 (show k ≤ 1099 by omega) s2.1 (show w ≤ 1099 by omega)
                omega
              refine lv_istore C.1 C.2.1 dX0_plus_74 hl (by decide) rfl (fun ls hl => ?_)
              have hl : lv_has ls 7 [(6, .int (ii w)), (5, .int (ii k)), (4, .int (ii (u : Int))), (3, .int (ii (x : Int))), (0, .ref h0), (1, .int (ii ((x : Int) * 65536 + (y : Int)))), (2, .int (ii ((u : Int) * 65536 + (v : Int))))] := hl
              refine lv_iload C.1 C.2.1 dX0_plus_76 (lv_at hl 0 rfl) ?_
              refine lv_iload C.1 C.2.1 dX0_plus_78 (lv_at hl 1 rfl) ?_
              refine lv_iload_n C.1 C.2.1 dX0_plus_80 rfl (lv_at hl 3 rfl) ?_
              refine lv_iload C.1 C.2.1 dX0_plus_81 (lv_at hl 0 rfl) ?_
              refine i_sub C dX0_plus_83 ?_
              refine i_mul C dX0_plus_84 ?_
              refine lv_iload_n C.1 C.2.1 dX0_plus_85 rfl (lv_at hl 5 rfl) ?_
              refine ca_SN (As := [.int (ii ((x : Int) * 65536 + (y : Int)))]) (rest := [.int (ii (k * ((x : Int) - w))), .int (ii w)]) C (c_X1_yOf l (x : Int) (y : Int) ⟨by omega, by omega⟩ ⟨by omega, by omega⟩) hN (pcn_pre _ hN) aw_b_X1_yOf nw_X0_52 aw_s_X1_yOf aw_i_X1 ⟨rfl, rfl⟩ 1 (by decide +kernel) rfl ⟨by decide, by decide⟩ hl.1 rfl (Nat.le_of_ble_eq_true rfl) dX0_plus_86 ⟨by decide, by decide⟩ ?_
              refine i_sub C dX0_plus_89 ?_
              refine lv_aload_n C.1 C.2.1 dX0_plus_90 rfl (lv_at hl 4 rfl) ?_
              refine gf C hK hP 0 rfl rfl aw_uX0 0 (by decide) aw_f_X0_9 rfl dX0_plus_91 ?_
              refine ca_S (As := [.int (ii ((k * ((x : Int) - w)) - (y : Int))), .int (ii (p : Int))]) (rest := [.int (ii w)]) C (c_floorModI l (k * ((x : Int) - w) - (y : Int)) (p : Int) ⟨by omega, by omega⟩ ⟨by omega, by omega⟩) (pcn_pre _ hN) aw_b_JM_floorModI aw_m_X0_58 aw_s_JM_floorModI aw_i_JM ⟨rfl, rfl⟩ 2 (by decide +kernel) rfl ⟨by decide, by decide⟩ hl.1 rfl (Nat.le_of_ble_eq_true rfl) dX0_plus_94 ⟨by decide, by decide⟩ ?_
              have s4 := em_b (k * ((x : Int) - w) - (y : Int)) (show (0 : Int) < p by omega)
              generalize (k * ((x : Int) - w) - (y : Int)) % (p : Int) = z at s4 hV ⊢
              refine ca_SN (As := [.int (ii w), .int (ii z)]) (rest := []) C (c_X1_pointAt l w z) hN (pcn_pre _ hN) aw_b_X1_pointAt nw_X0_39 aw_s_X1_pointAt aw_i_X1 ⟨rfl, rfl⟩ 2 (by decide +kernel) rfl ⟨by decide, by decide⟩ hl.1 rfl (Nat.le_of_ble_eq_true rfl) dX0_plus_97 ⟨by decide, by decide⟩ ?_
              have hV : ((w.toNat : Int)) * 65536 + (z.toNat : Int) = V := hV
              exact rt_i C hr hk dX0_plus_100 (by rw [← hV, Int.toNat_of_nonneg s2.1, Int.toNat_of_nonneg s4.1])
            · rw [if_pos (show x = u ∧ y + v = p by omega)] at hV
              refine i_const C dX0_plus_47 ?_
              have hV : (-1 : Int) = V := hV
              exact rt_i C hr hk dX0_plus_48 (by rw [← hV])
        · omega
      · omega
