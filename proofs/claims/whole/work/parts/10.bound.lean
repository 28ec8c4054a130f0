def hsL : List (Nat × Nat) := [(5, 2), (7, 3), (11, 2), (13, 2), (17, 3), (19, 2), (23, 5), (29, 2), (31, 3), (37, 2), (41, 3), (43, 2), (47, 5), (53, 2), (59, 2), (61, 2), (67, 2), (71, 7), (73, 5), (79, 3), (83, 2), (89, 3), (97, 5), (101, 2), (103, 3), (107, 2), (109, 2), (113, 3), (127, 3), (131, 2), (137, 3), (139, 2), (149, 2), (151, 3), (157, 2), (163, 2), (167, 5), (173, 2), (179, 2), (181, 2), (191, 7), (193, 5), (197, 2), (199, 3), (211, 2), (223, 3), (227, 2), (229, 2), (233, 3), (239, 7), (241, 7), (251, 2), (257, 3), (263, 5), (269, 2), (271, 3), (277, 2), (281, 3), (283, 2), (293, 2), (307, 2), (311, 11), (313, 5), (317, 2), (331, 2), (337, 5), (347, 2), (349, 2), (353, 3), (359, 7), (367, 3), (373, 2), (379, 2), (383, 5), (389, 2), (397, 2), (401, 3), (409, 7), (419, 2), (421, 2), (431, 7), (433, 5), (439, 3), (443, 2), (449, 3), (457, 5), (461, 2), (463, 3), (467, 2), (479, 13), (487, 3), (491, 2), (499, 2), (503, 5), (509, 2), (521, 3), (523, 2), (541, 2), (547, 2), (557, 2), (563, 2), (569, 3), (571, 2), (577, 5), (587, 2), (593, 3), (599, 7), (601, 7), (607, 3), (613, 2), (617, 3), (619, 2), (631, 3), (641, 3), (643, 2), (647, 5), (653, 2), (659, 2), (661, 2), (673, 5), (677, 2), (683, 2), (691, 2), (701, 2), (709, 2), (719, 11), (727, 3), (733, 2), (739, 2), (743, 5), (751, 3), (757, 2), (761, 3), (769, 7), (773, 2), (787, 2), (797, 2), (809, 3), (811, 2), (821, 2), (823, 3), (827, 2), (829, 2), (839, 11), (853, 2), (857, 3), (859, 2), (863, 5), (877, 2), (881, 3), (883, 2), (887, 5), (907, 2), (911, 7), (919, 3), (929, 3), (937, 5), (941, 2), (947, 2), (953, 3), (967, 3), (971, 2), (977, 3), (983, 5), (991, 3), (997, 2), (1009, 11), (1013, 2), (1019, 2), (1021, 2)]
set_option maxRecDepth 100000 in
theorem hsL_ok : ∀ q, q ∈ hsL → hsZ q.1 q.2 = 0 := List.forall_mem_cons.mpr ⟨hs_5, List.forall_mem_cons.mpr ⟨hs_7, List.forall_mem_cons.mpr ⟨hs_11, List.forall_mem_cons.mpr ⟨hs_13, List.forall_mem_cons.mpr ⟨hs_17, List.forall_mem_cons.mpr ⟨hs_19, List.forall_mem_cons.mpr ⟨hs_23, List.forall_mem_cons.mpr ⟨hs_29, List.forall_mem_cons.mpr ⟨hs_31, List.forall_mem_cons.mpr ⟨hs_37, List.forall_mem_cons.mpr ⟨hs_41, List.forall_mem_cons.mpr ⟨hs_43, List.forall_mem_cons.mpr ⟨hs_47, List.forall_mem_cons.mpr ⟨hs_53, List.forall_mem_cons.mpr ⟨hs_59, List.forall_mem_cons.mpr ⟨hs_61, List.forall_mem_cons.mpr ⟨hs_67, List.forall_mem_cons.mpr ⟨hs_71, List.forall_mem_cons.mpr ⟨hs_73, List.forall_mem_cons.mpr ⟨hs_79, List.forall_mem_cons.mpr ⟨hs_83, List.forall_mem_cons.mpr ⟨hs_89, List.forall_mem_cons.mpr ⟨hs_97, List.forall_mem_cons.mpr ⟨hs_101, List.forall_mem_cons.mpr ⟨hs_103, List.forall_mem_cons.mpr ⟨hs_107, List.forall_mem_cons.mpr ⟨hs_109, List.forall_mem_cons.mpr ⟨hs_113, List.forall_mem_cons.mpr ⟨hs_127, List.forall_mem_cons.mpr ⟨hs_131, List.forall_mem_cons.mpr ⟨hs_137, List.forall_mem_cons.mpr ⟨hs_139, List.forall_mem_cons.mpr ⟨hs_149, List.forall_mem_cons.mpr ⟨hs_151, List.forall_mem_cons.mpr ⟨hs_157, List.forall_mem_cons.mpr ⟨hs_163, List.forall_mem_cons.mpr ⟨hs_167, List.forall_mem_cons.mpr ⟨hs_173, List.forall_mem_cons.mpr ⟨hs_179, List.forall_mem_cons.mpr ⟨hs_181, List.forall_mem_cons.mpr ⟨hs_191, List.forall_mem_cons.mpr ⟨hs_193, List.forall_mem_cons.mpr ⟨hs_197, List.forall_mem_cons.mpr ⟨hs_199, List.forall_mem_cons.mpr ⟨hs_211, List.forall_mem_cons.mpr ⟨hs_223, List.forall_mem_cons.mpr ⟨hs_227, List.forall_mem_cons.mpr ⟨hs_229, List.forall_mem_cons.mpr ⟨hs_233, List.forall_mem_cons.mpr ⟨hs_239, List.forall_mem_cons.mpr ⟨hs_241, List.forall_mem_cons.mpr ⟨hs_251, List.forall_mem_cons.mpr ⟨hs_257, List.forall_mem_cons.mpr ⟨hs_263, List.forall_mem_cons.mpr ⟨hs_269, List.forall_mem_cons.mpr ⟨hs_271, List.forall_mem_cons.mpr ⟨hs_277, List.forall_mem_cons.mpr ⟨hs_281, List.forall_mem_cons.mpr ⟨hs_283, List.forall_mem_cons.mpr ⟨hs_293, List.forall_mem_cons.mpr ⟨hs_307, List.forall_mem_cons.mpr ⟨hs_311, List.forall_mem_cons.mpr ⟨hs_313, List.forall_mem_cons.mpr ⟨hs_317, List.forall_mem_cons.mpr ⟨hs_331, List.forall_mem_cons.mpr ⟨hs_337, List.forall_mem_cons.mpr ⟨hs_347, List.forall_mem_cons.mpr ⟨hs_349, List.forall_mem_cons.mpr ⟨hs_353, List.forall_mem_cons.mpr ⟨hs_359, List.forall_mem_cons.mpr ⟨hs_367, List.forall_mem_cons.mpr ⟨hs_373, List.forall_mem_cons.mpr ⟨hs_379, List.forall_mem_cons.mpr ⟨hs_383, List.forall_mem_cons.mpr ⟨hs_389, List.forall_mem_cons.mpr ⟨hs_397, List.forall_mem_cons.mpr ⟨hs_401, List.forall_mem_cons.mpr ⟨hs_409, List.forall_mem_cons.mpr ⟨hs_419, List.forall_mem_cons.mpr ⟨hs_421, List.forall_mem_cons.mpr ⟨hs_431, List.forall_mem_cons.mpr ⟨hs_433, List.forall_mem_cons.mpr ⟨hs_439, List.forall_mem_cons.mpr ⟨hs_443, List.forall_mem_cons.mpr ⟨hs_449, List.forall_mem_cons.mpr ⟨hs_457, List.forall_mem_cons.mpr ⟨hs_461, List.forall_mem_cons.mpr ⟨hs_463, List.forall_mem_cons.mpr ⟨hs_467, List.forall_mem_cons.mpr ⟨hs_479, List.forall_mem_cons.mpr ⟨hs_487, List.forall_mem_cons.mpr ⟨hs_491, List.forall_mem_cons.mpr ⟨hs_499, List.forall_mem_cons.mpr ⟨hs_503, List.forall_mem_cons.mpr ⟨hs_509, List.forall_mem_cons.mpr ⟨hs_521, List.forall_mem_cons.mpr ⟨hs_523, List.forall_mem_cons.mpr ⟨hs_541, List.forall_mem_cons.mpr ⟨hs_547, List.forall_mem_cons.mpr ⟨hs_557, List.forall_mem_cons.mpr ⟨hs_563, List.forall_mem_cons.mpr ⟨hs_569, List.forall_mem_cons.mpr ⟨hs_571, List.forall_mem_cons.mpr ⟨hs_577, List.forall_mem_cons.mpr ⟨hs_587, List.forall_mem_cons.mpr ⟨hs_593, List.forall_mem_cons.mpr ⟨hs_599, List.forall_mem_cons.mpr ⟨hs_601, List.forall_mem_cons.mpr ⟨hs_607, List.forall_mem_cons.mpr ⟨hs_613, List.forall_mem_cons.mpr ⟨hs_617, List.forall_mem_cons.mpr ⟨hs_619, List.forall_mem_cons.mpr ⟨hs_631, List.forall_mem_cons.mpr ⟨hs_641, List.forall_mem_cons.mpr ⟨hs_643, List.forall_mem_cons.mpr ⟨hs_647, List.forall_mem_cons.mpr ⟨hs_653, List.forall_mem_cons.mpr ⟨hs_659, List.forall_mem_cons.mpr ⟨hs_661, List.forall_mem_cons.mpr ⟨hs_673, List.forall_mem_cons.mpr ⟨hs_677, List.forall_mem_cons.mpr ⟨hs_683, List.forall_mem_cons.mpr ⟨hs_691, List.forall_mem_cons.mpr ⟨hs_701, List.forall_mem_cons.mpr ⟨hs_709, List.forall_mem_cons.mpr ⟨hs_719, List.forall_mem_cons.mpr ⟨hs_727, List.forall_mem_cons.mpr ⟨hs_733, List.forall_mem_cons.mpr ⟨hs_739, List.forall_mem_cons.mpr ⟨hs_743, List.forall_mem_cons.mpr ⟨hs_751, List.forall_mem_cons.mpr ⟨hs_757, List.forall_mem_cons.mpr ⟨hs_761, List.forall_mem_cons.mpr ⟨hs_769, List.forall_mem_cons.mpr ⟨hs_773, List.forall_mem_cons.mpr ⟨hs_787, List.forall_mem_cons.mpr ⟨hs_797, List.forall_mem_cons.mpr ⟨hs_809, List.forall_mem_cons.mpr ⟨hs_811, List.forall_mem_cons.mpr ⟨hs_821, List.forall_mem_cons.mpr ⟨hs_823, List.forall_mem_cons.mpr ⟨hs_827, List.forall_mem_cons.mpr ⟨hs_829, List.forall_mem_cons.mpr ⟨hs_839, List.forall_mem_cons.mpr ⟨hs_853, List.forall_mem_cons.mpr ⟨hs_857, List.forall_mem_cons.mpr ⟨hs_859, List.forall_mem_cons.mpr ⟨hs_863, List.forall_mem_cons.mpr ⟨hs_877, List.forall_mem_cons.mpr ⟨hs_881, List.forall_mem_cons.mpr ⟨hs_883, List.forall_mem_cons.mpr ⟨hs_887, List.forall_mem_cons.mpr ⟨hs_907, List.forall_mem_cons.mpr ⟨hs_911, List.forall_mem_cons.mpr ⟨hs_919, List.forall_mem_cons.mpr ⟨hs_929, List.forall_mem_cons.mpr ⟨hs_937, List.forall_mem_cons.mpr ⟨hs_941, List.forall_mem_cons.mpr ⟨hs_947, List.forall_mem_cons.mpr ⟨hs_953, List.forall_mem_cons.mpr ⟨hs_967, List.forall_mem_cons.mpr ⟨hs_971, List.forall_mem_cons.mpr ⟨hs_977, List.forall_mem_cons.mpr ⟨hs_983, List.forall_mem_cons.mpr ⟨hs_991, List.forall_mem_cons.mpr ⟨hs_997, List.forall_mem_cons.mpr ⟨hs_1009, List.forall_mem_cons.mpr ⟨hs_1013, List.forall_mem_cons.mpr ⟨hs_1019, List.forall_mem_cons.mpr ⟨hs_1021, (fun q h => absurd h List.not_mem_nil)⟩⟩⟩⟩⟩⟩⟩⟩⟩⟩⟩⟩⟩⟩⟩⟩⟩⟩⟩⟩⟩⟩⟩⟩⟩⟩⟩⟩⟩⟩⟩⟩⟩⟩⟩⟩⟩⟩⟩⟩⟩⟩⟩⟩⟩⟩⟩⟩⟩⟩⟩⟩⟩⟩⟩⟩⟩⟩⟩⟩⟩⟩⟩⟩⟩⟩⟩⟩⟩⟩⟩⟩⟩⟩⟩⟩⟩⟩⟩⟩⟩⟩⟩⟩⟩⟩⟩⟩⟩⟩⟩⟩⟩⟩⟩⟩⟩⟩⟩⟩⟩⟩⟩⟩⟩⟩⟩⟩⟩⟩⟩⟩⟩⟩⟩⟩⟩⟩⟩⟩⟩⟩⟩⟩⟩⟩⟩⟩⟩⟩⟩⟩⟩⟩⟩⟩⟩⟩⟩⟩⟩⟩⟩⟩⟩⟩⟩⟩⟩⟩⟩⟩⟩⟩⟩⟩⟩⟩⟩⟩⟩⟩⟩⟩⟩⟩⟩⟩⟩⟩
noncomputable def lkL (l : List (Nat × Nat)) (p : Nat) : Nat := List.rec (motive := fun _ => Nat) 0 (fun q _ ih => cond (Nat.beq q.1 p) q.2 ih) l
theorem lkL_c (q : Nat × Nat) (l : List (Nat × Nat)) (p : Nat) : lkL (q :: l) p = cond (Nat.beq q.1 p) q.2 (lkL l p) := rfl
theorem lkL_in : ∀ (l : List (Nat × Nat)) (p : Nat), lkL l p ≠ 0 → (p, lkL l p) ∈ l
  | [], p, h => absurd rfl h
  | q :: l, p, h => by
    rw [lkL_c] at h ⊢
    cases e : Nat.beq q.1 p with
    | true =>
      have e1 : q.1 = p := Nat.eq_of_beq_eq_true e
      show (p, q.2) ∈ q :: l
      rw [← e1]
      exact List.mem_cons_self
    | false =>
      rw [e] at h
      exact List.mem_cons_of_mem _ (lkL_in l p h)
noncomputable def hsW (p : Nat) : Nat := sm (fun d => cond (Nat.ble (Nat.mul (Nat.add d 2) (Nat.add d 2)) p) (cond (Nat.beq (Nat.mod p (Nat.add d 2)) 0) 1 0) 0) 30
theorem hsW_ok {p : Nat} (h : pr p) : hsW p = 0 := by
  apply Classical.byContradiction
  intro z
  obtain ⟨d, hd, e⟩ := sm_pos z
  have e : cond (Nat.ble ((d + 2) * (d + 2)) p) (cond (Nat.beq (p % (d + 2)) 0) 1 0) 0 ≠ 0 := e
  cases e1 : Nat.ble ((d + 2) * (d + 2)) p with
  | false => rw [e1] at e; exact e rfl
  | true =>
    rw [e1] at e
    cases e2 : Nat.beq (p % (d + 2)) 0 with
    | false => rw [e2] at e; exact e rfl
    | true => exact h.2 (d + 2) (by omega) (Nat.le_of_ble_eq_true e1) (Nat.eq_of_beq_eq_true e2)
noncomputable def hsV (p : Nat) : Nat := cond (Nat.beq (hsW p) 0) (cond (Nat.ble 1 (lkL hsL p)) (cond (Nat.ble p (lkL hsL p)) 1 0) 1) 0
theorem hsV_all : sk (fun i => hsV (Nat.add i 5)) 1017 = 0 := by decide +kernel
theorem cnt_le {p a b : Nat} (hp : pr p) (h5 : 5 ≤ p) (h1 : p ≤ 1021) (ha : a < p) (hb : b < p) : cnt p a b ≤ 1100 := by
  have z := hsV_all
  rw [sk_eq] at z
  have e := sm_none z (p - 5) (by omega)
  have e : hsV (p - 5 + 5) = 0 := e
  rw [Nat.sub_add_cancel h5] at e
  unfold hsV at e
  rw [hsW_ok hp] at e
  have e : cond (Nat.ble 1 (lkL hsL p)) (cond (Nat.ble p (lkL hsL p)) 1 0) 1 = 0 := e
  cases e1 : Nat.ble 1 (lkL hsL p) with
  | false => rw [e1] at e; cases e
  | true =>
    rw [e1] at e
    cases e2 : Nat.ble p (lkL hsL p) with
    | true => rw [e2] at e; cases e
    | false =>
      have l1 := Nat.le_of_ble_eq_true e1
      have l2 : lkL hsL p < p := by
        apply Nat.lt_of_not_le
        intro w
        rw [Nat.ble_eq_true_of_le w] at e2
        cases e2
      have hq := lkL_in hsL p (by omega)
      generalize lkL hsL p = g at l2 hq
      have hz := hsL_ok (p, g) hq
      simp only at hz
      exact hsZ_ok hp h1 l2 ha hb hz
