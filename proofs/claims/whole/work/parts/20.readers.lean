theorem chk {n N : Nat} (h : n < N) (hN : N < 1000) : ¬ (nI n < 0 ∨ N ≤ (nI n).toNatClampNeg) := nI_in h (by omega)
theorem isLd_in {k : Nat} {w : fm_T} (hk : k < 3) : f_X5_isLoader (nI k) w = some (1, w) := by
  unfold f_X5_isLoader
  rw [in02, in_in (a := 2) (by decide) (by omega), Option.bind_some]
  dsimp only
  rw [if_pos (Or.inr rfl)]
theorem isLd_out {x : Int32} {w : fm_T} (hx : x < 0 ∨ nI 3 ≤ x) : f_X5_isLoader x w = some (0, w) := by
  unfold f_X5_isLoader
  rw [in02, in_out (a := 2) (by decide) w hx, Option.bind_some]
  dsimp only
  rw [if_pos (Or.inl rfl)]
theorem ldC_in {k : Nat} (hk : k < 3) : 0 ≤ nI k ∧ nI k < 3 := ⟨nI_pos' (by omega), nI_lt (b := 3) hk (by decide)⟩
theorem ldC_out {x : Int32} (hx : x < 0 ∨ nI 3 ≤ x) : ¬ (0 ≤ x ∧ x < 3) := by
  intro q
  rcases hx with h | h
  · exact absurd q.1 (Int32.not_le.mpr h)
  · rw [n_3] at h
    exact absurd q.2 (Int32.not_lt.mpr h)
theorem B_value {v w : fm_T} (h : RR v w) : Both f_X4_value f_X5_value v w := by
  obtain ⟨-, -, -, c, -⟩ := id h
  exact Both.same h (r := v 0 4) rfl (by unfold f_X5_value; rw [c.1])
theorem B_fault {v w : fm_T} (h : RR v w) (x : Int32) : Both (f_X4_fault x) (f_X5_fault x) v w := by
  obtain ⟨-, -, -, c, -⟩ := id h
  obtain ⟨c1, c2, c3, c4⟩ := c.2.2.1
  rcases ix3 x 4 (by decide) with hx | ⟨j, hj, rfl⟩
  · refine Both.same (r := -1) h ?_ ?_
    · have y0 : ¬ x = 0 := out_ne (j := 0) (by decide) hx (by decide)
      have y1 : ¬ x = 1 := out_ne (j := 1) (by decide) hx (by decide)
      have y2 : ¬ x = 2 := out_ne (j := 2) (by decide) hx (by decide)
      have y3 : ¬ x = 3 := out_ne (j := 3) (by decide) hx (by decide)
      unfold f_X4_fault
      rw [if_neg y0, if_neg y1, if_neg y2, if_neg y3]
    · unfold f_X5_fault
      rw [← n_3, in_out (a := 3) (by decide) w hx, Option.bind_some]
      dsimp only
      rw [if_pos rfl]
  · have R : f_X5_fault (nI j) w = some (w 21 j, w) := by
      unfold f_X5_fault
      rw [← n_3, in_in (a := 3) (by decide) (by omega), Option.bind_some]
      dsimp only
      rw [if_neg n10, if_neg (chk hj (by decide)), nI_cl (by omega)]
    have e0 : nI 0 = 0 := nI_0
    have q10 : ¬ (1 : Int32) = 0 := by decide
    have q20 : ¬ (2 : Int32) = 0 := by decide
    have q21 : ¬ (2 : Int32) = 1 := by decide
    have q30 : ¬ (3 : Int32) = 0 := by decide
    have q31 : ¬ (3 : Int32) = 1 := by decide
    have q32 : ¬ (3 : Int32) = 2 := by decide
    rcases (by omega : j = 0 ∨ j = 1 ∨ j = 2 ∨ j = 3) with rfl | rfl | rfl | rfl
    · exact Both.same h (r := v 240 1) (by unfold f_X4_fault; rw [e0, if_pos rfl]) (by rw [R, c1])
    · exact Both.same h (r := v 240 2) (by unfold f_X4_fault; rw [n_1, if_neg q10, if_pos rfl]) (by rw [R, c2])
    · exact Both.same h (r := v 240 3) (by unfold f_X4_fault; rw [n_2, if_neg q20, if_neg q21, if_pos rfl]) (by rw [R, c3])
    · exact Both.same h (r := v 240 4) (by unfold f_X4_fault; rw [n_3, if_neg q30, if_neg q31, if_neg q32, if_pos rfl]) (by rw [R, c4])
theorem B_state {v w : fm_T} (h : RR v w) (x y : Int32) : Both (f_X4_state x y) (f_X5_state x y) v w := by
  obtain ⟨⟨M, K, ⟨hM, hK, a1, a2, a3, a4⟩, b1, b2, b3, b4, b5⟩, L, -⟩ := id h
  rcases ix3 x 3 (by decide) with hx | ⟨k, hk, rfl⟩
  · exact Both.same (r := -1) h (by unfold f_X4_state; rw [if_neg (ldC_out hx)]) (by unfold f_X5_state; rw [isLd_out hx, Option.bind_some]; dsimp only; rw [if_pos rfl])
  · rcases ix3 y M (by omega) with hy | ⟨m, hm, rfl⟩
    · refine Both.same (r := -1) h ?_ ?_
      · unfold f_X4_state
        rw [if_pos (ldC_in hk), hasModule_out a1 hy, Option.bind_some]
        dsimp only
        rw [if_pos rfl]
      · unfold f_X5_state
        rw [isLd_in hk, Option.bind_some]
        dsimp only
        rw [if_neg n10, isModule_out a2 (by omega) hy, Option.bind_some]
        dsimp only
        rw [if_pos rfl]
    · obtain ⟨s, s1, s2, s3, -⟩ := (L k hk).1 m (by omega)
      have ix : (12 : Int32) * nI k + nI m = nI (12 * k + m) := nI_ix (a := 12)
      refine Both.same (r := nI s) h ?_ ?_
      · unfold f_X4_state
        rw [if_pos (ldC_in hk), hasModule_in a1 (by omega) hm, Option.bind_some]
        dsimp only
        rw [if_neg n10, if_neg (chk (by omega) (by decide)), nI_cl (show m < 1000 by omega), nI_cl (show k < 1000 by omega), s2]
      · unfold f_X5_state
        rw [isLd_in hk, Option.bind_some]
        dsimp only
        rw [if_neg n10, isModule_in a2 (by omega) hm, Option.bind_some]
        dsimp only
        rw [if_neg n10, ix, if_neg (chk (by omega) (by decide)), nI_cl (by omega), s3]
theorem B_kept {v w : fm_T} (h : RR v w) (x y : Int32) : Both (f_X4_kept x y) (f_X5_kept x y) v w := by
  obtain ⟨⟨M, K, ⟨hM, hK, a1, a2, a3, a4⟩, b1, b2, b3, b4, b5⟩, L, -⟩ := id h
  rcases ix3 x 3 (by decide) with hx | ⟨k, hk, rfl⟩
  · exact Both.same (r := -1) h (by unfold f_X4_kept; rw [if_neg (ldC_out hx)]) (by unfold f_X5_kept; rw [isLd_out hx, Option.bind_some]; dsimp only; rw [if_pos rfl])
  · rcases ix3 y K (by omega) with hy | ⟨c, hc, rfl⟩
    · refine Both.same (r := -1) h ?_ ?_
      · unfold f_X4_kept
        rw [if_pos (ldC_in hk), hasConst_out a3 hy, Option.bind_some]
        dsimp only
        rw [if_pos rfl]
      · unfold f_X5_kept
        rw [isLd_in hk, Option.bind_some]
        dsimp only
        rw [if_neg n10, a4, inlit0 (in0_out (by omega) hy), Option.bind_some]
        dsimp only
        rw [if_pos rfl]
    · have ix : (40 : Int32) * nI k + nI c = nI (40 * k + c) := nI_ix (a := 40)
      have ck := nI_cl (show k < 1000 by omega)
      have cc := nI_cl (show c < 1000 by omega)
      have F : f_X4_kept (nI k) (nI c) v = (if v (bo k + 14) c = 2 then (if v (bo k + 17 + c) 1 = 0 then some (1, v) else some (10 + v (bo k + 17 + c) 1, v)) else some (0, v)) := by
        unfold f_X4_kept
        rw [if_pos (ldC_in hk), hasConst_in a3 (by omega) hc, Option.bind_some]
        dsimp only
        rw [if_neg n10, ck]
        unfold f_X0_tellKept
        rw [if_neg (chk (show c < 40 by omega) (by decide)), cc]
        by_cases h1 : v (bo k + 14) c = 2
        · by_cases h2 : v (bo k + 17 + c) 1 = 0 <;> simp [h1, h2]
        · simp [h1]
      have G : f_X5_kept (nI k) (nI c) w = (if w 15 (40 * k + c) = 2 then some (1, w) else if w 15 (40 * k + c) = 3 then some (10 + w 16 (40 * k + c), w) else some (0, w)) := by
        unfold f_X5_kept
        rw [isLd_in hk, Option.bind_some]
        dsimp only
        rw [if_neg n10, a4, inlit (in0_in hc (by omega)), Option.bind_some]
        dsimp only
        rw [if_neg n10, ix, if_neg (chk (by omega) (by decide)), nI_cl (by omega)]
      have d02 : ¬ (0 : Int32) = 2 := by decide
      have d03 : ¬ (0 : Int32) = 3 := by decide
      have d12 : ¬ (1 : Int32) = 2 := by decide
      have d13 : ¬ (1 : Int32) = 3 := by decide
      have d32 : ¬ (3 : Int32) = 2 := by decide
      rcases (L k hk).2.1 c (by omega) with ⟨g1, g2⟩ | ⟨g1, g2⟩ | ⟨g1, g2, g3, g4⟩ | ⟨g1, ⟨f, f0, f8, g2, g3⟩, g4, g5, -⟩
      · exact Both.same (r := 0) h (by rw [F, g1, if_neg d02]) (by rw [G, g2, if_neg d02, if_neg d03])
      · exact Both.same (r := 0) h (by rw [F, g1, if_neg d12]) (by rw [G, g2, if_neg d12, if_neg d13])
      · exact Both.same (r := 1) h (by rw [F, g1, if_pos rfl, g2, if_pos rfl]) (by rw [G, g3, if_pos rfl])
      · have fz : ¬ nI f = 0 := nI_ne0 f0 (by omega)
        exact Both.same (r := 10 + nI f) h (by rw [F, g1, if_pos rfl, g2, if_neg fz]) (by rw [G, g4, if_neg d32, if_pos rfl, g3])
theorem B_row {v w : fm_T} (h : RR v w) (x y z : Int32) : Both (f_X4_row x y z) (f_X5_row x y z) v w := by
  obtain ⟨⟨M, K, ⟨hM, hK, a1, a2, a3, a4⟩, b1, b2, b3, b4, b5⟩, L, -⟩ := id h
  rcases ix3 x 3 (by decide) with hx | ⟨k, hk, rfl⟩
  · exact Both.same (r := -1) h (by unfold f_X4_row; rw [if_neg (ldC_out hx)]) (by unfold f_X5_row; rw [isLd_out hx, Option.bind_some]; dsimp only; rw [if_pos rfl])
  · rcases ix3 y M (by omega) with hy | ⟨m, hm, rfl⟩
    · refine Both.same (r := -1) h ?_ ?_
      · unfold f_X4_row
        rw [if_pos (ldC_in hk), hasModule_out a1 hy, Option.bind_some]
        dsimp only
        rw [if_pos rfl]
      · unfold f_X5_row
        rw [isLd_in hk, Option.bind_some]
        dsimp only
        rw [if_neg n10, isModule_out a2 (by omega) hy, Option.bind_some]
        dsimp only
        rw [if_pos rfl]
    · obtain ⟨sz, z1, z2, z3⟩ := b1 m (by omega)
      have cm := nI_cl (show m < 1000 by omega)
      have ck := nI_cl (show k < 1000 by omega)
      have G0 : f_X5_row (nI k) (nI m) z w = ((f_X5_in z 0 ((w 1 m) - 1) w).bind fun q9 => (if q9.1 = 0 then some ((-3), q9.2) else (if (12 * nI k) + nI m < 0 ∨ 60 ≤ ((12 * nI k) + nI m).toNatClampNeg then none else (if q9.2 13 (((12 * nI k) + nI m).toNatClampNeg) = 0 then (if (8 * nI m) + z < 0 ∨ 96 ≤ ((8 * nI m) + z).toNatClampNeg then none else some (q9.2 2 (((8 * nI m) + z).toNatClampNeg), q9.2)) else (if ((96 * nI k) + (8 * nI m)) + z < 0 ∨ 480 ≤ (((96 * nI k) + (8 * nI m)) + z).toNatClampNeg then none else some (q9.2 14 ((((96 * nI k) + (8 * nI m)) + z).toNatClampNeg), q9.2)))))) := by
        unfold f_X5_row
        rw [isLd_in hk, Option.bind_some]
        dsimp only
        rw [if_neg n10, isModule_in a2 (by omega) hm, Option.bind_some]
        dsimp only
        rw [if_neg n10, if_neg (chk (show m < 12 by omega) (by decide)), cm]
      have F0 : f_X4_row (nI k) (nI m) z v = ((f_X2_hasItem (nI m) z v).bind fun q8 => (if q8.1 = 0 then some ((-3), q8.2) else ((f_X0_tellItem k (nI m) z q8.2).bind fun q11 => some (q11.1, q11.2)))) := by
        unfold f_X4_row
        rw [if_pos (ldC_in hk), hasModule_in a1 (by omega) hm, Option.bind_some]
        dsimp only
        rw [if_neg n10, ck]
      have H0 : f_X2_hasItem (nI m) z v = (if z < 0 then some (0, v) else if nI sz ≤ z then some (0, v) else some (1, v)) := by
        unfold f_X2_hasItem
        rw [hasModule_in a1 (by omega) hm, Option.bind_some]
        dsimp only
        rw [if_neg n10, if_neg (chk (show m < 12 by omega) (by decide))]
        simp only [cm, z2]
      rcases ix3 z sz (by omega) with hz | ⟨i, hi, rfl⟩
      · refine Both.same (r := -3) h ?_ ?_
        · rw [F0, H0]
          by_cases q : z < 0
          · simp [q]
          · simp [q, hz.resolve_left q]
        · rw [G0, z3, inlit0 (in0_out (by omega) hz), Option.bind_some]
          dsimp only
          rw [if_pos rfl]
      · obtain ⟨s, s1, s2, s3, s4⟩ := (L k hk).1 m (by omega)
        have ci := nI_cl (show i < 1000 by omega)
        have i1 : (12 : Int32) * nI k + nI m = nI (12 * k + m) := nI_ix (a := 12)
        have i2 : (8 : Int32) * nI m + nI i = nI (8 * m + i) := nI_ix (a := 8)
        have i3 : (96 : Int32) * nI k + (8 : Int32) * nI m + nI i = nI (96 * k + 8 * m + i) := by
          have e8 : (8 : Int32) * nI m = nI (8 * m) := pk_mul 8 m
          have e9 : (96 : Int32) * nI k = nI (96 * k) := pk_mul 96 k
          rw [e8, e9, nI_add, nI_add]
        have F : f_X4_row (nI k) (nI m) (nI i) v = some (if v (bo k) m = 0 then v (4 + m) i else v (bo k + 2 + m) i, v) := by
          rw [F0, H0, if_neg (nI_pos (by omega)), if_neg (nI_ge hi (by omega)), Option.bind_some]
          dsimp only
          rw [if_neg n10]
          unfold f_X0_tellItem
          rw [if_neg (chk (show m < 12 by omega) (by decide)), cm, ci]
          by_cases q : v (bo k) m = 0 <;> simp [q, nI_nn (show i < 1000 by omega), show ¬ 8 ≤ i by omega]
        have G : f_X5_row (nI k) (nI m) (nI i) w = some (if w 13 (12 * k + m) = 0 then w 2 (8 * m + i) else w 14 (96 * k + 8 * m + i), w) := by
          rw [G0, z3, inlit (in0_in hi (by omega)), Option.bind_some]
          dsimp only
          rw [if_neg n10, i1, i2, i3, if_neg (chk (by omega) (by decide)), if_neg (chk (by omega) (by decide)), if_neg (chk (by omega) (by decide)), nI_cl (by omega), nI_cl (by omega), nI_cl (by omega)]
          by_cases q : w 13 (12 * k + m) = 0
          · rw [if_pos q, if_pos q]
          · rw [if_neg q, if_neg q]
        rw [s2] at F
        rw [s3] at G
        by_cases q : s = 0
        · subst q
          rw [nI_0, if_pos rfl] at F G
          rw [b2 m i (by omega) (by omega)] at G
          exact Both.same h F G
        · have q0 : ¬ nI s = 0 := nI_ne0 (by omega) (by omega)
          rw [if_neg q0] at F G
          rw [s4 q i (by omega)] at G
          exact Both.same h F G
theorem B_trace {v w : fm_T} (h : RR v w) (x y : Int32) : Both (f_X4_trace x y) (f_X5_trace x y) v w := by
  obtain ⟨-, -, ⟨⟨n, n1, n2, n3, n4⟩, -⟩, -⟩ := id h
  have n2' : v (ev 0) 2 = nI n := n2
  rcases ix3 y 2 (by decide) with hy | ⟨j, hj, rfl⟩
  · refine Both.same (r := -1) h ?_ ?_
    · have y0 : ¬ y = 0 := out_ne (j := 0) (by decide) hy (by decide)
      have y1 : ¬ y = 1 := out_ne (j := 1) (by decide) hy (by decide)
      unfold f_X4_trace
      rw [if_neg y0, if_neg y1]
    · unfold f_X5_trace
      rw [← n_1, in_out (a := 1) (by decide) w hy, Option.bind_some]
      dsimp only
      rw [if_pos rfl]
  · have G0 : f_X5_trace x (nI j) w = ((f_X5_in x 0 (nI n - 1) w).bind fun q5 => (if q5.1 = 0 then some ((-3), q5.2) else (if (2 * x) + nI j < 0 ∨ 400 ≤ ((2 * x) + nI j).toNatClampNeg then none else some (q5.2 20 (((2 * x) + nI j).toNatClampNeg), q5.2)))) := by
      have T : f_X5_in (nI j) 0 1 w = some (1, w) := by
        have := in_in (a := 1) (j := j) (by decide) (by omega) w
        rwa [n_1] at this
      unfold f_X5_trace
      rw [T, Option.bind_some]
      dsimp only
      rw [if_neg n10, n3]
    have F0 : f_X4_trace x (nI j) v = (if x < 0 then some ((-3), v) else (if x < nI n then (if x < 0 ∨ 200 ≤ x.toNatClampNeg then none else some (v (63 + j) x.toNatClampNeg, v)) else some ((-3), v))) := by
      unfold f_X4_trace
      rw [n2']
      rcases (by omega : j = 0 ∨ j = 1) with rfl | rfl
      · rw [nI_0, if_pos rfl]
        rfl
      · rw [n_1, if_neg n10, if_pos rfl]
        rfl
    rcases ix3 x n (by omega) with hx | ⟨i, hi, rfl⟩
    · refine Both.same (r := -3) h ?_ ?_
      · rw [F0]
        by_cases q : x < 0
        · rw [if_pos q]
        · rw [if_neg q, if_neg (Int32.not_lt.mpr (hx.resolve_left q))]
      · rw [G0, inlit0 (in0_out (by omega) hx), Option.bind_some]
        dsimp only
        rw [if_pos rfl]
    · have ix : (2 : Int32) * nI i + nI j = nI (2 * i + j) := nI_ix (a := 2)
      refine Both.same (r := v (63 + j) i) h ?_ ?_
      · rw [F0, if_neg (nI_pos (by omega)), if_pos (nI_lt hi (by omega)), if_neg (chk (show i < 200 by omega) (by decide)), nI_cl (by omega)]
      · rw [G0, inlit (in0_in hi (by omega)), Option.bind_some]
        dsimp only
        rw [if_neg n10, ix, if_neg (chk (by omega) (by decide)), nI_cl (by omega)]
        rcases (by omega : j = 0 ∨ j = 1) with rfl | rfl
        · rw [Nat.add_zero, (n4 i hi).1]
        · rw [(n4 i hi).2]
theorem worked_eq (v : fm_T) : f_X4_countWorked v = some (0 + v (lo 0) 7 + v (lo 1) 7 + v (lo 2) 7, v) := by
  have s0 : f_X4_countWorked_4 1000 0 0 v = f_X4_countWorked_4 999 (0 + v (lo 0) 7) 1 v := by
    rw [show (1000 : Nat) = 999 + 1 from rfl, f_X4_countWorked_4_s, if_neg (by decide), if_neg (by decide)]
    rfl
  have s1 : f_X4_countWorked_4 999 (0 + v (lo 0) 7) 1 v = f_X4_countWorked_4 998 (0 + v (lo 0) 7 + v (lo 1) 7) 2 v := by
    rw [show (999 : Nat) = 998 + 1 from rfl, f_X4_countWorked_4_s, if_neg (by decide), if_neg (by decide)]
    rfl
  have s2 : f_X4_countWorked_4 998 (0 + v (lo 0) 7 + v (lo 1) 7) 2 v = f_X4_countWorked_4 997 (0 + v (lo 0) 7 + v (lo 1) 7 + v (lo 2) 7) 3 v := by
    rw [show (998 : Nat) = 997 + 1 from rfl, f_X4_countWorked_4_s, if_neg (by decide), if_neg (by decide)]
    rfl
  have s3 : f_X4_countWorked_4 997 (0 + v (lo 0) 7 + v (lo 1) 7 + v (lo 2) 7) 3 v = some (0 + v (lo 0) 7 + v (lo 1) 7 + v (lo 2) 7, v) := by
    rw [show (997 : Nat) = 996 + 1 from rfl, f_X4_countWorked_4_s, if_pos (by decide)]
  unfold f_X4_countWorked
  rw [s0, s1, s2, s3]
theorem B_told {v w : fm_T} (h : RR v w) (x : Int32) : Both (f_X4_told x) (f_X5_told x) v w := by
  obtain ⟨⟨M, K, ⟨hM, hK, a1, a2, a3, a4⟩, -⟩, -, ⟨⟨n, n1, n2, n3, n4⟩, -⟩, c, -⟩ := id h
  have n2' : v (ev 0) 2 = nI n := n2
  unfold Both f_X4_told f_X5_told
  by_cases h0 : x = 0
  · exact ⟨nI M, v, w, by rw [if_pos h0, a1], by rw [if_pos h0, a2], h⟩
  by_cases h1 : x = 1
  · exact ⟨nI K, v, w, by rw [if_neg h0, if_pos h1, a3], by rw [if_neg h0, if_pos h1, a4], h⟩
  by_cases h2 : x = 2
  · exact ⟨nI n, v, w, by rw [if_neg h0, if_neg h1, if_pos h2, n2'], by rw [if_neg h0, if_neg h1, if_pos h2, n3], h⟩
  by_cases h3 : x = 3
  · exact ⟨_, v, w, by rw [if_neg h0, if_neg h1, if_neg h2, if_pos h3, worked_eq, Option.bind_some], by rw [if_neg h0, if_neg h1, if_neg h2, if_pos h3, c.2.2.2], h⟩
  exact ⟨-1, v, w, by rw [if_neg h0, if_neg h1, if_neg h2, if_neg h3], by rw [if_neg h0, if_neg h1, if_neg h2, if_neg h3], h⟩
