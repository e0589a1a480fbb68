theorem nI_nn {n : Nat} (h : n < 1000) : (nI n < 0) = False := eq_false (nI_pos (by omega))
theorem nI_cl {n : Nat} (h : n < 1000) : (nI n).toNatClampNeg = n := nI_clamp (by omega)
theorem nI_lit (n : Nat) : (OfNat.ofNat n : Int32) = nI n := rfl
theorem nI_ix {a n m : Nat} : nI a * nI n + nI m = nI (a * n + m) := by rw [pk_mul, nI_add]
theorem nI_lt0 {n N : Nat} (h : n < N) (hN : N < 1000) : (nI n < 0 ∨ N ≤ n) = False := eq_false (fun q => q.elim (fun q => nI_pos (by omega) q) (fun q => by omega))
/-- the reference's frames -/
def PUSH (t : Nat) (a c : Int32) (w : fm_T) : fm_T := fm_u (fm_u (fm_u (fm_u (fm_u w 22 t a) 23 t c) 24 t 0) 25 t 0) 0 32 (nI (t + 1))
theorem push_eq {t : Nat} {w : fm_T} (ht : t < 200) (h : w 0 32 = nI t) (a c : Int32) : f_X5_push a c w = some (0, PUSH t a c w) := by
  have e1 : nI t + 1 = nI (t + 1) := nI_1 t
  simp [f_X5_push, PUSH, fm_u_at, h, nI_cl (show t < 1000 by omega), nI_nn (show t < 1000 by omega), ht, e1]
def FAILS (f n : Int32) (w : fm_T) : fm_T := fm_u (fm_u (fm_u (fm_u w 0 34 f) 0 35 n) 0 36 f) 0 37 n
theorem fails_eq (f n : Int32) (w : fm_T) : f_X5_fails f n w = some (0, FAILS f n w) := rfl
def GIVES (x : Int32) (w : fm_T) : fm_T := fm_u (fm_u w 0 34 0) 0 33 x
theorem gives_eq (x : Int32) (w : fm_T) : f_X5_gives x w = some (0, GIVES x w) := rfl
def MARK (a c : Int32) (w : fm_T) : fm_T := if w 0 23 = 0 then w else if 200 ≤ w 0 22 then w else
  fm_u (fm_u (fm_u w 20 (2 * (w 0 22).toNatClampNeg) a) 20 (2 * (w 0 22).toNatClampNeg + 1) c) 0 22 (w 0 22 + 1)
theorem mark_eq {n : Nat} {w : fm_T} (hn : n ≤ 200) (h : w 0 22 = nI n) (a c : Int32) : f_X5_mark a c w = some (0, MARK a c w) := by
  unfold f_X5_mark MARK
  by_cases h1 : w 0 23 = 0
  · rw [if_pos h1, if_pos h1]
  · rw [if_neg h1, if_neg h1]
    by_cases h2 : 200 ≤ w 0 22
    · rw [if_pos h2, if_pos h2]
    · have hn2 : n < 200 := by
        rcases Nat.lt_or_ge n 200 with q | q
        · exact q
        · exact absurd (by rw [h]; exact nI_le q (by omega)) h2
      have e2 : (2 : Int32) * nI n = nI (2 * n) := pk_mul 2 n
      have e3 : nI (2 * n) + 1 = nI (2 * n + 1) := nI_1 _
      rw [if_neg h2, if_neg h2]
      simp [fm_u_at, h, e2, e3, nI_cl (show 2 * n < 1000 by omega), nI_cl (show 2 * n + 1 < 1000 by omega), nI_cl (show n < 1000 by omega), nI_nn (show 2 * n < 1000 by omega), nI_nn (show 2 * n + 1 < 1000 by omega), show ¬ 400 ≤ 2 * n by omega, show ¬ 400 ≤ 2 * n + 1 by omega]
/-- the class's outcomes and traces -/
def FAIL (t : Nat) (f n : Int32) (v : fm_T) : fm_T := fm_u (fm_u (fm_u (fm_u (fm_u v t 0 0) t 1 f) t 2 n) t 3 f) t 4 n
theorem fail_eq (t : Nat) (f n : Int32) (v : fm_T) : f_X1_fail t f n v = some (0, FAIL t f n v) := rfl
def SUCC (t : Nat) (x : Int32) (v : fm_T) : fm_T := fm_u (fm_u (fm_u (fm_u (fm_u v t 0 x) t 1 0) t 2 0) t 3 0) t 4 0
theorem succ_eq (t : Nat) (x : Int32) (v : fm_T) : f_X1_succeed t x v = some (1, SUCC t x v) := rfl
def FSTART (t : Nat) (m : Int32) (v : fm_T) : fm_T := fm_u (fm_u v t 1 5) t 2 m
theorem fstart_eq (t : Nat) (m : Int32) (v : fm_T) : f_X1_failStart t m v = some (0, FSTART t m v) := rfl
def COPY (t t2 : Nat) (v : fm_T) : fm_T := fm_u (fm_u (fm_u (fm_u (fm_u v t 0 (v t2 0)) t 1 (v t2 1)) t 2 (v t2 2)) t 3 (v t2 3)) t 4 (v t2 4)
theorem copy_eq {t t2 : Nat} (h : t ≠ t2) (v : fm_T) : f_X1_copy t t2 v = some (0, COPY t t2 v) := by
  simp [f_X1_copy, COPY, fm_u_at, Ne.symm h]
def NOTE (k : Nat) (a c : Int32) (v : fm_T) : fm_T := if 200 ≤ v (ev k) 2 then v else
  fm_u (fm_u (fm_u v (ev k + 1) (v (ev k) 2).toNatClampNeg a) (ev k + 2) (v (ev k) 2).toNatClampNeg c) (ev k) 2 (v (ev k) 2 + 1)
theorem note_eq {k n : Nat} {v : fm_T} (hn : n ≤ 200) (h : v (ev k) 2 = nI n) (a c : Int32) : f_X3_note k a c v = some (0, NOTE k a c v) := by
  unfold f_X3_note NOTE
  by_cases h2 : 200 ≤ v (ev k) 2
  · rw [if_pos h2, if_pos h2]
  · have hn2 : n < 200 := by
      rcases Nat.lt_or_ge n 200 with q | q
      · exact q
      · exact absurd (by rw [h]; exact nI_le q (by omega)) h2
    rw [if_neg h2, if_neg h2]
    simp [fm_u_at, h, nI_cl (show n < 1000 by omega), nI_nn (show n < 1000 by omega), hn2]
theorem clear_eq (k : Nat) (v : fm_T) : f_X3_clear k v = some (0, fm_u v (ev k) 2 0) := rfl
/-- tests -/
theorem in_eq (x a c : Int32) (w : fm_T) : f_X5_in x a c w = some (if x < a ∨ c < x then 0 else 1, w) := by
  unfold f_X5_in
  by_cases h1 : x < a
  · simp [h1]
  · by_cases h2 : c < x <;> simp [h1, h2]
/-- an Int32 is below 0, or at least n, or one of 0 .. n-1 -/
theorem in0_in {n N : Nat} (h : n < N) (hN : N < 1000) : ¬ (nI n < 0 ∨ nI N - 1 < nI n) := by
  intro q
  rcases q with q | q
  · exact nI_pos (by omega) q
  · obtain ⟨N1, rfl⟩ : ∃ N1, N = N1 + 1 := ⟨N - 1, by omega⟩
    rw [nI_pred] at q
    exact nI_nlt (show n ≤ N1 by omega) (by omega) q
theorem in0_out {N : Nat} {x : Int32} (hN : N < 1000) (h : x < 0 ∨ nI N ≤ x) : x < 0 ∨ nI N - 1 < x := by
  rcases h with h | h
  · exact Or.inl h
  · rcases Nat.eq_zero_or_pos N with rfl | hp
    · refine Or.inr ?_
      have e : nI 0 - 1 = -1 := by decide
      rw [e]
      have e0 : nI 0 = 0 := rfl
      rw [e0] at h
      have h1 := Int32.le_iff_toInt_le.mp h
      refine Int32.lt_iff_toInt_lt.mpr ?_
      have z1 : (-1 : Int32).toInt = -1 := by decide
      have z0 : (0 : Int32).toInt = 0 := by decide
      omega
    · obtain ⟨N1, rfl⟩ : ∃ N1, N = N1 + 1 := ⟨N - 1, by omega⟩
      rw [nI_pred]
      refine Or.inr ?_
      have h1 := Int32.le_iff_toInt_le.mp h
      refine Int32.lt_iff_toInt_lt.mpr ?_
      rw [nI_toInt (by omega)] at h1 ⊢
      omega
theorem isModule_in {M m : Nat} {w : fm_T} (h : w 0 0 = nI M) (hM : M < 1000) (hm : m < M) : f_X5_isModule (nI m) w = some (1, w) := by
  simp only [f_X5_isModule, in_eq, h, Option.bind_some]
  rw [if_neg (in0_in hm hM)]
  simp
theorem isModule_out {M : Nat} {x : Int32} {w : fm_T} (h : w 0 0 = nI M) (hM : M < 1000) (hx : x < 0 ∨ nI M ≤ x) : f_X5_isModule x w = some (0, w) := by
  simp only [f_X5_isModule, in_eq, h, Option.bind_some]
  rw [if_pos (in0_out hM hx)]
  simp
theorem hasModule_in {M m : Nat} {v : fm_T} (h : v 1 0 = nI M) (hM : M < 1000) (hm : m < M) : f_X2_hasModule (nI m) v = some (1, v) := by
  simp only [f_X2_hasModule, h]
  rw [if_neg (nI_pos (by omega)), if_neg (nI_ge hm (by omega))]
theorem hasModule_out {M : Nat} {x : Int32} {v : fm_T} (h : v 1 0 = nI M) (hx : x < 0 ∨ nI M ≤ x) : f_X2_hasModule x v = some (0, v) := by
  simp only [f_X2_hasModule, h]
  by_cases h1 : x < 0
  · rw [if_pos h1]
  · rw [if_neg h1, if_pos (hx.resolve_left h1)]
theorem hasConst_in {M m : Nat} {v : fm_T} (h : v 1 8 = nI M) (hM : M < 1000) (hm : m < M) : f_X2_hasConstant (nI m) v = some (1, v) := by
  simp only [f_X2_hasConstant, h]
  rw [if_neg (nI_pos (by omega)), if_neg (nI_ge hm (by omega))]
theorem hasConst_out {M : Nat} {x : Int32} {v : fm_T} (h : v 1 8 = nI M) (hx : x < 0 ∨ nI M ≤ x) : f_X2_hasConstant x v = some (0, v) := by
  simp only [f_X2_hasConstant, h]
  by_cases h1 : x < 0
  · rw [if_pos h1]
  · rw [if_neg h1, if_pos (hx.resolve_left h1)]
/-- any argument: out of 0 .. n-1, or one of them -/
theorem ix3 (x : Int32) (n : Nat) (hn : n < 1000) : (x < 0 ∨ nI n ≤ x) ∨ ∃ j : Nat, j < n ∧ x = nI j := by
  rcases pk_ix x (n := n) (by omega) with h | h | h
  · exact Or.inl (Or.inl h)
  · exact Or.inl (Or.inr h)
  · exact Or.inr h
