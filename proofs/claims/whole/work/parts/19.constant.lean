abbrev mb (x : Int32) : Prop := x < 0 ∨ nI 40 ≤ x
theorem mb_ok {x : Int32} (h : ¬ mb x) : ∃ j : Nat, j < 40 ∧ x = nI j := by
  rcases ix3 x 40 (by decide) with q | q
  · exact absurd q h
  · exact q
theorem mayBe_t {x : Int32} {v : fm_T} (h : mb x) : f_X2_mayBeConstant x v = some (0, v) := by rw [mayBe_eq, if_pos h]
theorem mayBe_f {x : Int32} {v : fm_T} (h : ¬ mb x) : f_X2_mayBeConstant x v = some (1, v) := by rw [mayBe_eq, if_neg h]
theorem in39_t {x : Int32} {w : fm_T} (h : mb x) : f_X5_in x 0 39 w = some (0, w) := by rw [in39_eq, if_pos h]
theorem in39_f {x : Int32} {w : fm_T} (h : ¬ mb x) : f_X5_in x 0 39 w = some (1, w) := by rw [in39_eq, if_neg h]
theorem inlit {x a c : Int32} {w : fm_T} (h : ¬ (x < a ∨ c < x)) : f_X5_in x a c w = some (1, w) := by rw [in_eq, if_neg h]
theorem inlit0 {x a c : Int32} {w : fm_T} (h : x < a ∨ c < x) : f_X5_in x a c w = some (0, w) := by rw [in_eq, if_pos h]
theorem n10 : ¬ (1 : Int32) = 0 := by decide
theorem b117_n {x1 y a b c f g : Int32} {w : fm_T} (h : y < 8 ∨ 10 < y) : f_X5_constant_117 x1 y a b c f g w = f_X5_constant_138 x1 y a b c f g w := by
  unfold f_X5_constant_117
  rw [inlit0 h, Option.bind_some]
  dsimp only
  rw [if_pos rfl]
theorem b117_y {x1 y a b c f g r : Int32} {w : fm_T} (h : ¬ (y < 8 ∨ 10 < y)) (hm : f_X5_isModule a w = some (r, w)) : f_X5_constant_117 x1 y a b c f g w = if r = 0 then some (-1, w) else f_X5_constant_138 x1 y a b c f g w := by
  unfold f_X5_constant_117
  rw [inlit h, Option.bind_some]
  dsimp only
  rw [if_neg n10, hm, Option.bind_some]
theorem b100_n {x1 y a b c f g : Int32} {w : fm_T} (h : ¬ y = 7) : f_X5_constant_100 x1 y a b c f g w = f_X5_constant_117 x1 y a b c f g w := by
  unfold f_X5_constant_100
  rw [if_neg h]
theorem b100_y {x1 y a b c f g r : Int32} {w : fm_T} (h : y = 7) (hm : f_X5_in c 0 39 w = some (r, w)) : f_X5_constant_100 x1 y a b c f g w = if r = 0 then some (-1, w) else f_X5_constant_117 x1 y a b c f g w := by
  unfold f_X5_constant_100
  rw [if_pos h, hm, Option.bind_some]
theorem b84_0 {x1 y a b c f : Int32} {w : fm_T} : f_X5_constant_84 x1 y a b c f 0 w = f_X5_constant_100 x1 y a b c f 0 w := by
  unfold f_X5_constant_84
  rw [if_pos rfl]
theorem b84_1 {x1 y a b c f r : Int32} {w : fm_T} (hm : f_X5_in b 0 39 w = some (r, w)) : f_X5_constant_84 x1 y a b c f 1 w = if r = 0 then some (-1, w) else f_X5_constant_100 x1 y a b c f 1 w := by
  unfold f_X5_constant_84
  rw [if_neg n10, hm, Option.bind_some]
theorem b51_0 {x1 y a b c g : Int32} {w : fm_T} (hM : f_X5_isModule x1 w = some (1, w)) (hk : ¬ (y < 0 ∨ 11 < y)) : f_X5_constant_51 x1 y a b c 0 g w = f_X5_constant_84 x1 y a b c 0 g w := by
  unfold f_X5_constant_51
  rw [hM, Option.bind_some, inlit hk, Option.bind_some]
  dsimp only
  rw [if_neg n10, if_neg n10, if_pos rfl]
theorem b51_1 {x1 y a b c g r : Int32} {w : fm_T} (hM : f_X5_isModule x1 w = some (1, w)) (hk : ¬ (y < 0 ∨ 11 < y)) (hm : f_X5_in a 0 39 w = some (r, w)) : f_X5_constant_51 x1 y a b c 1 g w = if r = 0 then some (-1, w) else f_X5_constant_84 x1 y a b c 1 g w := by
  unfold f_X5_constant_51
  rw [hM, Option.bind_some, inlit hk, Option.bind_some]
  dsimp only
  rw [if_neg n10, if_neg n10, if_neg n10, hm, Option.bind_some]
theorem b51_k {x1 y a b c f g : Int32} {w : fm_T} (hM : f_X5_isModule x1 w = some (1, w)) (hk : y < 0 ∨ 11 < y) : f_X5_constant_51 x1 y a b c f g w = some (-1, w) := by
  unfold f_X5_constant_51
  rw [hM, Option.bind_some, inlit0 hk, Option.bind_some]
  dsimp only
  rw [if_neg n10, if_pos rfl]
theorem b51_m {x1 y a b c f g : Int32} {w : fm_T} (hM : f_X5_isModule x1 w = some (0, w)) : f_X5_constant_51 x1 y a b c f g w = some (-1, w) := by
  unfold f_X5_constant_51
  rw [hM, Option.bind_some]
  dsimp only
  rw [if_pos rfl]
theorem b28_eq (x1 y a b c f : Int32) (w : fm_T) : f_X5_constant_28 x1 y a b c f w = f_X5_constant_51 x1 y a b c f (if y = 2 ∨ y = 3 ∨ y = 7 then 1 else 0) w := by
  unfold f_X5_constant_28
  by_cases h2 : y = 2
  · rw [if_pos h2, if_pos (Or.inl h2)]
  · rw [if_neg h2]
    by_cases h3 : y = 3
    · rw [if_pos h3, if_pos (Or.inr (Or.inl h3))]
    · rw [if_neg h3]
      by_cases h7 : y = 7
      · rw [if_pos h7, if_pos (Or.inr (Or.inr h7))]
      · rw [if_neg h7, if_neg (by rintro (q | q | q) <;> contradiction)]
theorem b0_eq (x1 y a b c : Int32) (w : fm_T) : f_X5_constant x1 y a b c w = f_X5_constant_28 x1 y a b c (if ¬ (y < 1 ∨ 5 < y) ∨ y = 7 ∨ y = 11 then 1 else 0) w := by
  unfold f_X5_constant
  by_cases h2 : y < 1 ∨ 5 < y
  · rw [inlit0 h2, Option.bind_some]
    dsimp only
    rw [if_pos rfl]
    by_cases h3 : y = 7
    · rw [if_pos h3, if_pos (Or.inr (Or.inl h3))]
    · rw [if_neg h3]
      by_cases h7 : y = 11
      · rw [if_pos h7, if_pos (Or.inr (Or.inr h7))]
      · rw [if_neg h7, if_neg (by rintro (q | q | q) <;> contradiction)]
  · rw [inlit h2, Option.bind_some]
    dsimp only
    rw [if_neg n10, if_pos (Or.inl h2)]
theorem isF_0 {a b c : Int32} {v : fm_T}  : f_X2_isFormula 0 a b c v = some (1, v) := by
  unfold f_X2_isFormula
  rw [if_neg (by decide), if_pos (by decide), if_neg (by decide), if_neg (by decide), if_neg (by decide), if_neg (by decide)]
  rw [if_pos (by decide), if_pos (by decide), if_pos (by decide)]
theorem isF_1 {a b c : Int32} {ra : Int32} {v : fm_T} (ha : f_X2_mayBeConstant a v = some (ra, v)) : f_X2_isFormula 1 a b c v = if ra = 0 then some (0, v) else some (1, v) := by
  unfold f_X2_isFormula
  rw [if_neg (by decide), if_pos (by decide), if_neg (by decide), if_neg (by decide), if_neg (by decide), if_neg (by decide)]
  rw [if_neg (by decide), ha, Option.bind_some]
  dsimp only
  by_cases h : ra = 0
  · rw [if_pos h, if_pos h]
  · rw [if_neg h, if_neg h, if_pos (by decide), if_pos (by decide)]
theorem isF_2 {a b c : Int32} {ra rb : Int32} {v : fm_T} (ha : f_X2_mayBeConstant a v = some (ra, v)) (hb : f_X2_mayBeConstant b v = some (rb, v)) : f_X2_isFormula 2 a b c v = if ra = 0 then some (0, v) else if rb = 0 then some (0, v) else some (1, v) := by
  unfold f_X2_isFormula
  rw [if_neg (by decide), if_pos (by decide), if_neg (by decide), if_neg (by decide), if_neg (by decide), if_neg (by decide)]
  rw [if_neg (by decide), ha, Option.bind_some]
  dsimp only
  by_cases h : ra = 0
  · rw [if_pos h, if_pos h]
  · rw [if_neg h, if_neg h, if_neg (by decide), hb, Option.bind_some]
    dsimp only
    by_cases g : rb = 0
    · rw [if_pos g, if_pos g]
    · rw [if_neg g, if_neg g, if_pos (by decide)]
theorem isF_3 {a b c : Int32} {ra rb : Int32} {v : fm_T} (ha : f_X2_mayBeConstant a v = some (ra, v)) (hb : f_X2_mayBeConstant b v = some (rb, v)) : f_X2_isFormula 3 a b c v = if ra = 0 then some (0, v) else if rb = 0 then some (0, v) else some (1, v) := by
  unfold f_X2_isFormula
  rw [if_neg (by decide), if_pos (by decide), if_neg (by decide), if_neg (by decide), if_neg (by decide), if_neg (by decide)]
  rw [if_neg (by decide), ha, Option.bind_some]
  dsimp only
  by_cases h : ra = 0
  · rw [if_pos h, if_pos h]
  · rw [if_neg h, if_neg h, if_neg (by decide), hb, Option.bind_some]
    dsimp only
    by_cases g : rb = 0
    · rw [if_pos g, if_pos g]
    · rw [if_neg g, if_neg g, if_pos (by decide)]
theorem isF_4 {a b c : Int32} {ra : Int32} {v : fm_T} (ha : f_X2_mayBeConstant a v = some (ra, v)) : f_X2_isFormula 4 a b c v = if ra = 0 then some (0, v) else some (1, v) := by
  unfold f_X2_isFormula
  rw [if_neg (by decide), if_pos (by decide), if_neg (by decide), if_neg (by decide), if_neg (by decide), if_neg (by decide)]
  rw [if_neg (by decide), ha, Option.bind_some]
  dsimp only
  by_cases h : ra = 0
  · rw [if_pos h, if_pos h]
  · rw [if_neg h, if_neg h, if_pos (by decide), if_pos (by decide)]
theorem isF_5 {a b c : Int32} {ra : Int32} {v : fm_T} (ha : f_X2_mayBeConstant a v = some (ra, v)) : f_X2_isFormula 5 a b c v = if ra = 0 then some (0, v) else some (1, v) := by
  unfold f_X2_isFormula
  rw [if_neg (by decide), if_pos (by decide), if_neg (by decide), if_neg (by decide), if_neg (by decide), if_neg (by decide)]
  rw [if_neg (by decide), ha, Option.bind_some]
  dsimp only
  by_cases h : ra = 0
  · rw [if_pos h, if_pos h]
  · rw [if_neg h, if_neg h, if_pos (by decide), if_pos (by decide)]
theorem isF_6 {a b c : Int32} {v : fm_T}  : f_X2_isFormula 6 a b c v = some (1, v) := by
  unfold f_X2_isFormula
  rw [if_neg (by decide), if_pos (by decide), if_neg (by decide), if_neg (by decide), if_neg (by decide), if_neg (by decide)]
  rw [if_pos (by decide), if_pos (by decide), if_pos (by decide)]
theorem isF_7 {a b c : Int32} {ra rb rc : Int32} {v : fm_T} (ha : f_X2_mayBeConstant a v = some (ra, v)) (hb : f_X2_mayBeConstant b v = some (rb, v)) (hc : f_X2_mayBeConstant c v = some (rc, v)) : f_X2_isFormula 7 a b c v = if ra = 0 then some (0, v) else if rb = 0 then some (0, v) else if rc = 0 then some (0, v) else some (1, v) := by
  unfold f_X2_isFormula
  rw [if_neg (by decide), if_pos (by decide), if_neg (by decide), if_neg (by decide), if_neg (by decide), if_neg (by decide)]
  rw [if_neg (by decide), ha, Option.bind_some]
  dsimp only
  by_cases h : ra = 0
  · rw [if_pos h, if_pos h]
  · rw [if_neg h, if_neg h, if_neg (by decide), hb, Option.bind_some]
    dsimp only
    by_cases g : rb = 0
    · rw [if_pos g, if_pos g]
    · rw [if_neg g, if_neg g, if_neg (by decide), hc, Option.bind_some]
theorem isF_8 {a b c r : Int32} {v : fm_T} (hm : f_X2_hasModule a v = some (r, v)) (hr : r = 0 ∨ r = 1) : f_X2_isFormula 8 a b c v = some (r, v) := by
  unfold f_X2_isFormula
  rw [if_neg (by decide), if_pos (by decide)]
  rw [if_pos rfl, hm, Option.bind_some]
  dsimp only
  rw [if_pos hr]
theorem isF_9 {a b c r : Int32} {v : fm_T} (hm : f_X2_hasModule a v = some (r, v)) (hr : r = 0 ∨ r = 1) : f_X2_isFormula 9 a b c v = some (r, v) := by
  unfold f_X2_isFormula
  rw [if_neg (by decide), if_pos (by decide)]
  rw [if_neg (by decide)]
  rw [if_pos rfl, hm, Option.bind_some]
  dsimp only
  rw [if_pos hr]
theorem isF_10 {a b c r : Int32} {v : fm_T} (hm : f_X2_hasModule a v = some (r, v)) (hr : r = 0 ∨ r = 1) : f_X2_isFormula 10 a b c v = some (r, v) := by
  unfold f_X2_isFormula
  rw [if_neg (by decide), if_pos (by decide)]
  rw [if_neg (by decide)]
  rw [if_neg (by decide)]
  rw [if_pos rfl, hm, Option.bind_some]
  dsimp only
  rw [if_pos hr]
theorem isF_11 {a b c : Int32} {ra : Int32} {v : fm_T} (ha : f_X2_mayBeConstant a v = some (ra, v)) : f_X2_isFormula 11 a b c v = if ra = 0 then some (0, v) else some (1, v) := by
  unfold f_X2_isFormula
  rw [if_neg (by decide), if_pos (by decide), if_neg (by decide), if_neg (by decide), if_neg (by decide), if_neg (by decide)]
  rw [if_neg (by decide), ha, Option.bind_some]
  dsimp only
  by_cases h : ra = 0
  · rw [if_pos h, if_pos h]
  · rw [if_neg h, if_neg h, if_pos (by decide), if_pos (by decide)]
theorem isF_out {y a b c : Int32} {v : fm_T} (h : y < 0 ∨ nI 12 ≤ y) : f_X2_isFormula y a b c v = some (0, v) := by
  unfold f_X2_isFormula
  by_cases h1 : y < 0
  · rw [if_pos h1]
  · have h2 : ¬ y < 12 := fun q => by
      have := h.resolve_left h1
      have e : nI 12 = 12 := by decide
      rw [e] at this
      exact absurd q (Int32.not_lt.mpr this)
    rw [if_neg h1, if_neg h2]
/-- what a constant may be -/
def okF (M kd : Nat) (a b c : Int32) : Prop := ((kd = 1 ∨ kd = 2 ∨ kd = 3 ∨ kd = 4 ∨ kd = 5 ∨ kd = 7 ∨ kd = 11) → ∃ j : Nat, j < 40 ∧ a = nI j) ∧ ((kd = 2 ∨ kd = 3 ∨ kd = 7) → ∃ j : Nat, j < 40 ∧ b = nI j) ∧ (kd = 7 → ∃ j : Nat, j < 40 ∧ c = nI j) ∧ ((kd = 8 ∨ kd = 9 ∨ kd = 10) → ∃ j : Nat, j < M ∧ a = nI j)
theorem uC (v : fm_T) (K : Nat) (x y a b c z : Int32) : ∃ V : fm_T, fm_u (fm_u (fm_u (fm_u (fm_u (fm_u v 57 K x) 58 K y) 59 K a) 60 K b) 61 K c) 1 8 z = V ∧ V 1 8 = z ∧ V 57 K = x ∧ V 58 K = y ∧ V 59 K = a ∧ V 60 K = b ∧ V 61 K = c ∧ V 1 0 = v 1 0 ∧ (∀ t j, 57 ≤ t → t ≤ 61 → j ≠ K → V t j = v t j) ∧ ∀ t, t ≠ 1 → (t < 57 ∨ 61 < t) → V t = v t := by
  refine ⟨_, rfl, by simp [fm_u_at], by simp [fm_u_at], by simp [fm_u_at], by simp [fm_u_at], by simp [fm_u_at], by simp [fm_u_at], by simp [fm_u_at], fun t j h1 h2 h3 => ?_, fun t h1 h2 => ?_⟩
  · simp [fm_u_at, h3, show ¬ t = 1 by omega]
  · rw [upd_tag (by omega), upd_tag (by omega), upd_tag (by omega), upd_tag (by omega), upd_tag (by omega), upd_tag (by omega)]
theorem uM (v : fm_T) (K : Nat) (x y a b c z : Int32) : ∃ V : fm_T, fm_u (fm_u (fm_u (fm_u (fm_u (fm_u v 8 K x) 9 K y) 10 K a) 11 K b) 12 K c) 0 8 z = V ∧ V 0 8 = z ∧ V 8 K = x ∧ V 9 K = y ∧ V 10 K = a ∧ V 11 K = b ∧ V 12 K = c ∧ (∀ j, j ≠ 8 → V 0 j = v 0 j) ∧ (∀ t j, 8 ≤ t → t ≤ 12 → j ≠ K → V t j = v t j) ∧ ∀ t, t ≠ 0 → (t < 8 ∨ 12 < t) → V t = v t := by
  refine ⟨_, rfl, by simp [fm_u_at], by simp [fm_u_at], by simp [fm_u_at], by simp [fm_u_at], by simp [fm_u_at], by simp [fm_u_at], fun j hj => by simp [fm_u_at, hj], fun t j h1 h2 h3 => ?_, fun t h1 h2 => ?_⟩
  · simp [fm_u_at, h3, show ¬ t = 0 by omega]
  · rw [upd_tag (by omega), upd_tag (by omega), upd_tag (by omega), upd_tag (by omega), upd_tag (by omega), upd_tag (by omega)]
theorem c138 {w : fm_T} {K : Nat} (hK : K ≤ 40) (h : w 0 8 = nI K) (x y a b c f g : Int32) : f_X5_constant_138 x y a b c f g w = if K = 40 then some (-2, w) else some (nI K, fm_u (fm_u (fm_u (fm_u (fm_u (fm_u w 8 K x) 9 K y) 10 K a) 11 K b) 12 K c) 0 8 (nI (K + 1))) := by
  have c1 := nI_cl (show K < 1000 by omega)
  have c2 := nI_nn (show K < 1000 by omega)
  have d3 : nI K + 1 = nI (K + 1) := nI_1 K
  have d4 : nI (K + 1) - 1 = nI K := nI_pred K
  unfold f_X5_constant_138
  by_cases e : K = 40
  · subst e
    rw [if_pos rfl, h, if_pos (by decide)]
  · have d2 : ¬ nI K = 40 := fun q => absurd ((nI_eq (b := 40) (by omega) (by decide)).mp q) e
    rw [if_neg e, h, if_neg d2]
    simp [h, c1, c2, d3, d4, fm_u_at, show ¬ 40 ≤ K by omega]
theorem addC {v : fm_T} {K : Nat} (hK : K ≤ 40) (h : v 1 8 = nI K) {x y a b c : Int32} (hM : f_X2_hasModule x v = some (1, v)) (hF : f_X2_isFormula y a b c v = some (1, v)) : f_X4_constant x y a b c v = if K = 40 then some (-2, v) else some (nI K, fm_u (fm_u (fm_u (fm_u (fm_u (fm_u v 57 K x) 58 K y) 59 K a) 60 K b) 61 K c) 1 8 (nI (K + 1))) := by
  have c1 := nI_cl (show K < 1000 by omega)
  have c2 := nI_nn (show K < 1000 by omega)
  have d3 : nI K + 1 = nI (K + 1) := nI_1 K
  unfold f_X4_constant f_X2_addConstant
  rw [hM, Option.bind_some]
  dsimp only
  rw [if_neg n10, hF, Option.bind_some]
  dsimp only
  rw [if_neg n10]
  by_cases e : K = 40
  · subst e
    rw [if_pos rfl, if_neg (show ¬ v 1 8 < 40 by rw [h]; decide)]
    simp
  · rw [if_neg e, if_pos (show v 1 8 < 40 by rw [h]; exact nI_lt (b := 40) (by omega) (by decide))]
    simp [h, c1, c2, d3, fm_u_at, show ¬ 40 ≤ K by omega]
theorem constGood {v w : fm_T} (h : RR v w) {M K m kd : Nat} {a b c f g : Int32} (hP : RP M K v w) (hm : m < M) (hkd : kd < 12) (ok : okF M kd a b c) (hF : f_X2_isFormula (nI kd) a b c v = some (1, v)) (hR : f_X5_constant (nI m) (nI kd) a b c w = f_X5_constant_138 (nI m) (nI kd) a b c f g w) : Both (f_X4_constant (nI m) (nI kd) a b c) (f_X5_constant (nI m) (nI kd) a b c) v w := by
  obtain ⟨-, q⟩ := id h
  obtain ⟨⟨hM, hK, a1, a2, a3, a4⟩, b1, b2, b3, b4, b5⟩ := hP
  have A1 := hasModule_in a1 (show M < 1000 by omega) hm
  have F := addC hK a3 A1 hF
  rw [c138 hK a4] at hR
  by_cases e : K = 40
  · rw [if_pos e] at F hR
    exact Both.same (r := -2) h F hR
  · rw [if_neg e] at F hR
    obtain ⟨V, eV, v1, v2, v3, v4, v5, v6, v7, v8, v9⟩ := uC v K (nI m) (nI kd) a b c (nI (K + 1))
    obtain ⟨W, eW, w1, w2, w3, w4, w5, w6, w7, w8, w9⟩ := uM w K (nI m) (nI kd) a b c (nI (K + 1))
    rw [eV] at F
    rw [eW] at hR
    refine ⟨_, V, W, F, hR, ⟨M, K + 1, ⟨hM, by omega, v7.trans a1, (w7 0 (by decide)).trans a2, v1, w1⟩, fun m' hm' => ?_, fun m' i' hm' hi' => ?_, fun m' hm' => ?_, fun m' hm' => ?_, fun c' hc => ?_⟩, ?_⟩
    · rw [v9 _ (by omega) (by omega), w9 _ (by omega) (by omega)]; exact b1 m' hm'
    · rw [v9 _ (by omega) (by omega), w9 _ (by omega) (by omega)]; exact b2 m' i' hm' hi'
    · exact (b3 m' hm').cong (Nat.le_refl _) (by rw [v9 _ (by omega) (by omega)]) (v9 _ (by omega) (by omega)) (by rw [w9 _ (by omega) (by omega)]) (fun j _ => by rw [w9 _ (by omega) (by omega)])
    · exact (b4 m' hm').cong (Nat.le_refl _) (by rw [v9 _ (by omega) (by omega)]) (v9 _ (by omega) (by omega)) (v9 _ (by omega) (by omega)) (by rw [w9 _ (by omega) (by omega)]) (fun j _ => by rw [w9 _ (by omega) (by omega)]) (fun j _ => by rw [w9 _ (by omega) (by omega)])
    · by_cases ec : c' = K
      · subst ec
        exact ⟨m, kd, hm, hkd, v2, w2, v3, w3, w4.trans v4.symm, w5.trans v5.symm, w6.trans v6.symm, fun z => by rw [v4]; exact ok.1 z, fun z => by rw [v5]; exact ok.2.1 z, fun z => by rw [v6]; exact ok.2.2.1 z, fun z => by rw [v4]; exact ok.2.2.2 z⟩
      · exact (b5 c' (by omega)).cong (Nat.le_refl _) (fun t h1 h2 => v8 t _ h1 h2 ec) (fun t h1 h2 => w8 t _ h1 h2 ec)
    · exact q.cong (v9 _ (by omega) (by omega)) (fun t ht => v9 _ (by omega) (by omega)) (fun t ht => w9 _ (by omega) (by omega)) (fun j _ hj => w7 j hj)
theorem rF_0 {x a b c : Int32} {w : fm_T} (hM : f_X5_isModule x w = some (1, w))  : f_X5_constant x 0 a b c w = f_X5_constant_138 x 0 a b c 0 0 w := by
  rw [b0_eq, if_neg (by decide), b28_eq, if_neg (by decide)]
  rw [b51_0 hM (by decide)]
  rw [b84_0]
  rw [b100_n (by decide)]
  rw [b117_n (by decide)]
theorem rF_1 {x a b c : Int32} {ra : Int32} {w : fm_T} (hM : f_X5_isModule x w = some (1, w)) (ha : f_X5_in a 0 39 w = some (ra, w)) : f_X5_constant x 1 a b c w = if ra = 0 then some (-1, w) else f_X5_constant_138 x 1 a b c 1 0 w := by
  rw [b0_eq, if_pos (by decide), b28_eq, if_neg (by decide)]
  rw [b51_1 hM (by decide) ha]
  by_cases h1 : ra = 0
  · rw [if_pos h1, if_pos h1]
  rw [if_neg h1, if_neg h1]
  rw [b84_0]
  rw [b100_n (by decide)]
  rw [b117_n (by decide)]
theorem rF_2 {x a b c : Int32} {ra rb : Int32} {w : fm_T} (hM : f_X5_isModule x w = some (1, w)) (ha : f_X5_in a 0 39 w = some (ra, w)) (hb : f_X5_in b 0 39 w = some (rb, w)) : f_X5_constant x 2 a b c w = if ra = 0 then some (-1, w) else if rb = 0 then some (-1, w) else f_X5_constant_138 x 2 a b c 1 1 w := by
  rw [b0_eq, if_pos (by decide), b28_eq, if_pos (by decide)]
  rw [b51_1 hM (by decide) ha]
  by_cases h1 : ra = 0
  · rw [if_pos h1, if_pos h1]
  rw [if_neg h1, if_neg h1]
  rw [b84_1 hb]
  by_cases h2 : rb = 0
  · rw [if_pos h2, if_pos h2]
  rw [if_neg h2, if_neg h2]
  rw [b100_n (by decide)]
  rw [b117_n (by decide)]
theorem rF_3 {x a b c : Int32} {ra rb : Int32} {w : fm_T} (hM : f_X5_isModule x w = some (1, w)) (ha : f_X5_in a 0 39 w = some (ra, w)) (hb : f_X5_in b 0 39 w = some (rb, w)) : f_X5_constant x 3 a b c w = if ra = 0 then some (-1, w) else if rb = 0 then some (-1, w) else f_X5_constant_138 x 3 a b c 1 1 w := by
  rw [b0_eq, if_pos (by decide), b28_eq, if_pos (by decide)]
  rw [b51_1 hM (by decide) ha]
  by_cases h1 : ra = 0
  · rw [if_pos h1, if_pos h1]
  rw [if_neg h1, if_neg h1]
  rw [b84_1 hb]
  by_cases h2 : rb = 0
  · rw [if_pos h2, if_pos h2]
  rw [if_neg h2, if_neg h2]
  rw [b100_n (by decide)]
  rw [b117_n (by decide)]
theorem rF_4 {x a b c : Int32} {ra : Int32} {w : fm_T} (hM : f_X5_isModule x w = some (1, w)) (ha : f_X5_in a 0 39 w = some (ra, w)) : f_X5_constant x 4 a b c w = if ra = 0 then some (-1, w) else f_X5_constant_138 x 4 a b c 1 0 w := by
  rw [b0_eq, if_pos (by decide), b28_eq, if_neg (by decide)]
  rw [b51_1 hM (by decide) ha]
  by_cases h1 : ra = 0
  · rw [if_pos h1, if_pos h1]
  rw [if_neg h1, if_neg h1]
  rw [b84_0]
  rw [b100_n (by decide)]
  rw [b117_n (by decide)]
theorem rF_5 {x a b c : Int32} {ra : Int32} {w : fm_T} (hM : f_X5_isModule x w = some (1, w)) (ha : f_X5_in a 0 39 w = some (ra, w)) : f_X5_constant x 5 a b c w = if ra = 0 then some (-1, w) else f_X5_constant_138 x 5 a b c 1 0 w := by
  rw [b0_eq, if_pos (by decide), b28_eq, if_neg (by decide)]
  rw [b51_1 hM (by decide) ha]
  by_cases h1 : ra = 0
  · rw [if_pos h1, if_pos h1]
  rw [if_neg h1, if_neg h1]
  rw [b84_0]
  rw [b100_n (by decide)]
  rw [b117_n (by decide)]
theorem rF_6 {x a b c : Int32} {w : fm_T} (hM : f_X5_isModule x w = some (1, w))  : f_X5_constant x 6 a b c w = f_X5_constant_138 x 6 a b c 0 0 w := by
  rw [b0_eq, if_neg (by decide), b28_eq, if_neg (by decide)]
  rw [b51_0 hM (by decide)]
  rw [b84_0]
  rw [b100_n (by decide)]
  rw [b117_n (by decide)]
theorem rF_7 {x a b c : Int32} {ra rb rc : Int32} {w : fm_T} (hM : f_X5_isModule x w = some (1, w)) (ha : f_X5_in a 0 39 w = some (ra, w)) (hb : f_X5_in b 0 39 w = some (rb, w)) (hc : f_X5_in c 0 39 w = some (rc, w)) : f_X5_constant x 7 a b c w = if ra = 0 then some (-1, w) else if rb = 0 then some (-1, w) else if rc = 0 then some (-1, w) else f_X5_constant_138 x 7 a b c 1 1 w := by
  rw [b0_eq, if_pos (by decide), b28_eq, if_pos (by decide)]
  rw [b51_1 hM (by decide) ha]
  by_cases h1 : ra = 0
  · rw [if_pos h1, if_pos h1]
  rw [if_neg h1, if_neg h1]
  rw [b84_1 hb]
  by_cases h2 : rb = 0
  · rw [if_pos h2, if_pos h2]
  rw [if_neg h2, if_neg h2]
  rw [b100_y rfl hc]
  by_cases h3 : rc = 0
  · rw [if_pos h3, if_pos h3]
  rw [if_neg h3, if_neg h3]
  rw [b117_n (by decide)]
theorem rF_8 {x a b c : Int32} {r : Int32} {w : fm_T} (hM : f_X5_isModule x w = some (1, w)) (hm : f_X5_isModule a w = some (r, w)) : f_X5_constant x 8 a b c w = if r = 0 then some (-1, w) else f_X5_constant_138 x 8 a b c 0 0 w := by
  rw [b0_eq, if_neg (by decide), b28_eq, if_neg (by decide)]
  rw [b51_0 hM (by decide)]
  rw [b84_0]
  rw [b100_n (by decide)]
  rw [b117_y (by decide) hm]
theorem rF_9 {x a b c : Int32} {r : Int32} {w : fm_T} (hM : f_X5_isModule x w = some (1, w)) (hm : f_X5_isModule a w = some (r, w)) : f_X5_constant x 9 a b c w = if r = 0 then some (-1, w) else f_X5_constant_138 x 9 a b c 0 0 w := by
  rw [b0_eq, if_neg (by decide), b28_eq, if_neg (by decide)]
  rw [b51_0 hM (by decide)]
  rw [b84_0]
  rw [b100_n (by decide)]
  rw [b117_y (by decide) hm]
theorem rF_10 {x a b c : Int32} {r : Int32} {w : fm_T} (hM : f_X5_isModule x w = some (1, w)) (hm : f_X5_isModule a w = some (r, w)) : f_X5_constant x 10 a b c w = if r = 0 then some (-1, w) else f_X5_constant_138 x 10 a b c 0 0 w := by
  rw [b0_eq, if_neg (by decide), b28_eq, if_neg (by decide)]
  rw [b51_0 hM (by decide)]
  rw [b84_0]
  rw [b100_n (by decide)]
  rw [b117_y (by decide) hm]
theorem rF_11 {x a b c : Int32} {ra : Int32} {w : fm_T} (hM : f_X5_isModule x w = some (1, w)) (ha : f_X5_in a 0 39 w = some (ra, w)) : f_X5_constant x 11 a b c w = if ra = 0 then some (-1, w) else f_X5_constant_138 x 11 a b c 1 0 w := by
  rw [b0_eq, if_pos (by decide), b28_eq, if_neg (by decide)]
  rw [b51_1 hM (by decide) ha]
  by_cases h1 : ra = 0
  · rw [if_pos h1, if_pos h1]
  rw [if_neg h1, if_neg h1]
  rw [b84_0]
  rw [b100_n (by decide)]
  rw [b117_n (by decide)]
theorem B_constant {v w : fm_T} (h : RR v w) (x y a b c : Int32) : Both (f_X4_constant x y a b c) (f_X5_constant x y a b c) v w := by
  obtain ⟨⟨M, K, hP⟩, q⟩ := id h
  obtain ⟨⟨hM, hK, a1, a2, a3, a4⟩, b1, b2, b3, b4, b5⟩ := id hP
  rcases ix3 x M (by omega) with hx | ⟨m, hm, rfl⟩
  · refine Both.same (r := -1) h ?_ ?_
    · unfold f_X4_constant f_X2_addConstant
      rw [hasModule_out a1 hx]
      simp
    · rw [b0_eq, b28_eq, b51_m (isModule_out a2 (by omega) hx)]
  · have A1 := hasModule_in a1 (show M < 1000 by omega) hm
    have A2 := isModule_in a2 (show M < 1000 by omega) hm
    have out : (f_X2_isFormula y a b c v = some (0, v)) → (f_X5_constant (nI m) y a b c w = some (-1, w)) → Both (f_X4_constant (nI m) y a b c) (f_X5_constant (nI m) y a b c) v w := fun h1 h2 => Both.same (r := -1) h (by
      unfold f_X4_constant f_X2_addConstant
      rw [A1, Option.bind_some]
      dsimp only
      rw [if_neg n10, h1]
      simp) h2
    rcases ix3 y 12 (by decide) with hy | ⟨kd, hkd, rfl⟩
    · refine out (isF_out hy) ?_
      rw [b0_eq, b28_eq, b51_k A2]
      have := in0_out (N := 12) (by decide) hy
      have e : nI 12 - 1 = 11 := by decide
      rwa [e] at this
    · have hx : ∀ (P : Nat → Prop), (∀ j, j < 12 → P j) → P kd := fun P hp => hp kd hkd
      by_cases k0 : kd = 0
      · subst k0
        have e : nI 0 = 0 := by decide
        exact constGood h hP hm hkd ⟨fun z => by omega, fun z => by omega, fun z => by omega, fun z => by omega⟩ (by rw [e, isF_0]) (f := 0) (g := 0) (by rw [e, rF_0 A2])
      by_cases k1 : kd = 1
      · subst k1
        have e : nI 1 = 1 := by decide
        by_cases ha : mb a
        · exact out (by rw [e, isF_1 (mayBe_t ha), if_pos rfl]) (by rw [e, rF_1 A2 (in39_t ha), if_pos rfl])
        exact constGood h hP hm hkd ⟨fun _ => mb_ok ha, fun z => by omega, fun z => by omega, fun z => by omega⟩ (by rw [e, isF_1 (mayBe_f ha), if_neg n10]) (f := 1) (g := 0) (by rw [e, rF_1 A2 (in39_f ha), if_neg n10])
      by_cases k2 : kd = 2
      · subst k2
        have e : nI 2 = 2 := by decide
        by_cases ha : mb a
        · exact out (by rw [e, isF_2 (mayBe_t ha) (mayBe_eq _ _), if_pos rfl]) (by rw [e, rF_2 A2 (in39_t ha) (in39_eq _ _), if_pos rfl])
        by_cases hb : mb b
        · exact out (by rw [e, isF_2 (mayBe_f ha) (mayBe_t hb), if_neg n10, if_pos rfl]) (by rw [e, rF_2 A2 (in39_f ha) (in39_t hb), if_neg n10, if_pos rfl])
        exact constGood h hP hm hkd ⟨fun _ => mb_ok ha, fun _ => mb_ok hb, fun z => by omega, fun z => by omega⟩ (by rw [e, isF_2 (mayBe_f ha) (mayBe_f hb), if_neg n10, if_neg n10]) (f := 1) (g := 1) (by rw [e, rF_2 A2 (in39_f ha) (in39_f hb), if_neg n10, if_neg n10])
      by_cases k3 : kd = 3
      · subst k3
        have e : nI 3 = 3 := by decide
        by_cases ha : mb a
        · exact out (by rw [e, isF_3 (mayBe_t ha) (mayBe_eq _ _), if_pos rfl]) (by rw [e, rF_3 A2 (in39_t ha) (in39_eq _ _), if_pos rfl])
        by_cases hb : mb b
        · exact out (by rw [e, isF_3 (mayBe_f ha) (mayBe_t hb), if_neg n10, if_pos rfl]) (by rw [e, rF_3 A2 (in39_f ha) (in39_t hb), if_neg n10, if_pos rfl])
        exact constGood h hP hm hkd ⟨fun _ => mb_ok ha, fun _ => mb_ok hb, fun z => by omega, fun z => by omega⟩ (by rw [e, isF_3 (mayBe_f ha) (mayBe_f hb), if_neg n10, if_neg n10]) (f := 1) (g := 1) (by rw [e, rF_3 A2 (in39_f ha) (in39_f hb), if_neg n10, if_neg n10])
      by_cases k4 : kd = 4
      · subst k4
        have e : nI 4 = 4 := by decide
        by_cases ha : mb a
        · exact out (by rw [e, isF_4 (mayBe_t ha), if_pos rfl]) (by rw [e, rF_4 A2 (in39_t ha), if_pos rfl])
        exact constGood h hP hm hkd ⟨fun _ => mb_ok ha, fun z => by omega, fun z => by omega, fun z => by omega⟩ (by rw [e, isF_4 (mayBe_f ha), if_neg n10]) (f := 1) (g := 0) (by rw [e, rF_4 A2 (in39_f ha), if_neg n10])
      by_cases k5 : kd = 5
      · subst k5
        have e : nI 5 = 5 := by decide
        by_cases ha : mb a
        · exact out (by rw [e, isF_5 (mayBe_t ha), if_pos rfl]) (by rw [e, rF_5 A2 (in39_t ha), if_pos rfl])
        exact constGood h hP hm hkd ⟨fun _ => mb_ok ha, fun z => by omega, fun z => by omega, fun z => by omega⟩ (by rw [e, isF_5 (mayBe_f ha), if_neg n10]) (f := 1) (g := 0) (by rw [e, rF_5 A2 (in39_f ha), if_neg n10])
      by_cases k6 : kd = 6
      · subst k6
        have e : nI 6 = 6 := by decide
        exact constGood h hP hm hkd ⟨fun z => by omega, fun z => by omega, fun z => by omega, fun z => by omega⟩ (by rw [e, isF_6]) (f := 0) (g := 0) (by rw [e, rF_6 A2])
      by_cases k7 : kd = 7
      · subst k7
        have e : nI 7 = 7 := by decide
        by_cases ha : mb a
        · exact out (by rw [e, isF_7 (mayBe_t ha) (mayBe_eq _ _) (mayBe_eq _ _), if_pos rfl]) (by rw [e, rF_7 A2 (in39_t ha) (in39_eq _ _) (in39_eq _ _), if_pos rfl])
        by_cases hb : mb b
        · exact out (by rw [e, isF_7 (mayBe_f ha) (mayBe_t hb) (mayBe_eq _ _), if_neg n10, if_pos rfl]) (by rw [e, rF_7 A2 (in39_f ha) (in39_t hb) (in39_eq _ _), if_neg n10, if_pos rfl])
        by_cases hc : mb c
        · exact out (by rw [e, isF_7 (mayBe_f ha) (mayBe_f hb) (mayBe_t hc), if_neg n10, if_neg n10, if_pos rfl]) (by rw [e, rF_7 A2 (in39_f ha) (in39_f hb) (in39_t hc), if_neg n10, if_neg n10, if_pos rfl])
        exact constGood h hP hm hkd ⟨fun _ => mb_ok ha, fun _ => mb_ok hb, fun _ => mb_ok hc, fun z => by omega⟩ (by rw [e, isF_7 (mayBe_f ha) (mayBe_f hb) (mayBe_f hc), if_neg n10, if_neg n10, if_neg n10]) (f := 1) (g := 1) (by rw [e, rF_7 A2 (in39_f ha) (in39_f hb) (in39_f hc), if_neg n10, if_neg n10, if_neg n10])
      by_cases k8 : kd = 8
      · subst k8
        have e : nI 8 = 8 := by decide
        rcases ix3 a M (by omega) with ha | ⟨j, hj, rfl⟩
        · refine out ?_ ?_
          · rw [e, isF_8 (hasModule_out a1 ha) (Or.inl rfl)]
          · rw [e, rF_8 A2 (isModule_out a2 (by omega) ha), if_pos rfl]
        · refine constGood h hP hm hkd ⟨fun z => by omega, fun z => by omega, fun z => by omega, fun _ => ⟨j, hj, rfl⟩⟩ ?_ (f := 0) (g := 0) ?_
          · rw [e, isF_8 (hasModule_in a1 (by omega) hj) (Or.inr rfl)]
          · rw [e, rF_8 A2 (isModule_in a2 (by omega) hj), if_neg n10]
      by_cases k9 : kd = 9
      · subst k9
        have e : nI 9 = 9 := by decide
        rcases ix3 a M (by omega) with ha | ⟨j, hj, rfl⟩
        · refine out ?_ ?_
          · rw [e, isF_9 (hasModule_out a1 ha) (Or.inl rfl)]
          · rw [e, rF_9 A2 (isModule_out a2 (by omega) ha), if_pos rfl]
        · refine constGood h hP hm hkd ⟨fun z => by omega, fun z => by omega, fun z => by omega, fun _ => ⟨j, hj, rfl⟩⟩ ?_ (f := 0) (g := 0) ?_
          · rw [e, isF_9 (hasModule_in a1 (by omega) hj) (Or.inr rfl)]
          · rw [e, rF_9 A2 (isModule_in a2 (by omega) hj), if_neg n10]
      by_cases k10 : kd = 10
      · subst k10
        have e : nI 10 = 10 := by decide
        rcases ix3 a M (by omega) with ha | ⟨j, hj, rfl⟩
        · refine out ?_ ?_
          · rw [e, isF_10 (hasModule_out a1 ha) (Or.inl rfl)]
          · rw [e, rF_10 A2 (isModule_out a2 (by omega) ha), if_pos rfl]
        · refine constGood h hP hm hkd ⟨fun z => by omega, fun z => by omega, fun z => by omega, fun _ => ⟨j, hj, rfl⟩⟩ ?_ (f := 0) (g := 0) ?_
          · rw [e, isF_10 (hasModule_in a1 (by omega) hj) (Or.inr rfl)]
          · rw [e, rF_10 A2 (isModule_in a2 (by omega) hj), if_neg n10]
      by_cases k11 : kd = 11
      · subst k11
        have e : nI 11 = 11 := by decide
        by_cases ha : mb a
        · exact out (by rw [e, isF_11 (mayBe_t ha), if_pos rfl]) (by rw [e, rF_11 A2 (in39_t ha), if_pos rfl])
        exact constGood h hP hm hkd ⟨fun _ => mb_ok ha, fun z => by omega, fun z => by omega, fun z => by omega⟩ (by rw [e, isF_11 (mayBe_f ha), if_neg n10]) (f := 1) (g := 0) (by rw [e, rF_11 A2 (in39_f ha), if_neg n10])
      omega
