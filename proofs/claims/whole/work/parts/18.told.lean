section TOLD
variable {M M' K : Nat} {v v' w w' : fm_T}
theorem RPu.cong {m : Nat} (h : RPu M v w m) (hM : M ≤ M') (h1 : v' 16 m = v 16 m) (h2 : v' (18 + m) = v (18 + m)) (h3 : w' 3 m = w 3 m) (h4 : ∀ j, j < 6 → w' 4 (6 * m + j) = w 4 (6 * m + j)) : RPu M' v' w' m := by
  obtain ⟨s, s1, s2, s3, s4⟩ := h
  refine ⟨s, s1, by rw [h1]; exact s2, by rw [h3]; exact s3, fun j hj => ?_⟩
  obtain ⟨o, o1, o2, o3⟩ := s4 j hj
  exact ⟨o, by omega, by rw [h2]; exact o2, by rw [h4 j (by omega)]; exact o3⟩
theorem RPd.cong {m : Nat} (h : RPd M v w m) (hM : M ≤ M') (h1 : v' 30 m = v 30 m) (h2 : v' (32 + m) = v (32 + m)) (h5 : v' (45 + m) = v (45 + m)) (h3 : w' 5 m = w 5 m) (h4 : ∀ j, j < 6 → w' 6 (6 * m + j) = w 6 (6 * m + j)) (h6 : ∀ j, j < 6 → w' 7 (6 * m + j) = w 7 (6 * m + j)) : RPd M' v' w' m := by
  obtain ⟨s, s1, s2, s3, s4⟩ := h
  refine ⟨s, s1, by rw [h1]; exact s2, by rw [h3]; exact s3, fun j hj => ?_⟩
  obtain ⟨kd, o1, o2, o3, o4, o5, o6⟩ := s4 j hj
  rw [h2, h5, h4 j (by omega), h6 j (by omega)]
  exact ⟨kd, o1, o2, o3, o4, o5, fun e => by obtain ⟨o, z1, z2⟩ := o6 e; exact ⟨o, by omega, z2⟩⟩
theorem RPc.cong {c : Nat} (h : RPc M v w c) (hM : M ≤ M') (hv : ∀ t, 57 ≤ t → t ≤ 61 → v' t c = v t c) (hw : ∀ t, 8 ≤ t → t ≤ 12 → w' t c = w t c) : RPc M' v' w' c := by
  obtain ⟨g, kd, c1, c2, c3, c4, c5, c6, c7, c8, c9, d1, d2, d3, d4⟩ := h
  unfold RPc
  rw [hv 57 (by decide) (by decide), hv 58 (by decide) (by decide), hv 59 (by decide) (by decide), hv 60 (by decide) (by decide), hv 61 (by decide) (by decide), hw 8 (by decide) (by decide), hw 9 (by decide) (by decide), hw 10 (by decide) (by decide), hw 11 (by decide) (by decide), hw 12 (by decide) (by decide)]
  exact ⟨g, kd, by omega, c2, c3, c4, c5, c6, c7, c8, c9, d1, d2, d3, fun e => by obtain ⟨a, z1, z2⟩ := d4 e; exact ⟨a, by omega, z2⟩⟩
end TOLD
theorem not_le_of_out {n : Nat} {x : Int32} (hn : n < 1000) (h : x < 0 ∨ nI n ≤ x) : ∀ s : Nat, s ≤ n → (x < 0 ∨ nI s ≤ x) := by
  intro s hs
  rcases h with h | h
  · exact Or.inl h
  · exact Or.inr (Int32.le_trans (nI_le hs (by omega)) h)
theorem u2 (v : fm_T) {t1 t2 : Nat} (k1 k2 : Nat) (x1 x2 : Int32) (h : t1 ≠ t2) : ∃ V : fm_T, fm_u (fm_u v t1 k1 x1) t2 k2 x2 = V ∧ V t2 k2 = x2 ∧ V t1 k1 = x1 ∧ (∀ j, j ≠ k2 → V t2 j = v t2 j) ∧ (∀ j, j ≠ k1 → V t1 j = v t1 j) ∧ ∀ t, t ≠ t1 → t ≠ t2 → V t = v t := by
  refine ⟨_, rfl, fm_u_eq _ _ _ _, ?_, fun j hj => ?_, fun j hj => ?_, fun t g1 g2 => ?_⟩
  · rw [fm_u_t _ _ _ _ h, fm_u_eq]
  · rw [fm_u_ne _ _ _ _ (Or.inr hj), fm_u_t _ _ _ _ (Ne.symm h)]
  · rw [fm_u_t _ _ _ _ h, fm_u_ne _ _ _ _ (Or.inr hj)]
  · rw [fm_u_t _ _ _ _ g2, fm_u_t _ _ _ _ g1]
theorem u3 (v : fm_T) {t1 t2 t3 : Nat} (k1 k2 k3 : Nat) (x1 x2 x3 : Int32) (h : t1 ≠ t2) (h2 : t1 ≠ t3) (h3 : t2 ≠ t3) : ∃ V : fm_T, fm_u (fm_u (fm_u v t1 k1 x1) t2 k2 x2) t3 k3 x3 = V ∧ V t3 k3 = x3 ∧ V t2 k2 = x2 ∧ V t1 k1 = x1 ∧ (∀ j, j ≠ k3 → V t3 j = v t3 j) ∧ (∀ j, j ≠ k2 → V t2 j = v t2 j) ∧ (∀ j, j ≠ k1 → V t1 j = v t1 j) ∧ ∀ t, t ≠ t1 → t ≠ t2 → t ≠ t3 → V t = v t := by
  obtain ⟨V, e, a1, a2, a3, a4, a5⟩ := u2 v k1 k2 x1 x2 h
  rw [e]
  refine ⟨_, rfl, fm_u_eq _ _ _ _, ?_, ?_, fun j hj => ?_, fun j hj => ?_, fun j hj => ?_, fun t g1 g2 g3 => ?_⟩
  · rw [fm_u_t _ _ _ _ h3]; exact a1
  · rw [fm_u_t _ _ _ _ h2]; exact a2
  · rw [fm_u_ne _ _ _ _ (Or.inr hj), a5 _ (Ne.symm h2) (Ne.symm h3)]
  · rw [fm_u_t _ _ _ _ h3]; exact a3 j hj
  · rw [fm_u_t _ _ _ _ h2]; exact a4 j hj
  · rw [fm_u_t _ _ _ _ g3]; exact a5 t g1 g2
theorem B_item {v w : fm_T} (h : RR v w) (x y z : Int32) : Both (f_X4_item x y z) (f_X5_item x y z) v w := by
  obtain ⟨⟨M, K, ⟨hM, hK, a1, a2, a3, a4⟩, b1, b2, b3, b4, b5⟩, q⟩ := id h
  rcases ix3 x M (by omega) with hx | ⟨m, hm, rfl⟩
  · refine Both.same (r := -1) h ?_ ?_
    · simp [f_X4_item, f_X2_setItem, f_X2_hasItem, hasModule_out a1 hx]
    · simp [f_X5_item, isModule_out a2 (by omega) hx]
  · obtain ⟨s, s1, s2, s3⟩ := b1 m (by omega)
    have m1 := nI_cl (show m < 1000 by omega)
    have m2 := nI_nn (show m < 1000 by omega)
    have m3 : ¬ 12 ≤ m := by omega
    rcases ix3 y s (by omega) with hy | ⟨i, hi, rfl⟩
    · refine Both.same (r := -1) h ?_ ?_
      · rcases hy with hy | hy
        · simp [f_X4_item, f_X2_setItem, f_X2_hasItem, hasModule_in a1 (by omega) hm, hy]
        · by_cases y0 : y < 0
          · simp [f_X4_item, f_X2_setItem, f_X2_hasItem, hasModule_in a1 (by omega) hm, y0]
          · simp [f_X4_item, f_X2_setItem, f_X2_hasItem, hasModule_in a1 (by omega) hm, y0, m1, m2, m3, s2, hy]
      · simp only [f_X5_item, isModule_in a2 (show M < 1000 by omega) hm, Option.bind_some, m1, in_eq, s3]
        rw [if_neg (by decide), if_neg (by rw [m2]; simpa using m3), if_pos (in0_out (by omega) hy), if_pos rfl]
    · have i1 := nI_cl (show i < 1000 by omega)
      have i2 := nI_nn (show i < 1000 by omega)
      have i3 : ¬ 8 ≤ i := by omega
      have i4 : ¬ nI s ≤ nI i := nI_ge hi (by omega)
      have i5 : ¬ (nI i < 0 ∨ nI s - 1 < nI i) := in0_in hi (by omega)
      have i6 : (8 : Int32) * nI m + nI i = nI (8 * m + i) := nI_ix (a := 8)
      have i7 := nI_cl (show 8 * m + i < 1000 by omega)
      have i8 := nI_nn (show 8 * m + i < 1000 by omega)
      have i9 : ¬ 96 ≤ 8 * m + i := by omega
      refine ⟨1, fm_u v (4 + m) i z, fm_u w 2 (8 * m + i) z, ?_, ?_, ⟨M, K, ⟨hM, hK, ?_, ?_, ?_, ?_⟩, fun m' hm' => ?_, fun m' i' hm' hi' => ?_, fun m' hm' => ?_, fun m' hm' => ?_, fun c hc => ?_⟩, ?_⟩
      · simp [f_X4_item, f_X2_setItem, f_X2_hasItem, hasModule_in a1 (by omega) hm, i1, i2, i3, m1, m2, m3, s2, i4]
      · simp only [f_X5_item, isModule_in a2 (show M < 1000 by omega) hm, Option.bind_some, m1, in_eq, s3, i6, i7]
        rw [if_neg (by decide), if_neg (by rw [m2]; simpa using m3), if_neg i5, if_neg (by decide), if_neg (by rw [i8]; simpa using i9)]
      · rw [upd_tag (by omega)]; exact a1
      · rw [upd_tag (by decide)]; exact a2
      · rw [upd_tag (by omega)]; exact a3
      · rw [upd_tag (by decide)]; exact a4
      · rw [upd_tag (by omega), upd_tag (by decide)]; exact b1 m' hm'
      · rw [fm_u_at, fm_u_at]
        by_cases e : m' = m ∧ i' = i
        · rw [if_pos ⟨rfl, by rw [e.1, e.2]⟩, if_pos ⟨by rw [e.1], e.2⟩]
        · rw [if_neg (fun q => e (by have := q.2; omega)), if_neg (fun q => e (by have := q.1; have := q.2; omega))]
          exact b2 m' i' hm' hi'
      · exact (b3 m' hm').cong (Nat.le_refl _) (by rw [upd_tag (by omega)]) (by rw [upd_tag (by omega)]) (by rw [upd_tag (by decide)]) (fun j _ => by rw [upd_tag (by decide)])
      · exact (b4 m' hm').cong (Nat.le_refl _) (by rw [upd_tag (by omega)]) (by rw [upd_tag (by omega)]) (by rw [upd_tag (by omega)]) (by rw [upd_tag (by decide)]) (fun j _ => by rw [upd_tag (by decide)]) (fun j _ => by rw [upd_tag (by decide)])
      · exact (b5 c hc).cong (Nat.le_refl _) (fun t h1 h2 => by rw [upd_tag (by omega)]) (fun t h1 h2 => by rw [upd_tag (by omega)])
      · exact q.cong (by rw [upd_tag (by omega)]) (fun t ht => by rw [upd_tag (by omega)]) (fun t ht => by rw [upd_tag (by omega)]) (fun j _ _ => by rw [upd_tag (by decide)])
theorem B_uses {v w : fm_T} (h : RR v w) (x y : Int32) : Both (f_X4_uses x y) (f_X5_uses x y) v w := by
  obtain ⟨⟨M, K, ⟨hM, hK, a1, a2, a3, a4⟩, b1, b2, b3, b4, b5⟩, q⟩ := id h
  rcases ix3 x M (by omega) with hx | ⟨m, hm, rfl⟩
  · refine Both.same (r := -1) h ?_ ?_
    · simp [f_X4_uses, f_X2_addUsed, hasModule_out a1 hx]
    · simp [f_X5_uses, isModule_out a2 (by omega) hx]
  · rcases ix3 y M (by omega) with hy | ⟨o, ho, rfl⟩
    · refine Both.same (r := -1) h ?_ ?_
      · simp [f_X4_uses, f_X2_addUsed, hasModule_in a1 (by omega) hm, hasModule_out a1 hy]
      · simp [f_X5_uses, isModule_in a2 (by omega) hm, isModule_out a2 (by omega) hy]
    · obtain ⟨n, n1, n2, n3, n4⟩ := b3 m (by omega)
      have m1 := nI_cl (show m < 1000 by omega)
      have m2 := nI_nn (show m < 1000 by omega)
      have m3 : ¬ 12 ≤ m := by omega
      have c1 := nI_cl (show n < 1000 by omega)
      have c2 := nI_nn (show n < 1000 by omega)
      rcases Nat.lt_or_ge n 6 with hn | hn
      · have d1 : nI n < 6 := nI_lt (b := 6) hn (by decide)
        have d2 : ¬ nI n = 6 := fun q => absurd ((nI_eq (b := 6) (by omega) (by decide)).mp q) (by omega)
        have d3 : nI n + 1 = nI (n + 1) := nI_1 n
        have i6 : (6 : Int32) * nI m + nI n = nI (6 * m + n) := nI_ix (a := 6)
        have i7 := nI_cl (show 6 * m + n < 1000 by omega)
        have i8 := nI_nn (show 6 * m + n < 1000 by omega)
        have i9 : ¬ 72 ≤ 6 * m + n := by omega
        have F : f_X4_uses (nI m) (nI o) v = some (nI (n + 1), fm_u (fm_u v (18 + m) n (nI o)) 16 m (nI (n + 1))) := by
          simp [f_X4_uses, f_X2_addUsed, hasModule_in a1 (show M < 1000 by omega) hm, hasModule_in a1 (show M < 1000 by omega) ho, m1, m2, m3, n2, c1, c2, d1, d3, Nat.not_le.mpr hn, fm_u_at, show ¬ 16 = 18 + m by omega]
        have G : f_X5_uses (nI m) (nI o) w = some (nI (n + 1), fm_u (fm_u w 4 (6 * m + n) (nI o)) 3 m (nI (n + 1))) := by
          simp [f_X5_uses, isModule_in a2 (show M < 1000 by omega) hm, isModule_in a2 (show M < 1000 by omega) ho, m1, m2, m3, n3, i6, i7, i8, i9, d2, d3, fm_u_at]
        obtain ⟨V, eV, v1, v2, v3, v4, v5⟩ := u2 v n m (nI o) (nI (n + 1)) (show 18 + m ≠ 16 by omega)
        obtain ⟨W, eW, w1, w2, w3, w4, w5⟩ := u2 w (6 * m + n) m (nI o) (nI (n + 1)) (show 4 ≠ 3 by decide)
        rw [eV] at F
        rw [eW] at G
        refine ⟨_, V, W, F, G, ⟨M, K, ⟨hM, hK, ?_, ?_, ?_, ?_⟩, fun m' hm' => ?_, fun m' i' hm' hi' => ?_, fun m' hm' => ?_, fun m' hm' => ?_, fun c hc => ?_⟩, ?_⟩
        · rw [v5 _ (by omega) (by omega)]; exact a1
        · rw [w5 _ (by omega) (by omega)]; exact a2
        · rw [v5 _ (by omega) (by omega)]; exact a3
        · rw [w5 _ (by omega) (by omega)]; exact a4
        · rw [v5 _ (by omega) (by omega), w5 _ (by omega) (by omega)]; exact b1 m' hm'
        · rw [v5 _ (by omega) (by omega), w5 _ (by omega) (by omega)]; exact b2 m' i' hm' hi'
        · by_cases e : m' = m
          · subst e
            refine ⟨n + 1, by omega, v1, w1, fun j hj => ?_⟩
            by_cases e2 : j = n
            · rw [e2]
              exact ⟨o, ho, v2, w2⟩
            · rw [v4 j e2, w4 _ (by omega)]
              exact n4 j (by omega)
          · exact (b3 m' hm').cong (Nat.le_refl _) (v3 _ e) (v5 _ (by omega) (by omega)) (w3 _ e) (fun j hj => w4 _ (by omega))
        · exact (b4 m' hm').cong (Nat.le_refl _) (by rw [v5 _ (by omega) (by omega)]) (v5 _ (by omega) (by omega)) (v5 _ (by omega) (by omega)) (by rw [w5 _ (by omega) (by omega)]) (fun j _ => by rw [w5 _ (by omega) (by omega)]) (fun j _ => by rw [w5 _ (by omega) (by omega)])
        · exact (b5 c hc).cong (Nat.le_refl _) (fun t h1 h2 => by rw [v5 _ (by omega) (by omega)]) (fun t h1 h2 => by rw [w5 _ (by omega) (by omega)])
        · exact q.cong (v5 _ (by omega) (by omega)) (fun t ht => v5 _ (by omega) (by omega)) (fun t ht => w5 _ (by omega) (by omega)) (fun j _ _ => by rw [w5 _ (by omega) (by omega)])
      · have e6 : n = 6 := by omega
        subst e6
        refine Both.same (r := -2) h ?_ ?_
        · simp [f_X4_uses, f_X2_addUsed, hasModule_in a1 (show M < 1000 by omega) hm, hasModule_in a1 (show M < 1000 by omega) ho, m1, m2, m3, n2, show ¬ nI 6 < 6 by decide]
        · simp [f_X5_uses, isModule_in a2 (show M < 1000 by omega) hm, isModule_in a2 (show M < 1000 by omega) ho, m1, m2, m3, n3, show nI 6 = 6 from rfl]
theorem mayBe_eq (x : Int32) (v : fm_T) : f_X2_mayBeConstant x v = some (if x < 0 ∨ nI 40 ≤ x then 0 else 1, v) := by
  unfold f_X2_mayBeConstant
  have e : nI 40 = 40 := rfl
  rw [e]
  by_cases h1 : x < 0
  · simp [h1]
  · by_cases h2 : (40 : Int32) ≤ x <;> simp [h1, h2]
theorem in39_eq (x : Int32) (w : fm_T) : f_X5_in x 0 39 w = some (if x < 0 ∨ nI 40 ≤ x then 0 else 1, w) := by
  rw [in_eq]
  have e : (39 : Int32) = nI 40 - 1 := rfl
  rw [e]
  rcases ix3 x 40 (by decide) with h | ⟨j, hj, rfl⟩
  · rw [if_pos h, if_pos (in0_out (by decide) h)]
  · rw [if_neg (in0_in hj (by decide)), if_neg]
    intro q
    rcases q with q | q
    · exact nI_pos (by omega) q
    · exact nI_ge hj (by decide) q
theorem in_out {a : Nat} {x : Int32} (ha : a < 999) (w : fm_T) (h : x < 0 ∨ nI (a + 1) ≤ x) : f_X5_in x 0 (nI a) w = some (0, w) := by
  rw [in_eq, if_pos]
  have := in0_out (N := a + 1) (by omega) h
  rwa [nI_pred] at this
theorem in_in {a j : Nat} (ha : a < 999) (hj : j ≤ a) (w : fm_T) : f_X5_in (nI j) 0 (nI a) w = some (1, w) := by
  rw [in_eq, if_neg]
  have := in0_in (n := j) (N := a + 1) (by omega) (by omega)
  rwa [nI_pred] at this
theorem out_ne {n : Nat} {y : Int32} (hn : n < 1000) (hy : y < 0 ∨ nI n ≤ y) {j : Nat} (hj : j < n) : ¬ y = nI j := by
  intro e
  subst e
  rcases hy with h | h
  · exact nI_pos (by omega) h
  · exact nI_ge hj (by omega) h
theorem n_1 : nI 1 = 1 := by decide
theorem n_2 : nI 2 = 2 := by decide
theorem n_3 : nI 3 = 3 := by decide
theorem in02 (y : Int32) (w : fm_T) : f_X5_in y 0 2 w = f_X5_in y 0 (nI 2) w := by rw [n_2]
/-- what a deed may be -/
def okD (M : Nat) (kd : Nat) (z : Int32) : Prop := (kd = 0 → ∃ o : Nat, o < 40 ∧ z = nI o) ∧ (kd = 1 → ∃ o : Nat, o < M ∧ z = nI o)
theorem deed46 {w : fm_T} {m n : Nat} (hm : m < 12) (n1 : n ≤ 6) (n3 : w 5 m = nI n) (y z : Int32) : f_X5_deed_46 (nI m) y z w = if w 5 m = 6 then some (-2, w) else some (nI (n + 1), fm_u (fm_u (fm_u w 6 (6 * m + n) y) 7 (6 * m + n) z) 5 m (nI (n + 1))) := by
  have m1 := nI_cl (show m < 1000 by omega)
  have m2 := nI_nn (show m < 1000 by omega)
  have m3 : ¬ 12 ≤ m := by omega
  have i6 : (6 : Int32) * nI m + nI n = nI (6 * m + n) := nI_ix (a := 6)
  have i7 := nI_cl (show 6 * m + n < 1000 by omega)
  have i8 := nI_nn (show 6 * m + n < 1000 by omega)
  have d3 : nI n + 1 = nI (n + 1) := nI_1 n
  unfold f_X5_deed_46
  simp only [m1]
  rw [if_neg (by rw [m2]; simpa using m3)]
  by_cases e6 : w 5 m = 6
  · rw [if_pos e6, if_pos e6]
  · rw [if_neg e6, if_neg e6]
    have hn : n < 6 := by
      rcases Nat.lt_or_ge n 6 with q | q
      · exact q
      · exact absurd (by rw [n3, show n = 6 by omega]; rfl) e6
    simp [n3, i6, i7, i8, show ¬ 72 ≤ 6 * m + n by omega, d3, fm_u_at]
theorem deedGood {v w : fm_T} (h : RR v w) {M K m n kd : Nat} {y z : Int32} (hP : RP M K v w) (hm : m < M) (n1 : n ≤ 6) (n2 : v 30 m = nI n) (n3 : w 5 m = nI n) (hkd : kd ≤ 2) (ey : y = nI kd) (ok : okD M kd z) (hD : f_X2_isDeed y z v = some (1, v)) (hR : f_X5_deed (nI m) y z w = f_X5_deed_46 (nI m) y z w) : Both (f_X4_deed (nI m) y z) (f_X5_deed (nI m) y z) v w := by
  obtain ⟨-, q⟩ := id h
  obtain ⟨⟨hM, hK, a1, a2, a3, a4⟩, b1, b2, b3, b4, b5⟩ := hP
  have n4 : ∀ j, j < n → ∃ kd : Nat, kd ≤ 2 ∧ v (32 + m) j = nI kd ∧ w 6 (6 * m + j) = nI kd ∧ w 7 (6 * m + j) = v (45 + m) j ∧ (kd = 0 → ∃ o : Nat, o < 40 ∧ v (45 + m) j = nI o) ∧ (kd = 1 → ∃ o : Nat, o < M ∧ v (45 + m) j = nI o) := by
    obtain ⟨n', g1, g2, g3, g4⟩ := b4 m (by omega)
    have : n' = n := (nI_eq (by omega) (by omega)).mp (g2.symm.trans n2)
    subst this
    exact g4
  have A1 := hasModule_in a1 (show M < 1000 by omega) hm
  have m1 := nI_cl (show m < 1000 by omega)
  have m2 := nI_nn (show m < 1000 by omega)
  have m3 : ¬ 12 ≤ m := by omega
  have c1 := nI_cl (show n < 1000 by omega)
  have c2 := nI_nn (show n < 1000 by omega)
  rw [deed46 (by omega) n1 n3] at hR
  rcases Nat.lt_or_ge n 6 with hn | hn
  · have d1 : nI n < 6 := nI_lt (b := 6) hn (by decide)
    have d2 : ¬ nI n = 6 := fun q => absurd ((nI_eq (b := 6) (by omega) (by decide)).mp q) (by omega)
    have d3 : nI n + 1 = nI (n + 1) := nI_1 n
    have F : f_X4_deed (nI m) y z v = some (nI (n + 1), fm_u (fm_u (fm_u v (32 + m) n y) (45 + m) n z) 30 m (nI (n + 1))) := by
      simp [f_X4_deed, f_X2_addDeed, A1, hD, m1, m2, m3, n2, c1, c2, d1, d3, Nat.not_le.mpr hn]
    rw [n3, if_neg d2] at hR
    obtain ⟨V, eV, v1, v2, v3, v4, v5, v6, v7⟩ := u3 v n n m y z (nI (n + 1)) (show 32 + m ≠ 45 + m by omega) (show 32 + m ≠ 30 by omega) (show 45 + m ≠ 30 by omega)
    obtain ⟨W, eW, w1, w2, w3, w4, w5, w6, w7⟩ := u3 w (6 * m + n) (6 * m + n) m y z (nI (n + 1)) (show 6 ≠ 7 by decide) (show 6 ≠ 5 by decide) (show 7 ≠ 5 by decide)
    rw [eV] at F
    rw [eW] at hR
    refine ⟨_, V, W, F, hR, ⟨M, K, ⟨hM, hK, ?_, ?_, ?_, ?_⟩, fun m' hm' => ?_, fun m' i' hm' hi' => ?_, fun m' hm' => ?_, fun m' hm' => ?_, fun c hc => ?_⟩, ?_⟩
    · rw [v7 _ (by omega) (by omega) (by omega)]; exact a1
    · rw [w7 _ (by omega) (by omega) (by omega)]; exact a2
    · rw [v7 _ (by omega) (by omega) (by omega)]; exact a3
    · rw [w7 _ (by omega) (by omega) (by omega)]; exact a4
    · rw [v7 _ (by omega) (by omega) (by omega), w7 _ (by omega) (by omega) (by omega)]; exact b1 m' hm'
    · rw [v7 _ (by omega) (by omega) (by omega), w7 _ (by omega) (by omega) (by omega)]; exact b2 m' i' hm' hi'
    · exact (b3 m' hm').cong (Nat.le_refl _) (by rw [v7 _ (by omega) (by omega) (by omega)]) (v7 _ (by omega) (by omega) (by omega)) (by rw [w7 _ (by omega) (by omega) (by omega)]) (fun j _ => by rw [w7 _ (by omega) (by omega) (by omega)])
    · by_cases e : m' = m
      · subst e
        refine ⟨n + 1, by omega, v1, w1, fun j hj => ?_⟩
        by_cases e2 : j = n
        · rw [e2, v3, v2, w3, w2]
          exact ⟨kd, hkd, ey, ey, rfl, ok.1, ok.2⟩
        · rw [v6 j e2, v5 j e2, w6 _ (by omega), w5 _ (by omega)]
          exact n4 j (by omega)
      · exact (b4 m' hm').cong (Nat.le_refl _) (v4 _ e) (v7 _ (by omega) (by omega) (by omega)) (v7 _ (by omega) (by omega) (by omega)) (w4 _ e) (fun j hj => w6 _ (by omega)) (fun j hj => w5 _ (by omega))
    · exact (b5 c hc).cong (Nat.le_refl _) (fun t h1 h2 => by rw [v7 _ (by omega) (by omega) (by omega)]) (fun t h1 h2 => by rw [w7 _ (by omega) (by omega) (by omega)])
    · exact q.cong (v7 _ (by omega) (by omega) (by omega)) (fun t ht => v7 _ (by omega) (by omega) (by omega)) (fun t ht => w7 _ (by omega) (by omega) (by omega)) (fun j _ _ => by rw [w7 _ (by omega) (by omega) (by omega)])
  · have e6 : n = 6 := by omega
    subst e6
    rw [n3, if_pos (show nI 6 = 6 from rfl)] at hR
    exact Both.same (r := -2) h (by simp [f_X4_deed, f_X2_addDeed, A1, hD, m1, m2, m3, n2, show ¬ nI 6 < 6 by decide]) hR
theorem deedY1 {w : fm_T} {x y z : Int32} (A2 : f_X5_isModule x w = some (1, w)) (T1 : f_X5_in y 0 2 w = some (1, w)) (y0 : ¬ y = 0) (y1 : y = 1) {r : Int32} (hz : f_X5_isModule z w = some (r, w)) : f_X5_deed x y z w = if r = 0 then some (-1, w) else f_X5_deed_46 x y z w := by
  have n01 : ¬ (1 : Int32) = 0 := by decide
  unfold f_X5_deed
  rw [A2, Option.bind_some, T1, Option.bind_some]
  dsimp only
  rw [if_neg n01, if_neg n01, if_neg y0]
  unfold f_X5_deed_31
  rw [if_pos y1, hz, Option.bind_some]
theorem B_deed {v w : fm_T} (h : RR v w) (x y z : Int32) : Both (f_X4_deed x y z) (f_X5_deed x y z) v w := by
  obtain ⟨⟨M, K, hP⟩, q⟩ := id h
  obtain ⟨⟨hM, hK, a1, a2, a3, a4⟩, b1, b2, b3, b4, b5⟩ := id hP
  rcases ix3 x M (by omega) with hx | ⟨m, hm, rfl⟩
  · refine Both.same (r := -1) h ?_ ?_
    · simp [f_X4_deed, f_X2_addDeed, hasModule_out a1 hx]
    · simp [f_X5_deed, isModule_out a2 (by omega) hx]
  · have A1 := hasModule_in a1 (show M < 1000 by omega) hm
    have A2 := isModule_in a2 (show M < 1000 by omega) hm
    have out : (f_X2_isDeed y z v = some (0, v)) → (f_X5_deed (nI m) y z w = some (-1, w)) → Both (f_X4_deed (nI m) y z) (f_X5_deed (nI m) y z) v w := fun h1 h2 => Both.same (r := -1) h (by simp [f_X4_deed, f_X2_addDeed, A1, h1]) h2
    obtain ⟨n, n1, n2, n3, n4⟩ := b4 m (by omega)
    rcases ix3 y 3 (by decide) with hy | ⟨kd, hkd, rfl⟩
    · refine out ?_ ?_
      · have y0 : ¬ y = 0 := out_ne (j := 0) (by decide) hy (by decide)
        have y1 : ¬ y = 1 := out_ne (j := 1) (by decide) hy (by decide)
        have y2 : ¬ y = 2 := out_ne (j := 2) (by decide) hy (by decide)
        simp [f_X2_isDeed, y0, y1, y2]
      · simp [f_X5_deed, A2, in02, in_out (a := 2) (by decide) w hy]
    · have T1 := in_in (a := 2) (j := kd) (by decide) (by omega) w
      have n01 : ¬ (1 : Int32) = 0 := by decide
      rcases (by omega : kd = 0 ∨ kd = 1 ∨ kd = 2) with rfl | rfl | rfl
      · rcases ix3 z 40 (by decide) with hz | ⟨o, ho, rfl⟩
        · refine out ?_ ?_
          · simp [f_X2_isDeed, mayBe_eq, hz, nI_0]
          · simp only [f_X5_deed, A2, in02, T1, Option.bind_some, in39_eq]
            rw [if_neg n01, if_neg n01, if_pos nI_0, if_pos hz, if_pos rfl]
        · have hz : ¬ (nI o < 0 ∨ nI 40 ≤ nI o) := fun q => q.elim (nI_pos (by omega)) (nI_ge ho (by decide))
          refine deedGood h hP hm n1 n2 n3 (kd := 0) (by omega) rfl ⟨fun _ => ⟨o, ho, rfl⟩, fun e => by omega⟩ ?_ ?_
          · simp only [f_X2_isDeed, mayBe_eq, Option.bind_some]
            rw [if_pos nI_0, if_neg hz, if_pos (Or.inr rfl)]
          · simp only [f_X5_deed, A2, in02, T1, Option.bind_some, in39_eq]
            rw [if_neg n01, if_neg n01, if_pos nI_0, if_neg hz, if_neg n01]
            unfold f_X5_deed_31
            rw [if_neg (show ¬ nI 0 = 1 by decide)]
      · rcases ix3 z M (by omega) with hz | ⟨o, ho, rfl⟩
        · refine out ?_ ?_
          · simp [f_X2_isDeed, hasModule_out a1 hz, n_1]
          · rw [deedY1 A2 (by rw [in02]; exact T1) (by decide) n_1 (isModule_out a2 (show M < 1000 by omega) hz), if_pos rfl]
        · refine deedGood h hP hm n1 n2 n3 (kd := 1) (by omega) rfl ⟨fun e => by omega, fun _ => ⟨o, ho, rfl⟩⟩ ?_ ?_
          · simp [f_X2_isDeed, hasModule_in a1 (show M < 1000 by omega) ho, n_1]
          · rw [deedY1 A2 (by rw [in02]; exact T1) (by decide) n_1 (isModule_in a2 (show M < 1000 by omega) ho), if_neg n01]
      · refine deedGood h hP hm n1 n2 n3 (kd := 2) (by omega) rfl ⟨fun e => by omega, fun e => by omega⟩ ?_ ?_
        · simp [f_X2_isDeed, n_2]
        · simp only [f_X5_deed, A2, in02, T1, Option.bind_some]
          rw [if_neg n01, if_neg n01, if_neg (show ¬ nI 2 = 0 by decide)]
          unfold f_X5_deed_31
          rw [if_neg (show ¬ nI 2 = 1 by decide)]
