/-- the class's clear, the reference's empties -/
theorem n12le {n : Nat} (h : n < 12) : ¬ (12 : Int32) ≤ nI n := nI_ge (b := 12) h (by decide)
theorem n40le {n : Nat} (h : n < 40) : ¬ (40 : Int32) ≤ nI n := nI_ge (b := 40) h (by decide)
theorem n12 : nI 12 = 12 := by decide
theorem n40 : nI 40 = 40 := by decide
theorem clear23 {k : Nat} : ∀ (j n : Nat) (v : fm_T), j ≤ 40 → 40 - j < n → ∃ V, f_X0_clear_23 n k (nI j) v = some (0, V) ∧ (∀ t, t ≠ bo k + 14 → V t = v t) ∧ (∀ i, j ≤ i → i < 40 → V (bo k + 14) i = 0) ∧ (∀ i, i < j ∨ 40 ≤ i → V (bo k + 14) i = v (bo k + 14) i) := by
  intro j n
  induction n generalizing j with
  | zero => intro v h1 h2; omega
  | succ n ih =>
    intro v h1 h2
    rw [f_X0_clear_23_s]
    rcases Nat.lt_or_ge j 40 with hj | hj
    · rw [if_neg (n40le hj), if_neg (chk hj (by decide)), Option.bind_some, nI_cl (by omega), nI_1]
      obtain ⟨V, e, p1, p2, p3⟩ := ih (j + 1) (fm_u v (bo k + 14) j 0) (by omega) (by omega)
      refine ⟨V, e, fun t ht => by rw [p1 t ht, upd_tag ht], fun i h3 h4 => ?_, fun i hi => ?_⟩
      · by_cases e2 : i = j
        · subst e2
          rw [p3 i (Or.inl (by omega)), fm_u_eq]
        · exact p2 i (by omega) h4
      · rw [p3 i (by omega), fm_u_ne _ _ _ _ (Or.inr (by omega))]
    · have e : j = 40 := by omega
      subst e
      rw [if_pos (by decide)]
      exact ⟨v, rfl, fun _ _ => rfl, fun i h3 h4 => by omega, fun _ _ => rfl⟩
theorem clear2 {k : Nat} : ∀ (j n : Nat) (v : fm_T), j ≤ 12 → 12 - j < n → ∃ V, f_X0_clear_2 n k (nI j) v = some (0, V) ∧ (∀ t, t ≠ bo k → t ≠ bo k + 14 → V t = v t) ∧ (∀ i, j ≤ i → i < 12 → V (bo k) i = 0) ∧ (∀ i, i < j ∨ 12 ≤ i → V (bo k) i = v (bo k) i) ∧ (∀ i, i < 40 → V (bo k + 14) i = 0) := by
  intro j n
  induction n generalizing j with
  | zero => intro v h1 h2; omega
  | succ n ih =>
    intro v h1 h2
    rw [f_X0_clear_2_s]
    rcases Nat.lt_or_ge j 12 with hj | hj
    · rw [if_neg (n12le hj), if_neg (chk hj (by decide)), Option.bind_some, nI_cl (by omega), nI_1]
      obtain ⟨V, e, p1, p2, p3, p4⟩ := ih (j + 1) (fm_u v (bo k) j 0) (by omega) (by omega)
      refine ⟨V, e, fun t ht ht2 => by rw [p1 t ht ht2, upd_tag ht], fun i h3 h4 => ?_, fun i hi => ?_, p4⟩
      · by_cases e2 : i = j
        · subst e2
          rw [p3 i (Or.inl (by omega)), fm_u_eq]
        · exact p2 i (by omega) h4
      · rw [p3 i (by omega), fm_u_ne _ _ _ _ (Or.inr (by omega))]
    · have e : j = 12 := by omega
      subst e
      rw [if_pos (by decide)]
      obtain ⟨V, e, p1, p2, p3⟩ := clear23 (k := k) 0 1000 v (by omega) (by omega)
      rw [nI_0] at e
      refine ⟨V, e, fun t _ ht => p1 t ht, fun i h3 h4 => by omega, fun i _ => by rw [p1 _ (by omega)], fun i hi => p2 i (by omega) hi⟩
theorem clearC (k : Nat) (v : fm_T) : ∃ V, f_X0_clear k v = some (0, V) ∧ (∀ t, t ≠ bo k → t ≠ bo k + 14 → V t = v t) ∧ (∀ i, i < 12 → V (bo k) i = 0) ∧ (∀ i, i < 40 → V (bo k + 14) i = 0) := by
  obtain ⟨V, e, p1, p2, p3, p4⟩ := clear2 (k := k) 0 1000 v (by omega) (by omega)
  rw [nI_0] at e
  exact ⟨V, e, p1, fun i hi => p2 i (by omega) hi, p4⟩
/-- how many of the first n are not 0 -/
def nz (f : Nat → Int32) : Nat → Nat
  | 0 => 0
  | n + 1 => nz f n + (if f n = 0 then 0 else 1)
theorem nz_le (f : Nat → Int32) (n : Nat) : nz f n ≤ n := by
  induction n with
  | zero => exact Nat.le_refl _
  | succ n ih =>
    show nz f n + _ ≤ n + 1
    by_cases h : f n = 0
    · rw [if_pos h]; omega
    · rw [if_neg h]; omega
theorem ended4 {k : Nat} {v : fm_T} (hs : ∀ m, m < 12 → v (bo k) m = 0 ∨ v (bo k) m = 1 ∨ v (bo k) m = 3) : ∀ (n j : Nat), j ≤ 12 → 12 - j < n → f_X0_countEnded_4 n k (nI (nz (v (bo k)) j)) (nI j) v = some (nI (nz (v (bo k)) 12), v) := by
  intro n
  induction n with
  | zero => intro j h1 h2; omega
  | succ n ih =>
    intro j h1 h2
    rw [f_X0_countEnded_4_s]
    rcases Nat.lt_or_ge j 12 with hj | hj
    · rw [if_neg (n12le hj), if_neg (chk hj (by decide)), nI_cl (by omega), nI_1, nI_1]
      have q03 : ¬ (0 : Int32) = 3 := by decide
      have q01 : ¬ (0 : Int32) = 1 := by decide
      have q31 : ¬ (3 : Int32) = 1 := by decide
      have := ih (j + 1) (by omega) (by omega)
      rcases hs j hj with h | h | h
      · rw [h, if_neg q01, if_neg q03]
        have e : nz (v (bo k)) (j + 1) = nz (v (bo k)) j := by show _ + (if _ then 0 else 1) = _; rw [if_pos h, Nat.add_zero]
        rw [e] at this
        exact this
      · rw [h, if_pos rfl]
        have e : nz (v (bo k)) (j + 1) = nz (v (bo k)) j + 1 := by show _ + (if _ then 0 else 1) = _; rw [if_neg (by rw [h]; decide)]
        rw [e] at this
        exact this
      · rw [h, if_neg q31, if_pos rfl]
        have e : nz (v (bo k)) (j + 1) = nz (v (bo k)) j + 1 := by show _ + (if _ then 0 else 1) = _; rw [if_neg (by rw [h]; decide)]
        rw [e] at this
        exact this
    · have e : j = 12 := by omega
      subst e
      rw [if_pos (by decide)]
theorem empt52 {L : Nat} (hL : L < 5) (x : Int32) : ∀ (j n : Nat) (w : fm_T), j ≤ 40 → 40 - j < n → ∃ W, f_X5_empties_52 n (nI L) x (nI j) w = some (x, W) ∧ (∀ t, t ≠ 15 → W t = w t) ∧ (∀ i, j ≤ i → i < 40 → W 15 (40 * L + i) = 0) ∧ (∀ i, i < 40 * L + j ∨ 40 * L + 40 ≤ i → W 15 i = w 15 i) := by
  intro j n
  induction n generalizing j with
  | zero => intro v h1 h2; omega
  | succ n ih =>
    intro w h1 h2
    rw [f_X5_empties_52_s]
    rcases Nat.lt_or_ge j 40 with hj | hj
    · have ix : (40 : Int32) * nI L + nI j = nI (40 * L + j) := nI_ix (a := 40)
      rw [if_neg (n40le hj), ix, if_neg (chk (show 40 * L + j < 200 by omega) (by decide)), Option.bind_some, nI_cl (by omega), nI_1]
      obtain ⟨W, e, p1, p2, p3⟩ := ih (j + 1) (fm_u w 15 (40 * L + j) 0) (by omega) (by omega)
      refine ⟨W, e, fun t ht => by rw [p1 t ht, upd_tag ht], fun i h3 h4 => ?_, fun i hi => ?_⟩
      · by_cases e2 : i = j
        · subst e2
          rw [p3 _ (Or.inl (by omega)), fm_u_eq]
        · exact p2 i (by omega) h4
      · rw [p3 i (by omega), fm_u_ne _ _ _ _ (Or.inr (by omega))]
    · have e : j = 40 := by omega
      subst e
      rw [if_pos (by decide)]
      exact ⟨w, rfl, fun _ _ => rfl, fun i h3 h4 => by omega, fun _ _ => rfl⟩
theorem empt4 {L : Nat} (hL : L < 5) : ∀ (n j : Nat) (w : fm_T) (g : Nat → Int32), (∀ i, j ≤ i → i < 12 → w 13 (12 * L + i) = g i) → j ≤ 12 → 12 - j < n → ∃ W, f_X5_empties_4 n (nI L) (nI (nz g j)) (nI j) w = some (nI (nz g 12), W) ∧ (∀ t, t ≠ 13 → t ≠ 15 → W t = w t) ∧ (∀ i, j ≤ i → i < 12 → W 13 (12 * L + i) = 0) ∧ (∀ i, i < 12 * L + j ∨ 12 * L + 12 ≤ i → W 13 i = w 13 i) ∧ (∀ i, i < 40 → W 15 (40 * L + i) = 0) ∧ (∀ i, i < 40 * L ∨ 40 * L + 40 ≤ i → W 15 i = w 15 i) := by
  intro n
  induction n with
  | zero => intro j w g _ h1 h2; omega
  | succ n ih =>
    intro j w g hg h1 h2
    rw [f_X5_empties_4_s]
    rcases Nat.lt_or_ge j 12 with hj | hj
    · have ix : (12 : Int32) * nI L + nI j = nI (12 * L + j) := nI_ix (a := 12)
      have z0 : nI (nz g j) + 0 = nI (nz g j) := by have := nI_add (nz g j) 0; rw [nI_0] at this; simpa using this
      rw [if_neg (n12le hj), ix, if_neg (chk (show 12 * L + j < 60 by omega) (by decide)), nI_cl (by omega), Option.bind_some, Option.bind_some, nI_1, nI_1, z0]
      obtain ⟨W, e, p1, p2, p3, p4, p5⟩ := ih (j + 1) (fm_u w 13 (12 * L + j) 0) g (fun i h3 h4 => by rw [fm_u_ne _ _ _ _ (Or.inr (by omega))]; exact hg i (by omega) h4) (by omega) (by omega)
      refine ⟨W, ?_, fun t ht ht2 => by rw [p1 t ht ht2, upd_tag ht], fun i h3 h4 => ?_, fun i hi => ?_, p4, fun i hi => by rw [p5 i hi, upd_tag (by decide)]⟩
      · have hgj := hg j (Nat.le_refl _) hj
        by_cases hz : w 13 (12 * L + j) = 0
        · rw [if_pos hz]
          have e9 : nz g (j + 1) = nz g j := by show _ + (if _ then 0 else 1) = _; rw [if_pos (by rw [← hgj]; exact hz), Nat.add_zero]
          rw [e9] at e
          exact e
        · rw [if_neg hz]
          have e9 : nz g (j + 1) = nz g j + 1 := by show _ + (if _ then 0 else 1) = _; rw [if_neg (by rw [← hgj]; exact hz)]
          rw [e9] at e
          exact e
      · by_cases e2 : i = j
        · subst e2
          rw [p3 _ (Or.inl (by omega)), fm_u_eq]
        · exact p2 i (by omega) h4
      · rw [p3 i (by omega), fm_u_ne _ _ _ _ (Or.inr (by omega))]
    · have e : j = 12 := by omega
      subst e
      rw [if_pos (by decide)]
      obtain ⟨W, e, p1, p2, p3⟩ := empt52 hL (nI (nz g 12)) 0 1000 w (by omega) (by omega)
      rw [nI_0] at e
      exact ⟨W, e, fun t _ ht => p1 t ht, fun i h3 h4 => by omega, fun i _ => by rw [p1 _ (by decide)], fun i hi => p2 i (by omega) hi, fun i hi => p3 i (by omega)⟩
theorem emptM {L : Nat} (hL : L < 5) (w : fm_T) : ∃ W, f_X5_empties (nI L) w = some (nI (nz (fun i => w 13 (12 * L + i)) 12), W) ∧ (∀ t, t ≠ 13 → t ≠ 15 → W t = w t) ∧ (∀ i, i < 12 → W 13 (12 * L + i) = 0) ∧ (∀ i, i < 12 * L ∨ 12 * L + 12 ≤ i → W 13 i = w 13 i) ∧ (∀ i, i < 40 → W 15 (40 * L + i) = 0) ∧ (∀ i, i < 40 * L ∨ 40 * L + 40 ≤ i → W 15 i = w 15 i) := by
  obtain ⟨W, e, p1, p2, p3, p4, p5⟩ := empt4 hL 1000 0 w (fun i => w 13 (12 * L + i)) (fun i _ _ => rfl) (by omega) (by omega)
  have z : nz (fun i => w 13 (12 * L + i)) 0 = 0 := rfl
  rw [z, nI_0] at e
  exact ⟨W, e, p1, fun i hi => p2 i (by omega) hi, fun i hi => p3 i (by omega), p4, p5⟩
theorem nz_congr {f g : Nat → Int32} {n : Nat} (h : ∀ i, i < n → f i = g i) : nz f n = nz g n := by
  induction n with
  | zero => rfl
  | succ n ih =>
    show nz f n + _ = nz g n + _
    rw [ih (fun i hi => h i (by omega)), h n (by omega)]
theorem bo_apart {k j : Nat} (hk : k < 4) (hj : j < 4) (h : k ≠ j) : bo k + 58 ≤ bo j ∨ bo j + 58 ≤ bo k := by
  rcases k4 hk with rfl | rfl | rfl | rfl <;> rcases k4 hj with rfl | rfl | rfl | rfl <;> simp [bo] at h ⊢
theorem bo_lo {k j : Nat} (hk : k < 4) (hj : j < 4) : lo j < bo k ∨ bo k + 57 ≤ lo j := by
  rcases k4 hk with rfl | rfl | rfl | rfl <;> rcases k4 hj with rfl | rfl | rfl | rfl <;> simp [bo, lo]
theorem bo_out {k : Nat} (hk : k < 4) : (bo k + 57 ≤ 240 ∨ 245 ≤ bo k) ∧ bo k + 57 ≤ 302 := by
  rcases k4 hk with rfl | rfl | rfl | rfl <;> simp [bo]
/-- an emptied loader -/
theorem RLs.empty {k L : Nat} {v w : fm_T} (h1 : ∀ i, i < 12 → v (bo k) i = 0) (h2 : ∀ i, i < 12 → w 13 (12 * L + i) = 0) : RLs k L v w := fun m hm => ⟨0, by omega, by rw [h1 m hm, nI_0], by rw [h2 m hm, nI_0], fun h => absurd rfl h⟩
theorem RLc.empty {k L : Nat} {v w : fm_T} (h1 : ∀ i, i < 40 → v (bo k + 14) i = 0) (h2 : ∀ i, i < 40 → w 15 (40 * L + i) = 0) : RLc k L v w := fun c hc => Or.inl ⟨h1 c hc, h2 c hc⟩
theorem RP.cong {M K : Nat} {v v' w w' : fm_T} (h : RP M K v w) (hv : ∀ t, 1 ≤ t → t ≤ 61 → v' t = v t) (hw : ∀ t, 1 ≤ t → t ≤ 12 → w' t = w t) (h0 : w' 0 0 = w 0 0) (h8 : w' 0 8 = w 0 8) : RP M K v' w' := by
  obtain ⟨⟨hM, hK, a1, a2, a3, a4⟩, b1, b2, b3, b4, b5⟩ := h
  refine ⟨⟨hM, hK, by rw [hv 1 (by decide) (by decide)]; exact a1, by rw [h0]; exact a2, by rw [hv 1 (by decide) (by decide)]; exact a3, by rw [h8]; exact a4⟩, fun m hm => ?_, fun m i hm hi => ?_, fun m hm => ?_, fun m hm => ?_, fun c hc => ?_⟩
  · rw [hv 2 (by decide) (by decide), hw 1 (by decide) (by decide)]; exact b1 m hm
  · rw [hv _ (by omega) (by omega), hw 2 (by decide) (by decide)]; exact b2 m i hm hi
  · exact (b3 m hm).cong (Nat.le_refl _) (by rw [hv 16 (by decide) (by decide)]) (hv _ (by omega) (by omega)) (by rw [hw 3 (by decide) (by decide)]) (fun j _ => by rw [hw 4 (by decide) (by decide)])
  · exact (b4 m hm).cong (Nat.le_refl _) (by rw [hv 30 (by decide) (by decide)]) (hv _ (by omega) (by omega)) (hv _ (by omega) (by omega)) (by rw [hw 5 (by decide) (by decide)]) (fun j _ => by rw [hw 6 (by decide) (by decide)]) (fun j _ => by rw [hw 7 (by decide) (by decide)])
  · exact (b5 c hc).cong (Nat.le_refl _) (fun t h1 h2 => by rw [hv t (by omega) (by omega)]) (fun t h1 h2 => by rw [hw t (by omega) (by omega)])
theorem B_forget {v w : fm_T} (h : RR v w) (x : Int32) : Both (f_X4_forget x) (f_X5_forget x) v w := by
  obtain ⟨⟨M, K, hP⟩, L, T, X, dz⟩ := id h
  rcases ix3 x 3 (by decide) with hx | ⟨k, hk, rfl⟩
  · exact Both.same (r := -1) h (by unfold f_X4_forget; rw [if_neg (ldC_out hx)]) (by unfold f_X5_forget; rw [isLd_out hx, Option.bind_some]; dsimp only; rw [if_pos rfl])
  · obtain ⟨l1, l2, l3⟩ := L k hk
    have ck := nI_cl (show k < 1000 by omega)
    obtain ⟨V, eV, v1, v2, v3⟩ := clearC k v
    obtain ⟨W, eW, w1, w2, w3, w4, w5⟩ := emptM (show k < 5 by omega) w
    have hs : ∀ m, m < 12 → v (bo k) m = 0 ∨ v (bo k) m = 1 ∨ v (bo k) m = 3 := by
      intro m hm
      obtain ⟨s, s1, s2, -⟩ := l1 m hm
      have := l3 m hm
      rw [s2] at this ⊢
      rcases (by omega : s = 0 ∨ s = 1 ∨ s = 2 ∨ s = 3) with rfl | rfl | rfl | rfl
      · exact Or.inl nI_0
      · exact Or.inr (Or.inl n_1)
      · exact absurd n_2 this
      · exact Or.inr (Or.inr n_3)
    have hE := ended4 hs 1000 0 (by omega) (by omega)
    have z : nz (v (bo k)) 0 = 0 := rfl
    rw [z, nI_0] at hE
    have hnz : nz (fun i => w 13 (12 * k + i)) 12 = nz (v (bo k)) 12 := nz_congr (fun i hi => by
      obtain ⟨s, s1, s2, s3, -⟩ := l1 i hi
      show w 13 (12 * k + i) = v (bo k) i
      rw [s2, s3])
    rw [hnz] at eW
    have hb := bo_ge (show k < 4 by omega)
    have hb2 := bo_out (show k < 4 by omega)
    refine ⟨nI (nz (v (bo k)) 12), V, W, ?_, ?_, ⟨M, K, hP.cong (fun t h1 h2 => v1 t (by omega) (by omega)) (fun t h1 h2 => w1 t (by omega) (by omega)) (by rw [w1 0 (by decide) (by decide)]) (by rw [w1 0 (by decide) (by decide)])⟩, fun j hj => ?_, T.cong (v1 _ (by omega) (by omega)) (v1 _ (by omega) (by omega)) (v1 _ (by omega) (by omega)) (v1 _ (by omega) (by omega)) (w1 _ (by decide) (by decide)) (by rw [w1 0 (by decide) (by decide)]), ?_, by rw [w1 0 (by decide) (by decide)]; exact dz⟩
    · unfold f_X4_forget
      rw [if_pos (ldC_in hk), ck]
      unfold f_X0_countEnded
      rw [hE, Option.bind_some]
      dsimp only
      rw [eV, Option.bind_some]
    · unfold f_X5_forget
      rw [isLd_in hk, Option.bind_some]
      dsimp only
      rw [if_neg n10, eW, Option.bind_some]
    · by_cases e : j = k
      · subst e
        exact ⟨RLs.empty v2 w2, RLc.empty v3 w4, fun m hm => by rw [v2 m hm]; decide⟩
      · have ap := bo_apart (show k < 4 by omega) (show j < 4 by omega) (Ne.symm e)
        obtain ⟨g1, g2, g3⟩ := L j hj
        refine ⟨g1.cong (fun t h1 h2 => v1 t (by omega) (by omega)) (fun i h1 h2 => w3 i (by omega)) (fun i h1 h2 => by rw [w1 14 (by decide) (by decide)]), g2.cong (fun t ht => v1 t (by rcases ht with rfl | ht <;> omega) (by rcases ht with rfl | ht <;> omega)) (fun T i h1 h2 h3 h4 => ?_), fun m hm => by rw [v1 _ (by omega) (by omega)]; exact g3 m hm⟩
        by_cases e15 : T = 15
        · subst e15
          exact w5 i (by omega)
        · rw [w1 T (by omega) e15]
    · have q0 := bo_lo (show k < 4 by omega) (show 0 < 4 by omega)
      have q1 := bo_lo (show k < 4 by omega) (show 1 < 4 by omega)
      have q2 := bo_lo (show k < 4 by omega) (show 2 < 4 by omega)
      exact X.cong (v1 _ (by omega) (by omega)) (v1 _ (by omega) (by omega)) (v1 _ (by omega) (by omega)) (v1 _ (by omega) (by omega)) (v1 _ (by omega) (by omega)) (w1 _ (by decide) (by decide)) (by rw [w1 0 (by decide) (by decide)]) (by rw [w1 0 (by decide) (by decide)]) (by rw [w1 0 (by decide) (by decide)])
