theorem shN_le {K : Nat} (h : K ≤ 40) : shN K ≤ 40 := by
  unfold shN
  by_cases e : K = 0
  · rw [if_pos e]; omega
  · rw [if_neg e]; exact h
theorem as_begin {M K L : Nat} {v w V W : fm_T} (hL : 3 ≤ L) (hP : RP M K v w) (hT : RT v w) (h23 : w 0 23 = 0) (v1 : ∀ t, t ≠ bo 3 → t ≠ bo 3 + 14 → V t = v t) (v2 : ∀ i, i < 12 → V (bo 3) i = 0) (v3 : ∀ i, i < 40 → V (bo 3 + 14) i = 0) (w1 : ∀ t, t ≠ 13 → t ≠ 15 → W t = w t) (w2 : ∀ i, i < 12 → W 13 (12 * L + i) = 0) (w3 : ∀ i, i < 12 * L ∨ 12 * L + 12 ≤ i → W 13 i = w 13 i) (w4 : ∀ i, i < 40 → W 15 (40 * L + i) = 0) (w5 : ∀ i, i < 40 * L ∨ 40 * L + 40 ≤ i → W 15 i = w 15 i) : SS M K 3 L V W ∧ AF v V ∧ AW w W := by
  have b3 : bo 3 = 245 := rfl
  refine ⟨⟨hP.cong (fun t _ _ => v1 t (by omega) (by omega)) (fun T _ _ => w1 T (by omega) (by omega)) (by rw [w1 0 (by decide) (by decide)]) (by rw [w1 0 (by decide) (by decide)]), RLs.empty v2 w2, RLc.empty v3 w4, hT.cong (v1 _ (by omega) (by omega)) (v1 _ (by omega) (by omega)) (v1 _ (by omega) (by omega)) (v1 _ (by omega) (by omega)) (w1 _ (by decide) (by decide)) (by rw [w1 0 (by decide) (by decide)]), Or.inr ⟨rfl, by rw [w1 0 (by decide) (by decide)]; exact h23⟩⟩, fun t ht => v1 t (by omega) (by omega), fun T hT => w1 T (by omega) (by omega), fun j hj => w3 j (by omega), fun j _ => by rw [w1 14 (by decide) (by decide)], fun T j h1 h2 h3 => ?_, fun j _ _ _ => by rw [w1 0 (by decide) (by decide)]⟩
  by_cases e : T = 15
  · subst e; exact w5 j (by omega)
  · rw [w1 T (by omega) e]
theorem B_alike {v w : fm_T} (h : RR v w) (x : Int32) : ∃ u, Both (f_X4_alike 220 x) (f_X5_alike u x) v w := by
  obtain ⟨⟨M, K, hP⟩, hQ, hT, ⟨y1, ⟨n, n40, y2, y3⟩, y4, y5⟩, hd⟩ := id h
  obtain ⟨hM, hK, a1, a2, a3, a4⟩ := hP.1
  rcases Nat.lt_or_ge n 40 with hn | hn
  · have b3 : bo 3 = 245 := rfl
    -- both begin
    generalize hv1 : fm_u v 0 9 (nI (n + 1)) = v1
    generalize hw1 : fm_u (fm_u w 0 25 (nI (n + 1))) 0 23 0 = w1
    have V1 : ∀ t, t ≠ 0 → v1 t = v t := fun t ht => by rw [← hv1, upd_tag ht]
    have W1 : ∀ T, T ≠ 0 → w1 T = w T := fun T hT => by rw [← hw1, upd_tag hT, upd_tag hT]
    have W10 : ∀ j, j ≠ 25 → j ≠ 23 → w1 0 j = w 0 j := fun j h1 h2 => by rw [← hw1, fm_u_ne _ _ _ _ (Or.inr h2), fm_u_ne _ _ _ _ (Or.inr h1)]
    have W123 : w1 0 23 = 0 := by rw [← hw1, fm_u_eq]
    have W125 : w1 0 25 = nI (n + 1) := by rw [← hw1, fm_u_ne _ _ _ _ (Or.inr (by decide)), fm_u_eq]
    have V109 : v1 0 9 = nI (n + 1) := by rw [← hv1, fm_u_eq]
    have V10 : ∀ j, j ≠ 9 → v1 0 j = v 0 j := fun j hj => by rw [← hv1, fm_u_ne _ _ _ _ (Or.inr hj)]
    obtain ⟨w2, m1, m2, m3, -, m4⟩ := idM hK 0 x 1000 0 w1 (by rw [W10 8 (by decide) (by decide)]; exact a4) (by omega) (by omega)
    have hP2 : RP M K v1 w2 := hP.cong (fun t h1 h2 => V1 t (by omega)) (fun T h1 h2 => by rw [m2 T (by omega), W1 T (by omega)]) (by rw [m2 0 (by decide), W10 0 (by decide) (by decide)]) (by rw [m2 0 (by decide), W10 8 (by decide) (by decide)])
    have hT2 : RT v1 w2 := hT.cong (V1 _ (by decide)) (V1 _ (by decide)) (V1 _ (by decide)) (V1 _ (by decide)) (by rw [m2 20 (by decide), W1 20 (by decide)]) (by rw [m2 0 (by decide), W10 22 (by decide) (by decide)])
    obtain ⟨V2, eV, c1, c2, c3⟩ := clearC 3 v1
    obtain ⟨W2, eW, g1, g2, g3, g4, g5⟩ := emptM (show 3 < 5 by decide) w2
    obtain ⟨S1, AF1, AW1⟩ := as_begin (L := 3) (by decide) hP2 hT2 (by rw [m2 0 (by decide)]; exact W123) c1 c2 c3 g1 g2 g3 g4 g5
    have WK1 : WK 3 (w 0 24) V2 W2 := ⟨fun q => by omega, fun _ => by rw [g1 0 (by decide) (by decide), m2 0 (by decide), W10 24 (by decide) (by decide)]⟩
    obtain ⟨v3, w3, u1, p1, p2, p3, p4, p5, p6, p7, p8, p9⟩ := pass1 (β := w 0 24) hK K 0 V2 W2 (by omega) (by omega) S1 WK1 (by rw [g1 0 (by decide) (by decide), m2 0 (by decide), W10 32 (by decide) (by decide)]; exact hd) (fun j hj => by rw [g1 26 (by decide) (by decide)]; exact m3 j (by omega) hj) (fun j hj => by omega)
    -- the order is mixed
    obtain ⟨v4, q1, q2, q3, -⟩ := idC hK x 1000 0 v3 p3.1.1.2.2.2.2.1 (by omega) (by omega)
    have pm4 : PM K (v4 302) := ⟨fun j hj => ⟨j, hj, q3 j (by omega) hj⟩, fun i j hi hj e => by
      rw [q3 i (by omega) hi, q3 j (by omega) hj] at e
      exact (nI_eq (by omega) (by omega)).mp e⟩
    obtain ⟨v5, w5, x', s1, s2, s3, s4, s5, s6⟩ := shufK hK x v4 w3 pm4 (fun j hj => by rw [q3 j (by omega) hj]; exact p6 j hj)
    have V5 : ∀ t, t ≠ 302 → v5 t = v3 t := fun t ht => by rw [s3 t ht, q2 t ht]
    have hP5 : RP M K v5 w5 := p3.1.cong (fun t h1 h2 => V5 t (by omega)) (fun T h1 h2 => s4 T (by omega)) (by rw [s4 0 (by decide)]) (by rw [s4 0 (by decide)])
    have hT5 : RT v5 w5 := p3.2.2.2.1.cong (V5 _ (by decide)) (V5 _ (by decide)) (V5 _ (by decide)) (V5 _ (by decide)) (s4 _ (by decide)) (by rw [s4 0 (by decide)])
    have h235 : w5 0 23 = 0 := by
      rw [s4 0 (by decide)]
      rcases p3.2.2.2.2 with ⟨q, _⟩ | ⟨_, q⟩
      · omega
      · exact q
    obtain ⟨V6, eV6, d1, d2, d3⟩ := clearC 3 v5
    obtain ⟨W6, eW6, f1, f2, f3, f4, f5⟩ := emptM (show 4 < 5 by decide) w5
    obtain ⟨S6, AF6, AW6⟩ := as_begin (L := 4) (by decide) hP5 hT5 h235 d1 d2 d3 f1 f2 f3 f4 f5
    have WK6 : WK 3 (w 0 24) V6 W6 := ⟨fun q => by omega, fun _ => by rw [f1 0 (by decide) (by decide), s4 0 (by decide)]; exact p4.2 rfl⟩
    obtain ⟨v7, w7, y, u2, r1, r2, r3, r4, r5, r6, r7, r8, r9⟩ := pass2 (β := w 0 24) hK K 0 V6 W6 0 (by omega) (by omega) S6 WK6 (by rw [f1 0 (by decide) (by decide), s4 0 (by decide)]; exact p5) (by rw [d1 302 (by decide) (by decide)]; exact s5) (fun j hj => by rw [d1 302 (by decide) (by decide), f1 26 (by decide) (by decide)]; exact s6 j hj) (fun c hc _ => (p7 c hc).cong (by rw [d1 303 (by decide) (by decide), V5 303 (by decide)]) (by rw [d1 304 (by decide) (by decide), V5 304 (by decide)]) (by rw [f1 27 (by decide) (by decide), s4 27 (by decide)]) (by rw [f1 28 (by decide) (by decide), s4 28 (by decide)]))
    obtain ⟨v8, w8, x'', t1, t2, t3, t4, -, -⟩ := shufK hK x' v7 w7 r6 r7
    have AFa : AF v1 v7 := AF1.tr (p8.tr (AF.tr (fun t ht => V5 t (by omega)) (AF6.tr r8)))
    have aw26 : ∀ {a b : fm_T}, (∀ T, T ≠ 26 → b T = a T) → AW a b := fun hh => ⟨fun T hT => hh T (by omega), fun j _ => by rw [hh 13 (by decide)], fun j _ => by rw [hh 14 (by decide)], fun T j h1 h2 _ => by rw [hh T (by omega)], fun j _ _ _ => by rw [hh 0 (by decide)]⟩
    have AWa : AW w1 w8 := (aw26 m2).tr (AW1.tr (p9.tr ((aw26 s4).tr (AW6.tr (r9.tr (aw26 t4))))))
    obtain ⟨A1, A2, A3, A4, A5⟩ := AWa
    refine ⟨max u1 u2, y, v7, w8, ?_, ?_, ⟨M, K, r3.1.cong (fun _ _ _ => rfl) (fun T h1 h2 => t4 T (by omega)) (by rw [t4 0 (by decide)]) (by rw [t4 0 (by decide)])⟩, fun j hj => ?_, r3.2.2.2.1.cong rfl rfl rfl rfl (t4 _ (by decide)) (by rw [t4 0 (by decide)]), ⟨?_, ⟨n + 1, by omega, by rw [AFa 0 (by decide)]; exact V109, by rw [A5 25 (by decide) (by decide) (by decide)]; exact W125⟩, ?_, ?_⟩, by rw [t4 0 (by decide)]; exact r5⟩
    · obtain ⟨z1, hz1⟩ : ∃ z1, 1000 = z1 + (K + 1) := ⟨1000 - (K + 1), by omega⟩
      have hsn := shN_le hK
      obtain ⟨z2, hz2⟩ : ∃ z2, 1000 = z2 + shN K := ⟨1000 - shN K, by omega⟩
      have e1 := p1 z1
      have e2 := s1 z2 x
      have e3 := r1 z1
      rw [← hz1, nI_0] at e1 e3
      rw [← hz2] at e2
      rw [nI_0] at q1
      unfold f_X4_alike
      rw [if_pos (by rw [y2]; exact nI_lt (b := 40) hn (by decide)), Option.bind_some, y2, nI_1, hv1]
      unfold f_X4_needByNumbers f_X4_mixOrder f_X4_countUnlike
      rw [eV, Option.bind_some]
      dsimp only
      rw [e1, Option.bind_some]
      dsimp only
      rw [q1, e2, Option.bind_some]
      dsimp only
      rw [eV6, Option.bind_some]
      dsimp only
      rw [e3, Option.bind_some]
    · have hsn := shN_le hK
      obtain ⟨z, hz⟩ : ∃ z, 1000 = (((((z + 1) + shN K) + (K + 1)) + 1) + shN K) + (K + 1) + 1 := ⟨1000 - (1 + shN K + (K + 1) + 1 + shN K + (K + 1) + 1), by omega⟩
      have e0 := m4 (max u1 u2)
      rw [nI_0] at e0
      unfold f_X5_alike
      rw [if_neg (by rw [y3]; exact fun q => by have := (nI_eq (b := 40) (by omega) (by decide)).mp q; omega), Option.bind_some, Option.bind_some, y3, nI_1, hw1, e0]
      have k1 := p2 (max u1 u2) (by omega)
      have k2 := s2 (max u1 u2)
      have k3 := r2 (max u1 u2) (by omega)
      have k4 := t2 (max u1 u2)
      rw [nI_0] at k1 k3
      rw [n_3] at k1
      rw [n_4] at k3
      have e34 : (3 : Int32) + 1 = 4 := by decide
      have e45 : (4 : Int32) + 1 = 5 := by decide
      rw [n_3] at eW
      rw [n_4] at eW6
      generalize max u1 u2 = U at k1 k2 k3 k4 ⊢
      have goal : f_X5_alike_S57 U ((((((z + 1) + shN K) + (K + 1)) + 1) + shN K) + (K + 1) + 1) 0 x 0 x 3 0 0 w2 = some (y, w8) := by
        rw [f_X5_alike_S57_s0, if_neg (by decide), eW, Option.bind_some]
        dsimp only
        rw [k1, k2, e34, f_X5_alike_S57_s0, if_neg (by decide), eW6, Option.bind_some]
        dsimp only
        rw [k3, k4, e45, f_X5_alike_S57_s0, if_pos (by decide)]
      rw [← hz] at goal
      exact goal
    · obtain ⟨o1, o2, o3⟩ := hQ j hj
      have hbj := bo_ge (show j < 4 by omega)
      have hbo := bo_out (show j < 4 by omega)
      have lj : bo j = 67 + 58 * j := by rcases (by omega : j = 0 ∨ j = 1 ∨ j = 2) with rfl | rfl | rfl <;> rfl
      have hv7 : ∀ t, 1 ≤ t → t ≤ 240 → v7 t = v t := fun t h1 h2 => by rw [AFa t h2, V1 t (by omega)]
      exact ⟨o1.cong (fun t h1 h2 => hv7 t (by omega) (by omega)) (fun i h1 h2 => by rw [A2 i (by omega), W1 13 (by decide)]) (fun i h1 h2 => by rw [A3 i (by omega), W1 14 (by decide)]), o2.cong (fun t ht => hv7 t (by rcases ht with rfl | ht <;> omega) (by rcases ht with rfl | ht <;> omega)) (fun T i h1 h2 h3 h4 => by rw [A4 T i h1 h2 (by omega), W1 T (by omega)]), fun m hm => by rw [hv7 _ (by omega) (by omega)]; exact o3 m hm⟩
    · rw [A5 26 (by decide) (by decide) (by decide), W10 26 (by decide) (by decide), AFa 0 (by decide), V10 4 (by decide)]; exact y1
    · rw [A1 21 (Or.inr rfl), W1 21 (by decide), AFa 240 (by decide), V1 240 (by decide)]; exact y4
    · have l0 : lo 0 = 66 := rfl
      have l1 : lo 1 = 124 := rfl
      have l2 : lo 2 = 182 := rfl
      rw [AFa (lo 0) (by omega), AFa (lo 1) (by omega), AFa (lo 2) (by omega), V1 (lo 0) (by omega), V1 (lo 1) (by omega), V1 (lo 2) (by omega), t4 0 (by decide), r4.2 rfl]
      exact y5
  · have e : n = 40 := by omega
    subst e
    refine ⟨0, Both.same (r := -2) h ?_ ?_⟩
    · unfold f_X4_alike
      rw [if_neg (by rw [y2]; decide)]
    · unfold f_X5_alike
      rw [if_pos (by rw [y3]; decide)]
