theorem go_runs {L : Nat} {w w' : fm_T} (h : Go L w w') (h0 : w' 0 32 = 0) : ∃ u0, ∀ u, u0 ≤ u → f_X5_runs u (nI L) w = some (0, w') := by
  obtain ⟨n, e⟩ := h
  refine ⟨n + 1, fun u hu => ?_⟩
  obtain ⟨m, rfl⟩ : ∃ m, u = n + (m + 1) := ⟨u - n - 1, by omega⟩
  unfold f_X5_runs
  rw [e, f_X5_runs_0_s, if_pos (by rw [h0]; decide)]
theorem tn1 : ((1 : Int32).toNatClampNeg) = 1 := by decide
theorem tn2 : ((2 : Int32).toNatClampNeg) = 2 := by decide
theorem tn3 : ((3 : Int32).toNatClampNeg) = 3 := by decide
def ANS (a b c d : Int32) (w : fm_T) : fm_T := fm_u (fm_u (fm_u (fm_u w 21 0 a) 21 1 b) 21 2 c) 21 3 d
theorem ans_t {a b c d : Int32} {w : fm_T} {T : Nat} (h : T ≠ 21) : ANS a b c d w T = w T := by
  unfold ANS
  rw [upd_tag h, upd_tag h, upd_tag h, upd_tag h]
theorem ans_at {a b c d : Int32} {w : fm_T} : ANS a b c d w 21 0 = a ∧ ANS a b c d w 21 1 = b ∧ ANS a b c d w 21 2 = c ∧ ANS a b c d w 21 3 = d := by
  simp [ANS, fm_u_at]
theorem answers_good {w : fm_T} (h : w 0 34 = 0) : f_X5_answers w = some (1, ANS 0 0 0 0 w) := by
  have h' : w 0 34 ≤ 0 := by rw [h]; exact le00
  unfold f_X5_answers ANS
  rw [tn0, tn1, tn2, tn3]
  simp only [Option.bind_some, upd_tag (show 0 ≠ 21 by decide), if_pos h']
  rw [h]
theorem answers_bad {w : fm_T} {f : Nat} (h : w 0 34 = nI f) (f0 : 0 < f) (f8 : f ≤ 8) : f_X5_answers w = some (-10 - w 0 34, ANS (w 0 34) (w 0 35) (w 0 36) (w 0 37) w) := by
  have h' : ¬ w 0 34 ≤ 0 := by rw [h]; exact nI_nle f0 (by omega)
  unfold f_X5_answers ANS
  rw [tn0, tn1, tn2, tn3]
  simp only [Option.bind_some, upd_tag (show 0 ≠ 21 by decide), if_neg h']
theorem sum3 {s a0 a1 a2 b : Int32} (h : s = 0 + a0 + a1 + a2) : (s - a0 + b = 0 + b + a1 + a2) ∧ (s - a1 + b = 0 + a0 + b + a2) ∧ (s - a2 + b = 0 + a0 + a1 + b) := by
  subst h
  refine ⟨?_, ?_, ?_⟩ <;> grind
/-- the loaders after a call of need or start at loader k -/
theorem quiet {M K k : Nat} {β : Int32} {v w v0 w1 v' w' : fm_T} (hk : k < 3) (hQ : ∀ j, j < 3 → RLs j j v w ∧ RLc j j v w ∧ ∀ m, m < 12 → v (bo j) m ≠ 2) (hv0 : ∀ t, 65 ≤ t → v0 t = v t) (hw1 : ∀ T, 13 ≤ T → T ≤ 19 → w1 T = w T) (P : PO M K k k β v0 w1 v' w') (s2 : S2 k v0 v') : ∀ j, j < 3 → RLs j j v' w' ∧ RLc j j v' w' ∧ ∀ m, m < 12 → v' (bo j) m ≠ 2 := by
  have k4 : k < 4 := by omega
  intro j hj
  have j4 : j < 4 := by omega
  have hbj := bo_ge j4
  obtain ⟨q1, q2, q3⟩ := hQ j hj
  by_cases e : j = k
  · subst e
    refine ⟨P.1.2.1, P.1.2.2.1, fun m hm h2 => q3 m hm ?_⟩
    have := (s2 m hm).mp h2
    rw [hv0 _ (by omega)] at this
    exact this
  · have ap := bo_apart k4 j4 (Ne.symm e)
    have l1 := bo_lo j4 k4
    have e1 := bo_ev j4 k4
    obtain ⟨-, -, fv, ⟨f1, f2, f3, f4, f5, f6⟩, -⟩ := P
    have hv : ∀ t, bo j ≤ t → t < bo j + 57 → v' t = v t := fun t h1 h2 => by rw [fv t (by omega) (by omega) (by omega) (by omega) (by omega), hv0 t (by omega)]
    refine ⟨q1.cong (fun t h1 h2 => hv t (by omega) (by omega)) (fun i h1 h2 => by rw [f3 i (by omega), hw1 13 (by decide) (by decide)]) (fun i h1 h2 => by rw [f4 i (by omega), hw1 14 (by decide) (by decide)]), q2.cong (fun t ht => hv t (by rcases ht with rfl | ht <;> omega) (by rcases ht with rfl | ht <;> omega)) (fun T i h1 h2 h3 h4 => by rw [f5 T i h1 h2 (by omega), hw1 T (by omega) (by omega)]), fun m hm => by rw [hv _ (by omega) (by omega)]; exact q3 m hm⟩
/-- the end of a call of need or start -/
theorem fin_call {M K k : Nat} {v w v0 w1 v' w' v'' w'' : fm_T} (hk : k < 3) (h : RQ v w) (hv0 : ∀ t, t ≠ 62 → v0 t = v t) (hw1 : ∀ T, 13 ≤ T → T ≤ 21 → w1 T = w T) (hw0 : ∀ j, j ≠ 22 → j ≠ 23 → j ≠ 32 → w1 0 j = w 0 j) (P : PO M K k k (w 0 24 - v (lo k) 7) v0 w1 v' w') (s2 : S2 k v0 v') (d0 : w' 0 32 = 0)
    (hv2 : ∀ t, t ≠ 0 → t ≠ 240 → v'' t = v' t) (hw2 : ∀ T, T ≠ 0 → T ≠ 21 → w'' T = w' T) (hw20 : ∀ j, j ≠ 26 → w'' 0 j = w' 0 j) (h09 : v'' 0 9 = v' 0 9) (x1 : w'' 0 26 = v'' 0 4) (x2 : w'' 21 0 = v'' 240 1 ∧ w'' 21 1 = v'' 240 2 ∧ w'' 21 2 = v'' 240 3 ∧ w'' 21 3 = v'' 240 4) : RR v'' w'' := by
  have k4' : k < 4 := by omega
  have hbo := bo_out k4'
  have hbg := bo_ge k4'
  obtain ⟨hQ, hT, ⟨y1, ⟨n, n40, y2, y3⟩, y4, y5⟩, hd⟩ := h
  have Q := quiet hk hQ (fun t ht => hv0 t (by omega)) (fun T h1 h2 => hw1 T (by omega) (by omega)) P s2
  obtain ⟨⟨p1, p2, p3, p4⟩, pw, fv, ⟨f1, f2, f3, f4, f5, f6⟩, -⟩ := P
  have hl0 := bo_lo k4' (show 0 < 4 by decide)
  have hl1 := bo_lo k4' (show 1 < 4 by decide)
  have hl2 := bo_lo k4' (show 2 < 4 by decide)
  have hl := bo_lo k4' k4'
  have hlg := lo_ge k4'
  have hll := lo_le k4'
  have hev := ev_cases k4'
  have lk : lo k = 66 + 58 * k := by rcases (by omega : k = 0 ∨ k = 1 ∨ k = 2) with rfl | rfl | rfl <;> rfl
  have l0 : lo 0 = 66 := rfl
  have l1 : lo 1 = 124 := rfl
  have l2 : lo 2 = 182 := rfl
  have v0e : v' 0 = v 0 := by rw [fv 0 (by omega) (by omega) (by omega) (by omega) (by omega), hv0 0 (by omega)]
  have w024 : w'' 0 24 = w 0 24 - v (lo k) 7 + v' (lo k) 7 := by rw [hw20 24 (by decide)]; exact pw.1 hk
  have lj : ∀ j, j < 3 → j ≠ k → v' (lo j) = v (lo j) := fun j hj hjk => by
    have lj' : lo j = 66 + 58 * j := by rcases (by omega : j = 0 ∨ j = 1 ∨ j = 2) with rfl | rfl | rfl <;> rfl
    have := bo_lo k4' (show j < 4 by omega)
    have := lo_ev (show j < 4 by omega) k4'
    rw [fv _ (by omega) (by omega) (by omega) (by omega) (by omega), hv0 _ (by omega)]
  refine ⟨⟨M, K, p1.cong (fun t h1 h2 => hv2 t (by omega) (by omega)) (fun T h1 h2 => hw2 T (by omega) (by omega)) (hw20 0 (by decide)) (hw20 8 (by decide))⟩, fun j hj => ?_, p4.1.cong (hv2 _ (by decide) (by decide)) (hv2 _ (by decide) (by decide)) (hv2 _ (by decide) (by decide)) (hv2 _ (by decide) (by decide)) (hw2 _ (by decide) (by decide)) (hw20 _ (by decide)), ⟨x1, ⟨n, n40, by rw [h09, v0e]; exact y2, by rw [hw20 25 (by decide), f6 25 (by decide) (by decide) (by decide), hw0 25 (by decide) (by decide) (by decide)]; exact y3⟩, x2, ?_⟩, by rw [hw20 32 (by decide)]; exact d0⟩
  · obtain ⟨q1, q2, q3⟩ := Q j hj
    have hbj := bo_ge (show j < 4 by omega)
    have hbjo := bo_out (show j < 4 by omega)
    exact ⟨q1.cong (fun t h1 h2 => hv2 t (by omega) (by omega)) (fun i _ _ => by rw [hw2 13 (by decide) (by decide)]) (fun i _ _ => by rw [hw2 14 (by decide) (by decide)]), q2.cong (fun t ht => hv2 t (by rcases ht with rfl | ht <;> omega) (by rcases ht with rfl | ht <;> omega)) (fun T i h1 h2 _ _ => by rw [hw2 T (by omega) (by omega)]), fun m hm => by rw [hv2 _ (by omega) (by omega)]; exact q3 m hm⟩
  · have e0 : v'' (lo 0) = v' (lo 0) := hv2 _ (by omega) (by omega)
    have e1 : v'' (lo 1) = v' (lo 1) := hv2 _ (by omega) (by omega)
    have e2 : v'' (lo 2) = v' (lo 2) := hv2 _ (by omega) (by omega)
    rw [w024, e0, e1, e2]
    rcases (by omega : k = 0 ∨ k = 1 ∨ k = 2) with rfl | rfl | rfl
    · rw [lj 1 (by decide) (by decide), lj 2 (by decide) (by decide)]; exact (sum3 y5).1
    · rw [lj 0 (by decide) (by decide), lj 2 (by decide) (by decide)]; exact (sum3 y5).2.1
    · rw [lj 0 (by decide) (by decide), lj 1 (by decide) (by decide)]; exact (sum3 y5).2.2
/-- the beginning of a call of need or start -/
theorem beg_call {M K k : Nat} {a c : Int32} {v w : fm_T} (hk : k < 3) (hP : RP M K v w) (h : RQ v w) : SS M K k k (fm_u v 62 2 0) (PUSH 0 a c (fm_u (fm_u w 0 22 0) 0 23 1)) ∧ WK k (w 0 24 - v (lo k) 7) (fm_u v 62 2 0) (PUSH 0 a c (fm_u (fm_u w 0 22 0) 0 23 1)) ∧ (∀ t, t ≠ 62 → fm_u v 62 2 0 t = v t) ∧ (∀ T, 13 ≤ T → T ≤ 21 → PUSH 0 a c (fm_u (fm_u w 0 22 0) 0 23 1) T = w T) ∧ (∀ j, j ≠ 22 → j ≠ 23 → j ≠ 32 → PUSH 0 a c (fm_u (fm_u w 0 22 0) 0 23 1) 0 j = w 0 j) := by
  have k4' : k < 4 := by omega
  have hbg := bo_ge k4'
  have hlg := lo_ge k4'
  obtain ⟨hQ, hT, -, hd⟩ := h
  obtain ⟨q1, q2, q3⟩ := hQ k hk
  have h1 : ∀ t, t ≠ 62 → fm_u v 62 2 0 t = v t := fun t ht => upd_tag ht
  have h2 : ∀ T, 1 ≤ T → T ≤ 21 → PUSH 0 a c (fm_u (fm_u w 0 22 0) 0 23 1) T = w T := fun T a1 a2 => by rw [push_T (by omega) (by omega), upd_tag (by omega), upd_tag (by omega)]
  have h3 : ∀ j, j ≠ 22 → j ≠ 23 → j ≠ 32 → PUSH 0 a c (fm_u (fm_u w 0 22 0) 0 23 1) 0 j = w 0 j := fun j a1 a2 a3 => by rw [push_0 a3, fm_u_ne _ _ _ _ (Or.inr a2), fm_u_ne _ _ _ _ (Or.inr a1)]
  have h22 : PUSH 0 a c (fm_u (fm_u w 0 22 0) 0 23 1) 0 22 = 0 := by rw [push_0 (by decide), fm_u_ne _ _ _ _ (Or.inr (by decide)), fm_u_eq]
  have h23 : PUSH 0 a c (fm_u (fm_u w 0 22 0) 0 23 1) 0 23 = 1 := by rw [push_0 (by decide), fm_u_eq]
  refine ⟨⟨hP.cong (fun t _ _ => h1 t (by omega)) (fun T _ _ => h2 T (by omega) (by omega)) (h3 0 (by decide) (by decide) (by decide)) (h3 8 (by decide) (by decide) (by decide)), q1.cong (fun t _ _ => h1 t (by omega)) (fun i _ _ => by rw [h2 13 (by decide) (by decide)]) (fun i _ _ => by rw [h2 14 (by decide) (by decide)]), q2.cong (fun t ht => h1 t (by rcases ht with rfl | ht <;> omega)) (fun T i _ _ _ _ => by rw [h2 T (by omega) (by omega)]), ⟨⟨0, by omega, by rw [fm_u_eq, nI_0], by rw [h22, nI_0], fun i hi => by omega⟩, ?_⟩, Or.inl ⟨hk, h23⟩⟩, ⟨fun _ => ?_, fun e => by omega⟩, h1, fun T a1 a2 => h2 T (by omega) a2, h3⟩
  · obtain ⟨-, n', m1, m2⟩ := hT
    exact ⟨n', m1, by rw [h1 _ (by decide)]; exact m2⟩
  · rw [h3 24 (by decide) (by decide) (by decide), h1 _ (by omega)]
    grind
theorem ev_0 : ev 0 = 62 := rfl
theorem B_need {v w : fm_T} (h : RR v w) (x y : Int32) : ∃ u, Both (f_X4_need 220 x y) (f_X5_need u x y) v w := by
  obtain ⟨⟨M, K, hP⟩, hQ⟩ := id h
  obtain ⟨hM, hK, a1, a2, a3, a4⟩ := hP.1
  rcases ix3 x 3 (by decide) with hx | ⟨k, hk, rfl⟩
  · exact ⟨0, Both.same (r := -1) h (by unfold f_X4_need; rw [if_neg (ldC_out hx)]) (by unfold f_X5_need; rw [isLd_out hx, Option.bind_some]; dsimp only; rw [if_pos rfl])⟩
  · rcases ix3 y K (by omega) with hy | ⟨c, hc, rfl⟩
    · refine ⟨0, Both.same (r := -1) h ?_ ?_⟩
      · unfold f_X4_need
        rw [if_pos (ldC_in hk), hasConst_out a3 hy, Option.bind_some]
        dsimp only
        rw [if_pos rfl]
      · unfold f_X5_need
        rw [isLd_in hk, Option.bind_some]
        dsimp only
        rw [if_neg n10, a4, inlit0 (in0_out (by omega) hy), Option.bind_some]
        dsimp only
        rw [if_pos rfl]
    · have k4' : k < 4 := by omega
      have hbg := bo_ge k4'
      have hbo := bo_out k4'
      obtain ⟨b1, b2, b3, b4, b5⟩ := beg_call (a := 0) (c := nI c) hk hP hQ
      obtain ⟨p0, p1, p2, p3, p4⟩ := push_at (t := 0) (a := 0) (x := nI c) (w := fm_u (fm_u w 0 22 0) 0 23 1)
      obtain ⟨r, v', w', e1, e2, e3, e4, e5, e6, e7⟩ := (sim_all 220).1 M K k k 0 c (w 0 24 - v (lo k) 7) _ _ (Or.inl ⟨hk, rfl⟩) b1 b2 (by omega) (by omega) (by omega) p0 p1 p2 p3
      rw [nI_0] at e1 e6
      obtain ⟨u0, hu⟩ := go_runs e2 e6
      have ck := nI_cl (show k < 1000 by omega)
      refine ⟨u0, ?_⟩
      have hd : fm_u (fm_u w 0 22 0) 0 23 1 0 32 = nI 0 := by rw [fm_u_ne _ _ _ _ (Or.inr (by decide)), fm_u_ne _ _ _ _ (Or.inr (by decide)), nI_0]; exact hQ.2.2.2
      have FC : f_X4_need 220 (nI k) (nI c) v = (if r = 0 then ((f_X4_answer k r v').bind fun q13 => some (q13.1, q13.2)) else ((some (fm_u v' 0 4 (v' (bo k + 16) 0)) : Option fm_T).bind fun m15 => ((f_X4_answer k r m15).bind fun q17 => some (q17.1, q17.2)))) := by
        unfold f_X4_need
        rw [if_pos (ldC_in hk), hasConst_in a3 (by omega) hc, Option.bind_some]
        dsimp only
        rw [if_neg n10, clear_eq, Option.bind_some, ck, ev_0]
        dsimp only
        rw [e1, Option.bind_some]
      have FM : f_X5_need u0 (nI k) (nI c) w = (if w' 0 34 ≤ 0 then ((some (fm_u w' 0 26 (w' 0 33)) : Option fm_T).bind fun m17 => ((f_X5_answers  m17).bind fun q19 => some (q19.1, q19.2))) else ((some (fm_u w' 0 26 (w' 0 26)) : Option fm_T).bind fun m21 => ((f_X5_answers  m21).bind fun q23 => some (q23.1, q23.2)))) := by
        unfold f_X5_need
        rw [isLd_in hk, Option.bind_some]
        dsimp only
        rw [if_neg n10, a4, inlit (in0_in hc (by omega)), Option.bind_some]
        dsimp only
        rw [if_neg n10, Option.bind_some, Option.bind_some, push_eq (t := 0) (by decide) hd, Option.bind_some]
        dsimp only
        rw [hu u0 (Nat.le_refl _), Option.bind_some]
      rcases e7 with ⟨rfl, z1, z2, z3⟩ | ⟨rfl, ⟨f, f0, f8, z1, z2⟩, z3, z4, z5, z6⟩
      · refine ⟨1, SUCC 240 0 (fm_u v' 0 4 (v' (bo k + 16) 0)), ANS 0 0 0 0 (fm_u w' 0 26 (w' 0 33)), ?_, ?_, fin_call hk hQ b3 b4 b5 e3 e4 e6 (fun t g1 g2 => by rw [succ_t g2, upd_tag g1]) (fun T g1 g2 => by rw [ans_t g2, upd_tag g1]) (fun j g => by rw [ans_t (by decide), fm_u_ne _ _ _ _ (Or.inr g)]) ?_ ?_ ?_⟩
        · rw [FC, if_neg n10, Option.bind_some]
          unfold f_X4_answer
          rw [if_neg n10, succ_eq, Option.bind_some, Option.bind_some]
        · rw [FM, if_pos (by rw [z2]; exact le00), Option.bind_some, answers_good (by rw [fm_u_ne _ _ _ _ (Or.inr (by decide))]; exact z2), Option.bind_some]
        · rw [succ_t (by decide), fm_u_ne _ _ _ _ (Or.inr (by decide))]
        · rw [ans_t (by decide), fm_u_eq, succ_t (by decide), fm_u_eq]; exact z3
        · obtain ⟨s1, s2, s3, s4⟩ := ans_at (a := 0) (b := 0) (c := 0) (d := 0) (w := fm_u w' 0 26 (w' 0 33))
          refine ⟨?_, ?_, ?_, ?_⟩
          · rw [s1]; simp [SUCC, fm_u_at]
          · rw [s2]; simp [SUCC, fm_u_at]
          · rw [s3]; simp [SUCC, fm_u_at]
          · rw [s4]; simp [SUCC, fm_u_at]
      · have q26 : w' 0 26 = v' 0 4 := by
          have hev := ev_cases k4'
          have hlg := lo_ge k4'
          rw [e3.2.2.2.1.2.2.2.2.2 26 (by decide) (by decide) (by decide), b5 26 (by decide) (by decide) (by decide), e3.2.2.1 0 (by omega) (by omega) (by omega) (by omega) (by omega), b3 0 (by decide)]
          exact hQ.2.2.1.1
        obtain ⟨c0, c1, c2, c3, c4⟩ := copy_at (v := v') (b := 240) (d := bo k + 16)
        have hw26 : ∀ j, j ≠ 26 → fm_u w' 0 26 (w' 0 26) 0 j = w' 0 j := fun j g => fm_u_ne _ _ _ _ (Or.inr g)
        refine ⟨-10 - nI f, COPY 240 (bo k + 16) v', ANS (w' 0 34) (w' 0 35) (w' 0 36) (w' 0 37) (fm_u w' 0 26 (w' 0 26)), ?_, ?_, fin_call hk hQ b3 b4 b5 e3 e4 e6 (fun t g1 g2 => copy_t g2) (fun T g1 g2 => by rw [ans_t g2, upd_tag g1]) (fun j g => by rw [ans_t (by decide), fm_u_ne _ _ _ _ (Or.inr g)]) ?_ ?_ ?_⟩
        · rw [FC, if_pos rfl]
          unfold f_X4_answer
          rw [if_pos rfl, copy_eq (by omega), Option.bind_some, Option.bind_some]
          dsimp only
          rw [c1, z1]
        · rw [FM, if_neg (by rw [z2]; exact nI_nle f0 (by omega)), Option.bind_some, answers_bad (by rw [hw26 34 (by decide)]; exact z2) f0 f8, Option.bind_some, hw26 34 (by decide), hw26 35 (by decide), hw26 36 (by decide), hw26 37 (by decide)]
          dsimp only
          rw [z2]
        · rw [copy_t (by decide)]
        · rw [ans_t (by decide), fm_u_eq, copy_t (by decide)]; exact q26
        · obtain ⟨s1, s2, s3, s4⟩ := ans_at (a := w' 0 34) (b := w' 0 35) (c := w' 0 36) (d := w' 0 37) (w := fm_u w' 0 26 (w' 0 26))
          exact ⟨by rw [s1, c1, z1, z2], by rw [s2, c2]; exact z4, by rw [s3, c3]; exact z5, by rw [s4, c4]; exact z6⟩
theorem B_start {v w : fm_T} (h : RR v w) (x y : Int32) : ∃ u, Both (f_X4_start 220 x y) (f_X5_start u x y) v w := by
  obtain ⟨⟨M, K, hP⟩, hQ⟩ := id h
  obtain ⟨hM, hK, a1, a2, a3, a4⟩ := hP.1
  rcases ix3 x 3 (by decide) with hx | ⟨k, hk, rfl⟩
  · exact ⟨0, Both.same (r := -1) h (by unfold f_X4_start; rw [if_neg (ldC_out hx)]) (by unfold f_X5_start; rw [isLd_out hx, Option.bind_some]; dsimp only; rw [if_pos rfl])⟩
  · rcases ix3 y M (by omega) with hy | ⟨c, hc, rfl⟩
    · refine ⟨0, Both.same (r := -1) h ?_ ?_⟩
      · unfold f_X4_start
        rw [if_pos (ldC_in hk), hasModule_out a1 hy, Option.bind_some]
        dsimp only
        rw [if_pos rfl]
      · unfold f_X5_start
        rw [isLd_in hk, Option.bind_some]
        dsimp only
        rw [if_neg n10, isModule_out a2 (by omega) hy, Option.bind_some]
        dsimp only
        rw [if_pos rfl]
    · have k4' : k < 4 := by omega
      have hbg := bo_ge k4'
      have hbo := bo_out k4'
      obtain ⟨b1, b2, b3, b4, b5⟩ := beg_call (a := 1) (c := nI c) hk hP hQ
      obtain ⟨p0, p1, p2, p3, p4⟩ := push_at (t := 0) (a := 1) (x := nI c) (w := fm_u (fm_u w 0 22 0) 0 23 1)
      obtain ⟨r, v', w', e1, e2, e3, e4, e5, e6, e7⟩ := (sim_all 220).2 M K k k 0 c (w 0 24 - v (lo k) 7) _ _ (Or.inl ⟨hk, rfl⟩) b1 b2 (by omega) (by omega) (by omega) p0 p1 p2 p3 p4
      rw [nI_0] at e1 e6
      obtain ⟨u0, hu⟩ := go_runs e2 e6
      have ck := nI_cl (show k < 1000 by omega)
      refine ⟨u0, ?_⟩
      have hd : fm_u (fm_u w 0 22 0) 0 23 1 0 32 = nI 0 := by rw [fm_u_ne _ _ _ _ (Or.inr (by decide)), fm_u_ne _ _ _ _ (Or.inr (by decide)), nI_0]; exact hQ.2.2.2
      have FC : f_X4_start 220 (nI k) (nI c) v = ((f_X4_answer k r v').bind fun q12 => some (q12.1, q12.2)) := by
        unfold f_X4_start
        rw [if_pos (ldC_in hk), hasModule_in a1 (by omega) hc, Option.bind_some]
        dsimp only
        rw [if_neg n10, clear_eq, Option.bind_some, ck, ev_0]
        dsimp only
        rw [e1, Option.bind_some]
      have FM : f_X5_start u0 (nI k) (nI c) w = ((f_X5_answers  w').bind fun q16 => some (q16.1, q16.2)) := by
        unfold f_X5_start
        rw [isLd_in hk, Option.bind_some]
        dsimp only
        rw [if_neg n10, isModule_in a2 (by omega) hc, Option.bind_some]
        dsimp only
        rw [if_neg n10, Option.bind_some, Option.bind_some, push_eq (t := 0) (by decide) hd, Option.bind_some]
        dsimp only
        rw [hu u0 (Nat.le_refl _), Option.bind_some]
      have q26 : w' 0 26 = v' 0 4 := by
        have hev := ev_cases k4'
        have hlg := lo_ge k4'
        rw [e3.2.2.2.1.2.2.2.2.2 26 (by decide) (by decide) (by decide), b5 26 (by decide) (by decide) (by decide), e3.2.2.1 0 (by omega) (by omega) (by omega) (by omega) (by omega), b3 0 (by decide)]
        exact hQ.2.2.1.1
      rcases e7 with ⟨rfl, z2, -⟩ | ⟨rfl, ⟨f, f0, f8, z1, z2⟩, z3, z4, z5, z6⟩
      · refine ⟨1, SUCC 240 0 v', ANS 0 0 0 0 w', ?_, ?_, fin_call hk hQ b3 b4 b5 e3 e4 e6 (fun t g1 g2 => succ_t g2) (fun T g1 g2 => ans_t g2) (fun j g => by rw [ans_t (by decide)]) ?_ ?_ ?_⟩
        · rw [FC]
          unfold f_X4_answer
          rw [if_neg n10, succ_eq, Option.bind_some, Option.bind_some]
        · rw [FM, answers_good z2, Option.bind_some]
        · rw [succ_t (by decide)]
        · rw [ans_t (by decide), succ_t (by decide)]; exact q26
        · obtain ⟨s1, s2, s3, s4⟩ := ans_at (a := 0) (b := 0) (c := 0) (d := 0) (w := w')
          refine ⟨?_, ?_, ?_, ?_⟩
          · rw [s1]; simp [SUCC, fm_u_at]
          · rw [s2]; simp [SUCC, fm_u_at]
          · rw [s3]; simp [SUCC, fm_u_at]
          · rw [s4]; simp [SUCC, fm_u_at]
      · obtain ⟨c0, c1, c2, c3, c4⟩ := copy_at (v := v') (b := 240) (d := bo k + 16)
        refine ⟨-10 - nI f, COPY 240 (bo k + 16) v', ANS (w' 0 34) (w' 0 35) (w' 0 36) (w' 0 37) w', ?_, ?_, fin_call hk hQ b3 b4 b5 e3 e4 e6 (fun t g1 g2 => copy_t g2) (fun T g1 g2 => ans_t g2) (fun j g => by rw [ans_t (by decide)]) ?_ ?_ ?_⟩
        · rw [FC]
          unfold f_X4_answer
          rw [if_pos rfl, copy_eq (by omega), Option.bind_some, Option.bind_some]
          dsimp only
          rw [c1, z1]
        · rw [FM, answers_bad z2 f0 f8, Option.bind_some]
          dsimp only
          rw [z2]
        · rw [copy_t (by decide)]
        · rw [ans_t (by decide), copy_t (by decide)]; exact q26
        · obtain ⟨s1, s2, s3, s4⟩ := ans_at (a := w' 0 34) (b := w' 0 35) (c := w' 0 36) (d := w' 0 37) (w := w')
          exact ⟨by rw [s1, c1, z1, z2], by rw [s2, c2]; exact z4, by rw [s3, c3]; exact z5, by rw [s4, c4]; exact z6⟩
