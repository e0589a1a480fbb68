section STARTS
variable {L t m : Nat} {w : fm_T}
theorem starts_00 (hL : L < 5) (hm : m < 12) (ht : t < 200) (hp : w 24 t = 0) (ho : w 23 t = nI m) : f_X5_starts (nI L) (nI t) w = (if w 13 (12 * L + m) = 3 then ((f_X5_fails 6 (nI m) w).bind fun q45 => ((some (fm_u q45.2 0 32 ((q45.2 0 32) - 1)) : Option fm_T).bind fun m47 => some (0, m47)))
 else (if w 13 (12 * L + m) = 0 then ((some (fm_u w 13 (12 * L + m) 2) : Option fm_T).bind fun m39 => f_X5_starts_94 1000 (nI L) (nI t) (nI m) (nI (12 * L + m)) 0 m39)
 else ((f_X5_gives 0 w).bind fun q41 => ((some (fm_u q41.2 0 32 ((q41.2 0 32) - 1)) : Option fm_T).bind fun m43 => some (0, m43))))) := by
  unfold f_X5_starts
  rw [if_neg (chk ht (by decide)), nI_cl (show t < 1000 by omega), if_pos hp, ho, ix12, if_neg (chk (show 12 * L + m < 60 by omega) (by decide)), nI_cl (by omega)]
theorem starts_gone (hL : L < 5) (hm : m < 12) (ht : t < 200) (hp : w 24 t = 0) (ho : w 23 t = nI m) (hs : w 13 (12 * L + m) = 3) : f_X5_starts (nI L) (nI t) w = some (0, DEC (FAILS 6 (nI m) w)) := by
  rw [starts_00 hL hm ht hp ho, if_pos hs, fails_eq, Option.bind_some]
  rfl
theorem starts_done (hL : L < 5) (hm : m < 12) (ht : t < 200) (hp : w 24 t = 0) (ho : w 23 t = nI m) (h3 : ¬ w 13 (12 * L + m) = 3) (h0 : ¬ w 13 (12 * L + m) = 0) : f_X5_starts (nI L) (nI t) w = some (0, DEC (GIVES 0 w)) := by
  rw [starts_00 hL hm ht hp ho, if_neg h3, if_neg h0, gives_eq, Option.bind_some]
  rfl
theorem n8le {n : Nat} (h : n < 8) : ¬ (8 : Int32) ≤ nI n := nI_ge (b := 8) h (by decide)
theorem starts94 {N : Nat} (hL : L < 5) (hm : m < 12) (ht : t < 200) (hN : N ≤ 200) (a : Int32) : ∀ (n j : Nat) (w : fm_T), w 0 22 = nI N → j ≤ 8 → 8 - j < n → ∃ W, f_X5_starts_94 n (nI L) (nI t) (nI m) a (nI j) w = some (0, fm_u (MARK 0 (nI m) W) 24 t 1) ∧ (∀ T, T ≠ 14 → W T = w T) ∧ (∀ i, j ≤ i → i < 8 → W 14 (96 * L + 8 * m + i) = w 2 (8 * m + i)) ∧ (∀ i, i < 96 * L + 8 * m + j ∨ 96 * L + 8 * m + 8 ≤ i → W 14 i = w 14 i) := by
  intro n
  induction n with
  | zero => intro j w _ h1 h2; omega
  | succ n ih =>
    intro j w h22 h1 h2
    rw [f_X5_starts_94_s]
    rcases Nat.lt_or_ge j 8 with hj | hj
    · rw [if_neg (n8le hj), ix8, ix96, if_neg (chk (show 8 * m + j < 96 by omega) (by decide)), if_neg (chk (show 96 * L + 8 * m + j < 480 by omega) (by decide)), Option.bind_some, nI_cl (show 96 * L + 8 * m + j < 1000 by omega), nI_cl (show 8 * m + j < 1000 by omega), nI_1]
      obtain ⟨W, e, p1, p2, p3⟩ := ih (j + 1) (fm_u w 14 (96 * L + 8 * m + j) (w 2 (8 * m + j))) (by rw [upd_tag (by decide)]; exact h22) (by omega) (by omega)
      refine ⟨W, e, fun T hT => by rw [p1 T hT, upd_tag hT], fun i h3 h4 => ?_, fun i hi => ?_⟩
      · by_cases e2 : i = j
        · subst e2
          rw [p3 _ (Or.inl (by omega)), fm_u_eq]
        · rw [p2 i (by omega) h4, upd_tag (by decide)]
      · rw [p3 i (by omega), fm_u_ne _ _ _ _ (Or.inr (by omega))]
    · have e : j = 8 := by omega
      subst e
      rw [if_pos (by decide), mark_eq hN h22, Option.bind_some]
      dsimp only
      rw [if_neg (chk ht (by decide)), nI_cl (by omega), Option.bind_some]
      exact ⟨w, rfl, fun _ _ => rfl, fun i h3 h4 => by omega, fun _ _ => rfl⟩
theorem starts_new {N : Nat} (hL : L < 5) (hm : m < 12) (ht : t < 200) (hN : N ≤ 200) (h22 : w 0 22 = nI N) (hp : w 24 t = 0) (ho : w 23 t = nI m) (h0 : w 13 (12 * L + m) = 0) : ∃ W, f_X5_starts (nI L) (nI t) w = some (0, fm_u (MARK 0 (nI m) W) 24 t 1) ∧ (∀ T, T ≠ 13 → T ≠ 14 → W T = w T) ∧ W 13 (12 * L + m) = 2 ∧ (∀ i, i ≠ 12 * L + m → W 13 i = w 13 i) ∧ (∀ i, i < 8 → W 14 (96 * L + 8 * m + i) = w 2 (8 * m + i)) ∧ (∀ i, i < 96 * L + 8 * m ∨ 96 * L + 8 * m + 8 ≤ i → W 14 i = w 14 i) := by
  have h3 : ¬ w 13 (12 * L + m) = 3 := by rw [h0]; decide
  rw [starts_00 hL hm ht hp ho, if_neg h3, if_pos h0, Option.bind_some]
  obtain ⟨W, e, p1, p2, p3⟩ := starts94 hL hm ht hN (nI (12 * L + m)) 1000 0 (fm_u w 13 (12 * L + m) 2) (by rw [upd_tag (by decide)]; exact h22) (by omega) (by omega)
  rw [nI_0] at e
  refine ⟨W, e, fun T h1 h2 => by rw [p1 T h2, upd_tag h1], by rw [p1 13 (by decide), fm_u_eq], fun i hi => by rw [p1 13 (by decide), fm_u_ne _ _ _ _ (Or.inr hi)], fun i hi => by rw [p2 i (by omega) hi, upd_tag (by decide)], fun i hi => by rw [p3 i (by omega), upd_tag (by decide)]⟩
theorem even2 : (2 : Int32) - 2 / 2 * 2 = 0 := by decide
theorem even4 : (4 : Int32) - 4 / 2 * 2 = 0 := by decide
theorem odd1 : ¬ (1 : Int32) - 1 / 2 * 2 = 0 := by decide
theorem odd3 : ¬ (3 : Int32) - 3 / 2 * 2 = 0 := by decide
theorem le00 : (0 : Int32) ≤ 0 := by decide
theorem starts_even_ok {p : Int32} (ht : t < 200) (hp : w 24 t = p) (h2 : p = 2 ∨ p = 4) (hf : w 0 34 = 0) : f_X5_starts (nI L) (nI t) w = some (0, fm_u (fm_u w 25 t (w 25 t + 1)) 24 t (p - 1)) := by
  have q0 : ¬ w 24 t = 0 := by rw [hp]; rcases h2 with rfl | rfl <;> decide
  have qe : w 24 t - w 24 t / 2 * 2 = 0 := by rw [hp]; rcases h2 with rfl | rfl <;> decide
  unfold f_X5_starts
  rw [if_neg (chk ht (by decide)), nI_cl (show t < 1000 by omega), if_neg q0, if_pos qe, hf, if_pos le00, Option.bind_some, Option.bind_some, upd_tag (show 24 ≠ 25 by decide), hp]
theorem starts_even_bad {p : Int32} {f N : Nat} (hL : L < 5) (hm : m < 12) (ht : t < 200) (hp : w 24 t = p) (h2 : p = 2 ∨ p = 4) (ho : w 23 t = nI m) (hf : w 0 34 = nI f) (f0 : 0 < f) (f8 : f ≤ 8) (hN : N ≤ 200) (h22 : w 0 22 = nI N) : f_X5_starts (nI L) (nI t) w = some (0, BREAKS L m w) := by
  have q0 : ¬ w 24 t = 0 := by rw [hp]; rcases h2 with rfl | rfl <;> decide
  have qe : w 24 t - w 24 t / 2 * 2 = 0 := by rw [hp]; rcases h2 with rfl | rfl <;> decide
  unfold f_X5_starts
  rw [if_neg (chk ht (by decide)), nI_cl (show t < 1000 by omega), if_neg q0, if_pos qe, hf, if_neg (nI_nle f0 (by omega)), ho, ix12, breaks_eq hL hm hN h22, Option.bind_some]
theorem starts_1 (ht : t < 200) (hm : m < 12) (hp : w 24 t = 1) (ho : w 23 t = nI m) : f_X5_starts (nI L) (nI t) w = (if w 3 m ≤ w 25 t then ((some (fm_u w 25 t 0) : Option fm_T).bind fun m20 => ((some (fm_u m20 24 t 3) : Option fm_T).bind fun m22 => some (0, m22)))
 else ((some (fm_u w 24 t 2) : Option fm_T).bind fun m24 => (if (6 * nI m) + (m24 25 t) < 0 ∨ 72 ≤ ((6 * nI m) + (m24 25 t)).toNatClampNeg then none
 else ((f_X5_push 1 (m24 4 (((6 * nI m) + (m24 25 t)).toNatClampNeg)) m24).bind fun q27 => some (0, q27.2))))) := by
  have q0 : ¬ w 24 t = 0 := by rw [hp]; decide
  have qe : ¬ w 24 t - w 24 t / 2 * 2 = 0 := by rw [hp]; exact odd1
  unfold f_X5_starts
  rw [if_neg (chk ht (by decide)), nI_cl (show t < 1000 by omega), if_neg q0, if_neg qe, if_pos hp, ho, if_neg (chk hm (by decide)), nI_cl (show m < 1000 by omega)]
theorem starts_1_end {n : Nat} (ht : t < 200) (hm : m < 12) (hp : w 24 t = 1) (ho : w 23 t = nI m) (hn : w 3 m = nI n) (hh : w 25 t = nI n) : f_X5_starts (nI L) (nI t) w = some (0, fm_u (fm_u w 25 t 0) 24 t 3) := by
  rw [starts_1 ht hm hp ho, if_pos (by rw [hn, hh]; exact Int32.le_refl _)]
  rfl
theorem starts_1_more {n j : Nat} (ht : t < 199) (hm : m < 12) (hd : w 0 32 = nI (t + 1)) (hp : w 24 t = 1) (ho : w 23 t = nI m) (hn : w 3 m = nI n) (n6 : n ≤ 6) (hh : w 25 t = nI j) (hj : j < n) : f_X5_starts (nI L) (nI t) w = some (0, PUSH (t + 1) 1 (w 4 (6 * m + j)) (fm_u w 24 t 2)) := by
  rw [starts_1 (by omega) hm hp ho, if_neg (by rw [hn, hh]; exact nI_ge hj (by omega)), Option.bind_some, upd_tag (show 25 ≠ 24 by decide), hh, ix6, if_neg (chk (show 6 * m + j < 72 by omega) (by decide)), nI_cl (by omega), push_eq (t := t + 1) (by omega) (by rw [upd_tag (by decide)]; exact hd), Option.bind_some, upd_tag (show 4 ≠ 24 by decide)]
theorem starts_3 (ht : t < 200) (hp : w 24 t = 3) (ho : w 23 t = nI m) : f_X5_starts (nI L) (nI t) w = ((f_X5_deeds (nI t) (nI m) (nI (12 * L + m)) w).bind fun q16 => some (0, q16.2)) := by
  have q0 : ¬ w 24 t = 0 := by rw [hp]; decide
  have qe : ¬ w 24 t - w 24 t / 2 * 2 = 0 := by rw [hp]; exact odd3
  have q1 : ¬ w 24 t = 1 := by rw [hp]; decide
  unfold f_X5_starts
  rw [if_neg (chk ht (by decide)), nI_cl (show t < 1000 by omega), if_neg q0, if_neg qe, if_neg q1, ho, ix12]
/-- the module is started -/
def SDONE (L m : Nat) (w : fm_T) : fm_T := DEC (GIVES 0 (MARK 1 (nI m) (fm_u w 13 (12 * L + m) 1)))
theorem starts_3_end {n N : Nat} (hL : L < 5) (hm : m < 12) (ht : t < 200) (hp : w 24 t = 3) (ho : w 23 t = nI m) (hn : w 5 m = nI n) (hh : w 25 t = nI n) (hN : N ≤ 200) (h22 : w 0 22 = nI N) : f_X5_starts (nI L) (nI t) w = some (0, SDONE L m w) := by
  rw [starts_3 ht hp ho]
  unfold f_X5_deeds
  rw [if_neg (chk ht (by decide)), nI_cl (show t < 1000 by omega), if_neg (chk hm (by decide)), nI_cl (show m < 1000 by omega), if_pos (by rw [hn, hh]), if_neg (chk (show 12 * L + m < 60 by omega) (by decide)), nI_cl (by omega), Option.bind_some, mark_eq hN (by rw [upd_tag (by decide)]; exact h22), Option.bind_some, gives_eq, Option.bind_some]
  rfl
theorem starts_3_x {n j : Nat} (hm : m < 12) (ht : t < 200) (hp : w 24 t = 3) (ho : w 23 t = nI m) (hn : w 5 m = nI n) (n6 : n ≤ 6) (hh : w 25 t = nI j) (hj : j < n) : f_X5_starts (nI L) (nI t) w = ((if w 6 (6 * m + j) = 2 then ((f_X5_fails 7 (w 7 (6 * m + j)) w).bind fun q11 => ((f_X5_breaks (nI (12 * L + m)) (nI m) q11.2).bind fun q13 => some (0, q13.2)))
 else ((some (fm_u w 24 t 4) : Option fm_T).bind fun m7 => ((f_X5_push (m7 6 (6 * m + j)) (m7 7 (6 * m + j)) m7).bind fun q9 => some (0, q9.2))) : Option (Int32 × fm_T)).bind fun q16 => some (0, q16.2)) := by
  have ne : ¬ nI j = nI n := fun q => by have := (nI_eq (show j < 2 ^ 31 by omega) (by omega)).mp q; omega
  rw [starts_3 ht hp ho]
  unfold f_X5_deeds
  rw [if_neg (chk ht (by decide)), nI_cl (show t < 1000 by omega), if_neg (chk hm (by decide)), nI_cl (show m < 1000 by omega), if_neg (by rw [hn, hh]; exact ne), hh, ix6, if_neg (chk (show 6 * m + j < 72 by omega) (by decide)), nI_cl (by omega)]
theorem starts_3_lib {n j N : Nat} (hL : L < 5) (hm : m < 12) (ht : t < 200) (hp : w 24 t = 3) (ho : w 23 t = nI m) (hn : w 5 m = nI n) (n6 : n ≤ 6) (hh : w 25 t = nI j) (hj : j < n) (hN : N ≤ 200) (h22 : w 0 22 = nI N) (hk : w 6 (6 * m + j) = 2) : f_X5_starts (nI L) (nI t) w = some (0, BREAKS L m (FAILS 7 (w 7 (6 * m + j)) w)) := by
  have e22 : FAILS 7 (w 7 (6 * m + j)) w 0 22 = nI N := by
    unfold FAILS
    rw [fm_u_ne _ _ _ _ (Or.inr (by decide)), fm_u_ne _ _ _ _ (Or.inr (by decide)), fm_u_ne _ _ _ _ (Or.inr (by decide)), fm_u_ne _ _ _ _ (Or.inr (by decide))]
    exact h22
  rw [starts_3_x hm ht hp ho hn n6 hh hj, if_pos hk, fails_eq, Option.bind_some]
  dsimp only
  rw [breaks_eq hL hm hN e22, Option.bind_some, Option.bind_some]
theorem starts_3_push {n j : Nat} (hm : m < 12) (ht : t < 199) (hd : w 0 32 = nI (t + 1)) (hp : w 24 t = 3) (ho : w 23 t = nI m) (hn : w 5 m = nI n) (n6 : n ≤ 6) (hh : w 25 t = nI j) (hj : j < n) (hk : ¬ w 6 (6 * m + j) = 2) : f_X5_starts (nI L) (nI t) w = some (0, PUSH (t + 1) (w 6 (6 * m + j)) (w 7 (6 * m + j)) (fm_u w 24 t 4)) := by
  rw [starts_3_x hm (by omega) hp ho hn n6 hh hj, if_neg hk, Option.bind_some, push_eq (t := t + 1) (by omega) (by rw [upd_tag (by decide)]; exact hd), Option.bind_some, Option.bind_some, upd_tag (show 6 ≠ 24 by decide), upd_tag (show 7 ≠ 24 by decide)]
end STARTS
