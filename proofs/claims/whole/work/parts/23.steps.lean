/-- the reference's loop goes from w to w' -/
def Go (L : Nat) (w w' : fm_T) : Prop := ∃ n : Nat, ∀ u m : Nat, f_X5_runs_0 u (n + m) (nI L) w = f_X5_runs_0 u m (nI L) w'
theorem Go.rf {L : Nat} {w : fm_T} : Go L w w := ⟨0, fun u m => by rw [Nat.zero_add]⟩
theorem Go.tr {L : Nat} {a b c : fm_T} (h1 : Go L a b) (h2 : Go L b c) : Go L a c := by
  obtain ⟨n1, e1⟩ := h1
  obtain ⟨n2, e2⟩ := h2
  exact ⟨n1 + n2, fun u m => by rw [Nat.add_assoc, e1, e2]⟩
theorem chk2 {n N : Nat} (h : n < N) (hN : N < 1000) : ¬ (nI n < 0 ∨ N ≤ n) := fun q => q.elim (nI_pos (by omega)) (fun q => by omega)
theorem le3 {L : Nat} (h : L < 3) : ¬ (3 : Int32) ≤ nI L := nI_ge (b := 3) h (by decide)
theorem ge3 {L : Nat} (h : 3 ≤ L) (h2 : L < 1000) : (3 : Int32) ≤ nI L := nI_le (a := 3) h (by omega)
def DEC (w : fm_T) : fm_T := fm_u w 0 32 (w 0 32 - 1)
section STEPS
variable {L t : Nat} {w w' : fm_T} {r : Int32}
theorem Go.need (ht : t < 200) (hd : w 0 32 = nI (t + 1)) (h0 : w 22 t = 0) (h : f_X5_needs (nI L) (nI t) w = some (r, w')) : Go L w w' := by
  refine ⟨1, fun u m => ?_⟩
  have e : nI (t + 1) - 1 = nI t := nI_pred t
  rw [Nat.add_comm 1 m, f_X5_runs_0_s, hd, if_neg (nI_nle (by omega) (by omega)), e, if_neg (chk ht (by decide)), nI_cl (by omega), if_pos h0, h, Option.bind_some]
theorem Go.start (ht : t < 200) (hd : w 0 32 = nI (t + 1)) (h0 : w 22 t = 1) (h : f_X5_starts (nI L) (nI t) w = some (r, w')) : Go L w w' := by
  refine ⟨1, fun u m => ?_⟩
  have e : nI (t + 1) - 1 = nI t := nI_pred t
  have n0 : ¬ w 22 t = 0 := by rw [h0]; decide
  rw [Nat.add_comm 1 m, f_X5_runs_0_s, hd, if_neg (nI_nle (by omega) (by omega)), e, if_neg (chk ht (by decide)), nI_cl (by omega), if_neg n0, h, Option.bind_some]
theorem needs_0 (ht : t < 200) (hp : w 24 t = 0) : f_X5_needs (nI L) (nI t) w = (if w 23 t < w 0 8 then ((some (fm_u w 24 t 1) : Option fm_T).bind fun m13 => (if w 23 t < 0 ∨ 40 ≤ (w 23 t).toNatClampNeg then none else ((f_X5_push 1 (m13 8 ((w 23 t).toNatClampNeg)) m13).bind fun q16 => some (0, q16.2)))) else ((f_X5_fails 8 (w 23 t) w).bind fun q18 => ((some (fm_u q18.2 0 32 ((q18.2 0 32) - 1)) : Option fm_T).bind fun m20 => some (0, m20)))) := by
  unfold f_X5_needs
  rw [if_neg (chk ht (by decide)), nI_cl (by omega), if_pos hp]
theorem needs_miss {c K : Nat} (ht : t < 200) (hp : w 24 t = 0) (hc : w 23 t = nI c) (hK : w 0 8 = nI K) (h : K ≤ c) (hc40 : c < 40) : f_X5_needs (nI L) (nI t) w = some (0, DEC (FAILS 8 (nI c) w)) := by
  rw [needs_0 ht hp, hc, hK, if_neg (nI_nlt h (by omega)), fails_eq, Option.bind_some]
  rfl
theorem needs_push {c K : Nat} (ht : t < 199) (hd : w 0 32 = nI (t + 1)) (hp : w 24 t = 0) (hc : w 23 t = nI c) (hK : w 0 8 = nI K) (h : c < K) (hK40 : K ≤ 40) : f_X5_needs (nI L) (nI t) w = some (0, PUSH (t + 1) 1 (w 8 c) (fm_u w 24 t 1)) := by
  rw [needs_0 (by omega) hp, hc, hK, if_pos (nI_lt h (by omega)), Option.bind_some, if_neg (chk (show c < 40 by omega) (by decide)), nI_cl (by omega), push_eq (t := t + 1) (by omega) (by rw [upd_tag (by decide)]; exact hd), Option.bind_some, upd_tag (by decide)]
theorem needs_1 (ht : t < 200) (hp : w 24 t = 1) : f_X5_needs (nI L) (nI t) w = ((f_X5_looks (nI L) (nI t) (w 23 t) w).bind fun q => some (0, q.2)) := by
  have q1 : ¬ w 24 t = 0 := by rw [hp]; decide
  unfold f_X5_needs
  rw [if_neg (chk ht (by decide)), nI_cl (by omega), if_neg q1, if_pos hp]
theorem needs_2 (ht : t < 200) (hp : w 24 t = 2) : f_X5_needs (nI L) (nI t) w = ((f_X5_first (nI L) (nI t) (w 23 t) w).bind fun q => some (0, q.2)) := by
  have q1 : ¬ w 24 t = 0 := by rw [hp]; decide
  have q2 : ¬ w 24 t = 1 := by rw [hp]; decide
  unfold f_X5_needs
  rw [if_neg (chk ht (by decide)), nI_cl (by omega), if_neg q1, if_neg q2, if_pos hp]
theorem needs_3 (ht : t < 200) (hp : w 24 t = 3) : f_X5_needs (nI L) (nI t) w = ((f_X5_second (nI L) (nI t) (w 23 t) w).bind fun q => some (0, q.2)) := by
  have q1 : ¬ w 24 t = 0 := by rw [hp]; decide
  have q2 : ¬ w 24 t = 1 := by rw [hp]; decide
  have q3 : ¬ w 24 t = 2 := by rw [hp]; decide
  unfold f_X5_needs
  rw [if_neg (chk ht (by decide)), nI_cl (by omega), if_neg q1, if_neg q2, if_neg q3]
/-- looks -/
theorem looks_fault {c f : Nat} (hf : w 0 34 = nI f) (h0 : 0 < f) (h8 : f ≤ 8) : f_X5_looks (nI L) (nI t) (nI c) w = some (0, DEC w) := by
  unfold f_X5_looks
  rw [hf, if_neg (nI_nle h0 (by omega)), Option.bind_some]
  rfl
theorem ix40 (L c : Nat) : (40 : Int32) * nI L + nI c = nI (40 * L + c) := nI_ix (a := 40)
theorem ix12 (L c : Nat) : (12 : Int32) * nI L + nI c = nI (12 * L + c) := nI_ix (a := 12)
theorem ix8 (L c : Nat) : (8 : Int32) * nI L + nI c = nI (8 * L + c) := nI_ix (a := 8)
theorem ix6 (L c : Nat) : (6 : Int32) * nI L + nI c = nI (6 * L + c) := nI_ix (a := 6)
theorem ix96 (L m i : Nat) : (96 : Int32) * nI L + (8 : Int32) * nI m + nI i = nI (96 * L + 8 * m + i) := by
  have e8 : (8 : Int32) * nI m = nI (8 * m) := pk_mul 8 m
  have e9 : (96 : Int32) * nI L = nI (96 * L) := pk_mul 96 L
  rw [e8, e9, nI_add, nI_add]
theorem looks_0 {c : Nat} (hL : L < 5) (hc : c < 40) (hf : w 0 34 = 0) : f_X5_looks (nI L) (nI t) (nI c) w = (if w 15 (40 * L + c) = 2 then ((f_X5_gives (w 16 (40 * L + c)) w).bind fun q40 => ((some (fm_u q40.2 0 32 ((q40.2 0 32) - 1)) : Option fm_T).bind fun m42 => some (0, m42)))
 else (if w 15 (40 * L + c) = 3 then ((some (fm_u w 0 34 (w 16 (40 * L + c))) : Option fm_T).bind fun m30 => ((some (fm_u m30 0 35 (m30 17 (40 * L + c))) : Option fm_T).bind fun m32 => ((some (fm_u m32 0 36 (m32 18 (40 * L + c))) : Option fm_T).bind fun m34 => ((some (fm_u m34 0 37 (m34 19 (40 * L + c))) : Option fm_T).bind fun m36 => ((some (fm_u m36 0 32 ((m36 0 32) - 1)) : Option fm_T).bind fun m38 => some (0, m38))))))
 else (if w 15 (40 * L + c) = 1 then ((f_X5_fails 4 (nI c) w).bind fun q26 => ((some (fm_u q26.2 0 32 ((q26.2 0 32) - 1)) : Option fm_T).bind fun m28 => some (0, m28)))
 else ((some (fm_u w 15 (40 * L + c) 1) : Option fm_T).bind fun m7 => ((f_X5_mark 3 (nI c) m7).bind fun q9 => (if 3 ≤ nI L then ((some (fm_u q9.2 0 24 ((q9.2 0 24) + 0)) : Option fm_T).bind fun m12 => (if nI t < 0 ∨ 200 ≤ (nI t).toNatClampNeg then none
 else ((some (fm_u m12 24 (nI t).toNatClampNeg 2) : Option fm_T).bind fun m15 => ((f_X5_begins (nI L) (nI c) m15).bind fun q17 => some (0, q17.2)))))
 else ((some (fm_u q9.2 0 24 ((q9.2 0 24) + 1)) : Option fm_T).bind fun m19 => (if nI t < 0 ∨ 200 ≤ (nI t).toNatClampNeg then none
 else ((some (fm_u m19 24 (nI t).toNatClampNeg 2) : Option fm_T).bind fun m22 => ((f_X5_begins (nI L) (nI c) m22).bind fun q24 => some (0, q24.2))))))))))) := by
  unfold f_X5_looks
  rw [hf, if_pos (by decide), ix40, if_neg (chk (show 40 * L + c < 200 by omega) (by decide)), nI_cl (by omega)]
theorem looks_val {c : Nat} (hL : L < 5) (hc : c < 40) (hf : w 0 34 = 0) (hh : w 15 (40 * L + c) = 2) : f_X5_looks (nI L) (nI t) (nI c) w = some (0, DEC (GIVES (w 16 (40 * L + c)) w)) := by
  rw [looks_0 hL hc hf, if_pos hh, gives_eq, Option.bind_some]
  rfl
def KEPT (i : Nat) (w : fm_T) : fm_T := fm_u (fm_u (fm_u (fm_u w 0 34 (w 16 i)) 0 35 (w 17 i)) 0 36 (w 18 i)) 0 37 (w 19 i)
theorem looks_flt {c : Nat} (hL : L < 5) (hc : c < 40) (hf : w 0 34 = 0) (hh : w 15 (40 * L + c) = 3) : f_X5_looks (nI L) (nI t) (nI c) w = some (0, DEC (KEPT (40 * L + c) w)) := by
  have q : ¬ w 15 (40 * L + c) = 2 := by rw [hh]; decide
  rw [looks_0 hL hc hf, if_neg q, if_pos hh]
  simp only [Option.bind_some]
  rw [upd_tag (show 17 ≠ 0 by decide), upd_tag (show 18 ≠ 0 by decide), upd_tag (show 18 ≠ 0 by decide), upd_tag (show 19 ≠ 0 by decide), upd_tag (show 19 ≠ 0 by decide), upd_tag (show 19 ≠ 0 by decide)]
  rfl
theorem looks_end {c : Nat} (hL : L < 5) (hc : c < 40) (hf : w 0 34 = 0) (hh : w 15 (40 * L + c) = 1) : f_X5_looks (nI L) (nI t) (nI c) w = some (0, DEC (FAILS 4 (nI c) w)) := by
  have q : ¬ w 15 (40 * L + c) = 2 := by rw [hh]; decide
  have q2 : ¬ w 15 (40 * L + c) = 3 := by rw [hh]; decide
  rw [looks_0 hL hc hf, if_neg q, if_neg q2, if_pos hh, fails_eq, Option.bind_some]
  rfl
/-- the reference begins to work a constant: all but 'begins' -/
def WBEG (L t c : Nat) (w : fm_T) : fm_T := fm_u (fm_u (MARK 3 (nI c) (fm_u w 15 (40 * L + c) 1)) 0 24 (w 0 24 + (if L < 3 then 1 else 0))) 24 t 2
theorem looks_work {c n : Nat} (hL : L < 5) (hc : c < 40) (ht : t < 200) (hf : w 0 34 = 0) (hh : w 15 (40 * L + c) = 0) (hn : n ≤ 200) (h22 : w 0 22 = nI n) : f_X5_looks (nI L) (nI t) (nI c) w = ((f_X5_begins (nI L) (nI c) (WBEG L t c w)).bind fun q => some (0, q.2)) := by
  have q : ¬ w 15 (40 * L + c) = 2 := by rw [hh]; decide
  have q2 : ¬ w 15 (40 * L + c) = 3 := by rw [hh]; decide
  have q3 : ¬ w 15 (40 * L + c) = 1 := by rw [hh]; decide
  rw [looks_0 hL hc hf, if_neg q, if_neg q2, if_neg q3, Option.bind_some, mark_eq hn (by rw [upd_tag (by decide)]; exact h22), Option.bind_some]
  dsimp only
  rw [Option.bind_some, Option.bind_some, if_neg (chk ht (by decide)), nI_cl (by omega), Option.bind_some, Option.bind_some, mark_0 (by decide), upd_tag (by decide)]
  unfold WBEG
  rcases Nat.lt_or_ge L 3 with h3 | h3
  · rw [if_neg (le3 h3), if_pos h3, if_neg (chk2 ht (by decide))]
  · rw [if_pos (ge3 h3 (by omega)), if_neg (show ¬ L < 3 by omega)]
/-- ends -/
def ENDS (L c : Nat) (w : fm_T) : fm_T := DEC (MARK (if w 0 34 ≤ 0 then 4 else 5) (nI c) (fm_u (fm_u (fm_u (fm_u (fm_u w 15 (40 * L + c) (if w 0 34 ≤ 0 then 2 else 3)) 16 (40 * L + c) (if w 0 34 ≤ 0 then w 0 33 else w 0 34)) 17 (40 * L + c) (w 0 35)) 18 (40 * L + c) (w 0 36)) 19 (40 * L + c) (w 0 37)))
theorem ends_eq {c n : Nat} (hL : L < 5) (hc : c < 40) (hn : n ≤ 200) (h22 : w 0 22 = nI n) : f_X5_ends (nI L) (nI c) w = some (0, ENDS L c w) := by
  have g : ∀ (T : Nat) (x : Int32) (y : fm_T), T ≠ 0 → fm_u y T (40 * L + c) x 0 = y 0 := fun T x y h => upd_tag (Ne.symm h)
  unfold f_X5_ends
  rw [ix40, if_neg (chk (show 40 * L + c < 200 by omega) (by decide)), nI_cl (by omega)]
  by_cases h : w 0 34 ≤ 0
  · rw [if_pos h]
    simp only [Option.bind_some, g 15 _ _ (by decide), g 16 _ _ (by decide), g 17 _ _ (by decide), g 18 _ _ (by decide), g 19 _ _ (by decide)]
    rw [if_pos h, if_pos h, mark_eq hn (by rw [g 19 _ _ (by decide), g 18 _ _ (by decide), g 17 _ _ (by decide), g 16 _ _ (by decide), g 15 _ _ (by decide)]; exact h22), Option.bind_some]
    unfold ENDS
    rw [if_pos h, if_pos h, if_pos h]
    rfl
  · rw [if_neg h]
    simp only [Option.bind_some, g 15 _ _ (by decide), g 16 _ _ (by decide), g 17 _ _ (by decide), g 18 _ _ (by decide), g 19 _ _ (by decide)]
    rw [if_neg h, if_neg h, if_neg (chk2 (show 40 * L + c < 200 by omega) (by decide)), mark_eq hn (by rw [g 19 _ _ (by decide), g 18 _ _ (by decide), g 17 _ _ (by decide), g 16 _ _ (by decide), g 15 _ _ (by decide)]; exact h22), Option.bind_some]
    unfold ENDS
    rw [if_neg h, if_neg h, if_neg h]
    rfl
/-- breaks -/
def BREAKS (L m : Nat) (w : fm_T) : fm_T := DEC (fm_u (fm_u (MARK 2 (nI m) (fm_u w 13 (12 * L + m) 3)) 0 34 5) 0 35 (nI m))
theorem breaks_eq {m n : Nat} (hL : L < 5) (hm : m < 12) (hn : n ≤ 200) (h22 : w 0 22 = nI n) : f_X5_breaks (nI (12 * L + m)) (nI m) w = some (0, BREAKS L m w) := by
  unfold f_X5_breaks
  rw [if_neg (chk (show 12 * L + m < 60 by omega) (by decide)), nI_cl (by omega), Option.bind_some, mark_eq hn (by rw [upd_tag (by decide)]; exact h22), Option.bind_some]
  rfl
end STEPS
