theorem n_4 : nI 4 = 4 := by decide
theorem n_5 : nI 5 = 5 := by decide
theorem n_6 : nI 6 = 6 := by decide
theorem n_7 : nI 7 = 7 := by decide
theorem n_8 : nI 8 = 8 := by decide
theorem n_9 : nI 9 = 9 := by decide
theorem n_10 : nI 10 = 10 := by decide
theorem n_11 : nI 11 = 11 := by decide
section KINDS
variable {L k c t : Nat} {v w : fm_T} {y : Int32} {g : GT}
theorem rk_0 (hc : c < 40) (h : v 58 c = 0) : f_X0_reckon g k (nI c) y v = ((f_X1_succeed (bo k + 16) (v 59 c) v).bind fun q4 => (if q4.1 = 0 ∨ q4.1 = 1 then some (q4.1, q4.2) else none)) := by
  unfold f_X0_reckon
  rw [if_neg (chk hc (by decide)), nI_cl (show c < 1000 by omega), if_pos h]
theorem rk_1 (hc : c < 40) (h : v 58 c = 1) : f_X0_reckon g k (nI c) y v = ((g 0 k (v 59 c) y 0 v).bind fun q8 => (if q8.1 = 0 then some (0, q8.2) else ((f_X1_succeed (bo k + 16) ((q8.2 (bo k + 16) 0) + (v 60 c)) q8.2).bind fun q11 => (if q11.1 = 0 then some (0, q11.2) else some (1, q11.2))))) := by
  have q0 : ¬ v 58 c = 0 := by rw [h]; decide
  unfold f_X0_reckon
  rw [if_neg (chk hc (by decide)), nI_cl (show c < 1000 by omega), if_neg q0, if_pos h]
theorem rk_2 (hc : c < 40) (h : v 58 c = 2) : f_X0_reckon g k (nI c) y v = ((g 4 k (v 59 c) (v 60 c) y v).bind fun q15 => (if q15.1 = 0 ∨ q15.1 = 1 then some (q15.1, q15.2) else none)) := by
  have q0 : ¬ v 58 c = 0 := by rw [h]; decide
  have q1 : ¬ v 58 c = 1 := by rw [h]; decide
  unfold f_X0_reckon
  rw [if_neg (chk hc (by decide)), nI_cl (show c < 1000 by omega), if_neg q0, if_neg q1, if_pos h]
theorem rk_3 (hc : c < 40) (h : v 58 c = 3) : f_X0_reckon g k (nI c) y v = ((g 5 k (v 59 c) (v 60 c) y v).bind fun q19 => (if q19.1 = 0 ∨ q19.1 = 1 then some (q19.1, q19.2) else none)) := by
  have q0 : ¬ v 58 c = 0 := by rw [h]; decide
  have q1 : ¬ v 58 c = 1 := by rw [h]; decide
  have q2 : ¬ v 58 c = 2 := by rw [h]; decide
  unfold f_X0_reckon
  rw [if_neg (chk hc (by decide)), nI_cl (show c < 1000 by omega), if_neg q0, if_neg q1, if_neg q2, if_pos h]
theorem rk_4 (hc : c < 40) (h : v 58 c = 4) : f_X0_reckon g k (nI c) y v = ((g 0 k (v 59 c) y 0 v).bind fun q23 => (if q23.1 = 0 then some (0, q23.2) else ((f_X0_readItem k (q23.2 57 c) (q23.2 (bo k + 16) 0) q23.2).bind fun q26 => (if q26.1 = 0 then some (0, q26.2) else some (1, q26.2))))) := by
  have q0 : ¬ v 58 c = 0 := by rw [h]; decide
  have q1 : ¬ v 58 c = 1 := by rw [h]; decide
  have q2 : ¬ v 58 c = 2 := by rw [h]; decide
  have q3 : ¬ v 58 c = 3 := by rw [h]; decide
  unfold f_X0_reckon
  rw [if_neg (chk hc (by decide)), nI_cl (show c < 1000 by omega), if_neg q0, if_neg q1, if_neg q2, if_neg q3, if_pos h]
theorem rk_5 (hc : c < 40) (h : v 58 c = 5) : f_X0_reckon g k (nI c) y v = ((g 0 k (v 59 c) y 0 v).bind fun q30 => (if q30.1 = 0 then ((f_X1_succeed (bo k + 16) (v 60 c) q30.2).bind fun q33 => (if q33.1 = 0 then some (0, q33.2) else some (1, q33.2))) else some (1, q30.2))) := by
  have q0 : ¬ v 58 c = 0 := by rw [h]; decide
  have q1 : ¬ v 58 c = 1 := by rw [h]; decide
  have q2 : ¬ v 58 c = 2 := by rw [h]; decide
  have q3 : ¬ v 58 c = 3 := by rw [h]; decide
  have q4 : ¬ v 58 c = 4 := by rw [h]; decide
  unfold f_X0_reckon
  rw [if_neg (chk hc (by decide)), nI_cl (show c < 1000 by omega), if_neg q0, if_neg q1, if_neg q2, if_neg q3, if_neg q4, if_pos h]
theorem rk_6 (hc : c < 40) (h : v 58 c = 6) : f_X0_reckon g k (nI c) y v = ((f_X1_fail (bo k + 16) 3 (v 59 c) v).bind fun q37 => (if q37.1 = 0 ∨ q37.1 = 1 then some (q37.1, q37.2) else none)) := by
  have q0 : ¬ v 58 c = 0 := by rw [h]; decide
  have q1 : ¬ v 58 c = 1 := by rw [h]; decide
  have q2 : ¬ v 58 c = 2 := by rw [h]; decide
  have q3 : ¬ v 58 c = 3 := by rw [h]; decide
  have q4 : ¬ v 58 c = 4 := by rw [h]; decide
  have q5 : ¬ v 58 c = 5 := by rw [h]; decide
  unfold f_X0_reckon
  rw [if_neg (chk hc (by decide)), nI_cl (show c < 1000 by omega), if_neg q0, if_neg q1, if_neg q2, if_neg q3, if_neg q4, if_neg q5, if_pos h]
theorem rk_7 (hc : c < 40) (h : v 58 c = 7) : f_X0_reckon g k (nI c) y v = ((g 0 k (v 59 c) y 0 v).bind fun q41 => (if q41.1 = 0 then some (0, q41.2) else (if q41.2 (bo k + 16) 0 = 0 then ((g 0 k (q41.2 61 c) y 0 q41.2).bind fun q45 => (if q45.1 = 0 then some (0, q45.2) else some (1, q45.2))) else ((g 0 k (v 60 c) y 0 q41.2).bind fun q48 => (if q48.1 = 0 then some (0, q48.2) else some (1, q48.2)))))) := by
  have q0 : ¬ v 58 c = 0 := by rw [h]; decide
  have q1 : ¬ v 58 c = 1 := by rw [h]; decide
  have q2 : ¬ v 58 c = 2 := by rw [h]; decide
  have q3 : ¬ v 58 c = 3 := by rw [h]; decide
  have q4 : ¬ v 58 c = 4 := by rw [h]; decide
  have q5 : ¬ v 58 c = 5 := by rw [h]; decide
  have q6 : ¬ v 58 c = 6 := by rw [h]; decide
  unfold f_X0_reckon
  rw [if_neg (chk hc (by decide)), nI_cl (show c < 1000 by omega), if_neg q0, if_neg q1, if_neg q2, if_neg q3, if_neg q4, if_neg q5, if_neg q6, if_pos h]
theorem rk_8 (hc : c < 40) (h : v 58 c = 8) : f_X0_reckon g k (nI c) y v = (if v 59 c < 0 ∨ 12 ≤ (v 59 c).toNatClampNeg then none else ((f_X1_succeed (bo k + 16) (v (bo k) ((v 59 c).toNatClampNeg)) v).bind fun q53 => (if q53.1 = 0 ∨ q53.1 = 1 then some (q53.1, q53.2) else none))) := by
  have q0 : ¬ v 58 c = 0 := by rw [h]; decide
  have q1 : ¬ v 58 c = 1 := by rw [h]; decide
  have q2 : ¬ v 58 c = 2 := by rw [h]; decide
  have q3 : ¬ v 58 c = 3 := by rw [h]; decide
  have q4 : ¬ v 58 c = 4 := by rw [h]; decide
  have q5 : ¬ v 58 c = 5 := by rw [h]; decide
  have q6 : ¬ v 58 c = 6 := by rw [h]; decide
  have q7 : ¬ v 58 c = 7 := by rw [h]; decide
  unfold f_X0_reckon
  rw [if_neg (chk hc (by decide)), nI_cl (show c < 1000 by omega), if_neg q0, if_neg q1, if_neg q2, if_neg q3, if_neg q4, if_neg q5, if_neg q6, if_neg q7, if_pos h]
theorem rk_9 (hc : c < 40) (h : v 58 c = 9) : f_X0_reckon g k (nI c) y v = ((f_X2_countConstants (v 59 c) v).bind fun q57 => ((f_X1_succeed (bo k + 16) q57.1 q57.2).bind fun q59 => (if q59.1 = 0 ∨ q59.1 = 1 then some (q59.1, q59.2) else none))) := by
  have q0 : ¬ v 58 c = 0 := by rw [h]; decide
  have q1 : ¬ v 58 c = 1 := by rw [h]; decide
  have q2 : ¬ v 58 c = 2 := by rw [h]; decide
  have q3 : ¬ v 58 c = 3 := by rw [h]; decide
  have q4 : ¬ v 58 c = 4 := by rw [h]; decide
  have q5 : ¬ v 58 c = 5 := by rw [h]; decide
  have q6 : ¬ v 58 c = 6 := by rw [h]; decide
  have q7 : ¬ v 58 c = 7 := by rw [h]; decide
  have q8 : ¬ v 58 c = 8 := by rw [h]; decide
  unfold f_X0_reckon
  rw [if_neg (chk hc (by decide)), nI_cl (show c < 1000 by omega), if_neg q0, if_neg q1, if_neg q2, if_neg q3, if_neg q4, if_neg q5, if_neg q6, if_neg q7, if_neg q8, if_pos h]
theorem rk_10 (hc : c < 40) (h : v 58 c = 10) : f_X0_reckon g k (nI c) y v = ((g 1 k (v 59 c) y 0 v).bind fun q63 => (if q63.1 = 0 then some (0, q63.2) else ((f_X1_succeed (bo k + 16) 1 q63.2).bind fun q66 => (if q66.1 = 0 then some (0, q66.2) else some (1, q66.2))))) := by
  have q0 : ¬ v 58 c = 0 := by rw [h]; decide
  have q1 : ¬ v 58 c = 1 := by rw [h]; decide
  have q2 : ¬ v 58 c = 2 := by rw [h]; decide
  have q3 : ¬ v 58 c = 3 := by rw [h]; decide
  have q4 : ¬ v 58 c = 4 := by rw [h]; decide
  have q5 : ¬ v 58 c = 5 := by rw [h]; decide
  have q6 : ¬ v 58 c = 6 := by rw [h]; decide
  have q7 : ¬ v 58 c = 7 := by rw [h]; decide
  have q8 : ¬ v 58 c = 8 := by rw [h]; decide
  have q9 : ¬ v 58 c = 9 := by rw [h]; decide
  unfold f_X0_reckon
  rw [if_neg (chk hc (by decide)), nI_cl (show c < 1000 by omega), if_neg q0, if_neg q1, if_neg q2, if_neg q3, if_neg q4, if_neg q5, if_neg q6, if_neg q7, if_neg q8, if_neg q9, if_pos h]
theorem rk_11 (hc : c < 40) (h : v 58 c = 11) : f_X0_reckon g k (nI c) y v = ((g 0 k (v 59 c) y 0 v).bind fun q70 => (if q70.1 = 0 then some (0, q70.2) else ((f_X0_writeItem k (q70.2 57 c) (v 60 c) (q70.2 (bo k + 16) 0) q70.2).bind fun q73 => (if q73.1 = 0 then some (0, q73.2) else some (1, q73.2))))) := by
  have q0 : ¬ v 58 c = 0 := by rw [h]; decide
  have q1 : ¬ v 58 c = 1 := by rw [h]; decide
  have q2 : ¬ v 58 c = 2 := by rw [h]; decide
  have q3 : ¬ v 58 c = 3 := by rw [h]; decide
  have q4 : ¬ v 58 c = 4 := by rw [h]; decide
  have q5 : ¬ v 58 c = 5 := by rw [h]; decide
  have q6 : ¬ v 58 c = 6 := by rw [h]; decide
  have q7 : ¬ v 58 c = 7 := by rw [h]; decide
  have q8 : ¬ v 58 c = 8 := by rw [h]; decide
  have q9 : ¬ v 58 c = 9 := by rw [h]; decide
  have q10 : ¬ v 58 c = 10 := by rw [h]; decide
  unfold f_X0_reckon
  rw [if_neg (chk hc (by decide)), nI_cl (show c < 1000 by omega), if_neg q0, if_neg q1, if_neg q2, if_neg q3, if_neg q4, if_neg q5, if_neg q6, if_neg q7, if_neg q8, if_neg q9, if_neg q10, if_pos h]
theorem bg_0 (hc : c < 40) (hL : L < 5) {n : Nat} (hn : n ≤ 200) (h22 : w 0 22 = nI n) (h : w 9 c = 0) : f_X5_begins (nI L) (nI c) w = some (0, ENDS L c (GIVES (w 10 c) w)) := by
  unfold f_X5_begins
  rw [if_neg (chk hc (by decide)), nI_cl (show c < 1000 by omega), if_pos h]
  rw [gives_eq, Option.bind_some]
  dsimp only
  rw [ends_eq hL hc hn (by rw [gives_0 (by decide) (by decide)]; exact h22), Option.bind_some]
theorem bg_1 (hc : c < 40) (ht : t < 199) (hd : w 0 32 = nI (t + 1)) (h : w 9 c = 1) : f_X5_begins (nI L) (nI c) w = some (0, PUSH (t + 1) 0 (w 10 c) w) := by
  have q0 : ¬ w 9 c = 0 := by rw [h]; decide
  unfold f_X5_begins
  rw [if_neg (chk hc (by decide)), nI_cl (show c < 1000 by omega), if_neg q0, if_pos h]
  rw [push_eq (t := t + 1) (by omega) hd, Option.bind_some]
theorem bg_2 (hc : c < 40) (ht : t < 199) (hd : w 0 32 = nI (t + 1)) (h : w 9 c = 2) : f_X5_begins (nI L) (nI c) w = some (0, PUSH (t + 1) 0 (w 10 c) w) := by
  have q0 : ¬ w 9 c = 0 := by rw [h]; decide
  have q1 : ¬ w 9 c = 1 := by rw [h]; decide
  unfold f_X5_begins
  rw [if_neg (chk hc (by decide)), nI_cl (show c < 1000 by omega), if_neg q0, if_neg q1, if_pos h]
  rw [push_eq (t := t + 1) (by omega) hd, Option.bind_some]
theorem bg_3 (hc : c < 40) (ht : t < 199) (hd : w 0 32 = nI (t + 1)) (h : w 9 c = 3) : f_X5_begins (nI L) (nI c) w = some (0, PUSH (t + 1) 0 (w 10 c) w) := by
  have q0 : ¬ w 9 c = 0 := by rw [h]; decide
  have q1 : ¬ w 9 c = 1 := by rw [h]; decide
  have q2 : ¬ w 9 c = 2 := by rw [h]; decide
  unfold f_X5_begins
  rw [if_neg (chk hc (by decide)), nI_cl (show c < 1000 by omega), if_neg q0, if_neg q1, if_neg q2, if_pos h]
  rw [push_eq (t := t + 1) (by omega) hd, Option.bind_some]
theorem bg_4 (hc : c < 40) (ht : t < 199) (hd : w 0 32 = nI (t + 1)) (h : w 9 c = 4) : f_X5_begins (nI L) (nI c) w = some (0, PUSH (t + 1) 0 (w 10 c) w) := by
  have q0 : ¬ w 9 c = 0 := by rw [h]; decide
  have q1 : ¬ w 9 c = 1 := by rw [h]; decide
  have q2 : ¬ w 9 c = 2 := by rw [h]; decide
  have q3 : ¬ w 9 c = 3 := by rw [h]; decide
  unfold f_X5_begins
  rw [if_neg (chk hc (by decide)), nI_cl (show c < 1000 by omega), if_neg q0, if_neg q1, if_neg q2, if_neg q3, if_pos h]
  rw [push_eq (t := t + 1) (by omega) hd, Option.bind_some]
theorem bg_5 (hc : c < 40) (ht : t < 199) (hd : w 0 32 = nI (t + 1)) (h : w 9 c = 5) : f_X5_begins (nI L) (nI c) w = some (0, PUSH (t + 1) 0 (w 10 c) w) := by
  have q0 : ¬ w 9 c = 0 := by rw [h]; decide
  have q1 : ¬ w 9 c = 1 := by rw [h]; decide
  have q2 : ¬ w 9 c = 2 := by rw [h]; decide
  have q3 : ¬ w 9 c = 3 := by rw [h]; decide
  have q4 : ¬ w 9 c = 4 := by rw [h]; decide
  unfold f_X5_begins
  rw [if_neg (chk hc (by decide)), nI_cl (show c < 1000 by omega), if_neg q0, if_neg q1, if_neg q2, if_neg q3, if_neg q4, if_pos h]
  rw [push_eq (t := t + 1) (by omega) hd, Option.bind_some]
theorem bg_6 (hc : c < 40) (hL : L < 5) {n : Nat} (hn : n ≤ 200) (h22 : w 0 22 = nI n) (h : w 9 c = 6) : f_X5_begins (nI L) (nI c) w = some (0, ENDS L c (FAILS 3 (w 10 c) w)) := by
  have q0 : ¬ w 9 c = 0 := by rw [h]; decide
  have q1 : ¬ w 9 c = 1 := by rw [h]; decide
  have q2 : ¬ w 9 c = 2 := by rw [h]; decide
  have q3 : ¬ w 9 c = 3 := by rw [h]; decide
  have q4 : ¬ w 9 c = 4 := by rw [h]; decide
  have q5 : ¬ w 9 c = 5 := by rw [h]; decide
  unfold f_X5_begins
  rw [if_neg (chk hc (by decide)), nI_cl (show c < 1000 by omega), if_neg q0, if_neg q1, if_neg q2, if_neg q3, if_neg q4, if_neg q5, if_pos h]
  rw [fails_eq, Option.bind_some]
  dsimp only
  rw [ends_eq hL hc hn (by rw [fails_0 (by omega)]; exact h22), Option.bind_some]
theorem bg_7 (hc : c < 40) (ht : t < 199) (hd : w 0 32 = nI (t + 1)) (h : w 9 c = 7) : f_X5_begins (nI L) (nI c) w = some (0, PUSH (t + 1) 0 (w 10 c) w) := by
  have q0 : ¬ w 9 c = 0 := by rw [h]; decide
  have q1 : ¬ w 9 c = 1 := by rw [h]; decide
  have q2 : ¬ w 9 c = 2 := by rw [h]; decide
  have q3 : ¬ w 9 c = 3 := by rw [h]; decide
  have q4 : ¬ w 9 c = 4 := by rw [h]; decide
  have q5 : ¬ w 9 c = 5 := by rw [h]; decide
  have q6 : ¬ w 9 c = 6 := by rw [h]; decide
  unfold f_X5_begins
  rw [if_neg (chk hc (by decide)), nI_cl (show c < 1000 by omega), if_neg q0, if_neg q1, if_neg q2, if_neg q3, if_neg q4, if_neg q5, if_neg q6, if_pos h]
  rw [push_eq (t := t + 1) (by omega) hd, Option.bind_some]
theorem bg_8 (hc : c < 40) (hL : L < 5) {n a : Nat} (hn : n ≤ 200) (h22 : w 0 22 = nI n) (ha : w 10 c = nI a) (ha2 : a < 12) (h : w 9 c = 8) : f_X5_begins (nI L) (nI c) w = some (0, ENDS L c (GIVES (w 13 (12 * L + a)) w)) := by
  have q0 : ¬ w 9 c = 0 := by rw [h]; decide
  have q1 : ¬ w 9 c = 1 := by rw [h]; decide
  have q2 : ¬ w 9 c = 2 := by rw [h]; decide
  have q3 : ¬ w 9 c = 3 := by rw [h]; decide
  have q4 : ¬ w 9 c = 4 := by rw [h]; decide
  have q5 : ¬ w 9 c = 5 := by rw [h]; decide
  have q6 : ¬ w 9 c = 6 := by rw [h]; decide
  have q7 : ¬ w 9 c = 7 := by rw [h]; decide
  unfold f_X5_begins
  rw [if_neg (chk hc (by decide)), nI_cl (show c < 1000 by omega), if_neg q0, if_neg q1, if_neg q2, if_neg q3, if_neg q4, if_neg q5, if_neg q6, if_neg q7, if_pos h]
  rw [ha, ix12, if_neg (chk (show 12 * L + a < 60 by omega) (by decide)), nI_cl (show 12 * L + a < 1000 by omega), gives_eq, Option.bind_some]
  dsimp only
  rw [ends_eq hL hc hn (by rw [gives_0 (by decide) (by decide)]; exact h22), Option.bind_some]
theorem bg_9 (hc : c < 40)  (h : w 9 c = 9) : f_X5_begins (nI L) (nI c) w = f_X5_begins_131 1000 (nI L) (nI c) (w 10 c) 0 0 w := by
  have q0 : ¬ w 9 c = 0 := by rw [h]; decide
  have q1 : ¬ w 9 c = 1 := by rw [h]; decide
  have q2 : ¬ w 9 c = 2 := by rw [h]; decide
  have q3 : ¬ w 9 c = 3 := by rw [h]; decide
  have q4 : ¬ w 9 c = 4 := by rw [h]; decide
  have q5 : ¬ w 9 c = 5 := by rw [h]; decide
  have q6 : ¬ w 9 c = 6 := by rw [h]; decide
  have q7 : ¬ w 9 c = 7 := by rw [h]; decide
  have q8 : ¬ w 9 c = 8 := by rw [h]; decide
  unfold f_X5_begins
  rw [if_neg (chk hc (by decide)), nI_cl (show c < 1000 by omega), if_neg q0, if_neg q1, if_neg q2, if_neg q3, if_neg q4, if_neg q5, if_neg q6, if_neg q7, if_neg q8, if_pos h]
theorem bg_10 (hc : c < 40) (ht : t < 199) (hd : w 0 32 = nI (t + 1)) (h : w 9 c = 10) : f_X5_begins (nI L) (nI c) w = some (0, PUSH (t + 1) 1 (w 10 c) w) := by
  have q0 : ¬ w 9 c = 0 := by rw [h]; decide
  have q1 : ¬ w 9 c = 1 := by rw [h]; decide
  have q2 : ¬ w 9 c = 2 := by rw [h]; decide
  have q3 : ¬ w 9 c = 3 := by rw [h]; decide
  have q4 : ¬ w 9 c = 4 := by rw [h]; decide
  have q5 : ¬ w 9 c = 5 := by rw [h]; decide
  have q6 : ¬ w 9 c = 6 := by rw [h]; decide
  have q7 : ¬ w 9 c = 7 := by rw [h]; decide
  have q8 : ¬ w 9 c = 8 := by rw [h]; decide
  have q9 : ¬ w 9 c = 9 := by rw [h]; decide
  unfold f_X5_begins
  rw [if_neg (chk hc (by decide)), nI_cl (show c < 1000 by omega), if_neg q0, if_neg q1, if_neg q2, if_neg q3, if_neg q4, if_neg q5, if_neg q6, if_neg q7, if_neg q8, if_neg q9, if_pos h]
  rw [push_eq (t := t + 1) (by omega) hd, Option.bind_some]
theorem bg_11 (hc : c < 40) (ht : t < 199) (hd : w 0 32 = nI (t + 1)) (h : w 9 c = 11) : f_X5_begins (nI L) (nI c) w = some (0, PUSH (t + 1) 0 (w 10 c) w) := by
  have q0 : ¬ w 9 c = 0 := by rw [h]; decide
  have q1 : ¬ w 9 c = 1 := by rw [h]; decide
  have q2 : ¬ w 9 c = 2 := by rw [h]; decide
  have q3 : ¬ w 9 c = 3 := by rw [h]; decide
  have q4 : ¬ w 9 c = 4 := by rw [h]; decide
  have q5 : ¬ w 9 c = 5 := by rw [h]; decide
  have q6 : ¬ w 9 c = 6 := by rw [h]; decide
  have q7 : ¬ w 9 c = 7 := by rw [h]; decide
  have q8 : ¬ w 9 c = 8 := by rw [h]; decide
  have q9 : ¬ w 9 c = 9 := by rw [h]; decide
  have q10 : ¬ w 9 c = 10 := by rw [h]; decide
  unfold f_X5_begins
  rw [if_neg (chk hc (by decide)), nI_cl (show c < 1000 by omega), if_neg q0, if_neg q1, if_neg q2, if_neg q3, if_neg q4, if_neg q5, if_neg q6, if_neg q7, if_neg q8, if_neg q9, if_neg q10]
  rw [push_eq (t := t + 1) (by omega) hd, Option.bind_some]
theorem fi_1 (hc : c < 40) (hf : w 0 34 = 0) (hL : L < 5) {n : Nat} (hn : n ≤ 200) (h22 : w 0 22 = nI n) (h : w 9 c = 1) : f_X5_first (nI L) (nI t) (nI c) w = some (0, ENDS L c (GIVES (w 0 33 + w 11 c) w)) := by
  unfold f_X5_first
  rw [if_neg (chk hc (by decide)), nI_cl (show c < 1000 by omega), if_pos (show w 0 34 ≤ 0 by rw [hf]; exact le00), if_pos h]
  rw [gives_eq, Option.bind_some]
  dsimp only
  rw [ends_eq hL hc hn (by rw [gives_0 (by decide) (by decide)]; exact h22), Option.bind_some]
theorem fi_2 (hc : c < 40) (hf : w 0 34 = 0) (ht : t < 199) (hd : w 0 32 = nI (t + 1)) (h : w 9 c = 2) : f_X5_first (nI L) (nI t) (nI c) w = some (0, PUSH (t + 1) 0 (w 11 c) (fm_u (fm_u w 25 t (w 0 33)) 24 t 3)) := by
  have q1 : ¬ w 9 c = 1 := by rw [h]; decide
  unfold f_X5_first
  rw [if_neg (chk hc (by decide)), nI_cl (show c < 1000 by omega), if_pos (show w 0 34 ≤ 0 by rw [hf]; exact le00), if_neg q1, if_pos h]
  rw [if_neg (chk (show t < 200 by omega) (by decide)), nI_cl (show t < 1000 by omega), Option.bind_some, Option.bind_some, push_eq (t := t + 1) (by omega) (by rw [upd_tag (by decide), upd_tag (by decide)]; exact hd), Option.bind_some, upd_tag (show 11 ≠ 24 by decide), upd_tag (show 11 ≠ 25 by decide)]
theorem fi_3 (hc : c < 40) (hf : w 0 34 = 0) (ht : t < 199) (hd : w 0 32 = nI (t + 1)) (h : w 9 c = 3) : f_X5_first (nI L) (nI t) (nI c) w = some (0, PUSH (t + 1) 0 (w 11 c) (fm_u (fm_u w 25 t (w 0 33)) 24 t 3)) := by
  have q1 : ¬ w 9 c = 1 := by rw [h]; decide
  have q2 : ¬ w 9 c = 2 := by rw [h]; decide
  unfold f_X5_first
  rw [if_neg (chk hc (by decide)), nI_cl (show c < 1000 by omega), if_pos (show w 0 34 ≤ 0 by rw [hf]; exact le00), if_neg q1, if_neg q2, if_pos h]
  rw [if_neg (chk (show t < 200 by omega) (by decide)), nI_cl (show t < 1000 by omega), Option.bind_some, Option.bind_some, push_eq (t := t + 1) (by omega) (by rw [upd_tag (by decide), upd_tag (by decide)]; exact hd), Option.bind_some, upd_tag (show 11 ≠ 24 by decide), upd_tag (show 11 ≠ 25 by decide)]
theorem fi_4o (hc : c < 40) (hf : w 0 34 = 0) (hL : L < 5) {n : Nat} (hn : n ≤ 200) (h22 : w 0 22 = nI n) {mo s : Nat} (h8 : w 8 c = nI mo) (hh : mo < 12) (h1 : w 1 mo = nI s) (hs : s ≤ 8) (hx : w 0 33 < 0 ∨ nI s ≤ w 0 33) (h : w 9 c = 4) : f_X5_first (nI L) (nI t) (nI c) w = some (0, ENDS L c (FAILS 2 0 w)) := by
  have q1 : ¬ w 9 c = 1 := by rw [h]; decide
  have q2 : ¬ w 9 c = 2 := by rw [h]; decide
  have q3 : ¬ w 9 c = 3 := by rw [h]; decide
  unfold f_X5_first
  rw [if_neg (chk hc (by decide)), nI_cl (show c < 1000 by omega), if_pos (show w 0 34 ≤ 0 by rw [hf]; exact le00), if_neg q1, if_neg q2, if_neg q3, if_pos h]
  rw [h8, if_neg (chk hh (by decide)), nI_cl (show mo < 1000 by omega), h1, inlit0 (in0_out (by omega) hx), Option.bind_some]
  dsimp only
  rw [if_pos rfl, fails_eq, Option.bind_some]
  dsimp only
  rw [ends_eq hL hc hn (by rw [fails_0 (by omega)]; exact h22), Option.bind_some]
theorem fi_4i (hc : c < 40) (hf : w 0 34 = 0) (hL : L < 5) {n : Nat} (hn : n ≤ 200) (h22 : w 0 22 = nI n) {mo s : Nat} (h8 : w 8 c = nI mo) (hh : mo < 12) (h1 : w 1 mo = nI s) (hs : s ≤ 8) {i : Nat} (hi : i < s) (hx : w 0 33 = nI i) (h : w 9 c = 4) : f_X5_first (nI L) (nI t) (nI c) w = some (0, ENDS L c (GIVES (w 14 (96 * L + 8 * mo + i)) w)) := by
  have q1 : ¬ w 9 c = 1 := by rw [h]; decide
  have q2 : ¬ w 9 c = 2 := by rw [h]; decide
  have q3 : ¬ w 9 c = 3 := by rw [h]; decide
  unfold f_X5_first
  rw [if_neg (chk hc (by decide)), nI_cl (show c < 1000 by omega), if_pos (show w 0 34 ≤ 0 by rw [hf]; exact le00), if_neg q1, if_neg q2, if_neg q3, if_pos h]
  rw [h8, if_neg (chk hh (by decide)), nI_cl (show mo < 1000 by omega), h1, hx, inlit (in0_in hi (by omega)), Option.bind_some]
  dsimp only
  have e9 : 96 * nI L + 8 * nI mo + w 0 33 = nI (96 * L + 8 * mo + i) := by rw [hx, ix96]
  have e8 : ¬ (96 * nI L + 8 * nI mo + w 0 33 < 0 ∨ 480 ≤ (96 * nI L + 8 * nI mo + w 0 33).toNatClampNeg) := by rw [e9]; exact chk (by omega) (by decide)
  rw [if_neg n10, if_neg e8, e9, nI_cl (show 96 * L + 8 * mo + i < 1000 by omega), gives_eq, Option.bind_some]
  dsimp only
  rw [ends_eq hL hc hn (by rw [gives_0 (by decide) (by decide)]; exact h22), Option.bind_some]
theorem fi_5 (hc : c < 40) (hf : w 0 34 = 0) (hL : L < 5) {n : Nat} (hn : n ≤ 200) (h22 : w 0 22 = nI n) (h : w 9 c = 5) : f_X5_first (nI L) (nI t) (nI c) w = some (0, ENDS L c w) := by
  have q1 : ¬ w 9 c = 1 := by rw [h]; decide
  have q2 : ¬ w 9 c = 2 := by rw [h]; decide
  have q3 : ¬ w 9 c = 3 := by rw [h]; decide
  have q4 : ¬ w 9 c = 4 := by rw [h]; decide
  unfold f_X5_first
  rw [if_neg (chk hc (by decide)), nI_cl (show c < 1000 by omega), if_pos (show w 0 34 ≤ 0 by rw [hf]; exact le00), if_neg q1, if_neg q2, if_neg q3, if_neg q4, if_pos h]
  rw [ends_eq hL hc hn h22, Option.bind_some]
theorem fi_7z (hc : c < 40) (hf : w 0 34 = 0) (ht : t < 199) (hd : w 0 32 = nI (t + 1)) (hx : w 0 33 = 0) (h : w 9 c = 7) : f_X5_first (nI L) (nI t) (nI c) w = some (0, PUSH (t + 1) 0 (w 12 c) (fm_u w 24 t 3)) := by
  have q1 : ¬ w 9 c = 1 := by rw [h]; decide
  have q2 : ¬ w 9 c = 2 := by rw [h]; decide
  have q3 : ¬ w 9 c = 3 := by rw [h]; decide
  have q4 : ¬ w 9 c = 4 := by rw [h]; decide
  have q5 : ¬ w 9 c = 5 := by rw [h]; decide
  have q6 : ¬ w 9 c = 6 := by rw [h]; decide
  unfold f_X5_first
  rw [if_neg (chk hc (by decide)), nI_cl (show c < 1000 by omega), if_pos (show w 0 34 ≤ 0 by rw [hf]; exact le00), if_neg q1, if_neg q2, if_neg q3, if_neg q4, if_neg q5, if_neg q6, if_pos h]
  rw [if_pos hx, if_neg (chk (show t < 200 by omega) (by decide)), nI_cl (show t < 1000 by omega), Option.bind_some, push_eq (t := t + 1) (by omega) (by rw [upd_tag (by decide)]; exact hd), Option.bind_some]
theorem fi_7n (hc : c < 40) (hf : w 0 34 = 0) (ht : t < 199) (hd : w 0 32 = nI (t + 1)) (hx : ¬ w 0 33 = 0) (h : w 9 c = 7) : f_X5_first (nI L) (nI t) (nI c) w = some (0, PUSH (t + 1) 0 (w 11 c) (fm_u w 24 t 3)) := by
  have q1 : ¬ w 9 c = 1 := by rw [h]; decide
  have q2 : ¬ w 9 c = 2 := by rw [h]; decide
  have q3 : ¬ w 9 c = 3 := by rw [h]; decide
  have q4 : ¬ w 9 c = 4 := by rw [h]; decide
  have q5 : ¬ w 9 c = 5 := by rw [h]; decide
  have q6 : ¬ w 9 c = 6 := by rw [h]; decide
  unfold f_X5_first
  rw [if_neg (chk hc (by decide)), nI_cl (show c < 1000 by omega), if_pos (show w 0 34 ≤ 0 by rw [hf]; exact le00), if_neg q1, if_neg q2, if_neg q3, if_neg q4, if_neg q5, if_neg q6, if_pos h]
  rw [if_neg hx, if_neg (chk (show t < 200 by omega) (by decide)), nI_cl (show t < 1000 by omega), Option.bind_some, push_eq (t := t + 1) (by omega) (by rw [upd_tag (by decide)]; exact hd), Option.bind_some]
theorem fi_10 (hc : c < 40) (hf : w 0 34 = 0) (hL : L < 5) {n : Nat} (hn : n ≤ 200) (h22 : w 0 22 = nI n) (h : w 9 c = 10) : f_X5_first (nI L) (nI t) (nI c) w = some (0, ENDS L c (GIVES 1 w)) := by
  have q1 : ¬ w 9 c = 1 := by rw [h]; decide
  have q2 : ¬ w 9 c = 2 := by rw [h]; decide
  have q3 : ¬ w 9 c = 3 := by rw [h]; decide
  have q4 : ¬ w 9 c = 4 := by rw [h]; decide
  have q5 : ¬ w 9 c = 5 := by rw [h]; decide
  have q6 : ¬ w 9 c = 6 := by rw [h]; decide
  have q7 : ¬ w 9 c = 7 := by rw [h]; decide
  have q8 : ¬ w 9 c = 8 := by rw [h]; decide
  have q9 : ¬ w 9 c = 9 := by rw [h]; decide
  unfold f_X5_first
  rw [if_neg (chk hc (by decide)), nI_cl (show c < 1000 by omega), if_pos (show w 0 34 ≤ 0 by rw [hf]; exact le00), if_neg q1, if_neg q2, if_neg q3, if_neg q4, if_neg q5, if_neg q6, if_neg q7, if_neg q8, if_neg q9, if_pos h]
  rw [gives_eq, Option.bind_some]
  dsimp only
  rw [ends_eq hL hc hn (by rw [gives_0 (by decide) (by decide)]; exact h22), Option.bind_some]
theorem fi_11o (hc : c < 40) (hf : w 0 34 = 0) (hL : L < 5) {n : Nat} (hn : n ≤ 200) (h22 : w 0 22 = nI n) {mo s : Nat} (h8 : w 8 c = nI mo) (hh : mo < 12) (h1 : w 1 mo = nI s) (hs : s ≤ 8) (hx : w 11 c < 0 ∨ nI s ≤ w 11 c) (h : w 9 c = 11) : f_X5_first (nI L) (nI t) (nI c) w = some (0, ENDS L c (FAILS 2 0 w)) := by
  have q1 : ¬ w 9 c = 1 := by rw [h]; decide
  have q2 : ¬ w 9 c = 2 := by rw [h]; decide
  have q3 : ¬ w 9 c = 3 := by rw [h]; decide
  have q4 : ¬ w 9 c = 4 := by rw [h]; decide
  have q5 : ¬ w 9 c = 5 := by rw [h]; decide
  have q6 : ¬ w 9 c = 6 := by rw [h]; decide
  have q7 : ¬ w 9 c = 7 := by rw [h]; decide
  have q8 : ¬ w 9 c = 8 := by rw [h]; decide
  have q9 : ¬ w 9 c = 9 := by rw [h]; decide
  have q10 : ¬ w 9 c = 10 := by rw [h]; decide
  unfold f_X5_first
  rw [if_neg (chk hc (by decide)), nI_cl (show c < 1000 by omega), if_pos (show w 0 34 ≤ 0 by rw [hf]; exact le00), if_neg q1, if_neg q2, if_neg q3, if_neg q4, if_neg q5, if_neg q6, if_neg q7, if_neg q8, if_neg q9, if_neg q10, if_pos h]
  rw [h8, if_neg (chk hh (by decide)), nI_cl (show mo < 1000 by omega), h1, inlit0 (in0_out (by omega) hx), Option.bind_some]
  dsimp only
  rw [if_pos rfl, fails_eq, Option.bind_some]
  dsimp only
  rw [ends_eq hL hc hn (by rw [fails_0 (by omega)]; exact h22), Option.bind_some]
theorem fi_11i (hc : c < 40) (hf : w 0 34 = 0) (hL : L < 5) {n : Nat} (hn : n ≤ 200) (h22 : w 0 22 = nI n) {mo s : Nat} (h8 : w 8 c = nI mo) (hh : mo < 12) (h1 : w 1 mo = nI s) (hs : s ≤ 8) {i : Nat} (hi : i < s) (hx : w 11 c = nI i) (h : w 9 c = 11) : f_X5_first (nI L) (nI t) (nI c) w = some (0, ENDS L c (fm_u w 14 (96 * L + 8 * mo + i) (w 0 33))) := by
  have q1 : ¬ w 9 c = 1 := by rw [h]; decide
  have q2 : ¬ w 9 c = 2 := by rw [h]; decide
  have q3 : ¬ w 9 c = 3 := by rw [h]; decide
  have q4 : ¬ w 9 c = 4 := by rw [h]; decide
  have q5 : ¬ w 9 c = 5 := by rw [h]; decide
  have q6 : ¬ w 9 c = 6 := by rw [h]; decide
  have q7 : ¬ w 9 c = 7 := by rw [h]; decide
  have q8 : ¬ w 9 c = 8 := by rw [h]; decide
  have q9 : ¬ w 9 c = 9 := by rw [h]; decide
  have q10 : ¬ w 9 c = 10 := by rw [h]; decide
  unfold f_X5_first
  rw [if_neg (chk hc (by decide)), nI_cl (show c < 1000 by omega), if_pos (show w 0 34 ≤ 0 by rw [hf]; exact le00), if_neg q1, if_neg q2, if_neg q3, if_neg q4, if_neg q5, if_neg q6, if_neg q7, if_neg q8, if_neg q9, if_neg q10, if_pos h]
  rw [h8, if_neg (chk hh (by decide)), nI_cl (show mo < 1000 by omega), h1, hx, inlit (in0_in hi (by omega)), Option.bind_some]
  dsimp only
  have e9 : 96 * nI L + 8 * nI mo + w 11 c = nI (96 * L + 8 * mo + i) := by rw [hx, ix96]
  have e8 : ¬ (96 * nI L + 8 * nI mo + w 11 c < 0 ∨ 480 ≤ (96 * nI L + 8 * nI mo + w 11 c).toNatClampNeg) := by rw [e9]; exact chk (by omega) (by decide)
  rw [if_neg n10, if_neg e8, e9, nI_cl (show 96 * L + 8 * mo + i < 1000 by omega), Option.bind_some, ends_eq hL hc hn (by rw [upd_tag (by decide)]; exact h22), Option.bind_some]
theorem fi_bad {f n : Nat} (hc : c < 40) (hL : L < 5) (hn : n ≤ 200) (h22 : w 0 22 = nI n) (hf : w 0 34 = nI f) (f0 : 0 < f) (f8 : f ≤ 8) (h : ¬ w 9 c = 5) : f_X5_first (nI L) (nI t) (nI c) w = some (0, ENDS L c w) := by
  unfold f_X5_first
  rw [if_neg (chk hc (by decide)), nI_cl (show c < 1000 by omega), if_neg (show ¬ w 0 34 ≤ 0 by rw [hf]; exact nI_nle f0 (by omega)), if_neg h, ends_eq hL hc hn h22, Option.bind_some]
theorem fi_bad5 {f n : Nat} (hc : c < 40) (hL : L < 5) (hn : n ≤ 200) (h22 : w 0 22 = nI n) (hf : w 0 34 = nI f) (f0 : 0 < f) (f8 : f ≤ 8) (h : w 9 c = 5) : f_X5_first (nI L) (nI t) (nI c) w = some (0, ENDS L c (GIVES (w 11 c) w)) := by
  unfold f_X5_first
  rw [if_neg (chk hc (by decide)), nI_cl (show c < 1000 by omega), if_neg (show ¬ w 0 34 ≤ 0 by rw [hf]; exact nI_nle f0 (by omega)), if_pos h, gives_eq, Option.bind_some]
  dsimp only
  rw [ends_eq hL hc hn (by rw [gives_0 (by decide) (by decide)]; exact h22), Option.bind_some]
theorem se_bad {f n : Nat} (hc : c < 40) (hL : L < 5) (hn : n ≤ 200) (h22 : w 0 22 = nI n) (hf : w 0 34 = nI f) (f0 : 0 < f) (f8 : f ≤ 8) : f_X5_second (nI L) (nI t) (nI c) w = some (0, ENDS L c w) := by
  unfold f_X5_second
  rw [if_neg (show ¬ w 0 34 = 0 by rw [hf]; exact nI_ne0 f0 (by omega)), ends_eq hL hc hn h22, Option.bind_some]
theorem se_2 {n : Nat} (hc : c < 40) (ht : t < 200) (hL : L < 5) (hn : n ≤ 200) (h22 : w 0 22 = nI n) (hf : w 0 34 = 0) (h : w 9 c = 2) : f_X5_second (nI L) (nI t) (nI c) w = some (0, ENDS L c (GIVES (w 25 t * w 0 33) w)) := by
  unfold f_X5_second
  rw [if_pos hf, if_neg (chk hc (by decide)), nI_cl (show c < 1000 by omega), if_pos h, if_neg (chk ht (by decide)), nI_cl (show t < 1000 by omega), gives_eq, Option.bind_some]
  dsimp only
  rw [ends_eq hL hc hn (by rw [gives_0 (by decide) (by decide)]; exact h22), Option.bind_some]
theorem se_3z {n : Nat} (hc : c < 40) (hL : L < 5) (hn : n ≤ 200) (h22 : w 0 22 = nI n) (hf : w 0 34 = 0) (h : w 9 c = 3) (hx : w 0 33 = 0) : f_X5_second (nI L) (nI t) (nI c) w = some (0, ENDS L c (FAILS 1 0 w)) := by
  have q2 : ¬ w 9 c = 2 := by rw [h]; decide
  unfold f_X5_second
  rw [if_pos hf, if_neg (chk hc (by decide)), nI_cl (show c < 1000 by omega), if_neg q2, if_pos h, if_pos hx, fails_eq, Option.bind_some]
  dsimp only
  rw [ends_eq hL hc hn (by rw [fails_0 (by omega)]; exact h22), Option.bind_some]
theorem se_3n {n : Nat} (hc : c < 40) (ht : t < 200) (hL : L < 5) (hn : n ≤ 200) (h22 : w 0 22 = nI n) (hf : w 0 34 = 0) (h : w 9 c = 3) (hx : ¬ w 0 33 = 0) : f_X5_second (nI L) (nI t) (nI c) w = some (0, ENDS L c (GIVES (w 25 t / w 0 33) w)) := by
  have q2 : ¬ w 9 c = 2 := by rw [h]; decide
  unfold f_X5_second
  rw [if_pos hf, if_neg (chk hc (by decide)), nI_cl (show c < 1000 by omega), if_neg q2, if_pos h, if_neg hx, if_neg (chk ht (by decide)), nI_cl (show t < 1000 by omega), gives_eq, Option.bind_some]
  dsimp only
  rw [ends_eq hL hc hn (by rw [gives_0 (by decide) (by decide)]; exact h22), Option.bind_some]
theorem se_7 {n : Nat} (hc : c < 40) (hL : L < 5) (hn : n ≤ 200) (h22 : w 0 22 = nI n) (hf : w 0 34 = 0) (h2 : ¬ w 9 c = 2) (h3 : ¬ w 9 c = 3) : f_X5_second (nI L) (nI t) (nI c) w = some (0, ENDS L c w) := by
  unfold f_X5_second
  rw [if_pos hf, if_neg (chk hc (by decide)), nI_cl (show c < 1000 by omega), if_neg h2, if_neg h3, ends_eq hL hc hn h22, Option.bind_some]
end KINDS
/-- how many constants of the first n are of module a -/
def cn (f : Nat → Int32) (a : Int32) : Nat → Nat
  | 0 => 0
  | n + 1 => cn f a n + (if f n = a then 1 else 0)
theorem cnC {v : fm_T} {K : Nat} (hK : K ≤ 40) (h8 : v 1 8 = nI K) (a : Int32) : ∀ (n j : Nat), j ≤ K → K - j < n → f_X2_countConstants_4 n a (nI (cn (v 57) a j)) (nI j) v = some (nI (cn (v 57) a K), v) := by
  intro n
  induction n with
  | zero => intro j _ h; omega
  | succ n ih =>
    intro j h1 h2
    rw [f_X2_countConstants_4_s, h8]
    rcases Nat.lt_or_ge j K with hj | hj
    · rw [if_neg (nI_ge hj (by omega)), if_neg (chk (show j < 40 by omega) (by decide)), nI_cl (show j < 1000 by omega), nI_1, nI_1]
      have := ih (j + 1) (by omega) (by omega)
      by_cases e : v 57 j = a
      · rw [if_pos e]
        have e9 : cn (v 57) a (j + 1) = cn (v 57) a j + 1 := by show _ + (if _ then 1 else 0) = _; rw [if_pos e]
        rw [e9] at this
        exact this
      · rw [if_neg e]
        have e9 : cn (v 57) a (j + 1) = cn (v 57) a j := by show _ + (if _ then 1 else 0) = _; rw [if_neg e, Nat.add_zero]
        rw [e9] at this
        exact this
    · have e : j = K := by omega
      subst e
      rw [if_pos (Int32.le_refl _)]
theorem cnM {w : fm_T} {K L c N : Nat} (hL : L < 5) (hc : c < 40) (hN : N ≤ 200) (h22 : w 0 22 = nI N) (hK : K ≤ 40) (h8 : w 0 8 = nI K) (a : Int32) : ∀ (n j : Nat), j ≤ K → K - j < n → f_X5_begins_131 n (nI L) (nI c) a (nI (cn (w 8) a j)) (nI j) w = some (0, ENDS L c (GIVES (nI (cn (w 8) a K)) w)) := by
  intro n
  induction n with
  | zero => intro j _ h; omega
  | succ n ih =>
    intro j h1 h2
    have z0 : nI (cn (w 8) a j) + 0 = nI (cn (w 8) a j) := Int32.add_zero _
    rw [f_X5_begins_131_s, h8]
    rcases Nat.lt_or_ge j K with hj | hj
    · rw [if_neg (nI_ge hj (by omega)), if_neg (chk (show j < 40 by omega) (by decide)), nI_cl (show j < 1000 by omega), nI_1, nI_1, z0]
      have := ih (j + 1) (by omega) (by omega)
      by_cases e : w 8 j = a
      · rw [if_pos e]
        have e9 : cn (w 8) a (j + 1) = cn (w 8) a j + 1 := by show _ + (if _ then 1 else 0) = _; rw [if_pos e]
        rw [e9] at this
        exact this
      · rw [if_neg e]
        have e9 : cn (w 8) a (j + 1) = cn (w 8) a j := by show _ + (if _ then 1 else 0) = _; rw [if_neg e, Nat.add_zero]
        rw [e9] at this
        exact this
    · have e : j = K := by omega
      subst e
      rw [if_pos (Int32.le_refl _), gives_eq, Option.bind_some]
      dsimp only
      rw [ends_eq hL hc hN (by rw [gives_0 (by decide) (by decide)]; exact h22), Option.bind_some]
theorem cn_congr {f g : Nat → Int32} {a : Int32} {n : Nat} (h : ∀ i, i < n → f i = g i) : cn f a n = cn g a n := by
  induction n with
  | zero => rfl
  | succ n ih =>
    show cn f a n + _ = cn g a n + _
    rw [ih (fun i hi => h i (by omega)), h n (by omega)]
