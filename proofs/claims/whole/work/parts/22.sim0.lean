/-- while a call runs: loader k of the class, loader L of the reference -/
def TT (k : Nat) (v w : fm_T) : Prop := RT v w ∧ ((k < 3 ∧ w 0 23 = 1) ∨ (k = 3 ∧ w 0 23 = 0))
def SS (M K k L : Nat) (v w : fm_T) : Prop := RP M K v w ∧ RLs k L v w ∧ RLc k L v w ∧ TT k v w
theorem ev_cases {k : Nat} (hk : k < 4) : (k < 3 ∧ ev k = 62) ∨ (k = 3 ∧ ev k = 242) := by
  rcases k4 hk with rfl | rfl | rfl | rfl <;> simp [ev]
theorem bo_ev {k j : Nat} (hk : k < 4) (hj : j < 4) : ev j + 3 ≤ bo k ∨ bo k + 57 ≤ ev j := by
  rcases k4 hk with rfl | rfl | rfl | rfl <;> rcases k4 hj with rfl | rfl | rfl | rfl <;> simp [bo, ev]
theorem lo_ev {k j : Nat} (hk : k < 4) (hj : j < 4) : ev j + 3 ≤ lo k ∨ lo k + 1 ≤ ev j := by
  rcases k4 hk with rfl | rfl | rfl | rfl <;> rcases k4 hj with rfl | rfl | rfl | rfl <;> simp [lo, ev]
theorem lo_ge {k : Nat} (hk : k < 4) : 66 ≤ lo k := by rcases k4 hk with rfl | rfl | rfl | rfl <;> decide
section SIM
variable {M K k L : Nat} {v v' w w' : fm_T}
theorem SS.cong (hk : k < 4) (h : SS M K k L v w) (hv : ∀ t, (1 ≤ t ∧ t ≤ 64) ∨ t = 242 ∨ (bo k ≤ t ∧ t < bo k + 15) ∨ (bo k + 17 ≤ t ∧ t < bo k + 57) → v' t = v t) (hw : ∀ T, 1 ≤ T → T ≤ 20 → w' T = w T) (hw0 : ∀ j, j = 0 ∨ j = 8 ∨ j = 22 ∨ j = 23 → w' 0 j = w 0 j) : SS M K k L v' w' := by
  obtain ⟨h1, h2, h3, h4, h5⟩ := h
  refine ⟨h1.cong (fun t _ _ => hv t (by omega)) (fun t _ _ => hw t (by omega) (by omega)) (hw0 0 (by omega)) (hw0 8 (by omega)), h2.cong (fun t _ _ => hv t (by omega)) (fun j _ _ => by rw [hw 13 (by decide) (by decide)]) (fun j _ _ => by rw [hw 14 (by decide) (by decide)]), h3.cong (fun t ht => hv t (by rcases ht with rfl | ht <;> omega)) (fun T j _ _ _ _ => by rw [hw T (by omega) (by omega)]), h4.cong (hv _ (by omega)) (hv _ (by omega)) (hv _ (by omega)) (hv _ (by omega)) (hw 20 (by decide) (by decide)) (hw0 22 (by omega)), ?_⟩
  rw [hw0 23 (by omega)]
  exact h5
theorem note_t {a x : Int32} {t : Nat} (h0 : t ≠ ev k) (h1 : t ≠ ev k + 1) (h2 : t ≠ ev k + 2) : NOTE k a x v t = v t := by
  unfold NOTE
  by_cases h : 200 ≤ v (ev k) 2
  · rw [if_pos h]
  · rw [if_neg h, upd_tag h0, upd_tag h2, upd_tag h1]
theorem mark_t {a x : Int32} {T : Nat} (h0 : T ≠ 0) (h1 : T ≠ 20) : MARK a x w T = w T := by
  unfold MARK
  by_cases h : w 0 23 = 0
  · rw [if_pos h]
  · rw [if_neg h]
    by_cases g : 200 ≤ w 0 22
    · rw [if_pos g]
    · rw [if_neg g, upd_tag h0, upd_tag h1, upd_tag h1]
theorem mark_0 {a x : Int32} {j : Nat} (h0 : j ≠ 22) : MARK a x w 0 j = w 0 j := by
  unfold MARK
  by_cases h : w 0 23 = 0
  · rw [if_pos h]
  · rw [if_neg h]
    by_cases g : 200 ≤ w 0 22
    · rw [if_pos g]
    · rw [if_neg g, fm_u_ne _ _ _ _ (Or.inr h0), upd_tag (by decide), upd_tag (by decide)]
theorem note_lo {a x : Int32} {n : Nat} (hn : n < 200) (h : v (ev k) 2 = nI n) : NOTE k a x v (ev k) 2 = nI (n + 1) ∧ NOTE k a x v (ev k + 1) = upd (v (ev k + 1)) n a ∧ NOTE k a x v (ev k + 2) = upd (v (ev k + 2)) n x := by
  have g : ¬ 200 ≤ v (ev k) 2 := by rw [h]; exact nI_ge (b := 200) hn (by decide)
  have e := nI_cl (show n < 1000 by omega)
  unfold NOTE
  rw [if_neg g]
  refine ⟨by rw [fm_u_eq, h, nI_1], ?_, ?_⟩
  · rw [upd_tag (by omega), upd_tag (by omega), h, e]
    unfold fm_u
    rw [va_up_self]
  · rw [upd_tag (by omega), h, e]
    show va_up _ _ _ _ = _
    rw [va_up_self, upd_tag (by omega)]
theorem note_hi {a x : Int32} (h : v (ev k) 2 = nI 200) : NOTE k a x v = v := by
  unfold NOTE
  rw [if_pos (by rw [h]; decide)]
theorem SS.nm (hk : k < 4) (h : SS M K k L v w) (a x : Int32) : SS M K k L (NOTE k a x v) (MARK a x w) := by
  obtain ⟨h1, h2, h3, ⟨⟨n, n1, n2, n3, n4⟩, ⟨n', m1, m2⟩⟩, h5⟩ := id h
  have hb := bo_ev hk hk
  have core : RT (NOTE k a x v) (MARK a x w) → SS M K k L (NOTE k a x v) (MARK a x w) := by
    intro hT
    have hg := bo_ge hk
    have ec : 62 ≤ ev k := by rcases ev_cases hk with ⟨_, e⟩ | ⟨_, e⟩ <;> omega
    refine ⟨h1.cong (fun t _ _ => note_t (by omega) (by omega) (by omega)) (fun t _ _ => mark_t (by omega) (by omega)) (mark_0 (by decide)) (mark_0 (by decide)), h2.cong (fun t _ _ => note_t (by omega) (by omega) (by omega)) (fun j _ _ => by rw [mark_t (by decide) (by decide)]) (fun j _ _ => by rw [mark_t (by decide) (by decide)]), h3.cong (fun t ht => note_t (by rcases ht with rfl | ht <;> omega) (by rcases ht with rfl | ht <;> omega) (by rcases ht with rfl | ht <;> omega)) (fun T j _ _ _ _ => by rw [mark_t (by omega) (by omega)]), hT, ?_⟩
    rw [mark_0 (by decide)]
    exact h5
  apply core
  rcases ev_cases hk with ⟨k3, e⟩ | ⟨k3, e⟩
  · have t1 : ¬ w 0 23 = 0 := by
      rcases h5 with ⟨_, q⟩ | ⟨q, _⟩
      · rw [q]; decide
      · omega
    have hv : v (ev k) 2 = nI n := by rw [e]; exact n2
    rcases Nat.lt_or_ge n 200 with hn | hn
    · obtain ⟨p1, p2, p3⟩ := note_lo (a := a) (x := x) hn hv
      rw [e] at p1 p2 p3
      have t2 : ¬ 200 ≤ w 0 22 := by rw [n3]; exact nI_ge (b := 200) hn (by decide)
      have ew : MARK a x w = fm_u (fm_u (fm_u w 20 (2 * n) a) 20 (2 * n + 1) x) 0 22 (nI (n + 1)) := by
        unfold MARK
        rw [if_neg t1, if_neg t2, n3, nI_cl (by omega), nI_1]
      refine ⟨⟨n + 1, by omega, p1, by rw [ew, fm_u_eq], fun i hi => ?_⟩, n', m1, by rw [note_t (by omega) (by omega) (by omega)]; exact m2⟩
      rw [ew, upd_tag (by decide)]
      have e63 : NOTE k a x v 63 = upd (v 63) n a := p2
      have e64 : NOTE k a x v 64 = upd (v 64) n x := p3
      rw [e63, e64]
      by_cases ei : i = n
      · subst ei
        refine ⟨?_, ?_⟩
        · rw [fm_u_ne _ _ _ _ (Or.inr (by omega)), fm_u_eq]; simp [upd]
        · rw [fm_u_eq]; simp [upd]
      · rw [fm_u_ne _ _ _ _ (Or.inr (by omega)), fm_u_ne _ _ _ _ (Or.inr (by omega)), fm_u_ne _ _ _ _ (Or.inr (by omega)), fm_u_ne _ _ _ _ (Or.inr (by omega))]
        simp only [upd, if_neg ei]
        exact n4 i (by omega)
    · have en : n = 200 := by omega
      subst en
      have ew : MARK a x w = w := by
        unfold MARK
        rw [if_neg t1, if_pos (by rw [n3]; decide)]
      rw [note_hi hv, ew]
      exact ⟨⟨200, n1, n2, n3, n4⟩, n', m1, m2⟩
  · have t1 : w 0 23 = 0 := by
      rcases h5 with ⟨q, _⟩ | ⟨_, q⟩
      · omega
      · exact q
    have ew : MARK a x w = w := by unfold MARK; rw [if_pos t1]
    have hv : v (ev k) 2 = nI n' := by rw [e]; exact m2
    rw [ew]
    refine ⟨⟨n, n1, by rw [note_t (by omega) (by omega) (by omega)]; exact n2, n3, fun i hi => ?_⟩, ?_⟩
    · rw [note_t (by omega) (by omega) (by omega), note_t (by omega) (by omega) (by omega)]
      exact n4 i hi
    · rcases Nat.lt_or_ge n' 200 with hn | hn
      · have p1 := (note_lo (a := a) (x := x) hn hv).1
        rw [e] at p1
        exact ⟨n' + 1, by omega, p1⟩
      · have en : n' = 200 := by omega
        subst en
        rw [note_hi hv]
        exact ⟨200, m1, m2⟩
/-- a module's state and row change -/
theorem RLs.set {m : Nat} (h : RLs k L v w) (hm : m < 12) (hv : ∀ j, j ≠ m → v' (bo k) j = v (bo k) j) (hr : ∀ j, j < 12 → j ≠ m → v' (bo k + 2 + j) = v (bo k + 2 + j)) (h13 : ∀ j, j < 12 → j ≠ m → w' 13 (12 * L + j) = w 13 (12 * L + j)) (h14 : ∀ j i, j < 12 → j ≠ m → i < 8 → w' 14 (96 * L + 8 * j + i) = w 14 (96 * L + 8 * j + i)) {s : Nat} (hs : s ≤ 3) (e1 : v' (bo k) m = nI s) (e2 : w' 13 (12 * L + m) = nI s) (e3 : s ≠ 0 → ∀ i, i < 8 → w' 14 (96 * L + 8 * m + i) = v' (bo k + 2 + m) i) : RLs k L v' w' := by
  intro j hj
  by_cases e : j = m
  · subst e
    exact ⟨s, hs, e1, e2, e3⟩
  · obtain ⟨s', a1, a2, a3, a4⟩ := h j hj
    exact ⟨s', a1, by rw [hv j e]; exact a2, by rw [h13 j hj e]; exact a3, fun z i hi => by rw [h14 j i hj e hi, hr j hj e]; exact a4 z i hi⟩
theorem RLc.set {c : Nat} (h : RLc k L v w) (hv : ∀ j, j ≠ c → v' (bo k + 14) j = v (bo k + 14) j) (hr : ∀ j, j < 40 → j ≠ c → v' (bo k + 17 + j) = v (bo k + 17 + j)) (hw : ∀ T j, 15 ≤ T → T ≤ 19 → j < 40 → j ≠ c → w' T (40 * L + j) = w T (40 * L + j)) (e : RLo k L v' w' c) : RLc k L v' w' := by
  intro j hj
  by_cases ej : j = c
  · subst ej; exact e
  · have := h j hj
    unfold RLo at this ⊢
    rw [hv j ej, hr j hj ej, hw 15 j (by decide) (by decide) hj ej, hw 16 j (by decide) (by decide) hj ej, hw 17 j (by decide) (by decide) hj ej, hw 18 j (by decide) (by decide) hj ej, hw 19 j (by decide) (by decide) hj ej]
    exact this
end SIM
/-- the count of what is not 0, under a change -/
theorem nz_set {f g : Nat → Int32} {m n : Nat} (hm : m < n) (h : ∀ j, j ≠ m → g j = f j) : (f m = 0 → g m ≠ 0 → nz g n = nz f n + 1) ∧ (f m ≠ 0 → g m ≠ 0 → nz g n = nz f n) := by
  induction n with
  | zero => omega
  | succ n ih =>
    show (_ → _ → nz g n + (if g n = 0 then 0 else 1) = nz f n + (if f n = 0 then 0 else 1) + 1) ∧ (_ → _ → nz g n + (if g n = 0 then 0 else 1) = nz f n + (if f n = 0 then 0 else 1))
    by_cases e : m = n
    · subst e
      have c : nz g m = nz f m := nz_congr (fun i hi => h i (by omega))
      refine ⟨fun h1 h2 => ?_, fun h1 h2 => ?_⟩
      · rw [c, if_neg h2, if_pos h1]
      · rw [c, if_neg h2, if_neg h1]
    · have := ih (by omega)
      rw [h n (fun q => e q.symm)]
      exact ⟨fun h1 h2 => by have := this.1 h1 h2; omega, fun h1 h2 => by have := this.2 h1 h2; omega⟩
theorem nz_lt {f : Nat → Int32} {m n : Nat} (hm : m < n) (h : f m = 0) : nz f n < n := by
  induction n with
  | zero => omega
  | succ n ih =>
    show nz f n + (if f n = 0 then 0 else 1) < n + 1
    have := nz_le f n
    by_cases e : m = n
    · subst e
      rw [if_pos h]; omega
    · have := ih (by omega)
      by_cases g : f n = 0
      · rw [if_pos g]; omega
      · rw [if_neg g]; omega
