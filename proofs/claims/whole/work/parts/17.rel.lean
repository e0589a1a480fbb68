def RPc (M : Nat) (v w : fm_T) (c : Nat) : Prop := ∃ h kd : Nat, h < M ∧ kd < 12 ∧ v 57 c = nI h ∧ w 8 c = nI h ∧ v 58 c = nI kd ∧ w 9 c = nI kd ∧ w 10 c = v 59 c ∧ w 11 c = v 60 c ∧ w 12 c = v 61 c ∧
  ((kd = 1 ∨ kd = 2 ∨ kd = 3 ∨ kd = 4 ∨ kd = 5 ∨ kd = 7 ∨ kd = 11) → ∃ a : Nat, a < 40 ∧ v 59 c = nI a) ∧ ((kd = 2 ∨ kd = 3 ∨ kd = 7) → ∃ a : Nat, a < 40 ∧ v 60 c = nI a) ∧ (kd = 7 → ∃ a : Nat, a < 40 ∧ v 61 c = nI a) ∧ ((kd = 8 ∨ kd = 9 ∨ kd = 10) → ∃ a : Nat, a < M ∧ v 59 c = nI a)
def RPu (M : Nat) (v w : fm_T) (m : Nat) : Prop := ∃ n : Nat, n ≤ 6 ∧ v 16 m = nI n ∧ w 3 m = nI n ∧ ∀ j, j < n → ∃ o : Nat, o < M ∧ v (18 + m) j = nI o ∧ w 4 (6 * m + j) = nI o
def RPd (M : Nat) (v w : fm_T) (m : Nat) : Prop := ∃ n : Nat, n ≤ 6 ∧ v 30 m = nI n ∧ w 5 m = nI n ∧ ∀ j, j < n → ∃ kd : Nat, kd ≤ 2 ∧ v (32 + m) j = nI kd ∧ w 6 (6 * m + j) = nI kd ∧ w 7 (6 * m + j) = v (45 + m) j ∧ (kd = 0 → ∃ o : Nat, o < 40 ∧ v (45 + m) j = nI o) ∧ (kd = 1 → ∃ o : Nat, o < M ∧ v (45 + m) j = nI o)
/-- the plan: M modules, K constants -/
def RP (M K : Nat) (v w : fm_T) : Prop :=
  (M ≤ 12 ∧ K ≤ 40 ∧ v 1 0 = nI M ∧ w 0 0 = nI M ∧ v 1 8 = nI K ∧ w 0 8 = nI K) ∧
  (∀ m, m < 12 → ∃ s : Nat, s ≤ 8 ∧ v 2 m = nI s ∧ w 1 m = nI s) ∧
  (∀ m i, m < 12 → i < 8 → w 2 (8 * m + i) = v (4 + m) i) ∧ (∀ m, m < 12 → RPu M v w m) ∧ (∀ m, m < 12 → RPd M v w m) ∧ (∀ c, c < K → RPc M v w c)
/-- loader k of the class is loader L of the reference -/
def RLs (k L : Nat) (v w : fm_T) : Prop := ∀ m, m < 12 → ∃ s : Nat, s ≤ 3 ∧ v (bo k) m = nI s ∧ w 13 (12 * L + m) = nI s ∧ (s ≠ 0 → ∀ i, i < 8 → w 14 (96 * L + 8 * m + i) = v (bo k + 2 + m) i)
def RLo (k L : Nat) (v w : fm_T) (c : Nat) : Prop :=
  (v (bo k + 14) c = 0 ∧ w 15 (40 * L + c) = 0) ∨ (v (bo k + 14) c = 1 ∧ w 15 (40 * L + c) = 1) ∨
  (v (bo k + 14) c = 2 ∧ v (bo k + 17 + c) 1 = 0 ∧ w 15 (40 * L + c) = 2 ∧ w 16 (40 * L + c) = v (bo k + 17 + c) 0) ∨
  (v (bo k + 14) c = 2 ∧ (∃ f : Nat, 0 < f ∧ f ≤ 8 ∧ v (bo k + 17 + c) 1 = nI f ∧ w 16 (40 * L + c) = nI f) ∧ w 15 (40 * L + c) = 3 ∧ v (bo k + 17 + c) 0 = 0 ∧ w 17 (40 * L + c) = v (bo k + 17 + c) 2 ∧ w 18 (40 * L + c) = v (bo k + 17 + c) 3 ∧ w 19 (40 * L + c) = v (bo k + 17 + c) 4)
def RLc (k L : Nat) (v w : fm_T) : Prop := ∀ c, c < 40 → RLo k L v w c
def RT (v w : fm_T) : Prop := (∃ n : Nat, n ≤ 200 ∧ v 62 2 = nI n ∧ w 0 22 = nI n ∧ ∀ i, i < n → w 20 (2 * i) = v 63 i ∧ w 20 (2 * i + 1) = v 64 i) ∧ ∃ n : Nat, n ≤ 200 ∧ v 242 2 = nI n
def RX (v w : fm_T) : Prop := w 0 26 = v 0 4 ∧ (∃ n : Nat, n ≤ 40 ∧ v 0 9 = nI n ∧ w 0 25 = nI n) ∧ (w 21 0 = v 240 1 ∧ w 21 1 = v 240 2 ∧ w 21 2 = v 240 3 ∧ w 21 3 = v 240 4) ∧ w 0 24 = 0 + v (lo 0) 7 + v (lo 1) 7 + v (lo 2) 7
def RQ (v w : fm_T) : Prop := (∀ k, k < 3 → RLs k k v w ∧ RLc k k v w ∧ ∀ m, m < 12 → v (bo k) m ≠ 2) ∧ RT v w ∧ RX v w ∧ w 0 32 = 0
def RR (v w : fm_T) : Prop := (∃ M K : Nat, RP M K v w) ∧ RQ v w
theorem bo_ge {k : Nat} (hk : k < 4) : 67 ≤ bo k := by rcases k4 hk with rfl | rfl | rfl | rfl <;> decide
section CONG
variable {k L : Nat} {v v' w w' : fm_T}
theorem RLs.cong (h : RLs k L v w) (hv : ∀ t, bo k ≤ t → t < bo k + 14 → v' t = v t) (h13 : ∀ j, 12 * L ≤ j → j < 12 * L + 12 → w' 13 j = w 13 j) (h14 : ∀ j, 96 * L ≤ j → j < 96 * L + 96 → w' 14 j = w 14 j) : RLs k L v' w' := by
  intro m hm
  obtain ⟨s, h1, h2, h3, h4⟩ := h m hm
  refine ⟨s, h1, by rw [hv _ (Nat.le_refl _) (by omega)]; exact h2, by rw [h13 _ (by omega) (by omega)]; exact h3, fun hs i hi => ?_⟩
  rw [hv _ (by omega) (by omega), h14 _ (by omega) (by omega)]
  exact h4 hs i hi
theorem RLo.cong {c : Nat} (hc : c < 40) (h : RLo k L v w c) (hv : ∀ t, t = bo k + 14 ∨ (bo k + 17 ≤ t ∧ t < bo k + 57) → v' t = v t) (hw : ∀ T j, 15 ≤ T → T ≤ 19 → 40 * L ≤ j → j < 40 * L + 40 → w' T j = w T j) : RLo k L v' w' c := by
  unfold RLo at h ⊢
  rw [hv _ (Or.inl rfl), hv (bo k + 17 + c) (Or.inr ⟨by omega, by omega⟩), hw 15 _ (by decide) (by decide) (by omega) (by omega), hw 16 _ (by decide) (by decide) (by omega) (by omega), hw 17 _ (by decide) (by decide) (by omega) (by omega), hw 18 _ (by decide) (by decide) (by omega) (by omega), hw 19 _ (by decide) (by decide) (by omega) (by omega)]
  exact h
theorem RLc.cong (h : RLc k L v w) (hv : ∀ t, t = bo k + 14 ∨ (bo k + 17 ≤ t ∧ t < bo k + 57) → v' t = v t) (hw : ∀ T j, 15 ≤ T → T ≤ 19 → 40 * L ≤ j → j < 40 * L + 40 → w' T j = w T j) : RLc k L v' w' := fun c hc => (h c hc).cong hc hv hw
theorem RT.cong (h : RT v w) (h1 : v' 62 = v 62) (h2 : v' 63 = v 63) (h3 : v' 64 = v 64) (h4 : v' 242 = v 242) (h5 : w' 20 = w 20) (h6 : w' 0 22 = w 0 22) : RT v' w' := by
  unfold RT at h ⊢
  rw [h1, h2, h3, h4, h5, h6]
  exact h
theorem RX.cong (h : RX v w) (h1 : v' 0 = v 0) (h2 : v' 240 = v 240) (h3 : v' (lo 0) = v (lo 0)) (h4 : v' (lo 1) = v (lo 1)) (h5 : v' (lo 2) = v (lo 2)) (g1 : w' 21 = w 21) (g2 : w' 0 24 = w 0 24) (g3 : w' 0 25 = w 0 25) (g4 : w' 0 26 = w 0 26) : RX v' w' := by
  unfold RX at h ⊢
  rw [h1, h2, h3, h4, h5, g1, g2, g3, g4]
  exact h
theorem RQ.cong (h : RQ v w) (h0 : v' 0 = v 0) (hv : ∀ t, 62 ≤ t → v' t = v t) (hw : ∀ t, 13 ≤ t → w' t = w t) (hw0 : ∀ j, j ≠ 0 → j ≠ 8 → w' 0 j = w 0 j) : RQ v' w' := by
  obtain ⟨a, b, c, d⟩ := h
  refine ⟨fun k hk => ?_, b.cong (hv _ (by decide)) (hv _ (by decide)) (hv _ (by decide)) (hv _ (by decide)) (hw _ (by decide)) (hw0 _ (by decide) (by decide)), c.cong h0 (hv _ (by decide)) (hv _ (by decide)) (hv _ (by decide)) (hv _ (by decide)) (hw _ (by decide)) (hw0 _ (by decide) (by decide)) (hw0 _ (by decide) (by decide)) (hw0 _ (by decide) (by decide)), by rw [hw0 _ (by decide) (by decide)]; exact d⟩
  have hb := bo_ge (show k < 4 by omega)
  obtain ⟨a1, a2, a3⟩ := a k hk
  refine ⟨a1.cong (fun t _ _ => hv t (by omega)) (fun j _ _ => by rw [hw 13 (by decide)]) (fun j _ _ => by rw [hw 14 (by decide)]), a2.cong (fun t ht => hv t (by rcases ht with rfl | ht <;> omega)) (fun T j h1 _ _ _ => by rw [hw T (by omega)]), fun m hm => by rw [hv _ (by omega)]; exact a3 m hm⟩
end CONG
/-- what a call does on both sides: the same answer, and the relation stays -/
def Both (F G : fm_T → Option (Int32 × fm_T)) (v w : fm_T) : Prop := ∃ (r : Int32) (v' w' : fm_T), F v = some (r, v') ∧ G w = some (r, w') ∧ RR v' w'
theorem Both.same {F G : fm_T → Option (Int32 × fm_T)} {v w : fm_T} (h : RR v w) {r : Int32} (h1 : F v = some (r, v)) (h2 : G w = some (r, w)) : Both F G v w := ⟨r, v, w, h1, h2, h⟩
theorem upd_tag {v : fm_T} {t k : Nat} {x : Int32} {a : Nat} (h : a ≠ t) : fm_u v t k x a = v a := fm_u_t v t k x h
theorem B_module {v w : fm_T} (h : RR v w) (x : Int32) : Both (f_X4_module x) (f_X5_module x) v w := by
  obtain ⟨⟨M, K, ⟨hM, hK, a1, a2, a3, a4⟩, b1, b2, b3, b4, b5⟩, q⟩ := id h
  rcases ix3 x 9 (by decide) with hx | ⟨n, hn, rfl⟩
  · refine Both.same (r := -1) h ?_ ?_
    · have e : (x < 0 ∨ ¬ x ≤ 8) := by
        rcases hx with hx | hx
        · exact Or.inl hx
        · refine Or.inr (fun q => ?_)
          have h1 := Int32.le_iff_toInt_le.mp hx
          have h2 := Int32.le_iff_toInt_le.mp q
          have e9 : (nI 9).toInt = 9 := by decide
          have e8 : (8 : Int32).toInt = 8 := by decide
          omega
      rcases e with e | e
      · simp [f_X4_module, f_X2_addModule, e]
      · simp [f_X4_module, f_X2_addModule, e]
    · have e : x < 0 ∨ 8 < x := by
        rcases hx with hx | hx
        · exact Or.inl hx
        · refine Or.inr ?_
          have h1 := Int32.le_iff_toInt_le.mp hx
          refine Int32.lt_iff_toInt_lt.mpr ?_
          have e9 : (nI 9).toInt = 9 := by decide
          have e8 : (8 : Int32).toInt = 8 := by decide
          omega
      simp [f_X5_module, in_eq, e]
  · have n1 : ¬ nI n < 0 := nI_pos (by omega)
    have n2 : nI n ≤ 8 := nI_le (b := 8) (by omega) (by decide)
    have n3 : ¬ (8 : Int32) < nI n := nI_nlt (b := n) (a := 8) (by omega) (by decide)
    rcases Nat.lt_or_ge M 12 with hM2 | hM2
    · have m1 : nI M < 12 := nI_lt (b := 12) hM2 (by decide)
      have m2 : ¬ nI M = 12 := fun q => absurd ((nI_eq (b := 12) (by omega) (by decide)).mp q) (by omega)
      have m3 := nI_cl (show M < 1000 by omega)
      have m4 := nI_nn (show M < 1000 by omega)
      have m5 : nI M + 1 = nI (M + 1) := nI_1 M
      have m6 : nI (M + 1) - 1 = nI M := nI_pred M
      refine ⟨nI M, fm_u (fm_u v 2 M (nI n)) 1 0 (nI (M + 1)), fm_u (fm_u w 1 M (nI n)) 0 0 (nI (M + 1)), ?_, ?_, ⟨M + 1, K, ?_⟩, ?_⟩
      · simp [f_X4_module, f_X2_addModule, n1, n2, a1, m1, m3, m4, m5, fm_u_at, Nat.not_le.mpr hM2]
      · simp [f_X5_module, in_eq, n1, n3, a2, m2, m3, m4, m5, m6, fm_u_at, hM2]
      · refine ⟨⟨by omega, hK, by simp [fm_u_at], by simp [fm_u_at], by simp [fm_u_at, a3], by simp [fm_u_at, a4]⟩, fun m hm => ?_, fun m i hm hi => ?_, fun m hm => ?_, fun m hm => ?_, fun c hc => ?_⟩
        · by_cases e : m = M
          · subst e
            exact ⟨n, by omega, by simp [fm_u_at], by simp [fm_u_at]⟩
          · obtain ⟨s, s1, s2, s3⟩ := b1 m hm
            exact ⟨s, s1, by simp [fm_u_at, e, s2], by simp [fm_u_at, e, s3]⟩
        · rw [upd_tag (by omega), upd_tag (by omega), upd_tag (by omega), upd_tag (by omega)]
          exact b2 m i hm hi
        · obtain ⟨s, s1, s2, s3, s4⟩ := b3 m hm
          refine ⟨s, s1, by rw [upd_tag (by omega), upd_tag (by omega)]; exact s2, by rw [upd_tag (by omega), upd_tag (by omega)]; exact s3, fun j hj => ?_⟩
          rw [upd_tag (by omega), upd_tag (by omega), upd_tag (by omega), upd_tag (by omega)]
          obtain ⟨o, o1, o2⟩ := s4 j hj
          exact ⟨o, by omega, o2⟩
        · obtain ⟨s, s1, s2, s3, s4⟩ := b4 m hm
          refine ⟨s, s1, by rw [upd_tag (by omega), upd_tag (by omega)]; exact s2, by rw [upd_tag (by omega), upd_tag (by omega)]; exact s3, fun j hj => ?_⟩
          obtain ⟨kd, o1, o2, o3, o4, o5, o6⟩ := s4 j hj
          refine ⟨kd, o1, by rw [upd_tag (by omega), upd_tag (by omega)]; exact o2, by rw [upd_tag (by omega), upd_tag (by omega)]; exact o3, by rw [upd_tag (by omega), upd_tag (by omega), upd_tag (by omega), upd_tag (by omega)]; exact o4, fun e => by rw [upd_tag (by omega), upd_tag (by omega)]; exact o5 e, fun e => ?_⟩
          rw [upd_tag (by omega), upd_tag (by omega)]
          obtain ⟨o, z1, z2⟩ := o6 e
          exact ⟨o, by omega, z2⟩
        · obtain ⟨g, kd, c1, c2, c3, c4, c5, c6, c7, c8, c9, d1, d2, d3, d4⟩ := b5 c hc
          unfold RPc
          simp only [upd_tag (show 57 ≠ 1 by decide), upd_tag (show 58 ≠ 1 by decide), upd_tag (show 59 ≠ 1 by decide), upd_tag (show 60 ≠ 1 by decide), upd_tag (show 61 ≠ 1 by decide), upd_tag (show 57 ≠ 2 by decide), upd_tag (show 58 ≠ 2 by decide), upd_tag (show 59 ≠ 2 by decide), upd_tag (show 60 ≠ 2 by decide), upd_tag (show 61 ≠ 2 by decide), upd_tag (show 8 ≠ 0 by decide), upd_tag (show 9 ≠ 0 by decide), upd_tag (show 10 ≠ 0 by decide), upd_tag (show 11 ≠ 0 by decide), upd_tag (show 12 ≠ 0 by decide), upd_tag (show 8 ≠ 1 by decide), upd_tag (show 9 ≠ 1 by decide), upd_tag (show 10 ≠ 1 by decide), upd_tag (show 11 ≠ 1 by decide), upd_tag (show 12 ≠ 1 by decide)]
          exact ⟨g, kd, by omega, c2, c3, c4, c5, c6, c7, c8, c9, d1, d2, d3, fun e => by obtain ⟨a, z1, z2⟩ := d4 e; exact ⟨a, by omega, z2⟩⟩
      · refine q.cong (by rw [upd_tag (by decide), upd_tag (by decide)]) (fun t ht => by rw [upd_tag (by omega), upd_tag (by omega)]) (fun t ht => by rw [upd_tag (by omega), upd_tag (by omega)]) (fun j h1 _ => by rw [fm_u_ne _ _ _ _ (Or.inr h1), upd_tag (by decide)])
    · have e12 : M = 12 := by omega
      subst e12
      refine Both.same (r := -2) h ?_ ?_
      · simp [f_X4_module, f_X2_addModule, n1, n2, a1, show ¬ nI 12 < 12 by decide]
      · simp [f_X5_module, in_eq, n1, n3, a2, show nI 12 = 12 from rfl]
