theorem bv_nI {y : Int32} {N : Nat} (hN : N < 2 ^ 32) (h : y.toBitVec.toNat = N) : y = nI N := Int32.toBitVec_inj.mp (BitVec.eq_of_toNat_eq (by rw [pk_tn hN]; exact h))
theorem shi (x : Int32) : ∃ N : Nat, N < 65536 ∧ (x.toUInt32 >>> ((16 : Int32).toUInt32 &&& Int32.toUInt32 31)).toInt32 = nI N := by
  have h := pk_ushr x 16 16 (by decide)
  have hx : x.toBitVec.toNat < 2 ^ 32 := x.toBitVec.isLt
  have hq : x.toBitVec.toNat / 2 ^ 16 < 65536 := by omega
  exact ⟨x.toBitVec.toNat / 2 ^ 16, hq, bv_nI (by omega) h⟩
/-- a row of the numbers 0 .. K-1, each once -/
def PM (K : Nat) (f : Nat → Int32) : Prop := (∀ j, j < K → ∃ c : Nat, c < K ∧ f j = nI c) ∧ ∀ i j, i < K → j < K → f i = f j → i = j
theorem PM.swap {K k t : Nat} {f g : Nat → Int32} (h : PM K f) (hk : k < K) (ht : t < K) (hg : ∀ j, g j = if j = t then f k else if j = k then f t else f j) : PM K g := by
  have e : ∀ j, ∃ s : Nat, g j = f s ∧ ((j = t ∧ s = k) ∨ (j ≠ t ∧ j = k ∧ s = t) ∨ (j ≠ t ∧ j ≠ k ∧ s = j)) := by
    intro j
    rw [hg j]
    by_cases h1 : j = t
    · rw [if_pos h1]; exact ⟨k, rfl, Or.inl ⟨h1, rfl⟩⟩
    · rw [if_neg h1]
      by_cases h2 : j = k
      · rw [if_pos h2]; exact ⟨t, rfl, Or.inr (Or.inl ⟨h1, h2, rfl⟩)⟩
      · rw [if_neg h2]; exact ⟨j, rfl, Or.inr (Or.inr ⟨h1, h2, rfl⟩)⟩
  refine ⟨fun j hj => ?_, fun i j hi hj he => ?_⟩
  · obtain ⟨s, e1, e2⟩ := e j
    rw [e1]
    exact h.1 s (by omega)
  · obtain ⟨s, e1, e2⟩ := e i
    obtain ⟨s', e3, e4⟩ := e j
    rw [e1, e3] at he
    have := h.2 s s' (by omega) (by omega) he
    omega
def SWAP (T k t : Nat) (v : fm_T) : fm_T := fm_u (fm_u v T k (v T t)) T t (v T k)
theorem swap_T {T k t a : Nat} {v : fm_T} (h : a ≠ T) : SWAP T k t v a = v a := by
  unfold SWAP
  rw [upd_tag h, upd_tag h]
theorem swap_at (T k t j : Nat) (v : fm_T) : SWAP T k t v T j = if j = t then v T k else if j = k then v T t else v T j := by
  unfold SWAP
  by_cases h1 : j = t
  · subst h1; rw [if_pos rfl, fm_u_eq]
  · rw [if_neg h1, fm_u_ne _ _ _ _ (Or.inr h1)]
    by_cases h2 : j = k
    · subst h2; rw [if_pos rfl, fm_u_eq]
    · rw [if_neg h2, fm_u_ne _ _ _ _ (Or.inr h2)]
theorem nI_n1 {j : Nat} (h : j < 1000) : ¬ nI (j + 1) < 1 := nI_nlt (b := 1) (by omega) (by omega)
theorem mix_s {k : Nat} (hk : k + 1 < 40) (x : Int32) : ∃ t : Nat, t ≤ k + 1 ∧ (∀ (n : Nat) (x1 : Int32) (v : fm_T), f_X4_mixOrder_38 (n + 1) x1 x (nI (k + 1)) v = f_X4_mixOrder_38 n x1 (x * 1103515245 + 12345) (nI k) (SWAP 302 (k + 1) t v)) ∧ (∀ (u n : Nat) (x1 x2 x4 x5 : Int32) (w : fm_T), f_X5_alike_S57 u (n + 1) 2 x1 x2 x x4 x5 (nI (k + 1)) w = f_X5_alike_S57 u n 2 x1 x2 (x * 1103515245 + 12345) x4 x5 (nI k) (SWAP 26 (k + 1) t w)) := by
  obtain ⟨N, hN, e⟩ := shi (x * 1103515245 + 12345)
  have hlt : N % (k + 1 + 1) < k + 1 + 1 := Nat.mod_lt _ (by omega)
  refine ⟨N % (k + 1 + 1), by omega, fun n x1 v => ?_, fun u n x1 x2 x4 x5 w => ?_⟩
  · rw [f_X4_mixOrder_38_s, e, nI_1, pk_rem (by omega) (by omega) (by omega), if_neg (nI_n1 (by omega)), if_neg (nI_ne0 (by omega) (by omega)), if_neg (chk (show k + 1 < 40 by omega) (by decide)), if_neg (chk (show N % (k + 1 + 1) < 40 by omega) (by decide)), nI_cl (show k + 1 < 1000 by omega), nI_cl (show N % (k + 1 + 1) < 1000 by omega), Option.bind_some, Option.bind_some, pk_m1]
    rfl
  · rw [f_X5_alike_S57_s2, e, nI_1, pk_rem (by omega) (by omega) (by omega), if_neg (nI_nle (by omega) (by omega)), if_neg (nI_ne0 (by omega) (by omega)), if_neg (chk (show k + 1 < 40 by omega) (by decide)), if_neg (chk (show N % (k + 1 + 1) < 40 by omega) (by decide)), nI_cl (show k + 1 < 1000 by omega), nI_cl (show N % (k + 1 + 1) < 1000 by omega), Option.bind_some, Option.bind_some, pk_m1]
    rfl
theorem shuf {K : Nat} (hK : K ≤ 40) : ∀ (k : Nat) (x : Int32) (v w : fm_T), k < K → PM K (v 302) → (∀ j, j < K → w 26 j = v 302 j) → ∃ (v' w' : fm_T) (x' : Int32), (∀ (n : Nat) (x1 : Int32), f_X4_mixOrder_38 (n + (k + 1)) x1 x (nI k) v = some (0, v')) ∧ (∀ (u n : Nat) (x1 x2 x4 x5 : Int32), f_X5_alike_S57 u (n + (k + 1)) 2 x1 x2 x x4 x5 (nI k) w = f_X5_alike_S57 u n 0 x1 x2 x' (x4 + 1) 0 0 w') ∧ (∀ t, t ≠ 302 → v' t = v t) ∧ (∀ T, T ≠ 26 → w' T = w T) ∧ PM K (v' 302) ∧ (∀ j, j < K → w' 26 j = v' 302 j) := by
  intro k
  induction k with
  | zero =>
    intro x v w hk hp he
    refine ⟨v, w, x, fun n x1 => ?_, fun u n x1 x2 x4 x5 => ?_, fun _ _ => rfl, fun _ _ => rfl, hp, he⟩
    · rw [nI_0, f_X4_mixOrder_38_s, if_pos (by decide)]
    · rw [nI_0, f_X5_alike_S57_s2, if_pos (by decide)]
  | succ k ih =>
    intro x v w hk hp he
    obtain ⟨t, ht, m1, m2⟩ := mix_s (k := k) (by omega) x
    obtain ⟨v', w', x', i1, i2, i3, i4, i5, i6⟩ := ih (x * 1103515245 + 12345) (SWAP 302 (k + 1) t v) (SWAP 26 (k + 1) t w) (by omega) (hp.swap (k := k + 1) (t := t) hk (by omega) (fun j => swap_at 302 (k + 1) t j v)) (fun j hj => by rw [swap_at, swap_at, he (k + 1) hk, he t (by omega), he j hj])
    refine ⟨v', w', x', fun n x1 => ?_, fun u n x1 x2 x4 x5 => ?_, fun t' h => by rw [i3 t' h, swap_T h], fun T h => by rw [i4 T h, swap_T h], i5, i6⟩
    · rw [← Nat.add_assoc, m1, i1]
    · rw [← Nat.add_assoc, m2, i2]
def shN (K : Nat) : Nat := if K = 0 then 1 else K
theorem shufK {K : Nat} (hK : K ≤ 40) (x : Int32) (v w : fm_T) (hp : PM K (v 302)) (he : ∀ j, j < K → w 26 j = v 302 j) : ∃ (v' w' : fm_T) (x' : Int32), (∀ (n : Nat) (x1 : Int32), f_X4_mixOrder_38 (n + shN K) x1 x (nI K - 1) v = some (0, v')) ∧ (∀ (u n : Nat) (x1 x2 x4 x5 : Int32), f_X5_alike_S57 u (n + shN K) 2 x1 x2 x x4 x5 (nI K - 1) w = f_X5_alike_S57 u n 0 x1 x2 x' (x4 + 1) 0 0 w') ∧ (∀ t, t ≠ 302 → v' t = v t) ∧ (∀ T, T ≠ 26 → w' T = w T) ∧ PM K (v' 302) ∧ (∀ j, j < K → w' 26 j = v' 302 j) := by
  rcases Nat.eq_zero_or_pos K with rfl | hp0
  · refine ⟨v, w, x, fun n x1 => ?_, fun u n x1 x2 x4 x5 => ?_, fun _ _ => rfl, fun _ _ => rfl, hp, he⟩
    · show f_X4_mixOrder_38 (n + 1) _ _ _ _ = _
      rw [f_X4_mixOrder_38_s, if_pos (by decide)]
    · show f_X5_alike_S57 u (n + 1) 2 _ _ _ _ _ _ _ = _
      rw [f_X5_alike_S57_s2, if_pos (by decide)]
  · obtain ⟨k, rfl⟩ : ∃ k, K = k + 1 := ⟨K - 1, by omega⟩
    have e : shN (k + 1) = k + 1 := if_neg (by omega)
    rw [e, nI_pred]
    exact shuf hK k x v w (by omega) hp he
theorem idC {K : Nat} (hK : K ≤ 40) (x1 : Int32) : ∀ (n j : Nat) (v : fm_T), v 1 8 = nI K → j ≤ K → K - j < n → ∃ V : fm_T, f_X4_mixOrder_2 n x1 (nI j) v = f_X4_mixOrder_38 1000 x1 x1 (nI K - 1) V ∧ (∀ t, t ≠ 302 → V t = v t) ∧ (∀ i, j ≤ i → i < K → V 302 i = nI i) ∧ (∀ i, i < j → V 302 i = v 302 i) := by
  intro n
  induction n with
  | zero => intro j v _ _ h; omega
  | succ n ih =>
    intro j v h8 hj hn
    rw [f_X4_mixOrder_2_s]
    rcases Nat.lt_or_ge j K with h | h
    · rw [if_neg (by rw [h8]; exact nI_ge h (by omega)), if_neg (chk (show j < 40 by omega) (by decide)), nI_cl (by omega), Option.bind_some, nI_1]
      obtain ⟨V, e1, e2, e3, e4⟩ := ih (j + 1) (fm_u v 302 j (nI j)) (by rw [upd_tag (by decide)]; exact h8) (by omega) (by omega)
      refine ⟨V, e1, fun t ht => by rw [e2 t ht, upd_tag ht], fun i h1 h2 => ?_, fun i hi => by rw [e4 i (by omega), fm_u_ne _ _ _ _ (Or.inr (by omega))]⟩
      by_cases e : i = j
      · subst e; rw [e4 i (by omega), fm_u_eq]
      · exact e3 i (by omega) h2
    · have e : j = K := by omega
      subst e
      rw [if_pos (by rw [h8]; exact Int32.le_refl _), h8]
      exact ⟨v, rfl, fun _ _ => rfl, fun i h1 h2 => by omega, fun _ _ => rfl⟩
theorem idM {K : Nat} (hK : K ≤ 40) (u : Nat) (x1 : Int32) : ∀ (n j : Nat) (w : fm_T), w 0 8 = nI K → j ≤ K → K - j < n → ∃ W : fm_T, f_X5_alike_29 u n x1 (nI j) w = f_X5_alike_S57 u 1000 0 x1 0 x1 3 0 0 W ∧ (∀ t, t ≠ 26 → W t = w t) ∧ (∀ i, j ≤ i → i < K → W 26 i = nI i) ∧ (∀ i, i < j → W 26 i = w 26 i) ∧ ∀ u', f_X5_alike_29 u' n x1 (nI j) w = f_X5_alike_S57 u' 1000 0 x1 0 x1 3 0 0 W := by
  intro n
  induction n with
  | zero => intro j w _ _ h; omega
  | succ n ih =>
    intro j w h8 hj hn
    rw [f_X5_alike_29_s]
    rcases Nat.lt_or_ge j K with h | h
    · rw [if_neg (by rw [h8]; exact nI_ge h (by omega)), if_neg (chk (show j < 40 by omega) (by decide)), nI_cl (by omega), Option.bind_some, nI_1]
      obtain ⟨W, e1, e2, e3, e4, e5⟩ := ih (j + 1) (fm_u w 26 j (nI j)) (by rw [upd_tag (by decide)]; exact h8) (by omega) (by omega)
      refine ⟨W, e1, fun t ht => by rw [e2 t ht, upd_tag ht], fun i h1 h2 => ?_, fun i hi => by rw [e4 i (by omega), fm_u_ne _ _ _ _ (Or.inr (by omega))], fun u' => ?_⟩
      · by_cases e : i = j
        · subst e; rw [e4 i (by omega), fm_u_eq]
        · exact e3 i (by omega) h2
      · rw [f_X5_alike_29_s, if_neg (by rw [h8]; exact nI_ge h (by omega)), if_neg (chk (show j < 40 by omega) (by decide)), nI_cl (by omega), Option.bind_some, nI_1]
        exact e5 u'
    · have e : j = K := by omega
      subst e
      rw [if_pos (by rw [h8]; exact Int32.le_refl _)]
      exact ⟨w, rfl, fun _ _ => rfl, fun i h1 h2 => by omega, fun _ _ => rfl, fun u' => by rw [f_X5_alike_29_s, if_pos (by rw [h8]; exact Int32.le_refl _)]⟩
/-- a need of the aside loader -/
theorem as_step {M K L c : Nat} {β : Int32} {v w : fm_T} (hL : 3 ≤ L) (hL5 : L < 5) (hS : SS M K 3 L v w) (hW : WK 3 β v w) (hc : c < 40) (hd : w 0 32 = 0) : ∃ (r : Int32) (v' w' P : fm_T) (u0 : Nat), gC 220 0 3 (nI c) 0 0 v = some (r, v') ∧ f_X5_push 0 (nI c) w = some (0, P) ∧ (∀ u, u0 ≤ u → f_X5_runs u (nI L) P = some (0, w')) ∧ SS M K 3 L v' w' ∧ WK 3 β v' w' ∧ FV 3 v v' ∧ FW L w w' ∧ w' 0 32 = 0 ∧ (Good 3 v' w' ∨ Bad 3 v' w') := by
  have P1 : PO M K 3 L β v w v (PUSH 0 0 (nI c) w) := PO.frame (by decide) hS hW (fun T g0 g => push_T (by omega) g) (fun i hi => push_0 (by omega))
  obtain ⟨p0, p1, p2, p3, p4⟩ := push_at (t := 0) (a := 0) (x := nI c) (w := w)
  obtain ⟨r, v', w', e1, e2, e3, e4, e5, e6, e7⟩ := (sim_all 220).1 M K 3 L 0 c β v _ (Or.inr ⟨rfl, hL, hL5⟩) P1.1 P1.2.1 hc (by omega) (by omega) p0 p1 p2 p3
  rw [nI_0] at e1 e6
  obtain ⟨u0, hu⟩ := go_runs e2 e6
  have e8 := P1.tr e3
  refine ⟨r, v', w', _, u0, e1, push_eq (t := 0) (by decide) (by rw [hd, nI_0]) 0 (nI c), hu, e8.1, e8.2.1, e8.2.2.1, e8.2.2.2.1, e6, ?_⟩
  rcases e7 with ⟨_, q⟩ | ⟨_, q⟩
  · exact Or.inl q
  · exact Or.inr q
