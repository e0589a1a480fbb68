def FV (k : Nat) (v v' : fm_T) : Prop := ∀ t, ¬ (bo k ≤ t ∧ t < bo k + 57) → t ≠ lo k → t ≠ ev k → t ≠ ev k + 1 → t ≠ ev k + 2 → v' t = v t
def FW (L : Nat) (w w' : fm_T) : Prop := (∀ T, 1 ≤ T → T ≤ 12 → w' T = w T) ∧ (∀ T, T = 21 ∨ 26 ≤ T → w' T = w T) ∧ (∀ j, j < 12 * L ∨ 12 * L + 12 ≤ j → w' 13 j = w 13 j) ∧ (∀ j, j < 96 * L ∨ 96 * L + 96 ≤ j → w' 14 j = w 14 j) ∧ (∀ T j, 15 ≤ T → T ≤ 19 → (j < 40 * L ∨ 40 * L + 40 ≤ j) → w' T j = w T j) ∧ (∀ j, j ≠ 22 → j ≠ 24 → (j < 32 ∨ 37 < j) → w' 0 j = w 0 j)
def WK (k : Nat) (β : Int32) (v w : fm_T) : Prop := (k < 3 → w 0 24 = β + v (lo k) 7) ∧ (k = 3 → w 0 24 = β)
def KL (k L : Nat) : Prop := (k < 3 ∧ L = k) ∨ (k = 3 ∧ 3 ≤ L ∧ L < 5)
theorem KL.k4 {k L : Nat} (h : KL k L) : k < 4 := by rcases h with h | h <;> omega
theorem KL.L5 {k L : Nat} (h : KL k L) : L < 5 := by rcases h with h | h <;> omega
def nS (k : Nat) (v : fm_T) : Nat := nz (v (bo k)) 12
def nC (k : Nat) (v : fm_T) : Nat := nz (v (bo k + 14)) 40
/-- from v, w to v', w': related again, and all else as it was -/
def PO (M K k L : Nat) (β : Int32) (v w v' w' : fm_T) : Prop := SS M K k L v' w' ∧ WK k β v' w' ∧ FV k v v' ∧ FW L w w' ∧ nS k v ≤ nS k v' ∧ nC k v ≤ nC k v' ∧ ∀ m, m < 12 → v (bo k) m ≠ 0 → v' (bo k) m ≠ 0
def FS (t : Nat) (w w' : fm_T) : Prop := ∀ T i, 22 ≤ T → T ≤ 25 → i < t → w' T i = w T i
def S2 (k : Nat) (v v' : fm_T) : Prop := ∀ m, m < 12 → (v' (bo k) m = 2 ↔ v (bo k) m = 2)
def Bad (k : Nat) (v w : fm_T) : Prop := (∃ f : Nat, 0 < f ∧ f ≤ 8 ∧ v (bo k + 16) 1 = nI f ∧ w 0 34 = nI f) ∧ v (bo k + 16) 0 = 0 ∧ w 0 35 = v (bo k + 16) 2 ∧ w 0 36 = v (bo k + 16) 3 ∧ w 0 37 = v (bo k + 16) 4
def Good (k : Nat) (v w : fm_T) : Prop := v (bo k + 16) 1 = 0 ∧ w 0 34 = 0 ∧ w 0 33 = v (bo k + 16) 0
theorem lo_le {k : Nat} (hk : k < 4) : lo k ≤ 241 := by rcases k4 hk with rfl | rfl | rfl | rfl <;> decide
section EV
variable {M K k L t c m : Nat} {β : Int32} {v v1 v2 v' w w1 w2 w' : fm_T}
theorem PO.tr (h1 : PO M K k L β v w v1 w1) (h2 : PO M K k L β v1 w1 v2 w2) : PO M K k L β v w v2 w2 := by
  obtain ⟨a1, a2, a3, ⟨b1, b2, b3, b4, b5, b6⟩, a5, a6, a7⟩ := h1
  obtain ⟨c1, c2, c3, ⟨d1, d2, d3, d4, d5, d6⟩, c5, c6, c7⟩ := h2
  exact ⟨c1, c2, fun t g1 g2 g3 g4 g5 => (c3 t g1 g2 g3 g4 g5).trans (a3 t g1 g2 g3 g4 g5), ⟨fun T g1 g2 => (d1 T g1 g2).trans (b1 T g1 g2), fun T g => (d2 T g).trans (b2 T g), fun j g => (d3 j g).trans (b3 j g), fun j g => (d4 j g).trans (b4 j g), fun T j g1 g2 g3 => (d5 T j g1 g2 g3).trans (b5 T j g1 g2 g3), fun j g1 g2 g3 => (d6 j g1 g2 g3).trans (b6 j g1 g2 g3)⟩, Nat.le_trans a5 c5, Nat.le_trans a6 c6, fun m hm h => c7 m hm (a7 m hm h)⟩
theorem FS.tr (h1 : FS t w w1) (h2 : FS t w1 w2) : FS t w w2 := fun T i a b c => (h2 T i a b c).trans (h1 T i a b c)
theorem FS.mono {t' : Nat} (h : FS t w w1) (ht : t' ≤ t) : FS t' w w1 := fun T i a b c => h T i a b (by omega)
theorem S2.tr (h1 : S2 k v v1) (h2 : S2 k v1 v2) : S2 k v v2 := fun m hm => (h2 m hm).trans (h1 m hm)
theorem S2.rf : S2 k v v := fun _ _ => Iff.rfl
theorem S2.eq (h : v' (bo k) = v (bo k)) : S2 k v v' := fun m _ => by rw [h]
/-- only the outcome 'now' and the reference's registers and frames -/
theorem PO.irr (hk : k < 4) (h : SS M K k L v w) (hW : WK k β v w) (hv : ∀ t, t ≠ bo k + 16 → v' t = v t) (hw : ∀ T, 1 ≤ T → ¬ (22 ≤ T ∧ T ≤ 25) → w' T = w T) (hw0 : ∀ j, (j < 32 ∨ 37 < j) → w' 0 j = w 0 j) : PO M K k L β v w v' w' := by
  have hg := bo_ge hk
  have hl := bo_lo hk hk
  have ho := bo_out hk
  refine ⟨h.cong hk (fun t ht => hv t (by omega)) (fun T h1 h2 => hw T h1 (by omega)) (fun j hj => hw0 j (by omega)), ?_, fun t g1 g2 g3 g4 g5 => hv t (by omega), ⟨fun T h1 h2 => hw T h1 (by omega), fun T h1 => hw T (by omega) (by omega), fun j _ => by rw [hw 13 (by omega) (by omega)], fun j _ => by rw [hw 14 (by omega) (by omega)], fun T j h1 h2 _ => by rw [hw T (by omega) (by omega)], fun j _ _ h3 => hw0 j h3⟩, ?_, ?_, fun m _ h9 => by rw [hv _ (by omega)]; exact h9⟩
  · unfold WK
    rw [hw0 24 (by omega), hv _ (by omega)]
    exact hW
  · unfold nS
    rw [hv _ (by omega)]
    exact Nat.le_refl _
  · unfold nC
    rw [hv _ (by omega)]
    exact Nat.le_refl _
theorem fail_t {a b : Nat} {x y : Int32} (h : a ≠ b) : FAIL b x y v a = v a := by
  unfold FAIL
  rw [upd_tag h, upd_tag h, upd_tag h, upd_tag h, upd_tag h]
theorem succ_t {a b : Nat} {x : Int32} (h : a ≠ b) : SUCC b x v a = v a := by
  unfold SUCC
  rw [upd_tag h, upd_tag h, upd_tag h, upd_tag h, upd_tag h]
theorem copy_t {a b d : Nat} (h : a ≠ b) : COPY b d v a = v a := by
  unfold COPY
  rw [upd_tag h, upd_tag h, upd_tag h, upd_tag h, upd_tag h]
theorem fstart_t {a b : Nat} {x : Int32} (h : a ≠ b) : FSTART b x v a = v a := by
  unfold FSTART
  rw [upd_tag h, upd_tag h]
theorem fail_at {b : Nat} {x y : Int32} : FAIL b x y v b 0 = 0 ∧ FAIL b x y v b 1 = x ∧ FAIL b x y v b 2 = y ∧ FAIL b x y v b 3 = x ∧ FAIL b x y v b 4 = y := by
  simp [FAIL, fm_u_at]
theorem succ_at {b : Nat} {x : Int32} : SUCC b x v b 0 = x ∧ SUCC b x v b 1 = 0 := by
  simp [SUCC, fm_u_at]
theorem copy_at {b d : Nat} : COPY b d v b 0 = v d 0 ∧ COPY b d v b 1 = v d 1 ∧ COPY b d v b 2 = v d 2 ∧ COPY b d v b 3 = v d 3 ∧ COPY b d v b 4 = v d 4 := by
  simp [COPY, fm_u_at]
theorem dec_T {T : Nat} (h : T ≠ 0) : DEC w T = w T := upd_tag h
theorem dec_0 {j : Nat} (h : j ≠ 32) : DEC w 0 j = w 0 j := fm_u_ne _ _ _ _ (Or.inr h)
theorem dec_32 (h : w 0 32 = nI (t + 1)) : DEC w 0 32 = nI t := by
  unfold DEC
  rw [fm_u_eq, h, nI_pred]
theorem fails_T {x y : Int32} {T : Nat} (h : T ≠ 0) : FAILS x y w T = w T := by
  unfold FAILS
  rw [upd_tag h, upd_tag h, upd_tag h, upd_tag h]
theorem fails_0 {x y : Int32} {j : Nat} (h : j < 34 ∨ 37 < j) : FAILS x y w 0 j = w 0 j := by
  unfold FAILS
  rw [fm_u_ne _ _ _ _ (Or.inr (by omega)), fm_u_ne _ _ _ _ (Or.inr (by omega)), fm_u_ne _ _ _ _ (Or.inr (by omega)), fm_u_ne _ _ _ _ (Or.inr (by omega))]
theorem fails_at {x y : Int32} : FAILS x y w 0 34 = x ∧ FAILS x y w 0 35 = y ∧ FAILS x y w 0 36 = x ∧ FAILS x y w 0 37 = y := by
  simp [FAILS, fm_u_at]
theorem gives_T {x : Int32} {T : Nat} (h : T ≠ 0) : GIVES x w T = w T := by
  unfold GIVES
  rw [upd_tag h, upd_tag h]
theorem gives_0 {x : Int32} {j : Nat} (h : j ≠ 33) (h2 : j ≠ 34) : GIVES x w 0 j = w 0 j := by
  unfold GIVES
  rw [fm_u_ne _ _ _ _ (Or.inr h), fm_u_ne _ _ _ _ (Or.inr h2)]
theorem gives_at {x : Int32} : GIVES x w 0 33 = x ∧ GIVES x w 0 34 = 0 := by
  simp [GIVES, fm_u_at]
theorem kept_T {i T : Nat} (h : T ≠ 0) : KEPT i w T = w T := by
  unfold KEPT
  rw [upd_tag h, upd_tag h, upd_tag h, upd_tag h]
theorem kept_0 {i j : Nat} (h : j < 34 ∨ 37 < j) : KEPT i w 0 j = w 0 j := by
  unfold KEPT
  rw [fm_u_ne _ _ _ _ (Or.inr (by omega)), fm_u_ne _ _ _ _ (Or.inr (by omega)), fm_u_ne _ _ _ _ (Or.inr (by omega)), fm_u_ne _ _ _ _ (Or.inr (by omega))]
theorem kept_at {i : Nat} : KEPT i w 0 34 = w 16 i ∧ KEPT i w 0 35 = w 17 i ∧ KEPT i w 0 36 = w 18 i ∧ KEPT i w 0 37 = w 19 i := by
  simp [KEPT, fm_u_at]
/-- a fault is told on both sides -/
theorem ev_fail {f : Nat} {x : Int32} (hk : k < 4) (h : SS M K k L v w) (hW : WK k β v w) (f0 : 0 < f) (f8 : f ≤ 8) : PO M K k L β v w (FAIL (bo k + 16) (nI f) x v) (FAILS (nI f) x w) ∧ Bad k (FAIL (bo k + 16) (nI f) x v) (FAILS (nI f) x w) := by
  obtain ⟨a0, a1, a2, a3, a4⟩ := fail_at (v := v) (b := bo k + 16) (x := nI f) (y := x)
  obtain ⟨b1, b2, b3, b4⟩ := fails_at (w := w) (x := nI f) (y := x)
  exact ⟨PO.irr hk h hW (fun t ht => fail_t ht) (fun T h1 _ => fails_T (by omega)) (fun j hj => fails_0 (by omega)), ⟨f, f0, f8, a1, b1⟩, a0, by rw [b2, a2], by rw [b3, a3], by rw [b4, a4]⟩
theorem ev_give {x : Int32} (hk : k < 4) (h : SS M K k L v w) (hW : WK k β v w) : PO M K k L β v w (SUCC (bo k + 16) x v) (GIVES x w) ∧ Good k (SUCC (bo k + 16) x v) (GIVES x w) := by
  obtain ⟨a0, a1⟩ := succ_at (v := v) (b := bo k + 16) (x := x)
  obtain ⟨b1, b2⟩ := gives_at (w := w) (x := x)
  exact ⟨PO.irr hk h hW (fun t ht => succ_t ht) (fun T h1 _ => gives_T (by omega)) (fun j hj => gives_0 (by omega) (by omega)), a1, b2, by rw [b1, a0]⟩
theorem ev_dec (hk : k < 4) (h : SS M K k L v w) (hW : WK k β v w) : PO M K k L β v w v (DEC w) := PO.irr hk h hW (fun t _ => rfl) (fun T h1 _ => dec_T (by omega)) (fun j hj => dec_0 (by omega))
theorem Bad.dec (h : Bad k v w) : Bad k v (DEC w) := by
  unfold Bad
  rw [dec_0 (by decide), dec_0 (by decide), dec_0 (by decide), dec_0 (by decide)]
  exact h
theorem Good.dec (h : Good k v w) : Good k v (DEC w) := by
  unfold Good
  rw [dec_0 (by decide), dec_0 (by decide)]
  exact h
theorem SS.n22 (h : SS M K k L v w) : ∃ n : Nat, n ≤ 200 ∧ w 0 22 = nI n := by
  obtain ⟨-, -, -, ⟨⟨n, n1, -, n3, -⟩, -⟩, -⟩ := h
  exact ⟨n, n1, n3⟩
theorem SS.nv (hk : k < 4) (h : SS M K k L v w) : ∃ n : Nat, n ≤ 200 ∧ v (ev k) 2 = nI n := by
  obtain ⟨-, -, -, ⟨⟨n, n1, n2, -, -⟩, ⟨n', m1, m2⟩⟩, -⟩ := h
  rcases ev_cases hk with ⟨_, e⟩ | ⟨_, e⟩
  · exact ⟨n, n1, by rw [e]; exact n2⟩
  · exact ⟨n', m1, by rw [e]; exact m2⟩
theorem push_T {a x : Int32} {T : Nat} (h0 : T ≠ 0) (h : ¬ (22 ≤ T ∧ T ≤ 25)) : PUSH t a x w T = w T := by
  unfold PUSH
  rw [upd_tag h0, upd_tag (by omega), upd_tag (by omega), upd_tag (by omega), upd_tag (by omega)]
theorem push_0 {a x : Int32} {j : Nat} (h : j ≠ 32) : PUSH t a x w 0 j = w 0 j := by
  unfold PUSH
  rw [fm_u_ne _ _ _ _ (Or.inr h), upd_tag (by decide), upd_tag (by decide), upd_tag (by decide), upd_tag (by decide)]
theorem push_at {a x : Int32} : PUSH t a x w 0 32 = nI (t + 1) ∧ PUSH t a x w 22 t = a ∧ PUSH t a x w 23 t = x ∧ PUSH t a x w 24 t = 0 ∧ PUSH t a x w 25 t = 0 := by
  simp [PUSH, fm_u_at]
theorem push_FS {a x : Int32} : FS t w (PUSH t a x w) := by
  intro T i h1 h2 h3
  unfold PUSH
  rw [upd_tag (by omega), fm_u_ne _ _ _ _ (Or.inr (by omega)), fm_u_ne _ _ _ _ (Or.inr (by omega)), fm_u_ne _ _ _ _ (Or.inr (by omega)), fm_u_ne _ _ _ _ (Or.inr (by omega))]
/-- a constant begins to be worked -/
theorem ev_work (hkl : KL k L) (hc : c < 40) (h : SS M K k L v w) (hW : WK k β v w) (h0 : v (bo k + 14) c = 0) : PO M K k L β v w (NOTE k 3 (nI c) (fm_u (fm_u v (bo k + 14) c 1) (lo k) 7 (v (lo k) 7 + 1))) (WBEG L t c w) ∧ nC k (NOTE k 3 (nI c) (fm_u (fm_u v (bo k + 14) c 1) (lo k) 7 (v (lo k) 7 + 1))) = nC k v + 1 ∧ S2 k v (NOTE k 3 (nI c) (fm_u (fm_u v (bo k + 14) c 1) (lo k) 7 (v (lo k) 7 + 1))) := by
  have hk := hkl.k4
  have hL := hkl.L5
  have hg := bo_ge hk
  have hl := bo_lo hk hk
  have ho := bo_out hk
  have hlg := lo_ge hk
  have hll := lo_le hk
  have hbe := bo_ev hk hk
  have hle := lo_ev hk hk
  have hev := ev_cases hk
  -- before the note
  obtain ⟨h1, h2, h3, h4⟩ := id h
  have S1 : SS M K k L (fm_u (fm_u v (bo k + 14) c 1) (lo k) 7 (v (lo k) 7 + 1)) (fm_u w 15 (40 * L + c) 1) := by
    refine ⟨h1.cong (fun t _ _ => by rw [upd_tag (by omega), upd_tag (by omega)]) (fun T _ _ => by rw [upd_tag (by omega)]) (by rw [upd_tag (by decide)]) (by rw [upd_tag (by decide)]), h2.cong (fun t _ _ => by rw [upd_tag (by omega), upd_tag (by omega)]) (fun j _ _ => by rw [upd_tag (by decide)]) (fun j _ _ => by rw [upd_tag (by decide)]), h3.set (c := c) (fun j hj => by rw [upd_tag (by omega), fm_u_ne _ _ _ _ (Or.inr hj)]) (fun j _ _ => by rw [upd_tag (by omega), upd_tag (by omega)]) (fun T j _ _ _ hj => fm_u_ne _ _ _ _ (Or.inr (by omega))) (Or.inr (Or.inl ⟨by rw [upd_tag (by omega), fm_u_eq], by rw [fm_u_eq]⟩)), h4.1.cong (by rw [upd_tag (by omega), upd_tag (by omega)]) (by rw [upd_tag (by omega), upd_tag (by omega)]) (by rw [upd_tag (by omega), upd_tag (by omega)]) (by rw [upd_tag (by omega), upd_tag (by omega)]) (by rw [upd_tag (by decide)]) (by rw [upd_tag (by decide)]), ?_⟩
    rw [upd_tag (by decide)]
    exact h4.2
  have S2' := S1.nm hk 3 (nI c)
  have hT : ∀ T, T ≠ 0 → T ≠ 15 → T ≠ 20 → T ≠ 24 → WBEG L t c w T = w T := fun T g0 g1 g2 g3 => by
    unfold WBEG
    rw [upd_tag g3, upd_tag g0, mark_t g0 g2, upd_tag g1]
  have hT0 : ∀ j, j ≠ 22 → j ≠ 24 → WBEG L t c w 0 j = w 0 j := fun j g0 g1 => by
    unfold WBEG
    rw [upd_tag (by decide), fm_u_ne _ _ _ _ (Or.inr g1), mark_0 g0, upd_tag (by decide)]
  have S3 : SS M K k L (NOTE k 3 (nI c) (fm_u (fm_u v (bo k + 14) c 1) (lo k) 7 (v (lo k) 7 + 1))) (WBEG L t c w) := by
    refine S2'.cong hk (fun t _ => rfl) (fun T g1 g2 => ?_) (fun j hj => ?_)
    · unfold WBEG
      rw [upd_tag (by omega), upd_tag (by omega)]
    · unfold WBEG
      rw [upd_tag (by decide), fm_u_ne _ _ _ _ (Or.inr (by omega))]
  have hnt : ∀ t, t ≠ ev k → t ≠ ev k + 1 → t ≠ ev k + 2 → t ≠ lo k → t ≠ bo k + 14 → NOTE k 3 (nI c) (fm_u (fm_u v (bo k + 14) c 1) (lo k) 7 (v (lo k) 7 + 1)) t = v t := fun t g1 g2 g3 g4 g5 => by rw [note_t g1 g2 g3, upd_tag g4, upd_tag g5]
  have e14 : NOTE k 3 (nI c) (fm_u (fm_u v (bo k + 14) c 1) (lo k) 7 (v (lo k) 7 + 1)) (bo k + 14) = upd (v (bo k + 14)) c 1 := by
    rw [note_t (by omega) (by omega) (by omega), upd_tag (by omega)]
    unfold fm_u
    rw [va_up_self]
  have elo : NOTE k 3 (nI c) (fm_u (fm_u v (bo k + 14) c 1) (lo k) 7 (v (lo k) 7 + 1)) (lo k) 7 = v (lo k) 7 + 1 := by
    rw [note_t (by omega) (by omega) (by omega), fm_u_eq]
  have ebo : NOTE k 3 (nI c) (fm_u (fm_u v (bo k + 14) c 1) (lo k) 7 (v (lo k) 7 + 1)) (bo k) = v (bo k) := hnt _ (by omega) (by omega) (by omega) (by omega) (by omega)
  have hnc : nC k (NOTE k 3 (nI c) (fm_u (fm_u v (bo k + 14) c 1) (lo k) 7 (v (lo k) 7 + 1))) = nC k v + 1 := by
    unfold nC
    rw [e14]
    exact (nz_set (f := v (bo k + 14)) (g := upd (v (bo k + 14)) c 1) hc (fun j hj => by simp [upd, hj])).1 h0 (by simp [upd])
  refine ⟨⟨S3, ?_, fun t g1 g2 g3 g4 g5 => hnt t g3 g4 g5 g2 (by omega), ⟨fun T g1 g2 => hT T (by omega) (by omega) (by omega) (by omega), fun T g => hT T (by omega) (by omega) (by omega) (by omega), fun j _ => by rw [hT 13 (by omega) (by omega) (by omega) (by omega)], fun j _ => by rw [hT 14 (by omega) (by omega) (by omega) (by omega)], fun T j g1 g2 g3 => ?_, fun j g1 g2 _ => hT0 j g1 g2⟩, by unfold nS; rw [ebo]; exact Nat.le_refl _, by omega, fun m _ hm => by rw [ebo]; exact hm⟩, hnc, S2.eq ebo⟩
  · have e24 : WBEG L t c w 0 24 = w 0 24 + (if L < 3 then 1 else 0) := by
      unfold WBEG
      rw [upd_tag (by decide), fm_u_eq]
    unfold WK
    rw [e24, elo]
    refine ⟨fun q => ?_, fun q => ?_⟩
    · rw [if_pos (by rcases hkl with z | z <;> omega), hW.1 q, Int32.add_assoc]
    · rw [if_neg (by rcases hkl with z | z <;> omega), hW.2 q, Int32.add_zero]
  · by_cases e15 : T = 15
    · subst e15
      unfold WBEG
      rw [upd_tag (by decide), upd_tag (by decide), mark_t (by decide) (by decide), fm_u_ne _ _ _ _ (Or.inr (by omega))]
    · rw [hT T (by omega) e15 (by omega) (by omega)]
end EV
