section EV2
variable {M K k L t c m : Nat} {β : Int32} {v v1 v2 v' w w1 w2 w' : fm_T}
/-- the outcome of a constant is kept -/
theorem ev_end {r : Int32} (hkl : KL k L) (hc : c < 40) (h : SS M K k L v w) (hW : WK k β v w) (hr : (r = 1 ∧ Good k v w) ∨ (r = 0 ∧ Bad k v w)) : PO M K k L β v w (NOTE k (if r = 0 then 5 else 4) (nI c) (fm_u (COPY (bo k + 17 + c) (bo k + 16) v) (bo k + 14) c 2)) (ENDS L c w) ∧ S2 k v (NOTE k (if r = 0 then 5 else 4) (nI c) (fm_u (COPY (bo k + 17 + c) (bo k + 16) v) (bo k + 14) c 2)) ∧ ((r = 1 ∧ Good k (NOTE k (if r = 0 then 5 else 4) (nI c) (fm_u (COPY (bo k + 17 + c) (bo k + 16) v) (bo k + 14) c 2)) (ENDS L c w)) ∨ (r = 0 ∧ Bad k (NOTE k (if r = 0 then 5 else 4) (nI c) (fm_u (COPY (bo k + 17 + c) (bo k + 16) v) (bo k + 14) c 2)) (ENDS L c w))) := by
  have hk := hkl.k4
  have hL := hkl.L5
  have hg := bo_ge hk
  have hl := bo_lo hk hk
  have ho := bo_out hk
  have hlg := lo_ge hk
  have hll := lo_le hk
  have hbe := bo_ev hk hk
  have hle := lo_ev hk hk
  have hev := ev_cases hk
  obtain ⟨h1, h2, h3, h4⟩ := id h
  have ha : (if w 0 34 ≤ 0 then (4 : Int32) else 5) = (if r = 0 then 5 else 4) := by
    rcases hr with ⟨rfl, g⟩ | ⟨rfl, ⟨f, f0, f8, -, g⟩, -⟩
    · rw [g.2.1, if_pos le00, if_neg n10]
    · rw [g, if_neg (nI_nle f0 (by omega)), if_pos rfl]
  generalize hD : (fm_u (fm_u (fm_u (fm_u (fm_u w 15 (40 * L + c) (if w 0 34 ≤ 0 then 2 else 3)) 16 (40 * L + c) (if w 0 34 ≤ 0 then w 0 33 else w 0 34)) 17 (40 * L + c) (w 0 35)) 18 (40 * L + c) (w 0 36)) 19 (40 * L + c) (w 0 37)) = W
  have W15 : W 15 (40 * L + c) = if w 0 34 ≤ 0 then 2 else 3 := by rw [← hD]; simp [fm_u_at]
  have W16 : W 16 (40 * L + c) = if w 0 34 ≤ 0 then w 0 33 else w 0 34 := by rw [← hD]; simp [fm_u_at]
  have W17 : W 17 (40 * L + c) = w 0 35 := by rw [← hD]; simp [fm_u_at]
  have W18 : W 18 (40 * L + c) = w 0 36 := by rw [← hD]; simp [fm_u_at]
  have W19 : W 19 (40 * L + c) = w 0 37 := by rw [← hD]; simp [fm_u_at]
  have Wn : ∀ T j, j ≠ 40 * L + c → W T j = w T j := fun T j hj => by rw [← hD]; simp [fm_u_at, hj]
  have Wt : ∀ T, ¬ (15 ≤ T ∧ T ≤ 19) → W T = w T := fun T hT => by
    rw [← hD, upd_tag (by omega), upd_tag (by omega), upd_tag (by omega), upd_tag (by omega), upd_tag (by omega)]
  have eE : ENDS L c w = DEC (MARK (if r = 0 then 5 else 4) (nI c) W) := by
    unfold ENDS
    rw [hD, ha]
  rw [eE]
  obtain ⟨q0, q1, q2, q3, q4⟩ := copy_at (v := v) (b := bo k + 17 + c) (d := bo k + 16)
  generalize hV : fm_u (COPY (bo k + 17 + c) (bo k + 16) v) (bo k + 14) c 2 = V
  have V14 : V (bo k + 14) = upd (v (bo k + 14)) c 2 := by
    rw [← hV]
    unfold fm_u
    rw [va_up_self, copy_t (by omega)]
  have Vc : V (bo k + 17 + c) = COPY (bo k + 17 + c) (bo k + 16) v (bo k + 17 + c) := by rw [← hV, upd_tag (by omega)]
  have Vt : ∀ t, t ≠ bo k + 14 → t ≠ bo k + 17 + c → V t = v t := fun t g1 g2 => by rw [← hV, upd_tag g1, copy_t g2]
  have S1 : SS M K k L V W := by
    refine ⟨h1.cong (fun t _ _ => Vt t (by omega) (by omega)) (fun T _ _ => Wt T (by omega)) (by rw [Wt 0 (by omega)]) (by rw [Wt 0 (by omega)]), h2.cong (fun t _ _ => Vt t (by omega) (by omega)) (fun j _ _ => by rw [Wt 13 (by omega)]) (fun j _ _ => by rw [Wt 14 (by omega)]), h3.set (c := c) (fun j hj => by rw [V14]; simp [upd, hj]) (fun j _ hj => Vt _ (by omega) (by omega)) (fun T j _ _ _ hj => Wn T _ (by omega)) ?_, h4.1.cong (Vt _ (by omega) (by omega)) (Vt _ (by omega) (by omega)) (Vt _ (by omega) (by omega)) (Vt _ (by omega) (by omega)) (Wt _ (by omega)) (by rw [Wt 0 (by omega)]), by rw [Wt 0 (by omega)]; exact h4.2⟩
    have e2 : V (bo k + 14) c = 2 := by rw [V14]; simp [upd]
    rcases hr with ⟨rfl, g1, g2, g3⟩ | ⟨rfl, ⟨f, f0, f8, g1, g2⟩, g3, g4, g5, g6⟩
    · refine Or.inr (Or.inr (Or.inl ⟨e2, by rw [Vc, q1]; exact g1, by rw [W15, g2, if_pos le00], by rw [W16, g2, if_pos le00, Vc, q0]; exact g3⟩))
    · refine Or.inr (Or.inr (Or.inr ⟨e2, ⟨f, f0, f8, by rw [Vc, q1]; exact g1, by rw [W16, if_neg (by rw [g2]; exact nI_nle f0 (by omega))]; exact g2⟩, by rw [W15, if_neg (by rw [g2]; exact nI_nle f0 (by omega))], by rw [Vc, q0]; exact g3, by rw [W17, Vc, q2]; exact g4, by rw [W18, Vc, q3]; exact g5, by rw [W19, Vc, q4]; exact g6⟩))
  have S2' := S1.nm hk (if r = 0 then 5 else 4) (nI c)
  have S3 : SS M K k L (NOTE k (if r = 0 then 5 else 4) (nI c) V) (DEC (MARK (if r = 0 then 5 else 4) (nI c) W)) := S2'.cong hk (fun t _ => rfl) (fun T g1 _ => dec_T (by omega)) (fun j hj => dec_0 (by omega))
  have hN : ∀ t, t ≠ ev k → t ≠ ev k + 1 → t ≠ ev k + 2 → t ≠ bo k + 14 → t ≠ bo k + 17 + c → NOTE k (if r = 0 then 5 else 4) (nI c) V t = v t := fun t g1 g2 g3 g4 g5 => by rw [note_t g1 g2 g3, Vt t g4 g5]
  have hM0 : ∀ j, j ≠ 22 → j ≠ 32 → DEC (MARK (if r = 0 then 5 else 4) (nI c) W) 0 j = w 0 j := fun j g1 g2 => by rw [dec_0 g2, mark_0 g1, Wt 0 (by omega)]
  have hMT : ∀ T, T ≠ 0 → T ≠ 20 → ¬ (15 ≤ T ∧ T ≤ 19) → DEC (MARK (if r = 0 then 5 else 4) (nI c) W) T = w T := fun T g1 g2 g3 => by rw [dec_T g1, mark_t g1 g2, Wt T g3]
  have ebo : NOTE k (if r = 0 then 5 else 4) (nI c) V (bo k) = v (bo k) := hN _ (by omega) (by omega) (by omega) (by omega) (by omega)
  have enow : NOTE k (if r = 0 then 5 else 4) (nI c) V (bo k + 16) = v (bo k + 16) := hN _ (by omega) (by omega) (by omega) (by omega) (by omega)
  have e14 : NOTE k (if r = 0 then 5 else 4) (nI c) V (bo k + 14) = upd (v (bo k + 14)) c 2 := by rw [note_t (by omega) (by omega) (by omega), V14]
  refine ⟨⟨S3, ?_, fun t g1 g2 g3 g4 g5 => hN t g3 g4 g5 (by omega) (by omega), ⟨fun T g1 g2 => hMT T (by omega) (by omega) (by omega), fun T g => hMT T (by omega) (by omega) (by omega), fun j _ => by rw [hMT 13 (by omega) (by omega) (by omega)], fun j _ => by rw [hMT 14 (by omega) (by omega) (by omega)], fun T j g1 g2 g3 => by rw [dec_T (by omega), mark_t (by omega) (by omega), Wn T j (by omega)], fun j g1 g2 g3 => hM0 j g1 (by omega)⟩, by unfold nS; rw [ebo]; exact Nat.le_refl _, ?_, fun m _ hm => by rw [ebo]; exact hm⟩, S2.eq ebo, ?_⟩
  · unfold WK
    rw [hM0 24 (by decide) (by decide), hN (lo k) (by omega) (by omega) (by omega) (by omega) (by omega)]
    exact hW
  · unfold nC
    rw [e14]
    have := nz_set (f := v (bo k + 14)) (g := upd (v (bo k + 14)) c 2) hc (fun j hj => by simp [upd, hj])
    have g2 : upd (v (bo k + 14)) c 2 c ≠ 0 := by simp [upd]
    by_cases z : v (bo k + 14) c = 0
    · have := this.1 z g2; omega
    · have := this.2 z g2; omega
  · unfold Good Bad
    rw [enow, hM0 33 (by decide) (by decide), hM0 34 (by decide) (by decide), hM0 35 (by decide) (by decide), hM0 36 (by decide) (by decide), hM0 37 (by decide) (by decide)]
    exact hr
theorem ends_32 {d : Nat} (h : w 0 32 = nI (d + 1)) : ENDS L c w 0 32 = nI d := by
  unfold ENDS
  apply dec_32
  rw [mark_0 (by decide), upd_tag (by decide), upd_tag (by decide), upd_tag (by decide), upd_tag (by decide), upd_tag (by decide)]
  exact h
theorem ends_FS : FS t w (ENDS L c w) := by
  intro T i h1 h2 h3
  unfold ENDS
  rw [dec_T (by omega), mark_t (by omega) (by omega), upd_tag (by omega), upd_tag (by omega), upd_tag (by omega), upd_tag (by omega), upd_tag (by omega)]
theorem note_up {a x : Int32} {T : Nat} {f : Nat → Int32} (h0 : T ≠ ev k) (h1 : T ≠ ev k + 1) (h2 : T ≠ ev k + 2) : va_up (NOTE k a x v) T f = NOTE k a x (va_up v T f) := by
  have e : va_up v T f (ev k) = v (ev k) := va_up_ne _ _ (Ne.symm h0)
  unfold NOTE
  rw [e]
  by_cases h : 200 ≤ v (ev k) 2
  · rw [if_pos h, if_pos h]
  · rw [if_neg h, if_neg h]
    funext a' j
    by_cases q : a' = T
    · subst q
      rw [va_up_self, fm_u_t _ _ _ _ h0, fm_u_t _ _ _ _ h2, fm_u_t _ _ _ _ h1, va_up_self]
    · rw [va_up_ne _ _ q]
      simp only [fm_u_at, va_up_ne _ _ q]
/-- a module begins to start -/
theorem ev_begin {f : Nat → Int32} {W : fm_T} (hkl : KL k L) (hm : m < 12) (h : SS M K k L v w) (hW : WK k β v w) (h0 : v (bo k) m = 0) (hf : ∀ i, i < 8 → f i = v (4 + m) i)
    (p1 : ∀ T, T ≠ 13 → T ≠ 14 → W T = w T) (p2 : W 13 (12 * L + m) = 2) (p3 : ∀ i, i ≠ 12 * L + m → W 13 i = w 13 i) (p4 : ∀ i, i < 8 → W 14 (96 * L + 8 * m + i) = w 2 (8 * m + i)) (p5 : ∀ i, i < 96 * L + 8 * m ∨ 96 * L + 8 * m + 8 ≤ i → W 14 i = w 14 i) :
    PO M K k L β v w (va_up (NOTE k 0 (nI m) (fm_u v (bo k) m 2)) (bo k + 2 + m) f) (fm_u (MARK 0 (nI m) W) 24 t 1) ∧ nS k (va_up (NOTE k 0 (nI m) (fm_u v (bo k) m 2)) (bo k + 2 + m) f) = nS k v + 1 ∧ va_up (NOTE k 0 (nI m) (fm_u v (bo k) m 2)) (bo k + 2 + m) f (bo k) m = 2 ∧ ∀ j, j ≠ m → va_up (NOTE k 0 (nI m) (fm_u v (bo k) m 2)) (bo k + 2 + m) f (bo k) j = v (bo k) j := by
  have hk := hkl.k4
  have hL := hkl.L5
  have hg := bo_ge hk
  have hl := bo_lo hk hk
  have ho := bo_out hk
  have hlg := lo_ge hk
  have hll := lo_le hk
  have hbe := bo_ev hk hk
  have hev := ev_cases hk
  obtain ⟨h1, h2, h3, h4⟩ := id h
  rw [note_up (by omega) (by omega) (by omega)]
  generalize hV : va_up (fm_u v (bo k) m 2) (bo k + 2 + m) f = V
  have Vb : V (bo k) = upd (v (bo k)) m 2 := by
    rw [← hV, va_up_ne _ _ (by omega)]
    unfold fm_u
    rw [va_up_self]
  have Vr : V (bo k + 2 + m) = f := by rw [← hV, va_up_self]
  have Vt : ∀ t, t ≠ bo k → t ≠ bo k + 2 + m → V t = v t := fun t g1 g2 => by rw [← hV, va_up_ne _ _ g2, upd_tag g1]
  have hrow := h1.2.2.1
  have S1 : SS M K k L V W := by
    refine ⟨h1.cong (fun t _ _ => Vt t (by omega) (by omega)) (fun T _ _ => p1 T (by omega) (by omega)) (by rw [p1 0 (by omega) (by omega)]) (by rw [p1 0 (by omega) (by omega)]), h2.set hm (fun j hj => by rw [Vb]; simp [upd, hj]) (fun j _ hj => Vt _ (by omega) (by omega)) (fun j _ hj => p3 _ (by omega)) (fun j i _ hj hi => p5 _ (by omega)) (s := 2) (by omega) (by rw [Vb, n_2]; simp [upd]) (by rw [p2, n_2]) (fun _ i hi => by rw [p4 i hi, Vr, hf i hi]; exact hrow m i hm hi), h3.cong (fun t ht => Vt t (by rcases ht with rfl | ht <;> omega) (by rcases ht with rfl | ht <;> omega)) (fun T j _ _ _ _ => by rw [p1 T (by omega) (by omega)]), h4.1.cong (Vt _ (by omega) (by omega)) (Vt _ (by omega) (by omega)) (Vt _ (by omega) (by omega)) (Vt _ (by omega) (by omega)) (p1 _ (by omega) (by omega)) (by rw [p1 0 (by omega) (by omega)]), by rw [p1 0 (by omega) (by omega)]; exact h4.2⟩
  have S2' := S1.nm hk 0 (nI m)
  have S3 : SS M K k L (NOTE k 0 (nI m) V) (fm_u (MARK 0 (nI m) W) 24 t 1) := S2'.cong hk (fun t _ => rfl) (fun T g1 _ => upd_tag (by omega)) (fun j hj => by rw [upd_tag (by decide)])
  have hN : ∀ t, t ≠ ev k → t ≠ ev k + 1 → t ≠ ev k + 2 → t ≠ bo k → t ≠ bo k + 2 + m → NOTE k 0 (nI m) V t = v t := fun t g1 g2 g3 g4 g5 => by rw [note_t g1 g2 g3, Vt t g4 g5]
  have eb : NOTE k 0 (nI m) V (bo k) = upd (v (bo k)) m 2 := by rw [note_t (by omega) (by omega) (by omega), Vb]
  have hMT : ∀ T, T ≠ 0 → T ≠ 20 → T ≠ 13 → T ≠ 14 → T ≠ 24 → fm_u (MARK 0 (nI m) W) 24 t 1 T = w T := fun T g1 g2 g3 g4 g5 => by rw [upd_tag g5, mark_t g1 g2, p1 T g3 g4]
  have hM0 : ∀ j, j ≠ 22 → fm_u (MARK 0 (nI m) W) 24 t 1 0 j = w 0 j := fun j g => by rw [upd_tag (by decide), mark_0 g, p1 0 (by decide) (by decide)]
  have hns : nS k (NOTE k 0 (nI m) V) = nS k v + 1 := by
    unfold nS
    rw [eb]
    exact (nz_set (f := v (bo k)) (g := upd (v (bo k)) m 2) hm (fun j hj => by simp [upd, hj])).1 h0 (by simp [upd])
  refine ⟨⟨S3, ?_, fun t g1 g2 g3 g4 g5 => hN t g3 g4 g5 (by omega) (by omega), ⟨fun T g1 g2 => hMT T (by omega) (by omega) (by omega) (by omega) (by omega), fun T g => hMT T (by omega) (by omega) (by omega) (by omega) (by omega), fun j g => by rw [upd_tag (by decide), mark_t (by decide) (by decide), p3 j (by omega)], fun j g => by rw [upd_tag (by decide), mark_t (by decide) (by decide), p5 j (by omega)], fun T j g1 g2 g3 => by rw [hMT T (by omega) (by omega) (by omega) (by omega) (by omega)], fun j g1 _ _ => hM0 j g1⟩, by omega, ?_, fun j _ hj => ?_⟩, hns, by rw [eb]; simp [upd], fun j hj => by rw [eb]; simp [upd, hj]⟩
  · unfold WK
    rw [hM0 24 (by decide), hN (lo k) (by omega) (by omega) (by omega) (by omega) (by omega)]
    exact hW
  · unfold nC
    rw [hN _ (by omega) (by omega) (by omega) (by omega) (by omega)]
    exact Nat.le_refl _
  · rw [eb]
    by_cases z : j = m
    · subst z; simp [upd]
    · simp [upd, z]; exact hj
/-- a module's start ends, well (1) or not (3) -/
theorem ev_state {s : Nat} {a : Int32} (hkl : KL k L) (hm : m < 12) (h : SS M K k L v w) (hW : WK k β v w) (hs : s ≤ 3) (s0 : s ≠ 0) (h0 : v (bo k) m ≠ 0) : PO M K k L β v w (NOTE k a (nI m) (fm_u v (bo k) m (nI s))) (MARK a (nI m) (fm_u w 13 (12 * L + m) (nI s))) ∧ NOTE k a (nI m) (fm_u v (bo k) m (nI s)) (bo k) = upd (v (bo k)) m (nI s) ∧ NOTE k a (nI m) (fm_u v (bo k) m (nI s)) (bo k + 16) = v (bo k + 16) := by
  have hk := hkl.k4
  have hL := hkl.L5
  have hg := bo_ge hk
  have hl := bo_lo hk hk
  have ho := bo_out hk
  have hlg := lo_ge hk
  have hll := lo_le hk
  have hbe := bo_ev hk hk
  have hev := ev_cases hk
  obtain ⟨h1, h2, h3, h4⟩ := id h
  have sz : nI s ≠ 0 := nI_ne0 (by omega) (by omega)
  obtain ⟨s', a1, a2, a3, a4⟩ := h2 m hm
  have s'0 : s' ≠ 0 := fun q => h0 (by rw [a2, q, nI_0])
  have S1 : SS M K k L (fm_u v (bo k) m (nI s)) (fm_u w 13 (12 * L + m) (nI s)) := by
    refine ⟨h1.cong (fun t _ _ => upd_tag (by omega)) (fun T _ _ => upd_tag (by omega)) (by rw [upd_tag (by decide)]) (by rw [upd_tag (by decide)]), h2.set hm (fun j hj => fm_u_ne _ _ _ _ (Or.inr hj)) (fun j _ hj => upd_tag (by omega)) (fun j _ hj => fm_u_ne _ _ _ _ (Or.inr (by omega))) (fun j i _ hj hi => by rw [upd_tag (by decide)]) hs (fm_u_eq _ _ _ _) (fm_u_eq _ _ _ _) (fun _ i hi => by rw [upd_tag (by decide), upd_tag (by omega)]; exact a4 s'0 i hi), h3.cong (fun t ht => upd_tag (by rcases ht with rfl | ht <;> omega)) (fun T j _ _ _ _ => by rw [upd_tag (by omega)]), h4.1.cong (upd_tag (by omega)) (upd_tag (by omega)) (upd_tag (by omega)) (upd_tag (by omega)) (upd_tag (by decide)) (by rw [upd_tag (by decide)]), by rw [upd_tag (by decide)]; exact h4.2⟩
  have S2' := S1.nm hk a (nI m)
  have hN : ∀ t, t ≠ ev k → t ≠ ev k + 1 → t ≠ ev k + 2 → t ≠ bo k → NOTE k a (nI m) (fm_u v (bo k) m (nI s)) t = v t := fun t g1 g2 g3 g4 => by rw [note_t g1 g2 g3, upd_tag g4]
  have eb : NOTE k a (nI m) (fm_u v (bo k) m (nI s)) (bo k) = upd (v (bo k)) m (nI s) := by
    rw [note_t (by omega) (by omega) (by omega)]
    unfold fm_u
    rw [va_up_self]
  have hMT : ∀ T, T ≠ 0 → T ≠ 20 → T ≠ 13 → MARK a (nI m) (fm_u w 13 (12 * L + m) (nI s)) T = w T := fun T g1 g2 g3 => by rw [mark_t g1 g2, upd_tag g3]
  have hM0 : ∀ j, j ≠ 22 → MARK a (nI m) (fm_u w 13 (12 * L + m) (nI s)) 0 j = w 0 j := fun j g => by rw [mark_0 g, upd_tag (by decide)]
  refine ⟨⟨S2', ?_, fun t g1 g2 g3 g4 g5 => hN t g3 g4 g5 (by omega), ⟨fun T g1 g2 => hMT T (by omega) (by omega) (by omega), fun T g => hMT T (by omega) (by omega) (by omega), fun j g => by rw [mark_t (by decide) (by decide), fm_u_ne _ _ _ _ (Or.inr (by omega))], fun j g => by rw [hMT 14 (by decide) (by decide) (by decide)], fun T j g1 g2 g3 => by rw [hMT T (by omega) (by omega) (by omega)], fun j g1 _ _ => hM0 j g1⟩, ?_, ?_, fun j _ hj => ?_⟩, eb, hN _ (by omega) (by omega) (by omega) (by omega)⟩
  · unfold WK
    rw [hM0 24 (by decide), hN (lo k) (by omega) (by omega) (by omega) (by omega)]
    exact hW
  · unfold nS
    rw [eb]
    have := (nz_set (f := v (bo k)) (g := upd (v (bo k)) m (nI s)) hm (fun j hj => by simp [upd, hj])).2 h0 (by simp [upd, sz])
    omega
  · unfold nC
    rw [hN _ (by omega) (by omega) (by omega) (by omega)]
    exact Nat.le_refl _
  · rw [eb]
    by_cases z : j = m
    · subst z; simp [upd, sz]
    · simp [upd, z]; exact hj
/-- an item of a row becomes x -/
theorem ev_store {i : Nat} {x : Int32} (hkl : KL k L) (hm : m < 12) (hi : i < 8) (h : SS M K k L v w) (hW : WK k β v w) (h0 : v (bo k) m ≠ 0) : PO M K k L β v w (fm_u v (bo k + 2 + m) i x) (fm_u w 14 (96 * L + 8 * m + i) x) ∧ S2 k v (fm_u v (bo k + 2 + m) i x) := by
  have hk := hkl.k4
  have hL := hkl.L5
  have hg := bo_ge hk
  have hl := bo_lo hk hk
  have ho := bo_out hk
  have hlg := lo_ge hk
  have hll := lo_le hk
  obtain ⟨h1, h2, h3, h4⟩ := id h
  obtain ⟨s', a1, a2, a3, a4⟩ := h2 m hm
  have s'0 : s' ≠ 0 := fun q => h0 (by rw [a2, q, nI_0])
  have S1 : SS M K k L (fm_u v (bo k + 2 + m) i x) (fm_u w 14 (96 * L + 8 * m + i) x) := by
    refine ⟨h1.cong (fun t _ _ => upd_tag (by omega)) (fun T _ _ => upd_tag (by omega)) (by rw [upd_tag (by decide)]) (by rw [upd_tag (by decide)]), h2.set hm (fun j hj => by rw [upd_tag (by omega)]) (fun j _ hj => upd_tag (by omega)) (fun j _ hj => by rw [upd_tag (by decide)]) (fun j i' _ hj hi' => fm_u_ne _ _ _ _ (Or.inr (by omega))) a1 (by rw [upd_tag (by omega)]; exact a2) (by rw [upd_tag (by decide)]; exact a3) (fun _ i' hi' => ?_), h3.cong (fun t ht => upd_tag (by rcases ht with rfl | ht <;> omega)) (fun T j _ _ _ _ => by rw [upd_tag (by omega)]), h4.1.cong (upd_tag (by omega)) (upd_tag (by omega)) (upd_tag (by omega)) (upd_tag (by omega)) (upd_tag (by decide)) (by rw [upd_tag (by decide)]), by rw [upd_tag (by decide)]; exact h4.2⟩
    by_cases z : i' = i
    · subst z
      rw [fm_u_eq, fm_u_eq]
    · rw [fm_u_ne _ _ _ _ (Or.inr (by omega)), fm_u_ne _ _ _ _ (Or.inr z)]
      exact a4 s'0 i' hi'
  refine ⟨⟨S1, ?_, fun t g1 g2 g3 g4 g5 => upd_tag (by omega), ⟨fun T g1 g2 => upd_tag (by omega), fun T g => upd_tag (by omega), fun j g => by rw [upd_tag (by decide)], fun j g => fm_u_ne _ _ _ _ (Or.inr (by omega)), fun T j g1 g2 g3 => by rw [upd_tag (by omega)], fun j g1 _ _ => by rw [upd_tag (by decide)]⟩, by unfold nS; rw [upd_tag (by omega)]; exact Nat.le_refl _, by unfold nC; rw [upd_tag (by omega)]; exact Nat.le_refl _, fun j _ hj => by rw [upd_tag (by omega)]; exact hj⟩, S2.eq (upd_tag (by omega))⟩
  unfold WK
  rw [upd_tag (show 0 ≠ 14 by decide), upd_tag (show lo k ≠ bo k + 2 + m by omega)]
  exact hW
end EV2
