section RECK2
variable {M K k L t c d : Nat} {β : Int32} {v w : fm_T}
/-- the second constant: what comes out of the first is v1, w1, the frame's phase becomes 3 and its hold x -/
theorem sc_sub (hkl : KL k L) (hc : c < 40) (ht : t + 1 ≤ 2 * nS k v + nC k v) {v1 w1 W : fm_T} {e : Nat} (IE : SimO e) (hfe : 4 * (52 - nS k v - nC k v) + 4 ≤ e) {b : Nat} (hb : b < 40) (P1 : PO M K k L β v w v1 w1) (F1 : FrN t c 2 w1) (hW3 : W 24 t = 3) (hWt : ∀ T, T ≠ 24 → T ≠ 25 → W T = w1 T) (hWf : ∀ T i, i ≠ t → W T i = w1 T i) : ∃ (r : Int32) (v' w' : fm_T), gC e 0 k (nI b) (nI (t + 1)) 0 v1 = some (r, v') ∧ Go L (PUSH (t + 1) 0 (nI b) W) w' ∧ PO M K k L β v1 w1 v' w' ∧ S2 k v1 v' ∧ FS t w1 w' ∧ FrN t c 3 w' ∧ w' 25 t = W 25 t ∧ ((r = 1 ∧ Good k v' w') ∨ (r = 0 ∧ Bad k v' w')) := by
  have hk := hkl.k4
  have g1 := P1.2.2.2.2.1
  have g2 := P1.2.2.2.2.2.1
  have P2 : PO M K k L β v1 w1 v1 W := PO.frame hk P1.1 P1.2.1 (fun T h1 h2 => hWt T (by omega) (by omega)) (fun j hj => by rw [hWt 0 (by decide) (by decide)])
  obtain ⟨r, v', w', e1, e2, e3, e4, e5, e6, e7⟩ := subO (t := t) IE hkl P2.1 P2.2.1 hb (by omega) (by omega)
  refine ⟨r, v', w', e1, e2, P2.tr e3, e4, FS.tr (w1 := W) (fun T i a1 a2 a3 => hWf T i (by omega)) (e5.mono (by omega)), ⟨e6, ?_, ?_, ?_⟩, e5 25 t (by decide) (by decide) (by omega), e7⟩
  · rw [e5 22 t (by decide) (by decide) (by omega), hWt 22 (by decide) (by decide)]; exact F1.2.1
  · rw [e5 23 t (by decide) (by decide) (by omega), hWt 23 (by decide) (by decide)]; exact F1.2.2.1
  · rw [e5 24 t (by decide) (by decide) (by omega)]; exact hW3
theorem sc_bad (hkl : KL k L) (hc : c < 40) (ht : t + 1 ≤ 2 * nS k v + nC k v) {v1 w1 v' w' : fm_T} (hP : PO M K k L β v1 w1 v' w') (e6 : FrN t c 3 w') (z : Bad k v' w') : Go L w' (ENDS L c w') := by
  obtain ⟨N, N1, N2⟩ := hP.1.n22
  obtain ⟨⟨f, f0, f8, -, f2⟩, -⟩ := id z
  exact goS (t199 ht) e6 (se_bad hc hkl.L5 N1 N2 f2 f0 f8)
theorem rc_7 (hkl : KL k L) (IO : SimO (d + 1)) (hS : SS M K k L v w) (hW : WK k β v w) (hc : c < 40) (ht : t + 1 ≤ 2 * nS k v + nC k v) (hfu : 4 * (52 - nS k v - nC k v) + 4 ≤ d) (hF : FrN t c 2 w) {a b e : Nat} (h58 : v 58 c = 7) (h9 : w 9 c = 7) (e10 : w 10 c = v 59 c) (e11 : w 11 c = v 60 c) (e12 : w 12 c = v 61 c) (za : v 59 c = nI a) (ha : a < 40) (zb : v 60 c = nI b) (hb : b < 40) (ze : v 61 c = nI e) (he : e < 40) : RK M K k L t c β (d + 1) v w := by
  have hk := hkl.k4
  have hbo := bo_ge hk
  have tt := t199 ht
  obtain ⟨r, v1, w1, e1, e2, e3, e4, e5, e6, e7⟩ := rc_sub hkl IO hS hW ht hfu hF ha
  have q9 : w1 9 c = 7 := by rw [e3.pw 9 (by decide) (by decide)]; exact h9
  have q61 : v1 61 c = nI e := by rw [e3.pv hk 61 (by decide) (by decide)]; exact ze
  have eb := bg_7 (L := L) hc tt hF.1 h9
  rw [e10, za] at eb
  rcases e7 with ⟨rfl, z1⟩ | ⟨rfl, z1⟩
  · have go2 : ∀ {y : Nat} (hy : y < 40) (r' : Int32) (v' w' : fm_T), gC (d + 1) 0 k (nI y) (nI (t + 1)) 0 v1 = some (r', v') → ((if v1 (bo k + 16) 0 = 0 then w1 12 c else w1 11 c) = nI y) → Go L (PUSH (t + 1) 0 (nI y) (fm_u w1 24 t 3)) w' → Go L (PUSH (t + 1) 0 (nI a) w) w' := by
      intro y hy r' v' w' _ h2 h3
      refine e2.tr (Go.tr ?_ h3)
      by_cases q : v1 (bo k + 16) 0 = 0
      · rw [if_pos q] at h2
        have g := goF (L := L) tt e6 (fi_7z hc z1.2.1 tt e6.1 (by rw [z1.2.2]; exact q) q9)
        rw [h2] at g
        exact g
      · rw [if_neg q] at h2
        have g := goF (L := L) tt e6 (fi_7n hc z1.2.1 tt e6.1 (by rw [z1.2.2]; exact q) q9)
        rw [h2] at g
        exact g
    have fin : ∀ {y : Nat} (hy : y < 40), ((if v1 (bo k + 16) 0 = 0 then w1 12 c else w1 11 c) = nI y) → (f_X0_reckon (gC (d + 1)) k (nI c) (nI (t + 1)) v = ((gC (d + 1) 0 k (nI y) (nI (t + 1)) 0 v1).bind fun q45 => (if q45.1 = 0 then some (0, q45.2) else some (1, q45.2)))) → RK M K k L t c β (d + 1) v w := by
      intro y hy h2 h3
      obtain ⟨r', v', w', i1, i2, i3, i4, i5, i6, i7, i8⟩ := sc_sub (c := c) (W := fm_u w1 24 t 3) hkl hc ht IO (by omega) hy e3 e6 (by rw [fm_u_eq]) (fun T g1 g2 => upd_tag g1) (fun T i g => fm_u_ne _ _ _ _ (Or.inr g))
      have G := go2 hy r' v' w' i1 h2 i2
      obtain ⟨N, N1, N2⟩ := i3.1.n22
      have q9' : w' 9 c = 7 := by rw [i3.pw 9 (by decide) (by decide)]; exact q9
      rcases i8 with ⟨rfl, z2⟩ | ⟨rfl, z2⟩
      · refine ⟨1, v', _, w', ?_, eb, G.tr (goS tt i6 (se_7 hc hkl.L5 N1 N2 z2.2.1 (by rw [q9']; decide) (by rw [q9']; decide))), e3.tr i3, e4.tr i4, e5.tr i5, i6.1, Or.inl ⟨rfl, z2⟩⟩
        rw [h3, i1, Option.bind_some]
        dsimp only
        rw [if_neg n10]
      · refine ⟨0, v', _, w', ?_, eb, G.tr (sc_bad hkl hc ht i3 i6 z2), e3.tr i3, e4.tr i4, e5.tr i5, i6.1, Or.inr ⟨rfl, z2⟩⟩
        rw [h3, i1, Option.bind_some]
        dsimp only
        rw [if_pos rfl]
    by_cases q : v1 (bo k + 16) 0 = 0
    · refine fin he (by rw [if_pos q, e3.pw 12 (by decide) (by decide), e12]; exact ze) ?_
      rw [rk_7 hc h58, za, e1, Option.bind_some]
      dsimp only
      rw [if_neg n10, if_pos q, q61]
    · refine fin hb (by rw [if_neg q, e3.pw 11 (by decide) (by decide), e11]; exact zb) ?_
      rw [rk_7 hc h58, za, e1, Option.bind_some]
      dsimp only
      rw [if_neg n10, if_neg q, zb]
  · refine ⟨0, v1, _, w1, ?_, eb, e2.tr (rc_bad hkl hc ht e3 (by rw [h9]; decide) e6 z1), e3, e4, e5, e6.1, Or.inr ⟨rfl, z1⟩⟩
    rw [rk_7 hc h58, za, e1, Option.bind_some]
    dsimp only
    rw [if_pos rfl]
theorem rc_2 (hkl : KL k L) (IO1 : SimO d) (hS : SS M K k L v w) (hW : WK k β v w) (hc : c < 40) (ht : t + 1 ≤ 2 * nS k v + nC k v) (hfu : 4 * (52 - nS k v - nC k v) + 4 ≤ d) (hF : FrN t c 2 w) {a b : Nat} (h58 : v 58 c = 2) (h9 : w 9 c = 2) (e10 : w 10 c = v 59 c) (e11 : w 11 c = v 60 c) (za : v 59 c = nI a) (ha : a < 40) (zb : v 60 c = nI b) (hb : b < 40) : RK M K k L t c β (d + 1) v w := by
  have hk := hkl.k4
  have hbo := bo_ge hk
  have tt := t199 ht
  obtain ⟨r, v1, w1, e1, e2, e3, e4, e5', e6', e7⟩ := subO (t := t) IO1 hkl hS hW ha ht hfu
  have e6 := hF.fs e5' e6'
  have e5 : FS t w w1 := e5'.mono (by omega)
  have q9 : w1 9 c = 2 := by rw [e3.pw 9 (by decide) (by decide)]; exact h9
  have q11 : w1 11 c = nI b := by rw [e3.pw 11 (by decide) (by decide), e11]; exact zb
  have eb := bg_2 (L := L) hc tt hF.1 h9
  rw [e10, za] at eb
  rcases e7 with ⟨rfl, z1⟩ | ⟨rfl, z1⟩
  · have g1 := goF (L := L) tt e6 (fi_2 hc z1.2.1 tt e6.1 q9)
    rw [q11] at g1
    obtain ⟨r', v', w', i1, i2, i3, i4, i5, i6, i7, i8⟩ := sc_sub (c := c) (W := fm_u (fm_u w1 25 t (w1 0 33)) 24 t 3) hkl hc ht IO1 hfu hb e3 e6 (by rw [fm_u_eq]) (fun T g1 g2 => by rw [upd_tag g1, upd_tag g2]) (fun T i g => by rw [fm_u_ne _ _ _ _ (Or.inr g), fm_u_ne _ _ _ _ (Or.inr g)])
    rw [upd_tag (by decide), fm_u_eq] at i7
    obtain ⟨N, N1, N2⟩ := i3.1.n22
    have q9' : w' 9 c = 2 := by rw [i3.pw 9 (by decide) (by decide)]; exact q9
    rcases i8 with ⟨rfl, z2⟩ | ⟨rfl, z2⟩
    · have g2 := goS (L := L) tt i6 (se_2 hc (by omega) hkl.L5 N1 N2 z2.2.1 q9')
      rw [i7, z1.2.2, z2.2.2] at g2
      obtain ⟨E1, E2⟩ := ev_give (x := v1 (bo k + 16) 0 * v' (bo k + 16) 0) hk i3.1 i3.2.1
      refine ⟨1, _, _, GIVES (v1 (bo k + 16) 0 * v' (bo k + 16) 0) w', ?_, eb, e2.tr (g1.tr (i2.tr g2)), e3.tr (i3.tr E1), e4.tr (i4.tr (S2.eq (succ_t (by omega)))), e5.tr (i5.tr (fun T i a1 a2 a3 => by rw [gives_T (by omega)])), by rw [gives_0 (by decide) (by decide)]; exact i6.1, Or.inl ⟨rfl, E2⟩⟩
      rw [rk_2 hc h58, za, zb, gC_4]
      unfold f_X0_multiply
      rw [e1, Option.bind_some]
      dsimp only
      rw [if_neg n10, i1, Option.bind_some]
      dsimp only
      rw [if_neg n10, succ_eq, Option.bind_some]
      dsimp only
      rw [if_neg n10, Option.bind_some]
      dsimp only
      rw [if_pos b01]
    · refine ⟨0, v', _, w', ?_, eb, e2.tr (g1.tr (i2.tr (sc_bad hkl hc ht i3 i6 z2))), e3.tr i3, e4.tr i4, e5.tr i5, i6.1, Or.inr ⟨rfl, z2⟩⟩
      rw [rk_2 hc h58, za, zb, gC_4]
      unfold f_X0_multiply
      rw [e1, Option.bind_some]
      dsimp only
      rw [if_neg n10, i1, Option.bind_some]
      dsimp only
      rw [if_pos rfl, Option.bind_some]
      dsimp only
      rw [if_pos b00]
  · refine ⟨0, v1, _, w1, ?_, eb, e2.tr (rc_bad hkl hc ht e3 (by rw [h9]; decide) e6 z1), e3, e4, e5, e6.1, Or.inr ⟨rfl, z1⟩⟩
    rw [rk_2 hc h58, za, zb, gC_4]
    unfold f_X0_multiply
    rw [e1, Option.bind_some]
    dsimp only
    rw [if_pos rfl, Option.bind_some]
    dsimp only
    rw [if_pos b00]
theorem rc_3 (hkl : KL k L) (IO1 : SimO d) (hS : SS M K k L v w) (hW : WK k β v w) (hc : c < 40) (ht : t + 1 ≤ 2 * nS k v + nC k v) (hfu : 4 * (52 - nS k v - nC k v) + 4 ≤ d) (hF : FrN t c 2 w) {a b : Nat} (h58 : v 58 c = 3) (h9 : w 9 c = 3) (e10 : w 10 c = v 59 c) (e11 : w 11 c = v 60 c) (za : v 59 c = nI a) (ha : a < 40) (zb : v 60 c = nI b) (hb : b < 40) : RK M K k L t c β (d + 1) v w := by
  have hk := hkl.k4
  have hbo := bo_ge hk
  have tt := t199 ht
  obtain ⟨r, v1, w1, e1, e2, e3, e4, e5', e6', e7⟩ := subO (t := t) IO1 hkl hS hW ha ht hfu
  have e6 := hF.fs e5' e6'
  have e5 : FS t w w1 := e5'.mono (by omega)
  have q9 : w1 9 c = 3 := by rw [e3.pw 9 (by decide) (by decide)]; exact h9
  have q11 : w1 11 c = nI b := by rw [e3.pw 11 (by decide) (by decide), e11]; exact zb
  have eb := bg_3 (L := L) hc tt hF.1 h9
  rw [e10, za] at eb
  rcases e7 with ⟨rfl, z1⟩ | ⟨rfl, z1⟩
  · have g1 := goF (L := L) tt e6 (fi_3 hc z1.2.1 tt e6.1 q9)
    rw [q11] at g1
    obtain ⟨r', v', w', i1, i2, i3, i4, i5, i6, i7, i8⟩ := sc_sub (c := c) (W := fm_u (fm_u w1 25 t (w1 0 33)) 24 t 3) hkl hc ht IO1 hfu hb e3 e6 (by rw [fm_u_eq]) (fun T g1 g2 => by rw [upd_tag g1, upd_tag g2]) (fun T i g => by rw [fm_u_ne _ _ _ _ (Or.inr g), fm_u_ne _ _ _ _ (Or.inr g)])
    rw [upd_tag (by decide), fm_u_eq] at i7
    obtain ⟨N, N1, N2⟩ := i3.1.n22
    have q9' : w' 9 c = 3 := by rw [i3.pw 9 (by decide) (by decide)]; exact q9
    rcases i8 with ⟨rfl, z2⟩ | ⟨rfl, z2⟩
    · by_cases y0 : v' (bo k + 16) 0 = 0
      · have g2 := goS (L := L) tt i6 (se_3z hc hkl.L5 N1 N2 z2.2.1 q9' (by rw [z2.2.2]; exact y0))
        obtain ⟨E1, E2⟩ := ev_fail (f := 1) (x := 0) hk i3.1 i3.2.1 (by decide) (by decide)
        rw [n_1] at E1 E2
        refine ⟨0, _, _, FAILS 1 0 w', ?_, eb, e2.tr (g1.tr (i2.tr g2)), e3.tr (i3.tr E1), e4.tr (i4.tr (S2.eq (fail_t (by omega)))), e5.tr (i5.tr (fun T i a1 a2 a3 => by rw [fails_T (by omega)])), by rw [fails_0 (by omega)]; exact i6.1, Or.inr ⟨rfl, E2⟩⟩
        rw [rk_3 hc h58, za, zb, gC_5]
        unfold f_X0_divide
        rw [e1, Option.bind_some]
        dsimp only
        rw [if_neg n10, i1, Option.bind_some]
        dsimp only
        rw [if_neg n10, if_pos y0, fail_eq, Option.bind_some]
        dsimp only
        rw [if_pos b00, Option.bind_some]
        dsimp only
        rw [if_pos b00]
      · have g2 := goS (L := L) tt i6 (se_3n hc (by omega) hkl.L5 N1 N2 z2.2.1 q9' (by rw [z2.2.2]; exact y0))
        rw [i7, z1.2.2, z2.2.2] at g2
        obtain ⟨E1, E2⟩ := ev_give (x := v1 (bo k + 16) 0 / v' (bo k + 16) 0) hk i3.1 i3.2.1
        refine ⟨1, _, _, GIVES (v1 (bo k + 16) 0 / v' (bo k + 16) 0) w', ?_, eb, e2.tr (g1.tr (i2.tr g2)), e3.tr (i3.tr E1), e4.tr (i4.tr (S2.eq (succ_t (by omega)))), e5.tr (i5.tr (fun T i a1 a2 a3 => by rw [gives_T (by omega)])), by rw [gives_0 (by decide) (by decide)]; exact i6.1, Or.inl ⟨rfl, E2⟩⟩
        rw [rk_3 hc h58, za, zb, gC_5]
        unfold f_X0_divide
        rw [e1, Option.bind_some]
        dsimp only
        rw [if_neg n10, i1, Option.bind_some]
        dsimp only
        rw [if_neg n10, if_neg y0, succ_eq, Option.bind_some]
        dsimp only
        rw [if_pos b01, Option.bind_some]
        dsimp only
        rw [if_pos b01]
    · refine ⟨0, v', _, w', ?_, eb, e2.tr (g1.tr (i2.tr (sc_bad hkl hc ht i3 i6 z2))), e3.tr i3, e4.tr i4, e5.tr i5, i6.1, Or.inr ⟨rfl, z2⟩⟩
      rw [rk_3 hc h58, za, zb, gC_5]
      unfold f_X0_divide
      rw [e1, Option.bind_some]
      dsimp only
      rw [if_neg n10, i1, Option.bind_some]
      dsimp only
      rw [if_pos rfl, Option.bind_some]
      dsimp only
      rw [if_pos b00]
  · refine ⟨0, v1, _, w1, ?_, eb, e2.tr (rc_bad hkl hc ht e3 (by rw [h9]; decide) e6 z1), e3, e4, e5, e6.1, Or.inr ⟨rfl, z1⟩⟩
    rw [rk_3 hc h58, za, zb, gC_5]
    unfold f_X0_divide
    rw [e1, Option.bind_some]
    dsimp only
    rw [if_pos rfl, Option.bind_some]
    dsimp only
    rw [if_pos b00]
theorem reck (hkl : KL k L) (IO : SimO (d + 1)) (IB : SimB (d + 1)) (IO1 : SimO d) (hS : SS M K k L v w) (hW : WK k β v w) (ht : t + 1 ≤ 2 * nS k v + nC k v) (hfu : 4 * (52 - nS k v - nC k v) + 4 ≤ d) (hF : FrN t c 2 w) (hcK : c < K) (hown : ∀ mo, mo < 12 → v 57 c = nI mo → v (bo k) mo ≠ 0) : RK M K k L t c β (d + 1) v w := by
  have K40 := hS.1.1.2.1
  have M12 := hS.1.1.1
  have hc : c < 40 := by omega
  obtain ⟨mo, kd, c1, c2, c3, c4, c5, c6, c7, c8, c9, d1, d2, d3, d4⟩ := hS.1.2.2.2.2.2 c hcK
  have ho := hown mo (by omega) c3
  have K12 : kd = 0 ∨ kd = 1 ∨ kd = 2 ∨ kd = 3 ∨ kd = 4 ∨ kd = 5 ∨ kd = 6 ∨ kd = 7 ∨ kd = 8 ∨ kd = 9 ∨ kd = 10 ∨ kd = 11 := by omega
  rcases K12 with rfl | rfl | rfl | rfl | rfl | rfl | rfl | rfl | rfl | rfl | rfl | rfl
  · exact rc_0 hkl hS hW hc hF (c5.trans nI_0) (c6.trans nI_0) c7
  · obtain ⟨a, a1, a2⟩ := d1 (by decide)
    exact rc_1 hkl IO hS hW hc ht hfu hF (c5.trans n_1) (c6.trans n_1) c7 c8 a2 a1
  · obtain ⟨a, a1, a2⟩ := d1 (by decide)
    obtain ⟨b, b1, b2⟩ := d2 (by decide)
    exact rc_2 hkl IO1 hS hW hc ht hfu hF (c5.trans n_2) (c6.trans n_2) c7 c8 a2 a1 b2 b1
  · obtain ⟨a, a1, a2⟩ := d1 (by decide)
    obtain ⟨b, b1, b2⟩ := d2 (by decide)
    exact rc_3 hkl IO1 hS hW hc ht hfu hF (c5.trans n_3) (c6.trans n_3) c7 c8 a2 a1 b2 b1
  · obtain ⟨a, a1, a2⟩ := d1 (by decide)
    exact rc_4 hkl IO hS hW hc ht hfu hF (c5.trans n_4) (c6.trans n_4) c7 a2 a1 c3 c4 c1 ho
  · obtain ⟨a, a1, a2⟩ := d1 (by decide)
    exact rc_5 hkl IO hS hW hc ht hfu hF (c5.trans n_5) (c6.trans n_5) c7 c8 a2 a1
  · exact rc_6 hkl hS hW hc hF (c5.trans n_6) (c6.trans n_6) c7
  · obtain ⟨a, a1, a2⟩ := d1 (by decide)
    obtain ⟨b, b1, b2⟩ := d2 (by decide)
    obtain ⟨e, e1, e2⟩ := d3 rfl
    exact rc_7 hkl IO hS hW hc ht hfu hF (c5.trans n_7) (c6.trans n_7) c7 c8 c9 a2 a1 b2 b1 e2 e1
  · obtain ⟨a, a1, a2⟩ := d4 (by decide)
    exact rc_8 hkl hS hW hc hF (c5.trans n_8) (c6.trans n_8) c7 a2 a1
  · exact rc_9 hkl hS hW hc hF (c5.trans n_9) (c6.trans n_9) c7
  · obtain ⟨a, a1, a2⟩ := d4 (by decide)
    exact rc_10 hkl IB hS hW hc ht hfu hF (c5.trans n_10) (c6.trans n_10) c7 a2 a1
  · obtain ⟨a, a1, a2⟩ := d1 (by decide)
    exact rc_11 hkl IO hS hW hc ht hfu hF (c5.trans n_11) (c6.trans n_11) c7 c8 a2 a1 c3 c4 c1 ho
end RECK2
