section SB2
variable {M K k L t m : Nat} {β : Int32} {v w : fm_T}
theorem fin_bad (hkl : KL k L) (hm : m < 12) (h : SS M K k L v w) (hW : WK k β v w) (h0 : v (bo k) m ≠ 0) (hb : Bad k v w) : PO M K k L β v w (FSTART (bo k + 16) (nI m) (NOTE k 2 (nI m) (fm_u v (bo k) m 3))) (BREAKS L m w) ∧ Bad k (FSTART (bo k + 16) (nI m) (NOTE k 2 (nI m) (fm_u v (bo k) m 3))) (BREAKS L m w) ∧ FSTART (bo k + 16) (nI m) (NOTE k 2 (nI m) (fm_u v (bo k) m 3)) (bo k) = upd (v (bo k)) m 3 := by
  have hk := hkl.k4
  have hg := bo_ge hk
  obtain ⟨P1, eb, en⟩ := ev_state (s := 3) (a := 2) hkl hm h hW (by decide) (by decide) h0
  rw [n_3] at P1 eb en
  generalize hV : NOTE k 2 (nI m) (fm_u v (bo k) m 3) = V at P1 eb en ⊢
  have eB : BREAKS L m w = DEC (fm_u (fm_u (MARK 2 (nI m) (fm_u w 13 (12 * L + m) 3)) 0 34 5) 0 35 (nI m)) := rfl
  have m0 : ∀ j, j ≠ 22 → MARK 2 (nI m) (fm_u w 13 (12 * L + m) 3) 0 j = w 0 j := fun j g => by rw [mark_0 g, upd_tag (by decide)]
  rw [eB]
  generalize hWW : MARK 2 (nI m) (fm_u w 13 (12 * L + m) 3) = W at P1 m0 ⊢
  have P2 : PO M K k L β V W (FSTART (bo k + 16) (nI m) V) (DEC (fm_u (fm_u W 0 34 5) 0 35 (nI m))) := PO.irr hk P1.1 P1.2.1 (fun t ht => fstart_t ht) (fun T g1 _ => by rw [dec_T (by omega), upd_tag (by omega), upd_tag (by omega)]) (fun j hj => by rw [dec_0 (by omega), fm_u_ne _ _ _ _ (Or.inr (by omega)), fm_u_ne _ _ _ _ (Or.inr (by omega))])
  refine ⟨P1.tr P2, ?_, by rw [fstart_t (by omega), eb]⟩
  obtain ⟨⟨f, f0, f8, g1, g2⟩, g3, g4, g5, g6⟩ := hb
  have F0 : FSTART (bo k + 16) (nI m) V (bo k + 16) 0 = v (bo k + 16) 0 := by unfold FSTART; rw [fm_u_ne _ _ _ _ (Or.inr (by decide)), fm_u_ne _ _ _ _ (Or.inr (by decide)), en]
  have F1 : FSTART (bo k + 16) (nI m) V (bo k + 16) 1 = 5 := by unfold FSTART; rw [fm_u_ne _ _ _ _ (Or.inr (by decide)), fm_u_eq]
  have F2 : FSTART (bo k + 16) (nI m) V (bo k + 16) 2 = nI m := by unfold FSTART; rw [fm_u_eq]
  have F3 : FSTART (bo k + 16) (nI m) V (bo k + 16) 3 = v (bo k + 16) 3 := by unfold FSTART; rw [fm_u_ne _ _ _ _ (Or.inr (by decide)), fm_u_ne _ _ _ _ (Or.inr (by decide)), en]
  have F4 : FSTART (bo k + 16) (nI m) V (bo k + 16) 4 = v (bo k + 16) 4 := by unfold FSTART; rw [fm_u_ne _ _ _ _ (Or.inr (by decide)), fm_u_ne _ _ _ _ (Or.inr (by decide)), en]
  have n5 : nI 5 = 5 := by decide
  refine ⟨⟨5, by decide, by decide, by rw [F1, n5], ?_⟩, by rw [F0]; exact g3, ?_, ?_, ?_⟩
  · rw [dec_0 (by decide), fm_u_ne _ _ _ _ (Or.inr (by decide)), fm_u_eq, n5]
  · rw [dec_0 (by decide), fm_u_eq, F2]
  · rw [dec_0 (by decide), fm_u_ne _ _ _ _ (Or.inr (by decide)), fm_u_ne _ _ _ _ (Or.inr (by decide)), m0 36 (by decide), F3]; exact g5
  · rw [dec_0 (by decide), fm_u_ne _ _ _ _ (Or.inr (by decide)), fm_u_ne _ _ _ _ (Or.inr (by decide)), m0 37 (by decide), F4]; exact g6
theorem breaks_32 (h : w 0 32 = nI (t + 1)) : BREAKS L m w 0 32 = nI t := by
  unfold BREAKS
  apply dec_32
  rw [fm_u_ne _ _ _ _ (Or.inr (by decide)), fm_u_ne _ _ _ _ (Or.inr (by decide)), mark_0 (by decide), upd_tag (by decide)]
  exact h
theorem breaks_FS : FS t w (BREAKS L m w) := by
  intro T i h1 h2 h3
  unfold BREAKS
  rw [dec_T (by omega), upd_tag (by omega), upd_tag (by omega), mark_t (by omega) (by omega), upd_tag (by omega)]
theorem fin_good (hkl : KL k L) (hm : m < 12) (h : SS M K k L v w) (hW : WK k β v w) (h0 : v (bo k) m ≠ 0) : PO M K k L β v w (NOTE k 1 (nI m) (fm_u v (bo k) m 1)) (SDONE L m w) ∧ NOTE k 1 (nI m) (fm_u v (bo k) m 1) (bo k) = upd (v (bo k)) m 1 ∧ SDONE L m w 0 34 = 0 := by
  have hk := hkl.k4
  obtain ⟨P1, eb, en⟩ := ev_state (s := 1) (a := 1) hkl hm h hW (by decide) (by decide) h0
  rw [n_1] at P1 eb en
  refine ⟨P1.tr (PO.frame hk P1.1 P1.2.1 (fun T g1 _ => ?_) (fun j hj => ?_)), eb, ?_⟩
  · unfold SDONE
    rw [dec_T (by omega), gives_T (by omega)]
  · unfold SDONE
    rw [dec_0 (by omega), gives_0 (by omega) (by omega)]
  · unfold SDONE
    rw [dec_0 (by decide), gives_at.2]
theorem sdone_32 (h : w 0 32 = nI (t + 1)) : SDONE L m w 0 32 = nI t := by
  unfold SDONE
  apply dec_32
  rw [gives_0 (by decide) (by decide), mark_0 (by decide), upd_tag (by decide)]
  exact h
theorem sdone_FS : FS t w (SDONE L m w) := by
  intro T i h1 h2 h3
  unfold SDONE
  rw [dec_T (by omega), gives_T (by omega), mark_t (by omega) (by omega), upd_tag (by omega)]
end SB2
theorem tn0 : ((0 : Int32).toNatClampNeg) = 0 := by decide
theorem tn8 : ((8 : Int32).toNatClampNeg) = 8 := by decide
set_option maxRecDepth 10000 in
theorem simB_step (d : Nat) (IH : ∀ d', d' < d → SimO d' ∧ SimB d') : SimB d := by
  intro M K k L t m β v w hkl hS hW hm ht hfu f1 f2 f3 f4 f5
  have hk := hkl.k4
  have hL := hkl.L5
  have hg := bo_ge hk
  have bS := nS_le k v
  have bC := nC_le k v
  have t200 : t < 199 := by omega
  obtain ⟨s, s3, e1, e2, -⟩ := hS.2.1 m hm
  obtain ⟨d1, rfl⟩ : ∃ d1, d = d1 + 1 := ⟨d - 1, by omega⟩
  rw [gC_1]
  unfold f_X0_begin
  rw [if_neg (chk hm (by decide)), nI_cl (show m < 1000 by omega)]
  have q21 : ¬ (2 : Int32) = 1 := by decide
  have q31 : ¬ (3 : Int32) = 1 := by decide
  have q32 : ¬ (3 : Int32) = 2 := by decide
  have q30 : ¬ (3 : Int32) = 0 := by decide
  have q20 : ¬ (2 : Int32) = 0 := by decide
  have q13 : ¬ (1 : Int32) = 3 := by decide
  have q23 : ¬ (2 : Int32) = 3 := by decide
  have q01 : ¬ (0 : Int32) = 1 := by decide
  have q02 : ¬ (0 : Int32) = 2 := by decide
  have q03 : ¬ (0 : Int32) = 3 := by decide
  have done : ∀ x : Int32, v (bo k) m = x → w 13 (12 * L + m) = x → ¬ x = 3 → ¬ x = 0 → ∃ (r : Int32) (v' w' : fm_T), (some (1, v) : Option (Int32 × fm_T)) = some (r, v') ∧ Go L w w' ∧ PO M K k L β v w v' w' ∧ S2 k v v' ∧ FS t w w' ∧ w' 0 32 = nI t ∧ ((r = 1 ∧ w' 0 34 = 0 ∧ v' (bo k) m ≠ 0) ∨ (r = 0 ∧ Bad k v' w')) := by
    intro x hx1 hx2 hx3 hx0
    refine ⟨1, v, DEC (GIVES 0 w), rfl, Go.start (by omega) f1 f2 (starts_done hL hm (by omega) f4 f3 (by rw [hx2]; exact hx3) (by rw [hx2]; exact hx0)), PO.frame hk hS hW (fun T g1 _ => by rw [dec_T (by omega), gives_T (by omega)]) (fun j hj => by rw [dec_0 (by omega), gives_0 (by omega) (by omega)]), S2.rf, fun T i a1 a2 a3 => by rw [dec_T (by omega), gives_T (by omega)], dec_32 (by rw [gives_0 (by decide) (by decide)]; exact f1), Or.inl ⟨rfl, by rw [dec_0 (by decide), gives_at.2], by rw [hx1]; exact hx0⟩⟩
  rcases (by omega : s = 0 ∨ s = 1 ∨ s = 2 ∨ s = 3) with rfl | rfl | rfl | rfl
  · rw [nI_0] at e1 e2
    rw [e1, if_neg q01, if_neg q02, if_neg q03]
    have hlt : nS k v < 12 := nz_lt hm e1
    rw [if_pos (show nI t ≤ 66 from nI_le (b := 66) (by omega) (by decide)), Option.bind_some]
    obtain ⟨n9, n91, n92⟩ := hS.nv hk
    have hbe := bo_ev hk hk
    rw [note_eq n91 (by rw [upd_tag (by omega)]; exact n92), Option.bind_some, Option.bind_some, tn0, tn8]
    dsimp only
    generalize hf : va_cpy (NOTE k 0 (nI m) (fm_u v (bo k) m 2) (4 + m)) (NOTE k 0 (nI m) (fm_u v (bo k) m 2) (bo k + 2 + m)) 0 0 8 = f
    have hev := ev_cases hk
    have hfe : ∀ i, i < 8 → f i = v (4 + m) i := fun i hi => by
      rw [← hf, sb_cpy0 hi, note_t (by omega) (by omega) (by omega), upd_tag (by omega)]
    obtain ⟨N, N1, N2⟩ := hS.n22
    obtain ⟨W, sw, p1, p2, p3, p4, p5⟩ := starts_new hL hm (by omega) N1 N2 f4 f3 e2
    obtain ⟨P1, ns1, b1, b2⟩ := ev_begin (t := t) hkl hm hS hW e1 hfe p1 p2 p3 p4 p5
    have G1 := Go.start (L := L) (by omega) f1 f2 sw
    generalize hV1 : va_up (NOTE k 0 (nI m) (fm_u v (bo k) m 2)) (bo k + 2 + m) f = v1 at P1 ns1 b1 b2 ⊢
    generalize hW1 : fm_u (MARK 0 (nI m) W) 24 t 1 = w1 at P1 G1
    have fs1 : FS t w w1 := fun T i a1 a2 a3 => by rw [← hW1, fm_u_ne _ _ _ _ (Or.inr (by omega)), mark_t (by omega) (by omega), p1 T (by omega) (by omega)]
    have Fr1 : Fr t m 1 (nI 0) w1 := by
      refine ⟨?_, ?_, ?_, ?_, ?_⟩
      · rw [← hW1, upd_tag (by decide), mark_0 (by decide), p1 0 (by decide) (by decide)]; exact f1
      · rw [← hW1, upd_tag (by decide), mark_t (by decide) (by decide), p1 22 (by decide) (by decide)]; exact f2
      · rw [← hW1, upd_tag (by decide), mark_t (by decide) (by decide), p1 23 (by decide) (by decide)]; exact f3
      · rw [← hW1, fm_u_eq]
      · rw [← hW1, upd_tag (by decide), mark_t (by decide) (by decide), p1 25 (by decide) (by decide), nI_0]; exact f5
    obtain ⟨d2, rfl⟩ : ∃ d2, d1 = d2 + 1 := ⟨d1 - 1, by omega⟩
    obtain ⟨d3, rfl⟩ : ∃ d3, d2 = d3 + 1 := ⟨d2 - 1, by omega⟩
    have S2v : ∀ v' : fm_T, ∀ x : Int32, v' (bo k) m = x → ¬ x = 2 → (∀ j, j < 12 → j ≠ m → (v' (bo k) j = 2 ↔ v1 (bo k) j = 2)) → S2 k v v' := by
      intro v' x h1 h2 h3 j hj
      by_cases z : j = m
      · subst z
        rw [h1, e1]
        exact ⟨fun q => absurd q h2, fun q => absurd q q02⟩
      · rw [h3 j hj z, b2 j z]
    -- the end that breaks
    have broken : ∀ (v5 w5 : fm_T), SS M K k L v5 w5 → WK k β v5 w5 → PO M K k L β v1 w1 v5 w5 → S2 k v1 v5 → FS t w1 w5 → w5 0 32 = nI (t + 1) → Bad k v5 w5 → Go L w1 (BREAKS L m w5) →
        ∃ (r : Int32) (v' w' : fm_T), ((some (fm_u v5 (bo k) m 3) : Option fm_T).bind fun m19 => ((f_X3_note k 2 (nI m) m19).bind fun q21 => ((f_X1_failStart (bo k + 16) (nI m) q21.2).bind fun q23 => (if q23.1 = 0 then some (0, q23.2) else some (1, q23.2))))) = some (r, v') ∧ Go L w w' ∧ PO M K k L β v w v' w' ∧ S2 k v v' ∧ FS t w w' ∧ w' 0 32 = nI t ∧ ((r = 1 ∧ w' 0 34 = 0 ∧ v' (bo k) m ≠ 0) ∨ (r = 0 ∧ Bad k v' w')) := by
      intro v5 w5 hS5 hW5 P5 s5 fs5 d5 bad5 G5
      have m2 : v5 (bo k) m = 2 := (s5 m hm).mpr b1
      have m0 : v5 (bo k) m ≠ 0 := by rw [m2]; exact q20
      obtain ⟨P6, B6, E6⟩ := fin_bad hkl hm hS5 hW5 m0 bad5
      obtain ⟨n7, n71, n72⟩ := hS5.nv hk
      refine ⟨0, _, BREAKS L m w5, ?_, G1.tr G5, P1.tr (P5.tr P6), S2v _ 3 (by rw [E6]; simp [upd]) q32 (fun j hj z => ?_), fs1.tr (fs5.tr breaks_FS), breaks_32 d5, Or.inr ⟨rfl, B6⟩⟩
      · rw [Option.bind_some, note_eq n71 (by rw [upd_tag (by omega)]; exact n72), Option.bind_some, fstart_eq, Option.bind_some]
        dsimp only
        rw [if_pos rfl]
      · rw [E6]
        simp only [upd, if_neg z]
        exact s5 j hj
    have en : nI t + 1 = nI (t + 1) := nI_1 t
    have z0 : (0 : Int32) = nI 0 := nI_0.symm
    rw [en, gC_6]
    obtain ⟨nu, un1, un2, un3, -⟩ := P1.1.1.2.2.2.1 m hm
    obtain ⟨r2, v2, k1, k2, k3⟩ := LU (M := M) (K := K) (t := t) (β := β) (IH (d3 + 1) (by omega)).2 hkl hm (S0 := nS k v + 1) (C0 := nC k v) (by omega) (by omega) 1000 0 v1 w1 P1.1 P1.2.1 b1 (by omega) P1.2.2.2.2.2.1 Fr1 (by omega) ⟨nu, un1, un2, by omega, by omega⟩
    rw [nI_0] at k1
    rw [k1, Option.bind_some]
    dsimp only
    rcases k3 with ⟨rfl, w2, y1, y2, y3, y4⟩ | ⟨rfl, we, y1, y2, y3, y4, y5⟩
    · rw [if_neg n10, gC_7]
      have m2 : v2 (bo k) m = 2 := (k2 m hm).mpr b1
      obtain ⟨nd, dn1, dn2, dn3, -⟩ := y2.1.1.2.2.2.2.1 m hm
      obtain ⟨r4, v4, l1, l2, l3⟩ := LD (M := M) (K := K) (t := t) (β := β) (IH d3 (by omega)).1 (IH d3 (by omega)).2 hkl hm (S0 := nS k v + 1) (C0 := nC k v) (by omega) (by omega) 1000 0 v2 w2 y2.1 y2.2.1 m2 (Nat.le_trans (by omega) y2.2.2.2.2.1) (Nat.le_trans P1.2.2.2.2.2.1 y2.2.2.2.2.2.1) (by rw [nI_0]; exact y4) (by omega) ⟨nd, dn1, dn2, by omega, by omega⟩
      rw [nI_0] at l1
      rw [l1, Option.bind_some]
      dsimp only
      rcases l3 with ⟨rfl, w4, x1, x2, x3, x4⟩ | ⟨rfl, we, x1, x2, x3, x4, x5⟩
      · rw [if_neg n10]
        have m4 : v4 (bo k) m = 2 := (l2 m hm).mpr m2
        have m40 : v4 (bo k) m ≠ 0 := by rw [m4]; exact q20
        obtain ⟨P6, E6, R6⟩ := fin_good hkl hm x2.1 x2.2.1 m40
        obtain ⟨n7, n71, n72⟩ := x2.1.nv hk
        refine ⟨1, _, SDONE L m w4, ?_, G1.tr (y1.tr x1), P1.tr (y2.tr (x2.tr P6)), S2v _ 1 (by rw [E6]; simp [upd]) (by decide) (fun j hj z => ?_), fs1.tr (y3.tr (x3.tr sdone_FS)), sdone_32 x4, Or.inl ⟨rfl, R6, by rw [E6]; simp [upd]⟩⟩
        · rw [Option.bind_some, note_eq n71 (by rw [upd_tag (by omega)]; exact n72), Option.bind_some]
        · rw [E6]
          simp only [upd, if_neg z]
          exact (l2 j hj).trans (k2 j hj)
      · rw [if_pos rfl]
        exact broken v4 we x2.1 x2.2.1 (y2.tr x2) (k2.tr l2) (y3.tr x3) x4 x5 (y1.tr x1)
    · rw [if_pos rfl]
      exact broken v2 we y2.1 y2.2.1 y2 k2 y3 y4 y5 y1
  · rw [n_1] at e1 e2
    rw [e1, if_pos rfl]
    exact done 1 e1 e2 q13 n10
  · rw [n_2] at e1 e2
    rw [e1, if_neg q21, if_pos rfl]
    exact done 2 e1 e2 q23 q20
  · rw [n_3] at e1 e2
    rw [e1, if_neg q31, if_neg q32, if_pos rfl, fail_eq, Option.bind_some]
    dsimp only
    rw [if_pos b00]
    obtain ⟨E1, E2⟩ := ev_fail (f := 6) (x := nI m) hk hS hW (by decide) (by decide)
    have n6 : nI 6 = 6 := by decide
    rw [n6] at E1 E2
    exact ⟨0, _, DEC (FAILS 6 (nI m) w), rfl, Go.start (by omega) f1 f2 (starts_gone hL hm (by omega) f4 f3 e2), E1.tr (ev_dec hk E1.1 E1.2.1), S2.eq (fail_t (by omega)), fun T i a1 a2 a3 => by rw [dec_T (by omega), fails_T (by omega)], dec_32 (by rw [fails_0 (by omega)]; exact f1), Or.inr ⟨rfl, E2.dec⟩⟩
