section SO
variable {M K k L t c : Nat} {β : Int32} {v w v1 w1 : fm_T}
theorem goL (ht : t < 199) (hF : FrN t c 1 w) (h : f_X5_looks (nI L) (nI t) (nI c) w = some (0, w1)) : Go L w w1 := by
  obtain ⟨a1, a2, a3, a4⟩ := hF
  refine Go.need (r := 0) (by omega) a1 a2 ?_
  rw [needs_1 (by omega) a4, a3, h, Option.bind_some]
theorem wbeg_F (hF : FrN t c 1 w) : FrN t c 2 (WBEG L t c w) := by
  obtain ⟨a1, a2, a3, a4⟩ := hF
  unfold WBEG
  refine ⟨?_, ?_, ?_, ?_⟩
  · rw [upd_tag (by decide), fm_u_ne _ _ _ _ (Or.inr (by decide)), mark_0 (by decide), upd_tag (by decide)]; exact a1
  · rw [upd_tag (by decide), upd_tag (by decide), mark_t (by decide) (by decide), upd_tag (by decide)]; exact a2
  · rw [upd_tag (by decide), upd_tag (by decide), mark_t (by decide) (by decide), upd_tag (by decide)]; exact a3
  · rw [fm_u_eq]
theorem wbeg_FS : FS t w (WBEG L t c w) := by
  intro T i h1 h2 h3
  unfold WBEG
  rw [fm_u_ne _ _ _ _ (Or.inr (by omega)), upd_tag (by omega), mark_t (by omega) (by omega), upd_tag (by omega)]
/-- what obtain does behind the module's start -/
theorem obt_rest {d : Nat} (IH : ∀ d', d' < d → SimO d' ∧ SimB d') (hkl : KL k L) (hS : SS M K k L v1 w1) (hW : WK k β v1 w1) (hcK : c < K) (ht : t ≤ 2 * nS k v1 + nC k v1) (hfu : 4 * (52 - nS k v1 - nC k v1) + 4 ≤ d) (hF : FrN t c 1 w1) (h34 : w1 0 34 = 0) (hown : ∀ mo, mo < 12 → v1 57 c = nI mo → v1 (bo k) mo ≠ 0) {d1 : Nat} (hd1 : d = d1 + 1) :
    ∃ (r : Int32) (v' w' : fm_T), (if v1 (bo k + 14) c = 2 then ((f_X1_copy (bo k + 16) (bo k + 17 + c) v1).bind fun q21 => (if q21.2 (bo k + 16) 1 = 0 then some (1, q21.2) else some (0, q21.2))) else (if v1 (bo k + 14) c = 1 then ((f_X1_fail (bo k + 16) 4 (nI c) v1).bind fun q11 => (if q11.1 = 0 ∨ q11.1 = 1 then some (q11.1, q11.2) else none)) else (if nI t ≤ 66 then ((gC d1 2 k (nI c) (nI t) 0 v1).bind fun q15 => (if q15.1 = 0 ∨ q15.1 = 1 then some (q15.1, q15.2) else none)) else ((f_X1_fail (bo k + 16) 4 (nI c) v1).bind fun q18 => (if q18.1 = 0 ∨ q18.1 = 1 then some (q18.1, q18.2) else none))))) = some (r, v') ∧ Go L w1 w' ∧ PO M K k L β v1 w1 v' w' ∧ S2 k v1 v' ∧ FS t w1 w' ∧ w' 0 32 = nI t ∧ ((r = 1 ∧ Good k v' w') ∨ (r = 0 ∧ Bad k v' w')) := by
  have hk := hkl.k4
  have hL := hkl.L5
  have hb := bo_ge hk
  have bS := nS_le k v1
  have bC := nC_le k v1
  have tt : t < 199 := by omega
  have K40 := hS.1.1.2.1
  have hc : c < 40 := by omega
  obtain ⟨N, N1, N2⟩ := hS.n22
  have q02 : ¬ (0 : Int32) = 2 := by decide
  have q01 : ¬ (0 : Int32) = 1 := by decide
  have q12 : ¬ (1 : Int32) = 2 := by decide
  rcases hS.2.2.1 c hc with ⟨s1, s2⟩ | ⟨s1, s2⟩ | ⟨s1, s2, s3, s4⟩ | ⟨s1, ⟨f, f0, f8, s2, s3⟩, s4, s5, s6, s7, s8⟩
  · -- it is worked now
    have hlt : nC k v1 < 40 := nz_lt hc s1
    have hl := bo_lo hk hk
    have hbe := bo_ev hk hk
    have hle := lo_ev hk hk
    obtain ⟨d2, rfl⟩ : ∃ d2, d1 = d2 + 1 := ⟨d1 - 1, by omega⟩
    obtain ⟨d3, rfl⟩ : ∃ d3, d2 = d3 + 1 := ⟨d2 - 1, by omega⟩
    obtain ⟨e, rfl⟩ : ∃ e, d3 = e + 1 := ⟨d3 - 1, by omega⟩
    rw [s1, if_neg q02, if_neg q01, if_pos (show nI t ≤ 66 from nI_le (b := 66) (by omega) (by decide)), gC_2]
    unfold f_X0_work
    rw [if_neg (chk hc (by decide)), nI_cl (show c < 1000 by omega), Option.bind_some, Option.bind_some, upd_tag (show lo k ≠ bo k + 14 by omega)]
    obtain ⟨n9, n91, n92⟩ := hS.nv hk
    rw [note_eq n91 (by rw [upd_tag (by omega), upd_tag (by omega)]; exact n92), Option.bind_some, nI_1, gC_3]
    obtain ⟨P2, nc2, s22⟩ := ev_work (t := t) hkl hc hS hW s1
    dsimp only
    generalize hV2 : NOTE k 3 (nI c) (fm_u (fm_u v1 (bo k + 14) c 1) (lo k) 7 (v1 (lo k) 7 + 1)) = v2 at P2 nc2 s22 ⊢
    have F2 := wbeg_F (L := L) hF
    have ns2 := P2.2.2.2.2.1
    obtain ⟨r, v3, wx, we, e1, e2, e3, e4, e5, e6, e7, e8⟩ := reck (t := t) (c := c) hkl (IH (e + 1) (by omega)).1 (IH (e + 1) (by omega)).2 (IH e (by omega)).1 P2.1 P2.2.1 (by omega) (by omega) F2 hcK (fun mo hmo hz => P2.2.2.2.2.2.2 mo hmo (hown mo hmo (by rw [← P2.pv hk 57 (by decide) (by decide)]; exact hz)))
    rw [e1, Option.bind_some]
    dsimp only
    rw [copy_eq (by omega), Option.bind_some, Option.bind_some]
    dsimp only
    obtain ⟨P4, s24, r4⟩ := ev_end (r := r) hkl hc e4.1 e4.2.1 e8
    obtain ⟨n7, n71, n72⟩ := e4.1.nv hk
    have G1 : Go L w1 wx := goL tt hF (by rw [looks_work hL hc (by omega) h34 s2 N1 N2, e2, Option.bind_some])
    have hr01 : r = 0 ∨ r = 1 := by
      rcases e8 with ⟨q, _⟩ | ⟨q, _⟩
      · exact Or.inr q
      · exact Or.inl q
    refine ⟨r, _, ENDS L c we, ?_, G1.tr e3, P2.tr (e4.tr P4), s22.tr (e5.tr s24), wbeg_FS.tr (e6.tr ends_FS), ends_32 e7, r4⟩
    have en := note_eq (k := k) (v := fm_u (COPY (bo k + 17 + c) (bo k + 16) v3) (bo k + 14) c 2) n71 (by rw [upd_tag (by omega), copy_t (by omega)]; exact n72)
    rcases hr01 with rfl | rfl
    · rw [if_pos rfl, if_pos rfl, en, Option.bind_some]
      dsimp only
      rw [if_pos b00, Option.bind_some]
      dsimp only
      rw [if_pos b00]
    · rw [if_neg n10, if_neg n10, en, Option.bind_some]
      dsimp only
      rw [if_pos b01, Option.bind_some]
      dsimp only
      rw [if_pos b01]
  · rw [s1, if_neg q12, if_pos rfl, fail_eq, Option.bind_some]
    dsimp only
    rw [if_pos b00]
    obtain ⟨E1, E2⟩ := ev_fail (f := 4) (x := nI c) hk hS hW (by decide) (by decide)
    rw [n_4] at E1 E2
    exact ⟨0, _, DEC (FAILS 4 (nI c) w1), rfl, goL tt hF (looks_end hL hc h34 s2), E1.tr (ev_dec hk E1.1 E1.2.1), S2.eq (fail_t (by omega)), fun T i a1 a2 a3 => by rw [dec_T (by omega), fails_T (by omega)], dec_32 (by rw [fails_0 (by omega)]; exact hF.1), Or.inr ⟨rfl, E2.dec⟩⟩
  · obtain ⟨y0, y1, y2, y3, y4⟩ := copy_at (v := v1) (b := bo k + 16) (d := bo k + 17 + c)
    rw [if_pos s1, copy_eq (by omega), Option.bind_some]
    dsimp only
    rw [if_pos (y1.trans s2)]
    have E1 : PO M K k L β v1 w1 (COPY (bo k + 16) (bo k + 17 + c) v1) (DEC (GIVES (w1 16 (40 * L + c)) w1)) := PO.irr hk hS hW (fun t ht => copy_t ht) (fun T g1 _ => by rw [dec_T (by omega), gives_T (by omega)]) (fun j hj => by rw [dec_0 (by omega), gives_0 (by omega) (by omega)])
    obtain ⟨x1, x2⟩ := gives_at (w := w1) (x := w1 16 (40 * L + c))
    exact ⟨1, _, _, rfl, goL tt hF (looks_val hL hc h34 s3), E1, S2.eq (copy_t (by omega)), fun T i a1 a2 a3 => by rw [dec_T (by omega), gives_T (by omega)], dec_32 (by rw [gives_0 (by decide) (by decide)]; exact hF.1), Or.inl ⟨rfl, y1.trans s2, by rw [dec_0 (by decide)]; exact x2, by rw [dec_0 (by decide), x1, y0]; exact s4⟩⟩
  · obtain ⟨y0, y1, y2, y3, y4⟩ := copy_at (v := v1) (b := bo k + 16) (d := bo k + 17 + c)
    rw [if_pos s1, copy_eq (by omega), Option.bind_some]
    dsimp only
    rw [if_neg (show ¬ COPY (bo k + 16) (bo k + 17 + c) v1 (bo k + 16) 1 = 0 by rw [y1, s2]; exact nI_ne0 f0 (by omega))]
    have E1 : PO M K k L β v1 w1 (COPY (bo k + 16) (bo k + 17 + c) v1) (DEC (KEPT (40 * L + c) w1)) := PO.irr hk hS hW (fun t ht => copy_t ht) (fun T g1 _ => by rw [dec_T (by omega), kept_T (by omega)]) (fun j hj => by rw [dec_0 (by omega), kept_0 (by omega)])
    obtain ⟨x1, x2, x3, x4⟩ := kept_at (w := w1) (i := 40 * L + c)
    exact ⟨0, _, _, rfl, goL tt hF (looks_flt hL hc h34 s4), E1, S2.eq (copy_t (by omega)), fun T i a1 a2 a3 => by rw [dec_T (by omega), kept_T (by omega)], dec_32 (by rw [kept_0 (by omega)]; exact hF.1), Or.inr ⟨rfl, ⟨f, f0, f8, y1.trans s2, by rw [dec_0 (by decide), x1]; exact s3⟩, y0.trans s5, by rw [dec_0 (by decide), x2, y2]; exact s6, by rw [dec_0 (by decide), x3, y3]; exact s7, by rw [dec_0 (by decide), x4, y4]; exact s8⟩⟩
end SO
theorem simO_step (d : Nat) (IH : ∀ d', d' < d → SimO d' ∧ SimB d') : SimO d := by
  intro M K k L t c β v w hkl hS hW hc ht hfu f1 f2 f3 f4
  have hk := hkl.k4
  have hL := hkl.L5
  have hg := bo_ge hk
  have bS := nS_le k v
  have bC := nC_le k v
  have tt : t < 199 := by omega
  obtain ⟨M12, K40, a1, a2, a3, a4⟩ := hS.1.1
  obtain ⟨d1, rfl⟩ : ∃ d1, d = d1 + 1 := ⟨d - 1, by omega⟩
  rw [gC_0]
  unfold f_X0_obtain
  rcases Nat.lt_or_ge c K with hcK | hcK
  · rw [hasConst_in a3 (by omega) hcK, Option.bind_some]
    dsimp only
    rw [if_neg n10, if_neg (chk hc (by decide)), nI_cl (show c < 1000 by omega), nI_1]
    obtain ⟨mo, kd, c1, c2, c3, c4, -⟩ := hS.1.2.2.2.2.2 c hcK
    rw [c3]
    have P0 : PO M K k L β v w v (fm_u w 24 t 1) := PO.frame hk hS hW (fun T g0 g => upd_tag (by omega)) (fun i hi => by rw [upd_tag (by decide)])
    obtain ⟨r, v1, w1, e1, e2, e3, e4, e5, e6, e7⟩ := subB (t := t) (IH d1 (by omega)).2 hkl P0.1 P0.2.1 (a := mo) (by omega) (by omega) (by omega)
    have G1 : Go L w w1 := by
      refine Go.tr (Go.need (by omega) f1 f2 (needs_push tt f1 f4 f3 a4 hcK K40)) ?_
      rw [c4]
      exact e2
    have FF : FrN t c 1 (fm_u w 24 t 1) := ⟨by rw [upd_tag (by decide)]; exact f1, by rw [upd_tag (by decide)]; exact f2, by rw [upd_tag (by decide)]; exact f3, by rw [fm_u_eq]⟩
    have F1 := FF.fs e5 e6
    have fs1 : FS t w w1 := FS.tr (w1 := fm_u w 24 t 1) (fun T i a1 a2 a3 => by rw [fm_u_ne _ _ _ _ (Or.inr (by omega))]) (e5.mono (by omega))
    have P1 := P0.tr e3
    rw [e1, Option.bind_some]
    dsimp only
    rcases e7 with ⟨rfl, z1, z2⟩ | ⟨rfl, z1⟩
    · rw [if_neg n10]
      have g1 := P1.2.2.2.2.1
      have g2 := P1.2.2.2.2.2.1
      have hown : ∀ m', m' < 12 → v1 57 c = nI m' → v1 (bo k) m' ≠ 0 := by
        intro m' hm' hz
        rw [P1.pv hk 57 (by decide) (by decide), c3] at hz
        have := (nI_eq (by omega) (by omega)).mp hz
        subst this
        exact z2
      obtain ⟨r, v', w', i1, i2, i3, i4, i5, i6, i7⟩ := obt_rest (t := t) (c := c) IH hkl P1.1 P1.2.1 hcK (by omega) (by omega) F1 z1 hown rfl
      exact ⟨r, v', w', i1, G1.tr i2, P1.tr i3, e4.tr i4, fs1.tr i5, i6, i7⟩
    · rw [if_pos rfl]
      obtain ⟨⟨f, f0, f8, -, g2⟩, -⟩ := id z1
      exact ⟨0, v1, DEC w1, rfl, G1.tr (goL tt F1 (looks_fault g2 f0 f8)), P1.tr (ev_dec hk P1.1 P1.2.1), e4, fs1.tr (fun T i a1 a2 a3 => by rw [dec_T (by omega)]), dec_32 F1.1, Or.inr ⟨rfl, z1.dec⟩⟩
  · rw [hasConst_out a3 (Or.inr (nI_le hcK (by omega))), Option.bind_some]
    dsimp only
    rw [if_pos rfl, fail_eq, Option.bind_some]
    dsimp only
    rw [if_pos b00]
    obtain ⟨E1, E2⟩ := ev_fail (f := 8) (x := nI c) hk hS hW (by decide) (by decide)
    rw [n_8] at E1 E2
    exact ⟨0, _, DEC (FAILS 8 (nI c) w), rfl, Go.need (by omega) f1 f2 (needs_miss (by omega) f4 f3 a4 hcK hc), E1.tr (ev_dec hk E1.1 E1.2.1), S2.eq (fail_t (by omega)), fun T i a1 a2 a3 => by rw [dec_T (by omega), fails_T (by omega)], dec_32 (by rw [fails_0 (by omega)]; exact f1), Or.inr ⟨rfl, E2.dec⟩⟩
theorem sim_all : ∀ d : Nat, SimO d ∧ SimB d := by
  intro d
  induction d using Nat.strongRecOn with
  | _ d ih => exact ⟨simO_step d ih, simB_step d ih⟩
