def FrN (t c : Nat) (p : Int32) (w : fm_T) : Prop := w 0 32 = nI (t + 1) ∧ w 22 t = 0 ∧ w 23 t = nI c ∧ w 24 t = p
def RK (M K k L t c : Nat) (β : Int32) (d : Nat) (v w : fm_T) : Prop := ∃ (r : Int32) (v' wx we : fm_T), f_X0_reckon (gC d) k (nI c) (nI (t + 1)) v = some (r, v') ∧ f_X5_begins (nI L) (nI c) w = some (0, wx) ∧ Go L wx (ENDS L c we) ∧ PO M K k L β v w v' we ∧ S2 k v v' ∧ FS t w we ∧ we 0 32 = nI (t + 1) ∧ ((r = 1 ∧ Good k v' we) ∨ (r = 0 ∧ Bad k v' we))
section RECK0
variable {M K k L t c : Nat} {β : Int32} {v w v' w' : fm_T}
theorem PO.pv (hk : k < 4) (h : PO M K k L β v w v' w') (T : Nat) (h1 : 1 ≤ T) (h2 : T ≤ 61) : v' T = v T := by
  have a := bo_ge hk
  have b := lo_ge hk
  have e := ev_cases hk
  exact h.2.2.1 T (by omega) (by omega) (by omega) (by omega) (by omega)
theorem PO.pw (h : PO M K k L β v w v' w') (T : Nat) (h1 : 1 ≤ T) (h2 : T ≤ 12) : w' T = w T := h.2.2.2.1.1 T h1 h2
theorem subO {d a : Nat} (IO : SimO d) (hkl : KL k L) (hS : SS M K k L v w) (hW : WK k β v w) (ha : a < 40) (ht : t + 1 ≤ 2 * nS k v + nC k v) (hfu : 4 * (52 - nS k v - nC k v) + 4 ≤ d) : ∃ (r : Int32) (v' w' : fm_T), gC d 0 k (nI a) (nI (t + 1)) 0 v = some (r, v') ∧ Go L (PUSH (t + 1) 0 (nI a) w) w' ∧ PO M K k L β v w v' w' ∧ S2 k v v' ∧ FS (t + 1) w w' ∧ w' 0 32 = nI (t + 1) ∧ ((r = 1 ∧ Good k v' w') ∨ (r = 0 ∧ Bad k v' w')) := by
  have P1 : PO M K k L β v w v (PUSH (t + 1) 0 (nI a) w) := PO.frame hkl.k4 hS hW (fun T g0 g => push_T (by omega) g) (fun i hi => push_0 (by omega))
  obtain ⟨p0, p1, p2, p3, p4⟩ := push_at (t := t + 1) (a := 0) (x := nI a) (w := w)
  obtain ⟨r, v', w', e1, e2, e3, e4, e5, e6, e7⟩ := IO M K k L (t + 1) a β v _ hkl P1.1 P1.2.1 ha ht hfu p0 p1 p2 p3
  exact ⟨r, v', w', e1, e2, P1.tr e3, e4, push_FS.tr e5, e6, e7⟩
theorem subB {d a : Nat} (IB : SimB d) (hkl : KL k L) (hS : SS M K k L v w) (hW : WK k β v w) (ha : a < 12) (ht : t + 1 ≤ 2 * nS k v + nC k v + 1) (hfu : 4 * (52 - nS k v - nC k v) + 3 ≤ d) : ∃ (r : Int32) (v' w' : fm_T), gC d 1 k (nI a) (nI (t + 1)) 0 v = some (r, v') ∧ Go L (PUSH (t + 1) 1 (nI a) w) w' ∧ PO M K k L β v w v' w' ∧ S2 k v v' ∧ FS (t + 1) w w' ∧ w' 0 32 = nI (t + 1) ∧ ((r = 1 ∧ w' 0 34 = 0 ∧ v' (bo k) a ≠ 0) ∨ (r = 0 ∧ Bad k v' w')) := by
  have P1 : PO M K k L β v w v (PUSH (t + 1) 1 (nI a) w) := PO.frame hkl.k4 hS hW (fun T g0 g => push_T (by omega) g) (fun i hi => push_0 (by omega))
  obtain ⟨p0, p1, p2, p3, p4⟩ := push_at (t := t + 1) (a := 1) (x := nI a) (w := w)
  obtain ⟨r, v', w', e1, e2, e3, e4, e5, e6, e7⟩ := IB M K k L (t + 1) a β v _ hkl P1.1 P1.2.1 ha ht hfu p0 p1 p2 p3 p4
  exact ⟨r, v', w', e1, e2, P1.tr e3, e4, push_FS.tr e5, e6, e7⟩
theorem FrN.fs {p : Int32} (hF : FrN t c p w) (hf : FS (t + 1) w w') (h : w' 0 32 = nI (t + 1)) : FrN t c p w' := ⟨h, by rw [hf 22 t (by decide) (by decide) (by omega)]; exact hF.2.1, by rw [hf 23 t (by decide) (by decide) (by omega)]; exact hF.2.2.1, by rw [hf 24 t (by decide) (by decide) (by omega)]; exact hF.2.2.2⟩
theorem goF (ht : t < 199) (hF : FrN t c 2 w) (h : f_X5_first (nI L) (nI t) (nI c) w = some (0, w')) : Go L w w' := by
  obtain ⟨a1, a2, a3, a4⟩ := hF
  refine Go.need (r := 0) (by omega) a1 a2 ?_
  rw [needs_2 (by omega) a4, a3, h, Option.bind_some]
theorem goS (ht : t < 199) (hF : FrN t c 3 w) (h : f_X5_second (nI L) (nI t) (nI c) w = some (0, w')) : Go L w w' := by
  obtain ⟨a1, a2, a3, a4⟩ := hF
  refine Go.need (r := 0) (by omega) a1 a2 ?_
  rw [needs_3 (by omega) a4, a3, h, Option.bind_some]
theorem hasItem_in {mo s i : Nat} (hM : v 1 0 = nI M) (M12 : M ≤ 12) (hmo : mo < M) (h2 : v 2 mo = nI s) (s8 : s ≤ 8) (hi : i < s) : f_X2_hasItem (nI mo) (nI i) v = some (1, v) := by
  unfold f_X2_hasItem
  rw [hasModule_in hM (by omega) hmo, Option.bind_some]
  dsimp only
  rw [if_neg n10, if_neg (nI_pos (by omega)), if_neg (chk (show mo < 12 by omega) (by decide)), nI_cl (by omega), if_neg (show ¬ v 2 mo ≤ nI i by rw [h2]; exact nI_ge hi (by omega))]
theorem hasItem_out {mo s : Nat} {x : Int32} (hM : v 1 0 = nI M) (M12 : M ≤ 12) (hmo : mo < M) (h2 : v 2 mo = nI s) (hx : x < 0 ∨ nI s ≤ x) : f_X2_hasItem (nI mo) x v = some (0, v) := by
  unfold f_X2_hasItem
  rw [hasModule_in hM (by omega) hmo, Option.bind_some]
  dsimp only
  rw [if_neg n10]
  by_cases h : x < 0
  · rw [if_pos h]
  · rw [if_neg h, if_neg (chk (show mo < 12 by omega) (by decide)), nI_cl (by omega), if_pos (show v 2 mo ≤ x by rw [h2]; exact hx.resolve_left h)]
end RECK0
section RECK
variable {M K k L t c d : Nat} {β : Int32} {v w : fm_T}
theorem t199 (ht : t + 1 ≤ 2 * nS k v + nC k v) : t < 199 := by
  have := nS_le k v
  have := nC_le k v
  omega
theorem rc_sub (hkl : KL k L) (IO : SimO (d + 1)) (hS : SS M K k L v w) (hW : WK k β v w) (ht : t + 1 ≤ 2 * nS k v + nC k v) (hfu : 4 * (52 - nS k v - nC k v) + 4 ≤ d) (hF : FrN t c 2 w) {a : Nat} (ha : a < 40) : ∃ (r : Int32) (v' w' : fm_T), gC (d + 1) 0 k (nI a) (nI (t + 1)) 0 v = some (r, v') ∧ Go L (PUSH (t + 1) 0 (nI a) w) w' ∧ PO M K k L β v w v' w' ∧ S2 k v v' ∧ FS t w w' ∧ FrN t c 2 w' ∧ ((r = 1 ∧ Good k v' w') ∨ (r = 0 ∧ Bad k v' w')) := by
  obtain ⟨r, v', w', e1, e2, e3, e4, e5, e6, e7⟩ := subO IO hkl hS hW ha ht (by omega)
  exact ⟨r, v', w', e1, e2, e3, e4, e5.mono (by omega), hF.fs e5 e6, e7⟩
theorem rc_bad (hkl : KL k L) (hc : c < 40) (ht : t + 1 ≤ 2 * nS k v + nC k v) {v' w' : fm_T} (hP : PO M K k L β v w v' w') (h5 : ¬ w 9 c = 5) (e6 : FrN t c 2 w') (z : Bad k v' w') : Go L w' (ENDS L c w') := by
  obtain ⟨N, N1, N2⟩ := hP.1.n22
  obtain ⟨⟨f, f0, f8, -, f2⟩, -⟩ := id z
  exact goF (t199 ht) e6 (fi_bad hc hkl.L5 N1 N2 f2 f0 f8 (by rw [hP.pw 9 (by decide) (by decide)]; exact h5))
theorem rc_0 (hkl : KL k L) (hS : SS M K k L v w) (hW : WK k β v w) (hc : c < 40) (hF : FrN t c 2 w) (h58 : v 58 c = 0) (h9 : w 9 c = 0) (e10 : w 10 c = v 59 c) : RK M K k L t c β (d + 1) v w := by
  have hb := bo_ge hkl.k4
  obtain ⟨N, N1, N2⟩ := hS.n22
  obtain ⟨E1, E2⟩ := ev_give (x := v 59 c) hkl.k4 hS hW
  refine ⟨1, _, _, GIVES (v 59 c) w, ?_, bg_0 hc hkl.L5 N1 N2 h9, ?_, E1, S2.eq (succ_t (by omega)), fun T i a1 a2 a3 => by rw [gives_T (by omega)], by rw [gives_0 (by decide) (by decide)]; exact hF.1, Or.inl ⟨rfl, E2⟩⟩
  · rw [rk_0 hc h58, succ_eq, Option.bind_some]
    dsimp only
    rw [if_pos b01]
  · rw [e10]; exact Go.rf
theorem rc_6 (hkl : KL k L) (hS : SS M K k L v w) (hW : WK k β v w) (hc : c < 40) (hF : FrN t c 2 w) (h58 : v 58 c = 6) (h9 : w 9 c = 6) (e10 : w 10 c = v 59 c) : RK M K k L t c β (d + 1) v w := by
  have hb := bo_ge hkl.k4
  obtain ⟨N, N1, N2⟩ := hS.n22
  obtain ⟨E1, E2⟩ := ev_fail (f := 3) (x := v 59 c) hkl.k4 hS hW (by decide) (by decide)
  rw [n_3] at E1 E2
  refine ⟨0, _, _, FAILS 3 (v 59 c) w, ?_, bg_6 hc hkl.L5 N1 N2 h9, ?_, E1, S2.eq (fail_t (by omega)), fun T i a1 a2 a3 => by rw [fails_T (by omega)], by rw [fails_0 (by omega)]; exact hF.1, Or.inr ⟨rfl, E2⟩⟩
  · rw [rk_6 hc h58, fail_eq, Option.bind_some]
    dsimp only
    rw [if_pos b00]
  · rw [e10]; exact Go.rf
theorem rc_8 (hkl : KL k L) (hS : SS M K k L v w) (hW : WK k β v w) (hc : c < 40) (hF : FrN t c 2 w) {a : Nat} (h58 : v 58 c = 8) (h9 : w 9 c = 8) (e10 : w 10 c = v 59 c) (za : v 59 c = nI a) (ha : a < M) : RK M K k L t c β (d + 1) v w := by
  have hb := bo_ge hkl.k4
  have M12 := hS.1.1.1
  obtain ⟨N, N1, N2⟩ := hS.n22
  have a12 : a < 12 := by omega
  obtain ⟨s, s1, s2, s3, -⟩ := hS.2.1 a a12
  obtain ⟨E1, E2⟩ := ev_give (x := nI s) hkl.k4 hS hW
  refine ⟨1, _, _, GIVES (nI s) w, ?_, bg_8 hc hkl.L5 N1 N2 (by rw [e10]; exact za) a12 h9, ?_, E1, S2.eq (succ_t (by omega)), fun T i a1 a2 a3 => by rw [gives_T (by omega)], by rw [gives_0 (by decide) (by decide)]; exact hF.1, Or.inl ⟨rfl, E2⟩⟩
  · rw [rk_8 hc h58, za, if_neg (chk a12 (by decide)), nI_cl (by omega), s2, succ_eq, Option.bind_some]
    dsimp only
    rw [if_pos b01]
  · rw [s3]; exact Go.rf
theorem rc_9 (hkl : KL k L) (hS : SS M K k L v w) (hW : WK k β v w) (hc : c < 40) (hF : FrN t c 2 w) (h58 : v 58 c = 9) (h9 : w 9 c = 9) (e10 : w 10 c = v 59 c) : RK M K k L t c β (d + 1) v w := by
  have hb := bo_ge hkl.k4
  obtain ⟨N, N1, N2⟩ := hS.n22
  obtain ⟨M12, K40, a1, a2, a3, a4⟩ := hS.1.1
  have ecn : cn (w 8) (v 59 c) K = cn (v 57) (v 59 c) K := cn_congr (fun i hi => by
    obtain ⟨g, kd, c1, c2, c3, c4, -⟩ := hS.1.2.2.2.2.2 i hi
    rw [c3, c4])
  obtain ⟨E1, E2⟩ := ev_give (x := nI (cn (v 57) (v 59 c) K)) hkl.k4 hS hW
  refine ⟨1, _, ENDS L c (GIVES (nI (cn (v 57) (v 59 c) K)) w), GIVES (nI (cn (v 57) (v 59 c) K)) w, ?_, ?_, Go.rf, E1, S2.eq (succ_t (by omega)), fun T i a1 a2 a3 => by rw [gives_T (by omega)], by rw [gives_0 (by decide) (by decide)]; exact hF.1, Or.inl ⟨rfl, E2⟩⟩
  · have e := cnC (v := v) K40 a3 (v 59 c) 1000 0 (by omega) (by omega)
    have e0 : nI (cn (v 57) (v 59 c) 0) = 0 := nI_0
    rw [e0, nI_0] at e
    rw [rk_9 hc h58]
    unfold f_X2_countConstants
    rw [e, Option.bind_some]
    dsimp only
    rw [succ_eq, Option.bind_some]
    dsimp only
    rw [if_pos b01]
  · have e := cnM (w := w) (L := L) (c := c) hkl.L5 hc N1 N2 K40 a4 (v 59 c) 1000 0 (by omega) (by omega)
    have e0 : nI (cn (w 8) (v 59 c) 0) = 0 := nI_0
    rw [e0, nI_0, ecn] at e
    rw [bg_9 hc h9, e10]
    exact e
theorem rc_1 (hkl : KL k L) (IO : SimO (d + 1)) (hS : SS M K k L v w) (hW : WK k β v w) (hc : c < 40) (ht : t + 1 ≤ 2 * nS k v + nC k v) (hfu : 4 * (52 - nS k v - nC k v) + 4 ≤ d) (hF : FrN t c 2 w) {a : Nat} (h58 : v 58 c = 1) (h9 : w 9 c = 1) (e10 : w 10 c = v 59 c) (e11 : w 11 c = v 60 c) (za : v 59 c = nI a) (ha : a < 40) : RK M K k L t c β (d + 1) v w := by
  have hb := bo_ge hkl.k4
  have tt := t199 ht
  obtain ⟨r, v', w', e1, e2, e3, e4, e5, e6, e7⟩ := rc_sub hkl IO hS hW ht hfu hF ha
  obtain ⟨N, N1, N2⟩ := e3.1.n22
  have q9 : w' 9 c = 1 := by rw [e3.pw 9 (by decide) (by decide)]; exact h9
  have eb := bg_1 (L := L) hc tt hF.1 h9
  rw [e10, za] at eb
  rcases e7 with ⟨rfl, z1⟩ | ⟨rfl, z1⟩
  · obtain ⟨E1, E2⟩ := ev_give (x := v' (bo k + 16) 0 + v 60 c) hkl.k4 e3.1 e3.2.1
    refine ⟨1, _, _, GIVES (v' (bo k + 16) 0 + v 60 c) w', ?_, eb, ?_, e3.tr E1, e4.tr (S2.eq (succ_t (by omega))), e5.tr (fun T i a1 a2 a3 => by rw [gives_T (by omega)]), by rw [gives_0 (by decide) (by decide)]; exact e6.1, Or.inl ⟨rfl, E2⟩⟩
    · rw [rk_1 hc h58, za, e1, Option.bind_some]
      dsimp only
      rw [if_neg n10, succ_eq, Option.bind_some]
      dsimp only
      rw [if_neg n10]
    · have g := goF (L := L) tt e6 (fi_1 hc z1.2.1 hkl.L5 N1 N2 q9)
      rw [z1.2.2, e3.pw 11 (by decide) (by decide), e11] at g
      exact e2.tr g
  · refine ⟨0, v', _, w', ?_, eb, e2.tr (rc_bad hkl hc ht e3 (by rw [h9]; decide) e6 z1), e3, e4, e5, e6.1, Or.inr ⟨rfl, z1⟩⟩
    rw [rk_1 hc h58, za, e1, Option.bind_some]
    dsimp only
    rw [if_pos rfl]
theorem rc_5 (hkl : KL k L) (IO : SimO (d + 1)) (hS : SS M K k L v w) (hW : WK k β v w) (hc : c < 40) (ht : t + 1 ≤ 2 * nS k v + nC k v) (hfu : 4 * (52 - nS k v - nC k v) + 4 ≤ d) (hF : FrN t c 2 w) {a : Nat} (h58 : v 58 c = 5) (h9 : w 9 c = 5) (e10 : w 10 c = v 59 c) (e11 : w 11 c = v 60 c) (za : v 59 c = nI a) (ha : a < 40) : RK M K k L t c β (d + 1) v w := by
  have hb := bo_ge hkl.k4
  have tt := t199 ht
  obtain ⟨r, v', w', e1, e2, e3, e4, e5, e6, e7⟩ := rc_sub hkl IO hS hW ht hfu hF ha
  obtain ⟨N, N1, N2⟩ := e3.1.n22
  have q9 : w' 9 c = 5 := by rw [e3.pw 9 (by decide) (by decide)]; exact h9
  have eb := bg_5 (L := L) hc tt hF.1 h9
  rw [e10, za] at eb
  rcases e7 with ⟨rfl, z1⟩ | ⟨rfl, z1⟩
  · refine ⟨1, v', _, w', ?_, eb, e2.tr (goF tt e6 (fi_5 hc z1.2.1 hkl.L5 N1 N2 q9)), e3, e4, e5, e6.1, Or.inl ⟨rfl, z1⟩⟩
    rw [rk_5 hc h58, za, e1, Option.bind_some]
    dsimp only
    rw [if_neg n10]
  · obtain ⟨E1, E2⟩ := ev_give (x := v 60 c) hkl.k4 e3.1 e3.2.1
    obtain ⟨⟨f, f0, f8, -, f2⟩, -⟩ := id z1
    refine ⟨1, _, _, GIVES (v 60 c) w', ?_, eb, ?_, e3.tr E1, e4.tr (S2.eq (succ_t (by omega))), e5.tr (fun T i a1 a2 a3 => by rw [gives_T (by omega)]), by rw [gives_0 (by decide) (by decide)]; exact e6.1, Or.inl ⟨rfl, E2⟩⟩
    · rw [rk_5 hc h58, za, e1, Option.bind_some]
      dsimp only
      rw [if_pos rfl, succ_eq, Option.bind_some]
      dsimp only
      rw [if_neg n10]
    · have g := goF (L := L) tt e6 (fi_bad5 hc hkl.L5 N1 N2 f2 f0 f8 q9)
      rw [e3.pw 11 (by decide) (by decide), e11] at g
      exact e2.tr g
theorem rc_4 (hkl : KL k L) (IO : SimO (d + 1)) (hS : SS M K k L v w) (hW : WK k β v w) (hc : c < 40) (ht : t + 1 ≤ 2 * nS k v + nC k v) (hfu : 4 * (52 - nS k v - nC k v) + 4 ≤ d) (hF : FrN t c 2 w) {a mo : Nat} (h58 : v 58 c = 4) (h9 : w 9 c = 4) (e10 : w 10 c = v 59 c) (za : v 59 c = nI a) (ha : a < 40) (e57 : v 57 c = nI mo) (e8 : w 8 c = nI mo) (hmo : mo < M) (hown : v (bo k) mo ≠ 0) : RK M K k L t c β (d + 1) v w := by
  have hk := hkl.k4
  have hb := bo_ge hk
  have tt := t199 ht
  have M12 := hS.1.1.1
  obtain ⟨r, v', w', e1, e2, e3, e4, e5, e6, e7⟩ := rc_sub hkl IO hS hW ht hfu hF ha
  obtain ⟨N, N1, N2⟩ := e3.1.n22
  have q9 : w' 9 c = 4 := by rw [e3.pw 9 (by decide) (by decide)]; exact h9
  have q8 : w' 8 c = nI mo := by rw [e3.pw 8 (by decide) (by decide)]; exact e8
  have q57 : v' 57 c = nI mo := by rw [e3.pv hk 57 (by decide) (by decide)]; exact e57
  have m12 : mo < 12 := by omega
  have eb := bg_4 (L := L) hc tt hF.1 h9
  rw [e10, za] at eb
  rcases e7 with ⟨rfl, z1⟩ | ⟨rfl, z1⟩
  · obtain ⟨s, s8, s2, s1⟩ := e3.1.1.2.1 mo m12
    have hM0 := e3.1.1.1.2.2.1
    rcases ix3 (v' (bo k + 16) 0) s (by omega) with hx | ⟨i, hi, hx⟩
    · obtain ⟨E1, E2⟩ := ev_fail (f := 2) (x := 0) hk e3.1 e3.2.1 (by decide) (by decide)
      rw [n_2] at E1 E2
      refine ⟨0, _, _, FAILS 2 0 w', ?_, eb, e2.tr (goF tt e6 (fi_4o hc z1.2.1 hkl.L5 N1 N2 q8 m12 s1 s8 (by rw [z1.2.2]; exact hx) q9)), e3.tr E1, e4.tr (S2.eq (fail_t (by omega))), e5.tr (fun T i a1 a2 a3 => by rw [fails_T (by omega)]), by rw [fails_0 (by omega)]; exact e6.1, Or.inr ⟨rfl, E2⟩⟩
      rw [rk_4 hc h58, za, e1, Option.bind_some]
      dsimp only
      unfold f_X0_readItem
      rw [if_neg n10, q57, hasItem_out hM0 M12 hmo s2 hx, Option.bind_some]
      dsimp only
      rw [if_pos rfl, fail_eq, Option.bind_some]
      dsimp only
      rw [if_pos b00, Option.bind_some]
      dsimp only
      rw [if_pos rfl]
    · have hown' : v' (bo k) mo ≠ 0 := e3.2.2.2.2.2.2 mo m12 hown
      obtain ⟨st, t1, t2, t3, t4⟩ := e3.1.2.1 mo m12
      have st0 : st ≠ 0 := fun q => hown' (by rw [t2, q, nI_0])
      have er := t4 st0 i (by omega)
      obtain ⟨E1, E2⟩ := ev_give (x := v' (bo k + 2 + mo) i) hk e3.1 e3.2.1
      refine ⟨1, _, _, GIVES (v' (bo k + 2 + mo) i) w', ?_, eb, ?_, e3.tr E1, e4.tr (S2.eq (succ_t (by omega))), e5.tr (fun T i a1 a2 a3 => by rw [gives_T (by omega)]), by rw [gives_0 (by decide) (by decide)]; exact e6.1, Or.inl ⟨rfl, E2⟩⟩
      · rw [rk_4 hc h58, za, e1, Option.bind_some]
        dsimp only
        unfold f_X0_readItem
        rw [if_neg n10, q57, hx, hasItem_in hM0 M12 hmo s2 s8 hi, Option.bind_some]
        dsimp only
        rw [if_neg n10, if_neg (chk m12 (by decide)), if_neg (chk (show i < 8 by omega) (by decide)), nI_cl (show mo < 1000 by omega), nI_cl (show i < 1000 by omega), succ_eq, Option.bind_some]
        dsimp only
        rw [if_pos b01, Option.bind_some]
        dsimp only
        rw [if_neg n10]
      · have g := goF (L := L) tt e6 (fi_4i hc z1.2.1 hkl.L5 N1 N2 q8 m12 s1 s8 hi (by rw [z1.2.2]; exact hx) q9)
        rw [er] at g
        exact e2.tr g
  · refine ⟨0, v', _, w', ?_, eb, e2.tr (rc_bad hkl hc ht e3 (by rw [h9]; decide) e6 z1), e3, e4, e5, e6.1, Or.inr ⟨rfl, z1⟩⟩
    rw [rk_4 hc h58, za, e1, Option.bind_some]
    dsimp only
    rw [if_pos rfl]
theorem rc_11 (hkl : KL k L) (IO : SimO (d + 1)) (hS : SS M K k L v w) (hW : WK k β v w) (hc : c < 40) (ht : t + 1 ≤ 2 * nS k v + nC k v) (hfu : 4 * (52 - nS k v - nC k v) + 4 ≤ d) (hF : FrN t c 2 w) {a mo : Nat} (h58 : v 58 c = 11) (h9 : w 9 c = 11) (e10 : w 10 c = v 59 c) (e11 : w 11 c = v 60 c) (za : v 59 c = nI a) (ha : a < 40) (e57 : v 57 c = nI mo) (e8 : w 8 c = nI mo) (hmo : mo < M) (hown : v (bo k) mo ≠ 0) : RK M K k L t c β (d + 1) v w := by
  have hk := hkl.k4
  have hb := bo_ge hk
  have tt := t199 ht
  have M12 := hS.1.1.1
  obtain ⟨r, v', w', e1, e2, e3, e4, e5, e6, e7⟩ := rc_sub hkl IO hS hW ht hfu hF ha
  obtain ⟨N, N1, N2⟩ := e3.1.n22
  have q9 : w' 9 c = 11 := by rw [e3.pw 9 (by decide) (by decide)]; exact h9
  have q8 : w' 8 c = nI mo := by rw [e3.pw 8 (by decide) (by decide)]; exact e8
  have q11 : w' 11 c = v 60 c := by rw [e3.pw 11 (by decide) (by decide)]; exact e11
  have q57 : v' 57 c = nI mo := by rw [e3.pv hk 57 (by decide) (by decide)]; exact e57
  have m12 : mo < 12 := by omega
  have eb := bg_11 (L := L) hc tt hF.1 h9
  rw [e10, za] at eb
  rcases e7 with ⟨rfl, z1⟩ | ⟨rfl, z1⟩
  · obtain ⟨s, s8, s2, s1⟩ := e3.1.1.2.1 mo m12
    have hM0 := e3.1.1.1.2.2.1
    rcases ix3 (v 60 c) s (by omega) with hx | ⟨i, hi, hx⟩
    · obtain ⟨E1, E2⟩ := ev_fail (f := 2) (x := 0) hk e3.1 e3.2.1 (by decide) (by decide)
      rw [n_2] at E1 E2
      refine ⟨0, _, _, FAILS 2 0 w', ?_, eb, e2.tr (goF tt e6 (fi_11o hc z1.2.1 hkl.L5 N1 N2 q8 m12 s1 s8 (by rw [q11]; exact hx) q9)), e3.tr E1, e4.tr (S2.eq (fail_t (by omega))), e5.tr (fun T i a1 a2 a3 => by rw [fails_T (by omega)]), by rw [fails_0 (by omega)]; exact e6.1, Or.inr ⟨rfl, E2⟩⟩
      rw [rk_11 hc h58, za, e1, Option.bind_some]
      dsimp only
      unfold f_X0_writeItem
      rw [if_neg n10, q57, hasItem_out hM0 M12 hmo s2 hx, Option.bind_some]
      dsimp only
      rw [if_pos rfl, fail_eq, Option.bind_some]
      dsimp only
      rw [if_pos b00, Option.bind_some]
      dsimp only
      rw [if_pos rfl]
    · have hown' : v' (bo k) mo ≠ 0 := e3.2.2.2.2.2.2 mo m12 hown
      obtain ⟨E1, E2⟩ := ev_store (i := i) (x := v' (bo k + 16) 0) hkl m12 (by omega) e3.1 e3.2.1 hown'
      have P5 : PO M K k L β (fm_u v' (bo k + 2 + mo) i (v' (bo k + 16) 0)) (fm_u w' 14 (96 * L + 8 * mo + i) (v' (bo k + 16) 0)) (SUCC (bo k + 16) (v' (bo k + 16) 0) (fm_u v' (bo k + 2 + mo) i (v' (bo k + 16) 0))) (fm_u w' 14 (96 * L + 8 * mo + i) (v' (bo k + 16) 0)) := PO.irr hk E1.1 E1.2.1 (fun t ht => succ_t ht) (fun _ _ _ => rfl) (fun _ _ => rfl)
      obtain ⟨y0, y1⟩ := succ_at (v := fm_u v' (bo k + 2 + mo) i (v' (bo k + 16) 0)) (b := bo k + 16) (x := v' (bo k + 16) 0)
      refine ⟨1, _, _, fm_u w' 14 (96 * L + 8 * mo + i) (v' (bo k + 16) 0), ?_, eb, ?_, e3.tr (E1.tr P5), e4.tr (E2.tr (S2.eq (succ_t (by omega)))), e5.tr (fun T i a1 a2 a3 => by rw [upd_tag (by omega)]), by rw [upd_tag (by decide)]; exact e6.1, Or.inl ⟨rfl, y1, by rw [upd_tag (by decide)]; exact z1.2.1, by rw [upd_tag (by decide), y0]; exact z1.2.2⟩⟩
      · rw [rk_11 hc h58, za, e1, Option.bind_some]
        dsimp only
        unfold f_X0_writeItem
        rw [if_neg n10, q57, hx, hasItem_in hM0 M12 hmo s2 s8 hi, Option.bind_some]
        dsimp only
        rw [if_neg n10, if_neg (chk m12 (by decide)), if_neg (chk (show i < 8 by omega) (by decide)), nI_cl (show mo < 1000 by omega), nI_cl (show i < 1000 by omega), Option.bind_some, succ_eq, Option.bind_some]
        dsimp only
        rw [if_pos b01, Option.bind_some]
        dsimp only
        rw [if_neg n10]
      · have g := goF (L := L) tt e6 (fi_11i hc z1.2.1 hkl.L5 N1 N2 q8 m12 s1 s8 hi (by rw [q11]; exact hx) q9)
        rw [z1.2.2] at g
        exact e2.tr g
  · refine ⟨0, v', _, w', ?_, eb, e2.tr (rc_bad hkl hc ht e3 (by rw [h9]; decide) e6 z1), e3, e4, e5, e6.1, Or.inr ⟨rfl, z1⟩⟩
    rw [rk_11 hc h58, za, e1, Option.bind_some]
    dsimp only
    rw [if_pos rfl]
theorem rc_10 (hkl : KL k L) (IB : SimB (d + 1)) (hS : SS M K k L v w) (hW : WK k β v w) (hc : c < 40) (ht : t + 1 ≤ 2 * nS k v + nC k v) (hfu : 4 * (52 - nS k v - nC k v) + 4 ≤ d) (hF : FrN t c 2 w) {a : Nat} (h58 : v 58 c = 10) (h9 : w 9 c = 10) (e10 : w 10 c = v 59 c) (za : v 59 c = nI a) (ha : a < M) : RK M K k L t c β (d + 1) v w := by
  have hk := hkl.k4
  have hb := bo_ge hk
  have tt := t199 ht
  have M12 := hS.1.1.1
  obtain ⟨r, v', w', e1, e2, e3, e4, e5, e6', e7⟩ := subB IB hkl hS hW (a := a) (t := t) (by omega) (by omega) (by omega)
  have e6 := hF.fs e5 e6'
  have e5' : FS t w w' := e5.mono (by omega)
  obtain ⟨N, N1, N2⟩ := e3.1.n22
  have q9 : w' 9 c = 10 := by rw [e3.pw 9 (by decide) (by decide)]; exact h9
  have eb := bg_10 (L := L) hc tt hF.1 h9
  rw [e10, za] at eb
  rcases e7 with ⟨rfl, z1, -⟩ | ⟨rfl, z1⟩
  · obtain ⟨E1, E2⟩ := ev_give (x := 1) hkl.k4 e3.1 e3.2.1
    refine ⟨1, _, _, GIVES 1 w', ?_, eb, e2.tr (goF tt e6 (fi_10 hc z1 hkl.L5 N1 N2 q9)), e3.tr E1, e4.tr (S2.eq (succ_t (by omega))), e5'.tr (fun T i a1 a2 a3 => by rw [gives_T (by omega)]), by rw [gives_0 (by decide) (by decide)]; exact e6.1, Or.inl ⟨rfl, E2⟩⟩
    rw [rk_10 hc h58, za, e1, Option.bind_some]
    dsimp only
    rw [if_neg n10, succ_eq, Option.bind_some]
    dsimp only
    rw [if_neg n10]
  · refine ⟨0, v', _, w', ?_, eb, e2.tr (rc_bad hkl hc ht e3 (by rw [h9]; decide) e6 z1), e3, e4, e5', e6.1, Or.inr ⟨rfl, z1⟩⟩
    rw [rk_10 hc h58, za, e1, Option.bind_some]
    dsimp only
    rw [if_pos rfl]
end RECK
