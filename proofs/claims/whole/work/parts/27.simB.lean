theorem gC_0 (d k : Nat) (x y : Int32) (v : fm_T) : gC (d + 1) 0 k x y 0 v = f_X0_obtain (gC d) k x y v := rfl
theorem gC_1 (d k : Nat) (x y : Int32) (v : fm_T) : gC (d + 1) 1 k x y 0 v = f_X0_begin (gC d) k x y v := rfl
theorem gC_2 (d k : Nat) (x y : Int32) (v : fm_T) : gC (d + 1) 2 k x y 0 v = f_X0_work (gC d) k x y v := rfl
theorem gC_3 (d k : Nat) (x y : Int32) (v : fm_T) : gC (d + 1) 3 k x y 0 v = f_X0_reckon (gC d) k x y v := rfl
theorem gC_4 (d k : Nat) (x y z : Int32) (v : fm_T) : gC (d + 1) 4 k x y z v = f_X0_multiply (gC d) k x y z v := rfl
theorem gC_5 (d k : Nat) (x y z : Int32) (v : fm_T) : gC (d + 1) 5 k x y z v = f_X0_divide (gC d) k x y z v := rfl
theorem gC_6 (d k : Nat) (x y : Int32) (v : fm_T) : gC (d + 1) 6 k x y 0 v = f_X0_beginUsed_2 (gC d) 1000 k x y 0 v := rfl
theorem gC_7 (d k : Nat) (x y : Int32) (v : fm_T) : gC (d + 1) 7 k x y 0 v = f_X0_doDeeds_2 (gC d) 1000 k x y 0 v := rfl
theorem gC_8 (d k : Nat) (x y z : Int32) (v : fm_T) : gC (d + 1) 8 k x y z v = f_X0_doDeed (gC d) k x y z v := rfl
/-- need on both sides, the reference's frame for it on top at place t -/
def SimO (d : Nat) : Prop := ∀ (M K k L t c : Nat) (β : Int32) (v w : fm_T), KL k L → SS M K k L v w → WK k β v w → c < 40 → t ≤ 2 * nS k v + nC k v → 4 * (52 - nS k v - nC k v) + 4 ≤ d → w 0 32 = nI (t + 1) → w 22 t = 0 → w 23 t = nI c → w 24 t = 0 →
  ∃ (r : Int32) (v' w' : fm_T), gC d 0 k (nI c) (nI t) 0 v = some (r, v') ∧ Go L w w' ∧ PO M K k L β v w v' w' ∧ S2 k v v' ∧ FS t w w' ∧ w' 0 32 = nI t ∧ ((r = 1 ∧ Good k v' w') ∨ (r = 0 ∧ Bad k v' w'))
def SimB (d : Nat) : Prop := ∀ (M K k L t m : Nat) (β : Int32) (v w : fm_T), KL k L → SS M K k L v w → WK k β v w → m < 12 → t ≤ 2 * nS k v + nC k v + 1 → 4 * (52 - nS k v - nC k v) + 3 ≤ d → w 0 32 = nI (t + 1) → w 22 t = 1 → w 23 t = nI m → w 24 t = 0 → w 25 t = 0 →
  ∃ (r : Int32) (v' w' : fm_T), gC d 1 k (nI m) (nI t) 0 v = some (r, v') ∧ Go L w w' ∧ PO M K k L β v w v' w' ∧ S2 k v v' ∧ FS t w w' ∧ w' 0 32 = nI t ∧ ((r = 1 ∧ w' 0 34 = 0 ∧ v' (bo k) m ≠ 0) ∨ (r = 0 ∧ Bad k v' w'))
theorem nS_le (k : Nat) (v : fm_T) : nS k v ≤ 12 := nz_le _ _
theorem nC_le (k : Nat) (v : fm_T) : nC k v ≤ 40 := nz_le _ _
/-- the frame of a start at place t -/
def Fr (t m : Nat) (p h : Int32) (w : fm_T) : Prop := w 0 32 = nI (t + 1) ∧ w 22 t = 1 ∧ w 23 t = nI m ∧ w 24 t = p ∧ w 25 t = h
section SB
variable {M K k L t m : Nat} {β : Int32}
theorem PO.frame (hk : k < 4) {v w w' : fm_T} (h : SS M K k L v w) (hW : WK k β v w) (hw : ∀ T, 1 ≤ T → ¬ (22 ≤ T ∧ T ≤ 25) → w' T = w T) (hw0 : ∀ j, (j < 32 ∨ 37 < j) → w' 0 j = w 0 j) : PO M K k L β v w v w' := PO.irr hk h hW (fun _ _ => rfl) hw hw0
theorem b01 : (1 : Int32) = 0 ∨ (1 : Int32) = 1 := Or.inr rfl
theorem b00 : (0 : Int32) = 0 ∨ (0 : Int32) = 1 := Or.inl rfl
/-- the modules that a module uses -/
theorem LU {d : Nat} (IB : SimB d) (hkl : KL k L) (hm : m < 12) {S0 C0 : Nat} (ht : t + 1 ≤ 2 * S0 + C0) (hfu : 4 * (52 - S0 - C0) + 3 ≤ d) : ∀ (n j : Nat) (v w : fm_T), SS M K k L v w → WK k β v w → v (bo k) m = 2 → S0 ≤ nS k v → C0 ≤ nC k v → Fr t m 1 (nI j) w → j ≤ 6 → (∃ nu : Nat, nu ≤ 6 ∧ v 16 m = nI nu ∧ j ≤ nu ∧ nu - j < n) →
    ∃ (r : Int32) (v' : fm_T), f_X0_beginUsed_2 (gC d) n k (nI m) (nI (t + 1)) (nI j) v = some (r, v') ∧ S2 k v v' ∧ ((r = 1 ∧ ∃ w', Go L w w' ∧ PO M K k L β v w v' w' ∧ FS t w w' ∧ Fr t m 3 0 w') ∨ (r = 0 ∧ ∃ we, Go L w (BREAKS L m we) ∧ PO M K k L β v w v' we ∧ FS t w we ∧ we 0 32 = nI (t + 1) ∧ Bad k v' we)) := by
  have hk := hkl.k4
  have hL := hkl.L5
  intro n
  induction n with
  | zero => intro j v w _ _ _ _ _ _ _ ⟨nu, _, _, _, h⟩; omega
  | succ n ih =>
    intro j v w hS hW h2 hs hc hF hj6 ⟨nu, nu6, enu, hj, hn⟩
    obtain ⟨f1, f2, f3, f4, f5⟩ := hF
    have b1 := nS_le k v
    have b2 := nC_le k v
    have t200 : t < 199 := by omega
    obtain ⟨nu', u1, u2, u3, u4⟩ := hS.1.2.2.2.1 m hm
    have enn : nu' = nu := (nI_eq (by omega) (by omega)).mp (u2.symm.trans enu)
    subst enn
    rw [f_X0_beginUsed_2_s, if_neg (chk hm (by decide)), nI_cl (show m < 1000 by omega), enu]
    rcases Nat.lt_or_ge j nu' with hlt | hge
    · obtain ⟨o, o1, o2, o3⟩ := u4 j hlt
      have oM : o < 12 := by have := hS.1.1.1; omega
      rw [if_neg (nI_ge hlt (by omega)), if_neg (chk (show j < 6 by omega) (by decide)), nI_cl (show j < 1000 by omega), o2]
      -- the reference pushes
      have g1 := Go.start (L := L) (w' := PUSH (t + 1) 1 (w 4 (6 * m + j)) (fm_u w 24 t 2)) (by omega) f1 f2 (starts_1_more t200 hm f1 f4 f3 u3 u1 f5 hlt)
      rw [o3] at g1
      have P1 : PO M K k L β v w v (PUSH (t + 1) 1 (nI o) (fm_u w 24 t 2)) := PO.frame hk hS hW (fun T g0 g => by rw [push_T (by omega) g, upd_tag (by omega)]) (fun i hi => by rw [push_0 (by omega), upd_tag (by decide)])
      obtain ⟨p0, p1, p2, p3, p4⟩ := push_at (t := t + 1) (a := 1) (x := nI o) (w := fm_u w 24 t 2)
      obtain ⟨r, v', w', e1, e2, e3, e4, e5, e6, e7⟩ := IB M K k L (t + 1) o β v _ hkl P1.1 P1.2.1 oM (by omega) (by omega) p0 p1 p2 p3 p4
      have fs1 : FS t w w' := by
        refine FS.tr (w1 := PUSH (t + 1) 1 (nI o) (fm_u w 24 t 2)) (fun T i a1 a2 a3 => ?_) (e5.mono (by omega))
        rw [push_FS T i a1 a2 (by omega), fm_u_ne _ _ _ _ (Or.inr (by omega))]
      have F' : ∀ T, 22 ≤ T → T ≤ 25 → w' T t = fm_u w 24 t 2 T t := fun T a1 a2 => by rw [e5 T t a1 a2 (by omega), push_FS T t a1 a2 (by omega)]
      have F22 : w' 22 t = 1 := by rw [F' 22 (by decide) (by decide), upd_tag (by decide)]; exact f2
      have F23 : w' 23 t = nI m := by rw [F' 23 (by decide) (by decide), upd_tag (by decide)]; exact f3
      have F24 : w' 24 t = 2 := by rw [F' 24 (by decide) (by decide), fm_u_eq]
      have F25 : w' 25 t = nI j := by rw [F' 25 (by decide) (by decide), upd_tag (by decide)]; exact f5
      have P2 := P1.tr e3
      rw [e1, Option.bind_some]
      dsimp only
      rcases e7 with ⟨rfl, z1, z2⟩ | ⟨rfl, z1⟩
      · rw [if_neg n10]
        have g3 := Go.start (L := L) (by omega) e6 F22 (starts_even_ok (L := L) (by omega) F24 (Or.inl rfl) z1)
        have en : nI j + 1 = nI (j + 1) := nI_1 j
        have P3 : PO M K k L β v' w' v' (fm_u (fm_u w' 25 t (w' 25 t + 1)) 24 t (2 - 1)) := PO.frame hk P2.1 P2.2.1 (fun T g0 g => by rw [upd_tag (by omega), upd_tag (by omega)]) (fun i hi => by rw [upd_tag (by decide), upd_tag (by decide)])
        have P4 := P2.tr P3
        have h16 : v' 16 m = nI nu' := by
          obtain ⟨nu2, y1, y2, y3, y4⟩ := P4.1.1.2.2.2.1 m hm
          have hb1 := bo_ge hk
          have hl1 := lo_ge hk
          have he1 := ev_cases hk
          rw [P4.2.2.1 16 (by omega) (by omega) (by omega) (by omega) (by omega)]
          exact enu
        rw [en]
        obtain ⟨r2, v2, k1, k2, k3⟩ := ih (j + 1) v' _ P4.1 P4.2.1 ((e4 m hm).mpr h2) (Nat.le_trans hs P2.2.2.2.2.1) (Nat.le_trans hc P2.2.2.2.2.2.1) ⟨by rw [upd_tag (by decide), upd_tag (by decide)]; exact e6, by rw [upd_tag (by decide), upd_tag (by decide)]; exact F22, by rw [upd_tag (by decide), upd_tag (by decide)]; exact F23, by rw [fm_u_eq]; decide, by rw [upd_tag (by decide), fm_u_eq, F25, en]⟩ (by omega) ⟨nu', u1, h16, by omega, by omega⟩
        have fs3 : FS t w' (fm_u (fm_u w' 25 t (w' 25 t + 1)) 24 t (2 - 1)) := fun T i a1 a2 a3 => by rw [fm_u_ne _ _ _ _ (Or.inr (by omega)), fm_u_ne _ _ _ _ (Or.inr (by omega))]
        refine ⟨r2, v2, k1, e4.tr k2, ?_⟩
        rcases k3 with ⟨y, w2, y1, y2, y3, y4⟩ | ⟨y, we, y1, y2, y3, y4, y5⟩
        · exact Or.inl ⟨y, w2, g1.tr (e2.tr (g3.tr y1)), P4.tr y2, fs1.tr (fs3.tr y3), y4⟩
        · exact Or.inr ⟨y, we, g1.tr (e2.tr (g3.tr y1)), P4.tr y2, fs1.tr (fs3.tr y3), y4, y5⟩
      · rw [if_pos rfl]
        obtain ⟨N, N1, N2⟩ := P2.1.n22
        obtain ⟨⟨f, q0, q8, q1, q2⟩, -⟩ := id z1
        have g3 := Go.start (L := L) (by omega) e6 F22 (starts_even_bad hL hm (by omega) F24 (Or.inl rfl) F23 q2 q0 q8 N1 N2)
        exact ⟨0, v', rfl, e4, Or.inr ⟨rfl, w', g1.tr (e2.tr g3), P2, fs1, e6, z1⟩⟩
    · have ej : j = nu' := by omega
      subst ej
      rw [if_pos (Int32.le_refl _)]
      have g1 := Go.start (L := L) (by omega) f1 f2 (starts_1_end (L := L) (by omega) hm f4 f3 u3 f5)
      refine ⟨1, v, rfl, S2.rf, Or.inl ⟨rfl, _, g1, PO.frame hk hS hW (fun T g0 g => by rw [upd_tag (by omega), upd_tag (by omega)]) (fun i hi => by rw [upd_tag (by decide), upd_tag (by decide)]), fun T i a1 a2 a3 => by rw [fm_u_ne _ _ _ _ (Or.inr (by omega)), fm_u_ne _ _ _ _ (Or.inr (by omega))], ⟨by rw [upd_tag (by decide), upd_tag (by decide)]; exact f1, by rw [upd_tag (by decide), upd_tag (by decide)]; exact f2, by rw [upd_tag (by decide), upd_tag (by decide)]; exact f3, by rw [fm_u_eq], by rw [upd_tag (by decide), fm_u_eq]⟩⟩⟩
/-- the deeds of a module -/
theorem LD {d : Nat} (IO : SimO d) (IB : SimB d) (hkl : KL k L) (hm : m < 12) {S0 C0 : Nat} (ht : t + 1 ≤ 2 * S0 + C0) (hfu : 4 * (52 - S0 - C0) + 4 ≤ d) : ∀ (n j : Nat) (v w : fm_T), SS M K k L v w → WK k β v w → v (bo k) m = 2 → S0 ≤ nS k v → C0 ≤ nC k v → Fr t m 3 (nI j) w → j ≤ 6 → (∃ nu : Nat, nu ≤ 6 ∧ v 30 m = nI nu ∧ j ≤ nu ∧ nu - j < n) →
    ∃ (r : Int32) (v' : fm_T), f_X0_doDeeds_2 (gC (d + 1)) n k (nI m) (nI (t + 1)) (nI j) v = some (r, v') ∧ S2 k v v' ∧ ((r = 1 ∧ ∃ w', Go L w (SDONE L m w') ∧ PO M K k L β v w v' w' ∧ FS t w w' ∧ w' 0 32 = nI (t + 1)) ∨ (r = 0 ∧ ∃ we, Go L w (BREAKS L m we) ∧ PO M K k L β v w v' we ∧ FS t w we ∧ we 0 32 = nI (t + 1) ∧ Bad k v' we)) := by
  have hk := hkl.k4
  have hL := hkl.L5
  intro n
  induction n with
  | zero => intro j v w _ _ _ _ _ _ _ ⟨nu, _, _, _, h⟩; omega
  | succ n ih =>
    intro j v w hS hW h2 hs hc hF hj6 ⟨nu, nu6, enu, hj, hn⟩
    obtain ⟨f1, f2, f3, f4, f5⟩ := hF
    have b1 := nS_le k v
    have b2 := nC_le k v
    have t200 : t < 199 := by omega
    have tB : t + 1 ≤ 2 * nS k v + nC k v := by omega
    have fB : 4 * (52 - nS k v - nC k v) + 4 ≤ d := by omega
    have fB3 : 4 * (52 - nS k v - nC k v) + 3 ≤ d := by omega
    have tB1 : t + 1 ≤ 2 * nS k v + nC k v + 1 := by omega
    obtain ⟨nu', u1, u2, u3, u4⟩ := hS.1.2.2.2.2.1 m hm
    have enn : nu' = nu := (nI_eq (by omega) (by omega)).mp (u2.symm.trans enu)
    subst enn
    obtain ⟨N, N1, N2⟩ := hS.n22
    rw [f_X0_doDeeds_2_s, if_neg (chk hm (by decide)), nI_cl (show m < 1000 by omega), enu]
    rcases Nat.lt_or_ge j nu' with hlt | hge
    · have hn1 : nu' - (j + 1) < n := by omega
      have hj1 : j + 1 ≤ nu' := by omega
      have hj7 : j + 1 ≤ 6 := by omega
      obtain ⟨kd, o1, o2, o3, o4, o5, o6⟩ := u4 j hlt
      rw [if_neg (nI_ge hlt (by omega)), if_neg (chk (show j < 6 by omega) (by decide)), nI_cl (show j < 1000 by omega), o2, gC_8]
      have next : ∀ (r : Int32) (v' w' : fm_T) (x : Int32), (gC d (if kd = 0 then 0 else 1) k (v (45 + m) j) (nI (t + 1)) 0 v = some (r, v')) → kd ≠ 2 → Go L (PUSH (t + 1) (nI kd) (v (45 + m) j) (fm_u w 24 t 4)) w' → PO M K k L β v (PUSH (t + 1) (nI kd) (v (45 + m) j) (fm_u w 24 t 4)) v' w' → S2 k v v' → FS (t + 1) (PUSH (t + 1) (nI kd) (v (45 + m) j) (fm_u w 24 t 4)) w' → w' 0 32 = nI (t + 1) → ((r = 1 ∧ w' 0 34 = 0) ∨ (r = 0 ∧ Bad k v' w')) →
          ∃ (r : Int32) (v' : fm_T), ((f_X0_doDeed (gC d) k (nI kd) (v (45 + m) j) (nI (t + 1)) v).bind fun q5 => (if q5.1 = 0 then some (0, q5.2) else f_X0_doDeeds_2 (gC (d + 1)) n k (nI m) (nI (t + 1)) (nI j + 1) q5.2)) = some (r, v') ∧ S2 k v v' ∧ ((r = 1 ∧ ∃ w', Go L w (SDONE L m w') ∧ PO M K k L β v w v' w' ∧ FS t w w' ∧ w' 0 32 = nI (t + 1)) ∨ (r = 0 ∧ ∃ we, Go L w (BREAKS L m we) ∧ PO M K k L β v w v' we ∧ FS t w we ∧ we 0 32 = nI (t + 1) ∧ Bad k v' we)) := by
        intro r v' w' _ e1 k2 e2 e3 e4 e5 e6 e7
        have nk2 : ¬ w 6 (6 * m + j) = 2 := by
          rw [o3]
          intro q
          exact k2 ((nI_eq (b := 2) (by omega) (by decide)).mp q)
        have g1 := Go.start (L := L) (by omega) f1 f2 (starts_3_push (L := L) hm t200 f1 f4 f3 u3 u1 f5 hlt nk2)
        rw [o3, o4] at g1
        have P1 : PO M K k L β v w v (PUSH (t + 1) (nI kd) (v (45 + m) j) (fm_u w 24 t 4)) := PO.frame hk hS hW (fun T g0 g => by rw [push_T (by omega) g, upd_tag (by omega)]) (fun i hi => by rw [push_0 (by omega), upd_tag (by decide)])
        have fs1 : FS t w w' := by
          refine FS.tr (w1 := PUSH (t + 1) (nI kd) (v (45 + m) j) (fm_u w 24 t 4)) (fun T i a1 a2 a3 => ?_) (e5.mono (by omega))
          rw [push_FS T i a1 a2 (by omega), fm_u_ne _ _ _ _ (Or.inr (by omega))]
        have F' : ∀ T, 22 ≤ T → T ≤ 25 → w' T t = fm_u w 24 t 4 T t := fun T a1 a2 => by rw [e5 T t a1 a2 (by omega), push_FS T t a1 a2 (by omega)]
        have F22 : w' 22 t = 1 := by rw [F' 22 (by decide) (by decide), upd_tag (by decide)]; exact f2
        have F23 : w' 23 t = nI m := by rw [F' 23 (by decide) (by decide), upd_tag (by decide)]; exact f3
        have F24 : w' 24 t = 4 := by rw [F' 24 (by decide) (by decide), fm_u_eq]
        have F25 : w' 25 t = nI j := by rw [F' 25 (by decide) (by decide), upd_tag (by decide)]; exact f5
        have P2 := P1.tr e3
        have hr01 : r = 0 ∨ r = 1 := by
          rcases e7 with ⟨q, _⟩ | ⟨q, _⟩
          · exact Or.inr q
          · exact Or.inl q
        have eD : f_X0_doDeed (gC d) k (nI kd) (v (45 + m) j) (nI (t + 1)) v = some (r, v') := by
          unfold f_X0_doDeed
          by_cases k0 : kd = 0
          · subst k0
            rw [if_pos rfl] at e1
            rw [if_pos nI_0, e1, Option.bind_some]
            dsimp only
            rw [if_pos hr01]
          · have k1 : kd = 1 := by omega
            subst k1
            rw [if_neg (by decide)] at e1
            rw [if_neg (by decide), if_pos n_1, e1, Option.bind_some]
            dsimp only
            rw [if_pos hr01]
        rw [eD, Option.bind_some]
        dsimp only
        rcases e7 with ⟨rfl, z1⟩ | ⟨rfl, z1⟩
        · rw [if_neg n10]
          have g3 := Go.start (L := L) (by omega) e6 F22 (starts_even_ok (L := L) (by omega) F24 (Or.inr rfl) z1)
          have en : nI j + 1 = nI (j + 1) := nI_1 j
          have P3 : PO M K k L β v' w' v' (fm_u (fm_u w' 25 t (w' 25 t + 1)) 24 t (4 - 1)) := PO.frame hk P2.1 P2.2.1 (fun T g0 g => by rw [upd_tag (by omega), upd_tag (by omega)]) (fun i hi => by rw [upd_tag (by decide), upd_tag (by decide)])
          have P4 := P2.tr P3
          have h30 : v' 30 m = nI nu' := by
            have hb1 := bo_ge hk
            have hl1 := lo_ge hk
            have he1 := ev_cases hk
            rw [P4.2.2.1 30 (by omega) (by omega) (by omega) (by omega) (by omega)]
            exact enu
          rw [en]
          obtain ⟨r2, v2, k1, k2, k3⟩ := ih (j + 1) v' _ P4.1 P4.2.1 ((e4 m hm).mpr h2) (Nat.le_trans hs P2.2.2.2.2.1) (Nat.le_trans hc P2.2.2.2.2.2.1) ⟨by rw [upd_tag (by decide), upd_tag (by decide)]; exact e6, by rw [upd_tag (by decide), upd_tag (by decide)]; exact F22, by rw [upd_tag (by decide), upd_tag (by decide)]; exact F23, by rw [fm_u_eq]; decide, by rw [upd_tag (by decide), fm_u_eq, F25, en]⟩ hj7 ⟨nu', u1, h30, hj1, hn1⟩
          have fs3 : FS t w' (fm_u (fm_u w' 25 t (w' 25 t + 1)) 24 t (4 - 1)) := fun T i a1 a2 a3 => by rw [fm_u_ne _ _ _ _ (Or.inr (by omega)), fm_u_ne _ _ _ _ (Or.inr (by omega))]
          refine ⟨r2, v2, k1, e4.tr k2, ?_⟩
          rcases k3 with ⟨y, w2, y1, y2, y3, y4⟩ | ⟨y, we, y1, y2, y3, y4, y5⟩
          · exact Or.inl ⟨y, w2, g1.tr (e2.tr (g3.tr y1)), P4.tr y2, fs1.tr (fs3.tr y3), y4⟩
          · exact Or.inr ⟨y, we, g1.tr (e2.tr (g3.tr y1)), P4.tr y2, fs1.tr (fs3.tr y3), y4, y5⟩
        · rw [if_pos rfl]
          obtain ⟨N, N1, N2⟩ := P2.1.n22
          obtain ⟨⟨f, q0, q8, q1, q2⟩, -⟩ := id z1
          have g3 := Go.start (L := L) (by omega) e6 F22 (starts_even_bad hL hm (by omega) F24 (Or.inr rfl) F23 q2 q0 q8 N1 N2)
          exact ⟨0, v', rfl, e4, Or.inr ⟨rfl, w', g1.tr (e2.tr g3), P2, fs1, e6, z1⟩⟩
      obtain ⟨p0, p1, p2, p3, p4⟩ := push_at (t := t + 1) (a := nI kd) (x := v (45 + m) j) (w := fm_u w 24 t 4)
      have P1 : PO M K k L β v w v (PUSH (t + 1) (nI kd) (v (45 + m) j) (fm_u w 24 t 4)) := PO.frame hk hS hW (fun T g0 g => by rw [push_T (by omega) g, upd_tag (by omega)]) (fun i hi => by rw [push_0 (by omega), upd_tag (by decide)])
      rcases (by omega : kd = 0 ∨ kd = 1 ∨ kd = 2) with rfl | rfl | rfl
      · obtain ⟨o, z1, z2⟩ := o5 rfl
        obtain ⟨r, v', w', e1, e2, e3, e4, e5, e6, e7⟩ := IO M K k L (t + 1) o β v _ hkl P1.1 P1.2.1 z1 tB fB p0 (p1.trans nI_0) (p2.trans z2) p3
        refine next r v' w' 0 (by rw [if_pos rfl, z2]; exact e1) (by decide) e2 e3 e4 e5 e6 ?_
        rcases e7 with ⟨y, y1⟩ | ⟨y, y1⟩
        · exact Or.inl ⟨y, y1.2.1⟩
        · exact Or.inr ⟨y, y1⟩
      · obtain ⟨o, z1, z2⟩ := o6 rfl
        obtain ⟨r, v', w', e1, e2, e3, e4, e5, e6, e7⟩ := IB M K k L (t + 1) o β v _ hkl P1.1 P1.2.1 (Nat.lt_of_lt_of_le z1 hS.1.1.1) tB1 fB3 p0 (p1.trans n_1) (p2.trans z2) p3 p4
        refine next r v' w' 0 (by rw [if_neg (by decide), z2]; exact e1) (by decide) e2 e3 e4 e5 e6 ?_
        rcases e7 with ⟨y, y1, y2⟩ | ⟨y, y1⟩
        · exact Or.inl ⟨y, y1⟩
        · exact Or.inr ⟨y, y1⟩
      · have g1 := Go.start (L := L) (by omega) f1 f2 (starts_3_lib hL hm (by omega) f4 f3 u3 u1 f5 hlt N1 N2 (by rw [o3, n_2]))
        rw [o4] at g1
        have n7 : nI 7 = 7 := by decide
        obtain ⟨E1, E2⟩ := ev_fail (f := 7) (x := v (45 + m) j) hk hS hW (by decide) (by decide)
        rw [n7] at E1 E2
        have eD : f_X0_doDeed (gC d) k (nI 2) (v (45 + m) j) (nI (t + 1)) v = some (0, FAIL (bo k + 16) 7 (v (45 + m) j) v) := by
          unfold f_X0_doDeed
          rw [if_neg (by decide), if_neg (by decide), fail_eq, Option.bind_some]
          dsimp only
          rw [if_pos b00]
        rw [eD, Option.bind_some]
        dsimp only
        rw [if_pos rfl]
        have hb1 := bo_ge hk
        exact ⟨0, _, rfl, S2.eq (fail_t (by omega)), Or.inr ⟨rfl, _, g1, E1, fun T i a1 a2 a3 => by rw [fails_T (by omega)], by rw [fails_0 (by omega)]; exact f1, E2⟩⟩
    · have ej : j = nu' := by omega
      subst ej
      rw [if_pos (Int32.le_refl _)]
      have g1 := Go.start (L := L) (by omega) f1 f2 (starts_3_end hL hm (by omega) f4 f3 u3 f5 N1 N2)
      exact ⟨1, v, rfl, S2.rf, Or.inl ⟨rfl, w, g1, PO.frame hk hS hW (fun T _ _ => rfl) (fun _ _ => rfl), fun _ _ _ _ _ => rfl, f1⟩⟩
end SB
