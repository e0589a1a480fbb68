def CR (c : Nat) (v w : fm_T) : Prop := (v 303 c = 0 ∧ w 27 c = 0 ∧ w 28 c = v 304 c) ∨ (∃ f : Nat, 0 < f ∧ f ≤ 8 ∧ v 303 c = nI f ∧ w 27 c = nI f ∧ v 304 c = 0)
theorem CR.cong {c : Nat} {v w v' w' : fm_T} (h : CR c v w) (h1 : v' 303 c = v 303 c) (h2 : v' 304 c = v 304 c) (h3 : w' 27 c = w 27 c) (h4 : w' 28 c = w 28 c) : CR c v' w' := by
  unfold CR
  rw [h1, h2, h3, h4]
  exact h
def AF (v v' : fm_T) : Prop := ∀ t, t ≤ 240 → v' t = v t
def AW (w w' : fm_T) : Prop := (∀ T, (1 ≤ T ∧ T ≤ 12) ∨ T = 21 → w' T = w T) ∧ (∀ j, j < 36 → w' 13 j = w 13 j) ∧ (∀ j, j < 288 → w' 14 j = w 14 j) ∧ (∀ T j, 15 ≤ T → T ≤ 19 → j < 120 → w' T j = w T j) ∧ (∀ j, j ≠ 22 → j ≠ 24 → (j < 32 ∨ 37 < j) → w' 0 j = w 0 j)
theorem AF.tr {a b c : fm_T} (h1 : AF a b) (h2 : AF b c) : AF a c := fun t ht => (h2 t ht).trans (h1 t ht)
theorem AW.tr {a b c : fm_T} (h1 : AW a b) (h2 : AW b c) : AW a c := by
  obtain ⟨a1, a2, a3, a4, a5⟩ := h1
  obtain ⟨b1, b2, b3, b4, b5⟩ := h2
  exact ⟨fun T h => (b1 T h).trans (a1 T h), fun j h => (b2 j h).trans (a2 j h), fun j h => (b3 j h).trans (a3 j h), fun T j h1 h2 h3 => (b4 T j h1 h2 h3).trans (a4 T j h1 h2 h3), fun j h1 h2 h3 => (b5 j h1 h2 h3).trans (a5 j h1 h2 h3)⟩
theorem AF.rf {a : fm_T} : AF a a := fun _ _ => rfl
theorem AW.rf {a : fm_T} : AW a a := ⟨fun _ _ => rfl, fun _ _ => rfl, fun _ _ => rfl, fun _ _ _ _ _ => rfl, fun _ _ _ _ => rfl⟩
theorem FV.af {v v' : fm_T} (h : FV 3 v v') : AF v v' := fun t ht => by
  have b3 : bo 3 = 245 := rfl
  have l3 : lo 3 = 241 := rfl
  have e3 : ev 3 = 242 := rfl
  exact h t (by omega) (by omega) (by omega) (by omega) (by omega)
theorem FV.hi {v v' : fm_T} (h : FV 3 v v') (t : Nat) (ht : 302 ≤ t) : v' t = v t := by
  have b3 : bo 3 = 245 := rfl
  have l3 : lo 3 = 241 := rfl
  have e3 : ev 3 = 242 := rfl
  exact h t (by omega) (by omega) (by omega) (by omega) (by omega)
theorem FW.aw {L : Nat} {w w' : fm_T} (hL : 3 ≤ L) (h : FW L w w') : AW w w' := by
  obtain ⟨a1, a2, a3, a4, a5, a6⟩ := h
  refine ⟨fun T hT => ?_, fun j hj => a3 j (by omega), fun j hj => a4 j (by omega), fun T j h1 h2 h3 => a5 T j h1 h2 (by omega), a6⟩
  rcases hT with ⟨h1, h2⟩ | rfl
  · exact a1 T h1 h2
  · exact a2 21 (Or.inl rfl)
theorem SS.aside {M K L : Nat} {v w v' w' : fm_T} (h : SS M K 3 L v w) (hv : ∀ t, t < 302 → v' t = v t) (hw : ∀ T, T < 26 → w' T = w T) : SS M K 3 L v' w' := by
  have b3 : bo 3 = 245 := rfl
  exact h.cong (by decide) (fun t ht => hv t (by omega)) (fun T h1 h2 => hw T (by omega)) (fun j _ => by rw [hw 0 (by decide)])
theorem WK.aside {β : Int32} {v w v' w' : fm_T} (h : WK 3 β v w) (hw : w' 0 24 = w 0 24) : WK 3 β v' w' := ⟨fun q => by omega, fun q => by rw [hw]; exact h.2 q⟩
theorem s1_step {u n L K i c : Nat} {x1 x2 x3 x5 : Int32} {w P q : fm_T} (h8 : w 0 8 = nI K) (hi : i < K) (K40 : K ≤ 40) (hL : L < 5) (hc : w 26 i = nI c) (c40 : c < 40) (hp : f_X5_push 0 (nI c) w = some (0, P)) (hr : f_X5_runs u (nI L) P = some (0, q)) : f_X5_alike_S57 u (n + 1) 1 x1 x2 x3 (nI L) x5 (nI i) w = f_X5_alike_S57 u n 1 x1 (x2 + (if (q 27 c = q 0 34 ∧ (0 < q 0 34 ∨ q 28 c = q 0 33)) ∨ L ≠ 4 then 0 else 1)) x3 (nI L) x5 (nI (i + 1)) (fm_u (fm_u q 27 c (q 0 34)) 28 c (q 0 33)) := by
  have h4 : (nI L = 4) = (L = 4) := propext ⟨fun e => (nI_eq (b := 4) (by omega) (by decide)).mp (e.trans n_4.symm), fun e => by rw [e, n_4]⟩
  have h33 : fm_u q 27 c (q 0 34) 0 33 = q 0 33 := fm_u_ne _ _ _ _ (Or.inl (by decide))
  rw [f_X5_alike_S57_s1, if_neg (by rw [h8]; exact nI_ge hi (by omega)), if_neg (chk (show i < 40 by omega) (by decide)), nI_cl (show i < 1000 by omega), hc, hp, Option.bind_some]
  dsimp only
  rw [hr, Option.bind_some]
  dsimp only
  rw [if_neg (chk c40 (by decide)), nI_cl (show c < 1000 by omega), nI_1]
  simp only [Option.bind_some, h33, h4]
  by_cases g1 : q 27 c = q 0 34
  · by_cases g2 : 0 < q 0 34
    · by_cases g4 : L = 4 <;> simp [g1, g2, g4]
    · by_cases g3 : q 28 c = q 0 33
      · by_cases g4 : L = 4 <;> simp [g1, g2, g3, g4]
      · by_cases g4 : L = 4 <;> simp [g1, g2, g3, g4]
  · by_cases g4 : L = 4 <;> simp [g1, g4]
theorem s1_end {u n L K : Nat} {x1 x2 x3 x5 : Int32} {w : fm_T} (h8 : w 0 8 = nI K) : f_X5_alike_S57 u (n + 1) 1 x1 x2 x3 (nI L) x5 (nI K) w = f_X5_alike_S57 u n 2 x1 x2 x3 (nI L) x5 (nI K - 1) w := by
  rw [f_X5_alike_S57_s1, if_pos (by rw [h8]; exact Int32.le_refl _), h8]
/-- the first pass: by numbers -/
theorem pass1 {M K : Nat} {β : Int32} (hK : K ≤ 40) : ∀ (n i : Nat) (v w : fm_T), K - i = n → i ≤ K → SS M K 3 3 v w → WK 3 β v w → w 0 32 = 0 → (∀ j, j < K → w 26 j = nI j) → (∀ j, j < i → CR j v w) → ∃ (v' w' : fm_T) (u0 : Nat), (∀ m, f_X4_needByNumbers_9 220 (m + (n + 1)) (nI i) v = some (0, v')) ∧ (∀ u, u0 ≤ u → ∀ (m : Nat) (x1 x2 x3 x5 : Int32), f_X5_alike_S57 u (m + (n + 1)) 1 x1 x2 x3 (nI 3) x5 (nI i) w = f_X5_alike_S57 u m 2 x1 x2 x3 (nI 3) x5 (nI K - 1) w') ∧ SS M K 3 3 v' w' ∧ WK 3 β v' w' ∧ w' 0 32 = 0 ∧ (∀ j, j < K → w' 26 j = nI j) ∧ (∀ j, j < K → CR j v' w') ∧ AF v v' ∧ AW w w' := by
  intro n
  induction n with
  | zero =>
    intro i v w hn hi hS hW hd ho hC
    have e : i = K := by omega
    subst e
    refine ⟨v, w, 0, fun m => ?_, fun u _ m x1 x2 x3 x5 => ?_, hS, hW, hd, ho, hC, AF.rf, AW.rf⟩
    · rw [Nat.zero_add, f_X4_needByNumbers_9_s, if_pos (by rw [hS.1.1.2.2.2.2.1]; exact Int32.le_refl _)]
    · rw [Nat.zero_add]; exact s1_end hS.1.1.2.2.2.2.2
  | succ n ih =>
    intro i v w hn hi hS hW hd ho hC
    have hlt : i < K := by omega
    obtain ⟨r, v1, w1, P, u1, e1, e2, e3, e4, e5, e6, e7, e8, e9⟩ := as_step (L := 3) (c := i) (by decide) (by decide) hS hW (by omega) hd
    have b3 : bo 3 = 245 := rfl
    generalize hV : fm_u (fm_u v1 303 i (v1 (bo 3 + 16) 1)) 304 i (v1 (bo 3 + 16) 0) = v2
    generalize hWW : fm_u (fm_u w1 27 i (w1 0 34)) 28 i (w1 0 33) = w2
    have V2 : ∀ t, t ≠ 303 → t ≠ 304 → v2 t = v1 t := fun t h1 h2 => by rw [← hV, upd_tag h2, upd_tag h1]
    have W2 : ∀ t, t ≠ 27 → t ≠ 28 → w2 t = w1 t := fun t h1 h2 => by rw [← hWW, upd_tag h2, upd_tag h1]
    have F27 : ∀ T, 26 ≤ T → w1 T = w T := fun T hT => e7.2.1 T (Or.inr hT)
    have hS2 : SS M K 3 3 v2 w2 := e4.aside (fun t ht => V2 t (by omega) (by omega)) (fun T hT => W2 T (by omega) (by omega))
    have hC2 : ∀ j, j < i + 1 → CR j v2 w2 := by
      intro j hj
      by_cases ej : j = i
      · subst ej
        have q3 : v2 303 j = v1 (bo 3 + 16) 1 := by rw [← hV, upd_tag (by decide), fm_u_eq]
        have q4 : v2 304 j = v1 (bo 3 + 16) 0 := by rw [← hV, fm_u_eq]
        have q7 : w2 27 j = w1 0 34 := by rw [← hWW, upd_tag (by decide), fm_u_eq]
        have q8 : w2 28 j = w1 0 33 := by rw [← hWW, fm_u_eq]
        rcases e9 with ⟨g1, g2, g3⟩ | ⟨⟨f, f0, f8, g1, g2⟩, g3, -⟩
        · exact Or.inl ⟨q3.trans g1, q7.trans g2, by rw [q8, q4]; exact g3⟩
        · exact Or.inr ⟨f, f0, f8, q3.trans g1, q7.trans g2, q4.trans g3⟩
      · refine (hC j (by omega)).cong ?_ ?_ ?_ ?_
        · rw [← hV, upd_tag (by decide), fm_u_ne _ _ _ _ (Or.inr ej), e6.hi 303 (by decide)]
        · rw [← hV, fm_u_ne _ _ _ _ (Or.inr ej), upd_tag (by decide), e6.hi 304 (by decide)]
        · rw [← hWW, upd_tag (by decide), fm_u_ne _ _ _ _ (Or.inr ej), F27 27 (by decide)]
        · rw [← hWW, fm_u_ne _ _ _ _ (Or.inr ej), upd_tag (by decide), F27 28 (by decide)]
    obtain ⟨v', w', u2, i1, i2, i3, i4, i5, i6, i7, i8, i9⟩ := ih (i + 1) v2 w2 (by omega) (by omega) hS2 (e5.aside (by rw [W2 0 (by decide) (by decide)])) (by rw [W2 0 (by decide) (by decide)]; exact e8) (fun j hj => by rw [W2 26 (by decide) (by decide), F27 26 (by decide)]; exact ho j hj) hC2
    have aw2 : AW w w2 := by
      refine (FW.aw (by decide) e7).tr ⟨fun T hT => W2 T (by omega) (by omega), fun j _ => by rw [W2 13 (by decide) (by decide)], fun j _ => by rw [W2 14 (by decide) (by decide)], fun T j h1 h2 _ => by rw [W2 T (by omega) (by omega)], fun j _ _ _ => by rw [W2 0 (by decide) (by decide)]⟩
    have af2 : AF v v2 := e6.af.tr (fun t ht => V2 t (by omega) (by omega))
    refine ⟨v', w', max u1 u2, fun m => ?_, fun u hu m x1 x2 x3 x5 => ?_, i3, i4, i5, i6, i7, af2.tr i8, aw2.tr i9⟩
    · rw [← Nat.add_assoc, f_X4_needByNumbers_9_s, if_neg (by rw [hS.1.1.2.2.2.2.1]; exact nI_ge hlt (by omega)), e1, Option.bind_some, if_neg (chk (show i < 40 by omega) (by decide)), nI_cl (show i < 1000 by omega), Option.bind_some, Option.bind_some]
      dsimp only
      rw [upd_tag (show bo 3 + 16 ≠ 303 by decide), hV, nI_1]
      exact i1 m
    · have z0 : x2 + 0 = x2 := Int32.add_zero _
      rw [← Nat.add_assoc, s1_step hS.1.1.2.2.2.2.2 hlt hK (by decide) (ho i hlt) (by omega) e2 (e3 u (by omega)), if_pos (Or.inr (by decide)), z0, hWW]
      exact i2 u (by omega) m x1 x2 x3 x5
/-- the second pass: in the mixed order -/
theorem pass2 {M K : Nat} {β : Int32} (hK : K ≤ 40) : ∀ (n i : Nat) (v w : fm_T) (x : Int32), K - i = n → i ≤ K → SS M K 3 4 v w → WK 3 β v w → w 0 32 = 0 → PM K (v 302) → (∀ j, j < K → w 26 j = v 302 j) → (∀ c, c < K → (∀ j, j < i → v 302 j ≠ nI c) → CR c v w) → ∃ (v' w' : fm_T) (y : Int32) (u0 : Nat), (∀ m, f_X4_countUnlike_11 220 (m + (n + 1)) x (nI i) v = some (y, v')) ∧ (∀ u, u0 ≤ u → ∀ (m : Nat) (x1 x3 x5 : Int32), f_X5_alike_S57 u (m + (n + 1)) 1 x1 x x3 (nI 4) x5 (nI i) w = f_X5_alike_S57 u m 2 x1 y x3 (nI 4) x5 (nI K - 1) w') ∧ SS M K 3 4 v' w' ∧ WK 3 β v' w' ∧ w' 0 32 = 0 ∧ PM K (v' 302) ∧ (∀ j, j < K → w' 26 j = v' 302 j) ∧ AF v v' ∧ AW w w' := by
  intro n
  induction n with
  | zero =>
    intro i v w x hn hi hS hW hd hp ho hC
    have e : i = K := by omega
    subst e
    refine ⟨v, w, x, 0, fun m => ?_, fun u _ m x1 x3 x5 => ?_, hS, hW, hd, hp, ho, AF.rf, AW.rf⟩
    · rw [Nat.zero_add, f_X4_countUnlike_11_s, if_pos (by rw [hS.1.1.2.2.2.2.1]; exact Int32.le_refl _)]
    · rw [Nat.zero_add]; exact s1_end hS.1.1.2.2.2.2.2
  | succ n ih =>
    intro i v w x hn hi hS hW hd hp ho hC
    have hlt : i < K := by omega
    obtain ⟨c, cK, ec⟩ := hp.1 i hlt
    have eo : w 26 i = nI c := (ho i hlt).trans ec
    obtain ⟨r, v1, w1, P, u1, e1, e2, e3, e4, e5, e6, e7, e8, e9⟩ := as_step (L := 4) (c := c) (by decide) (by decide) hS hW (by omega) hd
    have b3 : bo 3 = 245 := rfl
    have F27 : ∀ T, 26 ≤ T → w1 T = w T := fun T hT => e7.2.1 T (Or.inr hT)
    have hc0 : CR c v1 w1 := (hC c cK (fun j hj q => by
      have := hp.2 j i (by omega) hlt (q.trans ec.symm)
      omega)).cong (by rw [e6.hi 303 (by decide)]) (by rw [e6.hi 304 (by decide)]) (by rw [F27 27 (by decide)]) (by rw [F27 28 (by decide)])
    generalize hWW : fm_u (fm_u w1 27 c (w1 0 34)) 28 c (w1 0 33) = w2
    have W2 : ∀ t, t ≠ 27 → t ≠ 28 → w2 t = w1 t := fun t h1 h2 => by rw [← hWW, upd_tag h2, upd_tag h1]
    have hS2 : SS M K 3 4 v1 w2 := e4.aside (fun t ht => rfl) (fun T hT => W2 T (by omega) (by omega))
    -- what is counted
    have hcnt : ∀ z : Int32, (if v1 (bo 3 + 16) 1 = v1 303 c then (if v1 (bo 3 + 16) 0 = v1 304 c then z else z + 1) else z + 1) = z + (if (w1 27 c = w1 0 34 ∧ (0 < w1 0 34 ∨ w1 28 c = w1 0 33)) ∨ 4 ≠ 4 then 0 else 1) := by
      intro z
      have z0 : z + 0 = z := Int32.add_zero _
      have n44 : ¬ (4 ≠ 4) := fun q => q rfl
      rcases e9 with ⟨g1, g2, g3⟩ | ⟨⟨f, f0, f8, g1, g2⟩, g3, -⟩
      · rcases hc0 with ⟨h1, h2, h3⟩ | ⟨f', f0', f8', h1, h2, h3⟩
        · have nn : ¬ (0 : Int32) < 0 := by decide
          rw [g1, h1, if_pos rfl, g2, g3, h2, h3]
          by_cases q : v1 (bo 3 + 16) 0 = v1 304 c
          · rw [if_pos q, if_pos (Or.inl ⟨rfl, Or.inr q.symm⟩), z0]
          · rw [if_neg q, if_neg (fun y => y.elim (fun y => y.2.elim nn (fun y => q y.symm)) n44)]
        · have nf : ¬ nI f' = 0 := nI_ne0 f0' (by omega)
          rw [g1, h1, if_neg (fun y => nf y.symm), g2, h2, if_neg (fun y => y.elim (fun y => nf y.1) n44)]
      · have nf : ¬ nI f = 0 := nI_ne0 f0 (by omega)
        rcases hc0 with ⟨h1, h2, h3⟩ | ⟨f', f0', f8', h1, h2, h3⟩
        · rw [g1, h1, if_neg nf, g2, h2, if_neg (fun y => y.elim (fun y => nf y.1.symm) n44)]
        · rw [g1, h1, g2, h2, g3, h3]
          by_cases q : f = f'
          · subst q
            have p0 : (0 : Int32) < nI f := nI_lt (a := 0) f0 (by omega)
            rw [if_pos rfl, if_pos rfl, if_pos (Or.inl ⟨rfl, Or.inl p0⟩), z0]
          · have nq : ¬ nI f = nI f' := fun y => q ((nI_eq (by omega) (by omega)).mp y)
            rw [if_neg nq, if_neg (fun y => y.elim (fun y => nq y.1.symm) n44)]
    have hC2 : ∀ c', c' < K → (∀ j, j < i + 1 → v1 302 j ≠ nI c') → CR c' v1 w2 := by
      intro c' hc' hj
      have ne : c' ≠ c := fun q => hj i (by omega) (by rw [e6.hi 302 (by decide), ec, q])
      refine (hC c' hc' (fun j hj' q => hj j (by omega) (by rw [e6.hi 302 (by decide)]; exact q))).cong (by rw [e6.hi 303 (by decide)]) (by rw [e6.hi 304 (by decide)]) ?_ ?_
      · rw [← hWW, upd_tag (by decide), fm_u_ne _ _ _ _ (Or.inr ne), F27 27 (by decide)]
      · rw [← hWW, fm_u_ne _ _ _ _ (Or.inr ne), upd_tag (by decide), F27 28 (by decide)]
    obtain ⟨v', w', y, u2, i1, i2, i3, i4, i5, i6, i7, i8, i9⟩ := ih (i + 1) v1 w2 (if v1 (bo 3 + 16) 1 = v1 303 c then (if v1 (bo 3 + 16) 0 = v1 304 c then x else x + 1) else x + 1) (by omega) (by omega) hS2 (e5.aside (by rw [W2 0 (by decide) (by decide)])) (by rw [W2 0 (by decide) (by decide)]; exact e8) (by rw [e6.hi 302 (by decide)]; exact hp) (fun j hj => by rw [W2 26 (by decide) (by decide), F27 26 (by decide), e6.hi 302 (by decide)]; exact ho j hj) hC2
    have aw2 : AW w w2 := by
      refine (FW.aw (by decide) e7).tr ⟨fun T hT => W2 T (by omega) (by omega), fun j _ => by rw [W2 13 (by decide) (by decide)], fun j _ => by rw [W2 14 (by decide) (by decide)], fun T j h1 h2 _ => by rw [W2 T (by omega) (by omega)], fun j _ _ _ => by rw [W2 0 (by decide) (by decide)]⟩
    refine ⟨v', w', y, max u1 u2, fun m => ?_, fun u hu m x1 x3 x5 => ?_, i3, i4, i5, i6, i7, e6.af.tr i8, aw2.tr i9⟩
    · have := i1 m
      rw [← Nat.add_assoc, f_X4_countUnlike_11_s, if_neg (by rw [hS.1.1.2.2.2.2.1]; exact nI_ge hlt (by omega)), if_neg (chk (show i < 40 by omega) (by decide)), nI_cl (show i < 1000 by omega), ec, e1, Option.bind_some, if_neg (chk (show c < 40 by omega) (by decide)), nI_cl (show c < 1000 by omega), nI_1]
      dsimp only
      by_cases q1 : v1 (bo 3 + 16) 1 = v1 303 c
      · rw [if_pos q1] at this ⊢
        by_cases q2 : v1 (bo 3 + 16) 0 = v1 304 c
        · rw [if_pos q2] at this ⊢; exact this
        · rw [if_neg q2] at this ⊢; exact this
      · rw [if_neg q1] at this ⊢; exact this
    · rw [← Nat.add_assoc, s1_step hS.1.1.2.2.2.2.2 hlt hK (by decide) eo (by omega) e2 (e3 u (by omega)), ← hcnt, hWW]
      exact i2 u (by omega) m x1 x3 x5
