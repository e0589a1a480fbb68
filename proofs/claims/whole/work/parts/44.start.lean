set_option maxRecDepth 20000 in
theorem whole_start {p : Program} {e : Env} {s : State} {m : MethodId} {below : List Frame} {meth : Method} {c : Code} (l : Launch) {b L : Nat} {xs : Nat → Int32} (hL : L ≤ 3072) (C0 : lw_At p s m meth c b L xs) : W p l e room_1 s m #[Value.ref b] below meth c s.heap [] 0 0 (lw_Z below #[Value.ref b] s) (entryFrame m ([Value.ref b] : List Value).toArray 4) := by
  obtain ⟨hx, hb, hr, hml, hown, hts, hX, hbl, hlocks, hgv⟩ := id C0
  obtain ⟨D, cI, cII, cLd, cOc, hK⟩ := st_K hts
  obtain ⟨tA, hZ, hT0⟩ := st_T hts hgv
  have htg : ∀ w ∈ gtbl, w.before #[Value.ref b] s = true := fun w hw => hts w (gtbl_sub hw)
  generalize hh : s.heap.size = h at hZ hT0
  have CL : ll_C p s m c b L xs D cI cII cLd cOc tA h := ⟨hx, hb, hml, hown, htg, ⟨hK.1, hK.2.1, fun q h1 h2 => ⟨h1, h2⟩, hZ.narrow (fun q hq => hq.1), hT0.narrow (fun q hq => hq.1)⟩, ⟨hK.1, hK.2.1, fun q h1 h2 => ⟨h1, h2⟩, hZ.narrow (fun q hq => by have := hq.1; show h ≤ q; omega), hT0.narrow (fun q hq => by have := hq.1; show h ≤ q; omega)⟩, hX, hbl, hh, hL⟩
  have hl := lv_entry ([.ref b]) (n := 4) (Nat.le_of_ble_eq_true rfl)
  rw [lg_entry_eq]
  generalize (lg_sl ([.ref b]) ++ List.replicate (4 - (lg_sl ([.ref b])).length) Slot.unset).toArray = ls at hl ⊢
  have hl : lv_has ls 4 [(0, .ref b)] := hl
  -- the class's object
  have hK4 := hK.1.1 4 _ rfl
  refine W.newcK (n := 10) hx hb hown (htg _ NW_law_7.1) (htg _ IS_0.2.2.2.2.1) (htg _ NW_law_7.2.1) rfl dL_law_0 (by decide) (by decide) hK4.2.1 hh fun H1 kC hkC e1 z1 o1 => ?_
  have P1 : va_P D vwCl (fm_w h 1 (va_up (gF cI cII cLd cOc h) 0 (.inr (4, [.null, .null, .null, .null, .int 0, .null, .null, .null, .null, .int 0])))) H1 := fg_push (n := 0) (H := s.heap) (fun k q hq => by obtain ⟨h1, -⟩ := fm_w_of hq; omega) (fun q hq => o1 q hq) (by rw [va_up_self]; exact ⟨_, rfl, (u_born tyX4 htg inG_X4 hK4 hkC e1 tyX4_ok).to (fun j hj => by rcases (show j = 0 ∨ j = 1 ∨ j = 2 ∨ j = 3 ∨ j = 4 ∨ j = 5 ∨ j = 6 ∨ j = 7 ∨ j = 8 ∨ j = 9 by omega) with rfl | rfl | rfl | rfl | rfl | rfl | rfl | rfl | rfl | rfl <;> rfl)⟩)
  have S1 : va_S (fun q => h ≤ q) s.heap H1 [] := ⟨by omega, fun q h1 h2 => o1 q (by omega), fun _ h => absurd h List.not_mem_nil⟩
  show W p l e room_1 s m #[Value.ref b] below meth c H1 [] 1 10 (lw_Z below #[Value.ref b] s) (F0 m 3 ls [.ref h])
  refine lv_dup hx hb dL_law_3 rfl ?_
  obtain ⟨y1, y2, y3, y4⟩ := Y_X4_init
  have hcb : CallB room_1 s #[Value.ref b] R_law 9 yX4_init cX4_init 2 none (.code yX4_init cX4_init 2 none :: gtbl) (fg_rm 3 304 3196) 304 3196 0 := callB_of 0 htg (gtbl_GoodIn (fun _ h => h) y1) rfl rfl rfl (htg _ y2) (htg _ NW_law_7.2.2.1) y3 ⟨by decide, by decide⟩
  have run1 := va_runI (g := F0 m 4 ls [.ref h, .ref h]) (As := []) (rest := [.ref h]) (locs := []) (cells := 1) (slots := 10) (below := below) (meth := meth) (e := e) (Ts := gtbl) ⟨hx, hb, hml, hown, htg⟩ (c_X4_init (l := l) (D := D) (cI := cI) (cII := cII) (cLd := cLd) (cOc := cOc) (b := h) (A := fun q => h ≤ q) (fun _ h => h)) ⟨hcb, rfl, htg _ NW_law_7.2.2.2⟩ ⟨fg_blind, fun U hU hW => ⟨rfl, by rw [hU]; exact z1, by rw [hU]; exact P1, hK.to hW⟩⟩ rfl rfl hl.1 rfl (lv_room (Nat.le_of_ble_eq_true rfl)) dL_law_4 ⟨by decide, by decide⟩
  intro T1 hT1 X1
  obtain ⟨x, st₀, t1, T2, L2, h0, X2, hL2, u1, u2, ⟨hv, hz2, hP2, hz3, hk2⟩, st⟩ := run1 T1 hT1 X1
  cases hv
  rw [h0] at hz3 hk2
  generalize hH2 : T2.heap = H2
  have hz2 : H2.size = h + 305 := by rw [← hH2, u1]; exact hz2
  have hP2 : va_P D vwCl (fm_w h 305 (fm_c (shC cI cII cLd cOc h) (fun _ _ => 0))) H2 := by rw [← hH2, u1]; exact hP2
  have S2 : va_S (fun q => h ≤ q) s.heap H2 L2 := ⟨by omega, fun q h1 h2 => by rw [← hH2, u1, hk2 q (by omega) h2]; exact S1.2.1 q h1 h2, hL2⟩
  have go : W p l e room_1 s m #[Value.ref b] below meth c H2 L2 305 3206 (lw_Z below #[Value.ref b] s) (F0 m 7 ls [.ref h]) := by
    refine lv_astore_n hx hb dL_law_7 rfl hl (by decide) rfl (fun ls2 hl2 => ?_)
    have hl2 : lv_has ls2 4 [(1, .ref h), (0, .ref b)] := hl2
    have hK5 := hK.1.1 5 _ rfl
    refine W.newcK (n := 41) hx hb hown (htg _ NW_law_10.1) (htg _ IS_0.2.2.2.2.2) (htg _ NW_law_10.2.1) rfl dL_law_8 (by decide) (by decide) hK5.2.1 hz2 fun H3 kM hkM e3 z3 o3 => ?_
    have P3 : va_P D vwCl (fm_w (h + 305) 1 (va_up (gM cI (h + 305)) 0 (.inr (5, [.int 0, .null, .null, .null, .null, .null, .null, .null, .int 0, .null, .null, .null, .null, .null, .null, .null, .null, .null, .null, .null, .null, .null, .int 0, .int 0, .int 0, .int 0, .int 0, .null, .null, .null, .null, .null, .int 0, .int 0, .int 0, .int 0, .int 0, .int 0, .null, .null, .null])))) H3 := fg_push (n := 0) (H := H2) (fun k q hq => by obtain ⟨h1, -⟩ := fm_w_of hq; omega) (fun q hq => o3 q hq) (by rw [va_up_self]; exact ⟨_, rfl, (u_born tyX5 htg inG_X5 hK5 hkM e3 tyX5_ok).to (fun j hj => by rcases (show j = 0 ∨ j = 1 ∨ j = 2 ∨ j = 3 ∨ j = 4 ∨ j = 5 ∨ j = 6 ∨ j = 7 ∨ j = 8 ∨ j = 9 ∨ j = 10 ∨ j = 11 ∨ j = 12 ∨ j = 13 ∨ j = 14 ∨ j = 15 ∨ j = 16 ∨ j = 17 ∨ j = 18 ∨ j = 19 ∨ j = 20 ∨ j = 21 ∨ j = 22 ∨ j = 23 ∨ j = 24 ∨ j = 25 ∨ j = 26 ∨ j = 27 ∨ j = 28 ∨ j = 29 ∨ j = 30 ∨ j = 31 ∨ j = 32 ∨ j = 33 ∨ j = 34 ∨ j = 35 ∨ j = 36 ∨ j = 37 ∨ j = 38 ∨ j = 39 ∨ j = 40 by omega) with rfl | rfl | rfl | rfl | rfl | rfl | rfl | rfl | rfl | rfl | rfl | rfl | rfl | rfl | rfl | rfl | rfl | rfl | rfl | rfl | rfl | rfl | rfl | rfl | rfl | rfl | rfl | rfl | rfl | rfl | rfl | rfl | rfl | rfl | rfl | rfl | rfl | rfl | rfl | rfl | rfl <;> rfl)⟩)
    have Q3 : va_P D vwCl (fm_w h 305 (fm_c (shC cI cII cLd cOc h) (fun _ _ => 0))) H3 := hP2.kept (fun k x hx => o3 _ (by have := (hP2 k x hx).lt; omega))
    have S3 : va_S (fun q => h ≤ q) s.heap H3 L2 := ⟨by omega, fun q h1 h2 => by rw [o3 q (by omega)]; exact S2.2.1 q h1 h2, S2.2.2⟩
    show W p l e room_1 s m #[Value.ref b] below meth c H3 L2 306 3247 (lw_Z below #[Value.ref b] s) (F0 m 11 ls2 [.ref (h + 305)])
    refine lv_dup hx hb dL_law_11 rfl ?_
    obtain ⟨y1, y2, y3, y4⟩ := Y_X5_init
    have hcb : CallB room_1 s #[Value.ref b] R_law 12 yX5_init cX5_init 1 none (.code yX5_init cX5_init 1 none :: gtbl) (fg_rm 1 28 3412) 28 3412 0 := callB_of 0 htg (gtbl_GoodIn (fun _ h => h) y1) rfl rfl rfl (htg _ y2) (htg _ NW_law_10.2.2.1) y3 ⟨by decide, by decide⟩
    have run2 := va_runI (g := F0 m 12 ls2 [.ref (h + 305), .ref (h + 305)]) (As := []) (rest := [.ref (h + 305)]) (locs := L2) (cells := 306) (slots := 3247) (below := below) (meth := meth) (e := e) (Ts := gtbl) ⟨hx, hb, hml, hown, htg⟩ (c_X5_init (l := l) (D := D) (cI := cI) (cII := cII) (cLd := cLd) (cOc := cOc) (b := h + 305) (A := fun q => h + 305 ≤ q) (fun _ h => h)) ⟨hcb, rfl, htg _ NW_law_10.2.2.2⟩ ⟨fg_blind, fun U hU hW => ⟨rfl, by rw [hU]; exact z3, by rw [hU]; exact P3, hK.to hW⟩⟩ rfl rfl hl2.1 rfl (lv_room (Nat.le_of_ble_eq_true rfl)) dL_law_12 ⟨by decide, by decide⟩
    intro T3 hT3 X3
    obtain ⟨x, st₁, t4, T4, L4, h4, X4, hL4, v1, v2, ⟨hv, hz4, hP4, hz5, hk4⟩, st4⟩ := run2 T3 hT3 X3
    cases hv
    rw [h4] at hz5 hk4
    generalize hH4 : T4.heap = H4
    have hz4 : H4.size = h + 305 + 29 := by rw [← hH4, v1]; exact hz4
    have hP4 : va_P D vwCl (fm_w (h + 305) 29 (fm_c (shM cI (h + 305)) (fun _ _ => 0))) H4 := by rw [← hH4, v1]; exact hP4
    have Q4 : va_P D vwCl (fm_w h 305 (fm_c (shC cI cII cLd cOc h) (fun _ _ => 0))) H4 := Q3.kept (fun k x hx => by
      have hlt := (Q3 k x hx).lt
      obtain ⟨h1, rfl⟩ := fm_w_of hx
      rw [← hH4, v1]
      exact hk4 _ hlt (fun z => by have z1 : h + 305 ≤ h + k := z; omega))
    have S4 : va_S (fun q => h ≤ q) s.heap H4 (L2 ++ L4) := ⟨by omega, fun q h1 h2 => by rw [← hH4, v1, hk4 q (by omega) (fun z => h2 (by have z1 : h + 305 ≤ q := z; show h ≤ q; omega))]; exact S3.2.1 q h1 h2, fun q hq => by
      rcases List.mem_append.mp hq with h3 | h3
      · exact S3.2.2 q h3
      · have z1 : h + 305 ≤ q.base := hL4 q h3
        show h ≤ q.base
        omega⟩
    have go2 : W p l e room_1 s m #[Value.ref b] below meth c H4 (L2 ++ L4) 334 6659 (lw_Z below #[Value.ref b] s) (F0 m 15 ls2 [.ref (h + 305)]) := by
      refine lv_astore_n hx hb dL_law_15 rfl hl2 (by decide) rfl (fun ls3 hl3 => ?_)
      refine lv_iconst (v := 0) hx hb dL_law_16 (by decide) ?_
      refine lv_istore_n hx hb dL_law_17 rfl hl3 (by decide) rfl (fun ls4 hl4 => ?_)
      exact ll_loop CL hr hlocks (L + 1) 0 (fun _ _ => 0) (fun _ _ => 0) (by omega) (by omega) RR0 H4 (L2 ++ L4) ls4 Q4 hP4 S4 hl4
    obtain ⟨t5, a5, b5⟩ := go2 T4 hH4 X4
    exact ⟨t5, st4 t5 a5, b5⟩
  obtain ⟨t2, a2, b2⟩ := go T2 hH2 X2
  exact ⟨t2, st t2 a2, b2⟩
