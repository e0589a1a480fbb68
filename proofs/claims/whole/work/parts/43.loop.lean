section LOOP
variable {p : Program} {l : Launch} {e : Env} {s : State} {m : MethodId} {b L : Nat} {xs : Nat → Int32} {below : List Frame} {meth : Method} {c : Code} {D : va_G} {cI cII cLd cOc : ClassId} {tA h : Nat}
theorem ll_loop (C : ll_C p s m c b L xs D cI cII cLd cOc tA h) (hr : meth.sig.returnType = ret) (hlocks : meth.locks = false) : ∀ (n k : Nat) (v w : fm_T), L - k < n → k ≤ L → RR v w → ll_V p l e s m b below meth c D cI cII cLd cOc h (lw_Z below #[Value.ref b] s) 18 (llv b h k) [] v w := by
  intro n
  induction n with
  | zero => intro k v w h1; omega
  | succ n ih =>
    intro k v w hn hk hR H locs ls hP hPm hS hl
    have hL := C.2.2.2.2.2.2.2.2.2.2
    have hh0 := C.2.2.2.2.2.2.2.2.2.1
    have hbl := C.2.2.2.2.2.2.2.2.1
    have hX := C.2.2.2.2.2.2.2.1
    refine lv_iload_n C.1 C.2.1 dL_law_18 rfl (lv_at hl 0 rfl) ?_
    refine lv_aload_n C.1 C.2.1 dL_law_19 rfl (lv_at hl 3 rfl) ?_
    refine va_slen C.1 C.2.1 hX hbl (show ¬ h ≤ b by omega) hS dL_law_20 ?_
    refine lv_bipush (v := 6) C.1 C.2.1 dL_law_21 (by decide) ?_
    refine lv_isub C.1 C.2.1 dL_law_23 ?_
    refine lv_icmp_gt C.1 C.2.1 dL_law_24 (tgt := 636) (by decide) (fun _ => ?_) (fun q => ?_)
    · refine lv_iconst (v := 1) C.1 C.2.1 dL_law_636 (by decide) ?_
      refine va_forget (fun q hq => by rw [hh0]; exact hS.2.2 q hq) ?_
      refine W.widen (k := 600000) (n := 7302250) (by decide) (by decide) ?_
      exact lw_ret C.1 C.2.1 hr hlocks dL_law_637
    · have hk6 : k + 6 ≤ L := by
        have e1 : (Int32.ofNat L - 6 : Int32).toInt = (L : Int) - 6 := by
          have := pk_sub_toInt (a := L) (b := 6) (by omega) (by decide)
          exact this
        have e2 : (nI k).toInt = (k : Int) := nI_toInt (by omega)
        have e3 : ¬ (Int32.ofNat L - 6 : Int32).toInt < (nI k).toInt := fun z => q (Int32.lt_iff_toInt_lt.mpr z)
        rw [e1, e2] at e3
        omega
      refine lv_aload_n C.1 C.2.1 dL_law_27 rfl (lv_at hl 3 rfl) ?_
      refine lv_iload_n C.1 C.2.1 dL_law_28 rfl (lv_at hl 0 rfl) ?_
      refine va_sld C.1 C.2.1 hX hbl (show ¬ h ≤ b by omega) hS (i := nI k) (nI_in (show k < L by omega) (by omega)) dL_law_29 ?_
      rw [nI_clamp (by omega)]
      refine lv_bipush (v := 15) C.1 C.2.1 dL_law_30 (by decide) ?_
      refine lv_iand C.1 C.2.1 dL_law_32 ?_
      have nx : ∀ v2 w2, RR v2 w2 → ll_V p l e s m b below meth c D cI cII cLd cOc h (lw_Z below #[Value.ref b] s) 630 (llv b h k) [] v2 w2 := by
        intro v2 w2 hR2 H locs ls hP hPm hS hl
        refine lv_iinc C.1 C.2.1 dL_law_630 hl (k := 0) rfl (v := nI (k + 6)) (by show nI k + nI 6 = _; rw [nI_add]) (by decide) rfl (fun ls2 hl2 => ?_)
        refine lv_goto C.1 C.2.1 dL_law_633 (tgt := 18) (by decide) ?_
        exact ih (k + 6) v2 w2 (by omega) (by omega) hR2 H locs ls2 hP hPm hS hl2
      obtain ⟨j, hj, ej⟩ := pk_andE (xs k) (m := 15) 4 (by decide)
      rw [ej]
      have hj16 : j < 16 := hj
      rcases (show j = 0 ∨ j = 1 ∨ j = 2 ∨ j = 3 ∨ j = 4 ∨ j = 5 ∨ j = 6 ∨ j = 7 ∨ j = 8 ∨ j = 9 ∨ j = 10 ∨ j = 11 ∨ j = 12 ∨ j = 13 ∨ j = 14 ∨ j = 15 by omega) with rfl | rfl | rfl | rfl | rfl | rfl | rfl | rfl | rfl | rfl | rfl | rfl | rfl | rfl | rfl | rfl
      · exact lv_tableIn C.1 C.2.1 dL_law_33 (off := 79) (tgt := 112) (by decide) (by decide) (by decide) (by decide) (ll_module C hk6 hR nx H locs ls hP hPm hS hl)
      · exact lv_tableIn C.1 C.2.1 dL_law_33 (off := 102) (tgt := 135) (by decide) (by decide) (by decide) (by decide) (ll_item C hk6 hR nx H locs ls hP hPm hS hl)
      · exact lv_tableIn C.1 C.2.1 dL_law_33 (off := 145) (tgt := 178) (by decide) (by decide) (by decide) (by decide) (ll_uses C hk6 hR nx H locs ls hP hPm hS hl)
      · exact lv_tableIn C.1 C.2.1 dL_law_33 (off := 178) (tgt := 211) (by decide) (by decide) (by decide) (by decide) (ll_deed C hk6 hR nx H locs ls hP hPm hS hl)
      · exact lv_tableIn C.1 C.2.1 dL_law_33 (off := 221) (tgt := 254) (by decide) (by decide) (by decide) (by decide) (ll_constant C hk6 hR nx H locs ls hP hPm hS hl)
      · exact lv_tableIn C.1 C.2.1 dL_law_33 (off := 284) (tgt := 317) (by decide) (by decide) (by decide) (by decide) (ll_need C hk6 hR nx H locs ls hP hPm hS hl)
      · exact lv_tableIn C.1 C.2.1 dL_law_33 (off := 317) (tgt := 350) (by decide) (by decide) (by decide) (by decide) (ll_value C hk6 hR nx H locs ls hP hPm hS hl)
      · exact lv_tableIn C.1 C.2.1 dL_law_33 (off := 330) (tgt := 363) (by decide) (by decide) (by decide) (by decide) (ll_start C hk6 hR nx H locs ls hP hPm hS hl)
      · exact lv_tableIn C.1 C.2.1 dL_law_33 (off := 363) (tgt := 396) (by decide) (by decide) (by decide) (by decide) (ll_fault C hk6 hR nx H locs ls hP hPm hS hl)
      · exact lv_tableIn C.1 C.2.1 dL_law_33 (off := 386) (tgt := 419) (by decide) (by decide) (by decide) (by decide) (ll_state C hk6 hR nx H locs ls hP hPm hS hl)
      · exact lv_tableIn C.1 C.2.1 dL_law_33 (off := 419) (tgt := 452) (by decide) (by decide) (by decide) (by decide) (ll_kept C hk6 hR nx H locs ls hP hPm hS hl)
      · exact lv_tableIn C.1 C.2.1 dL_law_33 (off := 452) (tgt := 485) (by decide) (by decide) (by decide) (by decide) (ll_row C hk6 hR nx H locs ls hP hPm hS hl)
      · exact lv_tableIn C.1 C.2.1 dL_law_33 (off := 495) (tgt := 528) (by decide) (by decide) (by decide) (by decide) (ll_trace C hk6 hR nx H locs ls hP hPm hS hl)
      · exact lv_tableIn C.1 C.2.1 dL_law_33 (off := 528) (tgt := 561) (by decide) (by decide) (by decide) (by decide) (ll_forget C hk6 hR nx H locs ls hP hPm hS hl)
      · exact lv_tableIn C.1 C.2.1 dL_law_33 (off := 551) (tgt := 584) (by decide) (by decide) (by decide) (by decide) (ll_alike C hk6 hR nx H locs ls hP hPm hS hl)
      · exact lv_tableIn C.1 C.2.1 dL_law_33 (off := 574) (tgt := 607) (by decide) (by decide) (by decide) (by decide) (ll_told C hk6 hR nx H locs ls hP hPm hS hl)
end LOOP
theorem RR0 : RR (fun _ _ => 0) (fun _ _ => 0) := by
  have z : (0 : Int32) = nI 0 := nI_0.symm
  refine ⟨⟨0, 0, ⟨by decide, by decide, z, z, z, z⟩, fun m _ => ⟨0, by decide, z, z⟩, fun m i _ _ => rfl, fun m _ => ⟨0, by decide, z, z, fun j hj => by omega⟩, fun m _ => ⟨0, by decide, z, z, fun j hj => by omega⟩, fun c hc => by omega⟩, fun k hk => ⟨fun m _ => ⟨0, by decide, z, z, fun h => absurd rfl h⟩, fun c _ => Or.inl ⟨rfl, rfl⟩, fun m _ => (by decide : (0 : Int32) ≠ 2)⟩, ⟨⟨0, by decide, z, z, fun i hi => by omega⟩, 0, by decide, z⟩, ⟨rfl, ⟨0, by decide, z, z⟩, ⟨rfl, rfl, rfl, rfl⟩, by decide⟩, rfl⟩
theorem AO_1 : Cond.arrayOver (.array .int) ∈ lw_tbl := by decide +kernel
theorem AO_2 : Cond.arrayOver (.object "ConstantStarts$Loader") ∈ lw_tbl := by decide +kernel
theorem AO_3 : Cond.arrayOver (.object "ConstantStarts$Outcome") ∈ lw_tbl := by decide +kernel
theorem LS_nc : Cond.laysStatic "ConstantStarts" "NAMED_CONSTANTS" "[I" ∈ lw_tbl := by decide +kernel
theorem IS_0 : Cond.instantiable RX0 8 ∈ gtbl ∧ Cond.instantiable RX1 5 ∈ gtbl ∧ Cond.instantiable RX2 14 ∈ gtbl ∧ Cond.instantiable RX3 3 ∈ gtbl ∧ Cond.instantiable RX4 10 ∈ gtbl ∧ Cond.instantiable RX5 41 ∈ gtbl := ⟨by decide +kernel, by decide +kernel, by decide +kernel, by decide +kernel, by decide +kernel, by decide +kernel⟩
theorem NW_law_7 : Cond.classLink R_law 7 RX4 ∈ gtbl ∧ Cond.initialized RX4 ∈ gtbl ∧ Cond.methodLink R_law 9 yX4_init ∈ gtbl ∧ Cond.instanceMethod yX4_init ∈ gtbl := ⟨by decide +kernel, by decide +kernel, by decide +kernel, by decide +kernel⟩
theorem NW_law_10 : Cond.classLink R_law 10 RX5 ∈ gtbl ∧ Cond.initialized RX5 ∈ gtbl ∧ Cond.methodLink R_law 12 yX5_init ∈ gtbl ∧ Cond.instanceMethod yX5_init ∈ gtbl := ⟨by decide +kernel, by decide +kernel, by decide +kernel, by decide +kernel⟩
/-- what the tables say at the start: the classes -/
theorem st_K {s : State} {args : Array Value} (hts : ∀ w ∈ lw_tbl, w.before args s = true) : ∃ (D : va_G) (cI cII cLd cOc : ClassId), fg_K D cI cII cLd cOc s := by
  have htg : ∀ w ∈ gtbl, w.before args s = true := fun w hw => hts w (gtbl_sub hw)
  obtain ⟨i0, i1, i2, i3, i4, i5⟩ := IS_0
  obtain ⟨c0, j0, k0⟩ := u_known (C := RX0) (T := TX0) (N := 8) htg inG_X0 (htg _ i0)
  obtain ⟨c1, j1, k1⟩ := u_known (C := RX1) (T := TX1) (N := 5) htg inG_X1 (htg _ i1)
  obtain ⟨c2, j2, k2⟩ := u_known (C := RX2) (T := TX2) (N := 14) htg inG_X2 (htg _ i2)
  obtain ⟨c3, j3, k3⟩ := u_known (C := RX3) (T := TX3) (N := 3) htg inG_X3 (htg _ i3)
  obtain ⟨c4, j4, k4⟩ := u_known (C := RX4) (T := TX4) (N := 10) htg inG_X4 (htg _ i4)
  obtain ⟨c5, j5, k5⟩ := u_known (C := RX5) (T := TX5) (N := 41) htg inG_X5 (htg _ i5)
  obtain ⟨cI, kI, cc, a1, a2, a3⟩ := Cond.arrayClass_spec (htg _ AC_int)
  obtain ⟨cI2, cII, kII, b1, -, b2, b3, b4⟩ := arrayOverA_spec (hts _ AO_1)
  have eI : cI2 = cI := Option.some.inj (b1.symm.trans a1)
  subst eI
  obtain ⟨pL, cLd, kL, d1, -, d2, d3, d4⟩ := Cond.arrayOver_spec (hts _ AO_2)
  obtain ⟨pO, cOc, kO, e1, -, e2, e3, e4⟩ := Cond.arrayOver_spec (hts _ AO_3)
  refine ⟨(fun k => if k = 0 then c0 else if k = 1 then c1 else if k = 2 then c2 else if k = 3 then c3 else if k = 4 then c4 else c5, fun k => if k = 0 then j0 else if k = 1 then j1 else if k = 2 then j2 else if k = 3 then j3 else if k = 4 then j4 else j5), cI2, cII, cLd, cOc, ⟨?_, ?_⟩, ?_, va_AO.of (hts _ AO_2), va_AO.of (hts _ AO_3), kII, b2, b3⟩
  · intro k q hq
    match k, hq with
    | 0, hq => cases hq; exact k0
    | 1, hq => cases hq; exact k1
    | 2, hq => cases hq; exact k2
    | 3, hq => cases hq; exact k3
    | 4, hq => cases hq; exact k4
    | 5, hq => cases hq; exact k5
    | k + 6, hq => simp [vwCl] at hq
  · intro k q hq
    match k, hq with
    | 0, hq => cases hq; exact ⟨fun n z => ⟨fun k h => (by cases h), kI, a2, cc, a3⟩, a1⟩
    | 1, hq => cases hq; exact ⟨fun n z => ⟨fun k h => (by cases h), kII, b2, cI2, b3⟩, b4⟩
    | 2, hq => cases hq; exact ⟨fun n z => ⟨fun k h => (by cases h), kL, d2, pL, d3⟩, kL, pL, d2, d3, d1, d4⟩
    | 3, hq => cases hq; exact ⟨fun n z => ⟨fun k h => (by cases h), kO, e2, pO, e3⟩, kO, pO, e2, e3, e1, e4⟩
    | k + 4, hq => simp [fm_tys] at hq
  · intro w hw
    have hm := (List.mem_filter.mp hw).1
    have hn := (List.mem_filter.mp hw).2
    have hb := hts w hm
    cases w <;> first | (cases hn; done) | exact va_Nw.of rfl hb
/-- the table of the class -/
theorem st_T {s : State} {args : Array Value} (hts : ∀ w ∈ lw_tbl, w.before args s = true) (hgv : (Jvm.Cond.and given_1 narrow_1).before args s = true) : ∃ tA : Nat, va_Z "ConstantStarts" "NAMED_CONSTANTS" "[I" (.ref tA) (fun q => s.heap.size ≤ q) s s.heap ∧ va_T .int tA 12 (fun j => .int (([0, 1, 2, 2, 1, 1, 0, 3, 0, 0, 0, 1] : List Int32).getD j 0)) (fun q => s.heap.size ≤ q) s s.heap := by
  have hs := flat_of_before _ hgv
  have hel : ∀ j : Nat, j < 12 → (Term.elem (.static "ConstantStarts" "NAMED_CONSTANTS" "[I") (.int (Int32.ofNat j))).eval args s none [] s = some (.int (([0, 1, 2, 2, 1, 1, 0, 3, 0, 0, 0, 1] : List Int32).getD j 0)) := by
    intro j hj
    rcases (show j = 0 ∨ j = 1 ∨ j = 2 ∨ j = 3 ∨ j = 4 ∨ j = 5 ∨ j = 6 ∨ j = 7 ∨ j = 8 ∨ j = 9 ∨ j = 10 ∨ j = 11 by omega) with rfl | rfl | rfl | rfl | rfl | rfl | rfl | rfl | rfl | rfl | rfl | rfl
    · exact va_eqt (z := 0) (hs (.eq (.elem (.static "ConstantStarts" "NAMED_CONSTANTS" "[I") (.int 0)) (.int 0)) (by decide +kernel))
    · exact va_eqt (z := 1) (hs (.eq (.elem (.static "ConstantStarts" "NAMED_CONSTANTS" "[I") (.int 1)) (.int 1)) (by decide +kernel))
    · exact va_eqt (z := 2) (hs (.eq (.elem (.static "ConstantStarts" "NAMED_CONSTANTS" "[I") (.int 2)) (.int 2)) (by decide +kernel))
    · exact va_eqt (z := 2) (hs (.eq (.elem (.static "ConstantStarts" "NAMED_CONSTANTS" "[I") (.int 3)) (.int 2)) (by decide +kernel))
    · exact va_eqt (z := 1) (hs (.eq (.elem (.static "ConstantStarts" "NAMED_CONSTANTS" "[I") (.int 4)) (.int 1)) (by decide +kernel))
    · exact va_eqt (z := 1) (hs (.eq (.elem (.static "ConstantStarts" "NAMED_CONSTANTS" "[I") (.int 5)) (.int 1)) (by decide +kernel))
    · exact va_eqt (z := 0) (hs (.eq (.elem (.static "ConstantStarts" "NAMED_CONSTANTS" "[I") (.int 6)) (.int 0)) (by decide +kernel))
    · exact va_eqt (z := 3) (hs (.eq (.elem (.static "ConstantStarts" "NAMED_CONSTANTS" "[I") (.int 7)) (.int 3)) (by decide +kernel))
    · exact va_eqt (z := 0) (hs (.eq (.elem (.static "ConstantStarts" "NAMED_CONSTANTS" "[I") (.int 8)) (.int 0)) (by decide +kernel))
    · exact va_eqt (z := 0) (hs (.eq (.elem (.static "ConstantStarts" "NAMED_CONSTANTS" "[I") (.int 9)) (.int 0)) (by decide +kernel))
    · exact va_eqt (z := 0) (hs (.eq (.elem (.static "ConstantStarts" "NAMED_CONSTANTS" "[I") (.int 10)) (.int 0)) (by decide +kernel))
    · exact va_eqt (z := 1) (hs (.eq (.elem (.static "ConstantStarts" "NAMED_CONSTANTS" "[I") (.int 11)) (.int 1)) (by decide +kernel))
  obtain ⟨t, h1, h2⟩ := va_Tof (args := args) (s := s) (tm := .static "ConstantStarts" "NAMED_CONSTANTS" "[I") (ty := .int) (N := 12) (f := fun j => .int (([0, 1, 2, 2, 1, 1, 0, 3, 0, 0, 0, 1] : List Int32).getD j 0)) (A := fun q => s.heap.size ≤ q) (by decide) (hs (.arrayOf (.static "ConstantStarts" "NAMED_CONSTANTS" "[I") .int) (by decide +kernel)) (va_eqt (hs (.eq (.length (.static "ConstantStarts" "NAMED_CONSTANTS" "[I")) (.int 12)) (by decide +kernel))) hel (fun a ha q => by omega)
  exact ⟨t, va_Zref (hts _ LS_nc) (hts _ (gtbl_sub NW_law_7.2.1)) h1 (fun a ha q => by omega), h2⟩
