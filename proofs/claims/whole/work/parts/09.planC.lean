section
variable {l : Launch} {D : va_G} {tA b : Nat} {A : Nat → Prop} {cI cII cLd cOc : ClassId}
def f_X2_addModule (x1 : Int32) (v : fm_T) : Option (Int32 × fm_T) := (if x1 < 0 then some ((-1), v) else (if x1 ≤ 8 then (if v 1 0 < 12 then (if v 1 0 < 0 ∨ 12 ≤ (v 1 0).toNatClampNeg then none else ((some (fm_u v 2 ((v 1 0).toNatClampNeg) x1) : Option fm_T).bind fun m6 => ((some (fm_u m6 1 0 ((m6 1 0) + 1)) : Option fm_T).bind fun m8 => some (m6 1 0, m8)))) else some ((-2), v)) else some ((-1), v)))
set_option maxHeartbeats 4000000 in
set_option maxRecDepth 20000 in
theorem c_X2_addModule {x1 : Int32}  {v : fm_T} {q : Int32 × fm_T} (hf : f_X2_addModule x1 v = some q) : fm_M l D (fm_tys cI cII cLd cOc) tA b 305 (shC cI cII cLd cOc b) A yX2_addModule cX2_addModule 2 (some .int) 0 [.ref (b + 1), .int x1] v (some (.int q.1)) q.2 := by
  refine fm_entry (by decide) (Nat.le_of_ble_eq_true rfl) ?_
  intro p e R s m args below meth c C hr hk0 hF hLo
  unfold f_X2_addModule at hf
  show fm_V p l e R s m args below meth c D b 305 (shC cI cII cLd cOc b) A _ 2 0 [(0, .ref (b + 1)), (1, .int x1)] [] v
  refine fm_iload_n C dX2_addModule_0 rfl 1 rfl 1 rfl ?_
  refine fm_if_lt C 10 dX2_addModule_1 (by decide) (fun c1 => ?_) 4 rfl (fun c1 => ?_)
  · rw [if_pos c1] at hf
    refine fm_iconst C (x := -1) dX2_addModule_10 (by decide) 11 rfl ?_
    obtain rfl := Option.some.inj hf
    exact fm_iret C hr hk0 dX2_addModule_11
  · rw [if_neg c1] at hf
    refine fm_iload_n C dX2_addModule_4 rfl 1 rfl 5 rfl ?_
    refine fm_bipush C (x := 8) dX2_addModule_5 (by decide) 7 rfl ?_
    refine fm_icmp_le C 12 dX2_addModule_7 (by decide) (fun c2 => ?_) 10 rfl (fun c2 => ?_)
    · rw [if_pos c2] at hf
      refine fm_aload_n C dX2_addModule_12 rfl 0 rfl 13 rfl ?_
      refine fm_get C (t := 1) (by decide) (shC_1 _) rfl inG_X2 0 (by decide) F_X2_50 rfl dX2_addModule_13 16 rfl ?_
      refine fm_bipush C (x := 12) dX2_addModule_16 (by decide) 18 rfl ?_
      refine fm_icmp_lt C 24 dX2_addModule_18 (by decide) (fun c3 => ?_) 21 rfl (fun c3 => ?_)
      · rw [if_pos c3] at hf
        refine fm_aload_n C dX2_addModule_24 rfl 0 rfl 25 rfl ?_
        refine fm_get C (t := 1) (by decide) (shC_1 _) rfl inG_X2 1 (by decide) F_X2_9 rfl dX2_addModule_25 28 rfl ?_
        refine fm_aload_n C dX2_addModule_28 rfl 0 rfl 29 rfl ?_
        refine fm_get C (t := 1) (by decide) (shC_1 _) rfl inG_X2 0 (by decide) F_X2_50 rfl dX2_addModule_29 32 rfl ?_
        refine fm_iload_n C dX2_addModule_32 rfl 1 rfl 33 rfl ?_
        by_cases b4 : v 1 0 < 0 ∨ 12 ≤ (v 1 0).toNatClampNeg
        · rw [if_pos b4] at hf; cases hf
        rw [if_neg b4] at hf
        obtain ⟨m6, e5, hf⟩ := Option.bind_eq_some_iff.mp hf
        refine fm_iast C (t := 2) (t0 := 0) (by decide) shC_2 rfl b4 dX2_addModule_33 34 rfl m6 (Option.some.inj e5) ?_
        refine fm_aload_n C dX2_addModule_34 rfl 0 rfl 35 rfl ?_
        refine fm_dup C dX2_addModule_35 rfl 36 rfl ?_
        refine fm_get C (t := 1) (by decide) (shC_1 _) rfl inG_X2 0 (by decide) F_X2_50 rfl dX2_addModule_36 39 rfl ?_
        refine fm_dup_x1 C dX2_addModule_39 rfl rfl 40 rfl ?_
        refine fm_iconst C (x := 1) dX2_addModule_40 (by decide) 41 rfl ?_
        refine fm_iadd C dX2_addModule_41 42 rfl ?_
        obtain ⟨m8, e7, hf⟩ := Option.bind_eq_some_iff.mp hf
        refine fm_put C (t := 1) (by decide) (shC_1 _) rfl inG_X2 0 (by decide) F_X2_50 tyX2 tyX2_ok nmX2 rfl (ty := .int) (by decide +kernel) rfl rfl (Nat.le_of_ble_eq_true rfl) ((shC_1 _).trans rfl) dX2_addModule_42 45 rfl m8 (Option.some.inj e7) ?_
        obtain rfl := Option.some.inj hf
        exact fm_iret C hr hk0 dX2_addModule_45
      · rw [if_neg c3] at hf
        refine fm_bipush C (x := -2) dX2_addModule_21 (by decide) 23 rfl ?_
        obtain rfl := Option.some.inj hf
        exact fm_iret C hr hk0 dX2_addModule_23
    · rw [if_neg c2] at hf
      refine fm_iconst C (x := -1) dX2_addModule_10 (by decide) 11 rfl ?_
      obtain rfl := Option.some.inj hf
      exact fm_iret C hr hk0 dX2_addModule_11
def f_X2_setItem (x1 : Int32) (x2 : Int32) (x3 : Int32) (v : fm_T) : Option (Int32 × fm_T) := ((f_X2_hasItem x1 x2 v).bind fun q2 => (if q2.1 = 0 then some ((-1), q2.2) else (if x1 < 0 ∨ 12 ≤ x1.toNatClampNeg then none else (if x2 < 0 ∨ 8 ≤ x2.toNatClampNeg then none else ((some (fm_u q2.2 (4 + x1.toNatClampNeg) x2.toNatClampNeg x3) : Option fm_T).bind fun m7 => some (1, m7))))))
set_option maxHeartbeats 4000000 in
set_option maxRecDepth 20000 in
theorem c_X2_setItem {x1 : Int32} {x2 : Int32} {x3 : Int32}  {v : fm_T} {q : Int32 × fm_T} (hf : f_X2_setItem x1 x2 x3 v = some q) : fm_M l D (fm_tys cI cII cLd cOc) tA b 305 (shC cI cII cLd cOc b) A yX2_setItem cX2_setItem 4 (some .int) 2 [.ref (b + 1), .int x1, .int x2, .int x3] v (some (.int q.1)) q.2 := by
  refine fm_entry (by decide) (Nat.le_of_ble_eq_true rfl) ?_
  intro p e R s m args below meth c C hr hk0 hF hLo
  unfold f_X2_setItem at hf
  show fm_V p l e R s m args below meth c D b 305 (shC cI cII cLd cOc b) A _ 4 0 [(0, .ref (b + 1)), (1, .int x1), (2, .int x2), (3, .int x3)] [] v
  refine fm_aload_n C dX2_setItem_0 rfl 0 rfl 1 rfl ?_
  refine fm_iload_n C dX2_setItem_1 rfl 1 rfl 2 rfl ?_
  refine fm_iload_n C dX2_setItem_2 rfl 2 rfl 3 rfl ?_
  obtain ⟨q2, h1, hf⟩ := Option.bind_eq_some_iff.mp hf
  refine fm_callV C Y_X2_hasItem (t := 1) (by decide) (shC_1 _) rfl LM_X2_61 (As := [.int x1, .int x2]) (rest := []) (c_X2_hasItem  h1) (by omega) (by omega) rfl (Nat.le_of_ble_eq_true rfl) dX2_setItem_3 6 rfl [.int q2.1] rfl ?_
  refine fm_if_ne C 11 dX2_setItem_6 (by decide) (fun c3 => ?_) 9 rfl (fun c3 => ?_)
  · rw [if_neg c3] at hf
    refine fm_aload_n C dX2_setItem_11 rfl 0 rfl 12 rfl ?_
    refine fm_get C (t := 1) (by decide) (shC_1 _) rfl inG_X2 2 (by decide) F_X2_17 rfl dX2_setItem_12 15 rfl ?_
    refine fm_iload_n C dX2_setItem_15 rfl 1 rfl 16 rfl ?_
    by_cases b4 : x1 < 0 ∨ 12 ≤ x1.toNatClampNeg
    · rw [if_pos b4] at hf; cases hf
    rw [if_neg b4] at hf
    refine fm_aald C (t := 3) (t0 := 1) (by decide) (shC_3 _) rfl rfl b4 (x := b + (4 + x1.toNatClampNeg)) (in_some (g := fun i => b + (4 + i)) b4) dX2_setItem_16 17 rfl ?_
    refine fm_iload_n C dX2_setItem_17 rfl 2 rfl 18 rfl ?_
    refine fm_iload_n C dX2_setItem_18 rfl 3 rfl 19 rfl ?_
    by_cases b5 : x2 < 0 ∨ 8 ≤ x2.toNatClampNeg
    · rw [if_pos b5] at hf; cases hf
    rw [if_neg b5] at hf
    obtain ⟨m7, e6, hf⟩ := Option.bind_eq_some_iff.mp hf
    refine fm_iast C (t := 4 + x1.toNatClampNeg) (t0 := 0) (by have := in_lt b4; omega) (shC_r4 (in_lt b4)) rfl b5 dX2_setItem_19 20 rfl m7 (Option.some.inj e6) ?_
    refine fm_iconst C (x := 1) dX2_setItem_20 (by decide) 21 rfl ?_
    obtain rfl := Option.some.inj hf
    exact fm_iret C hr hk0 dX2_setItem_21
  · rw [if_pos c3] at hf
    refine fm_iconst C (x := -1) dX2_setItem_9 (by decide) 10 rfl ?_
    obtain rfl := Option.some.inj hf
    exact fm_iret C hr hk0 dX2_setItem_10
def f_X2_addUsed (x1 : Int32) (x2 : Int32) (v : fm_T) : Option (Int32 × fm_T) := ((f_X2_hasModule x1 v).bind fun q2 => (if q2.1 = 0 then some ((-1), q2.2) else ((f_X2_hasModule x2 q2.2).bind fun q5 => (if q5.1 = 0 then some ((-1), q5.2) else (if x1 < 0 ∨ 12 ≤ x1.toNatClampNeg then none else (if q5.2 16 x1.toNatClampNeg < 6 then (if q5.2 16 x1.toNatClampNeg < 0 ∨ 6 ≤ (q5.2 16 x1.toNatClampNeg).toNatClampNeg then none else ((some (fm_u q5.2 (18 + x1.toNatClampNeg) ((q5.2 16 x1.toNatClampNeg).toNatClampNeg) x2) : Option fm_T).bind fun m11 => ((some (fm_u m11 16 x1.toNatClampNeg ((m11 16 x1.toNatClampNeg) + 1)) : Option fm_T).bind fun m13 => some (m13 16 x1.toNatClampNeg, m13)))) else some ((-2), q5.2)))))))
set_option maxHeartbeats 4000000 in
set_option maxRecDepth 20000 in
theorem c_X2_addUsed {x1 : Int32} {x2 : Int32}  {v : fm_T} {q : Int32 × fm_T} (hf : f_X2_addUsed x1 x2 v = some q) : fm_M l D (fm_tys cI cII cLd cOc) tA b 305 (shC cI cII cLd cOc b) A yX2_addUsed cX2_addUsed 3 (some .int) 1 [.ref (b + 1), .int x1, .int x2] v (some (.int q.1)) q.2 := by
  refine fm_entry (by decide) (Nat.le_of_ble_eq_true rfl) ?_
  intro p e R s m args below meth c C hr hk0 hF hLo
  unfold f_X2_addUsed at hf
  show fm_V p l e R s m args below meth c D b 305 (shC cI cII cLd cOc b) A _ 3 0 [(0, .ref (b + 1)), (1, .int x1), (2, .int x2)] [] v
  refine fm_aload_n C dX2_addUsed_0 rfl 0 rfl 1 rfl ?_
  refine fm_iload_n C dX2_addUsed_1 rfl 1 rfl 2 rfl ?_
  obtain ⟨q2, h1, hf⟩ := Option.bind_eq_some_iff.mp hf
  refine fm_callV C Y_X2_hasModule (t := 1) (by decide) (shC_1 _) rfl LM_X2_54 (As := [.int x1]) (rest := []) (c_X2_hasModule  h1) (by omega) (by omega) rfl (Nat.le_of_ble_eq_true rfl) dX2_addUsed_2 5 rfl [.int q2.1] rfl ?_
  refine fm_if_eq C 16 dX2_addUsed_5 (by decide) (fun c3 => ?_) 8 rfl (fun c3 => ?_)
  · rw [if_pos c3] at hf
    refine fm_iconst C (x := -1) dX2_addUsed_16 (by decide) 17 rfl ?_
    obtain rfl := Option.some.inj hf
    exact fm_iret C hr hk0 dX2_addUsed_17
  · rw [if_neg c3] at hf
    refine fm_aload_n C dX2_addUsed_8 rfl 0 rfl 9 rfl ?_
    refine fm_iload_n C dX2_addUsed_9 rfl 2 rfl 10 rfl ?_
    obtain ⟨q5, h4, hf⟩ := Option.bind_eq_some_iff.mp hf
    refine fm_callV C Y_X2_hasModule (t := 1) (by decide) (shC_1 _) rfl LM_X2_54 (As := [.int x2]) (rest := []) (c_X2_hasModule  h4) (by omega) (by omega) rfl (Nat.le_of_ble_eq_true rfl) dX2_addUsed_10 13 rfl [.int q5.1] rfl ?_
    refine fm_if_ne C 18 dX2_addUsed_13 (by decide) (fun c6 => ?_) 16 rfl (fun c6 => ?_)
    · rw [if_neg c6] at hf
      refine fm_aload_n C dX2_addUsed_18 rfl 0 rfl 19 rfl ?_
      refine fm_get C (t := 1) (by decide) (shC_1 _) rfl inG_X2 3 (by decide) F_X2_20 rfl dX2_addUsed_19 22 rfl ?_
      refine fm_iload_n C dX2_addUsed_22 rfl 1 rfl 23 rfl ?_
      by_cases b7 : x1 < 0 ∨ 12 ≤ x1.toNatClampNeg
      · rw [if_pos b7] at hf; cases hf
      rw [if_neg b7] at hf
      refine fm_iald C (t := 16) (t0 := 0) (by decide) (shC_16 _) rfl b7 dX2_addUsed_23 24 rfl ?_
      refine fm_bipush C (x := 6) dX2_addUsed_24 (by decide) 26 rfl ?_
      refine fm_icmp_lt C 32 dX2_addUsed_26 (by decide) (fun c8 => ?_) 29 rfl (fun c8 => ?_)
      · rw [if_pos c8] at hf
        refine fm_aload_n C dX2_addUsed_32 rfl 0 rfl 33 rfl ?_
        refine fm_get C (t := 1) (by decide) (shC_1 _) rfl inG_X2 4 (by decide) F_X2_23 rfl dX2_addUsed_33 36 rfl ?_
        refine fm_iload_n C dX2_addUsed_36 rfl 1 rfl 37 rfl ?_
        refine fm_aald C (t := 17) (t0 := 1) (by decide) (shC_17 _) rfl rfl b7 (x := b + (18 + x1.toNatClampNeg)) (in_some (g := fun i => b + (18 + i)) b7) dX2_addUsed_37 38 rfl ?_
        refine fm_aload_n C dX2_addUsed_38 rfl 0 rfl 39 rfl ?_
        refine fm_get C (t := 1) (by decide) (shC_1 _) rfl inG_X2 3 (by decide) F_X2_20 rfl dX2_addUsed_39 42 rfl ?_
        refine fm_iload_n C dX2_addUsed_42 rfl 1 rfl 43 rfl ?_
        refine fm_iald C (t := 16) (t0 := 0) (by decide) (shC_16 _) rfl b7 dX2_addUsed_43 44 rfl ?_
        refine fm_iload_n C dX2_addUsed_44 rfl 2 rfl 45 rfl ?_
        by_cases b9 : q5.2 16 x1.toNatClampNeg < 0 ∨ 6 ≤ (q5.2 16 x1.toNatClampNeg).toNatClampNeg
        · rw [if_pos b9] at hf; cases hf
        rw [if_neg b9] at hf
        obtain ⟨m11, e10, hf⟩ := Option.bind_eq_some_iff.mp hf
        refine fm_iast C (t := 18 + x1.toNatClampNeg) (t0 := 0) (by have := in_lt b7; omega) (shC_r18 (in_lt b7)) rfl b9 dX2_addUsed_45 46 rfl m11 (Option.some.inj e10) ?_
        refine fm_aload_n C dX2_addUsed_46 rfl 0 rfl 47 rfl ?_
        refine fm_get C (t := 1) (by decide) (shC_1 _) rfl inG_X2 3 (by decide) F_X2_20 rfl dX2_addUsed_47 50 rfl ?_
        refine fm_iload_n C dX2_addUsed_50 rfl 1 rfl 51 rfl ?_
        refine fm_dup2 C dX2_addUsed_51 rfl rfl 52 rfl ?_
        refine fm_iald C (t := 16) (t0 := 0) (by decide) (shC_16 _) rfl b7 dX2_addUsed_52 53 rfl ?_
        refine fm_iconst C (x := 1) dX2_addUsed_53 (by decide) 54 rfl ?_
        refine fm_iadd C dX2_addUsed_54 55 rfl ?_
        obtain ⟨m13, e12, hf⟩ := Option.bind_eq_some_iff.mp hf
        refine fm_iast C (t := 16) (t0 := 0) (by decide) shC_16 rfl b7 dX2_addUsed_55 56 rfl m13 (Option.some.inj e12) ?_
        refine fm_aload_n C dX2_addUsed_56 rfl 0 rfl 57 rfl ?_
        refine fm_get C (t := 1) (by decide) (shC_1 _) rfl inG_X2 3 (by decide) F_X2_20 rfl dX2_addUsed_57 60 rfl ?_
        refine fm_iload_n C dX2_addUsed_60 rfl 1 rfl 61 rfl ?_
        refine fm_iald C (t := 16) (t0 := 0) (by decide) (shC_16 _) rfl b7 dX2_addUsed_61 62 rfl ?_
        obtain rfl := Option.some.inj hf
        exact fm_iret C hr hk0 dX2_addUsed_62
      · rw [if_neg c8] at hf
        refine fm_bipush C (x := -2) dX2_addUsed_29 (by decide) 31 rfl ?_
        obtain rfl := Option.some.inj hf
        exact fm_iret C hr hk0 dX2_addUsed_31
    · rw [if_pos c6] at hf
      refine fm_iconst C (x := -1) dX2_addUsed_16 (by decide) 17 rfl ?_
      obtain rfl := Option.some.inj hf
      exact fm_iret C hr hk0 dX2_addUsed_17
def f_X2_isDeed (x1 : Int32) (x2 : Int32) (v : fm_T) : Option (Int32 × fm_T) := (if x1 = 0 then ((f_X2_mayBeConstant x2 v).bind fun q3 => (if q3.1 = 0 ∨ q3.1 = 1 then some (q3.1, q3.2) else none)) else (if x1 = 1 then ((f_X2_hasModule x2 v).bind fun q7 => (if q7.1 = 0 ∨ q7.1 = 1 then some (q7.1, q7.2) else none)) else (if x1 = 2 then some (1, v) else some (0, v))))
set_option maxHeartbeats 4000000 in
set_option maxRecDepth 20000 in
theorem c_X2_isDeed {x1 : Int32} {x2 : Int32}  {v : fm_T} {q : Int32 × fm_T} (hf : f_X2_isDeed x1 x2 v = some q) : fm_M l D (fm_tys cI cII cLd cOc) tA b 305 (shC cI cII cLd cOc b) A yX2_isDeed cX2_isDeed 3 (some .boolean) 1 [.ref (b + 1), .int x1, .int x2] v (some (.int q.1)) q.2 := by
  refine fm_entry (by decide) (Nat.le_of_ble_eq_true rfl) ?_
  intro p e R s m args below meth c C hr hk0 hF hLo
  unfold f_X2_isDeed at hf
  show fm_V p l e R s m args below meth c D b 305 (shC cI cII cLd cOc b) A _ 3 0 [(0, .ref (b + 1)), (1, .int x1), (2, .int x2)] [] v
  refine fm_iload_n C dX2_isDeed_0 rfl 1 rfl 1 rfl ?_
  by_cases w1 : x1 = 0
  · rw [if_pos w1] at hf
    refine fm_lookup C (off := 27) 28 dX2_isDeed_1 (by decide) (by rw [w1] <;> rfl) (by decide) ?_
    refine fm_aload_n C dX2_isDeed_28 rfl 0 rfl 29 rfl ?_
    refine fm_iload_n C dX2_isDeed_29 rfl 2 rfl 30 rfl ?_
    obtain ⟨q3, h2, hf⟩ := Option.bind_eq_some_iff.mp hf
    refine fm_callV C Y_X2_mayBeConstant (t := 1) (by decide) (shC_1 _) rfl LM_X2_68 (As := [.int x2]) (rest := []) (c_X2_mayBeConstant  h2) (by omega) (by omega) rfl (Nat.le_of_ble_eq_true rfl) dX2_isDeed_30 33 rfl [.int q3.1] rfl ?_
    by_cases r4 : q3.1 = 0 ∨ q3.1 = 1
    · rw [if_pos r4] at hf
      obtain rfl := Option.some.inj hf
      exact fm_zret C hr hk0 r4 dX2_isDeed_33
    · rw [if_neg r4] at hf; cases hf
  rw [if_neg w1] at hf
  by_cases w5 : x1 = 1
  · rw [if_pos w5] at hf
    refine fm_lookup C (off := 33) 34 dX2_isDeed_1 (by decide) (by rw [w5] <;> rfl) (by decide) ?_
    refine fm_aload_n C dX2_isDeed_34 rfl 0 rfl 35 rfl ?_
    refine fm_iload_n C dX2_isDeed_35 rfl 2 rfl 36 rfl ?_
    obtain ⟨q7, h6, hf⟩ := Option.bind_eq_some_iff.mp hf
    refine fm_callV C Y_X2_hasModule (t := 1) (by decide) (shC_1 _) rfl LM_X2_54 (As := [.int x2]) (rest := []) (c_X2_hasModule  h6) (by omega) (by omega) rfl (Nat.le_of_ble_eq_true rfl) dX2_isDeed_36 39 rfl [.int q7.1] rfl ?_
    by_cases r8 : q7.1 = 0 ∨ q7.1 = 1
    · rw [if_pos r8] at hf
      obtain rfl := Option.some.inj hf
      exact fm_zret C hr hk0 r8 dX2_isDeed_39
    · rw [if_neg r8] at hf; cases hf
  rw [if_neg w5] at hf
  refine fm_lookup C (off := 39) 40 dX2_isDeed_1 (by decide) (by rw [lv_osw (k := 0) w1 (by decide), lv_osw (k := 1) w5 (by decide)] <;> rfl) (by decide) ?_
  refine fm_iload_n C dX2_isDeed_40 rfl 1 rfl 41 rfl ?_
  refine fm_iconst C (x := 2) dX2_isDeed_41 (by decide) 42 rfl ?_
  refine fm_icmp_ne C 49 dX2_isDeed_42 (by decide) (fun c9 => ?_) 45 rfl (fun c9 => ?_)
  · rw [if_neg c9] at hf
    refine fm_iconst C (x := 0) dX2_isDeed_49 (by decide) 50 rfl ?_
    obtain rfl := Option.some.inj hf
    exact fm_zret C hr hk0 (Or.inl rfl) dX2_isDeed_50
  · rw [if_pos c9] at hf
    refine fm_iconst C (x := 1) dX2_isDeed_45 (by decide) 46 rfl ?_
    refine fm_goto C 50 dX2_isDeed_46 (by decide) ?_
    obtain rfl := Option.some.inj hf
    exact fm_zret C hr hk0 (Or.inr rfl) dX2_isDeed_50
def f_X2_addDeed (x1 : Int32) (x2 : Int32) (x3 : Int32) (v : fm_T) : Option (Int32 × fm_T) := ((f_X2_hasModule x1 v).bind fun q2 => (if q2.1 = 0 then some ((-1), q2.2) else ((f_X2_isDeed x2 x3 q2.2).bind fun q5 => (if q5.1 = 0 then some ((-1), q5.2) else (if x1 < 0 ∨ 12 ≤ x1.toNatClampNeg then none else (if q5.2 30 x1.toNatClampNeg < 6 then (if q5.2 30 x1.toNatClampNeg < 0 ∨ 6 ≤ (q5.2 30 x1.toNatClampNeg).toNatClampNeg then none else ((some (fm_u q5.2 (32 + x1.toNatClampNeg) ((q5.2 30 x1.toNatClampNeg).toNatClampNeg) x2) : Option fm_T).bind fun m11 => ((some (fm_u m11 (45 + x1.toNatClampNeg) ((q5.2 30 x1.toNatClampNeg).toNatClampNeg) x3) : Option fm_T).bind fun m13 => ((some (fm_u m13 30 x1.toNatClampNeg ((q5.2 30 x1.toNatClampNeg) + 1)) : Option fm_T).bind fun m15 => some ((q5.2 30 x1.toNatClampNeg) + 1, m15))))) else some ((-2), q5.2)))))))
set_option maxHeartbeats 4000000 in
set_option maxRecDepth 20000 in
theorem c_X2_addDeed {x1 : Int32} {x2 : Int32} {x3 : Int32}  {v : fm_T} {q : Int32 × fm_T} (hf : f_X2_addDeed x1 x2 x3 v = some q) : fm_M l D (fm_tys cI cII cLd cOc) tA b 305 (shC cI cII cLd cOc b) A yX2_addDeed cX2_addDeed 5 (some .int) 2 [.ref (b + 1), .int x1, .int x2, .int x3] v (some (.int q.1)) q.2 := by
  refine fm_entry (by decide) (Nat.le_of_ble_eq_true rfl) ?_
  intro p e R s m args below meth c C hr hk0 hF hLo
  unfold f_X2_addDeed at hf
  show fm_V p l e R s m args below meth c D b 305 (shC cI cII cLd cOc b) A _ 5 0 [(0, .ref (b + 1)), (1, .int x1), (2, .int x2), (3, .int x3)] [] v
  refine fm_aload_n C dX2_addDeed_0 rfl 0 rfl 1 rfl ?_
  refine fm_iload_n C dX2_addDeed_1 rfl 1 rfl 2 rfl ?_
  obtain ⟨q2, h1, hf⟩ := Option.bind_eq_some_iff.mp hf
  refine fm_callV C Y_X2_hasModule (t := 1) (by decide) (shC_1 _) rfl LM_X2_54 (As := [.int x1]) (rest := []) (c_X2_hasModule  h1) (by omega) (by omega) rfl (Nat.le_of_ble_eq_true rfl) dX2_addDeed_2 5 rfl [.int q2.1] rfl ?_
  refine fm_if_eq C 17 dX2_addDeed_5 (by decide) (fun c3 => ?_) 8 rfl (fun c3 => ?_)
  · rw [if_pos c3] at hf
    refine fm_iconst C (x := -1) dX2_addDeed_17 (by decide) 18 rfl ?_
    obtain rfl := Option.some.inj hf
    exact fm_iret C hr hk0 dX2_addDeed_18
  · rw [if_neg c3] at hf
    refine fm_aload_n C dX2_addDeed_8 rfl 0 rfl 9 rfl ?_
    refine fm_iload_n C dX2_addDeed_9 rfl 2 rfl 10 rfl ?_
    refine fm_iload_n C dX2_addDeed_10 rfl 3 rfl 11 rfl ?_
    obtain ⟨q5, h4, hf⟩ := Option.bind_eq_some_iff.mp hf
    refine fm_callV C Y_X2_isDeed (t := 1) (by decide) (shC_1 _) rfl LM_X2_65 (As := [.int x2, .int x3]) (rest := []) (c_X2_isDeed  h4) (by omega) (by omega) rfl (Nat.le_of_ble_eq_true rfl) dX2_addDeed_11 14 rfl [.int q5.1] rfl ?_
    refine fm_if_ne C 19 dX2_addDeed_14 (by decide) (fun c6 => ?_) 17 rfl (fun c6 => ?_)
    · rw [if_neg c6] at hf
      refine fm_aload_n C dX2_addDeed_19 rfl 0 rfl 20 rfl ?_
      refine fm_get C (t := 1) (by decide) (shC_1 _) rfl inG_X2 5 (by decide) F_X2_26 rfl dX2_addDeed_20 23 rfl ?_
      refine fm_iload_n C dX2_addDeed_23 rfl 1 rfl 24 rfl ?_
      by_cases b7 : x1 < 0 ∨ 12 ≤ x1.toNatClampNeg
      · rw [if_pos b7] at hf; cases hf
      rw [if_neg b7] at hf
      refine fm_iald C (t := 30) (t0 := 0) (by decide) (shC_30 _) rfl b7 dX2_addDeed_24 25 rfl ?_
      refine fm_istore C [(4, .int (q5.2 30 x1.toNatClampNeg)), (0, .ref (b + 1)), (1, .int x1), (2, .int x2), (3, .int x3)] dX2_addDeed_25 (by decide) rfl 27 rfl ?_
      refine fm_iload C dX2_addDeed_27 0 rfl 29 rfl ?_
      refine fm_bipush C (x := 6) dX2_addDeed_29 (by decide) 31 rfl ?_
      refine fm_icmp_lt C 37 dX2_addDeed_31 (by decide) (fun c8 => ?_) 34 rfl (fun c8 => ?_)
      · rw [if_pos c8] at hf
        refine fm_aload_n C dX2_addDeed_37 rfl 1 rfl 38 rfl ?_
        refine fm_get C (t := 1) (by decide) (shC_1 _) rfl inG_X2 6 (by decide) F_X2_29 rfl dX2_addDeed_38 41 rfl ?_
        refine fm_iload_n C dX2_addDeed_41 rfl 2 rfl 42 rfl ?_
        refine fm_aald C (t := 31) (t0 := 1) (by decide) (shC_31 _) rfl rfl b7 (x := b + (32 + x1.toNatClampNeg)) (in_some (g := fun i => b + (32 + i)) b7) dX2_addDeed_42 43 rfl ?_
        refine fm_iload C dX2_addDeed_43 0 rfl 45 rfl ?_
        refine fm_iload_n C dX2_addDeed_45 rfl 3 rfl 46 rfl ?_
        by_cases b9 : q5.2 30 x1.toNatClampNeg < 0 ∨ 6 ≤ (q5.2 30 x1.toNatClampNeg).toNatClampNeg
        · rw [if_pos b9] at hf; cases hf
        rw [if_neg b9] at hf
        obtain ⟨m11, e10, hf⟩ := Option.bind_eq_some_iff.mp hf
        refine fm_iast C (t := 32 + x1.toNatClampNeg) (t0 := 0) (by have := in_lt b7; omega) (shC_r32 (in_lt b7)) rfl b9 dX2_addDeed_46 47 rfl m11 (Option.some.inj e10) ?_
        refine fm_aload_n C dX2_addDeed_47 rfl 1 rfl 48 rfl ?_
        refine fm_get C (t := 1) (by decide) (shC_1 _) rfl inG_X2 7 (by decide) F_X2_32 rfl dX2_addDeed_48 51 rfl ?_
        refine fm_iload_n C dX2_addDeed_51 rfl 2 rfl 52 rfl ?_
        refine fm_aald C (t := 44) (t0 := 1) (by decide) (shC_44 _) rfl rfl b7 (x := b + (45 + x1.toNatClampNeg)) (in_some (g := fun i => b + (45 + i)) b7) dX2_addDeed_52 53 rfl ?_
        refine fm_iload C dX2_addDeed_53 0 rfl 55 rfl ?_
        refine fm_iload_n C dX2_addDeed_55 rfl 4 rfl 56 rfl ?_
        obtain ⟨m13, e12, hf⟩ := Option.bind_eq_some_iff.mp hf
        refine fm_iast C (t := 45 + x1.toNatClampNeg) (t0 := 0) (by have := in_lt b7; omega) (shC_r45 (in_lt b7)) rfl b9 dX2_addDeed_56 57 rfl m13 (Option.some.inj e12) ?_
        refine fm_aload_n C dX2_addDeed_57 rfl 1 rfl 58 rfl ?_
        refine fm_get C (t := 1) (by decide) (shC_1 _) rfl inG_X2 5 (by decide) F_X2_26 rfl dX2_addDeed_58 61 rfl ?_
        refine fm_iload_n C dX2_addDeed_61 rfl 2 rfl 62 rfl ?_
        refine fm_iload C dX2_addDeed_62 0 rfl 64 rfl ?_
        refine fm_iconst C (x := 1) dX2_addDeed_64 (by decide) 65 rfl ?_
        refine fm_iadd C dX2_addDeed_65 66 rfl ?_
        obtain ⟨m15, e14, hf⟩ := Option.bind_eq_some_iff.mp hf
        refine fm_iast C (t := 30) (t0 := 0) (by decide) shC_30 rfl b7 dX2_addDeed_66 67 rfl m15 (Option.some.inj e14) ?_
        refine fm_iload C dX2_addDeed_67 0 rfl 69 rfl ?_
        refine fm_iconst C (x := 1) dX2_addDeed_69 (by decide) 70 rfl ?_
        refine fm_iadd C dX2_addDeed_70 71 rfl ?_
        obtain rfl := Option.some.inj hf
        exact fm_iret C hr hk0 dX2_addDeed_71
      · rw [if_neg c8] at hf
        refine fm_bipush C (x := -2) dX2_addDeed_34 (by decide) 36 rfl ?_
        obtain rfl := Option.some.inj hf
        exact fm_iret C hr hk0 dX2_addDeed_36
    · rw [if_pos c6] at hf
      refine fm_iconst C (x := -1) dX2_addDeed_17 (by decide) 18 rfl ?_
      obtain rfl := Option.some.inj hf
      exact fm_iret C hr hk0 dX2_addDeed_18
def f_X2_isFormula (x1 : Int32) (x2 : Int32) (x3 : Int32) (x4 : Int32) (v : fm_T) : Option (Int32 × fm_T) := (if x1 < 0 then some (0, v) else (if x1 < 12 then (if x1 = 8 then ((f_X2_hasModule x2 v).bind fun q5 => (if q5.1 = 0 ∨ q5.1 = 1 then some (q5.1, q5.2) else none)) else (if x1 = 9 then ((f_X2_hasModule x2 v).bind fun q9 => (if q9.1 = 0 ∨ q9.1 = 1 then some (q9.1, q9.2) else none)) else (if x1 = 10 then ((f_X2_hasModule x2 v).bind fun q42 => (if q42.1 = 0 ∨ q42.1 = 1 then some (q42.1, q42.2) else none)) else (if x1 < 0 ∨ 12 ≤ x1.toNatClampNeg then none else (if ([0, 1, 2, 2, 1, 1, 0, 3, 0, 0, 0, 1] : List Int32).getD x1.toNatClampNeg 0 < 1 then (if ([0, 1, 2, 2, 1, 1, 0, 3, 0, 0, 0, 1] : List Int32).getD x1.toNatClampNeg 0 < 2 then (if ([0, 1, 2, 2, 1, 1, 0, 3, 0, 0, 0, 1] : List Int32).getD x1.toNatClampNeg 0 < 3 then some (1, v) else ((f_X2_mayBeConstant x4 v).bind fun q17 => (if q17.1 = 0 then some (0, q17.2) else some (1, q17.2)))) else ((f_X2_mayBeConstant x3 v).bind fun q20 => (if q20.1 = 0 then some (0, q20.2) else (if ([0, 1, 2, 2, 1, 1, 0, 3, 0, 0, 0, 1] : List Int32).getD x1.toNatClampNeg 0 < 3 then some (1, q20.2) else ((f_X2_mayBeConstant x4 q20.2).bind fun q24 => (if q24.1 = 0 then some (0, q24.2) else some (1, q24.2))))))) else ((f_X2_mayBeConstant x2 v).bind fun q27 => (if q27.1 = 0 then some (0, q27.2) else (if ([0, 1, 2, 2, 1, 1, 0, 3, 0, 0, 0, 1] : List Int32).getD x1.toNatClampNeg 0 < 2 then (if ([0, 1, 2, 2, 1, 1, 0, 3, 0, 0, 0, 1] : List Int32).getD x1.toNatClampNeg 0 < 3 then some (1, q27.2) else ((f_X2_mayBeConstant x4 q27.2).bind fun q32 => (if q32.1 = 0 then some (0, q32.2) else some (1, q32.2)))) else ((f_X2_mayBeConstant x3 q27.2).bind fun q35 => (if q35.1 = 0 then some (0, q35.2) else (if ([0, 1, 2, 2, 1, 1, 0, 3, 0, 0, 0, 1] : List Int32).getD x1.toNatClampNeg 0 < 3 then some (1, q35.2) else ((f_X2_mayBeConstant x4 q35.2).bind fun q39 => (if q39.1 = 0 then some (0, q39.2) else some (1, q39.2)))))))))))))) else some (0, v)))
set_option maxHeartbeats 4000000 in
set_option maxRecDepth 20000 in
theorem c_X2_isFormula {x1 : Int32} {x2 : Int32} {x3 : Int32} {x4 : Int32}  {v : fm_T} {q : Int32 × fm_T} (hf : f_X2_isFormula x1 x2 x3 x4 v = some q) : fm_M l D (fm_tys cI cII cLd cOc) tA b 305 (shC cI cII cLd cOc b) A yX2_isFormula cX2_isFormula 6 (some .boolean) 1 [.ref (b + 1), .int x1, .int x2, .int x3, .int x4] v (some (.int q.1)) q.2 := by
  refine fm_entry (by decide) (Nat.le_of_ble_eq_true rfl) ?_
  intro p e R s m args below meth c C hr hk0 hF hLo
  unfold f_X2_isFormula at hf
  show fm_V p l e R s m args below meth c D b 305 (shC cI cII cLd cOc b) A _ 6 0 [(0, .ref (b + 1)), (1, .int x1), (2, .int x2), (3, .int x3), (4, .int x4)] [] v
  refine fm_iload_n C dX2_isFormula_0 rfl 1 rfl 1 rfl ?_
  refine fm_if_lt C 12 dX2_isFormula_1 (by decide) (fun c1 => ?_) 4 rfl (fun c1 => ?_)
  · rw [if_pos c1] at hf
    refine fm_iconst C (x := 0) dX2_isFormula_12 (by decide) 13 rfl ?_
    obtain rfl := Option.some.inj hf
    exact fm_zret C hr hk0 (Or.inl rfl) dX2_isFormula_13
  · rw [if_neg c1] at hf
    refine fm_iload_n C dX2_isFormula_4 rfl 1 rfl 5 rfl ?_
    refine fm_gets C FN_X2_75 dX2_isFormula_5 8 rfl ?_
    refine fm_tlen C dX2_isFormula_8 9 rfl ?_
    refine fm_icmp_lt C 14 dX2_isFormula_9 (by decide) (fun c2 => ?_) 12 rfl (fun c2 => ?_)
    · rw [if_pos c2] at hf
      refine fm_iload_n C dX2_isFormula_14 rfl 1 rfl 15 rfl ?_
      refine fm_bipush C (x := 8) dX2_isFormula_15 (by decide) 17 rfl ?_
      refine fm_icmp_eq C 32 dX2_isFormula_17 (by decide) (fun c3 => ?_) 20 rfl (fun c3 => ?_)
      · rw [if_pos c3] at hf
        refine fm_aload_n C dX2_isFormula_32 rfl 0 rfl 33 rfl ?_
        refine fm_iload_n C dX2_isFormula_33 rfl 2 rfl 34 rfl ?_
        obtain ⟨q5, h4, hf⟩ := Option.bind_eq_some_iff.mp hf
        refine fm_callV C Y_X2_hasModule (t := 1) (by decide) (shC_1 _) rfl LM_X2_54 (As := [.int x2]) (rest := []) (c_X2_hasModule  h4) (by omega) (by omega) rfl (Nat.le_of_ble_eq_true rfl) dX2_isFormula_34 37 rfl [.int q5.1] rfl ?_
        by_cases r6 : q5.1 = 0 ∨ q5.1 = 1
        · rw [if_pos r6] at hf
          obtain rfl := Option.some.inj hf
          exact fm_zret C hr hk0 r6 dX2_isFormula_37
        · rw [if_neg r6] at hf; cases hf
      · rw [if_neg c3] at hf
        refine fm_iload_n C dX2_isFormula_20 rfl 1 rfl 21 rfl ?_
        refine fm_bipush C (x := 9) dX2_isFormula_21 (by decide) 23 rfl ?_
        refine fm_icmp_eq C 32 dX2_isFormula_23 (by decide) (fun c7 => ?_) 26 rfl (fun c7 => ?_)
        · rw [if_pos c7] at hf
          refine fm_aload_n C dX2_isFormula_32 rfl 0 rfl 33 rfl ?_
          refine fm_iload_n C dX2_isFormula_33 rfl 2 rfl 34 rfl ?_
          obtain ⟨q9, h8, hf⟩ := Option.bind_eq_some_iff.mp hf
          refine fm_callV C Y_X2_hasModule (t := 1) (by decide) (shC_1 _) rfl LM_X2_54 (As := [.int x2]) (rest := []) (c_X2_hasModule  h8) (by omega) (by omega) rfl (Nat.le_of_ble_eq_true rfl) dX2_isFormula_34 37 rfl [.int q9.1] rfl ?_
          by_cases r10 : q9.1 = 0 ∨ q9.1 = 1
          · rw [if_pos r10] at hf
            obtain rfl := Option.some.inj hf
            exact fm_zret C hr hk0 r10 dX2_isFormula_37
          · rw [if_neg r10] at hf; cases hf
        · rw [if_neg c7] at hf
          refine fm_iload_n C dX2_isFormula_26 rfl 1 rfl 27 rfl ?_
          refine fm_bipush C (x := 10) dX2_isFormula_27 (by decide) 29 rfl ?_
          refine fm_icmp_ne C 38 dX2_isFormula_29 (by decide) (fun c11 => ?_) 32 rfl (fun c11 => ?_)
          · rw [if_neg c11] at hf
            refine fm_gets C FN_X2_75 dX2_isFormula_38 41 rfl ?_
            refine fm_iload_n C dX2_isFormula_41 rfl 1 rfl 42 rfl ?_
            by_cases b12 : x1 < 0 ∨ 12 ≤ x1.toNatClampNeg
            · rw [if_pos b12] at hf; cases hf
            rw [if_neg b12] at hf
            refine fm_ti C b12 dX2_isFormula_42 43 rfl ?_
            refine fm_istore C [(5, .int (([0, 1, 2, 2, 1, 1, 0, 3, 0, 0, 0, 1] : List Int32).getD x1.toNatClampNeg 0)), (0, .ref (b + 1)), (1, .int x1), (2, .int x2), (3, .int x3), (4, .int x4)] dX2_isFormula_43 (by decide) rfl 45 rfl ?_
            refine fm_iload C dX2_isFormula_45 0 rfl 47 rfl ?_
            refine fm_iconst C (x := 1) dX2_isFormula_47 (by decide) 48 rfl ?_
            refine fm_icmp_lt C 59 dX2_isFormula_48 (by decide) (fun c13 => ?_) 51 rfl (fun c13 => ?_)
            · rw [if_pos c13] at hf
              refine fm_iload C dX2_isFormula_59 0 rfl 61 rfl ?_
              refine fm_iconst C (x := 2) dX2_isFormula_61 (by decide) 62 rfl ?_
              refine fm_icmp_lt C 73 dX2_isFormula_62 (by decide) (fun c14 => ?_) 65 rfl (fun c14 => ?_)
              · rw [if_pos c14] at hf
                refine fm_iload C dX2_isFormula_73 0 rfl 75 rfl ?_
                refine fm_iconst C (x := 3) dX2_isFormula_75 (by decide) 76 rfl ?_
                refine fm_icmp_lt C 88 dX2_isFormula_76 (by decide) (fun c15 => ?_) 79 rfl (fun c15 => ?_)
                · rw [if_pos c15] at hf
                  refine fm_iconst C (x := 1) dX2_isFormula_88 (by decide) 89 rfl ?_
                  refine fm_goto C 93 dX2_isFormula_89 (by decide) ?_
                  obtain rfl := Option.some.inj hf
                  exact fm_zret C hr hk0 (Or.inr rfl) dX2_isFormula_93
                · rw [if_neg c15] at hf
                  refine fm_aload_n C dX2_isFormula_79 rfl 1 rfl 80 rfl ?_
                  refine fm_iload C dX2_isFormula_80 5 rfl 82 rfl ?_
                  obtain ⟨q17, h16, hf⟩ := Option.bind_eq_some_iff.mp hf
                  refine fm_callV C Y_X2_mayBeConstant (t := 1) (by decide) (shC_1 _) rfl LM_X2_68 (As := [.int x4]) (rest := []) (c_X2_mayBeConstant  h16) (by omega) (by omega) rfl (Nat.le_of_ble_eq_true rfl) dX2_isFormula_82 85 rfl [.int q17.1] rfl ?_
                  refine fm_if_eq C 92 dX2_isFormula_85 (by decide) (fun c18 => ?_) 88 rfl (fun c18 => ?_)
                  · rw [if_pos c18] at hf
                    refine fm_iconst C (x := 0) dX2_isFormula_92 (by decide) 93 rfl ?_
                    obtain rfl := Option.some.inj hf
                    exact fm_zret C hr hk0 (Or.inl rfl) dX2_isFormula_93
                  · rw [if_neg c18] at hf
                    refine fm_iconst C (x := 1) dX2_isFormula_88 (by decide) 89 rfl ?_
                    refine fm_goto C 93 dX2_isFormula_89 (by decide) ?_
                    obtain rfl := Option.some.inj hf
                    exact fm_zret C hr hk0 (Or.inr rfl) dX2_isFormula_93
              · rw [if_neg c14] at hf
                refine fm_aload_n C dX2_isFormula_65 rfl 1 rfl 66 rfl ?_
                refine fm_iload_n C dX2_isFormula_66 rfl 4 rfl 67 rfl ?_
                obtain ⟨q20, h19, hf⟩ := Option.bind_eq_some_iff.mp hf
                refine fm_callV C Y_X2_mayBeConstant (t := 1) (by decide) (shC_1 _) rfl LM_X2_68 (As := [.int x3]) (rest := []) (c_X2_mayBeConstant  h19) (by omega) (by omega) rfl (Nat.le_of_ble_eq_true rfl) dX2_isFormula_67 70 rfl [.int q20.1] rfl ?_
                refine fm_if_eq C 92 dX2_isFormula_70 (by decide) (fun c21 => ?_) 73 rfl (fun c21 => ?_)
                · rw [if_pos c21] at hf
                  refine fm_iconst C (x := 0) dX2_isFormula_92 (by decide) 93 rfl ?_
                  obtain rfl := Option.some.inj hf
                  exact fm_zret C hr hk0 (Or.inl rfl) dX2_isFormula_93
                · rw [if_neg c21] at hf
                  refine fm_iload C dX2_isFormula_73 0 rfl 75 rfl ?_
                  refine fm_iconst C (x := 3) dX2_isFormula_75 (by decide) 76 rfl ?_
                  refine fm_icmp_lt C 88 dX2_isFormula_76 (by decide) (fun c22 => ?_) 79 rfl (fun c22 => ?_)
                  · rw [if_pos c22] at hf
                    refine fm_iconst C (x := 1) dX2_isFormula_88 (by decide) 89 rfl ?_
                    refine fm_goto C 93 dX2_isFormula_89 (by decide) ?_
                    obtain rfl := Option.some.inj hf
                    exact fm_zret C hr hk0 (Or.inr rfl) dX2_isFormula_93
                  · rw [if_neg c22] at hf
                    refine fm_aload_n C dX2_isFormula_79 rfl 1 rfl 80 rfl ?_
                    refine fm_iload C dX2_isFormula_80 5 rfl 82 rfl ?_
                    obtain ⟨q24, h23, hf⟩ := Option.bind_eq_some_iff.mp hf
                    refine fm_callV C Y_X2_mayBeConstant (t := 1) (by decide) (shC_1 _) rfl LM_X2_68 (As := [.int x4]) (rest := []) (c_X2_mayBeConstant  h23) (by omega) (by omega) rfl (Nat.le_of_ble_eq_true rfl) dX2_isFormula_82 85 rfl [.int q24.1] rfl ?_
                    refine fm_if_eq C 92 dX2_isFormula_85 (by decide) (fun c25 => ?_) 88 rfl (fun c25 => ?_)
                    · rw [if_pos c25] at hf
                      refine fm_iconst C (x := 0) dX2_isFormula_92 (by decide) 93 rfl ?_
                      obtain rfl := Option.some.inj hf
                      exact fm_zret C hr hk0 (Or.inl rfl) dX2_isFormula_93
                    · rw [if_neg c25] at hf
                      refine fm_iconst C (x := 1) dX2_isFormula_88 (by decide) 89 rfl ?_
                      refine fm_goto C 93 dX2_isFormula_89 (by decide) ?_
                      obtain rfl := Option.some.inj hf
                      exact fm_zret C hr hk0 (Or.inr rfl) dX2_isFormula_93
            · rw [if_neg c13] at hf
              refine fm_aload_n C dX2_isFormula_51 rfl 1 rfl 52 rfl ?_
              refine fm_iload_n C dX2_isFormula_52 rfl 3 rfl 53 rfl ?_
              obtain ⟨q27, h26, hf⟩ := Option.bind_eq_some_iff.mp hf
              refine fm_callV C Y_X2_mayBeConstant (t := 1) (by decide) (shC_1 _) rfl LM_X2_68 (As := [.int x2]) (rest := []) (c_X2_mayBeConstant  h26) (by omega) (by omega) rfl (Nat.le_of_ble_eq_true rfl) dX2_isFormula_53 56 rfl [.int q27.1] rfl ?_
              refine fm_if_eq C 92 dX2_isFormula_56 (by decide) (fun c28 => ?_) 59 rfl (fun c28 => ?_)
              · rw [if_pos c28] at hf
                refine fm_iconst C (x := 0) dX2_isFormula_92 (by decide) 93 rfl ?_
                obtain rfl := Option.some.inj hf
                exact fm_zret C hr hk0 (Or.inl rfl) dX2_isFormula_93
              · rw [if_neg c28] at hf
                refine fm_iload C dX2_isFormula_59 0 rfl 61 rfl ?_
                refine fm_iconst C (x := 2) dX2_isFormula_61 (by decide) 62 rfl ?_
                refine fm_icmp_lt C 73 dX2_isFormula_62 (by decide) (fun c29 => ?_) 65 rfl (fun c29 => ?_)
                · rw [if_pos c29] at hf
                  refine fm_iload C dX2_isFormula_73 0 rfl 75 rfl ?_
                  refine fm_iconst C (x := 3) dX2_isFormula_75 (by decide) 76 rfl ?_
                  refine fm_icmp_lt C 88 dX2_isFormula_76 (by decide) (fun c30 => ?_) 79 rfl (fun c30 => ?_)
                  · rw [if_pos c30] at hf
                    refine fm_iconst C (x := 1) dX2_isFormula_88 (by decide) 89 rfl ?_
                    refine fm_goto C 93 dX2_isFormula_89 (by decide) ?_
                    obtain rfl := Option.some.inj hf
                    exact fm_zret C hr hk0 (Or.inr rfl) dX2_isFormula_93
                  · rw [if_neg c30] at hf
                    refine fm_aload_n C dX2_isFormula_79 rfl 1 rfl 80 rfl ?_
                    refine fm_iload C dX2_isFormula_80 5 rfl 82 rfl ?_
                    obtain ⟨q32, h31, hf⟩ := Option.bind_eq_some_iff.mp hf
                    refine fm_callV C Y_X2_mayBeConstant (t := 1) (by decide) (shC_1 _) rfl LM_X2_68 (As := [.int x4]) (rest := []) (c_X2_mayBeConstant  h31) (by omega) (by omega) rfl (Nat.le_of_ble_eq_true rfl) dX2_isFormula_82 85 rfl [.int q32.1] rfl ?_
                    refine fm_if_eq C 92 dX2_isFormula_85 (by decide) (fun c33 => ?_) 88 rfl (fun c33 => ?_)
                    · rw [if_pos c33] at hf
                      refine fm_iconst C (x := 0) dX2_isFormula_92 (by decide) 93 rfl ?_
                      obtain rfl := Option.some.inj hf
                      exact fm_zret C hr hk0 (Or.inl rfl) dX2_isFormula_93
                    · rw [if_neg c33] at hf
                      refine fm_iconst C (x := 1) dX2_isFormula_88 (by decide) 89 rfl ?_
                      refine fm_goto C 93 dX2_isFormula_89 (by decide) ?_
                      obtain rfl := Option.some.inj hf
                      exact fm_zret C hr hk0 (Or.inr rfl) dX2_isFormula_93
                · rw [if_neg c29] at hf
                  refine fm_aload_n C dX2_isFormula_65 rfl 1 rfl 66 rfl ?_
                  refine fm_iload_n C dX2_isFormula_66 rfl 4 rfl 67 rfl ?_
                  obtain ⟨q35, h34, hf⟩ := Option.bind_eq_some_iff.mp hf
                  refine fm_callV C Y_X2_mayBeConstant (t := 1) (by decide) (shC_1 _) rfl LM_X2_68 (As := [.int x3]) (rest := []) (c_X2_mayBeConstant  h34) (by omega) (by omega) rfl (Nat.le_of_ble_eq_true rfl) dX2_isFormula_67 70 rfl [.int q35.1] rfl ?_
                  refine fm_if_eq C 92 dX2_isFormula_70 (by decide) (fun c36 => ?_) 73 rfl (fun c36 => ?_)
                  · rw [if_pos c36] at hf
                    refine fm_iconst C (x := 0) dX2_isFormula_92 (by decide) 93 rfl ?_
                    obtain rfl := Option.some.inj hf
                    exact fm_zret C hr hk0 (Or.inl rfl) dX2_isFormula_93
                  · rw [if_neg c36] at hf
                    refine fm_iload C dX2_isFormula_73 0 rfl 75 rfl ?_
                    refine fm_iconst C (x := 3) dX2_isFormula_75 (by decide) 76 rfl ?_
                    refine fm_icmp_lt C 88 dX2_isFormula_76 (by decide) (fun c37 => ?_) 79 rfl (fun c37 => ?_)
                    · rw [if_pos c37] at hf
                      refine fm_iconst C (x := 1) dX2_isFormula_88 (by decide) 89 rfl ?_
                      refine fm_goto C 93 dX2_isFormula_89 (by decide) ?_
                      obtain rfl := Option.some.inj hf
                      exact fm_zret C hr hk0 (Or.inr rfl) dX2_isFormula_93
                    · rw [if_neg c37] at hf
                      refine fm_aload_n C dX2_isFormula_79 rfl 1 rfl 80 rfl ?_
                      refine fm_iload C dX2_isFormula_80 5 rfl 82 rfl ?_
                      obtain ⟨q39, h38, hf⟩ := Option.bind_eq_some_iff.mp hf
                      refine fm_callV C Y_X2_mayBeConstant (t := 1) (by decide) (shC_1 _) rfl LM_X2_68 (As := [.int x4]) (rest := []) (c_X2_mayBeConstant  h38) (by omega) (by omega) rfl (Nat.le_of_ble_eq_true rfl) dX2_isFormula_82 85 rfl [.int q39.1] rfl ?_
                      refine fm_if_eq C 92 dX2_isFormula_85 (by decide) (fun c40 => ?_) 88 rfl (fun c40 => ?_)
                      · rw [if_pos c40] at hf
                        refine fm_iconst C (x := 0) dX2_isFormula_92 (by decide) 93 rfl ?_
                        obtain rfl := Option.some.inj hf
                        exact fm_zret C hr hk0 (Or.inl rfl) dX2_isFormula_93
                      · rw [if_neg c40] at hf
                        refine fm_iconst C (x := 1) dX2_isFormula_88 (by decide) 89 rfl ?_
                        refine fm_goto C 93 dX2_isFormula_89 (by decide) ?_
                        obtain rfl := Option.some.inj hf
                        exact fm_zret C hr hk0 (Or.inr rfl) dX2_isFormula_93
          · rw [if_pos c11] at hf
            refine fm_aload_n C dX2_isFormula_32 rfl 0 rfl 33 rfl ?_
            refine fm_iload_n C dX2_isFormula_33 rfl 2 rfl 34 rfl ?_
            obtain ⟨q42, h41, hf⟩ := Option.bind_eq_some_iff.mp hf
            refine fm_callV C Y_X2_hasModule (t := 1) (by decide) (shC_1 _) rfl LM_X2_54 (As := [.int x2]) (rest := []) (c_X2_hasModule  h41) (by omega) (by omega) rfl (Nat.le_of_ble_eq_true rfl) dX2_isFormula_34 37 rfl [.int q42.1] rfl ?_
            by_cases r43 : q42.1 = 0 ∨ q42.1 = 1
            · rw [if_pos r43] at hf
              obtain rfl := Option.some.inj hf
              exact fm_zret C hr hk0 r43 dX2_isFormula_37
            · rw [if_neg r43] at hf; cases hf
    · rw [if_neg c2] at hf
      refine fm_iconst C (x := 0) dX2_isFormula_12 (by decide) 13 rfl ?_
      obtain rfl := Option.some.inj hf
      exact fm_zret C hr hk0 (Or.inl rfl) dX2_isFormula_13
def f_X2_addConstant (x1 : Int32) (x2 : Int32) (x3 : Int32) (x4 : Int32) (x5 : Int32) (v : fm_T) : Option (Int32 × fm_T) := ((f_X2_hasModule x1 v).bind fun q2 => (if q2.1 = 0 then some ((-1), q2.2) else ((f_X2_isFormula x2 x3 x4 x5 q2.2).bind fun q5 => (if q5.1 = 0 then some ((-1), q5.2) else (if q5.2 1 8 < 40 then (if q5.2 1 8 < 0 ∨ 40 ≤ (q5.2 1 8).toNatClampNeg then none else ((some (fm_u q5.2 57 ((q5.2 1 8).toNatClampNeg) x1) : Option fm_T).bind fun m10 => (if m10 1 8 < 0 ∨ 40 ≤ (m10 1 8).toNatClampNeg then none else ((some (fm_u m10 58 ((m10 1 8).toNatClampNeg) x2) : Option fm_T).bind fun m13 => (if m13 1 8 < 0 ∨ 40 ≤ (m13 1 8).toNatClampNeg then none else ((some (fm_u m13 59 ((m13 1 8).toNatClampNeg) x3) : Option fm_T).bind fun m16 => (if m16 1 8 < 0 ∨ 40 ≤ (m16 1 8).toNatClampNeg then none else ((some (fm_u m16 60 ((m16 1 8).toNatClampNeg) x4) : Option fm_T).bind fun m19 => (if m19 1 8 < 0 ∨ 40 ≤ (m19 1 8).toNatClampNeg then none else ((some (fm_u m19 61 ((m19 1 8).toNatClampNeg) x5) : Option fm_T).bind fun m22 => ((some (fm_u m22 1 8 ((m22 1 8) + 1)) : Option fm_T).bind fun m24 => some (m22 1 8, m24)))))))))))) else some ((-2), q5.2))))))
set_option maxHeartbeats 4000000 in
set_option maxRecDepth 20000 in
theorem c_X2_addConstant {x1 : Int32} {x2 : Int32} {x3 : Int32} {x4 : Int32} {x5 : Int32}  {v : fm_T} {q : Int32 × fm_T} (hf : f_X2_addConstant x1 x2 x3 x4 x5 v = some q) : fm_M l D (fm_tys cI cII cLd cOc) tA b 305 (shC cI cII cLd cOc b) A yX2_addConstant cX2_addConstant 6 (some .int) 2 [.ref (b + 1), .int x1, .int x2, .int x3, .int x4, .int x5] v (some (.int q.1)) q.2 := by
  refine fm_entry (by decide) (Nat.le_of_ble_eq_true rfl) ?_
  intro p e R s m args below meth c C hr hk0 hF hLo
  unfold f_X2_addConstant at hf
  show fm_V p l e R s m args below meth c D b 305 (shC cI cII cLd cOc b) A _ 6 0 [(0, .ref (b + 1)), (1, .int x1), (2, .int x2), (3, .int x3), (4, .int x4), (5, .int x5)] [] v
  refine fm_aload_n C dX2_addConstant_0 rfl 0 rfl 1 rfl ?_
  refine fm_iload_n C dX2_addConstant_1 rfl 1 rfl 2 rfl ?_
  obtain ⟨q2, h1, hf⟩ := Option.bind_eq_some_iff.mp hf
  refine fm_callV C Y_X2_hasModule (t := 1) (by decide) (shC_1 _) rfl LM_X2_54 (As := [.int x1]) (rest := []) (c_X2_hasModule  h1) (by omega) (by omega) rfl (Nat.le_of_ble_eq_true rfl) dX2_addConstant_2 5 rfl [.int q2.1] rfl ?_
  refine fm_if_eq C 21 dX2_addConstant_5 (by decide) (fun c3 => ?_) 8 rfl (fun c3 => ?_)
  · rw [if_pos c3] at hf
    refine fm_iconst C (x := -1) dX2_addConstant_21 (by decide) 22 rfl ?_
    obtain rfl := Option.some.inj hf
    exact fm_iret C hr hk0 dX2_addConstant_22
  · rw [if_neg c3] at hf
    refine fm_aload_n C dX2_addConstant_8 rfl 0 rfl 9 rfl ?_
    refine fm_iload_n C dX2_addConstant_9 rfl 2 rfl 10 rfl ?_
    refine fm_iload_n C dX2_addConstant_10 rfl 3 rfl 11 rfl ?_
    refine fm_iload C dX2_addConstant_11 4 rfl 13 rfl ?_
    refine fm_iload C dX2_addConstant_13 5 rfl 15 rfl ?_
    obtain ⟨q5, h4, hf⟩ := Option.bind_eq_some_iff.mp hf
    refine fm_callV C Y_X2_isFormula (t := 1) (by decide) (shC_1 _) rfl LM_X2_71 (As := [.int x2, .int x3, .int x4, .int x5]) (rest := []) (c_X2_isFormula  h4) (by omega) (by omega) rfl (Nat.le_of_ble_eq_true rfl) dX2_addConstant_15 18 rfl [.int q5.1] rfl ?_
    refine fm_if_ne C 23 dX2_addConstant_18 (by decide) (fun c6 => ?_) 21 rfl (fun c6 => ?_)
    · rw [if_neg c6] at hf
      refine fm_aload_n C dX2_addConstant_23 rfl 0 rfl 24 rfl ?_
      refine fm_get C (t := 1) (by decide) (shC_1 _) rfl inG_X2 8 (by decide) F_X2_58 rfl dX2_addConstant_24 27 rfl ?_
      refine fm_bipush C (x := 40) dX2_addConstant_27 (by decide) 29 rfl ?_
      refine fm_icmp_lt C 35 dX2_addConstant_29 (by decide) (fun c7 => ?_) 32 rfl (fun c7 => ?_)
      · rw [if_pos c7] at hf
        refine fm_aload_n C dX2_addConstant_35 rfl 0 rfl 36 rfl ?_
        refine fm_get C (t := 1) (by decide) (shC_1 _) rfl inG_X2 9 (by decide) F_X2_35 rfl dX2_addConstant_36 39 rfl ?_
        refine fm_aload_n C dX2_addConstant_39 rfl 0 rfl 40 rfl ?_
        refine fm_get C (t := 1) (by decide) (shC_1 _) rfl inG_X2 8 (by decide) F_X2_58 rfl dX2_addConstant_40 43 rfl ?_
        refine fm_iload_n C dX2_addConstant_43 rfl 1 rfl 44 rfl ?_
        by_cases b8 : q5.2 1 8 < 0 ∨ 40 ≤ (q5.2 1 8).toNatClampNeg
        · rw [if_pos b8] at hf; cases hf
        rw [if_neg b8] at hf
        obtain ⟨m10, e9, hf⟩ := Option.bind_eq_some_iff.mp hf
        refine fm_iast C (t := 57) (t0 := 0) (by decide) shC_57 rfl b8 dX2_addConstant_44 45 rfl m10 (Option.some.inj e9) ?_
        refine fm_aload_n C dX2_addConstant_45 rfl 0 rfl 46 rfl ?_
        refine fm_get C (t := 1) (by decide) (shC_1 _) rfl inG_X2 10 (by decide) F_X2_38 rfl dX2_addConstant_46 49 rfl ?_
        refine fm_aload_n C dX2_addConstant_49 rfl 0 rfl 50 rfl ?_
        refine fm_get C (t := 1) (by decide) (shC_1 _) rfl inG_X2 8 (by decide) F_X2_58 rfl dX2_addConstant_50 53 rfl ?_
        refine fm_iload_n C dX2_addConstant_53 rfl 2 rfl 54 rfl ?_
        by_cases b11 : m10 1 8 < 0 ∨ 40 ≤ (m10 1 8).toNatClampNeg
        · rw [if_pos b11] at hf; cases hf
        rw [if_neg b11] at hf
        obtain ⟨m13, e12, hf⟩ := Option.bind_eq_some_iff.mp hf
        refine fm_iast C (t := 58) (t0 := 0) (by decide) shC_58 rfl b11 dX2_addConstant_54 55 rfl m13 (Option.some.inj e12) ?_
        refine fm_aload_n C dX2_addConstant_55 rfl 0 rfl 56 rfl ?_
        refine fm_get C (t := 1) (by decide) (shC_1 _) rfl inG_X2 11 (by decide) F_X2_41 rfl dX2_addConstant_56 59 rfl ?_
        refine fm_aload_n C dX2_addConstant_59 rfl 0 rfl 60 rfl ?_
        refine fm_get C (t := 1) (by decide) (shC_1 _) rfl inG_X2 8 (by decide) F_X2_58 rfl dX2_addConstant_60 63 rfl ?_
        refine fm_iload_n C dX2_addConstant_63 rfl 3 rfl 64 rfl ?_
        by_cases b14 : m13 1 8 < 0 ∨ 40 ≤ (m13 1 8).toNatClampNeg
        · rw [if_pos b14] at hf; cases hf
        rw [if_neg b14] at hf
        obtain ⟨m16, e15, hf⟩ := Option.bind_eq_some_iff.mp hf
        refine fm_iast C (t := 59) (t0 := 0) (by decide) shC_59 rfl b14 dX2_addConstant_64 65 rfl m16 (Option.some.inj e15) ?_
        refine fm_aload_n C dX2_addConstant_65 rfl 0 rfl 66 rfl ?_
        refine fm_get C (t := 1) (by decide) (shC_1 _) rfl inG_X2 12 (by decide) F_X2_44 rfl dX2_addConstant_66 69 rfl ?_
        refine fm_aload_n C dX2_addConstant_69 rfl 0 rfl 70 rfl ?_
        refine fm_get C (t := 1) (by decide) (shC_1 _) rfl inG_X2 8 (by decide) F_X2_58 rfl dX2_addConstant_70 73 rfl ?_
        refine fm_iload C dX2_addConstant_73 4 rfl 75 rfl ?_
        by_cases b17 : m16 1 8 < 0 ∨ 40 ≤ (m16 1 8).toNatClampNeg
        · rw [if_pos b17] at hf; cases hf
        rw [if_neg b17] at hf
        obtain ⟨m19, e18, hf⟩ := Option.bind_eq_some_iff.mp hf
        refine fm_iast C (t := 60) (t0 := 0) (by decide) shC_60 rfl b17 dX2_addConstant_75 76 rfl m19 (Option.some.inj e18) ?_
        refine fm_aload_n C dX2_addConstant_76 rfl 0 rfl 77 rfl ?_
        refine fm_get C (t := 1) (by decide) (shC_1 _) rfl inG_X2 13 (by decide) F_X2_47 rfl dX2_addConstant_77 80 rfl ?_
        refine fm_aload_n C dX2_addConstant_80 rfl 0 rfl 81 rfl ?_
        refine fm_get C (t := 1) (by decide) (shC_1 _) rfl inG_X2 8 (by decide) F_X2_58 rfl dX2_addConstant_81 84 rfl ?_
        refine fm_iload C dX2_addConstant_84 5 rfl 86 rfl ?_
        by_cases b20 : m19 1 8 < 0 ∨ 40 ≤ (m19 1 8).toNatClampNeg
        · rw [if_pos b20] at hf; cases hf
        rw [if_neg b20] at hf
        obtain ⟨m22, e21, hf⟩ := Option.bind_eq_some_iff.mp hf
        refine fm_iast C (t := 61) (t0 := 0) (by decide) shC_61 rfl b20 dX2_addConstant_86 87 rfl m22 (Option.some.inj e21) ?_
        refine fm_aload_n C dX2_addConstant_87 rfl 0 rfl 88 rfl ?_
        refine fm_dup C dX2_addConstant_88 rfl 89 rfl ?_
        refine fm_get C (t := 1) (by decide) (shC_1 _) rfl inG_X2 8 (by decide) F_X2_58 rfl dX2_addConstant_89 92 rfl ?_
        refine fm_dup_x1 C dX2_addConstant_92 rfl rfl 93 rfl ?_
        refine fm_iconst C (x := 1) dX2_addConstant_93 (by decide) 94 rfl ?_
        refine fm_iadd C dX2_addConstant_94 95 rfl ?_
        obtain ⟨m24, e23, hf⟩ := Option.bind_eq_some_iff.mp hf
        refine fm_put C (t := 1) (by decide) (shC_1 _) rfl inG_X2 8 (by decide) F_X2_58 tyX2 tyX2_ok nmX2 rfl (ty := .int) (by decide +kernel) rfl rfl (Nat.le_of_ble_eq_true rfl) ((shC_1 _).trans rfl) dX2_addConstant_95 98 rfl m24 (Option.some.inj e23) ?_
        obtain rfl := Option.some.inj hf
        exact fm_iret C hr hk0 dX2_addConstant_98
      · rw [if_neg c7] at hf
        refine fm_bipush C (x := -2) dX2_addConstant_32 (by decide) 34 rfl ?_
        obtain rfl := Option.some.inj hf
        exact fm_iret C hr hk0 dX2_addConstant_34
    · rw [if_pos c6] at hf
      refine fm_iconst C (x := -1) dX2_addConstant_21 (by decide) 22 rfl ?_
      obtain rfl := Option.some.inj hf
      exact fm_iret C hr hk0 dX2_addConstant_22
def f_X2_countConstants_4 : Nat → Int32 → Int32 → Int32 → fm_T → Option (Int32 × fm_T)
  | 0 => fun _ _ _ _ => none
  | n + 1 => fun x1 x2 x3 v => (if v 1 8 ≤ x3 then some (x2, v) else (if x3 < 0 ∨ 40 ≤ x3.toNatClampNeg then none else (if v 57 x3.toNatClampNeg = x1 then f_X2_countConstants_4 n x1 (x2 + 1) (x3 + 1) v else f_X2_countConstants_4 n x1 x2 (x3 + 1) v)))
theorem f_X2_countConstants_4_s (n : Nat)  (x1 : Int32) (x2 : Int32) (x3 : Int32) (v : fm_T) : f_X2_countConstants_4 (n + 1) x1 x2 x3 v = (if v 1 8 ≤ x3 then some (x2, v) else (if x3 < 0 ∨ 40 ≤ x3.toNatClampNeg then none else (if v 57 x3.toNatClampNeg = x1 then f_X2_countConstants_4 n x1 (x2 + 1) (x3 + 1) v else f_X2_countConstants_4 n x1 x2 (x3 + 1) v))) := rfl
set_option maxHeartbeats 4000000 in
set_option maxRecDepth 20000 in
theorem b_X2_countConstants_4   {p : Program} {e : Env} {R : Room} {s : State} {m : MethodId} {args : Array Value} {below : List Frame} {meth : Method} {c : Code} (C : fm_C p s m args c cX2_countConstants RX2 4 D (fm_tys cI cII cLd cOc) tA b 305 A) (hr : meth.sig.returnType = (some .int)) (hk0 : meth.locks = false) (hF : 0 ≤ R.frames) (hLo : 40 * 0 ≤ R.locals) : ∀ (n : Nat) (x1 : Int32) (x2 : Int32) (x3 : Int32) (v : fm_T) {q : Int32 × fm_T}, f_X2_countConstants_4 n x1 x2 x3 v = some q → fm_V p l e R s m args below meth c D b 305 (shC cI cII cLd cOc b) A (MQ below (fm_Q D b 305 (shC cI cII cLd cOc b) A (some (.int q.1)) q.2) args s 0 0 A) 4 4 [(0, .ref (b + 1)), (1, .int x1), (2, .int x2), (3, .int x3)] [] v := by
  intro n
  induction n with
  | zero =>
    intro x1 x2 x3 v q hf
    cases (show (none : Option (Int32 × fm_T)) = some q from hf)
  | succ n ih =>
    intro x1 x2 x3 v q hf
    rw [f_X2_countConstants_4_s] at hf
    refine fm_iload_n C dX2_countConstants_4 rfl 3 rfl 5 rfl ?_
    refine fm_aload_n C dX2_countConstants_5 rfl 0 rfl 6 rfl ?_
    refine fm_get C (t := 1) (by decide) (shC_1 _) rfl inG_X2 8 (by decide) F_X2_58 rfl dX2_countConstants_6 9 rfl ?_
    refine fm_icmp_ge C 31 dX2_countConstants_9 (by decide) (fun c1 => ?_) 12 rfl (fun c1 => ?_)
    · rw [if_pos c1] at hf
      refine fm_iload_n C dX2_countConstants_31 rfl 2 rfl 32 rfl ?_
      obtain rfl := Option.some.inj hf
      exact fm_iret C hr hk0 dX2_countConstants_32
    · rw [if_neg c1] at hf
      refine fm_aload_n C dX2_countConstants_12 rfl 0 rfl 13 rfl ?_
      refine fm_get C (t := 1) (by decide) (shC_1 _) rfl inG_X2 9 (by decide) F_X2_35 rfl dX2_countConstants_13 16 rfl ?_
      refine fm_iload_n C dX2_countConstants_16 rfl 3 rfl 17 rfl ?_
      by_cases b2 : x3 < 0 ∨ 40 ≤ x3.toNatClampNeg
      · rw [if_pos b2] at hf; cases hf
      rw [if_neg b2] at hf
      refine fm_iald C (t := 57) (t0 := 0) (by decide) (shC_57 _) rfl b2 dX2_countConstants_17 18 rfl ?_
      refine fm_iload_n C dX2_countConstants_18 rfl 1 rfl 19 rfl ?_
      refine fm_icmp_ne C 25 dX2_countConstants_19 (by decide) (fun c3 => ?_) 22 rfl (fun c3 => ?_)
      · rw [if_neg c3] at hf
        refine fm_iinc C [(3, .int (x3 + 1)), (0, .ref (b + 1)), (1, .int x1), (2, .int x2)] dX2_countConstants_25 3 rfl rfl (by decide) rfl 28 rfl ?_
        refine fm_goto C 4 dX2_countConstants_28 (by decide) ?_
        refine fm_lv [1, 2, 3, 0] [(0, .ref (b + 1)), (1, .int x1), (2, .int x2), (3, .int (x3 + 1))] rfl ?_
        exact ih x1 x2 (x3 + 1) v hf
      · rw [if_pos c3] at hf
        refine fm_iinc C [(2, .int (x2 + 1)), (0, .ref (b + 1)), (1, .int x1), (3, .int x3)] dX2_countConstants_22 2 rfl rfl (by decide) rfl 25 rfl ?_
        refine fm_iinc C [(3, .int (x3 + 1)), (2, .int (x2 + 1)), (0, .ref (b + 1)), (1, .int x1)] dX2_countConstants_25 3 rfl rfl (by decide) rfl 28 rfl ?_
        refine fm_goto C 4 dX2_countConstants_28 (by decide) ?_
        refine fm_lv [2, 3, 1, 0] [(0, .ref (b + 1)), (1, .int x1), (2, .int (x2 + 1)), (3, .int (x3 + 1))] rfl ?_
        exact ih x1 (x2 + 1) (x3 + 1) v hf
def f_X2_countConstants (x1 : Int32) (v : fm_T) : Option (Int32 × fm_T) := f_X2_countConstants_4 1000 x1 0 0 v
set_option maxHeartbeats 4000000 in
set_option maxRecDepth 20000 in
theorem c_X2_countConstants {x1 : Int32}  {v : fm_T} {q : Int32 × fm_T} (hf : f_X2_countConstants x1 v = some q) : fm_M l D (fm_tys cI cII cLd cOc) tA b 305 (shC cI cII cLd cOc b) A yX2_countConstants cX2_countConstants 4 (some .int) 0 [.ref (b + 1), .int x1] v (some (.int q.1)) q.2 := by
  refine fm_entry (by decide) (Nat.le_of_ble_eq_true rfl) ?_
  intro p e R s m args below meth c C hr hk0 hF hLo
  unfold f_X2_countConstants at hf
  show fm_V p l e R s m args below meth c D b 305 (shC cI cII cLd cOc b) A _ 4 0 [(0, .ref (b + 1)), (1, .int x1)] [] v
  refine fm_iconst C (x := 0) dX2_countConstants_0 (by decide) 1 rfl ?_
  refine fm_istore_n C [(2, .int 0), (0, .ref (b + 1)), (1, .int x1)] dX2_countConstants_1 rfl (by decide) rfl 2 rfl ?_
  refine fm_iconst C (x := 0) dX2_countConstants_2 (by decide) 3 rfl ?_
  refine fm_istore_n C [(3, .int 0), (2, .int 0), (0, .ref (b + 1)), (1, .int x1)] dX2_countConstants_3 rfl (by decide) rfl 4 rfl ?_
  refine fm_lv [2, 3, 1, 0] [(0, .ref (b + 1)), (1, .int x1), (2, .int 0), (3, .int 0)] rfl ?_
  exact b_X2_countConstants_4  C hr hk0 hF hLo 1000 x1 0 0 v hf
end
