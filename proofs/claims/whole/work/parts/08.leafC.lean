section
variable {l : Launch} {D : va_G} {tA b : Nat} {A : Nat → Prop} {cI cII cLd cOc : ClassId}
def f_X1_succeed (t : Nat) (x1 : Int32) (v : fm_T) : Option (Int32 × fm_T) := ((some (fm_u v t 0 x1) : Option fm_T).bind fun m2 => ((some (fm_u m2 t 1 0) : Option fm_T).bind fun m4 => ((some (fm_u m4 t 2 0) : Option fm_T).bind fun m6 => ((some (fm_u m6 t 3 0) : Option fm_T).bind fun m8 => ((some (fm_u m8 t 4 0) : Option fm_T).bind fun m10 => some (1, m10))))))
set_option maxHeartbeats 4000000 in
set_option maxRecDepth 20000 in
theorem c_X1_succeed {t : Nat} {x1 : Int32} (hO : isO t) {v : fm_T} {q : Int32 × fm_T} (hf : f_X1_succeed t x1 v = some q) : fm_M l D (fm_tys cI cII cLd cOc) tA b 305 (shC cI cII cLd cOc b) A yX1_succeed cX1_succeed 2 (some .boolean) 0 [.ref (b + t), .int x1] v (some (.int q.1)) q.2 := by
  refine fm_entry (by decide) (Nat.le_of_ble_eq_true rfl) ?_
  intro p e R s m args below meth c C hr hk0 hF hLo
  unfold f_X1_succeed at hf
  show fm_V p l e R s m args below meth c D b 305 (shC cI cII cLd cOc b) A _ 2 0 [(0, .ref (b + t)), (1, .int x1)] [] v
  refine fm_aload_n C dX1_succeed_0 rfl 0 rfl 1 rfl ?_
  refine fm_iload_n C dX1_succeed_1 rfl 1 rfl 2 rfl ?_
  obtain ⟨m2, e1, hf⟩ := Option.bind_eq_some_iff.mp hf
  refine fm_put C (t := t) (isO_lt hO) ((shC_O hO) _) rfl inG_X1 0 (by decide) F_X1_9 tyX1 tyX1_ok nmX1 rfl (ty := .int) (by decide +kernel) rfl rfl (Nat.le_of_ble_eq_true rfl) (((shC_O hO) _).trans rfl) dX1_succeed_2 5 rfl m2 (Option.some.inj e1) ?_
  refine fm_aload_n C dX1_succeed_5 rfl 0 rfl 6 rfl ?_
  refine fm_iconst C (x := 0) dX1_succeed_6 (by decide) 7 rfl ?_
  obtain ⟨m4, e3, hf⟩ := Option.bind_eq_some_iff.mp hf
  refine fm_put C (t := t) (isO_lt hO) ((shC_O hO) _) rfl inG_X1 1 (by decide) F_X1_15 tyX1 tyX1_ok nmX1 rfl (ty := .int) (by decide +kernel) rfl rfl (Nat.le_of_ble_eq_true rfl) (((shC_O hO) _).trans rfl) dX1_succeed_7 10 rfl m4 (Option.some.inj e3) ?_
  refine fm_aload_n C dX1_succeed_10 rfl 0 rfl 11 rfl ?_
  refine fm_iconst C (x := 0) dX1_succeed_11 (by decide) 12 rfl ?_
  obtain ⟨m6, e5, hf⟩ := Option.bind_eq_some_iff.mp hf
  refine fm_put C (t := t) (isO_lt hO) ((shC_O hO) _) rfl inG_X1 2 (by decide) F_X1_18 tyX1 tyX1_ok nmX1 rfl (ty := .int) (by decide +kernel) rfl rfl (Nat.le_of_ble_eq_true rfl) (((shC_O hO) _).trans rfl) dX1_succeed_12 15 rfl m6 (Option.some.inj e5) ?_
  refine fm_aload_n C dX1_succeed_15 rfl 0 rfl 16 rfl ?_
  refine fm_iconst C (x := 0) dX1_succeed_16 (by decide) 17 rfl ?_
  obtain ⟨m8, e7, hf⟩ := Option.bind_eq_some_iff.mp hf
  refine fm_put C (t := t) (isO_lt hO) ((shC_O hO) _) rfl inG_X1 3 (by decide) F_X1_21 tyX1 tyX1_ok nmX1 rfl (ty := .int) (by decide +kernel) rfl rfl (Nat.le_of_ble_eq_true rfl) (((shC_O hO) _).trans rfl) dX1_succeed_17 20 rfl m8 (Option.some.inj e7) ?_
  refine fm_aload_n C dX1_succeed_20 rfl 0 rfl 21 rfl ?_
  refine fm_iconst C (x := 0) dX1_succeed_21 (by decide) 22 rfl ?_
  obtain ⟨m10, e9, hf⟩ := Option.bind_eq_some_iff.mp hf
  refine fm_put C (t := t) (isO_lt hO) ((shC_O hO) _) rfl inG_X1 4 (by decide) F_X1_24 tyX1 tyX1_ok nmX1 rfl (ty := .int) (by decide +kernel) rfl rfl (Nat.le_of_ble_eq_true rfl) (((shC_O hO) _).trans rfl) dX1_succeed_22 25 rfl m10 (Option.some.inj e9) ?_
  refine fm_iconst C (x := 1) dX1_succeed_25 (by decide) 26 rfl ?_
  obtain rfl := Option.some.inj hf
  exact fm_zret C hr hk0 (Or.inr rfl) dX1_succeed_26
def f_X1_fail (t : Nat) (x1 : Int32) (x2 : Int32) (v : fm_T) : Option (Int32 × fm_T) := ((some (fm_u v t 0 0) : Option fm_T).bind fun m2 => ((some (fm_u m2 t 1 x1) : Option fm_T).bind fun m4 => ((some (fm_u m4 t 2 x2) : Option fm_T).bind fun m6 => ((some (fm_u m6 t 3 x1) : Option fm_T).bind fun m8 => ((some (fm_u m8 t 4 x2) : Option fm_T).bind fun m10 => some (0, m10))))))
set_option maxHeartbeats 4000000 in
set_option maxRecDepth 20000 in
theorem c_X1_fail {t : Nat} {x1 : Int32} {x2 : Int32} (hO : isO t) {v : fm_T} {q : Int32 × fm_T} (hf : f_X1_fail t x1 x2 v = some q) : fm_M l D (fm_tys cI cII cLd cOc) tA b 305 (shC cI cII cLd cOc b) A yX1_fail cX1_fail 3 (some .boolean) 0 [.ref (b + t), .int x1, .int x2] v (some (.int q.1)) q.2 := by
  refine fm_entry (by decide) (Nat.le_of_ble_eq_true rfl) ?_
  intro p e R s m args below meth c C hr hk0 hF hLo
  unfold f_X1_fail at hf
  show fm_V p l e R s m args below meth c D b 305 (shC cI cII cLd cOc b) A _ 3 0 [(0, .ref (b + t)), (1, .int x1), (2, .int x2)] [] v
  refine fm_aload_n C dX1_fail_0 rfl 0 rfl 1 rfl ?_
  refine fm_iconst C (x := 0) dX1_fail_1 (by decide) 2 rfl ?_
  obtain ⟨m2, e1, hf⟩ := Option.bind_eq_some_iff.mp hf
  refine fm_put C (t := t) (isO_lt hO) ((shC_O hO) _) rfl inG_X1 0 (by decide) F_X1_9 tyX1 tyX1_ok nmX1 rfl (ty := .int) (by decide +kernel) rfl rfl (Nat.le_of_ble_eq_true rfl) (((shC_O hO) _).trans rfl) dX1_fail_2 5 rfl m2 (Option.some.inj e1) ?_
  refine fm_aload_n C dX1_fail_5 rfl 0 rfl 6 rfl ?_
  refine fm_iload_n C dX1_fail_6 rfl 1 rfl 7 rfl ?_
  obtain ⟨m4, e3, hf⟩ := Option.bind_eq_some_iff.mp hf
  refine fm_put C (t := t) (isO_lt hO) ((shC_O hO) _) rfl inG_X1 1 (by decide) F_X1_15 tyX1 tyX1_ok nmX1 rfl (ty := .int) (by decide +kernel) rfl rfl (Nat.le_of_ble_eq_true rfl) (((shC_O hO) _).trans rfl) dX1_fail_7 10 rfl m4 (Option.some.inj e3) ?_
  refine fm_aload_n C dX1_fail_10 rfl 0 rfl 11 rfl ?_
  refine fm_iload_n C dX1_fail_11 rfl 2 rfl 12 rfl ?_
  obtain ⟨m6, e5, hf⟩ := Option.bind_eq_some_iff.mp hf
  refine fm_put C (t := t) (isO_lt hO) ((shC_O hO) _) rfl inG_X1 2 (by decide) F_X1_18 tyX1 tyX1_ok nmX1 rfl (ty := .int) (by decide +kernel) rfl rfl (Nat.le_of_ble_eq_true rfl) (((shC_O hO) _).trans rfl) dX1_fail_12 15 rfl m6 (Option.some.inj e5) ?_
  refine fm_aload_n C dX1_fail_15 rfl 0 rfl 16 rfl ?_
  refine fm_iload_n C dX1_fail_16 rfl 1 rfl 17 rfl ?_
  obtain ⟨m8, e7, hf⟩ := Option.bind_eq_some_iff.mp hf
  refine fm_put C (t := t) (isO_lt hO) ((shC_O hO) _) rfl inG_X1 3 (by decide) F_X1_21 tyX1 tyX1_ok nmX1 rfl (ty := .int) (by decide +kernel) rfl rfl (Nat.le_of_ble_eq_true rfl) (((shC_O hO) _).trans rfl) dX1_fail_17 20 rfl m8 (Option.some.inj e7) ?_
  refine fm_aload_n C dX1_fail_20 rfl 0 rfl 21 rfl ?_
  refine fm_iload_n C dX1_fail_21 rfl 2 rfl 22 rfl ?_
  obtain ⟨m10, e9, hf⟩ := Option.bind_eq_some_iff.mp hf
  refine fm_put C (t := t) (isO_lt hO) ((shC_O hO) _) rfl inG_X1 4 (by decide) F_X1_24 tyX1 tyX1_ok nmX1 rfl (ty := .int) (by decide +kernel) rfl rfl (Nat.le_of_ble_eq_true rfl) (((shC_O hO) _).trans rfl) dX1_fail_22 25 rfl m10 (Option.some.inj e9) ?_
  refine fm_iconst C (x := 0) dX1_fail_25 (by decide) 26 rfl ?_
  obtain rfl := Option.some.inj hf
  exact fm_zret C hr hk0 (Or.inl rfl) dX1_fail_26
def f_X1_failStart (t : Nat) (x1 : Int32) (v : fm_T) : Option (Int32 × fm_T) := ((some (fm_u v t 1 5) : Option fm_T).bind fun m2 => ((some (fm_u m2 t 2 x1) : Option fm_T).bind fun m4 => some (0, m4)))
set_option maxHeartbeats 4000000 in
set_option maxRecDepth 20000 in
theorem c_X1_failStart {t : Nat} {x1 : Int32} (hO : isO t) {v : fm_T} {q : Int32 × fm_T} (hf : f_X1_failStart t x1 v = some q) : fm_M l D (fm_tys cI cII cLd cOc) tA b 305 (shC cI cII cLd cOc b) A yX1_failStart cX1_failStart 2 (some .boolean) 0 [.ref (b + t), .int x1] v (some (.int q.1)) q.2 := by
  refine fm_entry (by decide) (Nat.le_of_ble_eq_true rfl) ?_
  intro p e R s m args below meth c C hr hk0 hF hLo
  unfold f_X1_failStart at hf
  show fm_V p l e R s m args below meth c D b 305 (shC cI cII cLd cOc b) A _ 2 0 [(0, .ref (b + t)), (1, .int x1)] [] v
  refine fm_aload_n C dX1_failStart_0 rfl 0 rfl 1 rfl ?_
  refine fm_iconst C (x := 5) dX1_failStart_1 (by decide) 2 rfl ?_
  obtain ⟨m2, e1, hf⟩ := Option.bind_eq_some_iff.mp hf
  refine fm_put C (t := t) (isO_lt hO) ((shC_O hO) _) rfl inG_X1 1 (by decide) F_X1_15 tyX1 tyX1_ok nmX1 rfl (ty := .int) (by decide +kernel) rfl rfl (Nat.le_of_ble_eq_true rfl) (((shC_O hO) _).trans rfl) dX1_failStart_2 5 rfl m2 (Option.some.inj e1) ?_
  refine fm_aload_n C dX1_failStart_5 rfl 0 rfl 6 rfl ?_
  refine fm_iload_n C dX1_failStart_6 rfl 1 rfl 7 rfl ?_
  obtain ⟨m4, e3, hf⟩ := Option.bind_eq_some_iff.mp hf
  refine fm_put C (t := t) (isO_lt hO) ((shC_O hO) _) rfl inG_X1 2 (by decide) F_X1_18 tyX1 tyX1_ok nmX1 rfl (ty := .int) (by decide +kernel) rfl rfl (Nat.le_of_ble_eq_true rfl) (((shC_O hO) _).trans rfl) dX1_failStart_7 10 rfl m4 (Option.some.inj e3) ?_
  refine fm_iconst C (x := 0) dX1_failStart_10 (by decide) 11 rfl ?_
  obtain rfl := Option.some.inj hf
  exact fm_zret C hr hk0 (Or.inl rfl) dX1_failStart_11
def f_X1_copy (t : Nat) (t2 : Nat) (v : fm_T) : Option (Int32 × fm_T) := ((some (fm_u v t 0 (v t2 0)) : Option fm_T).bind fun m2 => ((some (fm_u m2 t 1 (m2 t2 1)) : Option fm_T).bind fun m4 => ((some (fm_u m4 t 2 (m4 t2 2)) : Option fm_T).bind fun m6 => ((some (fm_u m6 t 3 (m6 t2 3)) : Option fm_T).bind fun m8 => ((some (fm_u m8 t 4 (m8 t2 4)) : Option fm_T).bind fun m10 => some (0, m10))))))
set_option maxHeartbeats 4000000 in
set_option maxRecDepth 20000 in
theorem c_X1_copy {t : Nat} {t2 : Nat} (hO : isO t) (hO2 : isO t2) {v : fm_T} {q : Int32 × fm_T} (hf : f_X1_copy t t2 v = some q) : fm_M l D (fm_tys cI cII cLd cOc) tA b 305 (shC cI cII cLd cOc b) A yX1_copy cX1_copy 2 none 0 [.ref (b + t), .ref (b + t2)] v none q.2 := by
  refine fm_entry (by decide) (Nat.le_of_ble_eq_true rfl) ?_
  intro p e R s m args below meth c C hr hk0 hF hLo
  unfold f_X1_copy at hf
  show fm_V p l e R s m args below meth c D b 305 (shC cI cII cLd cOc b) A _ 2 0 [(0, .ref (b + t)), (1, .ref (b + t2))] [] v
  refine fm_aload_n C dX1_copy_0 rfl 0 rfl 1 rfl ?_
  refine fm_aload_n C dX1_copy_1 rfl 1 rfl 2 rfl ?_
  refine fm_get C (t := t2) (isO_lt hO2) ((shC_O hO2) _) rfl inG_X1 0 (by decide) F_X1_9 rfl dX1_copy_2 5 rfl ?_
  obtain ⟨m2, e1, hf⟩ := Option.bind_eq_some_iff.mp hf
  refine fm_put C (t := t) (isO_lt hO) ((shC_O hO) _) rfl inG_X1 0 (by decide) F_X1_9 tyX1 tyX1_ok nmX1 rfl (ty := .int) (by decide +kernel) rfl rfl (Nat.le_of_ble_eq_true rfl) (((shC_O hO) _).trans rfl) dX1_copy_5 8 rfl m2 (Option.some.inj e1) ?_
  refine fm_aload_n C dX1_copy_8 rfl 0 rfl 9 rfl ?_
  refine fm_aload_n C dX1_copy_9 rfl 1 rfl 10 rfl ?_
  refine fm_get C (t := t2) (isO_lt hO2) ((shC_O hO2) _) rfl inG_X1 1 (by decide) F_X1_15 rfl dX1_copy_10 13 rfl ?_
  obtain ⟨m4, e3, hf⟩ := Option.bind_eq_some_iff.mp hf
  refine fm_put C (t := t) (isO_lt hO) ((shC_O hO) _) rfl inG_X1 1 (by decide) F_X1_15 tyX1 tyX1_ok nmX1 rfl (ty := .int) (by decide +kernel) rfl rfl (Nat.le_of_ble_eq_true rfl) (((shC_O hO) _).trans rfl) dX1_copy_13 16 rfl m4 (Option.some.inj e3) ?_
  refine fm_aload_n C dX1_copy_16 rfl 0 rfl 17 rfl ?_
  refine fm_aload_n C dX1_copy_17 rfl 1 rfl 18 rfl ?_
  refine fm_get C (t := t2) (isO_lt hO2) ((shC_O hO2) _) rfl inG_X1 2 (by decide) F_X1_18 rfl dX1_copy_18 21 rfl ?_
  obtain ⟨m6, e5, hf⟩ := Option.bind_eq_some_iff.mp hf
  refine fm_put C (t := t) (isO_lt hO) ((shC_O hO) _) rfl inG_X1 2 (by decide) F_X1_18 tyX1 tyX1_ok nmX1 rfl (ty := .int) (by decide +kernel) rfl rfl (Nat.le_of_ble_eq_true rfl) (((shC_O hO) _).trans rfl) dX1_copy_21 24 rfl m6 (Option.some.inj e5) ?_
  refine fm_aload_n C dX1_copy_24 rfl 0 rfl 25 rfl ?_
  refine fm_aload_n C dX1_copy_25 rfl 1 rfl 26 rfl ?_
  refine fm_get C (t := t2) (isO_lt hO2) ((shC_O hO2) _) rfl inG_X1 3 (by decide) F_X1_21 rfl dX1_copy_26 29 rfl ?_
  obtain ⟨m8, e7, hf⟩ := Option.bind_eq_some_iff.mp hf
  refine fm_put C (t := t) (isO_lt hO) ((shC_O hO) _) rfl inG_X1 3 (by decide) F_X1_21 tyX1 tyX1_ok nmX1 rfl (ty := .int) (by decide +kernel) rfl rfl (Nat.le_of_ble_eq_true rfl) (((shC_O hO) _).trans rfl) dX1_copy_29 32 rfl m8 (Option.some.inj e7) ?_
  refine fm_aload_n C dX1_copy_32 rfl 0 rfl 33 rfl ?_
  refine fm_aload_n C dX1_copy_33 rfl 1 rfl 34 rfl ?_
  refine fm_get C (t := t2) (isO_lt hO2) ((shC_O hO2) _) rfl inG_X1 4 (by decide) F_X1_24 rfl dX1_copy_34 37 rfl ?_
  obtain ⟨m10, e9, hf⟩ := Option.bind_eq_some_iff.mp hf
  refine fm_put C (t := t) (isO_lt hO) ((shC_O hO) _) rfl inG_X1 4 (by decide) F_X1_24 tyX1 tyX1_ok nmX1 rfl (ty := .int) (by decide +kernel) rfl rfl (Nat.le_of_ble_eq_true rfl) (((shC_O hO) _).trans rfl) dX1_copy_37 40 rfl m10 (Option.some.inj e9) ?_
  obtain rfl := Option.some.inj hf
  exact fm_vret C hr hk0 dX1_copy_40
def f_X3_clear (k : Nat) (v : fm_T) : Option (Int32 × fm_T) := ((some (fm_u v (ev k) 2 0) : Option fm_T).bind fun m2 => some (0, m2))
set_option maxHeartbeats 4000000 in
set_option maxRecDepth 20000 in
theorem c_X3_clear {k : Nat} (hk : k < 4) {v : fm_T} {q : Int32 × fm_T} (hf : f_X3_clear k v = some q) : fm_M l D (fm_tys cI cII cLd cOc) tA b 305 (shC cI cII cLd cOc b) A yX3_clear cX3_clear 1 none 0 [.ref (b + (ev k))] v none q.2 := by
  refine fm_entry (by decide) (Nat.le_of_ble_eq_true rfl) ?_
  intro p e R s m args below meth c C hr hk0 hF hLo
  unfold f_X3_clear at hf
  show fm_V p l e R s m args below meth c D b 305 (shC cI cII cLd cOc b) A _ 1 0 [(0, .ref (b + (ev k)))] [] v
  refine fm_aload_n C dX3_clear_0 rfl 0 rfl 1 rfl ?_
  refine fm_iconst C (x := 0) dX3_clear_1 (by decide) 2 rfl ?_
  obtain ⟨m2, e1, hf⟩ := Option.bind_eq_some_iff.mp hf
  refine fm_put C (t := ev k) (ev_lt (j := 0) hk (by decide)) ((shC_ev hk) _) rfl inG_X3 2 (by decide) F_X3_18 tyX3 tyX3_ok nmX3 rfl (ty := .int) (by decide +kernel) rfl rfl (Nat.le_of_ble_eq_true rfl) (((shC_ev hk) _).trans rfl) dX3_clear_2 5 rfl m2 (Option.some.inj e1) ?_
  obtain rfl := Option.some.inj hf
  exact fm_vret C hr hk0 dX3_clear_5
def f_X3_note (k : Nat) (x1 : Int32) (x2 : Int32) (v : fm_T) : Option (Int32 × fm_T) := (if 200 ≤ v (ev k) 2 then some (0, v) else (if v (ev k) 2 < 0 ∨ 200 ≤ (v (ev k) 2).toNatClampNeg then none else ((some (fm_u v (ev k + 1) ((v (ev k) 2).toNatClampNeg) x1) : Option fm_T).bind fun m4 => (if m4 (ev k) 2 < 0 ∨ 200 ≤ (m4 (ev k) 2).toNatClampNeg then none else ((some (fm_u m4 (ev k + 2) ((m4 (ev k) 2).toNatClampNeg) x2) : Option fm_T).bind fun m7 => ((some (fm_u m7 (ev k) 2 ((m7 (ev k) 2) + 1)) : Option fm_T).bind fun m9 => some (0, m9)))))))
set_option maxHeartbeats 4000000 in
set_option maxRecDepth 20000 in
theorem c_X3_note {k : Nat} {x1 : Int32} {x2 : Int32} (hk : k < 4) {v : fm_T} {q : Int32 × fm_T} (hf : f_X3_note k x1 x2 v = some q) : fm_M l D (fm_tys cI cII cLd cOc) tA b 305 (shC cI cII cLd cOc b) A yX3_note cX3_note 3 none 0 [.ref (b + (ev k)), .int x1, .int x2] v none q.2 := by
  refine fm_entry (by decide) (Nat.le_of_ble_eq_true rfl) ?_
  intro p e R s m args below meth c C hr hk0 hF hLo
  unfold f_X3_note at hf
  show fm_V p l e R s m args below meth c D b 305 (shC cI cII cLd cOc b) A _ 3 0 [(0, .ref (b + (ev k))), (1, .int x1), (2, .int x2)] [] v
  refine fm_aload_n C dX3_note_0 rfl 0 rfl 1 rfl ?_
  refine fm_get C (t := ev k) (ev_lt (j := 0) hk (by decide)) ((shC_ev hk) _) rfl inG_X3 2 (by decide) F_X3_18 rfl dX3_note_1 4 rfl ?_
  refine fm_sipush C (x := 200) dX3_note_4 (by decide) 7 rfl ?_
  refine fm_icmp_ge C 40 dX3_note_7 (by decide) (fun c1 => ?_) 10 rfl (fun c1 => ?_)
  · rw [if_pos c1] at hf
    obtain rfl := Option.some.inj hf
    exact fm_vret C hr hk0 dX3_note_40
  · rw [if_neg c1] at hf
    refine fm_aload_n C dX3_note_10 rfl 0 rfl 11 rfl ?_
    refine fm_get C (t := ev k) (ev_lt (j := 0) hk (by decide)) ((shC_ev hk) _) rfl inG_X3 0 (by decide) F_X3_9 rfl dX3_note_11 14 rfl ?_
    refine fm_aload_n C dX3_note_14 rfl 0 rfl 15 rfl ?_
    refine fm_get C (t := ev k) (ev_lt (j := 0) hk (by decide)) ((shC_ev hk) _) rfl inG_X3 2 (by decide) F_X3_18 rfl dX3_note_15 18 rfl ?_
    refine fm_iload_n C dX3_note_18 rfl 1 rfl 19 rfl ?_
    by_cases b2 : v (ev k) 2 < 0 ∨ 200 ≤ (v (ev k) 2).toNatClampNeg
    · rw [if_pos b2] at hf; cases hf
    rw [if_neg b2] at hf
    obtain ⟨m4, e3, hf⟩ := Option.bind_eq_some_iff.mp hf
    refine fm_iast C (t := ev k + 1) (t0 := 0) (ev_lt hk (by decide)) (shC_ev1 hk) rfl b2 dX3_note_19 20 rfl m4 (Option.some.inj e3) ?_
    refine fm_aload_n C dX3_note_20 rfl 0 rfl 21 rfl ?_
    refine fm_get C (t := ev k) (ev_lt (j := 0) hk (by decide)) ((shC_ev hk) _) rfl inG_X3 1 (by decide) F_X3_15 rfl dX3_note_21 24 rfl ?_
    refine fm_aload_n C dX3_note_24 rfl 0 rfl 25 rfl ?_
    refine fm_get C (t := ev k) (ev_lt (j := 0) hk (by decide)) ((shC_ev hk) _) rfl inG_X3 2 (by decide) F_X3_18 rfl dX3_note_25 28 rfl ?_
    refine fm_iload_n C dX3_note_28 rfl 2 rfl 29 rfl ?_
    by_cases b5 : m4 (ev k) 2 < 0 ∨ 200 ≤ (m4 (ev k) 2).toNatClampNeg
    · rw [if_pos b5] at hf; cases hf
    rw [if_neg b5] at hf
    obtain ⟨m7, e6, hf⟩ := Option.bind_eq_some_iff.mp hf
    refine fm_iast C (t := ev k + 2) (t0 := 0) (ev_lt hk (by decide)) (shC_ev2 hk) rfl b5 dX3_note_29 30 rfl m7 (Option.some.inj e6) ?_
    refine fm_aload_n C dX3_note_30 rfl 0 rfl 31 rfl ?_
    refine fm_dup C dX3_note_31 rfl 32 rfl ?_
    refine fm_get C (t := ev k) (ev_lt (j := 0) hk (by decide)) ((shC_ev hk) _) rfl inG_X3 2 (by decide) F_X3_18 rfl dX3_note_32 35 rfl ?_
    refine fm_iconst C (x := 1) dX3_note_35 (by decide) 36 rfl ?_
    refine fm_iadd C dX3_note_36 37 rfl ?_
    obtain ⟨m9, e8, hf⟩ := Option.bind_eq_some_iff.mp hf
    refine fm_put C (t := ev k) (ev_lt (j := 0) hk (by decide)) ((shC_ev hk) _) rfl inG_X3 2 (by decide) F_X3_18 tyX3 tyX3_ok nmX3 rfl (ty := .int) (by decide +kernel) rfl rfl (Nat.le_of_ble_eq_true rfl) (((shC_ev hk) _).trans rfl) dX3_note_37 40 rfl m9 (Option.some.inj e8) ?_
    obtain rfl := Option.some.inj hf
    exact fm_vret C hr hk0 dX3_note_40
def f_X2_hasModule (x1 : Int32) (v : fm_T) : Option (Int32 × fm_T) := (if x1 < 0 then some (0, v) else (if v 1 0 ≤ x1 then some (0, v) else some (1, v)))
set_option maxHeartbeats 4000000 in
set_option maxRecDepth 20000 in
theorem c_X2_hasModule {x1 : Int32}  {v : fm_T} {q : Int32 × fm_T} (hf : f_X2_hasModule x1 v = some q) : fm_M l D (fm_tys cI cII cLd cOc) tA b 305 (shC cI cII cLd cOc b) A yX2_hasModule cX2_hasModule 2 (some .boolean) 0 [.ref (b + 1), .int x1] v (some (.int q.1)) q.2 := by
  refine fm_entry (by decide) (Nat.le_of_ble_eq_true rfl) ?_
  intro p e R s m args below meth c C hr hk0 hF hLo
  unfold f_X2_hasModule at hf
  show fm_V p l e R s m args below meth c D b 305 (shC cI cII cLd cOc b) A _ 2 0 [(0, .ref (b + 1)), (1, .int x1)] [] v
  refine fm_iload_n C dX2_hasModule_0 rfl 1 rfl 1 rfl ?_
  refine fm_if_lt C 16 dX2_hasModule_1 (by decide) (fun c1 => ?_) 4 rfl (fun c1 => ?_)
  · rw [if_pos c1] at hf
    refine fm_iconst C (x := 0) dX2_hasModule_16 (by decide) 17 rfl ?_
    obtain rfl := Option.some.inj hf
    exact fm_zret C hr hk0 (Or.inl rfl) dX2_hasModule_17
  · rw [if_neg c1] at hf
    refine fm_iload_n C dX2_hasModule_4 rfl 1 rfl 5 rfl ?_
    refine fm_aload_n C dX2_hasModule_5 rfl 0 rfl 6 rfl ?_
    refine fm_get C (t := 1) (by decide) (shC_1 _) rfl inG_X2 0 (by decide) F_X2_50 rfl dX2_hasModule_6 9 rfl ?_
    refine fm_icmp_ge C 16 dX2_hasModule_9 (by decide) (fun c2 => ?_) 12 rfl (fun c2 => ?_)
    · rw [if_pos c2] at hf
      refine fm_iconst C (x := 0) dX2_hasModule_16 (by decide) 17 rfl ?_
      obtain rfl := Option.some.inj hf
      exact fm_zret C hr hk0 (Or.inl rfl) dX2_hasModule_17
    · rw [if_neg c2] at hf
      refine fm_iconst C (x := 1) dX2_hasModule_12 (by decide) 13 rfl ?_
      refine fm_goto C 17 dX2_hasModule_13 (by decide) ?_
      obtain rfl := Option.some.inj hf
      exact fm_zret C hr hk0 (Or.inr rfl) dX2_hasModule_17
def f_X2_hasItem (x1 : Int32) (x2 : Int32) (v : fm_T) : Option (Int32 × fm_T) := ((f_X2_hasModule x1 v).bind fun q2 => (if q2.1 = 0 then some (0, q2.2) else (if x2 < 0 then some (0, q2.2) else (if x1 < 0 ∨ 12 ≤ x1.toNatClampNeg then none else (if q2.2 2 x1.toNatClampNeg ≤ x2 then some (0, q2.2) else some (1, q2.2))))))
set_option maxHeartbeats 4000000 in
set_option maxRecDepth 20000 in
theorem c_X2_hasItem {x1 : Int32} {x2 : Int32}  {v : fm_T} {q : Int32 × fm_T} (hf : f_X2_hasItem x1 x2 v = some q) : fm_M l D (fm_tys cI cII cLd cOc) tA b 305 (shC cI cII cLd cOc b) A yX2_hasItem cX2_hasItem 3 (some .boolean) 1 [.ref (b + 1), .int x1, .int x2] v (some (.int q.1)) q.2 := by
  refine fm_entry (by decide) (Nat.le_of_ble_eq_true rfl) ?_
  intro p e R s m args below meth c C hr hk0 hF hLo
  unfold f_X2_hasItem at hf
  show fm_V p l e R s m args below meth c D b 305 (shC cI cII cLd cOc b) A _ 3 0 [(0, .ref (b + 1)), (1, .int x1), (2, .int x2)] [] v
  refine fm_aload_n C dX2_hasItem_0 rfl 0 rfl 1 rfl ?_
  refine fm_iload_n C dX2_hasItem_1 rfl 1 rfl 2 rfl ?_
  obtain ⟨q2, h1, hf⟩ := Option.bind_eq_some_iff.mp hf
  refine fm_callV C Y_X2_hasModule (t := 1) (by decide) (shC_1 _) rfl LM_X2_54 (As := [.int x1]) (rest := []) (c_X2_hasModule  h1) (by omega) (by omega) rfl (Nat.le_of_ble_eq_true rfl) dX2_hasItem_2 5 rfl [.int q2.1] rfl ?_
  refine fm_if_eq C 26 dX2_hasItem_5 (by decide) (fun c3 => ?_) 8 rfl (fun c3 => ?_)
  · rw [if_pos c3] at hf
    refine fm_iconst C (x := 0) dX2_hasItem_26 (by decide) 27 rfl ?_
    obtain rfl := Option.some.inj hf
    exact fm_zret C hr hk0 (Or.inl rfl) dX2_hasItem_27
  · rw [if_neg c3] at hf
    refine fm_iload_n C dX2_hasItem_8 rfl 2 rfl 9 rfl ?_
    refine fm_if_lt C 26 dX2_hasItem_9 (by decide) (fun c4 => ?_) 12 rfl (fun c4 => ?_)
    · rw [if_pos c4] at hf
      refine fm_iconst C (x := 0) dX2_hasItem_26 (by decide) 27 rfl ?_
      obtain rfl := Option.some.inj hf
      exact fm_zret C hr hk0 (Or.inl rfl) dX2_hasItem_27
    · rw [if_neg c4] at hf
      refine fm_iload_n C dX2_hasItem_12 rfl 2 rfl 13 rfl ?_
      refine fm_aload_n C dX2_hasItem_13 rfl 0 rfl 14 rfl ?_
      refine fm_get C (t := 1) (by decide) (shC_1 _) rfl inG_X2 1 (by decide) F_X2_9 rfl dX2_hasItem_14 17 rfl ?_
      refine fm_iload_n C dX2_hasItem_17 rfl 1 rfl 18 rfl ?_
      by_cases b5 : x1 < 0 ∨ 12 ≤ x1.toNatClampNeg
      · rw [if_pos b5] at hf; cases hf
      rw [if_neg b5] at hf
      refine fm_iald C (t := 2) (t0 := 0) (by decide) (shC_2 _) rfl b5 dX2_hasItem_18 19 rfl ?_
      refine fm_icmp_ge C 26 dX2_hasItem_19 (by decide) (fun c6 => ?_) 22 rfl (fun c6 => ?_)
      · rw [if_pos c6] at hf
        refine fm_iconst C (x := 0) dX2_hasItem_26 (by decide) 27 rfl ?_
        obtain rfl := Option.some.inj hf
        exact fm_zret C hr hk0 (Or.inl rfl) dX2_hasItem_27
      · rw [if_neg c6] at hf
        refine fm_iconst C (x := 1) dX2_hasItem_22 (by decide) 23 rfl ?_
        refine fm_goto C 27 dX2_hasItem_23 (by decide) ?_
        obtain rfl := Option.some.inj hf
        exact fm_zret C hr hk0 (Or.inr rfl) dX2_hasItem_27
def f_X2_hasConstant (x1 : Int32) (v : fm_T) : Option (Int32 × fm_T) := (if x1 < 0 then some (0, v) else (if v 1 8 ≤ x1 then some (0, v) else some (1, v)))
set_option maxHeartbeats 4000000 in
set_option maxRecDepth 20000 in
theorem c_X2_hasConstant {x1 : Int32}  {v : fm_T} {q : Int32 × fm_T} (hf : f_X2_hasConstant x1 v = some q) : fm_M l D (fm_tys cI cII cLd cOc) tA b 305 (shC cI cII cLd cOc b) A yX2_hasConstant cX2_hasConstant 2 (some .boolean) 0 [.ref (b + 1), .int x1] v (some (.int q.1)) q.2 := by
  refine fm_entry (by decide) (Nat.le_of_ble_eq_true rfl) ?_
  intro p e R s m args below meth c C hr hk0 hF hLo
  unfold f_X2_hasConstant at hf
  show fm_V p l e R s m args below meth c D b 305 (shC cI cII cLd cOc b) A _ 2 0 [(0, .ref (b + 1)), (1, .int x1)] [] v
  refine fm_iload_n C dX2_hasConstant_0 rfl 1 rfl 1 rfl ?_
  refine fm_if_lt C 16 dX2_hasConstant_1 (by decide) (fun c1 => ?_) 4 rfl (fun c1 => ?_)
  · rw [if_pos c1] at hf
    refine fm_iconst C (x := 0) dX2_hasConstant_16 (by decide) 17 rfl ?_
    obtain rfl := Option.some.inj hf
    exact fm_zret C hr hk0 (Or.inl rfl) dX2_hasConstant_17
  · rw [if_neg c1] at hf
    refine fm_iload_n C dX2_hasConstant_4 rfl 1 rfl 5 rfl ?_
    refine fm_aload_n C dX2_hasConstant_5 rfl 0 rfl 6 rfl ?_
    refine fm_get C (t := 1) (by decide) (shC_1 _) rfl inG_X2 8 (by decide) F_X2_58 rfl dX2_hasConstant_6 9 rfl ?_
    refine fm_icmp_ge C 16 dX2_hasConstant_9 (by decide) (fun c2 => ?_) 12 rfl (fun c2 => ?_)
    · rw [if_pos c2] at hf
      refine fm_iconst C (x := 0) dX2_hasConstant_16 (by decide) 17 rfl ?_
      obtain rfl := Option.some.inj hf
      exact fm_zret C hr hk0 (Or.inl rfl) dX2_hasConstant_17
    · rw [if_neg c2] at hf
      refine fm_iconst C (x := 1) dX2_hasConstant_12 (by decide) 13 rfl ?_
      refine fm_goto C 17 dX2_hasConstant_13 (by decide) ?_
      obtain rfl := Option.some.inj hf
      exact fm_zret C hr hk0 (Or.inr rfl) dX2_hasConstant_17
def f_X2_mayBeConstant (x1 : Int32) (v : fm_T) : Option (Int32 × fm_T) := (if x1 < 0 then some (0, v) else (if 40 ≤ x1 then some (0, v) else some (1, v)))
set_option maxHeartbeats 4000000 in
set_option maxRecDepth 20000 in
theorem c_X2_mayBeConstant {x1 : Int32}  {v : fm_T} {q : Int32 × fm_T} (hf : f_X2_mayBeConstant x1 v = some q) : fm_M l D (fm_tys cI cII cLd cOc) tA b 305 (shC cI cII cLd cOc b) A yX2_mayBeConstant cX2_mayBeConstant 2 (some .boolean) 0 [.ref (b + 1), .int x1] v (some (.int q.1)) q.2 := by
  refine fm_entry (by decide) (Nat.le_of_ble_eq_true rfl) ?_
  intro p e R s m args below meth c C hr hk0 hF hLo
  unfold f_X2_mayBeConstant at hf
  show fm_V p l e R s m args below meth c D b 305 (shC cI cII cLd cOc b) A _ 2 0 [(0, .ref (b + 1)), (1, .int x1)] [] v
  refine fm_iload_n C dX2_mayBeConstant_0 rfl 1 rfl 1 rfl ?_
  refine fm_if_lt C 14 dX2_mayBeConstant_1 (by decide) (fun c1 => ?_) 4 rfl (fun c1 => ?_)
  · rw [if_pos c1] at hf
    refine fm_iconst C (x := 0) dX2_mayBeConstant_14 (by decide) 15 rfl ?_
    obtain rfl := Option.some.inj hf
    exact fm_zret C hr hk0 (Or.inl rfl) dX2_mayBeConstant_15
  · rw [if_neg c1] at hf
    refine fm_iload_n C dX2_mayBeConstant_4 rfl 1 rfl 5 rfl ?_
    refine fm_bipush C (x := 40) dX2_mayBeConstant_5 (by decide) 7 rfl ?_
    refine fm_icmp_ge C 14 dX2_mayBeConstant_7 (by decide) (fun c2 => ?_) 10 rfl (fun c2 => ?_)
    · rw [if_pos c2] at hf
      refine fm_iconst C (x := 0) dX2_mayBeConstant_14 (by decide) 15 rfl ?_
      obtain rfl := Option.some.inj hf
      exact fm_zret C hr hk0 (Or.inl rfl) dX2_mayBeConstant_15
    · rw [if_neg c2] at hf
      refine fm_iconst C (x := 1) dX2_mayBeConstant_10 (by decide) 11 rfl ?_
      refine fm_goto C 15 dX2_mayBeConstant_11 (by decide) ?_
      obtain rfl := Option.some.inj hf
      exact fm_zret C hr hk0 (Or.inr rfl) dX2_mayBeConstant_15
end
