section
variable {l : Launch} {D : va_G} {tA b : Nat} {A : Nat → Prop} {cI cII cLd cOc : ClassId}
def f_X5_in (x0 : Int32) (x1 : Int32) (x2 : Int32) (v : fm_T) : Option (Int32 × fm_T) := (if x0 < x1 then some (0, v) else (if x2 < x0 then some (0, v) else some (1, v)))
set_option maxHeartbeats 4000000 in
set_option maxRecDepth 20000 in
theorem c_X5_in {x0 : Int32} {x1 : Int32} {x2 : Int32}  {v : fm_T} {q : Int32 × fm_T} (hf : f_X5_in x0 x1 x2 v = some q) : fm_M l D (fm_tys cI cII cLd cOc) tA b 29 (shM cI b) A yX5_in cX5_in 3 (some .boolean) 0 [.int x0, .int x1, .int x2] v (some (.int q.1)) q.2 := by
  refine fm_entry (by decide) (Nat.le_of_ble_eq_true rfl) ?_
  intro p e R s m args below meth c C hr hk0 hF hLo
  unfold f_X5_in at hf
  show fm_V p l e R s m args below meth c D b 29 (shM cI b) A _ 3 0 [(0, .int x0), (1, .int x1), (2, .int x2)] [] v
  refine fm_iload_n C dX5_in_0 rfl 0 rfl 1 rfl ?_
  refine fm_iload_n C dX5_in_1 rfl 1 rfl 2 rfl ?_
  refine fm_icmp_lt C 14 dX5_in_2 (by decide) (fun c1 => ?_) 5 rfl (fun c1 => ?_)
  · rw [if_pos c1] at hf
    refine fm_iconst C (x := 0) dX5_in_14 (by decide) 15 rfl ?_
    obtain rfl := Option.some.inj hf
    exact fm_zret C hr hk0 (Or.inl rfl) dX5_in_15
  · rw [if_neg c1] at hf
    refine fm_iload_n C dX5_in_5 rfl 0 rfl 6 rfl ?_
    refine fm_iload_n C dX5_in_6 rfl 2 rfl 7 rfl ?_
    refine fm_icmp_gt C 14 dX5_in_7 (by decide) (fun c2 => ?_) 10 rfl (fun c2 => ?_)
    · rw [if_pos c2] at hf
      refine fm_iconst C (x := 0) dX5_in_14 (by decide) 15 rfl ?_
      obtain rfl := Option.some.inj hf
      exact fm_zret C hr hk0 (Or.inl rfl) dX5_in_15
    · rw [if_neg c2] at hf
      refine fm_iconst C (x := 1) dX5_in_10 (by decide) 11 rfl ?_
      refine fm_goto C 15 dX5_in_11 (by decide) ?_
      obtain rfl := Option.some.inj hf
      exact fm_zret C hr hk0 (Or.inr rfl) dX5_in_15
def f_X5_isModule (x1 : Int32) (v : fm_T) : Option (Int32 × fm_T) := ((f_X5_in x1 0 ((v 0 0) - 1) v).bind fun q2 => (if q2.1 = 0 ∨ q2.1 = 1 then some (q2.1, q2.2) else none))
set_option maxHeartbeats 4000000 in
set_option maxRecDepth 20000 in
theorem c_X5_isModule {x1 : Int32}  {v : fm_T} {q : Int32 × fm_T} (hf : f_X5_isModule x1 v = some q) : fm_M l D (fm_tys cI cII cLd cOc) tA b 29 (shM cI b) A yX5_isModule cX5_isModule 2 (some .boolean) 1 [.ref (b + 0), .int x1] v (some (.int q.1)) q.2 := by
  refine fm_entry (by decide) (Nat.le_of_ble_eq_true rfl) ?_
  intro p e R s m args below meth c C hr hk0 hF hLo
  unfold f_X5_isModule at hf
  show fm_V p l e R s m args below meth c D b 29 (shM cI b) A _ 2 0 [(0, .ref (b + 0)), (1, .int x1)] [] v
  refine fm_iload_n C dX5_isModule_0 rfl 1 rfl 1 rfl ?_
  refine fm_iconst C (x := 0) dX5_isModule_1 (by decide) 2 rfl ?_
  refine fm_aload_n C dX5_isModule_2 rfl 0 rfl 3 rfl ?_
  refine fm_get C (t := 0) (by decide) (shM_0 _) rfl inG_X5 0 (by decide) F_X5_94 rfl dX5_isModule_3 6 rfl ?_
  refine fm_iconst C (x := 1) dX5_isModule_6 (by decide) 7 rfl ?_
  refine fm_isub C dX5_isModule_7 8 rfl ?_
  obtain ⟨q2, h1, hf⟩ := Option.bind_eq_some_iff.mp hf
  refine fm_callS C Y_X5_in LS_X5_98 (As := [.int x1, .int 0, .int ((v 0 0) - 1)]) (rest := []) (c_X5_in  h1) (by omega) (by omega) rfl (Nat.le_of_ble_eq_true rfl) dX5_isModule_8 11 rfl [.int q2.1] rfl ?_
  by_cases r3 : q2.1 = 0 ∨ q2.1 = 1
  · rw [if_pos r3] at hf
    obtain rfl := Option.some.inj hf
    exact fm_zret C hr hk0 r3 dX5_isModule_11
  · rw [if_neg r3] at hf; cases hf
def f_X5_isLoader (x0 : Int32) (v : fm_T) : Option (Int32 × fm_T) := ((f_X5_in x0 0 2 v).bind fun q2 => (if q2.1 = 0 ∨ q2.1 = 1 then some (q2.1, q2.2) else none))
set_option maxHeartbeats 4000000 in
set_option maxRecDepth 20000 in
theorem c_X5_isLoader {x0 : Int32}  {v : fm_T} {q : Int32 × fm_T} (hf : f_X5_isLoader x0 v = some q) : fm_M l D (fm_tys cI cII cLd cOc) tA b 29 (shM cI b) A yX5_isLoader cX5_isLoader 1 (some .boolean) 1 [.int x0] v (some (.int q.1)) q.2 := by
  refine fm_entry (by decide) (Nat.le_of_ble_eq_true rfl) ?_
  intro p e R s m args below meth c C hr hk0 hF hLo
  unfold f_X5_isLoader at hf
  show fm_V p l e R s m args below meth c D b 29 (shM cI b) A _ 1 0 [(0, .int x0)] [] v
  refine fm_iload_n C dX5_isLoader_0 rfl 0 rfl 1 rfl ?_
  refine fm_iconst C (x := 0) dX5_isLoader_1 (by decide) 2 rfl ?_
  refine fm_iconst C (x := 2) dX5_isLoader_2 (by decide) 3 rfl ?_
  obtain ⟨q2, h1, hf⟩ := Option.bind_eq_some_iff.mp hf
  refine fm_callS C Y_X5_in LS_X5_98 (As := [.int x0, .int 0, .int 2]) (rest := []) (c_X5_in  h1) (by omega) (by omega) rfl (Nat.le_of_ble_eq_true rfl) dX5_isLoader_3 6 rfl [.int q2.1] rfl ?_
  by_cases r3 : q2.1 = 0 ∨ q2.1 = 1
  · rw [if_pos r3] at hf
    obtain rfl := Option.some.inj hf
    exact fm_zret C hr hk0 r3 dX5_isLoader_6
  · rw [if_neg r3] at hf; cases hf
def f_X5_module (x1 : Int32) (v : fm_T) : Option (Int32 × fm_T) := ((f_X5_in x1 0 8 v).bind fun q2 => (if q2.1 = 0 then some ((-1), q2.2) else (if q2.2 0 0 = 12 then some ((-2), q2.2) else (if q2.2 0 0 < 0 ∨ 12 ≤ (q2.2 0 0).toNatClampNeg then none else ((some (fm_u q2.2 1 ((q2.2 0 0).toNatClampNeg) x1) : Option fm_T).bind fun m7 => ((some (fm_u m7 0 0 ((m7 0 0) + 1)) : Option fm_T).bind fun m9 => some ((m9 0 0) - 1, m9)))))))
set_option maxHeartbeats 4000000 in
set_option maxRecDepth 20000 in
theorem c_X5_module {x1 : Int32}  {v : fm_T} {q : Int32 × fm_T} (hf : f_X5_module x1 v = some q) : fm_M l D (fm_tys cI cII cLd cOc) tA b 29 (shM cI b) A yX5_module cX5_module 2 (some .int) 1 [.ref (b + 0), .int x1] v (some (.int q.1)) q.2 := by
  refine fm_entry (by decide) (Nat.le_of_ble_eq_true rfl) ?_
  intro p e R s m args below meth c C hr hk0 hF hLo
  unfold f_X5_module at hf
  show fm_V p l e R s m args below meth c D b 29 (shM cI b) A _ 2 0 [(0, .ref (b + 0)), (1, .int x1)] [] v
  refine fm_iload_n C dX5_module_0 rfl 1 rfl 1 rfl ?_
  refine fm_iconst C (x := 0) dX5_module_1 (by decide) 2 rfl ?_
  refine fm_bipush C (x := 8) dX5_module_2 (by decide) 4 rfl ?_
  obtain ⟨q2, h1, hf⟩ := Option.bind_eq_some_iff.mp hf
  refine fm_callS C Y_X5_in LS_X5_98 (As := [.int x1, .int 0, .int 8]) (rest := []) (c_X5_in  h1) (by omega) (by omega) rfl (Nat.le_of_ble_eq_true rfl) dX5_module_4 7 rfl [.int q2.1] rfl ?_
  refine fm_if_ne C 12 dX5_module_7 (by decide) (fun c3 => ?_) 10 rfl (fun c3 => ?_)
  · rw [if_neg c3] at hf
    refine fm_aload_n C dX5_module_12 rfl 0 rfl 13 rfl ?_
    refine fm_get C (t := 0) (by decide) (shM_0 _) rfl inG_X5 0 (by decide) F_X5_94 rfl dX5_module_13 16 rfl ?_
    refine fm_bipush C (x := 12) dX5_module_16 (by decide) 18 rfl ?_
    refine fm_icmp_ne C 24 dX5_module_18 (by decide) (fun c4 => ?_) 21 rfl (fun c4 => ?_)
    · rw [if_neg c4] at hf
      refine fm_aload_n C dX5_module_24 rfl 0 rfl 25 rfl ?_
      refine fm_get C (t := 0) (by decide) (shM_0 _) rfl inG_X5 1 (by decide) F_X5_7 rfl dX5_module_25 28 rfl ?_
      refine fm_aload_n C dX5_module_28 rfl 0 rfl 29 rfl ?_
      refine fm_get C (t := 0) (by decide) (shM_0 _) rfl inG_X5 0 (by decide) F_X5_94 rfl dX5_module_29 32 rfl ?_
      refine fm_iload_n C dX5_module_32 rfl 1 rfl 33 rfl ?_
      by_cases b5 : q2.2 0 0 < 0 ∨ 12 ≤ (q2.2 0 0).toNatClampNeg
      · rw [if_pos b5] at hf; cases hf
      rw [if_neg b5] at hf
      obtain ⟨m7, e6, hf⟩ := Option.bind_eq_some_iff.mp hf
      refine fm_iast C (t := 1) (t0 := 0) (by decide) shM_1 rfl b5 dX5_module_33 34 rfl m7 (Option.some.inj e6) ?_
      refine fm_aload_n C dX5_module_34 rfl 0 rfl 35 rfl ?_
      refine fm_dup C dX5_module_35 rfl 36 rfl ?_
      refine fm_get C (t := 0) (by decide) (shM_0 _) rfl inG_X5 0 (by decide) F_X5_94 rfl dX5_module_36 39 rfl ?_
      refine fm_iconst C (x := 1) dX5_module_39 (by decide) 40 rfl ?_
      refine fm_iadd C dX5_module_40 41 rfl ?_
      obtain ⟨m9, e8, hf⟩ := Option.bind_eq_some_iff.mp hf
      refine fm_put C (t := 0) (by decide) (shM_0 _) rfl inG_X5 0 (by decide) F_X5_94 tyX5 tyX5_ok nmX5 rfl (ty := .int) (by decide +kernel) rfl rfl (Nat.le_of_ble_eq_true rfl) ((shM_0 _).trans rfl) dX5_module_41 44 rfl m9 (Option.some.inj e8) ?_
      refine fm_aload_n C dX5_module_44 rfl 0 rfl 45 rfl ?_
      refine fm_get C (t := 0) (by decide) (shM_0 _) rfl inG_X5 0 (by decide) F_X5_94 rfl dX5_module_45 48 rfl ?_
      refine fm_iconst C (x := 1) dX5_module_48 (by decide) 49 rfl ?_
      refine fm_isub C dX5_module_49 50 rfl ?_
      obtain rfl := Option.some.inj hf
      exact fm_iret C hr hk0 dX5_module_50
    · rw [if_pos c4] at hf
      refine fm_bipush C (x := -2) dX5_module_21 (by decide) 23 rfl ?_
      obtain rfl := Option.some.inj hf
      exact fm_iret C hr hk0 dX5_module_23
  · rw [if_pos c3] at hf
    refine fm_iconst C (x := -1) dX5_module_10 (by decide) 11 rfl ?_
    obtain rfl := Option.some.inj hf
    exact fm_iret C hr hk0 dX5_module_11
def f_X5_item (x1 : Int32) (x2 : Int32) (x3 : Int32) (v : fm_T) : Option (Int32 × fm_T) := ((f_X5_isModule x1 v).bind fun q2 => (if q2.1 = 0 then some ((-1), q2.2) else (if x1 < 0 ∨ 12 ≤ x1.toNatClampNeg then none else ((f_X5_in x2 0 ((q2.2 1 x1.toNatClampNeg) - 1) q2.2).bind fun q6 => (if q6.1 = 0 then some ((-1), q6.2) else (if (8 * x1) + x2 < 0 ∨ 96 ≤ ((8 * x1) + x2).toNatClampNeg then none else ((some (fm_u q6.2 2 (((8 * x1) + x2).toNatClampNeg) x3) : Option fm_T).bind fun m10 => some (1, m10))))))))
set_option maxHeartbeats 4000000 in
set_option maxRecDepth 20000 in
theorem c_X5_item {x1 : Int32} {x2 : Int32} {x3 : Int32}  {v : fm_T} {q : Int32 × fm_T} (hf : f_X5_item x1 x2 x3 v = some q) : fm_M l D (fm_tys cI cII cLd cOc) tA b 29 (shM cI b) A yX5_item cX5_item 4 (some .int) 2 [.ref (b + 0), .int x1, .int x2, .int x3] v (some (.int q.1)) q.2 := by
  refine fm_entry (by decide) (Nat.le_of_ble_eq_true rfl) ?_
  intro p e R s m args below meth c C hr hk0 hF hLo
  unfold f_X5_item at hf
  show fm_V p l e R s m args below meth c D b 29 (shM cI b) A _ 4 0 [(0, .ref (b + 0)), (1, .int x1), (2, .int x2), (3, .int x3)] [] v
  refine fm_aload_n C dX5_item_0 rfl 0 rfl 1 rfl ?_
  refine fm_iload_n C dX5_item_1 rfl 1 rfl 2 rfl ?_
  obtain ⟨q2, h1, hf⟩ := Option.bind_eq_some_iff.mp hf
  refine fm_callV C Y_X5_isModule (t := 0) (by decide) (shM_0 _) rfl LM_X5_102 (As := [.int x1]) (rest := []) (c_X5_isModule  h1) (by omega) (by omega) rfl (Nat.le_of_ble_eq_true rfl) dX5_item_2 5 rfl [.int q2.1] rfl ?_
  refine fm_if_eq C 24 dX5_item_5 (by decide) (fun c3 => ?_) 8 rfl (fun c3 => ?_)
  · rw [if_pos c3] at hf
    refine fm_iconst C (x := -1) dX5_item_24 (by decide) 25 rfl ?_
    obtain rfl := Option.some.inj hf
    exact fm_iret C hr hk0 dX5_item_25
  · rw [if_neg c3] at hf
    refine fm_iload_n C dX5_item_8 rfl 2 rfl 9 rfl ?_
    refine fm_iconst C (x := 0) dX5_item_9 (by decide) 10 rfl ?_
    refine fm_aload_n C dX5_item_10 rfl 0 rfl 11 rfl ?_
    refine fm_get C (t := 0) (by decide) (shM_0 _) rfl inG_X5 1 (by decide) F_X5_7 rfl dX5_item_11 14 rfl ?_
    refine fm_iload_n C dX5_item_14 rfl 1 rfl 15 rfl ?_
    by_cases b4 : x1 < 0 ∨ 12 ≤ x1.toNatClampNeg
    · rw [if_pos b4] at hf; cases hf
    rw [if_neg b4] at hf
    refine fm_iald C (t := 1) (t0 := 0) (by decide) (shM_1 _) rfl b4 dX5_item_15 16 rfl ?_
    refine fm_iconst C (x := 1) dX5_item_16 (by decide) 17 rfl ?_
    refine fm_isub C dX5_item_17 18 rfl ?_
    obtain ⟨q6, h5, hf⟩ := Option.bind_eq_some_iff.mp hf
    refine fm_callS C Y_X5_in LS_X5_98 (As := [.int x2, .int 0, .int ((q2.2 1 x1.toNatClampNeg) - 1)]) (rest := []) (c_X5_in  h5) (by omega) (by omega) rfl (Nat.le_of_ble_eq_true rfl) dX5_item_18 21 rfl [.int q6.1] rfl ?_
    refine fm_if_ne C 26 dX5_item_21 (by decide) (fun c7 => ?_) 24 rfl (fun c7 => ?_)
    · rw [if_neg c7] at hf
      refine fm_aload_n C dX5_item_26 rfl 0 rfl 27 rfl ?_
      refine fm_get C (t := 0) (by decide) (shM_0 _) rfl inG_X5 2 (by decide) F_X5_13 rfl dX5_item_27 30 rfl ?_
      refine fm_bipush C (x := 8) dX5_item_30 (by decide) 32 rfl ?_
      refine fm_iload_n C dX5_item_32 rfl 1 rfl 33 rfl ?_
      refine fm_imul C dX5_item_33 34 rfl ?_
      refine fm_iload_n C dX5_item_34 rfl 2 rfl 35 rfl ?_
      refine fm_iadd C dX5_item_35 36 rfl ?_
      refine fm_iload_n C dX5_item_36 rfl 3 rfl 37 rfl ?_
      by_cases b8 : (8 * x1) + x2 < 0 ∨ 96 ≤ ((8 * x1) + x2).toNatClampNeg
      · rw [if_pos b8] at hf; cases hf
      rw [if_neg b8] at hf
      obtain ⟨m10, e9, hf⟩ := Option.bind_eq_some_iff.mp hf
      refine fm_iast C (t := 2) (t0 := 0) (by decide) shM_2 rfl b8 dX5_item_37 38 rfl m10 (Option.some.inj e9) ?_
      refine fm_iconst C (x := 1) dX5_item_38 (by decide) 39 rfl ?_
      obtain rfl := Option.some.inj hf
      exact fm_iret C hr hk0 dX5_item_39
    · rw [if_pos c7] at hf
      refine fm_iconst C (x := -1) dX5_item_24 (by decide) 25 rfl ?_
      obtain rfl := Option.some.inj hf
      exact fm_iret C hr hk0 dX5_item_25
def f_X5_uses (x1 : Int32) (x2 : Int32) (v : fm_T) : Option (Int32 × fm_T) := ((f_X5_isModule x1 v).bind fun q2 => (if q2.1 = 0 then some ((-1), q2.2) else ((f_X5_isModule x2 q2.2).bind fun q5 => (if q5.1 = 0 then some ((-1), q5.2) else (if x1 < 0 ∨ 12 ≤ x1.toNatClampNeg then none else (if q5.2 3 x1.toNatClampNeg = 6 then some ((-2), q5.2) else (if (6 * x1) + (q5.2 3 x1.toNatClampNeg) < 0 ∨ 72 ≤ ((6 * x1) + (q5.2 3 x1.toNatClampNeg)).toNatClampNeg then none else ((some (fm_u q5.2 4 (((6 * x1) + (q5.2 3 x1.toNatClampNeg)).toNatClampNeg) x2) : Option fm_T).bind fun m11 => ((some (fm_u m11 3 x1.toNatClampNeg ((m11 3 x1.toNatClampNeg) + 1)) : Option fm_T).bind fun m13 => some (m13 3 x1.toNatClampNeg, m13))))))))))
set_option maxHeartbeats 4000000 in
set_option maxRecDepth 20000 in
theorem c_X5_uses {x1 : Int32} {x2 : Int32}  {v : fm_T} {q : Int32 × fm_T} (hf : f_X5_uses x1 x2 v = some q) : fm_M l D (fm_tys cI cII cLd cOc) tA b 29 (shM cI b) A yX5_uses cX5_uses 3 (some .int) 2 [.ref (b + 0), .int x1, .int x2] v (some (.int q.1)) q.2 := by
  refine fm_entry (by decide) (Nat.le_of_ble_eq_true rfl) ?_
  intro p e R s m args below meth c C hr hk0 hF hLo
  unfold f_X5_uses at hf
  show fm_V p l e R s m args below meth c D b 29 (shM cI b) A _ 3 0 [(0, .ref (b + 0)), (1, .int x1), (2, .int x2)] [] v
  refine fm_aload_n C dX5_uses_0 rfl 0 rfl 1 rfl ?_
  refine fm_iload_n C dX5_uses_1 rfl 1 rfl 2 rfl ?_
  obtain ⟨q2, h1, hf⟩ := Option.bind_eq_some_iff.mp hf
  refine fm_callV C Y_X5_isModule (t := 0) (by decide) (shM_0 _) rfl LM_X5_102 (As := [.int x1]) (rest := []) (c_X5_isModule  h1) (by omega) (by omega) rfl (Nat.le_of_ble_eq_true rfl) dX5_uses_2 5 rfl [.int q2.1] rfl ?_
  refine fm_if_eq C 16 dX5_uses_5 (by decide) (fun c3 => ?_) 8 rfl (fun c3 => ?_)
  · rw [if_pos c3] at hf
    refine fm_iconst C (x := -1) dX5_uses_16 (by decide) 17 rfl ?_
    obtain rfl := Option.some.inj hf
    exact fm_iret C hr hk0 dX5_uses_17
  · rw [if_neg c3] at hf
    refine fm_aload_n C dX5_uses_8 rfl 0 rfl 9 rfl ?_
    refine fm_iload_n C dX5_uses_9 rfl 2 rfl 10 rfl ?_
    obtain ⟨q5, h4, hf⟩ := Option.bind_eq_some_iff.mp hf
    refine fm_callV C Y_X5_isModule (t := 0) (by decide) (shM_0 _) rfl LM_X5_102 (As := [.int x2]) (rest := []) (c_X5_isModule  h4) (by omega) (by omega) rfl (Nat.le_of_ble_eq_true rfl) dX5_uses_10 13 rfl [.int q5.1] rfl ?_
    refine fm_if_ne C 18 dX5_uses_13 (by decide) (fun c6 => ?_) 16 rfl (fun c6 => ?_)
    · rw [if_neg c6] at hf
      refine fm_aload_n C dX5_uses_18 rfl 0 rfl 19 rfl ?_
      refine fm_get C (t := 0) (by decide) (shM_0 _) rfl inG_X5 3 (by decide) F_X5_16 rfl dX5_uses_19 22 rfl ?_
      refine fm_iload_n C dX5_uses_22 rfl 1 rfl 23 rfl ?_
      by_cases b7 : x1 < 0 ∨ 12 ≤ x1.toNatClampNeg
      · rw [if_pos b7] at hf; cases hf
      rw [if_neg b7] at hf
      refine fm_iald C (t := 3) (t0 := 0) (by decide) (shM_3 _) rfl b7 dX5_uses_23 24 rfl ?_
      refine fm_bipush C (x := 6) dX5_uses_24 (by decide) 26 rfl ?_
      refine fm_icmp_ne C 32 dX5_uses_26 (by decide) (fun c8 => ?_) 29 rfl (fun c8 => ?_)
      · rw [if_neg c8] at hf
        refine fm_aload_n C dX5_uses_32 rfl 0 rfl 33 rfl ?_
        refine fm_get C (t := 0) (by decide) (shM_0 _) rfl inG_X5 4 (by decide) F_X5_19 rfl dX5_uses_33 36 rfl ?_
        refine fm_bipush C (x := 6) dX5_uses_36 (by decide) 38 rfl ?_
        refine fm_iload_n C dX5_uses_38 rfl 1 rfl 39 rfl ?_
        refine fm_imul C dX5_uses_39 40 rfl ?_
        refine fm_aload_n C dX5_uses_40 rfl 0 rfl 41 rfl ?_
        refine fm_get C (t := 0) (by decide) (shM_0 _) rfl inG_X5 3 (by decide) F_X5_16 rfl dX5_uses_41 44 rfl ?_
        refine fm_iload_n C dX5_uses_44 rfl 1 rfl 45 rfl ?_
        refine fm_iald C (t := 3) (t0 := 0) (by decide) (shM_3 _) rfl b7 dX5_uses_45 46 rfl ?_
        refine fm_iadd C dX5_uses_46 47 rfl ?_
        refine fm_iload_n C dX5_uses_47 rfl 2 rfl 48 rfl ?_
        by_cases b9 : (6 * x1) + (q5.2 3 x1.toNatClampNeg) < 0 ∨ 72 ≤ ((6 * x1) + (q5.2 3 x1.toNatClampNeg)).toNatClampNeg
        · rw [if_pos b9] at hf; cases hf
        rw [if_neg b9] at hf
        obtain ⟨m11, e10, hf⟩ := Option.bind_eq_some_iff.mp hf
        refine fm_iast C (t := 4) (t0 := 0) (by decide) shM_4 rfl b9 dX5_uses_48 49 rfl m11 (Option.some.inj e10) ?_
        refine fm_aload_n C dX5_uses_49 rfl 0 rfl 50 rfl ?_
        refine fm_get C (t := 0) (by decide) (shM_0 _) rfl inG_X5 3 (by decide) F_X5_16 rfl dX5_uses_50 53 rfl ?_
        refine fm_iload_n C dX5_uses_53 rfl 1 rfl 54 rfl ?_
        refine fm_dup2 C dX5_uses_54 rfl rfl 55 rfl ?_
        refine fm_iald C (t := 3) (t0 := 0) (by decide) (shM_3 _) rfl b7 dX5_uses_55 56 rfl ?_
        refine fm_iconst C (x := 1) dX5_uses_56 (by decide) 57 rfl ?_
        refine fm_iadd C dX5_uses_57 58 rfl ?_
        obtain ⟨m13, e12, hf⟩ := Option.bind_eq_some_iff.mp hf
        refine fm_iast C (t := 3) (t0 := 0) (by decide) shM_3 rfl b7 dX5_uses_58 59 rfl m13 (Option.some.inj e12) ?_
        refine fm_aload_n C dX5_uses_59 rfl 0 rfl 60 rfl ?_
        refine fm_get C (t := 0) (by decide) (shM_0 _) rfl inG_X5 3 (by decide) F_X5_16 rfl dX5_uses_60 63 rfl ?_
        refine fm_iload_n C dX5_uses_63 rfl 1 rfl 64 rfl ?_
        refine fm_iald C (t := 3) (t0 := 0) (by decide) (shM_3 _) rfl b7 dX5_uses_64 65 rfl ?_
        obtain rfl := Option.some.inj hf
        exact fm_iret C hr hk0 dX5_uses_65
      · rw [if_pos c8] at hf
        refine fm_bipush C (x := -2) dX5_uses_29 (by decide) 31 rfl ?_
        obtain rfl := Option.some.inj hf
        exact fm_iret C hr hk0 dX5_uses_31
    · rw [if_pos c6] at hf
      refine fm_iconst C (x := -1) dX5_uses_16 (by decide) 17 rfl ?_
      obtain rfl := Option.some.inj hf
      exact fm_iret C hr hk0 dX5_uses_17
def f_X5_deed_46  (x1 : Int32) (x2 : Int32) (x3 : Int32) (v : fm_T) : Option (Int32 × fm_T) := (if x1 < 0 ∨ 12 ≤ x1.toNatClampNeg then none else (if v 5 x1.toNatClampNeg = 6 then some ((-2), v) else (if (6 * x1) + (v 5 x1.toNatClampNeg) < 0 ∨ 72 ≤ ((6 * x1) + (v 5 x1.toNatClampNeg)).toNatClampNeg then none else ((some (fm_u v 6 (((6 * x1) + (v 5 x1.toNatClampNeg)).toNatClampNeg) x2) : Option fm_T).bind fun m5 => (if (6 * x1) + (m5 5 x1.toNatClampNeg) < 0 ∨ 72 ≤ ((6 * x1) + (m5 5 x1.toNatClampNeg)).toNatClampNeg then none else ((some (fm_u m5 7 (((6 * x1) + (m5 5 x1.toNatClampNeg)).toNatClampNeg) x3) : Option fm_T).bind fun m8 => ((some (fm_u m8 5 x1.toNatClampNeg ((m8 5 x1.toNatClampNeg) + 1)) : Option fm_T).bind fun m10 => some (m10 5 x1.toNatClampNeg, m10))))))))
set_option maxHeartbeats 4000000 in
set_option maxRecDepth 20000 in
theorem b_X5_deed_46   {p : Program} {e : Env} {R : Room} {s : State} {m : MethodId} {args : Array Value} {below : List Frame} {meth : Method} {c : Code} (C : fm_C p s m args c cX5_deed RX5 4 D (fm_tys cI cII cLd cOc) tA b 29 A) (hr : meth.sig.returnType = (some .int)) (hk0 : meth.locks = false) (hF : 2 ≤ R.frames) (hLo : 40 * 2 ≤ R.locals) (x1 : Int32) (x2 : Int32) (x3 : Int32) (v : fm_T) {q : Int32 × fm_T} (hf : f_X5_deed_46 x1 x2 x3 v = some q) : fm_V p l e R s m args below meth c D b 29 (shM cI b) A (MQ below (fm_Q D b 29 (shM cI b) A (some (.int q.1)) q.2) args s 0 0 A) 4 46 [(0, .ref (b + 0)), (1, .int x1), (2, .int x2), (3, .int x3)] [] v := by
  unfold f_X5_deed_46 at hf
  refine fm_aload_n C dX5_deed_46 rfl 0 rfl 47 rfl ?_
  refine fm_get C (t := 0) (by decide) (shM_0 _) rfl inG_X5 5 (by decide) F_X5_22 rfl dX5_deed_47 50 rfl ?_
  refine fm_iload_n C dX5_deed_50 rfl 1 rfl 51 rfl ?_
  by_cases b1 : x1 < 0 ∨ 12 ≤ x1.toNatClampNeg
  · rw [if_pos b1] at hf; cases hf
  rw [if_neg b1] at hf
  refine fm_iald C (t := 5) (t0 := 0) (by decide) (shM_5 _) rfl b1 dX5_deed_51 52 rfl ?_
  refine fm_bipush C (x := 6) dX5_deed_52 (by decide) 54 rfl ?_
  refine fm_icmp_ne C 60 dX5_deed_54 (by decide) (fun c2 => ?_) 57 rfl (fun c2 => ?_)
  · rw [if_neg c2] at hf
    refine fm_aload_n C dX5_deed_60 rfl 0 rfl 61 rfl ?_
    refine fm_get C (t := 0) (by decide) (shM_0 _) rfl inG_X5 6 (by decide) F_X5_25 rfl dX5_deed_61 64 rfl ?_
    refine fm_bipush C (x := 6) dX5_deed_64 (by decide) 66 rfl ?_
    refine fm_iload_n C dX5_deed_66 rfl 1 rfl 67 rfl ?_
    refine fm_imul C dX5_deed_67 68 rfl ?_
    refine fm_aload_n C dX5_deed_68 rfl 0 rfl 69 rfl ?_
    refine fm_get C (t := 0) (by decide) (shM_0 _) rfl inG_X5 5 (by decide) F_X5_22 rfl dX5_deed_69 72 rfl ?_
    refine fm_iload_n C dX5_deed_72 rfl 1 rfl 73 rfl ?_
    refine fm_iald C (t := 5) (t0 := 0) (by decide) (shM_5 _) rfl b1 dX5_deed_73 74 rfl ?_
    refine fm_iadd C dX5_deed_74 75 rfl ?_
    refine fm_iload_n C dX5_deed_75 rfl 2 rfl 76 rfl ?_
    by_cases b3 : (6 * x1) + (v 5 x1.toNatClampNeg) < 0 ∨ 72 ≤ ((6 * x1) + (v 5 x1.toNatClampNeg)).toNatClampNeg
    · rw [if_pos b3] at hf; cases hf
    rw [if_neg b3] at hf
    obtain ⟨m5, e4, hf⟩ := Option.bind_eq_some_iff.mp hf
    refine fm_iast C (t := 6) (t0 := 0) (by decide) shM_6 rfl b3 dX5_deed_76 77 rfl m5 (Option.some.inj e4) ?_
    refine fm_aload_n C dX5_deed_77 rfl 0 rfl 78 rfl ?_
    refine fm_get C (t := 0) (by decide) (shM_0 _) rfl inG_X5 7 (by decide) F_X5_28 rfl dX5_deed_78 81 rfl ?_
    refine fm_bipush C (x := 6) dX5_deed_81 (by decide) 83 rfl ?_
    refine fm_iload_n C dX5_deed_83 rfl 1 rfl 84 rfl ?_
    refine fm_imul C dX5_deed_84 85 rfl ?_
    refine fm_aload_n C dX5_deed_85 rfl 0 rfl 86 rfl ?_
    refine fm_get C (t := 0) (by decide) (shM_0 _) rfl inG_X5 5 (by decide) F_X5_22 rfl dX5_deed_86 89 rfl ?_
    refine fm_iload_n C dX5_deed_89 rfl 1 rfl 90 rfl ?_
    refine fm_iald C (t := 5) (t0 := 0) (by decide) (shM_5 _) rfl b1 dX5_deed_90 91 rfl ?_
    refine fm_iadd C dX5_deed_91 92 rfl ?_
    refine fm_iload_n C dX5_deed_92 rfl 3 rfl 93 rfl ?_
    by_cases b6 : (6 * x1) + (m5 5 x1.toNatClampNeg) < 0 ∨ 72 ≤ ((6 * x1) + (m5 5 x1.toNatClampNeg)).toNatClampNeg
    · rw [if_pos b6] at hf; cases hf
    rw [if_neg b6] at hf
    obtain ⟨m8, e7, hf⟩ := Option.bind_eq_some_iff.mp hf
    refine fm_iast C (t := 7) (t0 := 0) (by decide) shM_7 rfl b6 dX5_deed_93 94 rfl m8 (Option.some.inj e7) ?_
    refine fm_aload_n C dX5_deed_94 rfl 0 rfl 95 rfl ?_
    refine fm_get C (t := 0) (by decide) (shM_0 _) rfl inG_X5 5 (by decide) F_X5_22 rfl dX5_deed_95 98 rfl ?_
    refine fm_iload_n C dX5_deed_98 rfl 1 rfl 99 rfl ?_
    refine fm_dup2 C dX5_deed_99 rfl rfl 100 rfl ?_
    refine fm_iald C (t := 5) (t0 := 0) (by decide) (shM_5 _) rfl b1 dX5_deed_100 101 rfl ?_
    refine fm_iconst C (x := 1) dX5_deed_101 (by decide) 102 rfl ?_
    refine fm_iadd C dX5_deed_102 103 rfl ?_
    obtain ⟨m10, e9, hf⟩ := Option.bind_eq_some_iff.mp hf
    refine fm_iast C (t := 5) (t0 := 0) (by decide) shM_5 rfl b1 dX5_deed_103 104 rfl m10 (Option.some.inj e9) ?_
    refine fm_aload_n C dX5_deed_104 rfl 0 rfl 105 rfl ?_
    refine fm_get C (t := 0) (by decide) (shM_0 _) rfl inG_X5 5 (by decide) F_X5_22 rfl dX5_deed_105 108 rfl ?_
    refine fm_iload_n C dX5_deed_108 rfl 1 rfl 109 rfl ?_
    refine fm_iald C (t := 5) (t0 := 0) (by decide) (shM_5 _) rfl b1 dX5_deed_109 110 rfl ?_
    obtain rfl := Option.some.inj hf
    exact fm_iret C hr hk0 dX5_deed_110
  · rw [if_pos c2] at hf
    refine fm_bipush C (x := -2) dX5_deed_57 (by decide) 59 rfl ?_
    obtain rfl := Option.some.inj hf
    exact fm_iret C hr hk0 dX5_deed_59
def f_X5_deed_31  (x1 : Int32) (x2 : Int32) (x3 : Int32) (v : fm_T) : Option (Int32 × fm_T) := (if x2 = 1 then ((f_X5_isModule x3 v).bind fun q13 => (if q13.1 = 0 then some ((-1), q13.2) else f_X5_deed_46 x1 x2 x3 q13.2)) else f_X5_deed_46 x1 x2 x3 v)
set_option maxHeartbeats 4000000 in
set_option maxRecDepth 20000 in
theorem b_X5_deed_31   {p : Program} {e : Env} {R : Room} {s : State} {m : MethodId} {args : Array Value} {below : List Frame} {meth : Method} {c : Code} (C : fm_C p s m args c cX5_deed RX5 4 D (fm_tys cI cII cLd cOc) tA b 29 A) (hr : meth.sig.returnType = (some .int)) (hk0 : meth.locks = false) (hF : 2 ≤ R.frames) (hLo : 40 * 2 ≤ R.locals) (x1 : Int32) (x2 : Int32) (x3 : Int32) (v : fm_T) {q : Int32 × fm_T} (hf : f_X5_deed_31 x1 x2 x3 v = some q) : fm_V p l e R s m args below meth c D b 29 (shM cI b) A (MQ below (fm_Q D b 29 (shM cI b) A (some (.int q.1)) q.2) args s 0 0 A) 4 31 [(0, .ref (b + 0)), (1, .int x1), (2, .int x2), (3, .int x3)] [] v := by
  unfold f_X5_deed_31 at hf
  refine fm_iload_n C dX5_deed_31 rfl 2 rfl 32 rfl ?_
  refine fm_iconst C (x := 1) dX5_deed_32 (by decide) 33 rfl ?_
  refine fm_icmp_ne C 46 dX5_deed_33 (by decide) (fun c11 => ?_) 36 rfl (fun c11 => ?_)
  · rw [if_neg c11] at hf
    refine fm_lv [0, 1, 2, 3] [(0, .ref (b + 0)), (1, .int x1), (2, .int x2), (3, .int x3)] rfl ?_
    exact b_X5_deed_46  C hr hk0 hF hLo x1 x2 x3 v hf
  · rw [if_pos c11] at hf
    refine fm_aload_n C dX5_deed_36 rfl 0 rfl 37 rfl ?_
    refine fm_iload_n C dX5_deed_37 rfl 3 rfl 38 rfl ?_
    obtain ⟨q13, h12, hf⟩ := Option.bind_eq_some_iff.mp hf
    refine fm_callV C Y_X5_isModule (t := 0) (by decide) (shM_0 _) rfl LM_X5_102 (As := [.int x3]) (rest := []) (c_X5_isModule  h12) (by omega) (by omega) rfl (Nat.le_of_ble_eq_true rfl) dX5_deed_38 41 rfl [.int q13.1] rfl ?_
    refine fm_if_ne C 46 dX5_deed_41 (by decide) (fun c14 => ?_) 44 rfl (fun c14 => ?_)
    · rw [if_neg c14] at hf
      refine fm_lv [0, 1, 2, 3] [(0, .ref (b + 0)), (1, .int x1), (2, .int x2), (3, .int x3)] rfl ?_
      exact b_X5_deed_46  C hr hk0 hF hLo x1 x2 x3 q13.2 hf
    · rw [if_pos c14] at hf
      refine fm_iconst C (x := -1) dX5_deed_44 (by decide) 45 rfl ?_
      obtain rfl := Option.some.inj hf
      exact fm_iret C hr hk0 dX5_deed_45
def f_X5_deed (x1 : Int32) (x2 : Int32) (x3 : Int32) (v : fm_T) : Option (Int32 × fm_T) := ((f_X5_isModule x1 v).bind fun q16 => (if q16.1 = 0 then some ((-1), q16.2) else ((f_X5_in x2 0 2 q16.2).bind fun q19 => (if q19.1 = 0 then some ((-1), q19.2) else (if x2 = 0 then ((f_X5_in x3 0 39 q19.2).bind fun q23 => (if q23.1 = 0 then some ((-1), q23.2) else f_X5_deed_31 x1 x2 x3 q23.2)) else f_X5_deed_31 x1 x2 x3 q19.2)))))
set_option maxHeartbeats 4000000 in
set_option maxRecDepth 20000 in
theorem c_X5_deed {x1 : Int32} {x2 : Int32} {x3 : Int32}  {v : fm_T} {q : Int32 × fm_T} (hf : f_X5_deed x1 x2 x3 v = some q) : fm_M l D (fm_tys cI cII cLd cOc) tA b 29 (shM cI b) A yX5_deed cX5_deed 4 (some .int) 2 [.ref (b + 0), .int x1, .int x2, .int x3] v (some (.int q.1)) q.2 := by
  refine fm_entry (by decide) (Nat.le_of_ble_eq_true rfl) ?_
  intro p e R s m args below meth c C hr hk0 hF hLo
  unfold f_X5_deed at hf
  show fm_V p l e R s m args below meth c D b 29 (shM cI b) A _ 4 0 [(0, .ref (b + 0)), (1, .int x1), (2, .int x2), (3, .int x3)] [] v
  refine fm_aload_n C dX5_deed_0 rfl 0 rfl 1 rfl ?_
  refine fm_iload_n C dX5_deed_1 rfl 1 rfl 2 rfl ?_
  obtain ⟨q16, h15, hf⟩ := Option.bind_eq_some_iff.mp hf
  refine fm_callV C Y_X5_isModule (t := 0) (by decide) (shM_0 _) rfl LM_X5_102 (As := [.int x1]) (rest := []) (c_X5_isModule  h15) (by omega) (by omega) rfl (Nat.le_of_ble_eq_true rfl) dX5_deed_2 5 rfl [.int q16.1] rfl ?_
  refine fm_if_eq C 44 dX5_deed_5 (by decide) (fun c17 => ?_) 8 rfl (fun c17 => ?_)
  · rw [if_pos c17] at hf
    refine fm_iconst C (x := -1) dX5_deed_44 (by decide) 45 rfl ?_
    obtain rfl := Option.some.inj hf
    exact fm_iret C hr hk0 dX5_deed_45
  · rw [if_neg c17] at hf
    refine fm_iload_n C dX5_deed_8 rfl 2 rfl 9 rfl ?_
    refine fm_iconst C (x := 0) dX5_deed_9 (by decide) 10 rfl ?_
    refine fm_iconst C (x := 2) dX5_deed_10 (by decide) 11 rfl ?_
    obtain ⟨q19, h18, hf⟩ := Option.bind_eq_some_iff.mp hf
    refine fm_callS C Y_X5_in LS_X5_98 (As := [.int x2, .int 0, .int 2]) (rest := []) (c_X5_in  h18) (by omega) (by omega) rfl (Nat.le_of_ble_eq_true rfl) dX5_deed_11 14 rfl [.int q19.1] rfl ?_
    refine fm_if_eq C 44 dX5_deed_14 (by decide) (fun c20 => ?_) 17 rfl (fun c20 => ?_)
    · rw [if_pos c20] at hf
      refine fm_iconst C (x := -1) dX5_deed_44 (by decide) 45 rfl ?_
      obtain rfl := Option.some.inj hf
      exact fm_iret C hr hk0 dX5_deed_45
    · rw [if_neg c20] at hf
      refine fm_iload_n C dX5_deed_17 rfl 2 rfl 18 rfl ?_
      refine fm_if_ne C 31 dX5_deed_18 (by decide) (fun c21 => ?_) 21 rfl (fun c21 => ?_)
      · rw [if_neg c21] at hf
        refine fm_lv [0, 1, 2, 3] [(0, .ref (b + 0)), (1, .int x1), (2, .int x2), (3, .int x3)] rfl ?_
        exact b_X5_deed_31  C hr hk0 hF hLo x1 x2 x3 q19.2 hf
      · rw [if_pos c21] at hf
        refine fm_iload_n C dX5_deed_21 rfl 3 rfl 22 rfl ?_
        refine fm_iconst C (x := 0) dX5_deed_22 (by decide) 23 rfl ?_
        refine fm_bipush C (x := 39) dX5_deed_23 (by decide) 25 rfl ?_
        obtain ⟨q23, h22, hf⟩ := Option.bind_eq_some_iff.mp hf
        refine fm_callS C Y_X5_in LS_X5_98 (As := [.int x3, .int 0, .int 39]) (rest := []) (c_X5_in  h22) (by omega) (by omega) rfl (Nat.le_of_ble_eq_true rfl) dX5_deed_25 28 rfl [.int q23.1] rfl ?_
        refine fm_if_eq C 44 dX5_deed_28 (by decide) (fun c24 => ?_) 31 rfl (fun c24 => ?_)
        · rw [if_pos c24] at hf
          refine fm_iconst C (x := -1) dX5_deed_44 (by decide) 45 rfl ?_
          obtain rfl := Option.some.inj hf
          exact fm_iret C hr hk0 dX5_deed_45
        · rw [if_neg c24] at hf
          refine fm_lv [0, 1, 2, 3] [(0, .ref (b + 0)), (1, .int x1), (2, .int x2), (3, .int x3)] rfl ?_
          exact b_X5_deed_31  C hr hk0 hF hLo x1 x2 x3 q23.2 hf
def f_X5_constant_138  (x1 : Int32) (x2 : Int32) (x3 : Int32) (x4 : Int32) (x5 : Int32) (x6 : Int32) (x7 : Int32) (v : fm_T) : Option (Int32 × fm_T) := (if v 0 8 = 40 then some ((-2), v) else (if v 0 8 < 0 ∨ 40 ≤ (v 0 8).toNatClampNeg then none else ((some (fm_u v 8 ((v 0 8).toNatClampNeg) x1) : Option fm_T).bind fun m4 => (if m4 0 8 < 0 ∨ 40 ≤ (m4 0 8).toNatClampNeg then none else ((some (fm_u m4 9 ((m4 0 8).toNatClampNeg) x2) : Option fm_T).bind fun m7 => (if m7 0 8 < 0 ∨ 40 ≤ (m7 0 8).toNatClampNeg then none else ((some (fm_u m7 10 ((m7 0 8).toNatClampNeg) x3) : Option fm_T).bind fun m10 => (if m10 0 8 < 0 ∨ 40 ≤ (m10 0 8).toNatClampNeg then none else ((some (fm_u m10 11 ((m10 0 8).toNatClampNeg) x4) : Option fm_T).bind fun m13 => (if m13 0 8 < 0 ∨ 40 ≤ (m13 0 8).toNatClampNeg then none else ((some (fm_u m13 12 ((m13 0 8).toNatClampNeg) x5) : Option fm_T).bind fun m16 => ((some (fm_u m16 0 8 ((m16 0 8) + 1)) : Option fm_T).bind fun m18 => some ((m18 0 8) - 1, m18)))))))))))))
set_option maxHeartbeats 4000000 in
set_option maxRecDepth 20000 in
theorem b_X5_constant_138   {p : Program} {e : Env} {R : Room} {s : State} {m : MethodId} {args : Array Value} {below : List Frame} {meth : Method} {c : Code} (C : fm_C p s m args c cX5_constant RX5 8 D (fm_tys cI cII cLd cOc) tA b 29 A) (hr : meth.sig.returnType = (some .int)) (hk0 : meth.locks = false) (hF : 2 ≤ R.frames) (hLo : 40 * 2 ≤ R.locals) (x1 : Int32) (x2 : Int32) (x3 : Int32) (x4 : Int32) (x5 : Int32) (x6 : Int32) (x7 : Int32) (v : fm_T) {q : Int32 × fm_T} (hf : f_X5_constant_138 x1 x2 x3 x4 x5 x6 x7 v = some q) : fm_V p l e R s m args below meth c D b 29 (shM cI b) A (MQ below (fm_Q D b 29 (shM cI b) A (some (.int q.1)) q.2) args s 0 0 A) 8 138 [(0, .ref (b + 0)), (1, .int x1), (2, .int x2), (3, .int x3), (4, .int x4), (5, .int x5), (6, .int x6), (7, .int x7)] [] v := by
  unfold f_X5_constant_138 at hf
  refine fm_aload_n C dX5_constant_138 rfl 0 rfl 139 rfl ?_
  refine fm_get C (t := 0) (by decide) (shM_0 _) rfl inG_X5 8 (by decide) F_X5_106 rfl dX5_constant_139 142 rfl ?_
  refine fm_bipush C (x := 40) dX5_constant_142 (by decide) 144 rfl ?_
  refine fm_icmp_ne C 150 dX5_constant_144 (by decide) (fun c1 => ?_) 147 rfl (fun c1 => ?_)
  · rw [if_neg c1] at hf
    refine fm_aload_n C dX5_constant_150 rfl 0 rfl 151 rfl ?_
    refine fm_get C (t := 0) (by decide) (shM_0 _) rfl inG_X5 9 (by decide) F_X5_31 rfl dX5_constant_151 154 rfl ?_
    refine fm_aload_n C dX5_constant_154 rfl 0 rfl 155 rfl ?_
    refine fm_get C (t := 0) (by decide) (shM_0 _) rfl inG_X5 8 (by decide) F_X5_106 rfl dX5_constant_155 158 rfl ?_
    refine fm_iload_n C dX5_constant_158 rfl 1 rfl 159 rfl ?_
    by_cases b2 : v 0 8 < 0 ∨ 40 ≤ (v 0 8).toNatClampNeg
    · rw [if_pos b2] at hf; cases hf
    rw [if_neg b2] at hf
    obtain ⟨m4, e3, hf⟩ := Option.bind_eq_some_iff.mp hf
    refine fm_iast C (t := 8) (t0 := 0) (by decide) shM_8 rfl b2 dX5_constant_159 160 rfl m4 (Option.some.inj e3) ?_
    refine fm_aload_n C dX5_constant_160 rfl 0 rfl 161 rfl ?_
    refine fm_get C (t := 0) (by decide) (shM_0 _) rfl inG_X5 10 (by decide) F_X5_34 rfl dX5_constant_161 164 rfl ?_
    refine fm_aload_n C dX5_constant_164 rfl 0 rfl 165 rfl ?_
    refine fm_get C (t := 0) (by decide) (shM_0 _) rfl inG_X5 8 (by decide) F_X5_106 rfl dX5_constant_165 168 rfl ?_
    refine fm_iload_n C dX5_constant_168 rfl 2 rfl 169 rfl ?_
    by_cases b5 : m4 0 8 < 0 ∨ 40 ≤ (m4 0 8).toNatClampNeg
    · rw [if_pos b5] at hf; cases hf
    rw [if_neg b5] at hf
    obtain ⟨m7, e6, hf⟩ := Option.bind_eq_some_iff.mp hf
    refine fm_iast C (t := 9) (t0 := 0) (by decide) shM_9 rfl b5 dX5_constant_169 170 rfl m7 (Option.some.inj e6) ?_
    refine fm_aload_n C dX5_constant_170 rfl 0 rfl 171 rfl ?_
    refine fm_get C (t := 0) (by decide) (shM_0 _) rfl inG_X5 11 (by decide) F_X5_37 rfl dX5_constant_171 174 rfl ?_
    refine fm_aload_n C dX5_constant_174 rfl 0 rfl 175 rfl ?_
    refine fm_get C (t := 0) (by decide) (shM_0 _) rfl inG_X5 8 (by decide) F_X5_106 rfl dX5_constant_175 178 rfl ?_
    refine fm_iload_n C dX5_constant_178 rfl 3 rfl 179 rfl ?_
    by_cases b8 : m7 0 8 < 0 ∨ 40 ≤ (m7 0 8).toNatClampNeg
    · rw [if_pos b8] at hf; cases hf
    rw [if_neg b8] at hf
    obtain ⟨m10, e9, hf⟩ := Option.bind_eq_some_iff.mp hf
    refine fm_iast C (t := 10) (t0 := 0) (by decide) shM_10 rfl b8 dX5_constant_179 180 rfl m10 (Option.some.inj e9) ?_
    refine fm_aload_n C dX5_constant_180 rfl 0 rfl 181 rfl ?_
    refine fm_get C (t := 0) (by decide) (shM_0 _) rfl inG_X5 12 (by decide) F_X5_40 rfl dX5_constant_181 184 rfl ?_
    refine fm_aload_n C dX5_constant_184 rfl 0 rfl 185 rfl ?_
    refine fm_get C (t := 0) (by decide) (shM_0 _) rfl inG_X5 8 (by decide) F_X5_106 rfl dX5_constant_185 188 rfl ?_
    refine fm_iload C dX5_constant_188 4 rfl 190 rfl ?_
    by_cases b11 : m10 0 8 < 0 ∨ 40 ≤ (m10 0 8).toNatClampNeg
    · rw [if_pos b11] at hf; cases hf
    rw [if_neg b11] at hf
    obtain ⟨m13, e12, hf⟩ := Option.bind_eq_some_iff.mp hf
    refine fm_iast C (t := 11) (t0 := 0) (by decide) shM_11 rfl b11 dX5_constant_190 191 rfl m13 (Option.some.inj e12) ?_
    refine fm_aload_n C dX5_constant_191 rfl 0 rfl 192 rfl ?_
    refine fm_get C (t := 0) (by decide) (shM_0 _) rfl inG_X5 13 (by decide) F_X5_43 rfl dX5_constant_192 195 rfl ?_
    refine fm_aload_n C dX5_constant_195 rfl 0 rfl 196 rfl ?_
    refine fm_get C (t := 0) (by decide) (shM_0 _) rfl inG_X5 8 (by decide) F_X5_106 rfl dX5_constant_196 199 rfl ?_
    refine fm_iload C dX5_constant_199 5 rfl 201 rfl ?_
    by_cases b14 : m13 0 8 < 0 ∨ 40 ≤ (m13 0 8).toNatClampNeg
    · rw [if_pos b14] at hf; cases hf
    rw [if_neg b14] at hf
    obtain ⟨m16, e15, hf⟩ := Option.bind_eq_some_iff.mp hf
    refine fm_iast C (t := 12) (t0 := 0) (by decide) shM_12 rfl b14 dX5_constant_201 202 rfl m16 (Option.some.inj e15) ?_
    refine fm_aload_n C dX5_constant_202 rfl 0 rfl 203 rfl ?_
    refine fm_dup C dX5_constant_203 rfl 204 rfl ?_
    refine fm_get C (t := 0) (by decide) (shM_0 _) rfl inG_X5 8 (by decide) F_X5_106 rfl dX5_constant_204 207 rfl ?_
    refine fm_iconst C (x := 1) dX5_constant_207 (by decide) 208 rfl ?_
    refine fm_iadd C dX5_constant_208 209 rfl ?_
    obtain ⟨m18, e17, hf⟩ := Option.bind_eq_some_iff.mp hf
    refine fm_put C (t := 0) (by decide) (shM_0 _) rfl inG_X5 8 (by decide) F_X5_106 tyX5 tyX5_ok nmX5 rfl (ty := .int) (by decide +kernel) rfl rfl (Nat.le_of_ble_eq_true rfl) ((shM_0 _).trans rfl) dX5_constant_209 212 rfl m18 (Option.some.inj e17) ?_
    refine fm_aload_n C dX5_constant_212 rfl 0 rfl 213 rfl ?_
    refine fm_get C (t := 0) (by decide) (shM_0 _) rfl inG_X5 8 (by decide) F_X5_106 rfl dX5_constant_213 216 rfl ?_
    refine fm_iconst C (x := 1) dX5_constant_216 (by decide) 217 rfl ?_
    refine fm_isub C dX5_constant_217 218 rfl ?_
    obtain rfl := Option.some.inj hf
    exact fm_iret C hr hk0 dX5_constant_218
  · rw [if_pos c1] at hf
    refine fm_bipush C (x := -2) dX5_constant_147 (by decide) 149 rfl ?_
    obtain rfl := Option.some.inj hf
    exact fm_iret C hr hk0 dX5_constant_149
def f_X5_constant_117  (x1 : Int32) (x2 : Int32) (x3 : Int32) (x4 : Int32) (x5 : Int32) (x6 : Int32) (x7 : Int32) (v : fm_T) : Option (Int32 × fm_T) := ((f_X5_in x2 8 10 v).bind fun q20 => (if q20.1 = 0 then f_X5_constant_138 x1 x2 x3 x4 x5 x6 x7 q20.2 else ((f_X5_isModule x3 q20.2).bind fun q23 => (if q23.1 = 0 then some ((-1), q23.2) else f_X5_constant_138 x1 x2 x3 x4 x5 x6 x7 q23.2))))
set_option maxHeartbeats 4000000 in
set_option maxRecDepth 20000 in
theorem b_X5_constant_117   {p : Program} {e : Env} {R : Room} {s : State} {m : MethodId} {args : Array Value} {below : List Frame} {meth : Method} {c : Code} (C : fm_C p s m args c cX5_constant RX5 8 D (fm_tys cI cII cLd cOc) tA b 29 A) (hr : meth.sig.returnType = (some .int)) (hk0 : meth.locks = false) (hF : 2 ≤ R.frames) (hLo : 40 * 2 ≤ R.locals) (x1 : Int32) (x2 : Int32) (x3 : Int32) (x4 : Int32) (x5 : Int32) (x6 : Int32) (x7 : Int32) (v : fm_T) {q : Int32 × fm_T} (hf : f_X5_constant_117 x1 x2 x3 x4 x5 x6 x7 v = some q) : fm_V p l e R s m args below meth c D b 29 (shM cI b) A (MQ below (fm_Q D b 29 (shM cI b) A (some (.int q.1)) q.2) args s 0 0 A) 8 117 [(0, .ref (b + 0)), (1, .int x1), (2, .int x2), (3, .int x3), (4, .int x4), (5, .int x5), (6, .int x6), (7, .int x7)] [] v := by
  unfold f_X5_constant_117 at hf
  refine fm_iload_n C dX5_constant_117 rfl 2 rfl 118 rfl ?_
  refine fm_bipush C (x := 8) dX5_constant_118 (by decide) 120 rfl ?_
  refine fm_bipush C (x := 10) dX5_constant_120 (by decide) 122 rfl ?_
  obtain ⟨q20, h19, hf⟩ := Option.bind_eq_some_iff.mp hf
  refine fm_callS C Y_X5_in LS_X5_98 (As := [.int x2, .int 8, .int 10]) (rest := []) (c_X5_in  h19) (by omega) (by omega) rfl (Nat.le_of_ble_eq_true rfl) dX5_constant_122 125 rfl [.int q20.1] rfl ?_
  refine fm_if_eq C 138 dX5_constant_125 (by decide) (fun c21 => ?_) 128 rfl (fun c21 => ?_)
  · rw [if_pos c21] at hf
    refine fm_lv [0, 1, 2, 3, 4, 5, 6, 7] [(0, .ref (b + 0)), (1, .int x1), (2, .int x2), (3, .int x3), (4, .int x4), (5, .int x5), (6, .int x6), (7, .int x7)] rfl ?_
    exact b_X5_constant_138  C hr hk0 hF hLo x1 x2 x3 x4 x5 x6 x7 q20.2 hf
  · rw [if_neg c21] at hf
    refine fm_aload_n C dX5_constant_128 rfl 0 rfl 129 rfl ?_
    refine fm_iload_n C dX5_constant_129 rfl 3 rfl 130 rfl ?_
    obtain ⟨q23, h22, hf⟩ := Option.bind_eq_some_iff.mp hf
    refine fm_callV C Y_X5_isModule (t := 0) (by decide) (shM_0 _) rfl LM_X5_102 (As := [.int x3]) (rest := []) (c_X5_isModule  h22) (by omega) (by omega) rfl (Nat.le_of_ble_eq_true rfl) dX5_constant_130 133 rfl [.int q23.1] rfl ?_
    refine fm_if_ne C 138 dX5_constant_133 (by decide) (fun c24 => ?_) 136 rfl (fun c24 => ?_)
    · rw [if_neg c24] at hf
      refine fm_lv [0, 1, 2, 3, 4, 5, 6, 7] [(0, .ref (b + 0)), (1, .int x1), (2, .int x2), (3, .int x3), (4, .int x4), (5, .int x5), (6, .int x6), (7, .int x7)] rfl ?_
      exact b_X5_constant_138  C hr hk0 hF hLo x1 x2 x3 x4 x5 x6 x7 q23.2 hf
    · rw [if_pos c24] at hf
      refine fm_iconst C (x := -1) dX5_constant_136 (by decide) 137 rfl ?_
      obtain rfl := Option.some.inj hf
      exact fm_iret C hr hk0 dX5_constant_137
def f_X5_constant_100  (x1 : Int32) (x2 : Int32) (x3 : Int32) (x4 : Int32) (x5 : Int32) (x6 : Int32) (x7 : Int32) (v : fm_T) : Option (Int32 × fm_T) := (if x2 = 7 then ((f_X5_in x5 0 39 v).bind fun q27 => (if q27.1 = 0 then some ((-1), q27.2) else f_X5_constant_117 x1 x2 x3 x4 x5 x6 x7 q27.2)) else f_X5_constant_117 x1 x2 x3 x4 x5 x6 x7 v)
set_option maxHeartbeats 4000000 in
set_option maxRecDepth 20000 in
theorem b_X5_constant_100   {p : Program} {e : Env} {R : Room} {s : State} {m : MethodId} {args : Array Value} {below : List Frame} {meth : Method} {c : Code} (C : fm_C p s m args c cX5_constant RX5 8 D (fm_tys cI cII cLd cOc) tA b 29 A) (hr : meth.sig.returnType = (some .int)) (hk0 : meth.locks = false) (hF : 2 ≤ R.frames) (hLo : 40 * 2 ≤ R.locals) (x1 : Int32) (x2 : Int32) (x3 : Int32) (x4 : Int32) (x5 : Int32) (x6 : Int32) (x7 : Int32) (v : fm_T) {q : Int32 × fm_T} (hf : f_X5_constant_100 x1 x2 x3 x4 x5 x6 x7 v = some q) : fm_V p l e R s m args below meth c D b 29 (shM cI b) A (MQ below (fm_Q D b 29 (shM cI b) A (some (.int q.1)) q.2) args s 0 0 A) 8 100 [(0, .ref (b + 0)), (1, .int x1), (2, .int x2), (3, .int x3), (4, .int x4), (5, .int x5), (6, .int x6), (7, .int x7)] [] v := by
  unfold f_X5_constant_100 at hf
  refine fm_iload_n C dX5_constant_100 rfl 2 rfl 101 rfl ?_
  refine fm_bipush C (x := 7) dX5_constant_101 (by decide) 103 rfl ?_
  refine fm_icmp_ne C 117 dX5_constant_103 (by decide) (fun c25 => ?_) 106 rfl (fun c25 => ?_)
  · rw [if_neg c25] at hf
    refine fm_lv [0, 1, 2, 3, 4, 5, 6, 7] [(0, .ref (b + 0)), (1, .int x1), (2, .int x2), (3, .int x3), (4, .int x4), (5, .int x5), (6, .int x6), (7, .int x7)] rfl ?_
    exact b_X5_constant_117  C hr hk0 hF hLo x1 x2 x3 x4 x5 x6 x7 v hf
  · rw [if_pos c25] at hf
    refine fm_iload C dX5_constant_106 5 rfl 108 rfl ?_
    refine fm_iconst C (x := 0) dX5_constant_108 (by decide) 109 rfl ?_
    refine fm_bipush C (x := 39) dX5_constant_109 (by decide) 111 rfl ?_
    obtain ⟨q27, h26, hf⟩ := Option.bind_eq_some_iff.mp hf
    refine fm_callS C Y_X5_in LS_X5_98 (As := [.int x5, .int 0, .int 39]) (rest := []) (c_X5_in  h26) (by omega) (by omega) rfl (Nat.le_of_ble_eq_true rfl) dX5_constant_111 114 rfl [.int q27.1] rfl ?_
    refine fm_if_eq C 136 dX5_constant_114 (by decide) (fun c28 => ?_) 117 rfl (fun c28 => ?_)
    · rw [if_pos c28] at hf
      refine fm_iconst C (x := -1) dX5_constant_136 (by decide) 137 rfl ?_
      obtain rfl := Option.some.inj hf
      exact fm_iret C hr hk0 dX5_constant_137
    · rw [if_neg c28] at hf
      refine fm_lv [0, 1, 2, 3, 4, 5, 6, 7] [(0, .ref (b + 0)), (1, .int x1), (2, .int x2), (3, .int x3), (4, .int x4), (5, .int x5), (6, .int x6), (7, .int x7)] rfl ?_
      exact b_X5_constant_117  C hr hk0 hF hLo x1 x2 x3 x4 x5 x6 x7 q27.2 hf
def f_X5_constant_84  (x1 : Int32) (x2 : Int32) (x3 : Int32) (x4 : Int32) (x5 : Int32) (x6 : Int32) (x7 : Int32) (v : fm_T) : Option (Int32 × fm_T) := (if x7 = 0 then f_X5_constant_100 x1 x2 x3 x4 x5 x6 x7 v else ((f_X5_in x4 0 39 v).bind fun q31 => (if q31.1 = 0 then some ((-1), q31.2) else f_X5_constant_100 x1 x2 x3 x4 x5 x6 x7 q31.2)))
set_option maxHeartbeats 4000000 in
set_option maxRecDepth 20000 in
theorem b_X5_constant_84   {p : Program} {e : Env} {R : Room} {s : State} {m : MethodId} {args : Array Value} {below : List Frame} {meth : Method} {c : Code} (C : fm_C p s m args c cX5_constant RX5 8 D (fm_tys cI cII cLd cOc) tA b 29 A) (hr : meth.sig.returnType = (some .int)) (hk0 : meth.locks = false) (hF : 2 ≤ R.frames) (hLo : 40 * 2 ≤ R.locals) (x1 : Int32) (x2 : Int32) (x3 : Int32) (x4 : Int32) (x5 : Int32) (x6 : Int32) (x7 : Int32) (v : fm_T) {q : Int32 × fm_T} (hf : f_X5_constant_84 x1 x2 x3 x4 x5 x6 x7 v = some q) : fm_V p l e R s m args below meth c D b 29 (shM cI b) A (MQ below (fm_Q D b 29 (shM cI b) A (some (.int q.1)) q.2) args s 0 0 A) 8 84 [(0, .ref (b + 0)), (1, .int x1), (2, .int x2), (3, .int x3), (4, .int x4), (5, .int x5), (6, .int x6), (7, .int x7)] [] v := by
  unfold f_X5_constant_84 at hf
  refine fm_iload C dX5_constant_84 7 rfl 86 rfl ?_
  refine fm_if_eq C 100 dX5_constant_86 (by decide) (fun c29 => ?_) 89 rfl (fun c29 => ?_)
  · rw [if_pos c29] at hf
    refine fm_lv [0, 1, 2, 3, 4, 5, 6, 7] [(0, .ref (b + 0)), (1, .int x1), (2, .int x2), (3, .int x3), (4, .int x4), (5, .int x5), (6, .int x6), (7, .int x7)] rfl ?_
    exact b_X5_constant_100  C hr hk0 hF hLo x1 x2 x3 x4 x5 x6 x7 v hf
  · rw [if_neg c29] at hf
    refine fm_iload C dX5_constant_89 4 rfl 91 rfl ?_
    refine fm_iconst C (x := 0) dX5_constant_91 (by decide) 92 rfl ?_
    refine fm_bipush C (x := 39) dX5_constant_92 (by decide) 94 rfl ?_
    obtain ⟨q31, h30, hf⟩ := Option.bind_eq_some_iff.mp hf
    refine fm_callS C Y_X5_in LS_X5_98 (As := [.int x4, .int 0, .int 39]) (rest := []) (c_X5_in  h30) (by omega) (by omega) rfl (Nat.le_of_ble_eq_true rfl) dX5_constant_94 97 rfl [.int q31.1] rfl ?_
    refine fm_if_eq C 136 dX5_constant_97 (by decide) (fun c32 => ?_) 100 rfl (fun c32 => ?_)
    · rw [if_pos c32] at hf
      refine fm_iconst C (x := -1) dX5_constant_136 (by decide) 137 rfl ?_
      obtain rfl := Option.some.inj hf
      exact fm_iret C hr hk0 dX5_constant_137
    · rw [if_neg c32] at hf
      refine fm_lv [0, 1, 2, 3, 4, 5, 6, 7] [(0, .ref (b + 0)), (1, .int x1), (2, .int x2), (3, .int x3), (4, .int x4), (5, .int x5), (6, .int x6), (7, .int x7)] rfl ?_
      exact b_X5_constant_100  C hr hk0 hF hLo x1 x2 x3 x4 x5 x6 x7 q31.2 hf
def f_X5_constant_51  (x1 : Int32) (x2 : Int32) (x3 : Int32) (x4 : Int32) (x5 : Int32) (x6 : Int32) (x7 : Int32) (v : fm_T) : Option (Int32 × fm_T) := ((f_X5_isModule x1 v).bind fun q34 => (if q34.1 = 0 then some ((-1), q34.2) else ((f_X5_in x2 0 11 q34.2).bind fun q37 => (if q37.1 = 0 then some ((-1), q37.2) else (if x6 = 0 then f_X5_constant_84 x1 x2 x3 x4 x5 x6 x7 q37.2 else ((f_X5_in x3 0 39 q37.2).bind fun q41 => (if q41.1 = 0 then some ((-1), q41.2) else f_X5_constant_84 x1 x2 x3 x4 x5 x6 x7 q41.2)))))))
set_option maxHeartbeats 4000000 in
set_option maxRecDepth 20000 in
theorem b_X5_constant_51   {p : Program} {e : Env} {R : Room} {s : State} {m : MethodId} {args : Array Value} {below : List Frame} {meth : Method} {c : Code} (C : fm_C p s m args c cX5_constant RX5 8 D (fm_tys cI cII cLd cOc) tA b 29 A) (hr : meth.sig.returnType = (some .int)) (hk0 : meth.locks = false) (hF : 2 ≤ R.frames) (hLo : 40 * 2 ≤ R.locals) (x1 : Int32) (x2 : Int32) (x3 : Int32) (x4 : Int32) (x5 : Int32) (x6 : Int32) (x7 : Int32) (v : fm_T) {q : Int32 × fm_T} (hf : f_X5_constant_51 x1 x2 x3 x4 x5 x6 x7 v = some q) : fm_V p l e R s m args below meth c D b 29 (shM cI b) A (MQ below (fm_Q D b 29 (shM cI b) A (some (.int q.1)) q.2) args s 0 0 A) 8 51 [(0, .ref (b + 0)), (1, .int x1), (2, .int x2), (3, .int x3), (4, .int x4), (5, .int x5), (6, .int x6), (7, .int x7)] [] v := by
  unfold f_X5_constant_51 at hf
  refine fm_aload_n C dX5_constant_51 rfl 0 rfl 52 rfl ?_
  refine fm_iload_n C dX5_constant_52 rfl 1 rfl 53 rfl ?_
  obtain ⟨q34, h33, hf⟩ := Option.bind_eq_some_iff.mp hf
  refine fm_callV C Y_X5_isModule (t := 0) (by decide) (shM_0 _) rfl LM_X5_102 (As := [.int x1]) (rest := []) (c_X5_isModule  h33) (by omega) (by omega) rfl (Nat.le_of_ble_eq_true rfl) dX5_constant_53 56 rfl [.int q34.1] rfl ?_
  refine fm_if_eq C 136 dX5_constant_56 (by decide) (fun c35 => ?_) 59 rfl (fun c35 => ?_)
  · rw [if_pos c35] at hf
    refine fm_iconst C (x := -1) dX5_constant_136 (by decide) 137 rfl ?_
    obtain rfl := Option.some.inj hf
    exact fm_iret C hr hk0 dX5_constant_137
  · rw [if_neg c35] at hf
    refine fm_iload_n C dX5_constant_59 rfl 2 rfl 60 rfl ?_
    refine fm_iconst C (x := 0) dX5_constant_60 (by decide) 61 rfl ?_
    refine fm_bipush C (x := 11) dX5_constant_61 (by decide) 63 rfl ?_
    obtain ⟨q37, h36, hf⟩ := Option.bind_eq_some_iff.mp hf
    refine fm_callS C Y_X5_in LS_X5_98 (As := [.int x2, .int 0, .int 11]) (rest := []) (c_X5_in  h36) (by omega) (by omega) rfl (Nat.le_of_ble_eq_true rfl) dX5_constant_63 66 rfl [.int q37.1] rfl ?_
    refine fm_if_eq C 136 dX5_constant_66 (by decide) (fun c38 => ?_) 69 rfl (fun c38 => ?_)
    · rw [if_pos c38] at hf
      refine fm_iconst C (x := -1) dX5_constant_136 (by decide) 137 rfl ?_
      obtain rfl := Option.some.inj hf
      exact fm_iret C hr hk0 dX5_constant_137
    · rw [if_neg c38] at hf
      refine fm_iload C dX5_constant_69 6 rfl 71 rfl ?_
      refine fm_if_eq C 84 dX5_constant_71 (by decide) (fun c39 => ?_) 74 rfl (fun c39 => ?_)
      · rw [if_pos c39] at hf
        refine fm_lv [0, 1, 2, 3, 4, 5, 6, 7] [(0, .ref (b + 0)), (1, .int x1), (2, .int x2), (3, .int x3), (4, .int x4), (5, .int x5), (6, .int x6), (7, .int x7)] rfl ?_
        exact b_X5_constant_84  C hr hk0 hF hLo x1 x2 x3 x4 x5 x6 x7 q37.2 hf
      · rw [if_neg c39] at hf
        refine fm_iload_n C dX5_constant_74 rfl 3 rfl 75 rfl ?_
        refine fm_iconst C (x := 0) dX5_constant_75 (by decide) 76 rfl ?_
        refine fm_bipush C (x := 39) dX5_constant_76 (by decide) 78 rfl ?_
        obtain ⟨q41, h40, hf⟩ := Option.bind_eq_some_iff.mp hf
        refine fm_callS C Y_X5_in LS_X5_98 (As := [.int x3, .int 0, .int 39]) (rest := []) (c_X5_in  h40) (by omega) (by omega) rfl (Nat.le_of_ble_eq_true rfl) dX5_constant_78 81 rfl [.int q41.1] rfl ?_
        refine fm_if_eq C 136 dX5_constant_81 (by decide) (fun c42 => ?_) 84 rfl (fun c42 => ?_)
        · rw [if_pos c42] at hf
          refine fm_iconst C (x := -1) dX5_constant_136 (by decide) 137 rfl ?_
          obtain rfl := Option.some.inj hf
          exact fm_iret C hr hk0 dX5_constant_137
        · rw [if_neg c42] at hf
          refine fm_lv [0, 1, 2, 3, 4, 5, 6, 7] [(0, .ref (b + 0)), (1, .int x1), (2, .int x2), (3, .int x3), (4, .int x4), (5, .int x5), (6, .int x6), (7, .int x7)] rfl ?_
          exact b_X5_constant_84  C hr hk0 hF hLo x1 x2 x3 x4 x5 x6 x7 q41.2 hf
def f_X5_constant_28  (x1 : Int32) (x2 : Int32) (x3 : Int32) (x4 : Int32) (x5 : Int32) (x6 : Int32) (v : fm_T) : Option (Int32 × fm_T) := (if x2 = 2 then f_X5_constant_51 x1 x2 x3 x4 x5 x6 1 v else (if x2 = 3 then f_X5_constant_51 x1 x2 x3 x4 x5 x6 1 v else (if x2 = 7 then f_X5_constant_51 x1 x2 x3 x4 x5 x6 1 v else f_X5_constant_51 x1 x2 x3 x4 x5 x6 0 v)))
set_option maxHeartbeats 4000000 in
set_option maxRecDepth 20000 in
theorem b_X5_constant_28   {p : Program} {e : Env} {R : Room} {s : State} {m : MethodId} {args : Array Value} {below : List Frame} {meth : Method} {c : Code} (C : fm_C p s m args c cX5_constant RX5 8 D (fm_tys cI cII cLd cOc) tA b 29 A) (hr : meth.sig.returnType = (some .int)) (hk0 : meth.locks = false) (hF : 2 ≤ R.frames) (hLo : 40 * 2 ≤ R.locals) (x1 : Int32) (x2 : Int32) (x3 : Int32) (x4 : Int32) (x5 : Int32) (x6 : Int32) (v : fm_T) {q : Int32 × fm_T} (hf : f_X5_constant_28 x1 x2 x3 x4 x5 x6 v = some q) : fm_V p l e R s m args below meth c D b 29 (shM cI b) A (MQ below (fm_Q D b 29 (shM cI b) A (some (.int q.1)) q.2) args s 0 0 A) 8 28 [(0, .ref (b + 0)), (1, .int x1), (2, .int x2), (3, .int x3), (4, .int x4), (5, .int x5), (6, .int x6)] [] v := by
  unfold f_X5_constant_28 at hf
  refine fm_iload_n C dX5_constant_28 rfl 2 rfl 29 rfl ?_
  refine fm_iconst C (x := 2) dX5_constant_29 (by decide) 30 rfl ?_
  refine fm_icmp_eq C 44 dX5_constant_30 (by decide) (fun c43 => ?_) 33 rfl (fun c43 => ?_)
  · rw [if_pos c43] at hf
    refine fm_iconst C (x := 1) dX5_constant_44 (by decide) 45 rfl ?_
    refine fm_goto C 49 dX5_constant_45 (by decide) ?_
    refine fm_istore C [(7, .int 1), (0, .ref (b + 0)), (1, .int x1), (2, .int x2), (3, .int x3), (4, .int x4), (5, .int x5), (6, .int x6)] dX5_constant_49 (by decide) rfl 51 rfl ?_
    refine fm_lv [1, 2, 3, 4, 5, 6, 7, 0] [(0, .ref (b + 0)), (1, .int x1), (2, .int x2), (3, .int x3), (4, .int x4), (5, .int x5), (6, .int x6), (7, .int 1)] rfl ?_
    exact b_X5_constant_51  C hr hk0 hF hLo x1 x2 x3 x4 x5 x6 1 v hf
  · rw [if_neg c43] at hf
    refine fm_iload_n C dX5_constant_33 rfl 2 rfl 34 rfl ?_
    refine fm_iconst C (x := 3) dX5_constant_34 (by decide) 35 rfl ?_
    refine fm_icmp_eq C 44 dX5_constant_35 (by decide) (fun c44 => ?_) 38 rfl (fun c44 => ?_)
    · rw [if_pos c44] at hf
      refine fm_iconst C (x := 1) dX5_constant_44 (by decide) 45 rfl ?_
      refine fm_goto C 49 dX5_constant_45 (by decide) ?_
      refine fm_istore C [(7, .int 1), (0, .ref (b + 0)), (1, .int x1), (2, .int x2), (3, .int x3), (4, .int x4), (5, .int x5), (6, .int x6)] dX5_constant_49 (by decide) rfl 51 rfl ?_
      refine fm_lv [1, 2, 3, 4, 5, 6, 7, 0] [(0, .ref (b + 0)), (1, .int x1), (2, .int x2), (3, .int x3), (4, .int x4), (5, .int x5), (6, .int x6), (7, .int 1)] rfl ?_
      exact b_X5_constant_51  C hr hk0 hF hLo x1 x2 x3 x4 x5 x6 1 v hf
    · rw [if_neg c44] at hf
      refine fm_iload_n C dX5_constant_38 rfl 2 rfl 39 rfl ?_
      refine fm_bipush C (x := 7) dX5_constant_39 (by decide) 41 rfl ?_
      refine fm_icmp_ne C 48 dX5_constant_41 (by decide) (fun c45 => ?_) 44 rfl (fun c45 => ?_)
      · rw [if_neg c45] at hf
        refine fm_iconst C (x := 0) dX5_constant_48 (by decide) 49 rfl ?_
        refine fm_istore C [(7, .int 0), (0, .ref (b + 0)), (1, .int x1), (2, .int x2), (3, .int x3), (4, .int x4), (5, .int x5), (6, .int x6)] dX5_constant_49 (by decide) rfl 51 rfl ?_
        refine fm_lv [1, 2, 3, 4, 5, 6, 7, 0] [(0, .ref (b + 0)), (1, .int x1), (2, .int x2), (3, .int x3), (4, .int x4), (5, .int x5), (6, .int x6), (7, .int 0)] rfl ?_
        exact b_X5_constant_51  C hr hk0 hF hLo x1 x2 x3 x4 x5 x6 0 v hf
      · rw [if_pos c45] at hf
        refine fm_iconst C (x := 1) dX5_constant_44 (by decide) 45 rfl ?_
        refine fm_goto C 49 dX5_constant_45 (by decide) ?_
        refine fm_istore C [(7, .int 1), (0, .ref (b + 0)), (1, .int x1), (2, .int x2), (3, .int x3), (4, .int x4), (5, .int x5), (6, .int x6)] dX5_constant_49 (by decide) rfl 51 rfl ?_
        refine fm_lv [1, 2, 3, 4, 5, 6, 7, 0] [(0, .ref (b + 0)), (1, .int x1), (2, .int x2), (3, .int x3), (4, .int x4), (5, .int x5), (6, .int x6), (7, .int 1)] rfl ?_
        exact b_X5_constant_51  C hr hk0 hF hLo x1 x2 x3 x4 x5 x6 1 v hf
def f_X5_constant (x1 : Int32) (x2 : Int32) (x3 : Int32) (x4 : Int32) (x5 : Int32) (v : fm_T) : Option (Int32 × fm_T) := ((f_X5_in x2 1 5 v).bind fun q47 => (if q47.1 = 0 then (if x2 = 7 then f_X5_constant_28 x1 x2 x3 x4 x5 1 q47.2 else (if x2 = 11 then f_X5_constant_28 x1 x2 x3 x4 x5 1 q47.2 else f_X5_constant_28 x1 x2 x3 x4 x5 0 q47.2)) else f_X5_constant_28 x1 x2 x3 x4 x5 1 q47.2))
set_option maxHeartbeats 4000000 in
set_option maxRecDepth 20000 in
theorem c_X5_constant {x1 : Int32} {x2 : Int32} {x3 : Int32} {x4 : Int32} {x5 : Int32}  {v : fm_T} {q : Int32 × fm_T} (hf : f_X5_constant x1 x2 x3 x4 x5 v = some q) : fm_M l D (fm_tys cI cII cLd cOc) tA b 29 (shM cI b) A yX5_constant cX5_constant 8 (some .int) 2 [.ref (b + 0), .int x1, .int x2, .int x3, .int x4, .int x5] v (some (.int q.1)) q.2 := by
  refine fm_entry (by decide) (Nat.le_of_ble_eq_true rfl) ?_
  intro p e R s m args below meth c C hr hk0 hF hLo
  unfold f_X5_constant at hf
  show fm_V p l e R s m args below meth c D b 29 (shM cI b) A _ 8 0 [(0, .ref (b + 0)), (1, .int x1), (2, .int x2), (3, .int x3), (4, .int x4), (5, .int x5)] [] v
  refine fm_iload_n C dX5_constant_0 rfl 2 rfl 1 rfl ?_
  refine fm_iconst C (x := 1) dX5_constant_1 (by decide) 2 rfl ?_
  refine fm_iconst C (x := 5) dX5_constant_2 (by decide) 3 rfl ?_
  obtain ⟨q47, h46, hf⟩ := Option.bind_eq_some_iff.mp hf
  refine fm_callS C Y_X5_in LS_X5_98 (As := [.int x2, .int 1, .int 5]) (rest := []) (c_X5_in  h46) (by omega) (by omega) rfl (Nat.le_of_ble_eq_true rfl) dX5_constant_3 6 rfl [.int q47.1] rfl ?_
  refine fm_if_ne C 21 dX5_constant_6 (by decide) (fun c48 => ?_) 9 rfl (fun c48 => ?_)
  · rw [if_neg c48] at hf
    refine fm_iconst C (x := 1) dX5_constant_21 (by decide) 22 rfl ?_
    refine fm_goto C 26 dX5_constant_22 (by decide) ?_
    refine fm_istore C [(6, .int 1), (0, .ref (b + 0)), (1, .int x1), (2, .int x2), (3, .int x3), (4, .int x4), (5, .int x5)] dX5_constant_26 (by decide) rfl 28 rfl ?_
    refine fm_lv [1, 2, 3, 4, 5, 6, 0] [(0, .ref (b + 0)), (1, .int x1), (2, .int x2), (3, .int x3), (4, .int x4), (5, .int x5), (6, .int 1)] rfl ?_
    exact b_X5_constant_28  C hr hk0 hF hLo x1 x2 x3 x4 x5 1 q47.2 hf
  · rw [if_pos c48] at hf
    refine fm_iload_n C dX5_constant_9 rfl 2 rfl 10 rfl ?_
    refine fm_bipush C (x := 7) dX5_constant_10 (by decide) 12 rfl ?_
    refine fm_icmp_eq C 21 dX5_constant_12 (by decide) (fun c49 => ?_) 15 rfl (fun c49 => ?_)
    · rw [if_pos c49] at hf
      refine fm_iconst C (x := 1) dX5_constant_21 (by decide) 22 rfl ?_
      refine fm_goto C 26 dX5_constant_22 (by decide) ?_
      refine fm_istore C [(6, .int 1), (0, .ref (b + 0)), (1, .int x1), (2, .int x2), (3, .int x3), (4, .int x4), (5, .int x5)] dX5_constant_26 (by decide) rfl 28 rfl ?_
      refine fm_lv [1, 2, 3, 4, 5, 6, 0] [(0, .ref (b + 0)), (1, .int x1), (2, .int x2), (3, .int x3), (4, .int x4), (5, .int x5), (6, .int 1)] rfl ?_
      exact b_X5_constant_28  C hr hk0 hF hLo x1 x2 x3 x4 x5 1 q47.2 hf
    · rw [if_neg c49] at hf
      refine fm_iload_n C dX5_constant_15 rfl 2 rfl 16 rfl ?_
      refine fm_bipush C (x := 11) dX5_constant_16 (by decide) 18 rfl ?_
      refine fm_icmp_ne C 25 dX5_constant_18 (by decide) (fun c50 => ?_) 21 rfl (fun c50 => ?_)
      · rw [if_neg c50] at hf
        refine fm_iconst C (x := 0) dX5_constant_25 (by decide) 26 rfl ?_
        refine fm_istore C [(6, .int 0), (0, .ref (b + 0)), (1, .int x1), (2, .int x2), (3, .int x3), (4, .int x4), (5, .int x5)] dX5_constant_26 (by decide) rfl 28 rfl ?_
        refine fm_lv [1, 2, 3, 4, 5, 6, 0] [(0, .ref (b + 0)), (1, .int x1), (2, .int x2), (3, .int x3), (4, .int x4), (5, .int x5), (6, .int 0)] rfl ?_
        exact b_X5_constant_28  C hr hk0 hF hLo x1 x2 x3 x4 x5 0 q47.2 hf
      · rw [if_pos c50] at hf
        refine fm_iconst C (x := 1) dX5_constant_21 (by decide) 22 rfl ?_
        refine fm_goto C 26 dX5_constant_22 (by decide) ?_
        refine fm_istore C [(6, .int 1), (0, .ref (b + 0)), (1, .int x1), (2, .int x2), (3, .int x3), (4, .int x4), (5, .int x5)] dX5_constant_26 (by decide) rfl 28 rfl ?_
        refine fm_lv [1, 2, 3, 4, 5, 6, 0] [(0, .ref (b + 0)), (1, .int x1), (2, .int x2), (3, .int x3), (4, .int x4), (5, .int x5), (6, .int 1)] rfl ?_
        exact b_X5_constant_28  C hr hk0 hF hLo x1 x2 x3 x4 x5 1 q47.2 hf
def f_X5_push (x1 : Int32) (x2 : Int32) (v : fm_T) : Option (Int32 × fm_T) := (if v 0 32 < 0 ∨ 200 ≤ (v 0 32).toNatClampNeg then none else ((some (fm_u v 22 ((v 0 32).toNatClampNeg) x1) : Option fm_T).bind fun m3 => (if m3 0 32 < 0 ∨ 200 ≤ (m3 0 32).toNatClampNeg then none else ((some (fm_u m3 23 ((m3 0 32).toNatClampNeg) x2) : Option fm_T).bind fun m6 => (if m6 0 32 < 0 ∨ 200 ≤ (m6 0 32).toNatClampNeg then none else ((some (fm_u m6 24 ((m6 0 32).toNatClampNeg) 0) : Option fm_T).bind fun m9 => (if m9 0 32 < 0 ∨ 200 ≤ (m9 0 32).toNatClampNeg then none else ((some (fm_u m9 25 ((m9 0 32).toNatClampNeg) 0) : Option fm_T).bind fun m12 => ((some (fm_u m12 0 32 ((m12 0 32) + 1)) : Option fm_T).bind fun m14 => some (0, m14))))))))))
set_option maxHeartbeats 4000000 in
set_option maxRecDepth 20000 in
theorem c_X5_push {x1 : Int32} {x2 : Int32}  {v : fm_T} {q : Int32 × fm_T} (hf : f_X5_push x1 x2 v = some q) : fm_M l D (fm_tys cI cII cLd cOc) tA b 29 (shM cI b) A yX5_push cX5_push 3 none 0 [.ref (b + 0), .int x1, .int x2] v none q.2 := by
  refine fm_entry (by decide) (Nat.le_of_ble_eq_true rfl) ?_
  intro p e R s m args below meth c C hr hk0 hF hLo
  unfold f_X5_push at hf
  show fm_V p l e R s m args below meth c D b 29 (shM cI b) A _ 3 0 [(0, .ref (b + 0)), (1, .int x1), (2, .int x2)] [] v
  refine fm_aload_n C dX5_push_0 rfl 0 rfl 1 rfl ?_
  refine fm_get C (t := 0) (by decide) (shM_0 _) rfl inG_X5 28 (by decide) F_X5_73 rfl dX5_push_1 4 rfl ?_
  refine fm_aload_n C dX5_push_4 rfl 0 rfl 5 rfl ?_
  refine fm_get C (t := 0) (by decide) (shM_0 _) rfl inG_X5 32 (by decide) F_X5_109 rfl dX5_push_5 8 rfl ?_
  refine fm_iload_n C dX5_push_8 rfl 1 rfl 9 rfl ?_
  by_cases b1 : v 0 32 < 0 ∨ 200 ≤ (v 0 32).toNatClampNeg
  · rw [if_pos b1] at hf; cases hf
  rw [if_neg b1] at hf
  obtain ⟨m3, e2, hf⟩ := Option.bind_eq_some_iff.mp hf
  refine fm_iast C (t := 22) (t0 := 0) (by decide) shM_22 rfl b1 dX5_push_9 10 rfl m3 (Option.some.inj e2) ?_
  refine fm_aload_n C dX5_push_10 rfl 0 rfl 11 rfl ?_
  refine fm_get C (t := 0) (by decide) (shM_0 _) rfl inG_X5 29 (by decide) F_X5_76 rfl dX5_push_11 14 rfl ?_
  refine fm_aload_n C dX5_push_14 rfl 0 rfl 15 rfl ?_
  refine fm_get C (t := 0) (by decide) (shM_0 _) rfl inG_X5 32 (by decide) F_X5_109 rfl dX5_push_15 18 rfl ?_
  refine fm_iload_n C dX5_push_18 rfl 2 rfl 19 rfl ?_
  by_cases b4 : m3 0 32 < 0 ∨ 200 ≤ (m3 0 32).toNatClampNeg
  · rw [if_pos b4] at hf; cases hf
  rw [if_neg b4] at hf
  obtain ⟨m6, e5, hf⟩ := Option.bind_eq_some_iff.mp hf
  refine fm_iast C (t := 23) (t0 := 0) (by decide) shM_23 rfl b4 dX5_push_19 20 rfl m6 (Option.some.inj e5) ?_
  refine fm_aload_n C dX5_push_20 rfl 0 rfl 21 rfl ?_
  refine fm_get C (t := 0) (by decide) (shM_0 _) rfl inG_X5 30 (by decide) F_X5_79 rfl dX5_push_21 24 rfl ?_
  refine fm_aload_n C dX5_push_24 rfl 0 rfl 25 rfl ?_
  refine fm_get C (t := 0) (by decide) (shM_0 _) rfl inG_X5 32 (by decide) F_X5_109 rfl dX5_push_25 28 rfl ?_
  refine fm_iconst C (x := 0) dX5_push_28 (by decide) 29 rfl ?_
  by_cases b7 : m6 0 32 < 0 ∨ 200 ≤ (m6 0 32).toNatClampNeg
  · rw [if_pos b7] at hf; cases hf
  rw [if_neg b7] at hf
  obtain ⟨m9, e8, hf⟩ := Option.bind_eq_some_iff.mp hf
  refine fm_iast C (t := 24) (t0 := 0) (by decide) shM_24 rfl b7 dX5_push_29 30 rfl m9 (Option.some.inj e8) ?_
  refine fm_aload_n C dX5_push_30 rfl 0 rfl 31 rfl ?_
  refine fm_get C (t := 0) (by decide) (shM_0 _) rfl inG_X5 31 (by decide) F_X5_82 rfl dX5_push_31 34 rfl ?_
  refine fm_aload_n C dX5_push_34 rfl 0 rfl 35 rfl ?_
  refine fm_get C (t := 0) (by decide) (shM_0 _) rfl inG_X5 32 (by decide) F_X5_109 rfl dX5_push_35 38 rfl ?_
  refine fm_iconst C (x := 0) dX5_push_38 (by decide) 39 rfl ?_
  by_cases b10 : m9 0 32 < 0 ∨ 200 ≤ (m9 0 32).toNatClampNeg
  · rw [if_pos b10] at hf; cases hf
  rw [if_neg b10] at hf
  obtain ⟨m12, e11, hf⟩ := Option.bind_eq_some_iff.mp hf
  refine fm_iast C (t := 25) (t0 := 0) (by decide) shM_25 rfl b10 dX5_push_39 40 rfl m12 (Option.some.inj e11) ?_
  refine fm_aload_n C dX5_push_40 rfl 0 rfl 41 rfl ?_
  refine fm_dup C dX5_push_41 rfl 42 rfl ?_
  refine fm_get C (t := 0) (by decide) (shM_0 _) rfl inG_X5 32 (by decide) F_X5_109 rfl dX5_push_42 45 rfl ?_
  refine fm_iconst C (x := 1) dX5_push_45 (by decide) 46 rfl ?_
  refine fm_iadd C dX5_push_46 47 rfl ?_
  obtain ⟨m14, e13, hf⟩ := Option.bind_eq_some_iff.mp hf
  refine fm_put C (t := 0) (by decide) (shM_0 _) rfl inG_X5 32 (by decide) F_X5_109 tyX5 tyX5_ok nmX5 rfl (ty := .int) (by decide +kernel) rfl rfl (Nat.le_of_ble_eq_true rfl) ((shM_0 _).trans rfl) dX5_push_47 50 rfl m14 (Option.some.inj e13) ?_
  obtain rfl := Option.some.inj hf
  exact fm_vret C hr hk0 dX5_push_50
def f_X5_mark (x1 : Int32) (x2 : Int32) (v : fm_T) : Option (Int32 × fm_T) := (if v 0 23 = 0 then some (0, v) else (if 200 ≤ v 0 22 then some (0, v) else (if 2 * (v 0 22) < 0 ∨ 400 ≤ (2 * (v 0 22)).toNatClampNeg then none else ((some (fm_u v 20 ((2 * (v 0 22)).toNatClampNeg) x1) : Option fm_T).bind fun m5 => (if (2 * (m5 0 22)) + 1 < 0 ∨ 400 ≤ ((2 * (m5 0 22)) + 1).toNatClampNeg then none else ((some (fm_u m5 20 (((2 * (m5 0 22)) + 1).toNatClampNeg) x2) : Option fm_T).bind fun m8 => ((some (fm_u m8 0 22 ((m8 0 22) + 1)) : Option fm_T).bind fun m10 => some (0, m10))))))))
set_option maxHeartbeats 4000000 in
set_option maxRecDepth 20000 in
theorem c_X5_mark {x1 : Int32} {x2 : Int32}  {v : fm_T} {q : Int32 × fm_T} (hf : f_X5_mark x1 x2 v = some q) : fm_M l D (fm_tys cI cII cLd cOc) tA b 29 (shM cI b) A yX5_mark cX5_mark 3 none 0 [.ref (b + 0), .int x1, .int x2] v none q.2 := by
  refine fm_entry (by decide) (Nat.le_of_ble_eq_true rfl) ?_
  intro p e R s m args below meth c C hr hk0 hF hLo
  unfold f_X5_mark at hf
  show fm_V p l e R s m args below meth c D b 29 (shM cI b) A _ 3 0 [(0, .ref (b + 0)), (1, .int x1), (2, .int x2)] [] v
  refine fm_aload_n C dX5_mark_0 rfl 0 rfl 1 rfl ?_
  refine fm_get C (t := 0) (by decide) (shM_0 _) rfl inG_X5 23 (by decide) F_X5_112 rfl dX5_mark_1 4 rfl ?_
  refine fm_if_eq C 53 dX5_mark_4 (by decide) (fun c1 => ?_) 7 rfl (fun c1 => ?_)
  · rw [if_pos c1] at hf
    obtain rfl := Option.some.inj hf
    exact fm_vret C hr hk0 dX5_mark_53
  · rw [if_neg c1] at hf
    refine fm_aload_n C dX5_mark_7 rfl 0 rfl 8 rfl ?_
    refine fm_get C (t := 0) (by decide) (shM_0 _) rfl inG_X5 22 (by decide) F_X5_116 rfl dX5_mark_8 11 rfl ?_
    refine fm_sipush C (x := 200) dX5_mark_11 (by decide) 14 rfl ?_
    refine fm_icmp_ge C 53 dX5_mark_14 (by decide) (fun c2 => ?_) 17 rfl (fun c2 => ?_)
    · rw [if_pos c2] at hf
      obtain rfl := Option.some.inj hf
      exact fm_vret C hr hk0 dX5_mark_53
    · rw [if_neg c2] at hf
      refine fm_aload_n C dX5_mark_17 rfl 0 rfl 18 rfl ?_
      refine fm_get C (t := 0) (by decide) (shM_0 _) rfl inG_X5 21 (by decide) F_X5_67 rfl dX5_mark_18 21 rfl ?_
      refine fm_iconst C (x := 2) dX5_mark_21 (by decide) 22 rfl ?_
      refine fm_aload_n C dX5_mark_22 rfl 0 rfl 23 rfl ?_
      refine fm_get C (t := 0) (by decide) (shM_0 _) rfl inG_X5 22 (by decide) F_X5_116 rfl dX5_mark_23 26 rfl ?_
      refine fm_imul C dX5_mark_26 27 rfl ?_
      refine fm_iload_n C dX5_mark_27 rfl 1 rfl 28 rfl ?_
      by_cases b3 : 2 * (v 0 22) < 0 ∨ 400 ≤ (2 * (v 0 22)).toNatClampNeg
      · rw [if_pos b3] at hf; cases hf
      rw [if_neg b3] at hf
      obtain ⟨m5, e4, hf⟩ := Option.bind_eq_some_iff.mp hf
      refine fm_iast C (t := 20) (t0 := 0) (by decide) shM_20 rfl b3 dX5_mark_28 29 rfl m5 (Option.some.inj e4) ?_
      refine fm_aload_n C dX5_mark_29 rfl 0 rfl 30 rfl ?_
      refine fm_get C (t := 0) (by decide) (shM_0 _) rfl inG_X5 21 (by decide) F_X5_67 rfl dX5_mark_30 33 rfl ?_
      refine fm_iconst C (x := 2) dX5_mark_33 (by decide) 34 rfl ?_
      refine fm_aload_n C dX5_mark_34 rfl 0 rfl 35 rfl ?_
      refine fm_get C (t := 0) (by decide) (shM_0 _) rfl inG_X5 22 (by decide) F_X5_116 rfl dX5_mark_35 38 rfl ?_
      refine fm_imul C dX5_mark_38 39 rfl ?_
      refine fm_iconst C (x := 1) dX5_mark_39 (by decide) 40 rfl ?_
      refine fm_iadd C dX5_mark_40 41 rfl ?_
      refine fm_iload_n C dX5_mark_41 rfl 2 rfl 42 rfl ?_
      by_cases b6 : (2 * (m5 0 22)) + 1 < 0 ∨ 400 ≤ ((2 * (m5 0 22)) + 1).toNatClampNeg
      · rw [if_pos b6] at hf; cases hf
      rw [if_neg b6] at hf
      obtain ⟨m8, e7, hf⟩ := Option.bind_eq_some_iff.mp hf
      refine fm_iast C (t := 20) (t0 := 0) (by decide) shM_20 rfl b6 dX5_mark_42 43 rfl m8 (Option.some.inj e7) ?_
      refine fm_aload_n C dX5_mark_43 rfl 0 rfl 44 rfl ?_
      refine fm_dup C dX5_mark_44 rfl 45 rfl ?_
      refine fm_get C (t := 0) (by decide) (shM_0 _) rfl inG_X5 22 (by decide) F_X5_116 rfl dX5_mark_45 48 rfl ?_
      refine fm_iconst C (x := 1) dX5_mark_48 (by decide) 49 rfl ?_
      refine fm_iadd C dX5_mark_49 50 rfl ?_
      obtain ⟨m10, e9, hf⟩ := Option.bind_eq_some_iff.mp hf
      refine fm_put C (t := 0) (by decide) (shM_0 _) rfl inG_X5 22 (by decide) F_X5_116 tyX5 tyX5_ok nmX5 rfl (ty := .int) (by decide +kernel) rfl rfl (Nat.le_of_ble_eq_true rfl) ((shM_0 _).trans rfl) dX5_mark_50 53 rfl m10 (Option.some.inj e9) ?_
      obtain rfl := Option.some.inj hf
      exact fm_vret C hr hk0 dX5_mark_53
def f_X5_fails (x1 : Int32) (x2 : Int32) (v : fm_T) : Option (Int32 × fm_T) := ((some (fm_u v 0 34 x1) : Option fm_T).bind fun m2 => ((some (fm_u m2 0 35 x2) : Option fm_T).bind fun m4 => ((some (fm_u m4 0 36 x1) : Option fm_T).bind fun m6 => ((some (fm_u m6 0 37 x2) : Option fm_T).bind fun m8 => some (0, m8)))))
set_option maxHeartbeats 4000000 in
set_option maxRecDepth 20000 in
theorem c_X5_fails {x1 : Int32} {x2 : Int32}  {v : fm_T} {q : Int32 × fm_T} (hf : f_X5_fails x1 x2 v = some q) : fm_M l D (fm_tys cI cII cLd cOc) tA b 29 (shM cI b) A yX5_fails cX5_fails 3 none 0 [.ref (b + 0), .int x1, .int x2] v none q.2 := by
  refine fm_entry (by decide) (Nat.le_of_ble_eq_true rfl) ?_
  intro p e R s m args below meth c C hr hk0 hF hLo
  unfold f_X5_fails at hf
  show fm_V p l e R s m args below meth c D b 29 (shM cI b) A _ 3 0 [(0, .ref (b + 0)), (1, .int x1), (2, .int x2)] [] v
  refine fm_aload_n C dX5_fails_0 rfl 0 rfl 1 rfl ?_
  refine fm_iload_n C dX5_fails_1 rfl 1 rfl 2 rfl ?_
  obtain ⟨m2, e1, hf⟩ := Option.bind_eq_some_iff.mp hf
  refine fm_put C (t := 0) (by decide) (shM_0 _) rfl inG_X5 34 (by decide) F_X5_119 tyX5 tyX5_ok nmX5 rfl (ty := .int) (by decide +kernel) rfl rfl (Nat.le_of_ble_eq_true rfl) ((shM_0 _).trans rfl) dX5_fails_2 5 rfl m2 (Option.some.inj e1) ?_
  refine fm_aload_n C dX5_fails_5 rfl 0 rfl 6 rfl ?_
  refine fm_iload_n C dX5_fails_6 rfl 2 rfl 7 rfl ?_
  obtain ⟨m4, e3, hf⟩ := Option.bind_eq_some_iff.mp hf
  refine fm_put C (t := 0) (by decide) (shM_0 _) rfl inG_X5 35 (by decide) F_X5_122 tyX5 tyX5_ok nmX5 rfl (ty := .int) (by decide +kernel) rfl rfl (Nat.le_of_ble_eq_true rfl) ((shM_0 _).trans rfl) dX5_fails_7 10 rfl m4 (Option.some.inj e3) ?_
  refine fm_aload_n C dX5_fails_10 rfl 0 rfl 11 rfl ?_
  refine fm_iload_n C dX5_fails_11 rfl 1 rfl 12 rfl ?_
  obtain ⟨m6, e5, hf⟩ := Option.bind_eq_some_iff.mp hf
  refine fm_put C (t := 0) (by decide) (shM_0 _) rfl inG_X5 36 (by decide) F_X5_125 tyX5 tyX5_ok nmX5 rfl (ty := .int) (by decide +kernel) rfl rfl (Nat.le_of_ble_eq_true rfl) ((shM_0 _).trans rfl) dX5_fails_12 15 rfl m6 (Option.some.inj e5) ?_
  refine fm_aload_n C dX5_fails_15 rfl 0 rfl 16 rfl ?_
  refine fm_iload_n C dX5_fails_16 rfl 2 rfl 17 rfl ?_
  obtain ⟨m8, e7, hf⟩ := Option.bind_eq_some_iff.mp hf
  refine fm_put C (t := 0) (by decide) (shM_0 _) rfl inG_X5 37 (by decide) F_X5_128 tyX5 tyX5_ok nmX5 rfl (ty := .int) (by decide +kernel) rfl rfl (Nat.le_of_ble_eq_true rfl) ((shM_0 _).trans rfl) dX5_fails_17 20 rfl m8 (Option.some.inj e7) ?_
  obtain rfl := Option.some.inj hf
  exact fm_vret C hr hk0 dX5_fails_20
def f_X5_gives (x1 : Int32) (v : fm_T) : Option (Int32 × fm_T) := ((some (fm_u v 0 34 0) : Option fm_T).bind fun m2 => ((some (fm_u m2 0 33 x1) : Option fm_T).bind fun m4 => some (0, m4)))
set_option maxHeartbeats 4000000 in
set_option maxRecDepth 20000 in
theorem c_X5_gives {x1 : Int32}  {v : fm_T} {q : Int32 × fm_T} (hf : f_X5_gives x1 v = some q) : fm_M l D (fm_tys cI cII cLd cOc) tA b 29 (shM cI b) A yX5_gives cX5_gives 2 none 0 [.ref (b + 0), .int x1] v none q.2 := by
  refine fm_entry (by decide) (Nat.le_of_ble_eq_true rfl) ?_
  intro p e R s m args below meth c C hr hk0 hF hLo
  unfold f_X5_gives at hf
  show fm_V p l e R s m args below meth c D b 29 (shM cI b) A _ 2 0 [(0, .ref (b + 0)), (1, .int x1)] [] v
  refine fm_aload_n C dX5_gives_0 rfl 0 rfl 1 rfl ?_
  refine fm_iconst C (x := 0) dX5_gives_1 (by decide) 2 rfl ?_
  obtain ⟨m2, e1, hf⟩ := Option.bind_eq_some_iff.mp hf
  refine fm_put C (t := 0) (by decide) (shM_0 _) rfl inG_X5 34 (by decide) F_X5_119 tyX5 tyX5_ok nmX5 rfl (ty := .int) (by decide +kernel) rfl rfl (Nat.le_of_ble_eq_true rfl) ((shM_0 _).trans rfl) dX5_gives_2 5 rfl m2 (Option.some.inj e1) ?_
  refine fm_aload_n C dX5_gives_5 rfl 0 rfl 6 rfl ?_
  refine fm_iload_n C dX5_gives_6 rfl 1 rfl 7 rfl ?_
  obtain ⟨m4, e3, hf⟩ := Option.bind_eq_some_iff.mp hf
  refine fm_put C (t := 0) (by decide) (shM_0 _) rfl inG_X5 33 (by decide) F_X5_131 tyX5 tyX5_ok nmX5 rfl (ty := .int) (by decide +kernel) rfl rfl (Nat.le_of_ble_eq_true rfl) ((shM_0 _).trans rfl) dX5_gives_7 10 rfl m4 (Option.some.inj e3) ?_
  obtain rfl := Option.some.inj hf
  exact fm_vret C hr hk0 dX5_gives_10
def f_X5_ends (x1 : Int32) (x2 : Int32) (v : fm_T) : Option (Int32 × fm_T) := (if v 0 34 ≤ 0 then (if (40 * x1) + x2 < 0 ∨ 200 ≤ ((40 * x1) + x2).toNatClampNeg then none else ((some (fm_u v 15 (((40 * x1) + x2).toNatClampNeg) 2) : Option fm_T).bind fun m4 => (if m4 0 34 ≤ 0 then ((some (fm_u m4 16 (((40 * x1) + x2).toNatClampNeg) (m4 0 33)) : Option fm_T).bind fun m7 => ((some (fm_u m7 17 (((40 * x1) + x2).toNatClampNeg) (m7 0 35)) : Option fm_T).bind fun m9 => ((some (fm_u m9 18 (((40 * x1) + x2).toNatClampNeg) (m9 0 36)) : Option fm_T).bind fun m11 => ((some (fm_u m11 19 (((40 * x1) + x2).toNatClampNeg) (m11 0 37)) : Option fm_T).bind fun m13 => (if m13 0 34 ≤ 0 then ((f_X5_mark 4 x2 m13).bind fun q16 => ((some (fm_u q16.2 0 32 ((q16.2 0 32) - 1)) : Option fm_T).bind fun m18 => some (0, m18))) else ((f_X5_mark 5 x2 m13).bind fun q20 => ((some (fm_u q20.2 0 32 ((q20.2 0 32) - 1)) : Option fm_T).bind fun m22 => some (0, m22)))))))) else ((some (fm_u m4 16 (((40 * x1) + x2).toNatClampNeg) (m4 0 34)) : Option fm_T).bind fun m24 => ((some (fm_u m24 17 (((40 * x1) + x2).toNatClampNeg) (m24 0 35)) : Option fm_T).bind fun m26 => ((some (fm_u m26 18 (((40 * x1) + x2).toNatClampNeg) (m26 0 36)) : Option fm_T).bind fun m28 => ((some (fm_u m28 19 (((40 * x1) + x2).toNatClampNeg) (m28 0 37)) : Option fm_T).bind fun m30 => (if m30 0 34 ≤ 0 then ((f_X5_mark 4 x2 m30).bind fun q33 => ((some (fm_u q33.2 0 32 ((q33.2 0 32) - 1)) : Option fm_T).bind fun m35 => some (0, m35))) else ((f_X5_mark 5 x2 m30).bind fun q37 => ((some (fm_u q37.2 0 32 ((q37.2 0 32) - 1)) : Option fm_T).bind fun m39 => some (0, m39))))))))))) else (if (40 * x1) + x2 < 0 ∨ 200 ≤ ((40 * x1) + x2).toNatClampNeg then none else ((some (fm_u v 15 (((40 * x1) + x2).toNatClampNeg) 3) : Option fm_T).bind fun m42 => (if m42 0 34 ≤ 0 then ((some (fm_u m42 16 (((40 * x1) + x2).toNatClampNeg) (m42 0 33)) : Option fm_T).bind fun m45 => ((some (fm_u m45 17 (((40 * x1) + x2).toNatClampNeg) (m45 0 35)) : Option fm_T).bind fun m47 => ((some (fm_u m47 18 (((40 * x1) + x2).toNatClampNeg) (m47 0 36)) : Option fm_T).bind fun m49 => ((some (fm_u m49 19 (((40 * x1) + x2).toNatClampNeg) (m49 0 37)) : Option fm_T).bind fun m51 => (if m51 0 34 ≤ 0 then ((f_X5_mark 4 x2 m51).bind fun q54 => ((some (fm_u q54.2 0 32 ((q54.2 0 32) - 1)) : Option fm_T).bind fun m56 => some (0, m56))) else ((f_X5_mark 5 x2 m51).bind fun q58 => ((some (fm_u q58.2 0 32 ((q58.2 0 32) - 1)) : Option fm_T).bind fun m60 => some (0, m60)))))))) else ((some (fm_u m42 16 (((40 * x1) + x2).toNatClampNeg) (m42 0 34)) : Option fm_T).bind fun m62 => ((some (fm_u m62 17 (((40 * x1) + x2).toNatClampNeg) (m62 0 35)) : Option fm_T).bind fun m64 => ((some (fm_u m64 18 (((40 * x1) + x2).toNatClampNeg) (m64 0 36)) : Option fm_T).bind fun m66 => ((some (fm_u m66 19 (((40 * x1) + x2).toNatClampNeg) (m66 0 37)) : Option fm_T).bind fun m68 => (if m68 0 34 ≤ 0 then ((f_X5_mark 4 x2 m68).bind fun q71 => ((some (fm_u q71.2 0 32 ((q71.2 0 32) - 1)) : Option fm_T).bind fun m73 => some (0, m73))) else ((f_X5_mark 5 x2 m68).bind fun q75 => ((some (fm_u q75.2 0 32 ((q75.2 0 32) - 1)) : Option fm_T).bind fun m77 => some (0, m77))))))))))))
set_option maxHeartbeats 4000000 in
set_option maxRecDepth 20000 in
theorem c_X5_ends {x1 : Int32} {x2 : Int32}  {v : fm_T} {q : Int32 × fm_T} (hf : f_X5_ends x1 x2 v = some q) : fm_M l D (fm_tys cI cII cLd cOc) tA b 29 (shM cI b) A yX5_ends cX5_ends 4 none 1 [.ref (b + 0), .int x1, .int x2] v none q.2 := by
  refine fm_entry (by decide) (Nat.le_of_ble_eq_true rfl) ?_
  intro p e R s m args below meth c C hr hk0 hF hLo
  unfold f_X5_ends at hf
  show fm_V p l e R s m args below meth c D b 29 (shM cI b) A _ 4 0 [(0, .ref (b + 0)), (1, .int x1), (2, .int x2)] [] v
  refine fm_bipush C (x := 40) dX5_ends_0 (by decide) 2 rfl ?_
  refine fm_iload_n C dX5_ends_2 rfl 1 rfl 3 rfl ?_
  refine fm_imul C dX5_ends_3 4 rfl ?_
  refine fm_iload_n C dX5_ends_4 rfl 2 rfl 5 rfl ?_
  refine fm_iadd C dX5_ends_5 6 rfl ?_
  refine fm_istore_n C [(3, .int ((40 * x1) + x2)), (0, .ref (b + 0)), (1, .int x1), (2, .int x2)] dX5_ends_6 rfl (by decide) rfl 7 rfl ?_
  refine fm_aload_n C dX5_ends_7 rfl 1 rfl 8 rfl ?_
  refine fm_get C (t := 0) (by decide) (shM_0 _) rfl inG_X5 16 (by decide) F_X5_52 rfl dX5_ends_8 11 rfl ?_
  refine fm_iload_n C dX5_ends_11 rfl 0 rfl 12 rfl ?_
  refine fm_aload_n C dX5_ends_12 rfl 1 rfl 13 rfl ?_
  refine fm_get C (t := 0) (by decide) (shM_0 _) rfl inG_X5 34 (by decide) F_X5_119 rfl dX5_ends_13 16 rfl ?_
  refine fm_if_le C 23 dX5_ends_16 (by decide) (fun c1 => ?_) 19 rfl (fun c1 => ?_)
  · rw [if_pos c1] at hf
    refine fm_iconst C (x := 2) dX5_ends_23 (by decide) 24 rfl ?_
    by_cases b2 : (40 * x1) + x2 < 0 ∨ 200 ≤ ((40 * x1) + x2).toNatClampNeg
    · rw [if_pos b2] at hf; cases hf
    rw [if_neg b2] at hf
    obtain ⟨m4, e3, hf⟩ := Option.bind_eq_some_iff.mp hf
    refine fm_iast C (t := 15) (t0 := 0) (by decide) shM_15 rfl b2 dX5_ends_24 25 rfl m4 (Option.some.inj e3) ?_
    refine fm_aload_n C dX5_ends_25 rfl 1 rfl 26 rfl ?_
    refine fm_get C (t := 0) (by decide) (shM_0 _) rfl inG_X5 17 (by decide) F_X5_55 rfl dX5_ends_26 29 rfl ?_
    refine fm_iload_n C dX5_ends_29 rfl 0 rfl 30 rfl ?_
    refine fm_aload_n C dX5_ends_30 rfl 1 rfl 31 rfl ?_
    refine fm_get C (t := 0) (by decide) (shM_0 _) rfl inG_X5 34 (by decide) F_X5_119 rfl dX5_ends_31 34 rfl ?_
    refine fm_if_le C 44 dX5_ends_34 (by decide) (fun c5 => ?_) 37 rfl (fun c5 => ?_)
    · rw [if_pos c5] at hf
      refine fm_aload_n C dX5_ends_44 rfl 1 rfl 45 rfl ?_
      refine fm_get C (t := 0) (by decide) (shM_0 _) rfl inG_X5 33 (by decide) F_X5_131 rfl dX5_ends_45 48 rfl ?_
      obtain ⟨m7, e6, hf⟩ := Option.bind_eq_some_iff.mp hf
      refine fm_iast C (t := 16) (t0 := 0) (by decide) shM_16 rfl b2 dX5_ends_48 49 rfl m7 (Option.some.inj e6) ?_
      refine fm_aload_n C dX5_ends_49 rfl 1 rfl 50 rfl ?_
      refine fm_get C (t := 0) (by decide) (shM_0 _) rfl inG_X5 18 (by decide) F_X5_58 rfl dX5_ends_50 53 rfl ?_
      refine fm_iload_n C dX5_ends_53 rfl 0 rfl 54 rfl ?_
      refine fm_aload_n C dX5_ends_54 rfl 1 rfl 55 rfl ?_
      refine fm_get C (t := 0) (by decide) (shM_0 _) rfl inG_X5 35 (by decide) F_X5_122 rfl dX5_ends_55 58 rfl ?_
      obtain ⟨m9, e8, hf⟩ := Option.bind_eq_some_iff.mp hf
      refine fm_iast C (t := 17) (t0 := 0) (by decide) shM_17 rfl b2 dX5_ends_58 59 rfl m9 (Option.some.inj e8) ?_
      refine fm_aload_n C dX5_ends_59 rfl 1 rfl 60 rfl ?_
      refine fm_get C (t := 0) (by decide) (shM_0 _) rfl inG_X5 19 (by decide) F_X5_61 rfl dX5_ends_60 63 rfl ?_
      refine fm_iload_n C dX5_ends_63 rfl 0 rfl 64 rfl ?_
      refine fm_aload_n C dX5_ends_64 rfl 1 rfl 65 rfl ?_
      refine fm_get C (t := 0) (by decide) (shM_0 _) rfl inG_X5 36 (by decide) F_X5_125 rfl dX5_ends_65 68 rfl ?_
      obtain ⟨m11, e10, hf⟩ := Option.bind_eq_some_iff.mp hf
      refine fm_iast C (t := 18) (t0 := 0) (by decide) shM_18 rfl b2 dX5_ends_68 69 rfl m11 (Option.some.inj e10) ?_
      refine fm_aload_n C dX5_ends_69 rfl 1 rfl 70 rfl ?_
      refine fm_get C (t := 0) (by decide) (shM_0 _) rfl inG_X5 20 (by decide) F_X5_64 rfl dX5_ends_70 73 rfl ?_
      refine fm_iload_n C dX5_ends_73 rfl 0 rfl 74 rfl ?_
      refine fm_aload_n C dX5_ends_74 rfl 1 rfl 75 rfl ?_
      refine fm_get C (t := 0) (by decide) (shM_0 _) rfl inG_X5 37 (by decide) F_X5_128 rfl dX5_ends_75 78 rfl ?_
      obtain ⟨m13, e12, hf⟩ := Option.bind_eq_some_iff.mp hf
      refine fm_iast C (t := 19) (t0 := 0) (by decide) shM_19 rfl b2 dX5_ends_78 79 rfl m13 (Option.some.inj e12) ?_
      refine fm_aload_n C dX5_ends_79 rfl 1 rfl 80 rfl ?_
      refine fm_aload_n C dX5_ends_80 rfl 1 rfl 81 rfl ?_
      refine fm_get C (t := 0) (by decide) (shM_0 _) rfl inG_X5 34 (by decide) F_X5_119 rfl dX5_ends_81 84 rfl ?_
      refine fm_if_le C 91 dX5_ends_84 (by decide) (fun c14 => ?_) 87 rfl (fun c14 => ?_)
      · rw [if_pos c14] at hf
        refine fm_iconst C (x := 4) dX5_ends_91 (by decide) 92 rfl ?_
        refine fm_iload_n C dX5_ends_92 rfl 3 rfl 93 rfl ?_
        obtain ⟨q16, h15, hf⟩ := Option.bind_eq_some_iff.mp hf
        refine fm_callV C Y_X5_mark (t := 0) (by decide) (shM_0 _) rfl LM_X5_161 (As := [.int 4, .int x2]) (rest := []) (c_X5_mark  h15) (by omega) (by omega) rfl (Nat.le_of_ble_eq_true rfl) dX5_ends_93 96 rfl [] rfl ?_
        refine fm_aload_n C dX5_ends_96 rfl 1 rfl 97 rfl ?_
        refine fm_dup C dX5_ends_97 rfl 98 rfl ?_
        refine fm_get C (t := 0) (by decide) (shM_0 _) rfl inG_X5 32 (by decide) F_X5_109 rfl dX5_ends_98 101 rfl ?_
        refine fm_iconst C (x := 1) dX5_ends_101 (by decide) 102 rfl ?_
        refine fm_isub C dX5_ends_102 103 rfl ?_
        obtain ⟨m18, e17, hf⟩ := Option.bind_eq_some_iff.mp hf
        refine fm_put C (t := 0) (by decide) (shM_0 _) rfl inG_X5 32 (by decide) F_X5_109 tyX5 tyX5_ok nmX5 rfl (ty := .int) (by decide +kernel) rfl rfl (Nat.le_of_ble_eq_true rfl) ((shM_0 _).trans rfl) dX5_ends_103 106 rfl m18 (Option.some.inj e17) ?_
        obtain rfl := Option.some.inj hf
        exact fm_vret C hr hk0 dX5_ends_106
      · rw [if_neg c14] at hf
        refine fm_iconst C (x := 5) dX5_ends_87 (by decide) 88 rfl ?_
        refine fm_goto C 92 dX5_ends_88 (by decide) ?_
        refine fm_iload_n C dX5_ends_92 rfl 3 rfl 93 rfl ?_
        obtain ⟨q20, h19, hf⟩ := Option.bind_eq_some_iff.mp hf
        refine fm_callV C Y_X5_mark (t := 0) (by decide) (shM_0 _) rfl LM_X5_161 (As := [.int 5, .int x2]) (rest := []) (c_X5_mark  h19) (by omega) (by omega) rfl (Nat.le_of_ble_eq_true rfl) dX5_ends_93 96 rfl [] rfl ?_
        refine fm_aload_n C dX5_ends_96 rfl 1 rfl 97 rfl ?_
        refine fm_dup C dX5_ends_97 rfl 98 rfl ?_
        refine fm_get C (t := 0) (by decide) (shM_0 _) rfl inG_X5 32 (by decide) F_X5_109 rfl dX5_ends_98 101 rfl ?_
        refine fm_iconst C (x := 1) dX5_ends_101 (by decide) 102 rfl ?_
        refine fm_isub C dX5_ends_102 103 rfl ?_
        obtain ⟨m22, e21, hf⟩ := Option.bind_eq_some_iff.mp hf
        refine fm_put C (t := 0) (by decide) (shM_0 _) rfl inG_X5 32 (by decide) F_X5_109 tyX5 tyX5_ok nmX5 rfl (ty := .int) (by decide +kernel) rfl rfl (Nat.le_of_ble_eq_true rfl) ((shM_0 _).trans rfl) dX5_ends_103 106 rfl m22 (Option.some.inj e21) ?_
        obtain rfl := Option.some.inj hf
        exact fm_vret C hr hk0 dX5_ends_106
    · rw [if_neg c5] at hf
      refine fm_aload_n C dX5_ends_37 rfl 1 rfl 38 rfl ?_
      refine fm_get C (t := 0) (by decide) (shM_0 _) rfl inG_X5 34 (by decide) F_X5_119 rfl dX5_ends_38 41 rfl ?_
      refine fm_goto C 48 dX5_ends_41 (by decide) ?_
      obtain ⟨m24, e23, hf⟩ := Option.bind_eq_some_iff.mp hf
      refine fm_iast C (t := 16) (t0 := 0) (by decide) shM_16 rfl b2 dX5_ends_48 49 rfl m24 (Option.some.inj e23) ?_
      refine fm_aload_n C dX5_ends_49 rfl 1 rfl 50 rfl ?_
      refine fm_get C (t := 0) (by decide) (shM_0 _) rfl inG_X5 18 (by decide) F_X5_58 rfl dX5_ends_50 53 rfl ?_
      refine fm_iload_n C dX5_ends_53 rfl 0 rfl 54 rfl ?_
      refine fm_aload_n C dX5_ends_54 rfl 1 rfl 55 rfl ?_
      refine fm_get C (t := 0) (by decide) (shM_0 _) rfl inG_X5 35 (by decide) F_X5_122 rfl dX5_ends_55 58 rfl ?_
      obtain ⟨m26, e25, hf⟩ := Option.bind_eq_some_iff.mp hf
      refine fm_iast C (t := 17) (t0 := 0) (by decide) shM_17 rfl b2 dX5_ends_58 59 rfl m26 (Option.some.inj e25) ?_
      refine fm_aload_n C dX5_ends_59 rfl 1 rfl 60 rfl ?_
      refine fm_get C (t := 0) (by decide) (shM_0 _) rfl inG_X5 19 (by decide) F_X5_61 rfl dX5_ends_60 63 rfl ?_
      refine fm_iload_n C dX5_ends_63 rfl 0 rfl 64 rfl ?_
      refine fm_aload_n C dX5_ends_64 rfl 1 rfl 65 rfl ?_
      refine fm_get C (t := 0) (by decide) (shM_0 _) rfl inG_X5 36 (by decide) F_X5_125 rfl dX5_ends_65 68 rfl ?_
      obtain ⟨m28, e27, hf⟩ := Option.bind_eq_some_iff.mp hf
      refine fm_iast C (t := 18) (t0 := 0) (by decide) shM_18 rfl b2 dX5_ends_68 69 rfl m28 (Option.some.inj e27) ?_
      refine fm_aload_n C dX5_ends_69 rfl 1 rfl 70 rfl ?_
      refine fm_get C (t := 0) (by decide) (shM_0 _) rfl inG_X5 20 (by decide) F_X5_64 rfl dX5_ends_70 73 rfl ?_
      refine fm_iload_n C dX5_ends_73 rfl 0 rfl 74 rfl ?_
      refine fm_aload_n C dX5_ends_74 rfl 1 rfl 75 rfl ?_
      refine fm_get C (t := 0) (by decide) (shM_0 _) rfl inG_X5 37 (by decide) F_X5_128 rfl dX5_ends_75 78 rfl ?_
      obtain ⟨m30, e29, hf⟩ := Option.bind_eq_some_iff.mp hf
      refine fm_iast C (t := 19) (t0 := 0) (by decide) shM_19 rfl b2 dX5_ends_78 79 rfl m30 (Option.some.inj e29) ?_
      refine fm_aload_n C dX5_ends_79 rfl 1 rfl 80 rfl ?_
      refine fm_aload_n C dX5_ends_80 rfl 1 rfl 81 rfl ?_
      refine fm_get C (t := 0) (by decide) (shM_0 _) rfl inG_X5 34 (by decide) F_X5_119 rfl dX5_ends_81 84 rfl ?_
      refine fm_if_le C 91 dX5_ends_84 (by decide) (fun c31 => ?_) 87 rfl (fun c31 => ?_)
      · rw [if_pos c31] at hf
        refine fm_iconst C (x := 4) dX5_ends_91 (by decide) 92 rfl ?_
        refine fm_iload_n C dX5_ends_92 rfl 3 rfl 93 rfl ?_
        obtain ⟨q33, h32, hf⟩ := Option.bind_eq_some_iff.mp hf
        refine fm_callV C Y_X5_mark (t := 0) (by decide) (shM_0 _) rfl LM_X5_161 (As := [.int 4, .int x2]) (rest := []) (c_X5_mark  h32) (by omega) (by omega) rfl (Nat.le_of_ble_eq_true rfl) dX5_ends_93 96 rfl [] rfl ?_
        refine fm_aload_n C dX5_ends_96 rfl 1 rfl 97 rfl ?_
        refine fm_dup C dX5_ends_97 rfl 98 rfl ?_
        refine fm_get C (t := 0) (by decide) (shM_0 _) rfl inG_X5 32 (by decide) F_X5_109 rfl dX5_ends_98 101 rfl ?_
        refine fm_iconst C (x := 1) dX5_ends_101 (by decide) 102 rfl ?_
        refine fm_isub C dX5_ends_102 103 rfl ?_
        obtain ⟨m35, e34, hf⟩ := Option.bind_eq_some_iff.mp hf
        refine fm_put C (t := 0) (by decide) (shM_0 _) rfl inG_X5 32 (by decide) F_X5_109 tyX5 tyX5_ok nmX5 rfl (ty := .int) (by decide +kernel) rfl rfl (Nat.le_of_ble_eq_true rfl) ((shM_0 _).trans rfl) dX5_ends_103 106 rfl m35 (Option.some.inj e34) ?_
        obtain rfl := Option.some.inj hf
        exact fm_vret C hr hk0 dX5_ends_106
      · rw [if_neg c31] at hf
        refine fm_iconst C (x := 5) dX5_ends_87 (by decide) 88 rfl ?_
        refine fm_goto C 92 dX5_ends_88 (by decide) ?_
        refine fm_iload_n C dX5_ends_92 rfl 3 rfl 93 rfl ?_
        obtain ⟨q37, h36, hf⟩ := Option.bind_eq_some_iff.mp hf
        refine fm_callV C Y_X5_mark (t := 0) (by decide) (shM_0 _) rfl LM_X5_161 (As := [.int 5, .int x2]) (rest := []) (c_X5_mark  h36) (by omega) (by omega) rfl (Nat.le_of_ble_eq_true rfl) dX5_ends_93 96 rfl [] rfl ?_
        refine fm_aload_n C dX5_ends_96 rfl 1 rfl 97 rfl ?_
        refine fm_dup C dX5_ends_97 rfl 98 rfl ?_
        refine fm_get C (t := 0) (by decide) (shM_0 _) rfl inG_X5 32 (by decide) F_X5_109 rfl dX5_ends_98 101 rfl ?_
        refine fm_iconst C (x := 1) dX5_ends_101 (by decide) 102 rfl ?_
        refine fm_isub C dX5_ends_102 103 rfl ?_
        obtain ⟨m39, e38, hf⟩ := Option.bind_eq_some_iff.mp hf
        refine fm_put C (t := 0) (by decide) (shM_0 _) rfl inG_X5 32 (by decide) F_X5_109 tyX5 tyX5_ok nmX5 rfl (ty := .int) (by decide +kernel) rfl rfl (Nat.le_of_ble_eq_true rfl) ((shM_0 _).trans rfl) dX5_ends_103 106 rfl m39 (Option.some.inj e38) ?_
        obtain rfl := Option.some.inj hf
        exact fm_vret C hr hk0 dX5_ends_106
  · rw [if_neg c1] at hf
    refine fm_iconst C (x := 3) dX5_ends_19 (by decide) 20 rfl ?_
    refine fm_goto C 24 dX5_ends_20 (by decide) ?_
    by_cases b40 : (40 * x1) + x2 < 0 ∨ 200 ≤ ((40 * x1) + x2).toNatClampNeg
    · rw [if_pos b40] at hf; cases hf
    rw [if_neg b40] at hf
    obtain ⟨m42, e41, hf⟩ := Option.bind_eq_some_iff.mp hf
    refine fm_iast C (t := 15) (t0 := 0) (by decide) shM_15 rfl b40 dX5_ends_24 25 rfl m42 (Option.some.inj e41) ?_
    refine fm_aload_n C dX5_ends_25 rfl 1 rfl 26 rfl ?_
    refine fm_get C (t := 0) (by decide) (shM_0 _) rfl inG_X5 17 (by decide) F_X5_55 rfl dX5_ends_26 29 rfl ?_
    refine fm_iload_n C dX5_ends_29 rfl 0 rfl 30 rfl ?_
    refine fm_aload_n C dX5_ends_30 rfl 1 rfl 31 rfl ?_
    refine fm_get C (t := 0) (by decide) (shM_0 _) rfl inG_X5 34 (by decide) F_X5_119 rfl dX5_ends_31 34 rfl ?_
    refine fm_if_le C 44 dX5_ends_34 (by decide) (fun c43 => ?_) 37 rfl (fun c43 => ?_)
    · rw [if_pos c43] at hf
      refine fm_aload_n C dX5_ends_44 rfl 1 rfl 45 rfl ?_
      refine fm_get C (t := 0) (by decide) (shM_0 _) rfl inG_X5 33 (by decide) F_X5_131 rfl dX5_ends_45 48 rfl ?_
      obtain ⟨m45, e44, hf⟩ := Option.bind_eq_some_iff.mp hf
      refine fm_iast C (t := 16) (t0 := 0) (by decide) shM_16 rfl b40 dX5_ends_48 49 rfl m45 (Option.some.inj e44) ?_
      refine fm_aload_n C dX5_ends_49 rfl 1 rfl 50 rfl ?_
      refine fm_get C (t := 0) (by decide) (shM_0 _) rfl inG_X5 18 (by decide) F_X5_58 rfl dX5_ends_50 53 rfl ?_
      refine fm_iload_n C dX5_ends_53 rfl 0 rfl 54 rfl ?_
      refine fm_aload_n C dX5_ends_54 rfl 1 rfl 55 rfl ?_
      refine fm_get C (t := 0) (by decide) (shM_0 _) rfl inG_X5 35 (by decide) F_X5_122 rfl dX5_ends_55 58 rfl ?_
      obtain ⟨m47, e46, hf⟩ := Option.bind_eq_some_iff.mp hf
      refine fm_iast C (t := 17) (t0 := 0) (by decide) shM_17 rfl b40 dX5_ends_58 59 rfl m47 (Option.some.inj e46) ?_
      refine fm_aload_n C dX5_ends_59 rfl 1 rfl 60 rfl ?_
      refine fm_get C (t := 0) (by decide) (shM_0 _) rfl inG_X5 19 (by decide) F_X5_61 rfl dX5_ends_60 63 rfl ?_
      refine fm_iload_n C dX5_ends_63 rfl 0 rfl 64 rfl ?_
      refine fm_aload_n C dX5_ends_64 rfl 1 rfl 65 rfl ?_
      refine fm_get C (t := 0) (by decide) (shM_0 _) rfl inG_X5 36 (by decide) F_X5_125 rfl dX5_ends_65 68 rfl ?_
      obtain ⟨m49, e48, hf⟩ := Option.bind_eq_some_iff.mp hf
      refine fm_iast C (t := 18) (t0 := 0) (by decide) shM_18 rfl b40 dX5_ends_68 69 rfl m49 (Option.some.inj e48) ?_
      refine fm_aload_n C dX5_ends_69 rfl 1 rfl 70 rfl ?_
      refine fm_get C (t := 0) (by decide) (shM_0 _) rfl inG_X5 20 (by decide) F_X5_64 rfl dX5_ends_70 73 rfl ?_
      refine fm_iload_n C dX5_ends_73 rfl 0 rfl 74 rfl ?_
      refine fm_aload_n C dX5_ends_74 rfl 1 rfl 75 rfl ?_
      refine fm_get C (t := 0) (by decide) (shM_0 _) rfl inG_X5 37 (by decide) F_X5_128 rfl dX5_ends_75 78 rfl ?_
      obtain ⟨m51, e50, hf⟩ := Option.bind_eq_some_iff.mp hf
      refine fm_iast C (t := 19) (t0 := 0) (by decide) shM_19 rfl b40 dX5_ends_78 79 rfl m51 (Option.some.inj e50) ?_
      refine fm_aload_n C dX5_ends_79 rfl 1 rfl 80 rfl ?_
      refine fm_aload_n C dX5_ends_80 rfl 1 rfl 81 rfl ?_
      refine fm_get C (t := 0) (by decide) (shM_0 _) rfl inG_X5 34 (by decide) F_X5_119 rfl dX5_ends_81 84 rfl ?_
      refine fm_if_le C 91 dX5_ends_84 (by decide) (fun c52 => ?_) 87 rfl (fun c52 => ?_)
      · rw [if_pos c52] at hf
        refine fm_iconst C (x := 4) dX5_ends_91 (by decide) 92 rfl ?_
        refine fm_iload_n C dX5_ends_92 rfl 3 rfl 93 rfl ?_
        obtain ⟨q54, h53, hf⟩ := Option.bind_eq_some_iff.mp hf
        refine fm_callV C Y_X5_mark (t := 0) (by decide) (shM_0 _) rfl LM_X5_161 (As := [.int 4, .int x2]) (rest := []) (c_X5_mark  h53) (by omega) (by omega) rfl (Nat.le_of_ble_eq_true rfl) dX5_ends_93 96 rfl [] rfl ?_
        refine fm_aload_n C dX5_ends_96 rfl 1 rfl 97 rfl ?_
        refine fm_dup C dX5_ends_97 rfl 98 rfl ?_
        refine fm_get C (t := 0) (by decide) (shM_0 _) rfl inG_X5 32 (by decide) F_X5_109 rfl dX5_ends_98 101 rfl ?_
        refine fm_iconst C (x := 1) dX5_ends_101 (by decide) 102 rfl ?_
        refine fm_isub C dX5_ends_102 103 rfl ?_
        obtain ⟨m56, e55, hf⟩ := Option.bind_eq_some_iff.mp hf
        refine fm_put C (t := 0) (by decide) (shM_0 _) rfl inG_X5 32 (by decide) F_X5_109 tyX5 tyX5_ok nmX5 rfl (ty := .int) (by decide +kernel) rfl rfl (Nat.le_of_ble_eq_true rfl) ((shM_0 _).trans rfl) dX5_ends_103 106 rfl m56 (Option.some.inj e55) ?_
        obtain rfl := Option.some.inj hf
        exact fm_vret C hr hk0 dX5_ends_106
      · rw [if_neg c52] at hf
        refine fm_iconst C (x := 5) dX5_ends_87 (by decide) 88 rfl ?_
        refine fm_goto C 92 dX5_ends_88 (by decide) ?_
        refine fm_iload_n C dX5_ends_92 rfl 3 rfl 93 rfl ?_
        obtain ⟨q58, h57, hf⟩ := Option.bind_eq_some_iff.mp hf
        refine fm_callV C Y_X5_mark (t := 0) (by decide) (shM_0 _) rfl LM_X5_161 (As := [.int 5, .int x2]) (rest := []) (c_X5_mark  h57) (by omega) (by omega) rfl (Nat.le_of_ble_eq_true rfl) dX5_ends_93 96 rfl [] rfl ?_
        refine fm_aload_n C dX5_ends_96 rfl 1 rfl 97 rfl ?_
        refine fm_dup C dX5_ends_97 rfl 98 rfl ?_
        refine fm_get C (t := 0) (by decide) (shM_0 _) rfl inG_X5 32 (by decide) F_X5_109 rfl dX5_ends_98 101 rfl ?_
        refine fm_iconst C (x := 1) dX5_ends_101 (by decide) 102 rfl ?_
        refine fm_isub C dX5_ends_102 103 rfl ?_
        obtain ⟨m60, e59, hf⟩ := Option.bind_eq_some_iff.mp hf
        refine fm_put C (t := 0) (by decide) (shM_0 _) rfl inG_X5 32 (by decide) F_X5_109 tyX5 tyX5_ok nmX5 rfl (ty := .int) (by decide +kernel) rfl rfl (Nat.le_of_ble_eq_true rfl) ((shM_0 _).trans rfl) dX5_ends_103 106 rfl m60 (Option.some.inj e59) ?_
        obtain rfl := Option.some.inj hf
        exact fm_vret C hr hk0 dX5_ends_106
    · rw [if_neg c43] at hf
      refine fm_aload_n C dX5_ends_37 rfl 1 rfl 38 rfl ?_
      refine fm_get C (t := 0) (by decide) (shM_0 _) rfl inG_X5 34 (by decide) F_X5_119 rfl dX5_ends_38 41 rfl ?_
      refine fm_goto C 48 dX5_ends_41 (by decide) ?_
      obtain ⟨m62, e61, hf⟩ := Option.bind_eq_some_iff.mp hf
      refine fm_iast C (t := 16) (t0 := 0) (by decide) shM_16 rfl b40 dX5_ends_48 49 rfl m62 (Option.some.inj e61) ?_
      refine fm_aload_n C dX5_ends_49 rfl 1 rfl 50 rfl ?_
      refine fm_get C (t := 0) (by decide) (shM_0 _) rfl inG_X5 18 (by decide) F_X5_58 rfl dX5_ends_50 53 rfl ?_
      refine fm_iload_n C dX5_ends_53 rfl 0 rfl 54 rfl ?_
      refine fm_aload_n C dX5_ends_54 rfl 1 rfl 55 rfl ?_
      refine fm_get C (t := 0) (by decide) (shM_0 _) rfl inG_X5 35 (by decide) F_X5_122 rfl dX5_ends_55 58 rfl ?_
      obtain ⟨m64, e63, hf⟩ := Option.bind_eq_some_iff.mp hf
      refine fm_iast C (t := 17) (t0 := 0) (by decide) shM_17 rfl b40 dX5_ends_58 59 rfl m64 (Option.some.inj e63) ?_
      refine fm_aload_n C dX5_ends_59 rfl 1 rfl 60 rfl ?_
      refine fm_get C (t := 0) (by decide) (shM_0 _) rfl inG_X5 19 (by decide) F_X5_61 rfl dX5_ends_60 63 rfl ?_
      refine fm_iload_n C dX5_ends_63 rfl 0 rfl 64 rfl ?_
      refine fm_aload_n C dX5_ends_64 rfl 1 rfl 65 rfl ?_
      refine fm_get C (t := 0) (by decide) (shM_0 _) rfl inG_X5 36 (by decide) F_X5_125 rfl dX5_ends_65 68 rfl ?_
      obtain ⟨m66, e65, hf⟩ := Option.bind_eq_some_iff.mp hf
      refine fm_iast C (t := 18) (t0 := 0) (by decide) shM_18 rfl b40 dX5_ends_68 69 rfl m66 (Option.some.inj e65) ?_
      refine fm_aload_n C dX5_ends_69 rfl 1 rfl 70 rfl ?_
      refine fm_get C (t := 0) (by decide) (shM_0 _) rfl inG_X5 20 (by decide) F_X5_64 rfl dX5_ends_70 73 rfl ?_
      refine fm_iload_n C dX5_ends_73 rfl 0 rfl 74 rfl ?_
      refine fm_aload_n C dX5_ends_74 rfl 1 rfl 75 rfl ?_
      refine fm_get C (t := 0) (by decide) (shM_0 _) rfl inG_X5 37 (by decide) F_X5_128 rfl dX5_ends_75 78 rfl ?_
      obtain ⟨m68, e67, hf⟩ := Option.bind_eq_some_iff.mp hf
      refine fm_iast C (t := 19) (t0 := 0) (by decide) shM_19 rfl b40 dX5_ends_78 79 rfl m68 (Option.some.inj e67) ?_
      refine fm_aload_n C dX5_ends_79 rfl 1 rfl 80 rfl ?_
      refine fm_aload_n C dX5_ends_80 rfl 1 rfl 81 rfl ?_
      refine fm_get C (t := 0) (by decide) (shM_0 _) rfl inG_X5 34 (by decide) F_X5_119 rfl dX5_ends_81 84 rfl ?_
      refine fm_if_le C 91 dX5_ends_84 (by decide) (fun c69 => ?_) 87 rfl (fun c69 => ?_)
      · rw [if_pos c69] at hf
        refine fm_iconst C (x := 4) dX5_ends_91 (by decide) 92 rfl ?_
        refine fm_iload_n C dX5_ends_92 rfl 3 rfl 93 rfl ?_
        obtain ⟨q71, h70, hf⟩ := Option.bind_eq_some_iff.mp hf
        refine fm_callV C Y_X5_mark (t := 0) (by decide) (shM_0 _) rfl LM_X5_161 (As := [.int 4, .int x2]) (rest := []) (c_X5_mark  h70) (by omega) (by omega) rfl (Nat.le_of_ble_eq_true rfl) dX5_ends_93 96 rfl [] rfl ?_
        refine fm_aload_n C dX5_ends_96 rfl 1 rfl 97 rfl ?_
        refine fm_dup C dX5_ends_97 rfl 98 rfl ?_
        refine fm_get C (t := 0) (by decide) (shM_0 _) rfl inG_X5 32 (by decide) F_X5_109 rfl dX5_ends_98 101 rfl ?_
        refine fm_iconst C (x := 1) dX5_ends_101 (by decide) 102 rfl ?_
        refine fm_isub C dX5_ends_102 103 rfl ?_
        obtain ⟨m73, e72, hf⟩ := Option.bind_eq_some_iff.mp hf
        refine fm_put C (t := 0) (by decide) (shM_0 _) rfl inG_X5 32 (by decide) F_X5_109 tyX5 tyX5_ok nmX5 rfl (ty := .int) (by decide +kernel) rfl rfl (Nat.le_of_ble_eq_true rfl) ((shM_0 _).trans rfl) dX5_ends_103 106 rfl m73 (Option.some.inj e72) ?_
        obtain rfl := Option.some.inj hf
        exact fm_vret C hr hk0 dX5_ends_106
      · rw [if_neg c69] at hf
        refine fm_iconst C (x := 5) dX5_ends_87 (by decide) 88 rfl ?_
        refine fm_goto C 92 dX5_ends_88 (by decide) ?_
        refine fm_iload_n C dX5_ends_92 rfl 3 rfl 93 rfl ?_
        obtain ⟨q75, h74, hf⟩ := Option.bind_eq_some_iff.mp hf
        refine fm_callV C Y_X5_mark (t := 0) (by decide) (shM_0 _) rfl LM_X5_161 (As := [.int 5, .int x2]) (rest := []) (c_X5_mark  h74) (by omega) (by omega) rfl (Nat.le_of_ble_eq_true rfl) dX5_ends_93 96 rfl [] rfl ?_
        refine fm_aload_n C dX5_ends_96 rfl 1 rfl 97 rfl ?_
        refine fm_dup C dX5_ends_97 rfl 98 rfl ?_
        refine fm_get C (t := 0) (by decide) (shM_0 _) rfl inG_X5 32 (by decide) F_X5_109 rfl dX5_ends_98 101 rfl ?_
        refine fm_iconst C (x := 1) dX5_ends_101 (by decide) 102 rfl ?_
        refine fm_isub C dX5_ends_102 103 rfl ?_
        obtain ⟨m77, e76, hf⟩ := Option.bind_eq_some_iff.mp hf
        refine fm_put C (t := 0) (by decide) (shM_0 _) rfl inG_X5 32 (by decide) F_X5_109 tyX5 tyX5_ok nmX5 rfl (ty := .int) (by decide +kernel) rfl rfl (Nat.le_of_ble_eq_true rfl) ((shM_0 _).trans rfl) dX5_ends_103 106 rfl m77 (Option.some.inj e76) ?_
        obtain rfl := Option.some.inj hf
        exact fm_vret C hr hk0 dX5_ends_106
def f_X5_breaks (x1 : Int32) (x2 : Int32) (v : fm_T) : Option (Int32 × fm_T) := (if x1 < 0 ∨ 60 ≤ x1.toNatClampNeg then none else ((some (fm_u v 13 x1.toNatClampNeg 3) : Option fm_T).bind fun m3 => ((f_X5_mark 2 x2 m3).bind fun q5 => ((some (fm_u q5.2 0 34 5) : Option fm_T).bind fun m7 => ((some (fm_u m7 0 35 x2) : Option fm_T).bind fun m9 => ((some (fm_u m9 0 32 ((m9 0 32) - 1)) : Option fm_T).bind fun m11 => some (0, m11)))))))
set_option maxHeartbeats 4000000 in
set_option maxRecDepth 20000 in
theorem c_X5_breaks {x1 : Int32} {x2 : Int32}  {v : fm_T} {q : Int32 × fm_T} (hf : f_X5_breaks x1 x2 v = some q) : fm_M l D (fm_tys cI cII cLd cOc) tA b 29 (shM cI b) A yX5_breaks cX5_breaks 3 none 1 [.ref (b + 0), .int x1, .int x2] v none q.2 := by
  refine fm_entry (by decide) (Nat.le_of_ble_eq_true rfl) ?_
  intro p e R s m args below meth c C hr hk0 hF hLo
  unfold f_X5_breaks at hf
  show fm_V p l e R s m args below meth c D b 29 (shM cI b) A _ 3 0 [(0, .ref (b + 0)), (1, .int x1), (2, .int x2)] [] v
  refine fm_aload_n C dX5_breaks_0 rfl 0 rfl 1 rfl ?_
  refine fm_get C (t := 0) (by decide) (shM_0 _) rfl inG_X5 14 (by decide) F_X5_46 rfl dX5_breaks_1 4 rfl ?_
  refine fm_iload_n C dX5_breaks_4 rfl 1 rfl 5 rfl ?_
  refine fm_iconst C (x := 3) dX5_breaks_5 (by decide) 6 rfl ?_
  by_cases b1 : x1 < 0 ∨ 60 ≤ x1.toNatClampNeg
  · rw [if_pos b1] at hf; cases hf
  rw [if_neg b1] at hf
  obtain ⟨m3, e2, hf⟩ := Option.bind_eq_some_iff.mp hf
  refine fm_iast C (t := 13) (t0 := 0) (by decide) shM_13 rfl b1 dX5_breaks_6 7 rfl m3 (Option.some.inj e2) ?_
  refine fm_aload_n C dX5_breaks_7 rfl 0 rfl 8 rfl ?_
  refine fm_iconst C (x := 2) dX5_breaks_8 (by decide) 9 rfl ?_
  refine fm_iload_n C dX5_breaks_9 rfl 2 rfl 10 rfl ?_
  obtain ⟨q5, h4, hf⟩ := Option.bind_eq_some_iff.mp hf
  refine fm_callV C Y_X5_mark (t := 0) (by decide) (shM_0 _) rfl LM_X5_161 (As := [.int 2, .int x2]) (rest := []) (c_X5_mark  h4) (by omega) (by omega) rfl (Nat.le_of_ble_eq_true rfl) dX5_breaks_10 13 rfl [] rfl ?_
  refine fm_aload_n C dX5_breaks_13 rfl 0 rfl 14 rfl ?_
  refine fm_iconst C (x := 5) dX5_breaks_14 (by decide) 15 rfl ?_
  obtain ⟨m7, e6, hf⟩ := Option.bind_eq_some_iff.mp hf
  refine fm_put C (t := 0) (by decide) (shM_0 _) rfl inG_X5 34 (by decide) F_X5_119 tyX5 tyX5_ok nmX5 rfl (ty := .int) (by decide +kernel) rfl rfl (Nat.le_of_ble_eq_true rfl) ((shM_0 _).trans rfl) dX5_breaks_15 18 rfl m7 (Option.some.inj e6) ?_
  refine fm_aload_n C dX5_breaks_18 rfl 0 rfl 19 rfl ?_
  refine fm_iload_n C dX5_breaks_19 rfl 2 rfl 20 rfl ?_
  obtain ⟨m9, e8, hf⟩ := Option.bind_eq_some_iff.mp hf
  refine fm_put C (t := 0) (by decide) (shM_0 _) rfl inG_X5 35 (by decide) F_X5_122 tyX5 tyX5_ok nmX5 rfl (ty := .int) (by decide +kernel) rfl rfl (Nat.le_of_ble_eq_true rfl) ((shM_0 _).trans rfl) dX5_breaks_20 23 rfl m9 (Option.some.inj e8) ?_
  refine fm_aload_n C dX5_breaks_23 rfl 0 rfl 24 rfl ?_
  refine fm_dup C dX5_breaks_24 rfl 25 rfl ?_
  refine fm_get C (t := 0) (by decide) (shM_0 _) rfl inG_X5 32 (by decide) F_X5_109 rfl dX5_breaks_25 28 rfl ?_
  refine fm_iconst C (x := 1) dX5_breaks_28 (by decide) 29 rfl ?_
  refine fm_isub C dX5_breaks_29 30 rfl ?_
  obtain ⟨m11, e10, hf⟩ := Option.bind_eq_some_iff.mp hf
  refine fm_put C (t := 0) (by decide) (shM_0 _) rfl inG_X5 32 (by decide) F_X5_109 tyX5 tyX5_ok nmX5 rfl (ty := .int) (by decide +kernel) rfl rfl (Nat.le_of_ble_eq_true rfl) ((shM_0 _).trans rfl) dX5_breaks_30 33 rfl m11 (Option.some.inj e10) ?_
  obtain rfl := Option.some.inj hf
  exact fm_vret C hr hk0 dX5_breaks_33
end
