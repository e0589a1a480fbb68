section
variable {l : Launch} {D : va_G} {tA b : Nat} {A : Nat → Prop} {cI cII cLd cOc : ClassId}
def gC : Nat → GT
  | 0 => fun _ _ _ _ _ _ => none
  | d + 1 => fun w k x1 x2 x3 v => match w with
    | 0 => f_X0_obtain (gC d) k x1 x2 v
    | 1 => f_X0_begin (gC d) k x1 x2 v
    | 2 => f_X0_work (gC d) k x1 x2 v
    | 3 => f_X0_reckon (gC d) k x1 x2 v
    | 4 => f_X0_multiply (gC d) k x1 x2 x3 v
    | 5 => f_X0_divide (gC d) k x1 x2 x3 v
    | 6 => f_X0_beginUsed (gC d) k x1 x2 v
    | 7 => f_X0_doDeeds (gC d) k x1 x2 v
    | 8 => f_X0_doDeed (gC d) k x1 x2 x3 v
    | _ => none
theorem gC_ok (d : Nat) : GG l D tA cI cII cLd cOc b A (gC d) (d + 3) := by
  induction d with
  | zero =>
    refine ⟨?_, ?_, ?_, ?_, ?_, ?_, ?_, ?_, ?_⟩ <;> (intros; rename_i hf; cases hf)
  | succ d ih =>
    exact ⟨fun hk hf => c_X0_obtain ih (by omega) hk hf,
      fun hk hf => c_X0_begin ih (by omega) hk hf,
      fun hk hf => c_X0_work ih (by omega) hk hf,
      fun hk hf => c_X0_reckon ih (by omega) hk hf,
      fun hk hf => c_X0_multiply ih (by omega) hk hf,
      fun hk hf => c_X0_divide ih (by omega) hk hf,
      fun hk hf => c_X0_beginUsed ih (by omega) hk hf,
      fun hk hf => c_X0_doDeeds ih (by omega) hk hf,
      fun hk hf => c_X0_doDeed ih (by omega) hk hf⟩
theorem ld_lt {x : Int32} (h : 0 ≤ x ∧ x < 3) : x.toNatClampNeg < 4 := by
  have h1 := Int32.le_iff_toInt_le.mp h.1
  have h2 := Int32.lt_iff_toInt_lt.mp h.2
  have e0 : (0 : Int32).toInt = 0 := by decide
  have e3 : (3 : Int32).toInt = 3 := by decide
  show x.toInt.toNat < 4
  omega
theorem ld_in {x : Int32} (h : 0 ≤ x ∧ x < 3) : ¬ (x < 0 ∨ 3 ≤ x.toNatClampNeg) := by
  have h1 := Int32.le_iff_toInt_le.mp h.1
  have h2 := Int32.lt_iff_toInt_lt.mp h.2
  have e0 : (0 : Int32).toInt = 0 := by decide
  have e3 : (3 : Int32).toInt = 3 := by decide
  intro q
  rcases q with q | q
  · have := Int32.lt_iff_toInt_lt.mp q
    omega
  · have q : 3 ≤ x.toInt.toNat := q
    omega
theorem c_X4_loaderAt_r {x1 : Int32} (h : 0 ≤ x1 ∧ x1 < 3) {v : fm_T} : fm_M l D (fm_tys cI cII cLd cOc) tA b 305 (shC cI cII cLd cOc b) A yX4_loaderAt cX4_loaderAt 2 (some (.object "ConstantStarts$Loader")) 0 [.ref (b + 0), .int x1] v (some (.ref (b + lo x1.toNatClampNeg))) v := by
  refine fm_entry (by decide) (Nat.le_of_ble_eq_true rfl) ?_
  intro p e R s m args below meth c C hr hk0 hF hLo
  show fm_V p l e R s m args below meth c D b 305 (shC cI cII cLd cOc b) A _ 2 0 [(0, .ref (b + 0)), (1, .int x1)] [] v
  refine fm_iload_n C dX4_loaderAt_0 rfl 1 rfl 1 rfl ?_
  refine fm_if_lt C 18 dX4_loaderAt_1 (by decide) (fun c0 => absurd (Or.inl c0) (ld_in h)) 4 rfl (fun _ => ?_)
  refine fm_iload_n C dX4_loaderAt_4 rfl 1 rfl 5 rfl ?_
  refine fm_iconst C (x := 3) dX4_loaderAt_5 (by decide) 6 rfl ?_
  refine fm_icmp_ge C 18 dX4_loaderAt_6 (by decide) (fun c0 => absurd h.2 (Int32.not_lt.mpr c0)) 9 rfl (fun _ => ?_)
  refine fm_aload_n C dX4_loaderAt_9 rfl 0 rfl 10 rfl ?_
  refine fm_get C (t := 0) (by decide) (shC_0 _) rfl inG_X4 2 (by decide) F_X4_25 rfl dX4_loaderAt_10 13 rfl ?_
  refine fm_iload_n C dX4_loaderAt_13 rfl 1 rfl 14 rfl ?_
  refine fm_aald C (t := 65) (t0 := 2) (by decide) (shC_65 _) rfl rfl (ld_in h) (x := b + lo x1.toNatClampNeg) (in_some (g := fun i => b + lo i) (ld_in h)) dX4_loaderAt_14 15 rfl ?_
  refine fm_goto C 19 dX4_loaderAt_15 (by decide) ?_
  exact fm_aret C hr (Or.inl ⟨_, rfl⟩) hk0 (Or.inr ⟨_, rfl⟩) dX4_loaderAt_19
theorem c_X4_loaderAt_n {x1 : Int32} (h : ¬ (0 ≤ x1 ∧ x1 < 3)) {v : fm_T} : fm_M l D (fm_tys cI cII cLd cOc) tA b 305 (shC cI cII cLd cOc b) A yX4_loaderAt cX4_loaderAt 2 (some (.object "ConstantStarts$Loader")) 0 [.ref (b + 0), .int x1] v (some .null) v := by
  refine fm_entry (by decide) (Nat.le_of_ble_eq_true rfl) ?_
  intro p e R s m args below meth c C hr hk0 hF hLo
  show fm_V p l e R s m args below meth c D b 305 (shC cI cII cLd cOc b) A _ 2 0 [(0, .ref (b + 0)), (1, .int x1)] [] v
  refine fm_iload_n C dX4_loaderAt_0 rfl 1 rfl 1 rfl ?_
  refine fm_if_lt C 18 dX4_loaderAt_1 (by decide) (fun c0 => ?_) 4 rfl (fun c0 => ?_)
  · refine fm_null C dX4_loaderAt_18 19 rfl ?_
    exact fm_aret C hr (Or.inl ⟨_, rfl⟩) hk0 (Or.inl rfl) dX4_loaderAt_19
  · refine fm_iload_n C dX4_loaderAt_4 rfl 1 rfl 5 rfl ?_
    refine fm_iconst C (x := 3) dX4_loaderAt_5 (by decide) 6 rfl ?_
    refine fm_icmp_ge C 18 dX4_loaderAt_6 (by decide) (fun c1 => ?_) 9 rfl (fun c1 => absurd ⟨Int32.not_lt.mp c0, Int32.not_le.mp c1⟩ h)
    refine fm_null C dX4_loaderAt_18 19 rfl ?_
    exact fm_aret C hr (Or.inl ⟨_, rfl⟩) hk0 (Or.inl rfl) dX4_loaderAt_19
def f_X4_module (x1 : Int32) (v : fm_T) : Option (Int32 × fm_T) := ((f_X2_addModule x1 v).bind fun q2 => some (q2.1, q2.2))
set_option maxHeartbeats 4000000 in
set_option maxRecDepth 20000 in
theorem c_X4_module {x1 : Int32}  {v : fm_T} {q : Int32 × fm_T} (hf : f_X4_module x1 v = some q) : fm_M l D (fm_tys cI cII cLd cOc) tA b 305 (shC cI cII cLd cOc b) A yX4_module cX4_module 2 (some .int) 1 [.ref (b + 0), .int x1] v (some (.int q.1)) q.2 := by
  refine fm_entry (by decide) (Nat.le_of_ble_eq_true rfl) ?_
  intro p e R s m args below meth c C hr hk0 hF hLo
  unfold f_X4_module at hf
  show fm_V p l e R s m args below meth c D b 305 (shC cI cII cLd cOc b) A _ 2 0 [(0, .ref (b + 0)), (1, .int x1)] [] v
  refine fm_aload_n C dX4_module_0 rfl 0 rfl 1 rfl ?_
  refine fm_get C (t := 0) (by decide) (shC_0 _) rfl inG_X4 0 (by decide) F_X4_12 rfl dX4_module_1 4 rfl ?_
  refine fm_iload_n C dX4_module_4 rfl 1 rfl 5 rfl ?_
  obtain ⟨q2, h1, hf⟩ := Option.bind_eq_some_iff.mp hf
  refine fm_callN C Y_X2_addModule (t := 1) (by decide) (shC_1 _) rfl LN_X4_53 (As := [.int x1]) (rest := []) (c_X2_addModule  h1) (by omega) (by omega) rfl (Nat.le_of_ble_eq_true rfl) dX4_module_5 8 rfl [.int q2.1] rfl ?_
  obtain rfl := Option.some.inj hf
  exact fm_iret C hr hk0 dX4_module_8
def f_X4_item (x1 : Int32) (x2 : Int32) (x3 : Int32) (v : fm_T) : Option (Int32 × fm_T) := ((f_X2_setItem x1 x2 x3 v).bind fun q2 => some (q2.1, q2.2))
set_option maxHeartbeats 4000000 in
set_option maxRecDepth 20000 in
theorem c_X4_item {x1 : Int32} {x2 : Int32} {x3 : Int32}  {v : fm_T} {q : Int32 × fm_T} (hf : f_X4_item x1 x2 x3 v = some q) : fm_M l D (fm_tys cI cII cLd cOc) tA b 305 (shC cI cII cLd cOc b) A yX4_item cX4_item 4 (some .int) 3 [.ref (b + 0), .int x1, .int x2, .int x3] v (some (.int q.1)) q.2 := by
  refine fm_entry (by decide) (Nat.le_of_ble_eq_true rfl) ?_
  intro p e R s m args below meth c C hr hk0 hF hLo
  unfold f_X4_item at hf
  show fm_V p l e R s m args below meth c D b 305 (shC cI cII cLd cOc b) A _ 4 0 [(0, .ref (b + 0)), (1, .int x1), (2, .int x2), (3, .int x3)] [] v
  refine fm_aload_n C dX4_item_0 rfl 0 rfl 1 rfl ?_
  refine fm_get C (t := 0) (by decide) (shC_0 _) rfl inG_X4 0 (by decide) F_X4_12 rfl dX4_item_1 4 rfl ?_
  refine fm_iload_n C dX4_item_4 rfl 1 rfl 5 rfl ?_
  refine fm_iload_n C dX4_item_5 rfl 2 rfl 6 rfl ?_
  refine fm_iload_n C dX4_item_6 rfl 3 rfl 7 rfl ?_
  obtain ⟨q2, h1, hf⟩ := Option.bind_eq_some_iff.mp hf
  refine fm_callN C Y_X2_setItem (t := 1) (by decide) (shC_1 _) rfl LN_X4_57 (As := [.int x1, .int x2, .int x3]) (rest := []) (c_X2_setItem  h1) (by omega) (by omega) rfl (Nat.le_of_ble_eq_true rfl) dX4_item_7 10 rfl [.int q2.1] rfl ?_
  obtain rfl := Option.some.inj hf
  exact fm_iret C hr hk0 dX4_item_10
def f_X4_uses (x1 : Int32) (x2 : Int32) (v : fm_T) : Option (Int32 × fm_T) := ((f_X2_addUsed x1 x2 v).bind fun q2 => some (q2.1, q2.2))
set_option maxHeartbeats 4000000 in
set_option maxRecDepth 20000 in
theorem c_X4_uses {x1 : Int32} {x2 : Int32}  {v : fm_T} {q : Int32 × fm_T} (hf : f_X4_uses x1 x2 v = some q) : fm_M l D (fm_tys cI cII cLd cOc) tA b 305 (shC cI cII cLd cOc b) A yX4_uses cX4_uses 3 (some .int) 2 [.ref (b + 0), .int x1, .int x2] v (some (.int q.1)) q.2 := by
  refine fm_entry (by decide) (Nat.le_of_ble_eq_true rfl) ?_
  intro p e R s m args below meth c C hr hk0 hF hLo
  unfold f_X4_uses at hf
  show fm_V p l e R s m args below meth c D b 305 (shC cI cII cLd cOc b) A _ 3 0 [(0, .ref (b + 0)), (1, .int x1), (2, .int x2)] [] v
  refine fm_aload_n C dX4_uses_0 rfl 0 rfl 1 rfl ?_
  refine fm_get C (t := 0) (by decide) (shC_0 _) rfl inG_X4 0 (by decide) F_X4_12 rfl dX4_uses_1 4 rfl ?_
  refine fm_iload_n C dX4_uses_4 rfl 1 rfl 5 rfl ?_
  refine fm_iload_n C dX4_uses_5 rfl 2 rfl 6 rfl ?_
  obtain ⟨q2, h1, hf⟩ := Option.bind_eq_some_iff.mp hf
  refine fm_callN C Y_X2_addUsed (t := 1) (by decide) (shC_1 _) rfl LN_X4_61 (As := [.int x1, .int x2]) (rest := []) (c_X2_addUsed  h1) (by omega) (by omega) rfl (Nat.le_of_ble_eq_true rfl) dX4_uses_6 9 rfl [.int q2.1] rfl ?_
  obtain rfl := Option.some.inj hf
  exact fm_iret C hr hk0 dX4_uses_9
def f_X4_deed (x1 : Int32) (x2 : Int32) (x3 : Int32) (v : fm_T) : Option (Int32 × fm_T) := ((f_X2_addDeed x1 x2 x3 v).bind fun q2 => some (q2.1, q2.2))
set_option maxHeartbeats 4000000 in
set_option maxRecDepth 20000 in
theorem c_X4_deed {x1 : Int32} {x2 : Int32} {x3 : Int32}  {v : fm_T} {q : Int32 × fm_T} (hf : f_X4_deed x1 x2 x3 v = some q) : fm_M l D (fm_tys cI cII cLd cOc) tA b 305 (shC cI cII cLd cOc b) A yX4_deed cX4_deed 4 (some .int) 3 [.ref (b + 0), .int x1, .int x2, .int x3] v (some (.int q.1)) q.2 := by
  refine fm_entry (by decide) (Nat.le_of_ble_eq_true rfl) ?_
  intro p e R s m args below meth c C hr hk0 hF hLo
  unfold f_X4_deed at hf
  show fm_V p l e R s m args below meth c D b 305 (shC cI cII cLd cOc b) A _ 4 0 [(0, .ref (b + 0)), (1, .int x1), (2, .int x2), (3, .int x3)] [] v
  refine fm_aload_n C dX4_deed_0 rfl 0 rfl 1 rfl ?_
  refine fm_get C (t := 0) (by decide) (shC_0 _) rfl inG_X4 0 (by decide) F_X4_12 rfl dX4_deed_1 4 rfl ?_
  refine fm_iload_n C dX4_deed_4 rfl 1 rfl 5 rfl ?_
  refine fm_iload_n C dX4_deed_5 rfl 2 rfl 6 rfl ?_
  refine fm_iload_n C dX4_deed_6 rfl 3 rfl 7 rfl ?_
  obtain ⟨q2, h1, hf⟩ := Option.bind_eq_some_iff.mp hf
  refine fm_callN C Y_X2_addDeed (t := 1) (by decide) (shC_1 _) rfl LN_X4_65 (As := [.int x1, .int x2, .int x3]) (rest := []) (c_X2_addDeed  h1) (by omega) (by omega) rfl (Nat.le_of_ble_eq_true rfl) dX4_deed_7 10 rfl [.int q2.1] rfl ?_
  obtain rfl := Option.some.inj hf
  exact fm_iret C hr hk0 dX4_deed_10
def f_X4_constant (x1 : Int32) (x2 : Int32) (x3 : Int32) (x4 : Int32) (x5 : Int32) (v : fm_T) : Option (Int32 × fm_T) := ((f_X2_addConstant x1 x2 x3 x4 x5 v).bind fun q2 => some (q2.1, q2.2))
set_option maxHeartbeats 4000000 in
set_option maxRecDepth 20000 in
theorem c_X4_constant {x1 : Int32} {x2 : Int32} {x3 : Int32} {x4 : Int32} {x5 : Int32}  {v : fm_T} {q : Int32 × fm_T} (hf : f_X4_constant x1 x2 x3 x4 x5 v = some q) : fm_M l D (fm_tys cI cII cLd cOc) tA b 305 (shC cI cII cLd cOc b) A yX4_constant cX4_constant 6 (some .int) 3 [.ref (b + 0), .int x1, .int x2, .int x3, .int x4, .int x5] v (some (.int q.1)) q.2 := by
  refine fm_entry (by decide) (Nat.le_of_ble_eq_true rfl) ?_
  intro p e R s m args below meth c C hr hk0 hF hLo
  unfold f_X4_constant at hf
  show fm_V p l e R s m args below meth c D b 305 (shC cI cII cLd cOc b) A _ 6 0 [(0, .ref (b + 0)), (1, .int x1), (2, .int x2), (3, .int x3), (4, .int x4), (5, .int x5)] [] v
  refine fm_aload_n C dX4_constant_0 rfl 0 rfl 1 rfl ?_
  refine fm_get C (t := 0) (by decide) (shC_0 _) rfl inG_X4 0 (by decide) F_X4_12 rfl dX4_constant_1 4 rfl ?_
  refine fm_iload_n C dX4_constant_4 rfl 1 rfl 5 rfl ?_
  refine fm_iload_n C dX4_constant_5 rfl 2 rfl 6 rfl ?_
  refine fm_iload_n C dX4_constant_6 rfl 3 rfl 7 rfl ?_
  refine fm_iload C dX4_constant_7 4 rfl 9 rfl ?_
  refine fm_iload C dX4_constant_9 5 rfl 11 rfl ?_
  obtain ⟨q2, h1, hf⟩ := Option.bind_eq_some_iff.mp hf
  refine fm_callN C Y_X2_addConstant (t := 1) (by decide) (shC_1 _) rfl LN_X4_68 (As := [.int x1, .int x2, .int x3, .int x4, .int x5]) (rest := []) (c_X2_addConstant  h1) (by omega) (by omega) rfl (Nat.le_of_ble_eq_true rfl) dX4_constant_11 14 rfl [.int q2.1] rfl ?_
  obtain rfl := Option.some.inj hf
  exact fm_iret C hr hk0 dX4_constant_14
def f_X4_value  (v : fm_T) : Option (Int32 × fm_T) := some (v 0 4, v)
set_option maxHeartbeats 4000000 in
set_option maxRecDepth 20000 in
theorem c_X4_value   {v : fm_T} {q : Int32 × fm_T} (hf : f_X4_value  v = some q) : fm_M l D (fm_tys cI cII cLd cOc) tA b 305 (shC cI cII cLd cOc b) A yX4_value cX4_value 1 (some .int) 0 [.ref (b + 0)] v (some (.int q.1)) q.2 := by
  refine fm_entry (by decide) (Nat.le_of_ble_eq_true rfl) ?_
  intro p e R s m args below meth c C hr hk0 hF hLo
  unfold f_X4_value at hf
  show fm_V p l e R s m args below meth c D b 305 (shC cI cII cLd cOc b) A _ 1 0 [(0, .ref (b + 0))] [] v
  refine fm_aload_n C dX4_value_0 rfl 0 rfl 1 rfl ?_
  refine fm_get C (t := 0) (by decide) (shC_0 _) rfl inG_X4 4 (by decide) F_X4_94 rfl dX4_value_1 4 rfl ?_
  obtain rfl := Option.some.inj hf
  exact fm_iret C hr hk0 dX4_value_4
def f_X4_fault (x1 : Int32) (v : fm_T) : Option (Int32 × fm_T) := (if x1 = 0 then some (v 240 1, v) else (if x1 = 1 then some (v 240 2, v) else (if x1 = 2 then some (v 240 3, v) else (if x1 = 3 then some (v 240 4, v) else some ((-1), v)))))
set_option maxHeartbeats 4000000 in
set_option maxRecDepth 20000 in
theorem c_X4_fault {x1 : Int32}  {v : fm_T} {q : Int32 × fm_T} (hf : f_X4_fault x1 v = some q) : fm_M l D (fm_tys cI cII cLd cOc) tA b 305 (shC cI cII cLd cOc b) A yX4_fault cX4_fault 2 (some .int) 0 [.ref (b + 0), .int x1] v (some (.int q.1)) q.2 := by
  refine fm_entry (by decide) (Nat.le_of_ble_eq_true rfl) ?_
  intro p e R s m args below meth c C hr hk0 hF hLo
  unfold f_X4_fault at hf
  show fm_V p l e R s m args below meth c D b 305 (shC cI cII cLd cOc b) A _ 2 0 [(0, .ref (b + 0)), (1, .int x1)] [] v
  refine fm_iload_n C dX4_fault_0 rfl 1 rfl 1 rfl ?_
  by_cases w1 : x1 = 0
  · rw [if_pos w1] at hf
    refine fm_tableIn C (off := 31) 32 dX4_fault_1 (by rw [w1]; decide) (by rw [w1]; decide) (by rw [w1] <;> rfl) (by decide) ?_
    refine fm_aload_n C dX4_fault_32 rfl 0 rfl 33 rfl ?_
    refine fm_get C (t := 0) (by decide) (shC_0 _) rfl inG_X4 3 (by decide) F_X4_35 rfl dX4_fault_33 36 rfl ?_
    refine fm_getN C (t := 240) (isO_lt isO_240) ((shC_O isO_240) _) rfl inG_X1 1 (by decide) FN_X4_107 rfl dX4_fault_36 39 rfl ?_
    obtain rfl := Option.some.inj hf
    exact fm_iret C hr hk0 dX4_fault_39
  rw [if_neg w1] at hf
  by_cases w2 : x1 = 1
  · rw [if_pos w2] at hf
    refine fm_tableIn C (off := 39) 40 dX4_fault_1 (by rw [w2]; decide) (by rw [w2]; decide) (by rw [w2] <;> rfl) (by decide) ?_
    refine fm_aload_n C dX4_fault_40 rfl 0 rfl 41 rfl ?_
    refine fm_get C (t := 0) (by decide) (shC_0 _) rfl inG_X4 3 (by decide) F_X4_35 rfl dX4_fault_41 44 rfl ?_
    refine fm_getN C (t := 240) (isO_lt isO_240) ((shC_O isO_240) _) rfl inG_X1 2 (by decide) FN_X4_110 rfl dX4_fault_44 47 rfl ?_
    obtain rfl := Option.some.inj hf
    exact fm_iret C hr hk0 dX4_fault_47
  rw [if_neg w2] at hf
  by_cases w3 : x1 = 2
  · rw [if_pos w3] at hf
    refine fm_tableIn C (off := 47) 48 dX4_fault_1 (by rw [w3]; decide) (by rw [w3]; decide) (by rw [w3] <;> rfl) (by decide) ?_
    refine fm_aload_n C dX4_fault_48 rfl 0 rfl 49 rfl ?_
    refine fm_get C (t := 0) (by decide) (shC_0 _) rfl inG_X4 3 (by decide) F_X4_35 rfl dX4_fault_49 52 rfl ?_
    refine fm_getN C (t := 240) (isO_lt isO_240) ((shC_O isO_240) _) rfl inG_X1 3 (by decide) FN_X4_113 rfl dX4_fault_52 55 rfl ?_
    obtain rfl := Option.some.inj hf
    exact fm_iret C hr hk0 dX4_fault_55
  rw [if_neg w3] at hf
  by_cases w4 : x1 = 3
  · rw [if_pos w4] at hf
    refine fm_tableIn C (off := 55) 56 dX4_fault_1 (by rw [w4]; decide) (by rw [w4]; decide) (by rw [w4] <;> rfl) (by decide) ?_
    refine fm_aload_n C dX4_fault_56 rfl 0 rfl 57 rfl ?_
    refine fm_get C (t := 0) (by decide) (shC_0 _) rfl inG_X4 3 (by decide) F_X4_35 rfl dX4_fault_57 60 rfl ?_
    refine fm_getN C (t := 240) (isO_lt isO_240) ((shC_O isO_240) _) rfl inG_X1 4 (by decide) FN_X4_116 rfl dX4_fault_60 63 rfl ?_
    obtain rfl := Option.some.inj hf
    exact fm_iret C hr hk0 dX4_fault_63
  rw [if_neg w4] at hf
  refine fm_tableOut C 64 dX4_fault_1 (by have := lv_neT (a := 0) w1 (by decide); have := lv_neT (a := 1) w2 (by decide); have := lv_neT (a := 2) w3 (by decide); have := lv_neT (a := 3) w4 (by decide); omega) (by decide) ?_
  refine fm_iconst C (x := -1) dX4_fault_64 (by decide) 65 rfl ?_
  obtain rfl := Option.some.inj hf
  exact fm_iret C hr hk0 dX4_fault_65
def f_X4_answer (k : Nat) (x2 : Int32) (v : fm_T) : Option (Int32 × fm_T) := (if x2 = 0 then ((f_X1_copy 240 (bo k + 16) v).bind fun q3 => some (((-10)) - (q3.2 240 1), q3.2)) else ((f_X1_succeed 240 0 v).bind fun q5 => some (1, q5.2)))
set_option maxHeartbeats 4000000 in
set_option maxRecDepth 20000 in
theorem c_X4_answer {k : Nat} {x2 : Int32} (hk : k < 4) {v : fm_T} {q : Int32 × fm_T} (hf : f_X4_answer k x2 v = some q) : fm_M l D (fm_tys cI cII cLd cOc) tA b 305 (shC cI cII cLd cOc b) A yX4_answer cX4_answer 3 (some .int) 1 [.ref (b + 0), .ref (b + (lo k)), .int x2] v (some (.int q.1)) q.2 := by
  refine fm_entry (by decide) (Nat.le_of_ble_eq_true rfl) ?_
  intro p e R s m args below meth c C hr hk0 hF hLo
  unfold f_X4_answer at hf
  show fm_V p l e R s m args below meth c D b 305 (shC cI cII cLd cOc b) A _ 3 0 [(0, .ref (b + 0)), (1, .ref (b + (lo k))), (2, .int x2)] [] v
  refine fm_iload_n C dX4_answer_0 rfl 2 rfl 1 rfl ?_
  refine fm_if_eq C 15 dX4_answer_1 (by decide) (fun c1 => ?_) 4 rfl (fun c1 => ?_)
  · rw [if_pos c1] at hf
    refine fm_aload_n C dX4_answer_15 rfl 0 rfl 16 rfl ?_
    refine fm_get C (t := 0) (by decide) (shC_0 _) rfl inG_X4 3 (by decide) F_X4_35 rfl dX4_answer_16 19 rfl ?_
    refine fm_aload_n C dX4_answer_19 rfl 1 rfl 20 rfl ?_
    refine fm_getN C (t := lo k) (lo_lt hk) ((shC_lo hk) _) rfl inG_X0 6 (by decide) FN_X4_87 rfl dX4_answer_20 23 rfl ?_
    obtain ⟨q3, h2, hf⟩ := Option.bind_eq_some_iff.mp hf
    refine fm_callN C Y_X1_copy (t := 240) (isO_lt isO_240) ((shC_O isO_240) _) rfl LN_X4_170 (As := [.ref (b + (bo k + 16))]) (rest := []) (c_X1_copy isO_240 (isO_now hk) h2) (by omega) (by omega) rfl (Nat.le_of_ble_eq_true rfl) dX4_answer_23 26 rfl [] rfl ?_
    refine fm_bipush C (x := -10) dX4_answer_26 (by decide) 28 rfl ?_
    refine fm_aload_n C dX4_answer_28 rfl 0 rfl 29 rfl ?_
    refine fm_get C (t := 0) (by decide) (shC_0 _) rfl inG_X4 3 (by decide) F_X4_35 rfl dX4_answer_29 32 rfl ?_
    refine fm_getN C (t := 240) (isO_lt isO_240) ((shC_O isO_240) _) rfl inG_X1 1 (by decide) FN_X4_107 rfl dX4_answer_32 35 rfl ?_
    refine fm_isub C dX4_answer_35 36 rfl ?_
    obtain rfl := Option.some.inj hf
    exact fm_iret C hr hk0 dX4_answer_36
  · rw [if_neg c1] at hf
    refine fm_aload_n C dX4_answer_4 rfl 0 rfl 5 rfl ?_
    refine fm_get C (t := 0) (by decide) (shC_0 _) rfl inG_X4 3 (by decide) F_X4_35 rfl dX4_answer_5 8 rfl ?_
    refine fm_iconst C (x := 0) dX4_answer_8 (by decide) 9 rfl ?_
    obtain ⟨q5, h4, hf⟩ := Option.bind_eq_some_iff.mp hf
    refine fm_callN C Y_X1_succeed (t := 240) (isO_lt isO_240) ((shC_O isO_240) _) rfl LN_X4_167 (As := [.int 0]) (rest := []) (c_X1_succeed isO_240 h4) (by omega) (by omega) rfl (Nat.le_of_ble_eq_true rfl) dX4_answer_9 12 rfl [.int q5.1] rfl ?_
    refine fm_pop C dX4_answer_12 rfl 13 rfl ?_
    refine fm_iconst C (x := 1) dX4_answer_13 (by decide) 14 rfl ?_
    obtain rfl := Option.some.inj hf
    exact fm_iret C hr hk0 dX4_answer_14
def f_X4_need (d : Nat) (x1 : Int32) (x2 : Int32) (v : fm_T) : Option (Int32 × fm_T) := (if 0 ≤ x1 ∧ x1 < 3 then ((f_X2_hasConstant x2 v).bind fun q5 => (if q5.1 = 0 then some ((-1), q5.2) else ((f_X3_clear 0 q5.2).bind fun q8 => ((gC d 0 x1.toNatClampNeg x2 0 0 q8.2).bind fun q10 => (if q10.1 = 0 then ((f_X4_answer x1.toNatClampNeg q10.1 q10.2).bind fun q13 => some (q13.1, q13.2)) else ((some (fm_u q10.2 0 4 (q10.2 (bo x1.toNatClampNeg + 16) 0)) : Option fm_T).bind fun m15 => ((f_X4_answer x1.toNatClampNeg q10.1 m15).bind fun q17 => some (q17.1, q17.2)))))))) else some ((-1), v))
set_option maxHeartbeats 4000000 in
set_option maxRecDepth 20000 in
theorem c_X4_need {x1 : Int32} {x2 : Int32} (d : Nat)  {v : fm_T} {q : Int32 × fm_T} (hf : f_X4_need d x1 x2 v = some q) : fm_M l D (fm_tys cI cII cLd cOc) tA b 305 (shC cI cII cLd cOc b) A yX4_need cX4_need 5 (some .int) (d + 4) [.ref (b + 0), .int x1, .int x2] v (some (.int q.1)) q.2 := by
  refine fm_entry (by decide) (Nat.le_of_ble_eq_true rfl) ?_
  intro p e R s m args below meth c C hr hk0 hF hLo
  unfold f_X4_need at hf
  show fm_V p l e R s m args below meth c D b 305 (shC cI cII cLd cOc b) A _ 5 0 [(0, .ref (b + 0)), (1, .int x1), (2, .int x2)] [] v
  refine fm_aload_n C dX4_need_0 rfl 0 rfl 1 rfl ?_
  refine fm_iload_n C dX4_need_1 rfl 1 rfl 2 rfl ?_
  by_cases a3 : 0 ≤ x1 ∧ x1 < 3
  · rw [if_pos a3] at hf
    refine fm_callV C Y_X4_loaderAt (t := 0) (by decide) (shC_0 _) rfl LM_X4_72 (As := [.int x1]) (rest := []) (c_X4_loaderAt_r a3) (by omega) (by omega) rfl (Nat.le_of_ble_eq_true rfl) dX4_need_2 5 rfl [.ref (b + (lo x1.toNatClampNeg))] rfl ?_
    refine fm_astore_n C [(3, .ref (b + (lo x1.toNatClampNeg))), (0, .ref (b + 0)), (1, .int x1), (2, .int x2)] dX4_need_5 rfl (by decide) rfl 6 rfl ?_
    refine fm_aload_n C dX4_need_6 rfl 0 rfl 7 rfl ?_
    refine fm_ifnull C dX4_need_7 10 rfl ?_
    refine fm_aload_n C dX4_need_10 rfl 1 rfl 11 rfl ?_
    refine fm_get C (t := 0) (by decide) (shC_0 _) rfl inG_X4 0 (by decide) F_X4_12 rfl dX4_need_11 14 rfl ?_
    refine fm_iload_n C dX4_need_14 rfl 3 rfl 15 rfl ?_
    obtain ⟨q5, h4, hf⟩ := Option.bind_eq_some_iff.mp hf
    refine fm_callN C Y_X2_hasConstant (t := 1) (by decide) (shC_1 _) rfl LN_X4_76 (As := [.int x2]) (rest := []) (c_X2_hasConstant  h4) (by omega) (by omega) rfl (Nat.le_of_ble_eq_true rfl) dX4_need_15 18 rfl [.int q5.1] rfl ?_
    refine fm_if_ne C 23 dX4_need_18 (by decide) (fun c6 => ?_) 21 rfl (fun c6 => ?_)
    · rw [if_neg c6] at hf
      refine fm_aload_n C dX4_need_23 rfl 1 rfl 24 rfl ?_
      refine fm_get C (t := 0) (by decide) (shC_0 _) rfl inG_X4 1 (by decide) F_X4_19 rfl dX4_need_24 27 rfl ?_
      obtain ⟨q8, h7, hf⟩ := Option.bind_eq_some_iff.mp hf
      refine fm_callN C Y_X3_clear (t := ev 0) (ev_lt (j := 0) (by decide) (by decide)) ((shC_ev (by decide)) _) rfl LN_X4_80 (As := []) (rest := []) (c_X3_clear (by decide) h7) (by omega) (by omega) rfl (Nat.le_of_ble_eq_true rfl) dX4_need_27 30 rfl [] rfl ?_
      refine fm_aload_n C dX4_need_30 rfl 0 rfl 31 rfl ?_
      refine fm_iload_n C dX4_need_31 rfl 3 rfl 32 rfl ?_
      refine fm_iconst C (x := 0) dX4_need_32 (by decide) 33 rfl ?_
      obtain ⟨q10, h9, hf⟩ := Option.bind_eq_some_iff.mp hf
      refine fm_callN C Y_X0_obtain (t := lo x1.toNatClampNeg) (lo_lt (ld_lt a3)) ((shC_lo (ld_lt a3)) _) rfl LN_X4_83 (As := [.int x2, .int 0]) (rest := []) ((gC_ok d).1 (ld_lt a3) h9) (by omega) (by omega) rfl (Nat.le_of_ble_eq_true rfl) dX4_need_33 36 rfl [.int q10.1] rfl ?_
      refine fm_istore C [(4, .int q10.1), (3, .ref (b + (lo x1.toNatClampNeg))), (0, .ref (b + 0)), (1, .int x1), (2, .int x2)] dX4_need_36 (by decide) rfl 38 rfl ?_
      refine fm_iload C dX4_need_38 0 rfl 40 rfl ?_
      refine fm_if_eq C 54 dX4_need_40 (by decide) (fun c11 => ?_) 43 rfl (fun c11 => ?_)
      · rw [if_pos c11] at hf
        refine fm_aload_n C dX4_need_54 rfl 2 rfl 55 rfl ?_
        refine fm_aload_n C dX4_need_55 rfl 1 rfl 56 rfl ?_
        refine fm_iload C dX4_need_56 0 rfl 58 rfl ?_
        obtain ⟨q13, h12, hf⟩ := Option.bind_eq_some_iff.mp hf
        refine fm_callV C Y_X4_answer (t := 0) (by decide) (shC_0 _) rfl LM_X4_97 (As := [.ref (b + (lo x1.toNatClampNeg)), .int q10.1]) (rest := []) (c_X4_answer (ld_lt a3) h12) (by omega) (by omega) rfl (Nat.le_of_ble_eq_true rfl) dX4_need_58 61 rfl [.int q13.1] rfl ?_
        obtain rfl := Option.some.inj hf
        exact fm_iret C hr hk0 dX4_need_61
      · rw [if_neg c11] at hf
        refine fm_aload_n C dX4_need_43 rfl 2 rfl 44 rfl ?_
        refine fm_aload_n C dX4_need_44 rfl 1 rfl 45 rfl ?_
        refine fm_getN C (t := lo x1.toNatClampNeg) (lo_lt (ld_lt a3)) ((shC_lo (ld_lt a3)) _) rfl inG_X0 6 (by decide) FN_X4_87 rfl dX4_need_45 48 rfl ?_
        refine fm_getN C (t := bo x1.toNatClampNeg + 16) (isO_lt (isO_now (ld_lt a3))) ((shC_O (isO_now (ld_lt a3))) _) rfl inG_X1 0 (by decide) FN_X4_90 rfl dX4_need_48 51 rfl ?_
        obtain ⟨m15, e14, hf⟩ := Option.bind_eq_some_iff.mp hf
        refine fm_put C (t := 0) (by decide) (shC_0 _) rfl inG_X4 4 (by decide) F_X4_94 tyX4 tyX4_ok nmX4 rfl (ty := .int) (by decide +kernel) rfl rfl (Nat.le_of_ble_eq_true rfl) ((shC_0 _).trans rfl) dX4_need_51 54 rfl m15 (Option.some.inj e14) ?_
        refine fm_aload_n C dX4_need_54 rfl 2 rfl 55 rfl ?_
        refine fm_aload_n C dX4_need_55 rfl 1 rfl 56 rfl ?_
        refine fm_iload C dX4_need_56 0 rfl 58 rfl ?_
        obtain ⟨q17, h16, hf⟩ := Option.bind_eq_some_iff.mp hf
        refine fm_callV C Y_X4_answer (t := 0) (by decide) (shC_0 _) rfl LM_X4_97 (As := [.ref (b + (lo x1.toNatClampNeg)), .int q10.1]) (rest := []) (c_X4_answer (ld_lt a3) h16) (by omega) (by omega) rfl (Nat.le_of_ble_eq_true rfl) dX4_need_58 61 rfl [.int q17.1] rfl ?_
        obtain rfl := Option.some.inj hf
        exact fm_iret C hr hk0 dX4_need_61
    · rw [if_pos c6] at hf
      refine fm_iconst C (x := -1) dX4_need_21 (by decide) 22 rfl ?_
      obtain rfl := Option.some.inj hf
      exact fm_iret C hr hk0 dX4_need_22
  · rw [if_neg a3] at hf
    refine fm_callV C Y_X4_loaderAt (t := 0) (by decide) (shC_0 _) rfl LM_X4_72 (As := [.int x1]) (rest := []) (c_X4_loaderAt_n a3) (by omega) (by omega) rfl (Nat.le_of_ble_eq_true rfl) dX4_need_2 5 rfl [.null] rfl ?_
    refine fm_astore_nN C [(3, .null), (0, .ref (b + 0)), (1, .int x1), (2, .int x2)] dX4_need_5 rfl (by decide) rfl 6 rfl ?_
    refine fm_aload_nN C dX4_need_6 rfl 0 rfl 7 rfl ?_
    refine fm_ifnullN C 21 dX4_need_7 (by decide) ?_
    refine fm_iconst C (x := -1) dX4_need_21 (by decide) 22 rfl ?_
    obtain rfl := Option.some.inj hf
    exact fm_iret C hr hk0 dX4_need_22
def f_X4_start (d : Nat) (x1 : Int32) (x2 : Int32) (v : fm_T) : Option (Int32 × fm_T) := (if 0 ≤ x1 ∧ x1 < 3 then ((f_X2_hasModule x2 v).bind fun q5 => (if q5.1 = 0 then some ((-1), q5.2) else ((f_X3_clear 0 q5.2).bind fun q8 => ((gC d 1 x1.toNatClampNeg x2 0 0 q8.2).bind fun q10 => ((f_X4_answer x1.toNatClampNeg q10.1 q10.2).bind fun q12 => some (q12.1, q12.2)))))) else some ((-1), v))
set_option maxHeartbeats 4000000 in
set_option maxRecDepth 20000 in
theorem c_X4_start {x1 : Int32} {x2 : Int32} (d : Nat)  {v : fm_T} {q : Int32 × fm_T} (hf : f_X4_start d x1 x2 v = some q) : fm_M l D (fm_tys cI cII cLd cOc) tA b 305 (shC cI cII cLd cOc b) A yX4_start cX4_start 4 (some .int) (d + 4) [.ref (b + 0), .int x1, .int x2] v (some (.int q.1)) q.2 := by
  refine fm_entry (by decide) (Nat.le_of_ble_eq_true rfl) ?_
  intro p e R s m args below meth c C hr hk0 hF hLo
  unfold f_X4_start at hf
  show fm_V p l e R s m args below meth c D b 305 (shC cI cII cLd cOc b) A _ 4 0 [(0, .ref (b + 0)), (1, .int x1), (2, .int x2)] [] v
  refine fm_aload_n C dX4_start_0 rfl 0 rfl 1 rfl ?_
  refine fm_iload_n C dX4_start_1 rfl 1 rfl 2 rfl ?_
  by_cases a3 : 0 ≤ x1 ∧ x1 < 3
  · rw [if_pos a3] at hf
    refine fm_callV C Y_X4_loaderAt (t := 0) (by decide) (shC_0 _) rfl LM_X4_72 (As := [.int x1]) (rest := []) (c_X4_loaderAt_r a3) (by omega) (by omega) rfl (Nat.le_of_ble_eq_true rfl) dX4_start_2 5 rfl [.ref (b + (lo x1.toNatClampNeg))] rfl ?_
    refine fm_astore_n C [(3, .ref (b + (lo x1.toNatClampNeg))), (0, .ref (b + 0)), (1, .int x1), (2, .int x2)] dX4_start_5 rfl (by decide) rfl 6 rfl ?_
    refine fm_aload_n C dX4_start_6 rfl 0 rfl 7 rfl ?_
    refine fm_ifnull C dX4_start_7 10 rfl ?_
    refine fm_aload_n C dX4_start_10 rfl 1 rfl 11 rfl ?_
    refine fm_get C (t := 0) (by decide) (shC_0 _) rfl inG_X4 0 (by decide) F_X4_12 rfl dX4_start_11 14 rfl ?_
    refine fm_iload_n C dX4_start_14 rfl 3 rfl 15 rfl ?_
    obtain ⟨q5, h4, hf⟩ := Option.bind_eq_some_iff.mp hf
    refine fm_callN C Y_X2_hasModule (t := 1) (by decide) (shC_1 _) rfl LN_X4_101 (As := [.int x2]) (rest := []) (c_X2_hasModule  h4) (by omega) (by omega) rfl (Nat.le_of_ble_eq_true rfl) dX4_start_15 18 rfl [.int q5.1] rfl ?_
    refine fm_if_ne C 23 dX4_start_18 (by decide) (fun c6 => ?_) 21 rfl (fun c6 => ?_)
    · rw [if_neg c6] at hf
      refine fm_aload_n C dX4_start_23 rfl 1 rfl 24 rfl ?_
      refine fm_get C (t := 0) (by decide) (shC_0 _) rfl inG_X4 1 (by decide) F_X4_19 rfl dX4_start_24 27 rfl ?_
      obtain ⟨q8, h7, hf⟩ := Option.bind_eq_some_iff.mp hf
      refine fm_callN C Y_X3_clear (t := ev 0) (ev_lt (j := 0) (by decide) (by decide)) ((shC_ev (by decide)) _) rfl LN_X4_80 (As := []) (rest := []) (c_X3_clear (by decide) h7) (by omega) (by omega) rfl (Nat.le_of_ble_eq_true rfl) dX4_start_27 30 rfl [] rfl ?_
      refine fm_aload_n C dX4_start_30 rfl 1 rfl 31 rfl ?_
      refine fm_aload_n C dX4_start_31 rfl 0 rfl 32 rfl ?_
      refine fm_aload_n C dX4_start_32 rfl 0 rfl 33 rfl ?_
      refine fm_iload_n C dX4_start_33 rfl 3 rfl 34 rfl ?_
      refine fm_iconst C (x := 0) dX4_start_34 (by decide) 35 rfl ?_
      obtain ⟨q10, h9, hf⟩ := Option.bind_eq_some_iff.mp hf
      refine fm_callN C Y_X0_begin (t := lo x1.toNatClampNeg) (lo_lt (ld_lt a3)) ((shC_lo (ld_lt a3)) _) rfl LN_X4_104 (As := [.int x2, .int 0]) (rest := [.ref (b + (lo x1.toNatClampNeg)), .ref (b + 0)]) ((gC_ok d).2.1 (ld_lt a3) h9) (by omega) (by omega) rfl (Nat.le_of_ble_eq_true rfl) dX4_start_35 38 rfl [.int q10.1, .ref (b + (lo x1.toNatClampNeg)), .ref (b + 0)] rfl ?_
      obtain ⟨q12, h11, hf⟩ := Option.bind_eq_some_iff.mp hf
      refine fm_callV C Y_X4_answer (t := 0) (by decide) (shC_0 _) rfl LM_X4_97 (As := [.ref (b + (lo x1.toNatClampNeg)), .int q10.1]) (rest := []) (c_X4_answer (ld_lt a3) h11) (by omega) (by omega) rfl (Nat.le_of_ble_eq_true rfl) dX4_start_38 41 rfl [.int q12.1] rfl ?_
      obtain rfl := Option.some.inj hf
      exact fm_iret C hr hk0 dX4_start_41
    · rw [if_pos c6] at hf
      refine fm_iconst C (x := -1) dX4_start_21 (by decide) 22 rfl ?_
      obtain rfl := Option.some.inj hf
      exact fm_iret C hr hk0 dX4_start_22
  · rw [if_neg a3] at hf
    refine fm_callV C Y_X4_loaderAt (t := 0) (by decide) (shC_0 _) rfl LM_X4_72 (As := [.int x1]) (rest := []) (c_X4_loaderAt_n a3) (by omega) (by omega) rfl (Nat.le_of_ble_eq_true rfl) dX4_start_2 5 rfl [.null] rfl ?_
    refine fm_astore_nN C [(3, .null), (0, .ref (b + 0)), (1, .int x1), (2, .int x2)] dX4_start_5 rfl (by decide) rfl 6 rfl ?_
    refine fm_aload_nN C dX4_start_6 rfl 0 rfl 7 rfl ?_
    refine fm_ifnullN C 21 dX4_start_7 (by decide) ?_
    refine fm_iconst C (x := -1) dX4_start_21 (by decide) 22 rfl ?_
    obtain rfl := Option.some.inj hf
    exact fm_iret C hr hk0 dX4_start_22
def f_X4_state (x1 : Int32) (x2 : Int32) (v : fm_T) : Option (Int32 × fm_T) := (if 0 ≤ x1 ∧ x1 < 3 then ((f_X2_hasModule x2 v).bind fun q5 => (if q5.1 = 0 then some ((-1), q5.2) else (if x2 < 0 ∨ 12 ≤ x2.toNatClampNeg then none else some (q5.2 (bo x1.toNatClampNeg) x2.toNatClampNeg, q5.2)))) else some ((-1), v))
set_option maxHeartbeats 4000000 in
set_option maxRecDepth 20000 in
theorem c_X4_state {x1 : Int32} {x2 : Int32}  {v : fm_T} {q : Int32 × fm_T} (hf : f_X4_state x1 x2 v = some q) : fm_M l D (fm_tys cI cII cLd cOc) tA b 305 (shC cI cII cLd cOc b) A yX4_state cX4_state 4 (some .int) 1 [.ref (b + 0), .int x1, .int x2] v (some (.int q.1)) q.2 := by
  refine fm_entry (by decide) (Nat.le_of_ble_eq_true rfl) ?_
  intro p e R s m args below meth c C hr hk0 hF hLo
  unfold f_X4_state at hf
  show fm_V p l e R s m args below meth c D b 305 (shC cI cII cLd cOc b) A _ 4 0 [(0, .ref (b + 0)), (1, .int x1), (2, .int x2)] [] v
  refine fm_aload_n C dX4_state_0 rfl 0 rfl 1 rfl ?_
  refine fm_iload_n C dX4_state_1 rfl 1 rfl 2 rfl ?_
  by_cases a3 : 0 ≤ x1 ∧ x1 < 3
  · rw [if_pos a3] at hf
    refine fm_callV C Y_X4_loaderAt (t := 0) (by decide) (shC_0 _) rfl LM_X4_72 (As := [.int x1]) (rest := []) (c_X4_loaderAt_r a3) (by omega) (by omega) rfl (Nat.le_of_ble_eq_true rfl) dX4_state_2 5 rfl [.ref (b + (lo x1.toNatClampNeg))] rfl ?_
    refine fm_astore_n C [(3, .ref (b + (lo x1.toNatClampNeg))), (0, .ref (b + 0)), (1, .int x1), (2, .int x2)] dX4_state_5 rfl (by decide) rfl 6 rfl ?_
    refine fm_aload_n C dX4_state_6 rfl 0 rfl 7 rfl ?_
    refine fm_ifnull C dX4_state_7 10 rfl ?_
    refine fm_aload_n C dX4_state_10 rfl 1 rfl 11 rfl ?_
    refine fm_get C (t := 0) (by decide) (shC_0 _) rfl inG_X4 0 (by decide) F_X4_12 rfl dX4_state_11 14 rfl ?_
    refine fm_iload_n C dX4_state_14 rfl 3 rfl 15 rfl ?_
    obtain ⟨q5, h4, hf⟩ := Option.bind_eq_some_iff.mp hf
    refine fm_callN C Y_X2_hasModule (t := 1) (by decide) (shC_1 _) rfl LN_X4_101 (As := [.int x2]) (rest := []) (c_X2_hasModule  h4) (by omega) (by omega) rfl (Nat.le_of_ble_eq_true rfl) dX4_state_15 18 rfl [.int q5.1] rfl ?_
    refine fm_if_ne C 25 dX4_state_18 (by decide) (fun c6 => ?_) 21 rfl (fun c6 => ?_)
    · rw [if_neg c6] at hf
      refine fm_aload_n C dX4_state_25 rfl 0 rfl 26 rfl ?_
      refine fm_getN C (t := lo x1.toNatClampNeg) (lo_lt (ld_lt a3)) ((shC_lo (ld_lt a3)) _) rfl inG_X0 2 (by decide) FN_X4_119 rfl dX4_state_26 29 rfl ?_
      refine fm_iload_n C dX4_state_29 rfl 3 rfl 30 rfl ?_
      by_cases b7 : x2 < 0 ∨ 12 ≤ x2.toNatClampNeg
      · rw [if_pos b7] at hf; cases hf
      rw [if_neg b7] at hf
      refine fm_iald C (t := bo x1.toNatClampNeg) (t0 := 0) (bo_lt (j := 0) (ld_lt a3) (by decide)) ((shC_b0 (ld_lt a3)) _) rfl b7 dX4_state_30 31 rfl ?_
      obtain rfl := Option.some.inj hf
      exact fm_iret C hr hk0 dX4_state_31
    · rw [if_pos c6] at hf
      refine fm_iconst C (x := -1) dX4_state_21 (by decide) 22 rfl ?_
      refine fm_goto C 31 dX4_state_22 (by decide) ?_
      obtain rfl := Option.some.inj hf
      exact fm_iret C hr hk0 dX4_state_31
  · rw [if_neg a3] at hf
    refine fm_callV C Y_X4_loaderAt (t := 0) (by decide) (shC_0 _) rfl LM_X4_72 (As := [.int x1]) (rest := []) (c_X4_loaderAt_n a3) (by omega) (by omega) rfl (Nat.le_of_ble_eq_true rfl) dX4_state_2 5 rfl [.null] rfl ?_
    refine fm_astore_nN C [(3, .null), (0, .ref (b + 0)), (1, .int x1), (2, .int x2)] dX4_state_5 rfl (by decide) rfl 6 rfl ?_
    refine fm_aload_nN C dX4_state_6 rfl 0 rfl 7 rfl ?_
    refine fm_ifnullN C 21 dX4_state_7 (by decide) ?_
    refine fm_iconst C (x := -1) dX4_state_21 (by decide) 22 rfl ?_
    refine fm_goto C 31 dX4_state_22 (by decide) ?_
    obtain rfl := Option.some.inj hf
    exact fm_iret C hr hk0 dX4_state_31
def f_X4_kept (x1 : Int32) (x2 : Int32) (v : fm_T) : Option (Int32 × fm_T) := (if 0 ≤ x1 ∧ x1 < 3 then ((f_X2_hasConstant x2 v).bind fun q5 => (if q5.1 = 0 then some ((-1), q5.2) else ((f_X0_tellKept x1.toNatClampNeg x2 q5.2).bind fun q8 => some (q8.1, q8.2)))) else some ((-1), v))
set_option maxHeartbeats 4000000 in
set_option maxRecDepth 20000 in
theorem c_X4_kept {x1 : Int32} {x2 : Int32}  {v : fm_T} {q : Int32 × fm_T} (hf : f_X4_kept x1 x2 v = some q) : fm_M l D (fm_tys cI cII cLd cOc) tA b 305 (shC cI cII cLd cOc b) A yX4_kept cX4_kept 4 (some .int) 1 [.ref (b + 0), .int x1, .int x2] v (some (.int q.1)) q.2 := by
  refine fm_entry (by decide) (Nat.le_of_ble_eq_true rfl) ?_
  intro p e R s m args below meth c C hr hk0 hF hLo
  unfold f_X4_kept at hf
  show fm_V p l e R s m args below meth c D b 305 (shC cI cII cLd cOc b) A _ 4 0 [(0, .ref (b + 0)), (1, .int x1), (2, .int x2)] [] v
  refine fm_aload_n C dX4_kept_0 rfl 0 rfl 1 rfl ?_
  refine fm_iload_n C dX4_kept_1 rfl 1 rfl 2 rfl ?_
  by_cases a3 : 0 ≤ x1 ∧ x1 < 3
  · rw [if_pos a3] at hf
    refine fm_callV C Y_X4_loaderAt (t := 0) (by decide) (shC_0 _) rfl LM_X4_72 (As := [.int x1]) (rest := []) (c_X4_loaderAt_r a3) (by omega) (by omega) rfl (Nat.le_of_ble_eq_true rfl) dX4_kept_2 5 rfl [.ref (b + (lo x1.toNatClampNeg))] rfl ?_
    refine fm_astore_n C [(3, .ref (b + (lo x1.toNatClampNeg))), (0, .ref (b + 0)), (1, .int x1), (2, .int x2)] dX4_kept_5 rfl (by decide) rfl 6 rfl ?_
    refine fm_aload_n C dX4_kept_6 rfl 0 rfl 7 rfl ?_
    refine fm_ifnull C dX4_kept_7 10 rfl ?_
    refine fm_aload_n C dX4_kept_10 rfl 1 rfl 11 rfl ?_
    refine fm_get C (t := 0) (by decide) (shC_0 _) rfl inG_X4 0 (by decide) F_X4_12 rfl dX4_kept_11 14 rfl ?_
    refine fm_iload_n C dX4_kept_14 rfl 3 rfl 15 rfl ?_
    obtain ⟨q5, h4, hf⟩ := Option.bind_eq_some_iff.mp hf
    refine fm_callN C Y_X2_hasConstant (t := 1) (by decide) (shC_1 _) rfl LN_X4_76 (As := [.int x2]) (rest := []) (c_X2_hasConstant  h4) (by omega) (by omega) rfl (Nat.le_of_ble_eq_true rfl) dX4_kept_15 18 rfl [.int q5.1] rfl ?_
    refine fm_if_ne C 25 dX4_kept_18 (by decide) (fun c6 => ?_) 21 rfl (fun c6 => ?_)
    · rw [if_neg c6] at hf
      refine fm_aload_n C dX4_kept_25 rfl 0 rfl 26 rfl ?_
      refine fm_iload_n C dX4_kept_26 rfl 3 rfl 27 rfl ?_
      obtain ⟨q8, h7, hf⟩ := Option.bind_eq_some_iff.mp hf
      refine fm_callN C Y_X0_tellKept (t := lo x1.toNatClampNeg) (lo_lt (ld_lt a3)) ((shC_lo (ld_lt a3)) _) rfl LN_X4_122 (As := [.int x2]) (rest := []) (c_X0_tellKept (ld_lt a3) h7) (by omega) (by omega) rfl (Nat.le_of_ble_eq_true rfl) dX4_kept_27 30 rfl [.int q8.1] rfl ?_
      obtain rfl := Option.some.inj hf
      exact fm_iret C hr hk0 dX4_kept_30
    · rw [if_pos c6] at hf
      refine fm_iconst C (x := -1) dX4_kept_21 (by decide) 22 rfl ?_
      refine fm_goto C 30 dX4_kept_22 (by decide) ?_
      obtain rfl := Option.some.inj hf
      exact fm_iret C hr hk0 dX4_kept_30
  · rw [if_neg a3] at hf
    refine fm_callV C Y_X4_loaderAt (t := 0) (by decide) (shC_0 _) rfl LM_X4_72 (As := [.int x1]) (rest := []) (c_X4_loaderAt_n a3) (by omega) (by omega) rfl (Nat.le_of_ble_eq_true rfl) dX4_kept_2 5 rfl [.null] rfl ?_
    refine fm_astore_nN C [(3, .null), (0, .ref (b + 0)), (1, .int x1), (2, .int x2)] dX4_kept_5 rfl (by decide) rfl 6 rfl ?_
    refine fm_aload_nN C dX4_kept_6 rfl 0 rfl 7 rfl ?_
    refine fm_ifnullN C 21 dX4_kept_7 (by decide) ?_
    refine fm_iconst C (x := -1) dX4_kept_21 (by decide) 22 rfl ?_
    refine fm_goto C 30 dX4_kept_22 (by decide) ?_
    obtain rfl := Option.some.inj hf
    exact fm_iret C hr hk0 dX4_kept_30
def f_X4_row (x1 : Int32) (x2 : Int32) (x3 : Int32) (v : fm_T) : Option (Int32 × fm_T) := (if 0 ≤ x1 ∧ x1 < 3 then ((f_X2_hasModule x2 v).bind fun q5 => (if q5.1 = 0 then some ((-1), q5.2) else ((f_X2_hasItem x2 x3 q5.2).bind fun q8 => (if q8.1 = 0 then some ((-3), q8.2) else ((f_X0_tellItem x1.toNatClampNeg x2 x3 q8.2).bind fun q11 => some (q11.1, q11.2)))))) else some ((-1), v))
set_option maxHeartbeats 4000000 in
set_option maxRecDepth 20000 in
theorem c_X4_row {x1 : Int32} {x2 : Int32} {x3 : Int32}  {v : fm_T} {q : Int32 × fm_T} (hf : f_X4_row x1 x2 x3 v = some q) : fm_M l D (fm_tys cI cII cLd cOc) tA b 305 (shC cI cII cLd cOc b) A yX4_row cX4_row 5 (some .int) 2 [.ref (b + 0), .int x1, .int x2, .int x3] v (some (.int q.1)) q.2 := by
  refine fm_entry (by decide) (Nat.le_of_ble_eq_true rfl) ?_
  intro p e R s m args below meth c C hr hk0 hF hLo
  unfold f_X4_row at hf
  show fm_V p l e R s m args below meth c D b 305 (shC cI cII cLd cOc b) A _ 5 0 [(0, .ref (b + 0)), (1, .int x1), (2, .int x2), (3, .int x3)] [] v
  refine fm_aload_n C dX4_row_0 rfl 0 rfl 1 rfl ?_
  refine fm_iload_n C dX4_row_1 rfl 1 rfl 2 rfl ?_
  by_cases a3 : 0 ≤ x1 ∧ x1 < 3
  · rw [if_pos a3] at hf
    refine fm_callV C Y_X4_loaderAt (t := 0) (by decide) (shC_0 _) rfl LM_X4_72 (As := [.int x1]) (rest := []) (c_X4_loaderAt_r a3) (by omega) (by omega) rfl (Nat.le_of_ble_eq_true rfl) dX4_row_2 5 rfl [.ref (b + (lo x1.toNatClampNeg))] rfl ?_
    refine fm_astore C [(4, .ref (b + (lo x1.toNatClampNeg))), (0, .ref (b + 0)), (1, .int x1), (2, .int x2), (3, .int x3)] dX4_row_5 (by decide) rfl 7 rfl ?_
    refine fm_aload C dX4_row_7 0 rfl 9 rfl ?_
    refine fm_ifnull C dX4_row_9 12 rfl ?_
    refine fm_aload_n C dX4_row_12 rfl 1 rfl 13 rfl ?_
    refine fm_get C (t := 0) (by decide) (shC_0 _) rfl inG_X4 0 (by decide) F_X4_12 rfl dX4_row_13 16 rfl ?_
    refine fm_iload_n C dX4_row_16 rfl 3 rfl 17 rfl ?_
    obtain ⟨q5, h4, hf⟩ := Option.bind_eq_some_iff.mp hf
    refine fm_callN C Y_X2_hasModule (t := 1) (by decide) (shC_1 _) rfl LN_X4_101 (As := [.int x2]) (rest := []) (c_X2_hasModule  h4) (by omega) (by omega) rfl (Nat.le_of_ble_eq_true rfl) dX4_row_17 20 rfl [.int q5.1] rfl ?_
    refine fm_if_ne C 25 dX4_row_20 (by decide) (fun c6 => ?_) 23 rfl (fun c6 => ?_)
    · rw [if_neg c6] at hf
      refine fm_aload_n C dX4_row_25 rfl 1 rfl 26 rfl ?_
      refine fm_get C (t := 0) (by decide) (shC_0 _) rfl inG_X4 0 (by decide) F_X4_12 rfl dX4_row_26 29 rfl ?_
      refine fm_iload_n C dX4_row_29 rfl 3 rfl 30 rfl ?_
      refine fm_iload_n C dX4_row_30 rfl 4 rfl 31 rfl ?_
      obtain ⟨q8, h7, hf⟩ := Option.bind_eq_some_iff.mp hf
      refine fm_callN C Y_X2_hasItem (t := 1) (by decide) (shC_1 _) rfl LN_X4_125 (As := [.int x2, .int x3]) (rest := []) (c_X2_hasItem  h7) (by omega) (by omega) rfl (Nat.le_of_ble_eq_true rfl) dX4_row_31 34 rfl [.int q8.1] rfl ?_
      refine fm_if_eq C 47 dX4_row_34 (by decide) (fun c9 => ?_) 37 rfl (fun c9 => ?_)
      · rw [if_pos c9] at hf
        refine fm_bipush C (x := -3) dX4_row_47 (by decide) 49 rfl ?_
        obtain rfl := Option.some.inj hf
        exact fm_iret C hr hk0 dX4_row_49
      · rw [if_neg c9] at hf
        refine fm_aload C dX4_row_37 0 rfl 39 rfl ?_
        refine fm_iload_n C dX4_row_39 rfl 3 rfl 40 rfl ?_
        refine fm_iload_n C dX4_row_40 rfl 4 rfl 41 rfl ?_
        obtain ⟨q11, h10, hf⟩ := Option.bind_eq_some_iff.mp hf
        refine fm_callN C Y_X0_tellItem (t := lo x1.toNatClampNeg) (lo_lt (ld_lt a3)) ((shC_lo (ld_lt a3)) _) rfl LN_X4_128 (As := [.int x2, .int x3]) (rest := []) (c_X0_tellItem (ld_lt a3) h10) (by omega) (by omega) rfl (Nat.le_of_ble_eq_true rfl) dX4_row_41 44 rfl [.int q11.1] rfl ?_
        refine fm_goto C 49 dX4_row_44 (by decide) ?_
        obtain rfl := Option.some.inj hf
        exact fm_iret C hr hk0 dX4_row_49
    · rw [if_pos c6] at hf
      refine fm_iconst C (x := -1) dX4_row_23 (by decide) 24 rfl ?_
      obtain rfl := Option.some.inj hf
      exact fm_iret C hr hk0 dX4_row_24
  · rw [if_neg a3] at hf
    refine fm_callV C Y_X4_loaderAt (t := 0) (by decide) (shC_0 _) rfl LM_X4_72 (As := [.int x1]) (rest := []) (c_X4_loaderAt_n a3) (by omega) (by omega) rfl (Nat.le_of_ble_eq_true rfl) dX4_row_2 5 rfl [.null] rfl ?_
    refine fm_astoreN C [(4, .null), (0, .ref (b + 0)), (1, .int x1), (2, .int x2), (3, .int x3)] dX4_row_5 (by decide) rfl 7 rfl ?_
    refine fm_aloadN C dX4_row_7 0 rfl 9 rfl ?_
    refine fm_ifnullN C 23 dX4_row_9 (by decide) ?_
    refine fm_iconst C (x := -1) dX4_row_23 (by decide) 24 rfl ?_
    obtain rfl := Option.some.inj hf
    exact fm_iret C hr hk0 dX4_row_24
def f_X4_trace (x1 : Int32) (x2 : Int32) (v : fm_T) : Option (Int32 × fm_T) := (if x2 = 0 then (if x1 < 0 then some ((-3), v) else (if x1 < v (ev 0) 2 then (if x1 < 0 ∨ 200 ≤ x1.toNatClampNeg then none else some (v (ev 0 + 1) x1.toNatClampNeg, v)) else some ((-3), v))) else (if x2 = 1 then (if x1 < 0 then some ((-3), v) else (if x1 < v (ev 0) 2 then (if x1 < 0 ∨ 200 ≤ x1.toNatClampNeg then none else some (v (ev 0 + 2) x1.toNatClampNeg, v)) else some ((-3), v))) else some ((-1), v)))
set_option maxHeartbeats 4000000 in
set_option maxRecDepth 20000 in
theorem c_X4_trace {x1 : Int32} {x2 : Int32}  {v : fm_T} {q : Int32 × fm_T} (hf : f_X4_trace x1 x2 v = some q) : fm_M l D (fm_tys cI cII cLd cOc) tA b 305 (shC cI cII cLd cOc b) A yX4_trace cX4_trace 3 (some .int) 0 [.ref (b + 0), .int x1, .int x2] v (some (.int q.1)) q.2 := by
  refine fm_entry (by decide) (Nat.le_of_ble_eq_true rfl) ?_
  intro p e R s m args below meth c C hr hk0 hF hLo
  unfold f_X4_trace at hf
  show fm_V p l e R s m args below meth c D b 305 (shC cI cII cLd cOc b) A _ 3 0 [(0, .ref (b + 0)), (1, .int x1), (2, .int x2)] [] v
  refine fm_iload_n C dX4_trace_0 rfl 2 rfl 1 rfl ?_
  refine fm_if_eq C 11 dX4_trace_1 (by decide) (fun c1 => ?_) 4 rfl (fun c1 => ?_)
  · rw [if_pos c1] at hf
    refine fm_iload_n C dX4_trace_11 rfl 1 rfl 12 rfl ?_
    refine fm_if_lt C 26 dX4_trace_12 (by decide) (fun c2 => ?_) 15 rfl (fun c2 => ?_)
    · rw [if_pos c2] at hf
      refine fm_bipush C (x := -3) dX4_trace_26 (by decide) 28 rfl ?_
      obtain rfl := Option.some.inj hf
      exact fm_iret C hr hk0 dX4_trace_28
    · rw [if_neg c2] at hf
      refine fm_iload_n C dX4_trace_15 rfl 1 rfl 16 rfl ?_
      refine fm_aload_n C dX4_trace_16 rfl 0 rfl 17 rfl ?_
      refine fm_get C (t := 0) (by decide) (shC_0 _) rfl inG_X4 1 (by decide) F_X4_19 rfl dX4_trace_17 20 rfl ?_
      refine fm_getN C (t := ev 0) (ev_lt (j := 0) (by decide) (by decide)) ((shC_ev (by decide)) _) rfl inG_X3 2 (by decide) FN_X4_131 rfl dX4_trace_20 23 rfl ?_
      refine fm_icmp_lt C 29 dX4_trace_23 (by decide) (fun c3 => ?_) 26 rfl (fun c3 => ?_)
      · rw [if_pos c3] at hf
        refine fm_iload_n C dX4_trace_29 rfl 2 rfl 30 rfl ?_
        refine fm_if_ne C 45 dX4_trace_30 (by decide) (fun c0 => (by first | exact absurd c1 c0 | exact absurd c0 c1)) 33 rfl (fun _ => ?_)
        refine fm_aload_n C dX4_trace_33 rfl 0 rfl 34 rfl ?_
        refine fm_get C (t := 0) (by decide) (shC_0 _) rfl inG_X4 1 (by decide) F_X4_19 rfl dX4_trace_34 37 rfl ?_
        refine fm_getN C (t := ev 0) (ev_lt (j := 0) (by decide) (by decide)) ((shC_ev (by decide)) _) rfl inG_X3 0 (by decide) FN_X4_134 rfl dX4_trace_37 40 rfl ?_
        refine fm_iload_n C dX4_trace_40 rfl 1 rfl 41 rfl ?_
        by_cases b4 : x1 < 0 ∨ 200 ≤ x1.toNatClampNeg
        · rw [if_pos b4] at hf; cases hf
        rw [if_neg b4] at hf
        refine fm_iald C (t := ev 0 + 1) (t0 := 0) (ev_lt (by decide) (by decide)) ((shC_ev1 (by decide)) _) rfl b4 dX4_trace_41 42 rfl ?_
        refine fm_goto C 54 dX4_trace_42 (by decide) ?_
        obtain rfl := Option.some.inj hf
        exact fm_iret C hr hk0 dX4_trace_54
      · rw [if_neg c3] at hf
        refine fm_bipush C (x := -3) dX4_trace_26 (by decide) 28 rfl ?_
        obtain rfl := Option.some.inj hf
        exact fm_iret C hr hk0 dX4_trace_28
  · rw [if_neg c1] at hf
    refine fm_iload_n C dX4_trace_4 rfl 2 rfl 5 rfl ?_
    refine fm_iconst C (x := 1) dX4_trace_5 (by decide) 6 rfl ?_
    refine fm_icmp_eq C 11 dX4_trace_6 (by decide) (fun c5 => ?_) 9 rfl (fun c5 => ?_)
    · rw [if_pos c5] at hf
      refine fm_iload_n C dX4_trace_11 rfl 1 rfl 12 rfl ?_
      refine fm_if_lt C 26 dX4_trace_12 (by decide) (fun c6 => ?_) 15 rfl (fun c6 => ?_)
      · rw [if_pos c6] at hf
        refine fm_bipush C (x := -3) dX4_trace_26 (by decide) 28 rfl ?_
        obtain rfl := Option.some.inj hf
        exact fm_iret C hr hk0 dX4_trace_28
      · rw [if_neg c6] at hf
        refine fm_iload_n C dX4_trace_15 rfl 1 rfl 16 rfl ?_
        refine fm_aload_n C dX4_trace_16 rfl 0 rfl 17 rfl ?_
        refine fm_get C (t := 0) (by decide) (shC_0 _) rfl inG_X4 1 (by decide) F_X4_19 rfl dX4_trace_17 20 rfl ?_
        refine fm_getN C (t := ev 0) (ev_lt (j := 0) (by decide) (by decide)) ((shC_ev (by decide)) _) rfl inG_X3 2 (by decide) FN_X4_131 rfl dX4_trace_20 23 rfl ?_
        refine fm_icmp_lt C 29 dX4_trace_23 (by decide) (fun c7 => ?_) 26 rfl (fun c7 => ?_)
        · rw [if_pos c7] at hf
          refine fm_iload_n C dX4_trace_29 rfl 2 rfl 30 rfl ?_
          refine fm_if_ne C 45 dX4_trace_30 (by decide) (fun _ => ?_) 33 rfl (fun c0 => (by first | exact absurd c1 c0 | exact absurd c0 c1))
          refine fm_aload_n C dX4_trace_45 rfl 0 rfl 46 rfl ?_
          refine fm_get C (t := 0) (by decide) (shC_0 _) rfl inG_X4 1 (by decide) F_X4_19 rfl dX4_trace_46 49 rfl ?_
          refine fm_getN C (t := ev 0) (ev_lt (j := 0) (by decide) (by decide)) ((shC_ev (by decide)) _) rfl inG_X3 1 (by decide) FN_X4_137 rfl dX4_trace_49 52 rfl ?_
          refine fm_iload_n C dX4_trace_52 rfl 1 rfl 53 rfl ?_
          by_cases b8 : x1 < 0 ∨ 200 ≤ x1.toNatClampNeg
          · rw [if_pos b8] at hf; cases hf
          rw [if_neg b8] at hf
          refine fm_iald C (t := ev 0 + 2) (t0 := 0) (ev_lt (by decide) (by decide)) ((shC_ev2 (by decide)) _) rfl b8 dX4_trace_53 54 rfl ?_
          obtain rfl := Option.some.inj hf
          exact fm_iret C hr hk0 dX4_trace_54
        · rw [if_neg c7] at hf
          refine fm_bipush C (x := -3) dX4_trace_26 (by decide) 28 rfl ?_
          obtain rfl := Option.some.inj hf
          exact fm_iret C hr hk0 dX4_trace_28
    · rw [if_neg c5] at hf
      refine fm_iconst C (x := -1) dX4_trace_9 (by decide) 10 rfl ?_
      obtain rfl := Option.some.inj hf
      exact fm_iret C hr hk0 dX4_trace_10
def f_X4_forget (x1 : Int32) (v : fm_T) : Option (Int32 × fm_T) := (if 0 ≤ x1 ∧ x1 < 3 then ((f_X0_countEnded x1.toNatClampNeg v).bind fun q5 => ((f_X0_clear x1.toNatClampNeg q5.2).bind fun q7 => some (q5.1, q7.2))) else some ((-1), v))
set_option maxHeartbeats 4000000 in
set_option maxRecDepth 20000 in
theorem c_X4_forget {x1 : Int32}  {v : fm_T} {q : Int32 × fm_T} (hf : f_X4_forget x1 v = some q) : fm_M l D (fm_tys cI cII cLd cOc) tA b 305 (shC cI cII cLd cOc b) A yX4_forget cX4_forget 4 (some .int) 1 [.ref (b + 0), .int x1] v (some (.int q.1)) q.2 := by
  refine fm_entry (by decide) (Nat.le_of_ble_eq_true rfl) ?_
  intro p e R s m args below meth c C hr hk0 hF hLo
  unfold f_X4_forget at hf
  show fm_V p l e R s m args below meth c D b 305 (shC cI cII cLd cOc b) A _ 4 0 [(0, .ref (b + 0)), (1, .int x1)] [] v
  refine fm_aload_n C dX4_forget_0 rfl 0 rfl 1 rfl ?_
  refine fm_iload_n C dX4_forget_1 rfl 1 rfl 2 rfl ?_
  by_cases a3 : 0 ≤ x1 ∧ x1 < 3
  · rw [if_pos a3] at hf
    refine fm_callV C Y_X4_loaderAt (t := 0) (by decide) (shC_0 _) rfl LM_X4_72 (As := [.int x1]) (rest := []) (c_X4_loaderAt_r a3) (by omega) (by omega) rfl (Nat.le_of_ble_eq_true rfl) dX4_forget_2 5 rfl [.ref (b + (lo x1.toNatClampNeg))] rfl ?_
    refine fm_astore_n C [(2, .ref (b + (lo x1.toNatClampNeg))), (0, .ref (b + 0)), (1, .int x1)] dX4_forget_5 rfl (by decide) rfl 6 rfl ?_
    refine fm_aload_n C dX4_forget_6 rfl 0 rfl 7 rfl ?_
    refine fm_ifnonnull C 12 dX4_forget_7 (by decide) ?_
    refine fm_aload_n C dX4_forget_12 rfl 0 rfl 13 rfl ?_
    obtain ⟨q5, h4, hf⟩ := Option.bind_eq_some_iff.mp hf
    refine fm_callN C Y_X0_countEnded (t := lo x1.toNatClampNeg) (lo_lt (ld_lt a3)) ((shC_lo (ld_lt a3)) _) rfl LN_X4_140 (As := []) (rest := []) (c_X0_countEnded (ld_lt a3) h4) (by omega) (by omega) rfl (Nat.le_of_ble_eq_true rfl) dX4_forget_13 16 rfl [.int q5.1] rfl ?_
    refine fm_istore_n C [(3, .int q5.1), (2, .ref (b + (lo x1.toNatClampNeg))), (0, .ref (b + 0)), (1, .int x1)] dX4_forget_16 rfl (by decide) rfl 17 rfl ?_
    refine fm_aload_n C dX4_forget_17 rfl 1 rfl 18 rfl ?_
    obtain ⟨q7, h6, hf⟩ := Option.bind_eq_some_iff.mp hf
    refine fm_callN C Y_X0_clear (t := lo x1.toNatClampNeg) (lo_lt (ld_lt a3)) ((shC_lo (ld_lt a3)) _) rfl LN_X4_144 (As := []) (rest := []) (c_X0_clear (ld_lt a3) h6) (by omega) (by omega) rfl (Nat.le_of_ble_eq_true rfl) dX4_forget_18 21 rfl [] rfl ?_
    refine fm_iload_n C dX4_forget_21 rfl 0 rfl 22 rfl ?_
    obtain rfl := Option.some.inj hf
    exact fm_iret C hr hk0 dX4_forget_22
  · rw [if_neg a3] at hf
    refine fm_callV C Y_X4_loaderAt (t := 0) (by decide) (shC_0 _) rfl LM_X4_72 (As := [.int x1]) (rest := []) (c_X4_loaderAt_n a3) (by omega) (by omega) rfl (Nat.le_of_ble_eq_true rfl) dX4_forget_2 5 rfl [.null] rfl ?_
    refine fm_astore_nN C [(2, .null), (0, .ref (b + 0)), (1, .int x1)] dX4_forget_5 rfl (by decide) rfl 6 rfl ?_
    refine fm_aload_nN C dX4_forget_6 rfl 0 rfl 7 rfl ?_
    refine fm_ifnonnullN C dX4_forget_7 10 rfl ?_
    refine fm_iconst C (x := -1) dX4_forget_10 (by decide) 11 rfl ?_
    obtain rfl := Option.some.inj hf
    exact fm_iret C hr hk0 dX4_forget_11
def f_X4_countWorked_4 : Nat → Int32 → Int32 → fm_T → Option (Int32 × fm_T)
  | 0 => fun _ _ _ => none
  | n + 1 => fun x1 x2 v => (if 3 ≤ x2 then some (x1, v) else (if x2 < 0 ∨ 3 ≤ x2.toNatClampNeg then none else f_X4_countWorked_4 n (x1 + (v (lo x2.toNatClampNeg) 7)) (x2 + 1) v))
theorem f_X4_countWorked_4_s (n : Nat)  (x1 : Int32) (x2 : Int32) (v : fm_T) : f_X4_countWorked_4 (n + 1) x1 x2 v = (if 3 ≤ x2 then some (x1, v) else (if x2 < 0 ∨ 3 ≤ x2.toNatClampNeg then none else f_X4_countWorked_4 n (x1 + (v (lo x2.toNatClampNeg) 7)) (x2 + 1) v)) := rfl
set_option maxHeartbeats 4000000 in
set_option maxRecDepth 20000 in
theorem b_X4_countWorked_4   {p : Program} {e : Env} {R : Room} {s : State} {m : MethodId} {args : Array Value} {below : List Frame} {meth : Method} {c : Code} (C : fm_C p s m args c cX4_countWorked RX4 3 D (fm_tys cI cII cLd cOc) tA b 305 A) (hr : meth.sig.returnType = (some .int)) (hk0 : meth.locks = false) (hF : 0 ≤ R.frames) (hLo : 40 * 0 ≤ R.locals) : ∀ (n : Nat) (x1 : Int32) (x2 : Int32) (v : fm_T) {q : Int32 × fm_T}, f_X4_countWorked_4 n x1 x2 v = some q → fm_V p l e R s m args below meth c D b 305 (shC cI cII cLd cOc b) A (MQ below (fm_Q D b 305 (shC cI cII cLd cOc b) A (some (.int q.1)) q.2) args s 0 0 A) 3 4 [(0, .ref (b + 0)), (1, .int x1), (2, .int x2)] [] v := by
  intro n
  induction n with
  | zero =>
    intro x1 x2 v q hf
    cases (show (none : Option (Int32 × fm_T)) = some q from hf)
  | succ n ih =>
    intro x1 x2 v q hf
    rw [f_X4_countWorked_4_s] at hf
    refine fm_iload_n C dX4_countWorked_4 rfl 2 rfl 5 rfl ?_
    refine fm_iconst C (x := 3) dX4_countWorked_5 (by decide) 6 rfl ?_
    refine fm_icmp_ge C 27 dX4_countWorked_6 (by decide) (fun c1 => ?_) 9 rfl (fun c1 => ?_)
    · rw [if_pos c1] at hf
      refine fm_iload_n C dX4_countWorked_27 rfl 1 rfl 28 rfl ?_
      obtain rfl := Option.some.inj hf
      exact fm_iret C hr hk0 dX4_countWorked_28
    · rw [if_neg c1] at hf
      refine fm_iload_n C dX4_countWorked_9 rfl 1 rfl 10 rfl ?_
      refine fm_aload_n C dX4_countWorked_10 rfl 0 rfl 11 rfl ?_
      refine fm_get C (t := 0) (by decide) (shC_0 _) rfl inG_X4 2 (by decide) F_X4_25 rfl dX4_countWorked_11 14 rfl ?_
      refine fm_iload_n C dX4_countWorked_14 rfl 2 rfl 15 rfl ?_
      by_cases b2 : x2 < 0 ∨ 3 ≤ x2.toNatClampNeg
      · rw [if_pos b2] at hf; cases hf
      rw [if_neg b2] at hf
      refine fm_aald C (t := 65) (t0 := 2) (by decide) (shC_65 _) rfl rfl b2 (x := b + (lo x2.toNatClampNeg)) (in_some (g := fun i => b + lo i) b2) dX4_countWorked_15 16 rfl ?_
      refine fm_getN C (t := lo x2.toNatClampNeg) (lo_lt (Nat.lt_trans (in_lt b2) (by decide))) ((shC_lo (Nat.lt_trans (in_lt b2) (by decide))) _) rfl inG_X0 7 (by decide) FN_X4_174 rfl dX4_countWorked_16 19 rfl ?_
      refine fm_iadd C dX4_countWorked_19 20 rfl ?_
      refine fm_istore_n C [(1, .int (x1 + (v (lo x2.toNatClampNeg) 7))), (0, .ref (b + 0)), (2, .int x2)] dX4_countWorked_20 rfl (by decide) rfl 21 rfl ?_
      refine fm_iinc C [(2, .int (x2 + 1)), (1, .int (x1 + (v (lo x2.toNatClampNeg) 7))), (0, .ref (b + 0))] dX4_countWorked_21 2 rfl rfl (by decide) rfl 24 rfl ?_
      refine fm_goto C 4 dX4_countWorked_24 (by decide) ?_
      refine fm_lv [2, 1, 0] [(0, .ref (b + 0)), (1, .int (x1 + (v (lo x2.toNatClampNeg) 7))), (2, .int (x2 + 1))] rfl ?_
      exact ih (x1 + (v (lo x2.toNatClampNeg) 7)) (x2 + 1) v hf
def f_X4_countWorked  (v : fm_T) : Option (Int32 × fm_T) := f_X4_countWorked_4 1000 0 0 v
set_option maxHeartbeats 4000000 in
set_option maxRecDepth 20000 in
theorem c_X4_countWorked   {v : fm_T} {q : Int32 × fm_T} (hf : f_X4_countWorked  v = some q) : fm_M l D (fm_tys cI cII cLd cOc) tA b 305 (shC cI cII cLd cOc b) A yX4_countWorked cX4_countWorked 3 (some .int) 0 [.ref (b + 0)] v (some (.int q.1)) q.2 := by
  refine fm_entry (by decide) (Nat.le_of_ble_eq_true rfl) ?_
  intro p e R s m args below meth c C hr hk0 hF hLo
  unfold f_X4_countWorked at hf
  show fm_V p l e R s m args below meth c D b 305 (shC cI cII cLd cOc b) A _ 3 0 [(0, .ref (b + 0))] [] v
  refine fm_iconst C (x := 0) dX4_countWorked_0 (by decide) 1 rfl ?_
  refine fm_istore_n C [(1, .int 0), (0, .ref (b + 0))] dX4_countWorked_1 rfl (by decide) rfl 2 rfl ?_
  refine fm_iconst C (x := 0) dX4_countWorked_2 (by decide) 3 rfl ?_
  refine fm_istore_n C [(2, .int 0), (1, .int 0), (0, .ref (b + 0))] dX4_countWorked_3 rfl (by decide) rfl 4 rfl ?_
  refine fm_lv [2, 1, 0] [(0, .ref (b + 0)), (1, .int 0), (2, .int 0)] rfl ?_
  exact b_X4_countWorked_4  C hr hk0 hF hLo 1000 0 0 v hf
def f_X4_told (x1 : Int32) (v : fm_T) : Option (Int32 × fm_T) := (if x1 = 0 then some (v 1 0, v) else (if x1 = 1 then some (v 1 8, v) else (if x1 = 2 then some (v (ev 0) 2, v) else (if x1 = 3 then ((f_X4_countWorked  v).bind fun q6 => some (q6.1, q6.2)) else some ((-1), v)))))
set_option maxHeartbeats 4000000 in
set_option maxRecDepth 20000 in
theorem c_X4_told {x1 : Int32}  {v : fm_T} {q : Int32 × fm_T} (hf : f_X4_told x1 v = some q) : fm_M l D (fm_tys cI cII cLd cOc) tA b 305 (shC cI cII cLd cOc b) A yX4_told cX4_told 2 (some .int) 1 [.ref (b + 0), .int x1] v (some (.int q.1)) q.2 := by
  refine fm_entry (by decide) (Nat.le_of_ble_eq_true rfl) ?_
  intro p e R s m args below meth c C hr hk0 hF hLo
  unfold f_X4_told at hf
  show fm_V p l e R s m args below meth c D b 305 (shC cI cII cLd cOc b) A _ 2 0 [(0, .ref (b + 0)), (1, .int x1)] [] v
  refine fm_iload_n C dX4_told_0 rfl 1 rfl 1 rfl ?_
  by_cases w1 : x1 = 0
  · rw [if_pos w1] at hf
    refine fm_tableIn C (off := 31) 32 dX4_told_1 (by rw [w1]; decide) (by rw [w1]; decide) (by rw [w1] <;> rfl) (by decide) ?_
    refine fm_aload_n C dX4_told_32 rfl 0 rfl 33 rfl ?_
    refine fm_get C (t := 0) (by decide) (shC_0 _) rfl inG_X4 0 (by decide) F_X4_12 rfl dX4_told_33 36 rfl ?_
    refine fm_getN C (t := 1) (by decide) (shC_1 _) rfl inG_X2 0 (by decide) FN_X4_158 rfl dX4_told_36 39 rfl ?_
    obtain rfl := Option.some.inj hf
    exact fm_iret C hr hk0 dX4_told_39
  rw [if_neg w1] at hf
  by_cases w2 : x1 = 1
  · rw [if_pos w2] at hf
    refine fm_tableIn C (off := 39) 40 dX4_told_1 (by rw [w2]; decide) (by rw [w2]; decide) (by rw [w2] <;> rfl) (by decide) ?_
    refine fm_aload_n C dX4_told_40 rfl 0 rfl 41 rfl ?_
    refine fm_get C (t := 0) (by decide) (shC_0 _) rfl inG_X4 0 (by decide) F_X4_12 rfl dX4_told_41 44 rfl ?_
    refine fm_getN C (t := 1) (by decide) (shC_1 _) rfl inG_X2 8 (by decide) FN_X4_161 rfl dX4_told_44 47 rfl ?_
    obtain rfl := Option.some.inj hf
    exact fm_iret C hr hk0 dX4_told_47
  rw [if_neg w2] at hf
  by_cases w3 : x1 = 2
  · rw [if_pos w3] at hf
    refine fm_tableIn C (off := 47) 48 dX4_told_1 (by rw [w3]; decide) (by rw [w3]; decide) (by rw [w3] <;> rfl) (by decide) ?_
    refine fm_aload_n C dX4_told_48 rfl 0 rfl 49 rfl ?_
    refine fm_get C (t := 0) (by decide) (shC_0 _) rfl inG_X4 1 (by decide) F_X4_19 rfl dX4_told_49 52 rfl ?_
    refine fm_getN C (t := ev 0) (ev_lt (j := 0) (by decide) (by decide)) ((shC_ev (by decide)) _) rfl inG_X3 2 (by decide) FN_X4_131 rfl dX4_told_52 55 rfl ?_
    obtain rfl := Option.some.inj hf
    exact fm_iret C hr hk0 dX4_told_55
  rw [if_neg w3] at hf
  by_cases w4 : x1 = 3
  · rw [if_pos w4] at hf
    refine fm_tableIn C (off := 55) 56 dX4_told_1 (by rw [w4]; decide) (by rw [w4]; decide) (by rw [w4] <;> rfl) (by decide) ?_
    refine fm_aload_n C dX4_told_56 rfl 0 rfl 57 rfl ?_
    obtain ⟨q6, h5, hf⟩ := Option.bind_eq_some_iff.mp hf
    refine fm_callV C Y_X4_countWorked (t := 0) (by decide) (shC_0 _) rfl LM_X4_164 (As := []) (rest := []) (c_X4_countWorked  h5) (by omega) (by omega) rfl (Nat.le_of_ble_eq_true rfl) dX4_told_57 60 rfl [.int q6.1] rfl ?_
    obtain rfl := Option.some.inj hf
    exact fm_iret C hr hk0 dX4_told_60
  rw [if_neg w4] at hf
  refine fm_tableOut C 61 dX4_told_1 (by have := lv_neT (a := 0) w1 (by decide); have := lv_neT (a := 1) w2 (by decide); have := lv_neT (a := 2) w3 (by decide); have := lv_neT (a := 3) w4 (by decide); omega) (by decide) ?_
  refine fm_iconst C (x := -1) dX4_told_61 (by decide) 62 rfl ?_
  obtain rfl := Option.some.inj hf
  exact fm_iret C hr hk0 dX4_told_62
def f_X4_mixOrder_38 : Nat → Int32 → Int32 → Int32 → fm_T → Option (Int32 × fm_T)
  | 0 => fun _ _ _ _ => none
  | n + 1 => fun x1 x2 x3 v => (if x3 < 1 then some (0, v) else (if x3 + 1 = 0 then none else (if x3 < 0 ∨ 40 ≤ x3.toNatClampNeg then none else (if ((((x2 * 1103515245) + 12345).toUInt32 >>> ((16 : Int32).toUInt32 &&& Int32.toUInt32 31)).toInt32) - ((((x2 * 1103515245) + 12345).toUInt32 >>> ((16 : Int32).toUInt32 &&& Int32.toUInt32 31)).toInt32) / (x3 + 1) * (x3 + 1) < 0 ∨ 40 ≤ (((((x2 * 1103515245) + 12345).toUInt32 >>> ((16 : Int32).toUInt32 &&& Int32.toUInt32 31)).toInt32) - ((((x2 * 1103515245) + 12345).toUInt32 >>> ((16 : Int32).toUInt32 &&& Int32.toUInt32 31)).toInt32) / (x3 + 1) * (x3 + 1)).toNatClampNeg then none else ((some (fm_u v 302 x3.toNatClampNeg (v 302 ((((((x2 * 1103515245) + 12345).toUInt32 >>> ((16 : Int32).toUInt32 &&& Int32.toUInt32 31)).toInt32) - ((((x2 * 1103515245) + 12345).toUInt32 >>> ((16 : Int32).toUInt32 &&& Int32.toUInt32 31)).toInt32) / (x3 + 1) * (x3 + 1)).toNatClampNeg))) : Option fm_T).bind fun m6 => ((some (fm_u m6 302 ((((((x2 * 1103515245) + 12345).toUInt32 >>> ((16 : Int32).toUInt32 &&& Int32.toUInt32 31)).toInt32) - ((((x2 * 1103515245) + 12345).toUInt32 >>> ((16 : Int32).toUInt32 &&& Int32.toUInt32 31)).toInt32) / (x3 + 1) * (x3 + 1)).toNatClampNeg) (v 302 x3.toNatClampNeg)) : Option fm_T).bind fun m8 => f_X4_mixOrder_38 n x1 ((x2 * 1103515245) + 12345) (x3 + (-1)) m8))))))
theorem f_X4_mixOrder_38_s (n : Nat)  (x1 : Int32) (x2 : Int32) (x3 : Int32) (v : fm_T) : f_X4_mixOrder_38 (n + 1) x1 x2 x3 v = (if x3 < 1 then some (0, v) else (if x3 + 1 = 0 then none else (if x3 < 0 ∨ 40 ≤ x3.toNatClampNeg then none else (if ((((x2 * 1103515245) + 12345).toUInt32 >>> ((16 : Int32).toUInt32 &&& Int32.toUInt32 31)).toInt32) - ((((x2 * 1103515245) + 12345).toUInt32 >>> ((16 : Int32).toUInt32 &&& Int32.toUInt32 31)).toInt32) / (x3 + 1) * (x3 + 1) < 0 ∨ 40 ≤ (((((x2 * 1103515245) + 12345).toUInt32 >>> ((16 : Int32).toUInt32 &&& Int32.toUInt32 31)).toInt32) - ((((x2 * 1103515245) + 12345).toUInt32 >>> ((16 : Int32).toUInt32 &&& Int32.toUInt32 31)).toInt32) / (x3 + 1) * (x3 + 1)).toNatClampNeg then none else ((some (fm_u v 302 x3.toNatClampNeg (v 302 ((((((x2 * 1103515245) + 12345).toUInt32 >>> ((16 : Int32).toUInt32 &&& Int32.toUInt32 31)).toInt32) - ((((x2 * 1103515245) + 12345).toUInt32 >>> ((16 : Int32).toUInt32 &&& Int32.toUInt32 31)).toInt32) / (x3 + 1) * (x3 + 1)).toNatClampNeg))) : Option fm_T).bind fun m6 => ((some (fm_u m6 302 ((((((x2 * 1103515245) + 12345).toUInt32 >>> ((16 : Int32).toUInt32 &&& Int32.toUInt32 31)).toInt32) - ((((x2 * 1103515245) + 12345).toUInt32 >>> ((16 : Int32).toUInt32 &&& Int32.toUInt32 31)).toInt32) / (x3 + 1) * (x3 + 1)).toNatClampNeg) (v 302 x3.toNatClampNeg)) : Option fm_T).bind fun m8 => f_X4_mixOrder_38 n x1 ((x2 * 1103515245) + 12345) (x3 + (-1)) m8)))))) := rfl
set_option maxHeartbeats 4000000 in
set_option maxRecDepth 20000 in
theorem b_X4_mixOrder_38   {p : Program} {e : Env} {R : Room} {s : State} {m : MethodId} {args : Array Value} {below : List Frame} {meth : Method} {c : Code} (C : fm_C p s m args c cX4_mixOrder RX4 6 D (fm_tys cI cII cLd cOc) tA b 305 A) (hr : meth.sig.returnType = none) (hk0 : meth.locks = false) (hF : 0 ≤ R.frames) (hLo : 40 * 0 ≤ R.locals) : ∀ (n : Nat) (x1 : Int32) (x2 : Int32) (x3 : Int32) (v : fm_T) {q : Int32 × fm_T}, f_X4_mixOrder_38 n x1 x2 x3 v = some q → fm_V p l e R s m args below meth c D b 305 (shC cI cII cLd cOc b) A (MQ below (fm_Q D b 305 (shC cI cII cLd cOc b) A none q.2) args s 0 0 A) 6 38 [(0, .ref (b + 0)), (1, .int x1), (2, .int x2), (3, .int x3)] [] v := by
  intro n
  induction n with
  | zero =>
    intro x1 x2 x3 v q hf
    cases (show (none : Option (Int32 × fm_T)) = some q from hf)
  | succ n ih =>
    intro x1 x2 x3 v q hf
    rw [f_X4_mixOrder_38_s] at hf
    refine fm_iload_n C dX4_mixOrder_38 rfl 3 rfl 39 rfl ?_
    refine fm_iconst C (x := 1) dX4_mixOrder_39 (by decide) 40 rfl ?_
    refine fm_icmp_lt C 98 dX4_mixOrder_40 (by decide) (fun c1 => ?_) 43 rfl (fun c1 => ?_)
    · rw [if_pos c1] at hf
      obtain rfl := Option.some.inj hf
      exact fm_vret C hr hk0 dX4_mixOrder_98
    · rw [if_neg c1] at hf
      refine fm_iload_n C dX4_mixOrder_43 rfl 2 rfl 44 rfl ?_
      refine fm_ldc C dX4_mixOrder_44 FC_X4_177 46 rfl ?_
      refine fm_imul C dX4_mixOrder_46 47 rfl ?_
      refine fm_sipush C (x := 12345) dX4_mixOrder_47 (by decide) 50 rfl ?_
      refine fm_iadd C dX4_mixOrder_50 51 rfl ?_
      refine fm_istore_n C [(2, .int ((x2 * 1103515245) + 12345)), (0, .ref (b + 0)), (1, .int x1), (3, .int x3)] dX4_mixOrder_51 rfl (by decide) rfl 52 rfl ?_
      refine fm_iload_n C dX4_mixOrder_52 rfl 0 rfl 53 rfl ?_
      refine fm_bipush C (x := 16) dX4_mixOrder_53 (by decide) 55 rfl ?_
      refine fm_iushr C dX4_mixOrder_55 56 rfl ?_
      refine fm_iload_n C dX4_mixOrder_56 rfl 3 rfl 57 rfl ?_
      refine fm_iconst C (x := 1) dX4_mixOrder_57 (by decide) 58 rfl ?_
      refine fm_iadd C dX4_mixOrder_58 59 rfl ?_
      by_cases z2 : x3 + 1 = 0
      · rw [if_pos z2] at hf; cases hf
      rw [if_neg z2] at hf
      refine fm_irem C dX4_mixOrder_59 z2 60 rfl ?_
      refine fm_istore C [(4, .int (((((x2 * 1103515245) + 12345).toUInt32 >>> ((16 : Int32).toUInt32 &&& Int32.toUInt32 31)).toInt32) - ((((x2 * 1103515245) + 12345).toUInt32 >>> ((16 : Int32).toUInt32 &&& Int32.toUInt32 31)).toInt32) / (x3 + 1) * (x3 + 1))), (2, .int ((x2 * 1103515245) + 12345)), (0, .ref (b + 0)), (1, .int x1), (3, .int x3)] dX4_mixOrder_60 (by decide) rfl 62 rfl ?_
      refine fm_aload_n C dX4_mixOrder_62 rfl 2 rfl 63 rfl ?_
      refine fm_get C (t := 0) (by decide) (shC_0 _) rfl inG_X4 6 (by decide) F_X4_43 rfl dX4_mixOrder_63 66 rfl ?_
      refine fm_iload_n C dX4_mixOrder_66 rfl 4 rfl 67 rfl ?_
      by_cases b3 : x3 < 0 ∨ 40 ≤ x3.toNatClampNeg
      · rw [if_pos b3] at hf; cases hf
      rw [if_neg b3] at hf
      refine fm_iald C (t := 302) (t0 := 0) (by decide) (shC_302 _) rfl b3 dX4_mixOrder_67 68 rfl ?_
      refine fm_istore C [(5, .int (v 302 x3.toNatClampNeg)), (4, .int (((((x2 * 1103515245) + 12345).toUInt32 >>> ((16 : Int32).toUInt32 &&& Int32.toUInt32 31)).toInt32) - ((((x2 * 1103515245) + 12345).toUInt32 >>> ((16 : Int32).toUInt32 &&& Int32.toUInt32 31)).toInt32) / (x3 + 1) * (x3 + 1))), (2, .int ((x2 * 1103515245) + 12345)), (0, .ref (b + 0)), (1, .int x1), (3, .int x3)] dX4_mixOrder_68 (by decide) rfl 70 rfl ?_
      refine fm_aload_n C dX4_mixOrder_70 rfl 3 rfl 71 rfl ?_
      refine fm_get C (t := 0) (by decide) (shC_0 _) rfl inG_X4 6 (by decide) F_X4_43 rfl dX4_mixOrder_71 74 rfl ?_
      refine fm_iload_n C dX4_mixOrder_74 rfl 5 rfl 75 rfl ?_
      refine fm_aload_n C dX4_mixOrder_75 rfl 3 rfl 76 rfl ?_
      refine fm_get C (t := 0) (by decide) (shC_0 _) rfl inG_X4 6 (by decide) F_X4_43 rfl dX4_mixOrder_76 79 rfl ?_
      refine fm_iload C dX4_mixOrder_79 1 rfl 81 rfl ?_
      by_cases b4 : ((((x2 * 1103515245) + 12345).toUInt32 >>> ((16 : Int32).toUInt32 &&& Int32.toUInt32 31)).toInt32) - ((((x2 * 1103515245) + 12345).toUInt32 >>> ((16 : Int32).toUInt32 &&& Int32.toUInt32 31)).toInt32) / (x3 + 1) * (x3 + 1) < 0 ∨ 40 ≤ (((((x2 * 1103515245) + 12345).toUInt32 >>> ((16 : Int32).toUInt32 &&& Int32.toUInt32 31)).toInt32) - ((((x2 * 1103515245) + 12345).toUInt32 >>> ((16 : Int32).toUInt32 &&& Int32.toUInt32 31)).toInt32) / (x3 + 1) * (x3 + 1)).toNatClampNeg
      · rw [if_pos b4] at hf; cases hf
      rw [if_neg b4] at hf
      refine fm_iald C (t := 302) (t0 := 0) (by decide) (shC_302 _) rfl b4 dX4_mixOrder_81 82 rfl ?_
      obtain ⟨m6, e5, hf⟩ := Option.bind_eq_some_iff.mp hf
      refine fm_iast C (t := 302) (t0 := 0) (by decide) shC_302 rfl b3 dX4_mixOrder_82 83 rfl m6 (Option.some.inj e5) ?_
      refine fm_aload_n C dX4_mixOrder_83 rfl 3 rfl 84 rfl ?_
      refine fm_get C (t := 0) (by decide) (shC_0 _) rfl inG_X4 6 (by decide) F_X4_43 rfl dX4_mixOrder_84 87 rfl ?_
      refine fm_iload C dX4_mixOrder_87 1 rfl 89 rfl ?_
      refine fm_iload C dX4_mixOrder_89 0 rfl 91 rfl ?_
      obtain ⟨m8, e7, hf⟩ := Option.bind_eq_some_iff.mp hf
      refine fm_iast C (t := 302) (t0 := 0) (by decide) shC_302 rfl b4 dX4_mixOrder_91 92 rfl m8 (Option.some.inj e7) ?_
      refine fm_iinc C [(3, .int (x3 + (-1))), (5, .int (v 302 x3.toNatClampNeg)), (4, .int (((((x2 * 1103515245) + 12345).toUInt32 >>> ((16 : Int32).toUInt32 &&& Int32.toUInt32 31)).toInt32) - ((((x2 * 1103515245) + 12345).toUInt32 >>> ((16 : Int32).toUInt32 &&& Int32.toUInt32 31)).toInt32) / (x3 + 1) * (x3 + 1))), (2, .int ((x2 * 1103515245) + 12345)), (0, .ref (b + 0)), (1, .int x1)] dX4_mixOrder_92 5 rfl rfl (by decide) rfl 95 rfl ?_
      refine fm_goto C 38 dX4_mixOrder_95 (by decide) ?_
      refine fm_lv [4, 5, 3, 0] [(0, .ref (b + 0)), (1, .int x1), (2, .int ((x2 * 1103515245) + 12345)), (3, .int (x3 + (-1)))] rfl ?_
      exact ih x1 ((x2 * 1103515245) + 12345) (x3 + (-1)) m8 hf
def f_X4_mixOrder_2 : Nat → Int32 → Int32 → fm_T → Option (Int32 × fm_T)
  | 0 => fun _ _ _ => none
  | n + 1 => fun x1 x2 v => (if v 1 8 ≤ x2 then f_X4_mixOrder_38 1000 x1 x1 ((v 1 8) - 1) v else (if x2 < 0 ∨ 40 ≤ x2.toNatClampNeg then none else ((some (fm_u v 302 x2.toNatClampNeg x2) : Option fm_T).bind fun m12 => f_X4_mixOrder_2 n x1 (x2 + 1) m12)))
theorem f_X4_mixOrder_2_s (n : Nat)  (x1 : Int32) (x2 : Int32) (v : fm_T) : f_X4_mixOrder_2 (n + 1) x1 x2 v = (if v 1 8 ≤ x2 then f_X4_mixOrder_38 1000 x1 x1 ((v 1 8) - 1) v else (if x2 < 0 ∨ 40 ≤ x2.toNatClampNeg then none else ((some (fm_u v 302 x2.toNatClampNeg x2) : Option fm_T).bind fun m12 => f_X4_mixOrder_2 n x1 (x2 + 1) m12))) := rfl
set_option maxHeartbeats 4000000 in
set_option maxRecDepth 20000 in
theorem b_X4_mixOrder_2   {p : Program} {e : Env} {R : Room} {s : State} {m : MethodId} {args : Array Value} {below : List Frame} {meth : Method} {c : Code} (C : fm_C p s m args c cX4_mixOrder RX4 6 D (fm_tys cI cII cLd cOc) tA b 305 A) (hr : meth.sig.returnType = none) (hk0 : meth.locks = false) (hF : 0 ≤ R.frames) (hLo : 40 * 0 ≤ R.locals) : ∀ (n : Nat) (x1 : Int32) (x2 : Int32) (v : fm_T) {q : Int32 × fm_T}, f_X4_mixOrder_2 n x1 x2 v = some q → fm_V p l e R s m args below meth c D b 305 (shC cI cII cLd cOc b) A (MQ below (fm_Q D b 305 (shC cI cII cLd cOc b) A none q.2) args s 0 0 A) 6 2 [(0, .ref (b + 0)), (1, .int x1), (2, .int x2)] [] v := by
  intro n
  induction n with
  | zero =>
    intro x1 x2 v q hf
    cases (show (none : Option (Int32 × fm_T)) = some q from hf)
  | succ n ih =>
    intro x1 x2 v q hf
    rw [f_X4_mixOrder_2_s] at hf
    refine fm_iload_n C dX4_mixOrder_2 rfl 2 rfl 3 rfl ?_
    refine fm_aload_n C dX4_mixOrder_3 rfl 0 rfl 4 rfl ?_
    refine fm_get C (t := 0) (by decide) (shC_0 _) rfl inG_X4 0 (by decide) F_X4_12 rfl dX4_mixOrder_4 7 rfl ?_
    refine fm_getN C (t := 1) (by decide) (shC_1 _) rfl inG_X2 8 (by decide) FN_X4_161 rfl dX4_mixOrder_7 10 rfl ?_
    refine fm_icmp_ge C 26 dX4_mixOrder_10 (by decide) (fun c9 => ?_) 13 rfl (fun c9 => ?_)
    · rw [if_pos c9] at hf
      refine fm_iload_n C dX4_mixOrder_26 rfl 1 rfl 27 rfl ?_
      refine fm_istore_n C [(2, .int x1), (0, .ref (b + 0)), (1, .int x1)] dX4_mixOrder_27 rfl (by decide) rfl 28 rfl ?_
      refine fm_aload_n C dX4_mixOrder_28 rfl 1 rfl 29 rfl ?_
      refine fm_get C (t := 0) (by decide) (shC_0 _) rfl inG_X4 0 (by decide) F_X4_12 rfl dX4_mixOrder_29 32 rfl ?_
      refine fm_getN C (t := 1) (by decide) (shC_1 _) rfl inG_X2 8 (by decide) FN_X4_161 rfl dX4_mixOrder_32 35 rfl ?_
      refine fm_iconst C (x := 1) dX4_mixOrder_35 (by decide) 36 rfl ?_
      refine fm_isub C dX4_mixOrder_36 37 rfl ?_
      refine fm_istore_n C [(3, .int ((v 1 8) - 1)), (2, .int x1), (0, .ref (b + 0)), (1, .int x1)] dX4_mixOrder_37 rfl (by decide) rfl 38 rfl ?_
      refine fm_lv [2, 3, 1, 0] [(0, .ref (b + 0)), (1, .int x1), (2, .int x1), (3, .int ((v 1 8) - 1))] rfl ?_
      exact b_X4_mixOrder_38  C hr hk0 hF hLo 1000 x1 x1 ((v 1 8) - 1) v hf
    · rw [if_neg c9] at hf
      refine fm_aload_n C dX4_mixOrder_13 rfl 0 rfl 14 rfl ?_
      refine fm_get C (t := 0) (by decide) (shC_0 _) rfl inG_X4 6 (by decide) F_X4_43 rfl dX4_mixOrder_14 17 rfl ?_
      refine fm_iload_n C dX4_mixOrder_17 rfl 2 rfl 18 rfl ?_
      refine fm_iload_n C dX4_mixOrder_18 rfl 2 rfl 19 rfl ?_
      by_cases b10 : x2 < 0 ∨ 40 ≤ x2.toNatClampNeg
      · rw [if_pos b10] at hf; cases hf
      rw [if_neg b10] at hf
      obtain ⟨m12, e11, hf⟩ := Option.bind_eq_some_iff.mp hf
      refine fm_iast C (t := 302) (t0 := 0) (by decide) shC_302 rfl b10 dX4_mixOrder_19 20 rfl m12 (Option.some.inj e11) ?_
      refine fm_iinc C [(2, .int (x2 + 1)), (0, .ref (b + 0)), (1, .int x1)] dX4_mixOrder_20 2 rfl rfl (by decide) rfl 23 rfl ?_
      refine fm_goto C 2 dX4_mixOrder_23 (by decide) ?_
      refine fm_lv [1, 2, 0] [(0, .ref (b + 0)), (1, .int x1), (2, .int (x2 + 1))] rfl ?_
      exact ih x1 (x2 + 1) m12 hf
def f_X4_mixOrder (x1 : Int32) (v : fm_T) : Option (Int32 × fm_T) := f_X4_mixOrder_2 1000 x1 0 v
set_option maxHeartbeats 4000000 in
set_option maxRecDepth 20000 in
theorem c_X4_mixOrder {x1 : Int32}  {v : fm_T} {q : Int32 × fm_T} (hf : f_X4_mixOrder x1 v = some q) : fm_M l D (fm_tys cI cII cLd cOc) tA b 305 (shC cI cII cLd cOc b) A yX4_mixOrder cX4_mixOrder 6 none 0 [.ref (b + 0), .int x1] v none q.2 := by
  refine fm_entry (by decide) (Nat.le_of_ble_eq_true rfl) ?_
  intro p e R s m args below meth c C hr hk0 hF hLo
  unfold f_X4_mixOrder at hf
  show fm_V p l e R s m args below meth c D b 305 (shC cI cII cLd cOc b) A _ 6 0 [(0, .ref (b + 0)), (1, .int x1)] [] v
  refine fm_iconst C (x := 0) dX4_mixOrder_0 (by decide) 1 rfl ?_
  refine fm_istore_n C [(2, .int 0), (0, .ref (b + 0)), (1, .int x1)] dX4_mixOrder_1 rfl (by decide) rfl 2 rfl ?_
  refine fm_lv [1, 2, 0] [(0, .ref (b + 0)), (1, .int x1), (2, .int 0)] rfl ?_
  exact b_X4_mixOrder_2  C hr hk0 hF hLo 1000 x1 0 v hf
def f_X4_needByNumbers_9 (d : Nat) : Nat → Int32 → fm_T → Option (Int32 × fm_T)
  | 0 => fun _ _ => none
  | n + 1 => fun x1 v => (if v 1 8 ≤ x1 then some (0, v) else ((gC d 0 3 x1 0 0 v).bind fun q3 => (if x1 < 0 ∨ 40 ≤ x1.toNatClampNeg then none else ((some (fm_u q3.2 303 x1.toNatClampNeg (q3.2 (bo 3 + 16) 1)) : Option fm_T).bind fun m6 => ((some (fm_u m6 304 x1.toNatClampNeg (m6 (bo 3 + 16) 0)) : Option fm_T).bind fun m8 => f_X4_needByNumbers_9 d n (x1 + 1) m8)))))
theorem f_X4_needByNumbers_9_s (d : Nat) (n : Nat)  (x1 : Int32) (v : fm_T) : f_X4_needByNumbers_9 d (n + 1) x1 v = (if v 1 8 ≤ x1 then some (0, v) else ((gC d 0 3 x1 0 0 v).bind fun q3 => (if x1 < 0 ∨ 40 ≤ x1.toNatClampNeg then none else ((some (fm_u q3.2 303 x1.toNatClampNeg (q3.2 (bo 3 + 16) 1)) : Option fm_T).bind fun m6 => ((some (fm_u m6 304 x1.toNatClampNeg (m6 (bo 3 + 16) 0)) : Option fm_T).bind fun m8 => f_X4_needByNumbers_9 d n (x1 + 1) m8))))) := rfl
set_option maxHeartbeats 4000000 in
set_option maxRecDepth 20000 in
theorem b_X4_needByNumbers_9  (d : Nat)  {p : Program} {e : Env} {R : Room} {s : State} {m : MethodId} {args : Array Value} {below : List Frame} {meth : Method} {c : Code} (C : fm_C p s m args c cX4_needByNumbers RX4 2 D (fm_tys cI cII cLd cOc) tA b 305 A) (hr : meth.sig.returnType = none) (hk0 : meth.locks = false) (hF : (d + 4) ≤ R.frames) (hLo : 40 * (d + 4) ≤ R.locals) : ∀ (n : Nat) (x1 : Int32) (v : fm_T) {q : Int32 × fm_T}, f_X4_needByNumbers_9 d n x1 v = some q → fm_V p l e R s m args below meth c D b 305 (shC cI cII cLd cOc b) A (MQ below (fm_Q D b 305 (shC cI cII cLd cOc b) A none q.2) args s 0 0 A) 2 9 [(0, .ref (b + 0)), (1, .int x1)] [] v := by
  intro n
  induction n with
  | zero =>
    intro x1 v q hf
    cases (show (none : Option (Int32 × fm_T)) = some q from hf)
  | succ n ih =>
    intro x1 v q hf
    rw [f_X4_needByNumbers_9_s] at hf
    refine fm_iload_n C dX4_needByNumbers_9 rfl 1 rfl 10 rfl ?_
    refine fm_aload_n C dX4_needByNumbers_10 rfl 0 rfl 11 rfl ?_
    refine fm_get C (t := 0) (by decide) (shC_0 _) rfl inG_X4 0 (by decide) F_X4_12 rfl dX4_needByNumbers_11 14 rfl ?_
    refine fm_getN C (t := 1) (by decide) (shC_1 _) rfl inG_X2 8 (by decide) FN_X4_161 rfl dX4_needByNumbers_14 17 rfl ?_
    refine fm_icmp_ge C 68 dX4_needByNumbers_17 (by decide) (fun c1 => ?_) 20 rfl (fun c1 => ?_)
    · rw [if_pos c1] at hf
      obtain rfl := Option.some.inj hf
      exact fm_vret C hr hk0 dX4_needByNumbers_68
    · rw [if_neg c1] at hf
      refine fm_aload_n C dX4_needByNumbers_20 rfl 0 rfl 21 rfl ?_
      refine fm_get C (t := 0) (by decide) (shC_0 _) rfl inG_X4 5 (by decide) F_X4_39 rfl dX4_needByNumbers_21 24 rfl ?_
      refine fm_iload_n C dX4_needByNumbers_24 rfl 1 rfl 25 rfl ?_
      refine fm_iconst C (x := 0) dX4_needByNumbers_25 (by decide) 26 rfl ?_
      obtain ⟨q3, h2, hf⟩ := Option.bind_eq_some_iff.mp hf
      refine fm_callN C Y_X0_obtain (t := lo 3) (lo_lt (by decide)) ((shC_lo (by decide)) _) rfl LN_X4_83 (As := [.int x1, .int 0]) (rest := []) ((gC_ok d).1 (by decide) h2) (by omega) (by omega) rfl (Nat.le_of_ble_eq_true rfl) dX4_needByNumbers_26 29 rfl [.int q3.1] rfl ?_
      refine fm_pop C dX4_needByNumbers_29 rfl 30 rfl ?_
      refine fm_aload_n C dX4_needByNumbers_30 rfl 0 rfl 31 rfl ?_
      refine fm_get C (t := 0) (by decide) (shC_0 _) rfl inG_X4 7 (by decide) F_X4_47 rfl dX4_needByNumbers_31 34 rfl ?_
      refine fm_iload_n C dX4_needByNumbers_34 rfl 1 rfl 35 rfl ?_
      refine fm_aload_n C dX4_needByNumbers_35 rfl 0 rfl 36 rfl ?_
      refine fm_get C (t := 0) (by decide) (shC_0 _) rfl inG_X4 5 (by decide) F_X4_39 rfl dX4_needByNumbers_36 39 rfl ?_
      refine fm_getN C (t := lo 3) (lo_lt (by decide)) ((shC_lo (by decide)) _) rfl inG_X0 6 (by decide) FN_X4_87 rfl dX4_needByNumbers_39 42 rfl ?_
      refine fm_getN C (t := bo 3 + 16) (isO_lt (isO_now (by decide))) ((shC_O (isO_now (by decide))) _) rfl inG_X1 1 (by decide) FN_X4_107 rfl dX4_needByNumbers_42 45 rfl ?_
      by_cases b4 : x1 < 0 ∨ 40 ≤ x1.toNatClampNeg
      · rw [if_pos b4] at hf; cases hf
      rw [if_neg b4] at hf
      obtain ⟨m6, e5, hf⟩ := Option.bind_eq_some_iff.mp hf
      refine fm_iast C (t := 303) (t0 := 0) (by decide) shC_303 rfl b4 dX4_needByNumbers_45 46 rfl m6 (Option.some.inj e5) ?_
      refine fm_aload_n C dX4_needByNumbers_46 rfl 0 rfl 47 rfl ?_
      refine fm_get C (t := 0) (by decide) (shC_0 _) rfl inG_X4 8 (by decide) F_X4_50 rfl dX4_needByNumbers_47 50 rfl ?_
      refine fm_iload_n C dX4_needByNumbers_50 rfl 1 rfl 51 rfl ?_
      refine fm_aload_n C dX4_needByNumbers_51 rfl 0 rfl 52 rfl ?_
      refine fm_get C (t := 0) (by decide) (shC_0 _) rfl inG_X4 5 (by decide) F_X4_39 rfl dX4_needByNumbers_52 55 rfl ?_
      refine fm_getN C (t := lo 3) (lo_lt (by decide)) ((shC_lo (by decide)) _) rfl inG_X0 6 (by decide) FN_X4_87 rfl dX4_needByNumbers_55 58 rfl ?_
      refine fm_getN C (t := bo 3 + 16) (isO_lt (isO_now (by decide))) ((shC_O (isO_now (by decide))) _) rfl inG_X1 0 (by decide) FN_X4_90 rfl dX4_needByNumbers_58 61 rfl ?_
      obtain ⟨m8, e7, hf⟩ := Option.bind_eq_some_iff.mp hf
      refine fm_iast C (t := 304) (t0 := 0) (by decide) shC_304 rfl b4 dX4_needByNumbers_61 62 rfl m8 (Option.some.inj e7) ?_
      refine fm_iinc C [(1, .int (x1 + 1)), (0, .ref (b + 0))] dX4_needByNumbers_62 1 rfl rfl (by decide) rfl 65 rfl ?_
      refine fm_goto C 9 dX4_needByNumbers_65 (by decide) ?_
      refine fm_lv [1, 0] [(0, .ref (b + 0)), (1, .int (x1 + 1))] rfl ?_
      exact ih (x1 + 1) m8 hf
def f_X4_needByNumbers (d : Nat)  (v : fm_T) : Option (Int32 × fm_T) := ((f_X0_clear 3 v).bind fun q10 => f_X4_needByNumbers_9 d 1000 0 q10.2)
set_option maxHeartbeats 4000000 in
set_option maxRecDepth 20000 in
theorem c_X4_needByNumbers  (d : Nat)  {v : fm_T} {q : Int32 × fm_T} (hf : f_X4_needByNumbers d  v = some q) : fm_M l D (fm_tys cI cII cLd cOc) tA b 305 (shC cI cII cLd cOc b) A yX4_needByNumbers cX4_needByNumbers 2 none (d + 4) [.ref (b + 0)] v none q.2 := by
  refine fm_entry (by decide) (Nat.le_of_ble_eq_true rfl) ?_
  intro p e R s m args below meth c C hr hk0 hF hLo
  unfold f_X4_needByNumbers at hf
  show fm_V p l e R s m args below meth c D b 305 (shC cI cII cLd cOc b) A _ 2 0 [(0, .ref (b + 0))] [] v
  refine fm_aload_n C dX4_needByNumbers_0 rfl 0 rfl 1 rfl ?_
  refine fm_get C (t := 0) (by decide) (shC_0 _) rfl inG_X4 5 (by decide) F_X4_39 rfl dX4_needByNumbers_1 4 rfl ?_
  obtain ⟨q10, h9, hf⟩ := Option.bind_eq_some_iff.mp hf
  refine fm_callN C Y_X0_clear (t := lo 3) (lo_lt (by decide)) ((shC_lo (by decide)) _) rfl LN_X4_144 (As := []) (rest := []) (c_X0_clear (by decide) h9) (by omega) (by omega) rfl (Nat.le_of_ble_eq_true rfl) dX4_needByNumbers_4 7 rfl [] rfl ?_
  refine fm_iconst C (x := 0) dX4_needByNumbers_7 (by decide) 8 rfl ?_
  refine fm_istore_n C [(1, .int 0), (0, .ref (b + 0))] dX4_needByNumbers_8 rfl (by decide) rfl 9 rfl ?_
  refine fm_lv [1, 0] [(0, .ref (b + 0)), (1, .int 0)] rfl ?_
  exact b_X4_needByNumbers_9 d  C hr hk0 hF hLo 1000 0 q10.2 hf
def f_X4_countUnlike_11 (d : Nat) : Nat → Int32 → Int32 → fm_T → Option (Int32 × fm_T)
  | 0 => fun _ _ _ => none
  | n + 1 => fun x1 x2 v => (if v 1 8 ≤ x2 then some (x1, v) else (if x2 < 0 ∨ 40 ≤ x2.toNatClampNeg then none else ((gC d 0 3 (v 302 x2.toNatClampNeg) 0 0 v).bind fun q4 => (if v 302 x2.toNatClampNeg < 0 ∨ 40 ≤ (v 302 x2.toNatClampNeg).toNatClampNeg then none else (if q4.2 (bo 3 + 16) 1 = q4.2 303 ((v 302 x2.toNatClampNeg).toNatClampNeg) then (if q4.2 (bo 3 + 16) 0 = q4.2 304 ((v 302 x2.toNatClampNeg).toNatClampNeg) then f_X4_countUnlike_11 d n x1 (x2 + 1) q4.2 else f_X4_countUnlike_11 d n (x1 + 1) (x2 + 1) q4.2) else f_X4_countUnlike_11 d n (x1 + 1) (x2 + 1) q4.2)))))
theorem f_X4_countUnlike_11_s (d : Nat) (n : Nat)  (x1 : Int32) (x2 : Int32) (v : fm_T) : f_X4_countUnlike_11 d (n + 1) x1 x2 v = (if v 1 8 ≤ x2 then some (x1, v) else (if x2 < 0 ∨ 40 ≤ x2.toNatClampNeg then none else ((gC d 0 3 (v 302 x2.toNatClampNeg) 0 0 v).bind fun q4 => (if v 302 x2.toNatClampNeg < 0 ∨ 40 ≤ (v 302 x2.toNatClampNeg).toNatClampNeg then none else (if q4.2 (bo 3 + 16) 1 = q4.2 303 ((v 302 x2.toNatClampNeg).toNatClampNeg) then (if q4.2 (bo 3 + 16) 0 = q4.2 304 ((v 302 x2.toNatClampNeg).toNatClampNeg) then f_X4_countUnlike_11 d n x1 (x2 + 1) q4.2 else f_X4_countUnlike_11 d n (x1 + 1) (x2 + 1) q4.2) else f_X4_countUnlike_11 d n (x1 + 1) (x2 + 1) q4.2))))) := rfl
set_option maxHeartbeats 4000000 in
set_option maxRecDepth 20000 in
theorem b_X4_countUnlike_11  (d : Nat)  {p : Program} {e : Env} {R : Room} {s : State} {m : MethodId} {args : Array Value} {below : List Frame} {meth : Method} {c : Code} (C : fm_C p s m args c cX4_countUnlike RX4 4 D (fm_tys cI cII cLd cOc) tA b 305 A) (hr : meth.sig.returnType = (some .int)) (hk0 : meth.locks = false) (hF : (d + 4) ≤ R.frames) (hLo : 40 * (d + 4) ≤ R.locals) : ∀ (n : Nat) (x1 : Int32) (x2 : Int32) (v : fm_T) {q : Int32 × fm_T}, f_X4_countUnlike_11 d n x1 x2 v = some q → fm_V p l e R s m args below meth c D b 305 (shC cI cII cLd cOc b) A (MQ below (fm_Q D b 305 (shC cI cII cLd cOc b) A (some (.int q.1)) q.2) args s 0 0 A) 4 11 [(0, .ref (b + 0)), (1, .int x1), (2, .int x2)] [] v := by
  intro n
  induction n with
  | zero =>
    intro x1 x2 v q hf
    cases (show (none : Option (Int32 × fm_T)) = some q from hf)
  | succ n ih =>
    intro x1 x2 v q hf
    rw [f_X4_countUnlike_11_s] at hf
    refine fm_iload_n C dX4_countUnlike_11 rfl 2 rfl 12 rfl ?_
    refine fm_aload_n C dX4_countUnlike_12 rfl 0 rfl 13 rfl ?_
    refine fm_get C (t := 0) (by decide) (shC_0 _) rfl inG_X4 0 (by decide) F_X4_12 rfl dX4_countUnlike_13 16 rfl ?_
    refine fm_getN C (t := 1) (by decide) (shC_1 _) rfl inG_X2 8 (by decide) FN_X4_161 rfl dX4_countUnlike_16 19 rfl ?_
    refine fm_icmp_ge C 86 dX4_countUnlike_19 (by decide) (fun c1 => ?_) 22 rfl (fun c1 => ?_)
    · rw [if_pos c1] at hf
      refine fm_iload_n C dX4_countUnlike_86 rfl 1 rfl 87 rfl ?_
      obtain rfl := Option.some.inj hf
      exact fm_iret C hr hk0 dX4_countUnlike_87
    · rw [if_neg c1] at hf
      refine fm_aload_n C dX4_countUnlike_22 rfl 0 rfl 23 rfl ?_
      refine fm_get C (t := 0) (by decide) (shC_0 _) rfl inG_X4 6 (by decide) F_X4_43 rfl dX4_countUnlike_23 26 rfl ?_
      refine fm_iload_n C dX4_countUnlike_26 rfl 2 rfl 27 rfl ?_
      by_cases b2 : x2 < 0 ∨ 40 ≤ x2.toNatClampNeg
      · rw [if_pos b2] at hf; cases hf
      rw [if_neg b2] at hf
      refine fm_iald C (t := 302) (t0 := 0) (by decide) (shC_302 _) rfl b2 dX4_countUnlike_27 28 rfl ?_
      refine fm_istore_n C [(3, .int (v 302 x2.toNatClampNeg)), (0, .ref (b + 0)), (1, .int x1), (2, .int x2)] dX4_countUnlike_28 rfl (by decide) rfl 29 rfl ?_
      refine fm_aload_n C dX4_countUnlike_29 rfl 1 rfl 30 rfl ?_
      refine fm_get C (t := 0) (by decide) (shC_0 _) rfl inG_X4 5 (by decide) F_X4_39 rfl dX4_countUnlike_30 33 rfl ?_
      refine fm_iload_n C dX4_countUnlike_33 rfl 0 rfl 34 rfl ?_
      refine fm_iconst C (x := 0) dX4_countUnlike_34 (by decide) 35 rfl ?_
      obtain ⟨q4, h3, hf⟩ := Option.bind_eq_some_iff.mp hf
      refine fm_callN C Y_X0_obtain (t := lo 3) (lo_lt (by decide)) ((shC_lo (by decide)) _) rfl LN_X4_83 (As := [.int (v 302 x2.toNatClampNeg), .int 0]) (rest := []) ((gC_ok d).1 (by decide) h3) (by omega) (by omega) rfl (Nat.le_of_ble_eq_true rfl) dX4_countUnlike_35 38 rfl [.int q4.1] rfl ?_
      refine fm_pop C dX4_countUnlike_38 rfl 39 rfl ?_
      refine fm_aload_n C dX4_countUnlike_39 rfl 1 rfl 40 rfl ?_
      refine fm_get C (t := 0) (by decide) (shC_0 _) rfl inG_X4 5 (by decide) F_X4_39 rfl dX4_countUnlike_40 43 rfl ?_
      refine fm_getN C (t := lo 3) (lo_lt (by decide)) ((shC_lo (by decide)) _) rfl inG_X0 6 (by decide) FN_X4_87 rfl dX4_countUnlike_43 46 rfl ?_
      refine fm_getN C (t := bo 3 + 16) (isO_lt (isO_now (by decide))) ((shC_O (isO_now (by decide))) _) rfl inG_X1 1 (by decide) FN_X4_107 rfl dX4_countUnlike_46 49 rfl ?_
      refine fm_aload_n C dX4_countUnlike_49 rfl 1 rfl 50 rfl ?_
      refine fm_get C (t := 0) (by decide) (shC_0 _) rfl inG_X4 7 (by decide) F_X4_47 rfl dX4_countUnlike_50 53 rfl ?_
      refine fm_iload_n C dX4_countUnlike_53 rfl 0 rfl 54 rfl ?_
      by_cases b5 : v 302 x2.toNatClampNeg < 0 ∨ 40 ≤ (v 302 x2.toNatClampNeg).toNatClampNeg
      · rw [if_pos b5] at hf; cases hf
      rw [if_neg b5] at hf
      refine fm_iald C (t := 303) (t0 := 0) (by decide) (shC_303 _) rfl b5 dX4_countUnlike_54 55 rfl ?_
      refine fm_icmp_ne C 77 dX4_countUnlike_55 (by decide) (fun c6 => ?_) 58 rfl (fun c6 => ?_)
      · rw [if_neg c6] at hf
        refine fm_iinc C [(1, .int (x1 + 1)), (3, .int (v 302 x2.toNatClampNeg)), (0, .ref (b + 0)), (2, .int x2)] dX4_countUnlike_77 2 rfl rfl (by decide) rfl 80 rfl ?_
        refine fm_iinc C [(2, .int (x2 + 1)), (1, .int (x1 + 1)), (3, .int (v 302 x2.toNatClampNeg)), (0, .ref (b + 0))] dX4_countUnlike_80 3 rfl rfl (by decide) rfl 83 rfl ?_
        refine fm_goto C 11 dX4_countUnlike_83 (by decide) ?_
        refine fm_lv [3, 1, 0] [(0, .ref (b + 0)), (1, .int (x1 + 1)), (2, .int (x2 + 1))] rfl ?_
        exact ih (x1 + 1) (x2 + 1) q4.2 hf
      · rw [if_pos c6] at hf
        refine fm_aload_n C dX4_countUnlike_58 rfl 1 rfl 59 rfl ?_
        refine fm_get C (t := 0) (by decide) (shC_0 _) rfl inG_X4 5 (by decide) F_X4_39 rfl dX4_countUnlike_59 62 rfl ?_
        refine fm_getN C (t := lo 3) (lo_lt (by decide)) ((shC_lo (by decide)) _) rfl inG_X0 6 (by decide) FN_X4_87 rfl dX4_countUnlike_62 65 rfl ?_
        refine fm_getN C (t := bo 3 + 16) (isO_lt (isO_now (by decide))) ((shC_O (isO_now (by decide))) _) rfl inG_X1 0 (by decide) FN_X4_90 rfl dX4_countUnlike_65 68 rfl ?_
        refine fm_aload_n C dX4_countUnlike_68 rfl 1 rfl 69 rfl ?_
        refine fm_get C (t := 0) (by decide) (shC_0 _) rfl inG_X4 8 (by decide) F_X4_50 rfl dX4_countUnlike_69 72 rfl ?_
        refine fm_iload_n C dX4_countUnlike_72 rfl 0 rfl 73 rfl ?_
        refine fm_iald C (t := 304) (t0 := 0) (by decide) (shC_304 _) rfl b5 dX4_countUnlike_73 74 rfl ?_
        refine fm_icmp_eq C 80 dX4_countUnlike_74 (by decide) (fun c7 => ?_) 77 rfl (fun c7 => ?_)
        · rw [if_pos c7] at hf
          refine fm_iinc C [(2, .int (x2 + 1)), (3, .int (v 302 x2.toNatClampNeg)), (0, .ref (b + 0)), (1, .int x1)] dX4_countUnlike_80 3 rfl rfl (by decide) rfl 83 rfl ?_
          refine fm_goto C 11 dX4_countUnlike_83 (by decide) ?_
          refine fm_lv [2, 3, 0] [(0, .ref (b + 0)), (1, .int x1), (2, .int (x2 + 1))] rfl ?_
          exact ih x1 (x2 + 1) q4.2 hf
        · rw [if_neg c7] at hf
          refine fm_iinc C [(1, .int (x1 + 1)), (3, .int (v 302 x2.toNatClampNeg)), (0, .ref (b + 0)), (2, .int x2)] dX4_countUnlike_77 2 rfl rfl (by decide) rfl 80 rfl ?_
          refine fm_iinc C [(2, .int (x2 + 1)), (1, .int (x1 + 1)), (3, .int (v 302 x2.toNatClampNeg)), (0, .ref (b + 0))] dX4_countUnlike_80 3 rfl rfl (by decide) rfl 83 rfl ?_
          refine fm_goto C 11 dX4_countUnlike_83 (by decide) ?_
          refine fm_lv [3, 1, 0] [(0, .ref (b + 0)), (1, .int (x1 + 1)), (2, .int (x2 + 1))] rfl ?_
          exact ih (x1 + 1) (x2 + 1) q4.2 hf
def f_X4_countUnlike (d : Nat)  (v : fm_T) : Option (Int32 × fm_T) := ((f_X0_clear 3 v).bind fun q9 => f_X4_countUnlike_11 d 1000 0 0 q9.2)
set_option maxHeartbeats 4000000 in
set_option maxRecDepth 20000 in
theorem c_X4_countUnlike  (d : Nat)  {v : fm_T} {q : Int32 × fm_T} (hf : f_X4_countUnlike d  v = some q) : fm_M l D (fm_tys cI cII cLd cOc) tA b 305 (shC cI cII cLd cOc b) A yX4_countUnlike cX4_countUnlike 4 (some .int) (d + 4) [.ref (b + 0)] v (some (.int q.1)) q.2 := by
  refine fm_entry (by decide) (Nat.le_of_ble_eq_true rfl) ?_
  intro p e R s m args below meth c C hr hk0 hF hLo
  unfold f_X4_countUnlike at hf
  show fm_V p l e R s m args below meth c D b 305 (shC cI cII cLd cOc b) A _ 4 0 [(0, .ref (b + 0))] [] v
  refine fm_aload_n C dX4_countUnlike_0 rfl 0 rfl 1 rfl ?_
  refine fm_get C (t := 0) (by decide) (shC_0 _) rfl inG_X4 5 (by decide) F_X4_39 rfl dX4_countUnlike_1 4 rfl ?_
  obtain ⟨q9, h8, hf⟩ := Option.bind_eq_some_iff.mp hf
  refine fm_callN C Y_X0_clear (t := lo 3) (lo_lt (by decide)) ((shC_lo (by decide)) _) rfl LN_X4_144 (As := []) (rest := []) (c_X0_clear (by decide) h8) (by omega) (by omega) rfl (Nat.le_of_ble_eq_true rfl) dX4_countUnlike_4 7 rfl [] rfl ?_
  refine fm_iconst C (x := 0) dX4_countUnlike_7 (by decide) 8 rfl ?_
  refine fm_istore_n C [(1, .int 0), (0, .ref (b + 0))] dX4_countUnlike_8 rfl (by decide) rfl 9 rfl ?_
  refine fm_iconst C (x := 0) dX4_countUnlike_9 (by decide) 10 rfl ?_
  refine fm_istore_n C [(2, .int 0), (1, .int 0), (0, .ref (b + 0))] dX4_countUnlike_10 rfl (by decide) rfl 11 rfl ?_
  refine fm_lv [2, 1, 0] [(0, .ref (b + 0)), (1, .int 0), (2, .int 0)] rfl ?_
  exact b_X4_countUnlike_11 d  C hr hk0 hF hLo 1000 0 0 q9.2 hf
def f_X4_alike (d : Nat) (x1 : Int32) (v : fm_T) : Option (Int32 × fm_T) := (if v 0 9 < 40 then ((some (fm_u v 0 9 ((v 0 9) + 1)) : Option fm_T).bind fun m3 => ((f_X4_needByNumbers d  m3).bind fun q5 => ((f_X4_mixOrder x1 q5.2).bind fun q7 => ((f_X4_countUnlike d  q7.2).bind fun q9 => some (q9.1, q9.2))))) else some ((-2), v))
set_option maxHeartbeats 4000000 in
set_option maxRecDepth 20000 in
theorem c_X4_alike {x1 : Int32} (d : Nat)  {v : fm_T} {q : Int32 × fm_T} (hf : f_X4_alike d x1 v = some q) : fm_M l D (fm_tys cI cII cLd cOc) tA b 305 (shC cI cII cLd cOc b) A yX4_alike cX4_alike 2 (some .int) (d + 5) [.ref (b + 0), .int x1] v (some (.int q.1)) q.2 := by
  refine fm_entry (by decide) (Nat.le_of_ble_eq_true rfl) ?_
  intro p e R s m args below meth c C hr hk0 hF hLo
  unfold f_X4_alike at hf
  show fm_V p l e R s m args below meth c D b 305 (shC cI cII cLd cOc b) A _ 2 0 [(0, .ref (b + 0)), (1, .int x1)] [] v
  refine fm_aload_n C dX4_alike_0 rfl 0 rfl 1 rfl ?_
  refine fm_get C (t := 0) (by decide) (shC_0 _) rfl inG_X4 9 (by decide) F_X4_145 rfl dX4_alike_1 4 rfl ?_
  refine fm_bipush C (x := 40) dX4_alike_4 (by decide) 6 rfl ?_
  refine fm_icmp_lt C 12 dX4_alike_6 (by decide) (fun c1 => ?_) 9 rfl (fun c1 => ?_)
  · rw [if_pos c1] at hf
    refine fm_aload_n C dX4_alike_12 rfl 0 rfl 13 rfl ?_
    refine fm_dup C dX4_alike_13 rfl 14 rfl ?_
    refine fm_get C (t := 0) (by decide) (shC_0 _) rfl inG_X4 9 (by decide) F_X4_145 rfl dX4_alike_14 17 rfl ?_
    refine fm_iconst C (x := 1) dX4_alike_17 (by decide) 18 rfl ?_
    refine fm_iadd C dX4_alike_18 19 rfl ?_
    obtain ⟨m3, e2, hf⟩ := Option.bind_eq_some_iff.mp hf
    refine fm_put C (t := 0) (by decide) (shC_0 _) rfl inG_X4 9 (by decide) F_X4_145 tyX4 tyX4_ok nmX4 rfl (ty := .int) (by decide +kernel) rfl rfl (Nat.le_of_ble_eq_true rfl) ((shC_0 _).trans rfl) dX4_alike_19 22 rfl m3 (Option.some.inj e2) ?_
    refine fm_aload_n C dX4_alike_22 rfl 0 rfl 23 rfl ?_
    obtain ⟨q5, h4, hf⟩ := Option.bind_eq_some_iff.mp hf
    refine fm_callV C Y_X4_needByNumbers (t := 0) (by decide) (shC_0 _) rfl LM_X4_148 (As := []) (rest := []) (c_X4_needByNumbers d  h4) (by omega) (by omega) rfl (Nat.le_of_ble_eq_true rfl) dX4_alike_23 26 rfl [] rfl ?_
    refine fm_aload_n C dX4_alike_26 rfl 0 rfl 27 rfl ?_
    refine fm_iload_n C dX4_alike_27 rfl 1 rfl 28 rfl ?_
    obtain ⟨q7, h6, hf⟩ := Option.bind_eq_some_iff.mp hf
    refine fm_callV C Y_X4_mixOrder (t := 0) (by decide) (shC_0 _) rfl LM_X4_151 (As := [.int x1]) (rest := []) (c_X4_mixOrder  h6) (by omega) (by omega) rfl (Nat.le_of_ble_eq_true rfl) dX4_alike_28 31 rfl [] rfl ?_
    refine fm_aload_n C dX4_alike_31 rfl 0 rfl 32 rfl ?_
    obtain ⟨q9, h8, hf⟩ := Option.bind_eq_some_iff.mp hf
    refine fm_callV C Y_X4_countUnlike (t := 0) (by decide) (shC_0 _) rfl LM_X4_155 (As := []) (rest := []) (c_X4_countUnlike d  h8) (by omega) (by omega) rfl (Nat.le_of_ble_eq_true rfl) dX4_alike_32 35 rfl [.int q9.1] rfl ?_
    obtain rfl := Option.some.inj hf
    exact fm_iret C hr hk0 dX4_alike_35
  · rw [if_neg c1] at hf
    refine fm_bipush C (x := -2) dX4_alike_9 (by decide) 11 rfl ?_
    obtain rfl := Option.some.inj hf
    exact fm_iret C hr hk0 dX4_alike_11
end
