section
variable {l : Launch} {D : va_G} {tA b : Nat} {A : Nat → Prop} {cI cII cLd cOc : ClassId}
def f_X0_clear_23 : Nat → Nat → Int32 → fm_T → Option (Int32 × fm_T)
  | 0 => fun _ _ _ => none
  | n + 1 => fun k x1 v => (if 40 ≤ x1 then some (0, v) else (if x1 < 0 ∨ 40 ≤ x1.toNatClampNeg then none else ((some (fm_u v (bo k + 14) x1.toNatClampNeg 0) : Option fm_T).bind fun m4 => f_X0_clear_23 n k (x1 + 1) m4)))
theorem f_X0_clear_23_s (n : Nat) (k : Nat) (x1 : Int32) (v : fm_T) : f_X0_clear_23 (n + 1) k x1 v = (if 40 ≤ x1 then some (0, v) else (if x1 < 0 ∨ 40 ≤ x1.toNatClampNeg then none else ((some (fm_u v (bo k + 14) x1.toNatClampNeg 0) : Option fm_T).bind fun m4 => f_X0_clear_23 n k (x1 + 1) m4))) := rfl
set_option maxHeartbeats 4000000 in
set_option maxRecDepth 20000 in
theorem b_X0_clear_23 {k : Nat} (hk : k < 4) {p : Program} {e : Env} {R : Room} {s : State} {m : MethodId} {args : Array Value} {below : List Frame} {meth : Method} {c : Code} (C : fm_C p s m args c cX0_clear RX0 2 D (fm_tys cI cII cLd cOc) tA b 305 A) (hr : meth.sig.returnType = none) (hk0 : meth.locks = false) (hF : 0 ≤ R.frames) (hLo : 40 * 0 ≤ R.locals) : ∀ (n : Nat) (x1 : Int32) (v : fm_T) {q : Int32 × fm_T}, f_X0_clear_23 n k x1 v = some q → fm_V p l e R s m args below meth c D b 305 (shC cI cII cLd cOc b) A (MQ below (fm_Q D b 305 (shC cI cII cLd cOc b) A none q.2) args s 0 0 A) 2 23 [(0, .ref (b + (lo k))), (1, .int x1)] [] v := by
  intro n
  induction n with
  | zero =>
    intro x1 v q hf
    cases (show (none : Option (Int32 × fm_T)) = some q from hf)
  | succ n ih =>
    intro x1 v q hf
    rw [f_X0_clear_23_s] at hf
    refine fm_iload_n C dX0_clear_23 rfl 1 rfl 24 rfl ?_
    refine fm_bipush C (x := 40) dX0_clear_24 (by decide) 26 rfl ?_
    refine fm_icmp_ge C 42 dX0_clear_26 (by decide) (fun c1 => ?_) 29 rfl (fun c1 => ?_)
    · rw [if_pos c1] at hf
      obtain rfl := Option.some.inj hf
      exact fm_vret C hr hk0 dX0_clear_42
    · rw [if_neg c1] at hf
      refine fm_aload_n C dX0_clear_29 rfl 0 rfl 30 rfl ?_
      refine fm_get C (t := lo k) (lo_lt hk) ((shC_lo hk) _) rfl inG_X0 4 (by decide) F_X0_20 rfl dX0_clear_30 33 rfl ?_
      refine fm_iload_n C dX0_clear_33 rfl 1 rfl 34 rfl ?_
      refine fm_iconst C (x := 0) dX0_clear_34 (by decide) 35 rfl ?_
      by_cases b2 : x1 < 0 ∨ 40 ≤ x1.toNatClampNeg
      · rw [if_pos b2] at hf; cases hf
      rw [if_neg b2] at hf
      obtain ⟨m4, e3, hf⟩ := Option.bind_eq_some_iff.mp hf
      refine fm_iast C (t := bo k + 14) (t0 := 0) (bo_lt hk (by decide)) (shC_b14 hk) rfl b2 dX0_clear_35 36 rfl m4 (Option.some.inj e3) ?_
      refine fm_iinc C [(1, .int (x1 + 1)), (0, .ref (b + (lo k)))] dX0_clear_36 1 rfl rfl (by decide) rfl 39 rfl ?_
      refine fm_goto C 23 dX0_clear_39 (by decide) ?_
      refine fm_lv [1, 0] [(0, .ref (b + (lo k))), (1, .int (x1 + 1))] rfl ?_
      exact ih (x1 + 1) m4 hf
def f_X0_clear_2 : Nat → Nat → Int32 → fm_T → Option (Int32 × fm_T)
  | 0 => fun _ _ _ => none
  | n + 1 => fun k x1 v => (if 12 ≤ x1 then f_X0_clear_23 1000 k 0 v else (if x1 < 0 ∨ 12 ≤ x1.toNatClampNeg then none else ((some (fm_u v (bo k) x1.toNatClampNeg 0) : Option fm_T).bind fun m8 => f_X0_clear_2 n k (x1 + 1) m8)))
theorem f_X0_clear_2_s (n : Nat) (k : Nat) (x1 : Int32) (v : fm_T) : f_X0_clear_2 (n + 1) k x1 v = (if 12 ≤ x1 then f_X0_clear_23 1000 k 0 v else (if x1 < 0 ∨ 12 ≤ x1.toNatClampNeg then none else ((some (fm_u v (bo k) x1.toNatClampNeg 0) : Option fm_T).bind fun m8 => f_X0_clear_2 n k (x1 + 1) m8))) := rfl
set_option maxHeartbeats 4000000 in
set_option maxRecDepth 20000 in
theorem b_X0_clear_2 {k : Nat} (hk : k < 4) {p : Program} {e : Env} {R : Room} {s : State} {m : MethodId} {args : Array Value} {below : List Frame} {meth : Method} {c : Code} (C : fm_C p s m args c cX0_clear RX0 2 D (fm_tys cI cII cLd cOc) tA b 305 A) (hr : meth.sig.returnType = none) (hk0 : meth.locks = false) (hF : 0 ≤ R.frames) (hLo : 40 * 0 ≤ R.locals) : ∀ (n : Nat) (x1 : Int32) (v : fm_T) {q : Int32 × fm_T}, f_X0_clear_2 n k x1 v = some q → fm_V p l e R s m args below meth c D b 305 (shC cI cII cLd cOc b) A (MQ below (fm_Q D b 305 (shC cI cII cLd cOc b) A none q.2) args s 0 0 A) 2 2 [(0, .ref (b + (lo k))), (1, .int x1)] [] v := by
  intro n
  induction n with
  | zero =>
    intro x1 v q hf
    cases (show (none : Option (Int32 × fm_T)) = some q from hf)
  | succ n ih =>
    intro x1 v q hf
    rw [f_X0_clear_2_s] at hf
    refine fm_iload_n C dX0_clear_2 rfl 1 rfl 3 rfl ?_
    refine fm_bipush C (x := 12) dX0_clear_3 (by decide) 5 rfl ?_
    refine fm_icmp_ge C 21 dX0_clear_5 (by decide) (fun c5 => ?_) 8 rfl (fun c5 => ?_)
    · rw [if_pos c5] at hf
      refine fm_iconst C (x := 0) dX0_clear_21 (by decide) 22 rfl ?_
      refine fm_istore_n C [(1, .int 0), (0, .ref (b + (lo k)))] dX0_clear_22 rfl (by decide) rfl 23 rfl ?_
      refine fm_lv [1, 0] [(0, .ref (b + (lo k))), (1, .int 0)] rfl ?_
      exact b_X0_clear_23 hk C hr hk0 hF hLo 1000 0 v hf
    · rw [if_neg c5] at hf
      refine fm_aload_n C dX0_clear_8 rfl 0 rfl 9 rfl ?_
      refine fm_get C (t := lo k) (lo_lt hk) ((shC_lo hk) _) rfl inG_X0 2 (by decide) F_X0_9 rfl dX0_clear_9 12 rfl ?_
      refine fm_iload_n C dX0_clear_12 rfl 1 rfl 13 rfl ?_
      refine fm_iconst C (x := 0) dX0_clear_13 (by decide) 14 rfl ?_
      by_cases b6 : x1 < 0 ∨ 12 ≤ x1.toNatClampNeg
      · rw [if_pos b6] at hf; cases hf
      rw [if_neg b6] at hf
      obtain ⟨m8, e7, hf⟩ := Option.bind_eq_some_iff.mp hf
      refine fm_iast C (t := bo k) (t0 := 0) (bo_lt (j := 0) hk (by decide)) (shC_b0 hk) rfl b6 dX0_clear_14 15 rfl m8 (Option.some.inj e7) ?_
      refine fm_iinc C [(1, .int (x1 + 1)), (0, .ref (b + (lo k)))] dX0_clear_15 1 rfl rfl (by decide) rfl 18 rfl ?_
      refine fm_goto C 2 dX0_clear_18 (by decide) ?_
      refine fm_lv [1, 0] [(0, .ref (b + (lo k))), (1, .int (x1 + 1))] rfl ?_
      exact ih (x1 + 1) m8 hf
def f_X0_clear (k : Nat) (v : fm_T) : Option (Int32 × fm_T) := f_X0_clear_2 1000 k 0 v
set_option maxHeartbeats 4000000 in
set_option maxRecDepth 20000 in
theorem c_X0_clear {k : Nat} (hk : k < 4) {v : fm_T} {q : Int32 × fm_T} (hf : f_X0_clear k v = some q) : fm_M l D (fm_tys cI cII cLd cOc) tA b 305 (shC cI cII cLd cOc b) A yX0_clear cX0_clear 2 none 0 [.ref (b + (lo k))] v none q.2 := by
  refine fm_entry (by decide) (Nat.le_of_ble_eq_true rfl) ?_
  intro p e R s m args below meth c C hr hk0 hF hLo
  unfold f_X0_clear at hf
  show fm_V p l e R s m args below meth c D b 305 (shC cI cII cLd cOc b) A _ 2 0 [(0, .ref (b + (lo k)))] [] v
  refine fm_iconst C (x := 0) dX0_clear_0 (by decide) 1 rfl ?_
  refine fm_istore_n C [(1, .int 0), (0, .ref (b + (lo k)))] dX0_clear_1 rfl (by decide) rfl 2 rfl ?_
  refine fm_lv [1, 0] [(0, .ref (b + (lo k))), (1, .int 0)] rfl ?_
  exact b_X0_clear_2 hk C hr hk0 hF hLo 1000 0 v hf
def f_X0_countEnded_4 : Nat → Nat → Int32 → Int32 → fm_T → Option (Int32 × fm_T)
  | 0 => fun _ _ _ _ => none
  | n + 1 => fun k x1 x2 v => (if 12 ≤ x2 then some (x1, v) else (if x2 < 0 ∨ 12 ≤ x2.toNatClampNeg then none else (if v (bo k) x2.toNatClampNeg = 1 then f_X0_countEnded_4 n k (x1 + 1) (x2 + 1) v else (if v (bo k) x2.toNatClampNeg = 3 then f_X0_countEnded_4 n k (x1 + 1) (x2 + 1) v else f_X0_countEnded_4 n k x1 (x2 + 1) v))))
theorem f_X0_countEnded_4_s (n : Nat) (k : Nat) (x1 : Int32) (x2 : Int32) (v : fm_T) : f_X0_countEnded_4 (n + 1) k x1 x2 v = (if 12 ≤ x2 then some (x1, v) else (if x2 < 0 ∨ 12 ≤ x2.toNatClampNeg then none else (if v (bo k) x2.toNatClampNeg = 1 then f_X0_countEnded_4 n k (x1 + 1) (x2 + 1) v else (if v (bo k) x2.toNatClampNeg = 3 then f_X0_countEnded_4 n k (x1 + 1) (x2 + 1) v else f_X0_countEnded_4 n k x1 (x2 + 1) v)))) := rfl
set_option maxHeartbeats 4000000 in
set_option maxRecDepth 20000 in
theorem b_X0_countEnded_4 {k : Nat} (hk : k < 4) {p : Program} {e : Env} {R : Room} {s : State} {m : MethodId} {args : Array Value} {below : List Frame} {meth : Method} {c : Code} (C : fm_C p s m args c cX0_countEnded RX0 3 D (fm_tys cI cII cLd cOc) tA b 305 A) (hr : meth.sig.returnType = (some .int)) (hk0 : meth.locks = false) (hF : 0 ≤ R.frames) (hLo : 40 * 0 ≤ R.locals) : ∀ (n : Nat) (x1 : Int32) (x2 : Int32) (v : fm_T) {q : Int32 × fm_T}, f_X0_countEnded_4 n k x1 x2 v = some q → fm_V p l e R s m args below meth c D b 305 (shC cI cII cLd cOc b) A (MQ below (fm_Q D b 305 (shC cI cII cLd cOc b) A (some (.int q.1)) q.2) args s 0 0 A) 3 4 [(0, .ref (b + (lo k))), (1, .int x1), (2, .int x2)] [] v := by
  intro n
  induction n with
  | zero =>
    intro x1 x2 v q hf
    cases (show (none : Option (Int32 × fm_T)) = some q from hf)
  | succ n ih =>
    intro x1 x2 v q hf
    rw [f_X0_countEnded_4_s] at hf
    refine fm_iload_n C dX0_countEnded_4 rfl 2 rfl 5 rfl ?_
    refine fm_bipush C (x := 12) dX0_countEnded_5 (by decide) 7 rfl ?_
    refine fm_icmp_ge C 39 dX0_countEnded_7 (by decide) (fun c1 => ?_) 10 rfl (fun c1 => ?_)
    · rw [if_pos c1] at hf
      refine fm_iload_n C dX0_countEnded_39 rfl 1 rfl 40 rfl ?_
      obtain rfl := Option.some.inj hf
      exact fm_iret C hr hk0 dX0_countEnded_40
    · rw [if_neg c1] at hf
      refine fm_aload_n C dX0_countEnded_10 rfl 0 rfl 11 rfl ?_
      refine fm_get C (t := lo k) (lo_lt hk) ((shC_lo hk) _) rfl inG_X0 2 (by decide) F_X0_9 rfl dX0_countEnded_11 14 rfl ?_
      refine fm_iload_n C dX0_countEnded_14 rfl 2 rfl 15 rfl ?_
      by_cases b2 : x2 < 0 ∨ 12 ≤ x2.toNatClampNeg
      · rw [if_pos b2] at hf; cases hf
      rw [if_neg b2] at hf
      refine fm_iald C (t := bo k) (t0 := 0) (bo_lt (j := 0) hk (by decide)) ((shC_b0 hk) _) rfl b2 dX0_countEnded_15 16 rfl ?_
      refine fm_iconst C (x := 1) dX0_countEnded_16 (by decide) 17 rfl ?_
      refine fm_icmp_eq C 30 dX0_countEnded_17 (by decide) (fun c3 => ?_) 20 rfl (fun c3 => ?_)
      · rw [if_pos c3] at hf
        refine fm_iinc C [(1, .int (x1 + 1)), (0, .ref (b + (lo k))), (2, .int x2)] dX0_countEnded_30 1 rfl rfl (by decide) rfl 33 rfl ?_
        refine fm_iinc C [(2, .int (x2 + 1)), (1, .int (x1 + 1)), (0, .ref (b + (lo k)))] dX0_countEnded_33 2 rfl rfl (by decide) rfl 36 rfl ?_
        refine fm_goto C 4 dX0_countEnded_36 (by decide) ?_
        refine fm_lv [2, 1, 0] [(0, .ref (b + (lo k))), (1, .int (x1 + 1)), (2, .int (x2 + 1))] rfl ?_
        exact ih (x1 + 1) (x2 + 1) v hf
      · rw [if_neg c3] at hf
        refine fm_aload_n C dX0_countEnded_20 rfl 0 rfl 21 rfl ?_
        refine fm_get C (t := lo k) (lo_lt hk) ((shC_lo hk) _) rfl inG_X0 2 (by decide) F_X0_9 rfl dX0_countEnded_21 24 rfl ?_
        refine fm_iload_n C dX0_countEnded_24 rfl 2 rfl 25 rfl ?_
        refine fm_iald C (t := bo k) (t0 := 0) (bo_lt (j := 0) hk (by decide)) ((shC_b0 hk) _) rfl b2 dX0_countEnded_25 26 rfl ?_
        refine fm_iconst C (x := 3) dX0_countEnded_26 (by decide) 27 rfl ?_
        refine fm_icmp_ne C 33 dX0_countEnded_27 (by decide) (fun c4 => ?_) 30 rfl (fun c4 => ?_)
        · rw [if_neg c4] at hf
          refine fm_iinc C [(2, .int (x2 + 1)), (0, .ref (b + (lo k))), (1, .int x1)] dX0_countEnded_33 2 rfl rfl (by decide) rfl 36 rfl ?_
          refine fm_goto C 4 dX0_countEnded_36 (by decide) ?_
          refine fm_lv [1, 2, 0] [(0, .ref (b + (lo k))), (1, .int x1), (2, .int (x2 + 1))] rfl ?_
          exact ih x1 (x2 + 1) v hf
        · rw [if_pos c4] at hf
          refine fm_iinc C [(1, .int (x1 + 1)), (0, .ref (b + (lo k))), (2, .int x2)] dX0_countEnded_30 1 rfl rfl (by decide) rfl 33 rfl ?_
          refine fm_iinc C [(2, .int (x2 + 1)), (1, .int (x1 + 1)), (0, .ref (b + (lo k)))] dX0_countEnded_33 2 rfl rfl (by decide) rfl 36 rfl ?_
          refine fm_goto C 4 dX0_countEnded_36 (by decide) ?_
          refine fm_lv [2, 1, 0] [(0, .ref (b + (lo k))), (1, .int (x1 + 1)), (2, .int (x2 + 1))] rfl ?_
          exact ih (x1 + 1) (x2 + 1) v hf
def f_X0_countEnded (k : Nat) (v : fm_T) : Option (Int32 × fm_T) := f_X0_countEnded_4 1000 k 0 0 v
set_option maxHeartbeats 4000000 in
set_option maxRecDepth 20000 in
theorem c_X0_countEnded {k : Nat} (hk : k < 4) {v : fm_T} {q : Int32 × fm_T} (hf : f_X0_countEnded k v = some q) : fm_M l D (fm_tys cI cII cLd cOc) tA b 305 (shC cI cII cLd cOc b) A yX0_countEnded cX0_countEnded 3 (some .int) 0 [.ref (b + (lo k))] v (some (.int q.1)) q.2 := by
  refine fm_entry (by decide) (Nat.le_of_ble_eq_true rfl) ?_
  intro p e R s m args below meth c C hr hk0 hF hLo
  unfold f_X0_countEnded at hf
  show fm_V p l e R s m args below meth c D b 305 (shC cI cII cLd cOc b) A _ 3 0 [(0, .ref (b + (lo k)))] [] v
  refine fm_iconst C (x := 0) dX0_countEnded_0 (by decide) 1 rfl ?_
  refine fm_istore_n C [(1, .int 0), (0, .ref (b + (lo k)))] dX0_countEnded_1 rfl (by decide) rfl 2 rfl ?_
  refine fm_iconst C (x := 0) dX0_countEnded_2 (by decide) 3 rfl ?_
  refine fm_istore_n C [(2, .int 0), (1, .int 0), (0, .ref (b + (lo k)))] dX0_countEnded_3 rfl (by decide) rfl 4 rfl ?_
  refine fm_lv [2, 1, 0] [(0, .ref (b + (lo k))), (1, .int 0), (2, .int 0)] rfl ?_
  exact b_X0_countEnded_4 hk C hr hk0 hF hLo 1000 0 0 v hf
def f_X0_tellKept (k : Nat) (x1 : Int32) (v : fm_T) : Option (Int32 × fm_T) := (if x1 < 0 ∨ 40 ≤ x1.toNatClampNeg then none else (if v (bo k + 14) x1.toNatClampNeg = 2 then (if v (bo k + 17 + x1.toNatClampNeg) 1 = 0 then some (1, v) else some (10 + (v (bo k + 17 + x1.toNatClampNeg) 1), v)) else some (0, v)))
set_option maxHeartbeats 4000000 in
set_option maxRecDepth 20000 in
theorem c_X0_tellKept {k : Nat} {x1 : Int32} (hk : k < 4) {v : fm_T} {q : Int32 × fm_T} (hf : f_X0_tellKept k x1 v = some q) : fm_M l D (fm_tys cI cII cLd cOc) tA b 305 (shC cI cII cLd cOc b) A yX0_tellKept cX0_tellKept 3 (some .int) 0 [.ref (b + (lo k)), .int x1] v (some (.int q.1)) q.2 := by
  refine fm_entry (by decide) (Nat.le_of_ble_eq_true rfl) ?_
  intro p e R s m args below meth c C hr hk0 hF hLo
  unfold f_X0_tellKept at hf
  show fm_V p l e R s m args below meth c D b 305 (shC cI cII cLd cOc b) A _ 3 0 [(0, .ref (b + (lo k))), (1, .int x1)] [] v
  refine fm_aload_n C dX0_tellKept_0 rfl 0 rfl 1 rfl ?_
  refine fm_get C (t := lo k) (lo_lt hk) ((shC_lo hk) _) rfl inG_X0 4 (by decide) F_X0_20 rfl dX0_tellKept_1 4 rfl ?_
  refine fm_iload_n C dX0_tellKept_4 rfl 1 rfl 5 rfl ?_
  by_cases b1 : x1 < 0 ∨ 40 ≤ x1.toNatClampNeg
  · rw [if_pos b1] at hf; cases hf
  rw [if_neg b1] at hf
  refine fm_iald C (t := bo k + 14) (t0 := 0) (bo_lt hk (by decide)) ((shC_b14 hk) _) rfl b1 dX0_tellKept_5 6 rfl ?_
  refine fm_iconst C (x := 2) dX0_tellKept_6 (by decide) 7 rfl ?_
  refine fm_icmp_eq C 12 dX0_tellKept_7 (by decide) (fun c2 => ?_) 10 rfl (fun c2 => ?_)
  · rw [if_pos c2] at hf
    refine fm_aload_n C dX0_tellKept_12 rfl 0 rfl 13 rfl ?_
    refine fm_get C (t := lo k) (lo_lt hk) ((shC_lo hk) _) rfl inG_X0 5 (by decide) F_X0_25 rfl dX0_tellKept_13 16 rfl ?_
    refine fm_iload_n C dX0_tellKept_16 rfl 1 rfl 17 rfl ?_
    refine fm_aald C (t := bo k + 15) (t0 := 3) (bo_lt hk (by decide)) ((shC_b15 hk) _) rfl rfl b1 (x := b + (bo k + 17 + x1.toNatClampNeg)) (in_some (g := fun i => b + (bo k + 17 + i)) b1) dX0_tellKept_17 18 rfl ?_
    refine fm_getN C (t := bo k + 17 + x1.toNatClampNeg) (isO_lt (isO_out hk (in_lt b1))) ((shC_O (isO_out hk (in_lt b1))) _) rfl inG_X1 1 (by decide) FN_X0_42 rfl dX0_tellKept_18 21 rfl ?_
    refine fm_istore_n C [(2, .int (v (bo k + 17 + x1.toNatClampNeg) 1)), (0, .ref (b + (lo k))), (1, .int x1)] dX0_tellKept_21 rfl (by decide) rfl 22 rfl ?_
    refine fm_iload_n C dX0_tellKept_22 rfl 0 rfl 23 rfl ?_
    refine fm_if_ne C 30 dX0_tellKept_23 (by decide) (fun c3 => ?_) 26 rfl (fun c3 => ?_)
    · rw [if_neg c3] at hf
      refine fm_bipush C (x := 10) dX0_tellKept_30 (by decide) 32 rfl ?_
      refine fm_iload_n C dX0_tellKept_32 rfl 0 rfl 33 rfl ?_
      refine fm_iadd C dX0_tellKept_33 34 rfl ?_
      obtain rfl := Option.some.inj hf
      exact fm_iret C hr hk0 dX0_tellKept_34
    · rw [if_pos c3] at hf
      refine fm_iconst C (x := 1) dX0_tellKept_26 (by decide) 27 rfl ?_
      refine fm_goto C 34 dX0_tellKept_27 (by decide) ?_
      obtain rfl := Option.some.inj hf
      exact fm_iret C hr hk0 dX0_tellKept_34
  · rw [if_neg c2] at hf
    refine fm_iconst C (x := 0) dX0_tellKept_10 (by decide) 11 rfl ?_
    obtain rfl := Option.some.inj hf
    exact fm_iret C hr hk0 dX0_tellKept_11
def f_X0_tellItem (k : Nat) (x1 : Int32) (x2 : Int32) (v : fm_T) : Option (Int32 × fm_T) := (if x1 < 0 ∨ 12 ≤ x1.toNatClampNeg then none else (if v (bo k) x1.toNatClampNeg = 0 then (if x2 < 0 ∨ 8 ≤ x2.toNatClampNeg then none else some (v (4 + x1.toNatClampNeg) x2.toNatClampNeg, v)) else (if x2 < 0 ∨ 8 ≤ x2.toNatClampNeg then none else some (v (bo k + 2 + x1.toNatClampNeg) x2.toNatClampNeg, v))))
set_option maxHeartbeats 4000000 in
set_option maxRecDepth 20000 in
theorem c_X0_tellItem {k : Nat} {x1 : Int32} {x2 : Int32} (hk : k < 4) {v : fm_T} {q : Int32 × fm_T} (hf : f_X0_tellItem k x1 x2 v = some q) : fm_M l D (fm_tys cI cII cLd cOc) tA b 305 (shC cI cII cLd cOc b) A yX0_tellItem cX0_tellItem 3 (some .int) 0 [.ref (b + (lo k)), .int x1, .int x2] v (some (.int q.1)) q.2 := by
  refine fm_entry (by decide) (Nat.le_of_ble_eq_true rfl) ?_
  intro p e R s m args below meth c C hr hk0 hF hLo
  unfold f_X0_tellItem at hf
  show fm_V p l e R s m args below meth c D b 305 (shC cI cII cLd cOc b) A _ 3 0 [(0, .ref (b + (lo k))), (1, .int x1), (2, .int x2)] [] v
  refine fm_aload_n C dX0_tellItem_0 rfl 0 rfl 1 rfl ?_
  refine fm_get C (t := lo k) (lo_lt hk) ((shC_lo hk) _) rfl inG_X0 2 (by decide) F_X0_9 rfl dX0_tellItem_1 4 rfl ?_
  refine fm_iload_n C dX0_tellItem_4 rfl 1 rfl 5 rfl ?_
  by_cases b1 : x1 < 0 ∨ 12 ≤ x1.toNatClampNeg
  · rw [if_pos b1] at hf; cases hf
  rw [if_neg b1] at hf
  refine fm_iald C (t := bo k) (t0 := 0) (bo_lt (j := 0) hk (by decide)) ((shC_b0 hk) _) rfl b1 dX0_tellItem_5 6 rfl ?_
  refine fm_if_ne C 23 dX0_tellItem_6 (by decide) (fun c2 => ?_) 9 rfl (fun c2 => ?_)
  · rw [if_neg c2] at hf
    refine fm_aload_n C dX0_tellItem_23 rfl 0 rfl 24 rfl ?_
    refine fm_get C (t := lo k) (lo_lt hk) ((shC_lo hk) _) rfl inG_X0 3 (by decide) F_X0_17 rfl dX0_tellItem_24 27 rfl ?_
    refine fm_iload_n C dX0_tellItem_27 rfl 1 rfl 28 rfl ?_
    refine fm_aald C (t := bo k + 1) (t0 := 1) (bo_lt hk (by decide)) ((shC_b1 hk) _) rfl rfl b1 (x := b + (bo k + 2 + x1.toNatClampNeg)) (in_some (g := fun i => b + (bo k + 2 + i)) b1) dX0_tellItem_28 29 rfl ?_
    refine fm_iload_n C dX0_tellItem_29 rfl 2 rfl 30 rfl ?_
    by_cases b3 : x2 < 0 ∨ 8 ≤ x2.toNatClampNeg
    · rw [if_pos b3] at hf; cases hf
    rw [if_neg b3] at hf
    refine fm_iald C (t := bo k + 2 + x1.toNatClampNeg) (t0 := 0) (row_lt hk (in_lt b1)) ((shC_row hk (in_lt b1)) _) rfl b3 dX0_tellItem_30 31 rfl ?_
    obtain rfl := Option.some.inj hf
    exact fm_iret C hr hk0 dX0_tellItem_31
  · rw [if_pos c2] at hf
    refine fm_aload_n C dX0_tellItem_9 rfl 0 rfl 10 rfl ?_
    refine fm_get C (t := lo k) (lo_lt hk) ((shC_lo hk) _) rfl inG_X0 0 (by decide) F_X0_34 rfl dX0_tellItem_10 13 rfl ?_
    refine fm_getN C (t := 1) (by decide) (shC_1 _) rfl inG_X2 2 (by decide) FN_X0_46 rfl dX0_tellItem_13 16 rfl ?_
    refine fm_iload_n C dX0_tellItem_16 rfl 1 rfl 17 rfl ?_
    refine fm_aald C (t := 3) (t0 := 1) (by decide) (shC_3 _) rfl rfl b1 (x := b + (4 + x1.toNatClampNeg)) (in_some (g := fun i => b + (4 + i)) b1) dX0_tellItem_17 18 rfl ?_
    refine fm_iload_n C dX0_tellItem_18 rfl 2 rfl 19 rfl ?_
    by_cases b4 : x2 < 0 ∨ 8 ≤ x2.toNatClampNeg
    · rw [if_pos b4] at hf; cases hf
    rw [if_neg b4] at hf
    refine fm_iald C (t := 4 + x1.toNatClampNeg) (t0 := 0) (by have := in_lt b1; omega) ((shC_r4 (in_lt b1)) _) rfl b4 dX0_tellItem_19 20 rfl ?_
    refine fm_goto C 31 dX0_tellItem_20 (by decide) ?_
    obtain rfl := Option.some.inj hf
    exact fm_iret C hr hk0 dX0_tellItem_31
def f_X0_readItem (k : Nat) (x1 : Int32) (x2 : Int32) (v : fm_T) : Option (Int32 × fm_T) := ((f_X2_hasItem x1 x2 v).bind fun q2 => (if q2.1 = 0 then ((f_X1_fail (bo k + 16) 2 0 q2.2).bind fun q5 => (if q5.1 = 0 ∨ q5.1 = 1 then some (q5.1, q5.2) else none)) else (if x1 < 0 ∨ 12 ≤ x1.toNatClampNeg then none else (if x2 < 0 ∨ 8 ≤ x2.toNatClampNeg then none else ((f_X1_succeed (bo k + 16) (q2.2 (bo k + 2 + x1.toNatClampNeg) x2.toNatClampNeg) q2.2).bind fun q10 => (if q10.1 = 0 ∨ q10.1 = 1 then some (q10.1, q10.2) else none))))))
set_option maxHeartbeats 4000000 in
set_option maxRecDepth 20000 in
theorem c_X0_readItem {k : Nat} {x1 : Int32} {x2 : Int32} (hk : k < 4) {v : fm_T} {q : Int32 × fm_T} (hf : f_X0_readItem k x1 x2 v = some q) : fm_M l D (fm_tys cI cII cLd cOc) tA b 305 (shC cI cII cLd cOc b) A yX0_readItem cX0_readItem 3 (some .boolean) 2 [.ref (b + (lo k)), .int x1, .int x2] v (some (.int q.1)) q.2 := by
  refine fm_entry (by decide) (Nat.le_of_ble_eq_true rfl) ?_
  intro p e R s m args below meth c C hr hk0 hF hLo
  unfold f_X0_readItem at hf
  show fm_V p l e R s m args below meth c D b 305 (shC cI cII cLd cOc b) A _ 3 0 [(0, .ref (b + (lo k))), (1, .int x1), (2, .int x2)] [] v
  refine fm_aload_n C dX0_readItem_0 rfl 0 rfl 1 rfl ?_
  refine fm_get C (t := lo k) (lo_lt hk) ((shC_lo hk) _) rfl inG_X0 0 (by decide) F_X0_34 rfl dX0_readItem_1 4 rfl ?_
  refine fm_iload_n C dX0_readItem_4 rfl 1 rfl 5 rfl ?_
  refine fm_iload_n C dX0_readItem_5 rfl 2 rfl 6 rfl ?_
  obtain ⟨q2, h1, hf⟩ := Option.bind_eq_some_iff.mp hf
  refine fm_callN C Y_X2_hasItem (t := 1) (by decide) (shC_1 _) rfl LN_X0_122 (As := [.int x1, .int x2]) (rest := []) (c_X2_hasItem  h1) (by omega) (by omega) rfl (Nat.le_of_ble_eq_true rfl) dX0_readItem_6 9 rfl [.int q2.1] rfl ?_
  refine fm_if_eq C 30 dX0_readItem_9 (by decide) (fun c3 => ?_) 12 rfl (fun c3 => ?_)
  · rw [if_pos c3] at hf
    refine fm_aload_n C dX0_readItem_30 rfl 0 rfl 31 rfl ?_
    refine fm_get C (t := lo k) (lo_lt hk) ((shC_lo hk) _) rfl inG_X0 6 (by decide) F_X0_30 rfl dX0_readItem_31 34 rfl ?_
    refine fm_iconst C (x := 2) dX0_readItem_34 (by decide) 35 rfl ?_
    refine fm_iconst C (x := 0) dX0_readItem_35 (by decide) 36 rfl ?_
    obtain ⟨q5, h4, hf⟩ := Option.bind_eq_some_iff.mp hf
    refine fm_callN C Y_X1_fail (t := bo k + 16) (isO_lt (isO_now hk)) ((shC_O (isO_now hk)) _) rfl LN_X0_55 (As := [.int 2, .int 0]) (rest := []) (c_X1_fail (isO_now hk) h4) (by omega) (by omega) rfl (Nat.le_of_ble_eq_true rfl) dX0_readItem_36 39 rfl [.int q5.1] rfl ?_
    by_cases r6 : q5.1 = 0 ∨ q5.1 = 1
    · rw [if_pos r6] at hf
      obtain rfl := Option.some.inj hf
      exact fm_zret C hr hk0 r6 dX0_readItem_39
    · rw [if_neg r6] at hf; cases hf
  · rw [if_neg c3] at hf
    refine fm_aload_n C dX0_readItem_12 rfl 0 rfl 13 rfl ?_
    refine fm_get C (t := lo k) (lo_lt hk) ((shC_lo hk) _) rfl inG_X0 6 (by decide) F_X0_30 rfl dX0_readItem_13 16 rfl ?_
    refine fm_aload_n C dX0_readItem_16 rfl 0 rfl 17 rfl ?_
    refine fm_get C (t := lo k) (lo_lt hk) ((shC_lo hk) _) rfl inG_X0 3 (by decide) F_X0_17 rfl dX0_readItem_17 20 rfl ?_
    refine fm_iload_n C dX0_readItem_20 rfl 1 rfl 21 rfl ?_
    by_cases b7 : x1 < 0 ∨ 12 ≤ x1.toNatClampNeg
    · rw [if_pos b7] at hf; cases hf
    rw [if_neg b7] at hf
    refine fm_aald C (t := bo k + 1) (t0 := 1) (bo_lt hk (by decide)) ((shC_b1 hk) _) rfl rfl b7 (x := b + (bo k + 2 + x1.toNatClampNeg)) (in_some (g := fun i => b + (bo k + 2 + i)) b7) dX0_readItem_21 22 rfl ?_
    refine fm_iload_n C dX0_readItem_22 rfl 2 rfl 23 rfl ?_
    by_cases b8 : x2 < 0 ∨ 8 ≤ x2.toNatClampNeg
    · rw [if_pos b8] at hf; cases hf
    rw [if_neg b8] at hf
    refine fm_iald C (t := bo k + 2 + x1.toNatClampNeg) (t0 := 0) (row_lt hk (in_lt b7)) ((shC_row hk (in_lt b7)) _) rfl b8 dX0_readItem_23 24 rfl ?_
    obtain ⟨q10, h9, hf⟩ := Option.bind_eq_some_iff.mp hf
    refine fm_callN C Y_X1_succeed (t := bo k + 16) (isO_lt (isO_now hk)) ((shC_O (isO_now hk)) _) rfl LN_X0_93 (As := [.int (q2.2 (bo k + 2 + x1.toNatClampNeg) x2.toNatClampNeg)]) (rest := []) (c_X1_succeed (isO_now hk) h9) (by omega) (by omega) rfl (Nat.le_of_ble_eq_true rfl) dX0_readItem_24 27 rfl [.int q10.1] rfl ?_
    refine fm_goto C 39 dX0_readItem_27 (by decide) ?_
    by_cases r11 : q10.1 = 0 ∨ q10.1 = 1
    · rw [if_pos r11] at hf
      obtain rfl := Option.some.inj hf
      exact fm_zret C hr hk0 r11 dX0_readItem_39
    · rw [if_neg r11] at hf; cases hf
def f_X0_writeItem (k : Nat) (x1 : Int32) (x2 : Int32) (x3 : Int32) (v : fm_T) : Option (Int32 × fm_T) := ((f_X2_hasItem x1 x2 v).bind fun q2 => (if q2.1 = 0 then ((f_X1_fail (bo k + 16) 2 0 q2.2).bind fun q12 => (if q12.1 = 0 ∨ q12.1 = 1 then some (q12.1, q12.2) else none)) else (if x1 < 0 ∨ 12 ≤ x1.toNatClampNeg then none else (if x2 < 0 ∨ 8 ≤ x2.toNatClampNeg then none else ((some (fm_u q2.2 (bo k + 2 + x1.toNatClampNeg) x2.toNatClampNeg x3) : Option fm_T).bind fun m7 => ((f_X1_succeed (bo k + 16) x3 m7).bind fun q9 => (if q9.1 = 0 ∨ q9.1 = 1 then some (q9.1, q9.2) else none)))))))
set_option maxHeartbeats 4000000 in
set_option maxRecDepth 20000 in
theorem c_X0_writeItem {k : Nat} {x1 : Int32} {x2 : Int32} {x3 : Int32} (hk : k < 4) {v : fm_T} {q : Int32 × fm_T} (hf : f_X0_writeItem k x1 x2 x3 v = some q) : fm_M l D (fm_tys cI cII cLd cOc) tA b 305 (shC cI cII cLd cOc b) A yX0_writeItem cX0_writeItem 4 (some .boolean) 2 [.ref (b + (lo k)), .int x1, .int x2, .int x3] v (some (.int q.1)) q.2 := by
  refine fm_entry (by decide) (Nat.le_of_ble_eq_true rfl) ?_
  intro p e R s m args below meth c C hr hk0 hF hLo
  unfold f_X0_writeItem at hf
  show fm_V p l e R s m args below meth c D b 305 (shC cI cII cLd cOc b) A _ 4 0 [(0, .ref (b + (lo k))), (1, .int x1), (2, .int x2), (3, .int x3)] [] v
  refine fm_aload_n C dX0_writeItem_0 rfl 0 rfl 1 rfl ?_
  refine fm_get C (t := lo k) (lo_lt hk) ((shC_lo hk) _) rfl inG_X0 0 (by decide) F_X0_34 rfl dX0_writeItem_1 4 rfl ?_
  refine fm_iload_n C dX0_writeItem_4 rfl 1 rfl 5 rfl ?_
  refine fm_iload_n C dX0_writeItem_5 rfl 2 rfl 6 rfl ?_
  obtain ⟨q2, h1, hf⟩ := Option.bind_eq_some_iff.mp hf
  refine fm_callN C Y_X2_hasItem (t := 1) (by decide) (shC_1 _) rfl LN_X0_122 (As := [.int x1, .int x2]) (rest := []) (c_X2_hasItem  h1) (by omega) (by omega) rfl (Nat.le_of_ble_eq_true rfl) dX0_writeItem_6 9 rfl [.int q2.1] rfl ?_
  refine fm_if_ne C 22 dX0_writeItem_9 (by decide) (fun c3 => ?_) 12 rfl (fun c3 => ?_)
  · rw [if_neg c3] at hf
    refine fm_aload_n C dX0_writeItem_22 rfl 0 rfl 23 rfl ?_
    refine fm_get C (t := lo k) (lo_lt hk) ((shC_lo hk) _) rfl inG_X0 3 (by decide) F_X0_17 rfl dX0_writeItem_23 26 rfl ?_
    refine fm_iload_n C dX0_writeItem_26 rfl 1 rfl 27 rfl ?_
    by_cases b4 : x1 < 0 ∨ 12 ≤ x1.toNatClampNeg
    · rw [if_pos b4] at hf; cases hf
    rw [if_neg b4] at hf
    refine fm_aald C (t := bo k + 1) (t0 := 1) (bo_lt hk (by decide)) ((shC_b1 hk) _) rfl rfl b4 (x := b + (bo k + 2 + x1.toNatClampNeg)) (in_some (g := fun i => b + (bo k + 2 + i)) b4) dX0_writeItem_27 28 rfl ?_
    refine fm_iload_n C dX0_writeItem_28 rfl 2 rfl 29 rfl ?_
    refine fm_iload_n C dX0_writeItem_29 rfl 3 rfl 30 rfl ?_
    by_cases b5 : x2 < 0 ∨ 8 ≤ x2.toNatClampNeg
    · rw [if_pos b5] at hf; cases hf
    rw [if_neg b5] at hf
    obtain ⟨m7, e6, hf⟩ := Option.bind_eq_some_iff.mp hf
    refine fm_iast C (t := bo k + 2 + x1.toNatClampNeg) (t0 := 0) (row_lt hk (in_lt b4)) (shC_row hk (in_lt b4)) rfl b5 dX0_writeItem_30 31 rfl m7 (Option.some.inj e6) ?_
    refine fm_aload_n C dX0_writeItem_31 rfl 0 rfl 32 rfl ?_
    refine fm_get C (t := lo k) (lo_lt hk) ((shC_lo hk) _) rfl inG_X0 6 (by decide) F_X0_30 rfl dX0_writeItem_32 35 rfl ?_
    refine fm_iload_n C dX0_writeItem_35 rfl 3 rfl 36 rfl ?_
    obtain ⟨q9, h8, hf⟩ := Option.bind_eq_some_iff.mp hf
    refine fm_callN C Y_X1_succeed (t := bo k + 16) (isO_lt (isO_now hk)) ((shC_O (isO_now hk)) _) rfl LN_X0_93 (As := [.int x3]) (rest := []) (c_X1_succeed (isO_now hk) h8) (by omega) (by omega) rfl (Nat.le_of_ble_eq_true rfl) dX0_writeItem_36 39 rfl [.int q9.1] rfl ?_
    by_cases r10 : q9.1 = 0 ∨ q9.1 = 1
    · rw [if_pos r10] at hf
      obtain rfl := Option.some.inj hf
      exact fm_zret C hr hk0 r10 dX0_writeItem_39
    · rw [if_neg r10] at hf; cases hf
  · rw [if_pos c3] at hf
    refine fm_aload_n C dX0_writeItem_12 rfl 0 rfl 13 rfl ?_
    refine fm_get C (t := lo k) (lo_lt hk) ((shC_lo hk) _) rfl inG_X0 6 (by decide) F_X0_30 rfl dX0_writeItem_13 16 rfl ?_
    refine fm_iconst C (x := 2) dX0_writeItem_16 (by decide) 17 rfl ?_
    refine fm_iconst C (x := 0) dX0_writeItem_17 (by decide) 18 rfl ?_
    obtain ⟨q12, h11, hf⟩ := Option.bind_eq_some_iff.mp hf
    refine fm_callN C Y_X1_fail (t := bo k + 16) (isO_lt (isO_now hk)) ((shC_O (isO_now hk)) _) rfl LN_X0_55 (As := [.int 2, .int 0]) (rest := []) (c_X1_fail (isO_now hk) h11) (by omega) (by omega) rfl (Nat.le_of_ble_eq_true rfl) dX0_writeItem_18 21 rfl [.int q12.1] rfl ?_
    by_cases r13 : q12.1 = 0 ∨ q12.1 = 1
    · rw [if_pos r13] at hf
      obtain rfl := Option.some.inj hf
      exact fm_zret C hr hk0 r13 dX0_writeItem_21
    · rw [if_neg r13] at hf; cases hf
end
