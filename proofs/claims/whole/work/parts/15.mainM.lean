section
variable {l : Launch} {D : va_G} {tA b : Nat} {A : Nat → Prop} {cI cII cLd cOc : ClassId}
def f_X5_runs_0 (u : Nat) : Nat → Int32 → fm_T → Option (Int32 × fm_T)
  | 0 => fun _ _ => none
  | n + 1 => fun x1 v => (if v 0 32 ≤ 0 then some (0, v) else (if (v 0 32) - 1 < 0 ∨ 200 ≤ ((v 0 32) - 1).toNatClampNeg then none else (if v 22 (((v 0 32) - 1).toNatClampNeg) = 0 then ((f_X5_needs x1 ((v 0 32) - 1) v).bind fun q7 => f_X5_runs_0 u n x1 q7.2) else ((f_X5_starts x1 ((v 0 32) - 1) v).bind fun q5 => f_X5_runs_0 u n x1 q5.2))))
theorem f_X5_runs_0_s (u : Nat) (n : Nat)  (x1 : Int32) (v : fm_T) : f_X5_runs_0 u (n + 1) x1 v = (if v 0 32 ≤ 0 then some (0, v) else (if (v 0 32) - 1 < 0 ∨ 200 ≤ ((v 0 32) - 1).toNatClampNeg then none else (if v 22 (((v 0 32) - 1).toNatClampNeg) = 0 then ((f_X5_needs x1 ((v 0 32) - 1) v).bind fun q7 => f_X5_runs_0 u n x1 q7.2) else ((f_X5_starts x1 ((v 0 32) - 1) v).bind fun q5 => f_X5_runs_0 u n x1 q5.2)))) := rfl
set_option maxHeartbeats 4000000 in
set_option maxRecDepth 20000 in
theorem b_X5_runs_0  (u : Nat)  {p : Program} {e : Env} {R : Room} {s : State} {m : MethodId} {args : Array Value} {below : List Frame} {meth : Method} {c : Code} (C : fm_C p s m args c cX5_runs RX5 3 D (fm_tys cI cII cLd cOc) tA b 29 A) (hr : meth.sig.returnType = none) (hk0 : meth.locks = false) (hF : 5 ≤ R.frames) (hLo : 40 * 5 ≤ R.locals) : ∀ (n : Nat) (x1 : Int32) (v : fm_T) {q : Int32 × fm_T}, f_X5_runs_0 u n x1 v = some q → fm_V p l e R s m args below meth c D b 29 (shM cI b) A (MQ below (fm_Q D b 29 (shM cI b) A none q.2) args s 0 0 A) 3 0 [(0, .ref (b + 0)), (1, .int x1)] [] v := by
  intro n
  induction n with
  | zero =>
    intro x1 v q hf
    cases (show (none : Option (Int32 × fm_T)) = some q from hf)
  | succ n ih =>
    intro x1 v q hf
    rw [f_X5_runs_0_s] at hf
    refine fm_aload_n C dX5_runs_0 rfl 0 rfl 1 rfl ?_
    refine fm_get C (t := 0) (by decide) (shM_0 _) rfl inG_X5 32 (by decide) F_X5_109 rfl dX5_runs_1 4 rfl ?_
    refine fm_if_le C 41 dX5_runs_4 (by decide) (fun c1 => ?_) 7 rfl (fun c1 => ?_)
    · rw [if_pos c1] at hf
      obtain rfl := Option.some.inj hf
      exact fm_vret C hr hk0 dX5_runs_41
    · rw [if_neg c1] at hf
      refine fm_aload_n C dX5_runs_7 rfl 0 rfl 8 rfl ?_
      refine fm_get C (t := 0) (by decide) (shM_0 _) rfl inG_X5 32 (by decide) F_X5_109 rfl dX5_runs_8 11 rfl ?_
      refine fm_iconst C (x := 1) dX5_runs_11 (by decide) 12 rfl ?_
      refine fm_isub C dX5_runs_12 13 rfl ?_
      refine fm_istore_n C [(2, .int ((v 0 32) - 1)), (0, .ref (b + 0)), (1, .int x1)] dX5_runs_13 rfl (by decide) rfl 14 rfl ?_
      refine fm_aload_n C dX5_runs_14 rfl 1 rfl 15 rfl ?_
      refine fm_get C (t := 0) (by decide) (shM_0 _) rfl inG_X5 28 (by decide) F_X5_73 rfl dX5_runs_15 18 rfl ?_
      refine fm_iload_n C dX5_runs_18 rfl 0 rfl 19 rfl ?_
      by_cases b2 : (v 0 32) - 1 < 0 ∨ 200 ≤ ((v 0 32) - 1).toNatClampNeg
      · rw [if_pos b2] at hf; cases hf
      rw [if_neg b2] at hf
      refine fm_iald C (t := 22) (t0 := 0) (by decide) (shM_22 _) rfl b2 dX5_runs_19 20 rfl ?_
      refine fm_if_ne C 32 dX5_runs_20 (by decide) (fun c3 => ?_) 23 rfl (fun c3 => ?_)
      · rw [if_neg c3] at hf
        refine fm_aload_n C dX5_runs_32 rfl 1 rfl 33 rfl ?_
        refine fm_iload_n C dX5_runs_33 rfl 2 rfl 34 rfl ?_
        refine fm_iload_n C dX5_runs_34 rfl 0 rfl 35 rfl ?_
        obtain ⟨q5, h4, hf⟩ := Option.bind_eq_some_iff.mp hf
        refine fm_callV C Y_X5_starts (t := 0) (by decide) (shM_0 _) rfl LM_X5_138 (As := [.int x1, .int ((v 0 32) - 1)]) (rest := []) (c_X5_starts  h4) (by omega) (by omega) rfl (Nat.le_of_ble_eq_true rfl) dX5_runs_35 38 rfl [] rfl ?_
        refine fm_goto C 0 dX5_runs_38 (by decide) ?_
        refine fm_lv [1, 2] [(0, .ref (b + 0)), (1, .int x1)] rfl ?_
        exact ih x1 q5.2 hf
      · rw [if_pos c3] at hf
        refine fm_aload_n C dX5_runs_23 rfl 1 rfl 24 rfl ?_
        refine fm_iload_n C dX5_runs_24 rfl 2 rfl 25 rfl ?_
        refine fm_iload_n C dX5_runs_25 rfl 0 rfl 26 rfl ?_
        obtain ⟨q7, h6, hf⟩ := Option.bind_eq_some_iff.mp hf
        refine fm_callV C Y_X5_needs (t := 0) (by decide) (shM_0 _) rfl LM_X5_134 (As := [.int x1, .int ((v 0 32) - 1)]) (rest := []) (c_X5_needs  h6) (by omega) (by omega) rfl (Nat.le_of_ble_eq_true rfl) dX5_runs_26 29 rfl [] rfl ?_
        refine fm_goto C 38 dX5_runs_29 (by decide) ?_
        refine fm_goto C 0 dX5_runs_38 (by decide) ?_
        refine fm_lv [1, 2] [(0, .ref (b + 0)), (1, .int x1)] rfl ?_
        exact ih x1 q7.2 hf
def f_X5_runs (u : Nat) (x1 : Int32) (v : fm_T) : Option (Int32 × fm_T) := f_X5_runs_0 u u x1 v
set_option maxHeartbeats 4000000 in
set_option maxRecDepth 20000 in
theorem c_X5_runs {x1 : Int32} (u : Nat)  {v : fm_T} {q : Int32 × fm_T} (hf : f_X5_runs u x1 v = some q) : fm_M l D (fm_tys cI cII cLd cOc) tA b 29 (shM cI b) A yX5_runs cX5_runs 3 none 5 [.ref (b + 0), .int x1] v none q.2 := by
  refine fm_entry (by decide) (Nat.le_of_ble_eq_true rfl) ?_
  intro p e R s m args below meth c C hr hk0 hF hLo
  unfold f_X5_runs at hf
  show fm_V p l e R s m args below meth c D b 29 (shM cI b) A _ 3 0 [(0, .ref (b + 0)), (1, .int x1)] [] v
  refine fm_lv [0, 1] [(0, .ref (b + 0)), (1, .int x1)] rfl ?_
  exact b_X5_runs_0 u  C hr hk0 hF hLo u x1 v hf
def f_X5_answers  (v : fm_T) : Option (Int32 × fm_T) := ((some (fm_u v 21 (((0 : Int32).toNatClampNeg)) (v 0 34)) : Option fm_T).bind fun m2 => (if m2 0 34 ≤ 0 then ((some (fm_u m2 21 (((1 : Int32).toNatClampNeg)) 0) : Option fm_T).bind fun m5 => (if m5 0 34 ≤ 0 then ((some (fm_u m5 21 (((2 : Int32).toNatClampNeg)) 0) : Option fm_T).bind fun m8 => (if m8 0 34 ≤ 0 then ((some (fm_u m8 21 (((3 : Int32).toNatClampNeg)) 0) : Option fm_T).bind fun m11 => (if m11 0 34 ≤ 0 then some (1, m11) else some (((-10)) - (m11 0 34), m11))) else ((some (fm_u m8 21 (((3 : Int32).toNatClampNeg)) (m8 0 37)) : Option fm_T).bind fun m14 => (if m14 0 34 ≤ 0 then some (1, m14) else some (((-10)) - (m14 0 34), m14))))) else ((some (fm_u m5 21 (((2 : Int32).toNatClampNeg)) (m5 0 36)) : Option fm_T).bind fun m17 => (if m17 0 34 ≤ 0 then ((some (fm_u m17 21 (((3 : Int32).toNatClampNeg)) 0) : Option fm_T).bind fun m20 => (if m20 0 34 ≤ 0 then some (1, m20) else some (((-10)) - (m20 0 34), m20))) else ((some (fm_u m17 21 (((3 : Int32).toNatClampNeg)) (m17 0 37)) : Option fm_T).bind fun m23 => (if m23 0 34 ≤ 0 then some (1, m23) else some (((-10)) - (m23 0 34), m23))))))) else ((some (fm_u m2 21 (((1 : Int32).toNatClampNeg)) (m2 0 35)) : Option fm_T).bind fun m26 => (if m26 0 34 ≤ 0 then ((some (fm_u m26 21 (((2 : Int32).toNatClampNeg)) 0) : Option fm_T).bind fun m29 => (if m29 0 34 ≤ 0 then ((some (fm_u m29 21 (((3 : Int32).toNatClampNeg)) 0) : Option fm_T).bind fun m32 => (if m32 0 34 ≤ 0 then some (1, m32) else some (((-10)) - (m32 0 34), m32))) else ((some (fm_u m29 21 (((3 : Int32).toNatClampNeg)) (m29 0 37)) : Option fm_T).bind fun m35 => (if m35 0 34 ≤ 0 then some (1, m35) else some (((-10)) - (m35 0 34), m35))))) else ((some (fm_u m26 21 (((2 : Int32).toNatClampNeg)) (m26 0 36)) : Option fm_T).bind fun m38 => (if m38 0 34 ≤ 0 then ((some (fm_u m38 21 (((3 : Int32).toNatClampNeg)) 0) : Option fm_T).bind fun m41 => (if m41 0 34 ≤ 0 then some (1, m41) else some (((-10)) - (m41 0 34), m41))) else ((some (fm_u m38 21 (((3 : Int32).toNatClampNeg)) (m38 0 37)) : Option fm_T).bind fun m44 => (if m44 0 34 ≤ 0 then some (1, m44) else some (((-10)) - (m44 0 34), m44)))))))))
set_option maxHeartbeats 4000000 in
set_option maxRecDepth 20000 in
theorem c_X5_answers   {v : fm_T} {q : Int32 × fm_T} (hf : f_X5_answers  v = some q) : fm_M l D (fm_tys cI cII cLd cOc) tA b 29 (shM cI b) A yX5_answers cX5_answers 1 (some .int) 0 [.ref (b + 0)] v (some (.int q.1)) q.2 := by
  refine fm_entry (by decide) (Nat.le_of_ble_eq_true rfl) ?_
  intro p e R s m args below meth c C hr hk0 hF hLo
  unfold f_X5_answers at hf
  show fm_V p l e R s m args below meth c D b 29 (shM cI b) A _ 1 0 [(0, .ref (b + 0))] [] v
  refine fm_aload_n C dX5_answers_0 rfl 0 rfl 1 rfl ?_
  refine fm_get C (t := 0) (by decide) (shM_0 _) rfl inG_X5 27 (by decide) F_X5_70 rfl dX5_answers_1 4 rfl ?_
  refine fm_iconst C (x := 0) dX5_answers_4 (by decide) 5 rfl ?_
  refine fm_aload_n C dX5_answers_5 rfl 0 rfl 6 rfl ?_
  refine fm_get C (t := 0) (by decide) (shM_0 _) rfl inG_X5 34 (by decide) F_X5_119 rfl dX5_answers_6 9 rfl ?_
  obtain ⟨m2, e1, hf⟩ := Option.bind_eq_some_iff.mp hf
  refine fm_iast C (t := 21) (t0 := 0) (by decide) shM_21 rfl (by decide) dX5_answers_9 10 rfl m2 (Option.some.inj e1) ?_
  refine fm_aload_n C dX5_answers_10 rfl 0 rfl 11 rfl ?_
  refine fm_get C (t := 0) (by decide) (shM_0 _) rfl inG_X5 27 (by decide) F_X5_70 rfl dX5_answers_11 14 rfl ?_
  refine fm_iconst C (x := 1) dX5_answers_14 (by decide) 15 rfl ?_
  refine fm_aload_n C dX5_answers_15 rfl 0 rfl 16 rfl ?_
  refine fm_get C (t := 0) (by decide) (shM_0 _) rfl inG_X5 34 (by decide) F_X5_119 rfl dX5_answers_16 19 rfl ?_
  refine fm_if_le C 29 dX5_answers_19 (by decide) (fun c3 => ?_) 22 rfl (fun c3 => ?_)
  · rw [if_pos c3] at hf
    refine fm_iconst C (x := 0) dX5_answers_29 (by decide) 30 rfl ?_
    obtain ⟨m5, e4, hf⟩ := Option.bind_eq_some_iff.mp hf
    refine fm_iast C (t := 21) (t0 := 0) (by decide) shM_21 rfl (by decide) dX5_answers_30 31 rfl m5 (Option.some.inj e4) ?_
    refine fm_aload_n C dX5_answers_31 rfl 0 rfl 32 rfl ?_
    refine fm_get C (t := 0) (by decide) (shM_0 _) rfl inG_X5 27 (by decide) F_X5_70 rfl dX5_answers_32 35 rfl ?_
    refine fm_iconst C (x := 2) dX5_answers_35 (by decide) 36 rfl ?_
    refine fm_aload_n C dX5_answers_36 rfl 0 rfl 37 rfl ?_
    refine fm_get C (t := 0) (by decide) (shM_0 _) rfl inG_X5 34 (by decide) F_X5_119 rfl dX5_answers_37 40 rfl ?_
    refine fm_if_le C 50 dX5_answers_40 (by decide) (fun c6 => ?_) 43 rfl (fun c6 => ?_)
    · rw [if_pos c6] at hf
      refine fm_iconst C (x := 0) dX5_answers_50 (by decide) 51 rfl ?_
      obtain ⟨m8, e7, hf⟩ := Option.bind_eq_some_iff.mp hf
      refine fm_iast C (t := 21) (t0 := 0) (by decide) shM_21 rfl (by decide) dX5_answers_51 52 rfl m8 (Option.some.inj e7) ?_
      refine fm_aload_n C dX5_answers_52 rfl 0 rfl 53 rfl ?_
      refine fm_get C (t := 0) (by decide) (shM_0 _) rfl inG_X5 27 (by decide) F_X5_70 rfl dX5_answers_53 56 rfl ?_
      refine fm_iconst C (x := 3) dX5_answers_56 (by decide) 57 rfl ?_
      refine fm_aload_n C dX5_answers_57 rfl 0 rfl 58 rfl ?_
      refine fm_get C (t := 0) (by decide) (shM_0 _) rfl inG_X5 34 (by decide) F_X5_119 rfl dX5_answers_58 61 rfl ?_
      refine fm_if_le C 71 dX5_answers_61 (by decide) (fun c9 => ?_) 64 rfl (fun c9 => ?_)
      · rw [if_pos c9] at hf
        refine fm_iconst C (x := 0) dX5_answers_71 (by decide) 72 rfl ?_
        obtain ⟨m11, e10, hf⟩ := Option.bind_eq_some_iff.mp hf
        refine fm_iast C (t := 21) (t0 := 0) (by decide) shM_21 rfl (by decide) dX5_answers_72 73 rfl m11 (Option.some.inj e10) ?_
        refine fm_aload_n C dX5_answers_73 rfl 0 rfl 74 rfl ?_
        refine fm_get C (t := 0) (by decide) (shM_0 _) rfl inG_X5 34 (by decide) F_X5_119 rfl dX5_answers_74 77 rfl ?_
        refine fm_if_le C 90 dX5_answers_77 (by decide) (fun c12 => ?_) 80 rfl (fun c12 => ?_)
        · rw [if_pos c12] at hf
          refine fm_iconst C (x := 1) dX5_answers_90 (by decide) 91 rfl ?_
          obtain rfl := Option.some.inj hf
          exact fm_iret C hr hk0 dX5_answers_91
        · rw [if_neg c12] at hf
          refine fm_bipush C (x := -10) dX5_answers_80 (by decide) 82 rfl ?_
          refine fm_aload_n C dX5_answers_82 rfl 0 rfl 83 rfl ?_
          refine fm_get C (t := 0) (by decide) (shM_0 _) rfl inG_X5 34 (by decide) F_X5_119 rfl dX5_answers_83 86 rfl ?_
          refine fm_isub C dX5_answers_86 87 rfl ?_
          refine fm_goto C 91 dX5_answers_87 (by decide) ?_
          obtain rfl := Option.some.inj hf
          exact fm_iret C hr hk0 dX5_answers_91
      · rw [if_neg c9] at hf
        refine fm_aload_n C dX5_answers_64 rfl 0 rfl 65 rfl ?_
        refine fm_get C (t := 0) (by decide) (shM_0 _) rfl inG_X5 37 (by decide) F_X5_128 rfl dX5_answers_65 68 rfl ?_
        refine fm_goto C 72 dX5_answers_68 (by decide) ?_
        obtain ⟨m14, e13, hf⟩ := Option.bind_eq_some_iff.mp hf
        refine fm_iast C (t := 21) (t0 := 0) (by decide) shM_21 rfl (by decide) dX5_answers_72 73 rfl m14 (Option.some.inj e13) ?_
        refine fm_aload_n C dX5_answers_73 rfl 0 rfl 74 rfl ?_
        refine fm_get C (t := 0) (by decide) (shM_0 _) rfl inG_X5 34 (by decide) F_X5_119 rfl dX5_answers_74 77 rfl ?_
        refine fm_if_le C 90 dX5_answers_77 (by decide) (fun c15 => ?_) 80 rfl (fun c15 => ?_)
        · rw [if_pos c15] at hf
          refine fm_iconst C (x := 1) dX5_answers_90 (by decide) 91 rfl ?_
          obtain rfl := Option.some.inj hf
          exact fm_iret C hr hk0 dX5_answers_91
        · rw [if_neg c15] at hf
          refine fm_bipush C (x := -10) dX5_answers_80 (by decide) 82 rfl ?_
          refine fm_aload_n C dX5_answers_82 rfl 0 rfl 83 rfl ?_
          refine fm_get C (t := 0) (by decide) (shM_0 _) rfl inG_X5 34 (by decide) F_X5_119 rfl dX5_answers_83 86 rfl ?_
          refine fm_isub C dX5_answers_86 87 rfl ?_
          refine fm_goto C 91 dX5_answers_87 (by decide) ?_
          obtain rfl := Option.some.inj hf
          exact fm_iret C hr hk0 dX5_answers_91
    · rw [if_neg c6] at hf
      refine fm_aload_n C dX5_answers_43 rfl 0 rfl 44 rfl ?_
      refine fm_get C (t := 0) (by decide) (shM_0 _) rfl inG_X5 36 (by decide) F_X5_125 rfl dX5_answers_44 47 rfl ?_
      refine fm_goto C 51 dX5_answers_47 (by decide) ?_
      obtain ⟨m17, e16, hf⟩ := Option.bind_eq_some_iff.mp hf
      refine fm_iast C (t := 21) (t0 := 0) (by decide) shM_21 rfl (by decide) dX5_answers_51 52 rfl m17 (Option.some.inj e16) ?_
      refine fm_aload_n C dX5_answers_52 rfl 0 rfl 53 rfl ?_
      refine fm_get C (t := 0) (by decide) (shM_0 _) rfl inG_X5 27 (by decide) F_X5_70 rfl dX5_answers_53 56 rfl ?_
      refine fm_iconst C (x := 3) dX5_answers_56 (by decide) 57 rfl ?_
      refine fm_aload_n C dX5_answers_57 rfl 0 rfl 58 rfl ?_
      refine fm_get C (t := 0) (by decide) (shM_0 _) rfl inG_X5 34 (by decide) F_X5_119 rfl dX5_answers_58 61 rfl ?_
      refine fm_if_le C 71 dX5_answers_61 (by decide) (fun c18 => ?_) 64 rfl (fun c18 => ?_)
      · rw [if_pos c18] at hf
        refine fm_iconst C (x := 0) dX5_answers_71 (by decide) 72 rfl ?_
        obtain ⟨m20, e19, hf⟩ := Option.bind_eq_some_iff.mp hf
        refine fm_iast C (t := 21) (t0 := 0) (by decide) shM_21 rfl (by decide) dX5_answers_72 73 rfl m20 (Option.some.inj e19) ?_
        refine fm_aload_n C dX5_answers_73 rfl 0 rfl 74 rfl ?_
        refine fm_get C (t := 0) (by decide) (shM_0 _) rfl inG_X5 34 (by decide) F_X5_119 rfl dX5_answers_74 77 rfl ?_
        refine fm_if_le C 90 dX5_answers_77 (by decide) (fun c21 => ?_) 80 rfl (fun c21 => ?_)
        · rw [if_pos c21] at hf
          refine fm_iconst C (x := 1) dX5_answers_90 (by decide) 91 rfl ?_
          obtain rfl := Option.some.inj hf
          exact fm_iret C hr hk0 dX5_answers_91
        · rw [if_neg c21] at hf
          refine fm_bipush C (x := -10) dX5_answers_80 (by decide) 82 rfl ?_
          refine fm_aload_n C dX5_answers_82 rfl 0 rfl 83 rfl ?_
          refine fm_get C (t := 0) (by decide) (shM_0 _) rfl inG_X5 34 (by decide) F_X5_119 rfl dX5_answers_83 86 rfl ?_
          refine fm_isub C dX5_answers_86 87 rfl ?_
          refine fm_goto C 91 dX5_answers_87 (by decide) ?_
          obtain rfl := Option.some.inj hf
          exact fm_iret C hr hk0 dX5_answers_91
      · rw [if_neg c18] at hf
        refine fm_aload_n C dX5_answers_64 rfl 0 rfl 65 rfl ?_
        refine fm_get C (t := 0) (by decide) (shM_0 _) rfl inG_X5 37 (by decide) F_X5_128 rfl dX5_answers_65 68 rfl ?_
        refine fm_goto C 72 dX5_answers_68 (by decide) ?_
        obtain ⟨m23, e22, hf⟩ := Option.bind_eq_some_iff.mp hf
        refine fm_iast C (t := 21) (t0 := 0) (by decide) shM_21 rfl (by decide) dX5_answers_72 73 rfl m23 (Option.some.inj e22) ?_
        refine fm_aload_n C dX5_answers_73 rfl 0 rfl 74 rfl ?_
        refine fm_get C (t := 0) (by decide) (shM_0 _) rfl inG_X5 34 (by decide) F_X5_119 rfl dX5_answers_74 77 rfl ?_
        refine fm_if_le C 90 dX5_answers_77 (by decide) (fun c24 => ?_) 80 rfl (fun c24 => ?_)
        · rw [if_pos c24] at hf
          refine fm_iconst C (x := 1) dX5_answers_90 (by decide) 91 rfl ?_
          obtain rfl := Option.some.inj hf
          exact fm_iret C hr hk0 dX5_answers_91
        · rw [if_neg c24] at hf
          refine fm_bipush C (x := -10) dX5_answers_80 (by decide) 82 rfl ?_
          refine fm_aload_n C dX5_answers_82 rfl 0 rfl 83 rfl ?_
          refine fm_get C (t := 0) (by decide) (shM_0 _) rfl inG_X5 34 (by decide) F_X5_119 rfl dX5_answers_83 86 rfl ?_
          refine fm_isub C dX5_answers_86 87 rfl ?_
          refine fm_goto C 91 dX5_answers_87 (by decide) ?_
          obtain rfl := Option.some.inj hf
          exact fm_iret C hr hk0 dX5_answers_91
  · rw [if_neg c3] at hf
    refine fm_aload_n C dX5_answers_22 rfl 0 rfl 23 rfl ?_
    refine fm_get C (t := 0) (by decide) (shM_0 _) rfl inG_X5 35 (by decide) F_X5_122 rfl dX5_answers_23 26 rfl ?_
    refine fm_goto C 30 dX5_answers_26 (by decide) ?_
    obtain ⟨m26, e25, hf⟩ := Option.bind_eq_some_iff.mp hf
    refine fm_iast C (t := 21) (t0 := 0) (by decide) shM_21 rfl (by decide) dX5_answers_30 31 rfl m26 (Option.some.inj e25) ?_
    refine fm_aload_n C dX5_answers_31 rfl 0 rfl 32 rfl ?_
    refine fm_get C (t := 0) (by decide) (shM_0 _) rfl inG_X5 27 (by decide) F_X5_70 rfl dX5_answers_32 35 rfl ?_
    refine fm_iconst C (x := 2) dX5_answers_35 (by decide) 36 rfl ?_
    refine fm_aload_n C dX5_answers_36 rfl 0 rfl 37 rfl ?_
    refine fm_get C (t := 0) (by decide) (shM_0 _) rfl inG_X5 34 (by decide) F_X5_119 rfl dX5_answers_37 40 rfl ?_
    refine fm_if_le C 50 dX5_answers_40 (by decide) (fun c27 => ?_) 43 rfl (fun c27 => ?_)
    · rw [if_pos c27] at hf
      refine fm_iconst C (x := 0) dX5_answers_50 (by decide) 51 rfl ?_
      obtain ⟨m29, e28, hf⟩ := Option.bind_eq_some_iff.mp hf
      refine fm_iast C (t := 21) (t0 := 0) (by decide) shM_21 rfl (by decide) dX5_answers_51 52 rfl m29 (Option.some.inj e28) ?_
      refine fm_aload_n C dX5_answers_52 rfl 0 rfl 53 rfl ?_
      refine fm_get C (t := 0) (by decide) (shM_0 _) rfl inG_X5 27 (by decide) F_X5_70 rfl dX5_answers_53 56 rfl ?_
      refine fm_iconst C (x := 3) dX5_answers_56 (by decide) 57 rfl ?_
      refine fm_aload_n C dX5_answers_57 rfl 0 rfl 58 rfl ?_
      refine fm_get C (t := 0) (by decide) (shM_0 _) rfl inG_X5 34 (by decide) F_X5_119 rfl dX5_answers_58 61 rfl ?_
      refine fm_if_le C 71 dX5_answers_61 (by decide) (fun c30 => ?_) 64 rfl (fun c30 => ?_)
      · rw [if_pos c30] at hf
        refine fm_iconst C (x := 0) dX5_answers_71 (by decide) 72 rfl ?_
        obtain ⟨m32, e31, hf⟩ := Option.bind_eq_some_iff.mp hf
        refine fm_iast C (t := 21) (t0 := 0) (by decide) shM_21 rfl (by decide) dX5_answers_72 73 rfl m32 (Option.some.inj e31) ?_
        refine fm_aload_n C dX5_answers_73 rfl 0 rfl 74 rfl ?_
        refine fm_get C (t := 0) (by decide) (shM_0 _) rfl inG_X5 34 (by decide) F_X5_119 rfl dX5_answers_74 77 rfl ?_
        refine fm_if_le C 90 dX5_answers_77 (by decide) (fun c33 => ?_) 80 rfl (fun c33 => ?_)
        · rw [if_pos c33] at hf
          refine fm_iconst C (x := 1) dX5_answers_90 (by decide) 91 rfl ?_
          obtain rfl := Option.some.inj hf
          exact fm_iret C hr hk0 dX5_answers_91
        · rw [if_neg c33] at hf
          refine fm_bipush C (x := -10) dX5_answers_80 (by decide) 82 rfl ?_
          refine fm_aload_n C dX5_answers_82 rfl 0 rfl 83 rfl ?_
          refine fm_get C (t := 0) (by decide) (shM_0 _) rfl inG_X5 34 (by decide) F_X5_119 rfl dX5_answers_83 86 rfl ?_
          refine fm_isub C dX5_answers_86 87 rfl ?_
          refine fm_goto C 91 dX5_answers_87 (by decide) ?_
          obtain rfl := Option.some.inj hf
          exact fm_iret C hr hk0 dX5_answers_91
      · rw [if_neg c30] at hf
        refine fm_aload_n C dX5_answers_64 rfl 0 rfl 65 rfl ?_
        refine fm_get C (t := 0) (by decide) (shM_0 _) rfl inG_X5 37 (by decide) F_X5_128 rfl dX5_answers_65 68 rfl ?_
        refine fm_goto C 72 dX5_answers_68 (by decide) ?_
        obtain ⟨m35, e34, hf⟩ := Option.bind_eq_some_iff.mp hf
        refine fm_iast C (t := 21) (t0 := 0) (by decide) shM_21 rfl (by decide) dX5_answers_72 73 rfl m35 (Option.some.inj e34) ?_
        refine fm_aload_n C dX5_answers_73 rfl 0 rfl 74 rfl ?_
        refine fm_get C (t := 0) (by decide) (shM_0 _) rfl inG_X5 34 (by decide) F_X5_119 rfl dX5_answers_74 77 rfl ?_
        refine fm_if_le C 90 dX5_answers_77 (by decide) (fun c36 => ?_) 80 rfl (fun c36 => ?_)
        · rw [if_pos c36] at hf
          refine fm_iconst C (x := 1) dX5_answers_90 (by decide) 91 rfl ?_
          obtain rfl := Option.some.inj hf
          exact fm_iret C hr hk0 dX5_answers_91
        · rw [if_neg c36] at hf
          refine fm_bipush C (x := -10) dX5_answers_80 (by decide) 82 rfl ?_
          refine fm_aload_n C dX5_answers_82 rfl 0 rfl 83 rfl ?_
          refine fm_get C (t := 0) (by decide) (shM_0 _) rfl inG_X5 34 (by decide) F_X5_119 rfl dX5_answers_83 86 rfl ?_
          refine fm_isub C dX5_answers_86 87 rfl ?_
          refine fm_goto C 91 dX5_answers_87 (by decide) ?_
          obtain rfl := Option.some.inj hf
          exact fm_iret C hr hk0 dX5_answers_91
    · rw [if_neg c27] at hf
      refine fm_aload_n C dX5_answers_43 rfl 0 rfl 44 rfl ?_
      refine fm_get C (t := 0) (by decide) (shM_0 _) rfl inG_X5 36 (by decide) F_X5_125 rfl dX5_answers_44 47 rfl ?_
      refine fm_goto C 51 dX5_answers_47 (by decide) ?_
      obtain ⟨m38, e37, hf⟩ := Option.bind_eq_some_iff.mp hf
      refine fm_iast C (t := 21) (t0 := 0) (by decide) shM_21 rfl (by decide) dX5_answers_51 52 rfl m38 (Option.some.inj e37) ?_
      refine fm_aload_n C dX5_answers_52 rfl 0 rfl 53 rfl ?_
      refine fm_get C (t := 0) (by decide) (shM_0 _) rfl inG_X5 27 (by decide) F_X5_70 rfl dX5_answers_53 56 rfl ?_
      refine fm_iconst C (x := 3) dX5_answers_56 (by decide) 57 rfl ?_
      refine fm_aload_n C dX5_answers_57 rfl 0 rfl 58 rfl ?_
      refine fm_get C (t := 0) (by decide) (shM_0 _) rfl inG_X5 34 (by decide) F_X5_119 rfl dX5_answers_58 61 rfl ?_
      refine fm_if_le C 71 dX5_answers_61 (by decide) (fun c39 => ?_) 64 rfl (fun c39 => ?_)
      · rw [if_pos c39] at hf
        refine fm_iconst C (x := 0) dX5_answers_71 (by decide) 72 rfl ?_
        obtain ⟨m41, e40, hf⟩ := Option.bind_eq_some_iff.mp hf
        refine fm_iast C (t := 21) (t0 := 0) (by decide) shM_21 rfl (by decide) dX5_answers_72 73 rfl m41 (Option.some.inj e40) ?_
        refine fm_aload_n C dX5_answers_73 rfl 0 rfl 74 rfl ?_
        refine fm_get C (t := 0) (by decide) (shM_0 _) rfl inG_X5 34 (by decide) F_X5_119 rfl dX5_answers_74 77 rfl ?_
        refine fm_if_le C 90 dX5_answers_77 (by decide) (fun c42 => ?_) 80 rfl (fun c42 => ?_)
        · rw [if_pos c42] at hf
          refine fm_iconst C (x := 1) dX5_answers_90 (by decide) 91 rfl ?_
          obtain rfl := Option.some.inj hf
          exact fm_iret C hr hk0 dX5_answers_91
        · rw [if_neg c42] at hf
          refine fm_bipush C (x := -10) dX5_answers_80 (by decide) 82 rfl ?_
          refine fm_aload_n C dX5_answers_82 rfl 0 rfl 83 rfl ?_
          refine fm_get C (t := 0) (by decide) (shM_0 _) rfl inG_X5 34 (by decide) F_X5_119 rfl dX5_answers_83 86 rfl ?_
          refine fm_isub C dX5_answers_86 87 rfl ?_
          refine fm_goto C 91 dX5_answers_87 (by decide) ?_
          obtain rfl := Option.some.inj hf
          exact fm_iret C hr hk0 dX5_answers_91
      · rw [if_neg c39] at hf
        refine fm_aload_n C dX5_answers_64 rfl 0 rfl 65 rfl ?_
        refine fm_get C (t := 0) (by decide) (shM_0 _) rfl inG_X5 37 (by decide) F_X5_128 rfl dX5_answers_65 68 rfl ?_
        refine fm_goto C 72 dX5_answers_68 (by decide) ?_
        obtain ⟨m44, e43, hf⟩ := Option.bind_eq_some_iff.mp hf
        refine fm_iast C (t := 21) (t0 := 0) (by decide) shM_21 rfl (by decide) dX5_answers_72 73 rfl m44 (Option.some.inj e43) ?_
        refine fm_aload_n C dX5_answers_73 rfl 0 rfl 74 rfl ?_
        refine fm_get C (t := 0) (by decide) (shM_0 _) rfl inG_X5 34 (by decide) F_X5_119 rfl dX5_answers_74 77 rfl ?_
        refine fm_if_le C 90 dX5_answers_77 (by decide) (fun c45 => ?_) 80 rfl (fun c45 => ?_)
        · rw [if_pos c45] at hf
          refine fm_iconst C (x := 1) dX5_answers_90 (by decide) 91 rfl ?_
          obtain rfl := Option.some.inj hf
          exact fm_iret C hr hk0 dX5_answers_91
        · rw [if_neg c45] at hf
          refine fm_bipush C (x := -10) dX5_answers_80 (by decide) 82 rfl ?_
          refine fm_aload_n C dX5_answers_82 rfl 0 rfl 83 rfl ?_
          refine fm_get C (t := 0) (by decide) (shM_0 _) rfl inG_X5 34 (by decide) F_X5_119 rfl dX5_answers_83 86 rfl ?_
          refine fm_isub C dX5_answers_86 87 rfl ?_
          refine fm_goto C 91 dX5_answers_87 (by decide) ?_
          obtain rfl := Option.some.inj hf
          exact fm_iret C hr hk0 dX5_answers_91
def f_X5_need (u : Nat) (x1 : Int32) (x2 : Int32) (v : fm_T) : Option (Int32 × fm_T) := ((f_X5_isLoader x1 v).bind fun q2 => (if q2.1 = 0 then some ((-1), q2.2) else ((f_X5_in x2 0 ((q2.2 0 8) - 1) q2.2).bind fun q5 => (if q5.1 = 0 then some ((-1), q5.2) else ((some (fm_u q5.2 0 22 0) : Option fm_T).bind fun m8 => ((some (fm_u m8 0 23 1) : Option fm_T).bind fun m10 => ((f_X5_push 0 x2 m10).bind fun q12 => ((f_X5_runs u x1 q12.2).bind fun q14 => (if q14.2 0 34 ≤ 0 then ((some (fm_u q14.2 0 26 (q14.2 0 33)) : Option fm_T).bind fun m17 => ((f_X5_answers  m17).bind fun q19 => some (q19.1, q19.2))) else ((some (fm_u q14.2 0 26 (q14.2 0 26)) : Option fm_T).bind fun m21 => ((f_X5_answers  m21).bind fun q23 => some (q23.1, q23.2))))))))))))
set_option maxHeartbeats 4000000 in
set_option maxRecDepth 20000 in
theorem c_X5_need {x1 : Int32} {x2 : Int32} (u : Nat)  {v : fm_T} {q : Int32 × fm_T} (hf : f_X5_need u x1 x2 v = some q) : fm_M l D (fm_tys cI cII cLd cOc) tA b 29 (shM cI b) A yX5_need cX5_need 3 (some .int) 6 [.ref (b + 0), .int x1, .int x2] v (some (.int q.1)) q.2 := by
  refine fm_entry (by decide) (Nat.le_of_ble_eq_true rfl) ?_
  intro p e R s m args below meth c C hr hk0 hF hLo
  unfold f_X5_need at hf
  show fm_V p l e R s m args below meth c D b 29 (shM cI b) A _ 3 0 [(0, .ref (b + 0)), (1, .int x1), (2, .int x2)] [] v
  refine fm_iload_n C dX5_need_0 rfl 1 rfl 1 rfl ?_
  obtain ⟨q2, h1, hf⟩ := Option.bind_eq_some_iff.mp hf
  refine fm_callS C Y_X5_isLoader LS_X5_179 (As := [.int x1]) (rest := []) (c_X5_isLoader  h1) (by omega) (by omega) rfl (Nat.le_of_ble_eq_true rfl) dX5_need_1 4 rfl [.int q2.1] rfl ?_
  refine fm_if_eq C 21 dX5_need_4 (by decide) (fun c3 => ?_) 7 rfl (fun c3 => ?_)
  · rw [if_pos c3] at hf
    refine fm_iconst C (x := -1) dX5_need_21 (by decide) 22 rfl ?_
    obtain rfl := Option.some.inj hf
    exact fm_iret C hr hk0 dX5_need_22
  · rw [if_neg c3] at hf
    refine fm_iload_n C dX5_need_7 rfl 2 rfl 8 rfl ?_
    refine fm_iconst C (x := 0) dX5_need_8 (by decide) 9 rfl ?_
    refine fm_aload_n C dX5_need_9 rfl 0 rfl 10 rfl ?_
    refine fm_get C (t := 0) (by decide) (shM_0 _) rfl inG_X5 8 (by decide) F_X5_106 rfl dX5_need_10 13 rfl ?_
    refine fm_iconst C (x := 1) dX5_need_13 (by decide) 14 rfl ?_
    refine fm_isub C dX5_need_14 15 rfl ?_
    obtain ⟨q5, h4, hf⟩ := Option.bind_eq_some_iff.mp hf
    refine fm_callS C Y_X5_in LS_X5_98 (As := [.int x2, .int 0, .int ((q2.2 0 8) - 1)]) (rest := []) (c_X5_in  h4) (by omega) (by omega) rfl (Nat.le_of_ble_eq_true rfl) dX5_need_15 18 rfl [.int q5.1] rfl ?_
    refine fm_if_ne C 23 dX5_need_18 (by decide) (fun c6 => ?_) 21 rfl (fun c6 => ?_)
    · rw [if_neg c6] at hf
      refine fm_aload_n C dX5_need_23 rfl 0 rfl 24 rfl ?_
      refine fm_iconst C (x := 0) dX5_need_24 (by decide) 25 rfl ?_
      obtain ⟨m8, e7, hf⟩ := Option.bind_eq_some_iff.mp hf
      refine fm_put C (t := 0) (by decide) (shM_0 _) rfl inG_X5 22 (by decide) F_X5_116 tyX5 tyX5_ok nmX5 rfl (ty := .int) (by decide +kernel) rfl rfl (Nat.le_of_ble_eq_true rfl) ((shM_0 _).trans rfl) dX5_need_25 28 rfl m8 (Option.some.inj e7) ?_
      refine fm_aload_n C dX5_need_28 rfl 0 rfl 29 rfl ?_
      refine fm_iconst C (x := 1) dX5_need_29 (by decide) 30 rfl ?_
      obtain ⟨m10, e9, hf⟩ := Option.bind_eq_some_iff.mp hf
      refine fm_put C (t := 0) (by decide) (shM_0 _) rfl inG_X5 23 (by decide) F_X5_112 tyX5 tyX5_ok nmX5 rfl (ty := .boolean) (by decide +kernel) rfl rfl (Nat.le_of_ble_eq_true rfl) ((shM_0 _).trans rfl) dX5_need_30 33 rfl m10 (Option.some.inj e9) ?_
      refine fm_aload_n C dX5_need_33 rfl 0 rfl 34 rfl ?_
      refine fm_iconst C (x := 0) dX5_need_34 (by decide) 35 rfl ?_
      refine fm_iload_n C dX5_need_35 rfl 2 rfl 36 rfl ?_
      obtain ⟨q12, h11, hf⟩ := Option.bind_eq_some_iff.mp hf
      refine fm_callV C Y_X5_push (t := 0) (by decide) (shM_0 _) rfl LM_X5_144 (As := [.int 0, .int x2]) (rest := []) (c_X5_push  h11) (by omega) (by omega) rfl (Nat.le_of_ble_eq_true rfl) dX5_need_36 39 rfl [] rfl ?_
      refine fm_aload_n C dX5_need_39 rfl 0 rfl 40 rfl ?_
      refine fm_iload_n C dX5_need_40 rfl 1 rfl 41 rfl ?_
      obtain ⟨q14, h13, hf⟩ := Option.bind_eq_some_iff.mp hf
      refine fm_callV C Y_X5_runs (t := 0) (by decide) (shM_0 _) rfl LM_X5_182 (As := [.int x1]) (rest := []) (c_X5_runs u  h13) (by omega) (by omega) rfl (Nat.le_of_ble_eq_true rfl) dX5_need_41 44 rfl [] rfl ?_
      refine fm_aload_n C dX5_need_44 rfl 0 rfl 45 rfl ?_
      refine fm_aload_n C dX5_need_45 rfl 0 rfl 46 rfl ?_
      refine fm_get C (t := 0) (by decide) (shM_0 _) rfl inG_X5 34 (by decide) F_X5_119 rfl dX5_need_46 49 rfl ?_
      refine fm_if_le C 59 dX5_need_49 (by decide) (fun c15 => ?_) 52 rfl (fun c15 => ?_)
      · rw [if_pos c15] at hf
        refine fm_aload_n C dX5_need_59 rfl 0 rfl 60 rfl ?_
        refine fm_get C (t := 0) (by decide) (shM_0 _) rfl inG_X5 33 (by decide) F_X5_131 rfl dX5_need_60 63 rfl ?_
        obtain ⟨m17, e16, hf⟩ := Option.bind_eq_some_iff.mp hf
        refine fm_put C (t := 0) (by decide) (shM_0 _) rfl inG_X5 26 (by decide) F_X5_185 tyX5 tyX5_ok nmX5 rfl (ty := .int) (by decide +kernel) rfl rfl (Nat.le_of_ble_eq_true rfl) ((shM_0 _).trans rfl) dX5_need_63 66 rfl m17 (Option.some.inj e16) ?_
        refine fm_aload_n C dX5_need_66 rfl 0 rfl 67 rfl ?_
        obtain ⟨q19, h18, hf⟩ := Option.bind_eq_some_iff.mp hf
        refine fm_callV C Y_X5_answers (t := 0) (by decide) (shM_0 _) rfl LM_X5_188 (As := []) (rest := []) (c_X5_answers  h18) (by omega) (by omega) rfl (Nat.le_of_ble_eq_true rfl) dX5_need_67 70 rfl [.int q19.1] rfl ?_
        obtain rfl := Option.some.inj hf
        exact fm_iret C hr hk0 dX5_need_70
      · rw [if_neg c15] at hf
        refine fm_aload_n C dX5_need_52 rfl 0 rfl 53 rfl ?_
        refine fm_get C (t := 0) (by decide) (shM_0 _) rfl inG_X5 26 (by decide) F_X5_185 rfl dX5_need_53 56 rfl ?_
        refine fm_goto C 63 dX5_need_56 (by decide) ?_
        obtain ⟨m21, e20, hf⟩ := Option.bind_eq_some_iff.mp hf
        refine fm_put C (t := 0) (by decide) (shM_0 _) rfl inG_X5 26 (by decide) F_X5_185 tyX5 tyX5_ok nmX5 rfl (ty := .int) (by decide +kernel) rfl rfl (Nat.le_of_ble_eq_true rfl) ((shM_0 _).trans rfl) dX5_need_63 66 rfl m21 (Option.some.inj e20) ?_
        refine fm_aload_n C dX5_need_66 rfl 0 rfl 67 rfl ?_
        obtain ⟨q23, h22, hf⟩ := Option.bind_eq_some_iff.mp hf
        refine fm_callV C Y_X5_answers (t := 0) (by decide) (shM_0 _) rfl LM_X5_188 (As := []) (rest := []) (c_X5_answers  h22) (by omega) (by omega) rfl (Nat.le_of_ble_eq_true rfl) dX5_need_67 70 rfl [.int q23.1] rfl ?_
        obtain rfl := Option.some.inj hf
        exact fm_iret C hr hk0 dX5_need_70
    · rw [if_pos c6] at hf
      refine fm_iconst C (x := -1) dX5_need_21 (by decide) 22 rfl ?_
      obtain rfl := Option.some.inj hf
      exact fm_iret C hr hk0 dX5_need_22
def f_X5_value  (v : fm_T) : Option (Int32 × fm_T) := some (v 0 26, v)
set_option maxHeartbeats 4000000 in
set_option maxRecDepth 20000 in
theorem c_X5_value   {v : fm_T} {q : Int32 × fm_T} (hf : f_X5_value  v = some q) : fm_M l D (fm_tys cI cII cLd cOc) tA b 29 (shM cI b) A yX5_value cX5_value 1 (some .int) 0 [.ref (b + 0)] v (some (.int q.1)) q.2 := by
  refine fm_entry (by decide) (Nat.le_of_ble_eq_true rfl) ?_
  intro p e R s m args below meth c C hr hk0 hF hLo
  unfold f_X5_value at hf
  show fm_V p l e R s m args below meth c D b 29 (shM cI b) A _ 1 0 [(0, .ref (b + 0))] [] v
  refine fm_aload_n C dX5_value_0 rfl 0 rfl 1 rfl ?_
  refine fm_get C (t := 0) (by decide) (shM_0 _) rfl inG_X5 26 (by decide) F_X5_185 rfl dX5_value_1 4 rfl ?_
  obtain rfl := Option.some.inj hf
  exact fm_iret C hr hk0 dX5_value_4
def f_X5_start (u : Nat) (x1 : Int32) (x2 : Int32) (v : fm_T) : Option (Int32 × fm_T) := ((f_X5_isLoader x1 v).bind fun q2 => (if q2.1 = 0 then some ((-1), q2.2) else ((f_X5_isModule x2 q2.2).bind fun q5 => (if q5.1 = 0 then some ((-1), q5.2) else ((some (fm_u q5.2 0 22 0) : Option fm_T).bind fun m8 => ((some (fm_u m8 0 23 1) : Option fm_T).bind fun m10 => ((f_X5_push 1 x2 m10).bind fun q12 => ((f_X5_runs u x1 q12.2).bind fun q14 => ((f_X5_answers  q14.2).bind fun q16 => some (q16.1, q16.2))))))))))
set_option maxHeartbeats 4000000 in
set_option maxRecDepth 20000 in
theorem c_X5_start {x1 : Int32} {x2 : Int32} (u : Nat)  {v : fm_T} {q : Int32 × fm_T} (hf : f_X5_start u x1 x2 v = some q) : fm_M l D (fm_tys cI cII cLd cOc) tA b 29 (shM cI b) A yX5_start cX5_start 3 (some .int) 6 [.ref (b + 0), .int x1, .int x2] v (some (.int q.1)) q.2 := by
  refine fm_entry (by decide) (Nat.le_of_ble_eq_true rfl) ?_
  intro p e R s m args below meth c C hr hk0 hF hLo
  unfold f_X5_start at hf
  show fm_V p l e R s m args below meth c D b 29 (shM cI b) A _ 3 0 [(0, .ref (b + 0)), (1, .int x1), (2, .int x2)] [] v
  refine fm_iload_n C dX5_start_0 rfl 1 rfl 1 rfl ?_
  obtain ⟨q2, h1, hf⟩ := Option.bind_eq_some_iff.mp hf
  refine fm_callS C Y_X5_isLoader LS_X5_179 (As := [.int x1]) (rest := []) (c_X5_isLoader  h1) (by omega) (by omega) rfl (Nat.le_of_ble_eq_true rfl) dX5_start_1 4 rfl [.int q2.1] rfl ?_
  refine fm_if_eq C 15 dX5_start_4 (by decide) (fun c3 => ?_) 7 rfl (fun c3 => ?_)
  · rw [if_pos c3] at hf
    refine fm_iconst C (x := -1) dX5_start_15 (by decide) 16 rfl ?_
    obtain rfl := Option.some.inj hf
    exact fm_iret C hr hk0 dX5_start_16
  · rw [if_neg c3] at hf
    refine fm_aload_n C dX5_start_7 rfl 0 rfl 8 rfl ?_
    refine fm_iload_n C dX5_start_8 rfl 2 rfl 9 rfl ?_
    obtain ⟨q5, h4, hf⟩ := Option.bind_eq_some_iff.mp hf
    refine fm_callV C Y_X5_isModule (t := 0) (by decide) (shM_0 _) rfl LM_X5_102 (As := [.int x2]) (rest := []) (c_X5_isModule  h4) (by omega) (by omega) rfl (Nat.le_of_ble_eq_true rfl) dX5_start_9 12 rfl [.int q5.1] rfl ?_
    refine fm_if_ne C 17 dX5_start_12 (by decide) (fun c6 => ?_) 15 rfl (fun c6 => ?_)
    · rw [if_neg c6] at hf
      refine fm_aload_n C dX5_start_17 rfl 0 rfl 18 rfl ?_
      refine fm_iconst C (x := 0) dX5_start_18 (by decide) 19 rfl ?_
      obtain ⟨m8, e7, hf⟩ := Option.bind_eq_some_iff.mp hf
      refine fm_put C (t := 0) (by decide) (shM_0 _) rfl inG_X5 22 (by decide) F_X5_116 tyX5 tyX5_ok nmX5 rfl (ty := .int) (by decide +kernel) rfl rfl (Nat.le_of_ble_eq_true rfl) ((shM_0 _).trans rfl) dX5_start_19 22 rfl m8 (Option.some.inj e7) ?_
      refine fm_aload_n C dX5_start_22 rfl 0 rfl 23 rfl ?_
      refine fm_iconst C (x := 1) dX5_start_23 (by decide) 24 rfl ?_
      obtain ⟨m10, e9, hf⟩ := Option.bind_eq_some_iff.mp hf
      refine fm_put C (t := 0) (by decide) (shM_0 _) rfl inG_X5 23 (by decide) F_X5_112 tyX5 tyX5_ok nmX5 rfl (ty := .boolean) (by decide +kernel) rfl rfl (Nat.le_of_ble_eq_true rfl) ((shM_0 _).trans rfl) dX5_start_24 27 rfl m10 (Option.some.inj e9) ?_
      refine fm_aload_n C dX5_start_27 rfl 0 rfl 28 rfl ?_
      refine fm_iconst C (x := 1) dX5_start_28 (by decide) 29 rfl ?_
      refine fm_iload_n C dX5_start_29 rfl 2 rfl 30 rfl ?_
      obtain ⟨q12, h11, hf⟩ := Option.bind_eq_some_iff.mp hf
      refine fm_callV C Y_X5_push (t := 0) (by decide) (shM_0 _) rfl LM_X5_144 (As := [.int 1, .int x2]) (rest := []) (c_X5_push  h11) (by omega) (by omega) rfl (Nat.le_of_ble_eq_true rfl) dX5_start_30 33 rfl [] rfl ?_
      refine fm_aload_n C dX5_start_33 rfl 0 rfl 34 rfl ?_
      refine fm_iload_n C dX5_start_34 rfl 1 rfl 35 rfl ?_
      obtain ⟨q14, h13, hf⟩ := Option.bind_eq_some_iff.mp hf
      refine fm_callV C Y_X5_runs (t := 0) (by decide) (shM_0 _) rfl LM_X5_182 (As := [.int x1]) (rest := []) (c_X5_runs u  h13) (by omega) (by omega) rfl (Nat.le_of_ble_eq_true rfl) dX5_start_35 38 rfl [] rfl ?_
      refine fm_aload_n C dX5_start_38 rfl 0 rfl 39 rfl ?_
      obtain ⟨q16, h15, hf⟩ := Option.bind_eq_some_iff.mp hf
      refine fm_callV C Y_X5_answers (t := 0) (by decide) (shM_0 _) rfl LM_X5_188 (As := []) (rest := []) (c_X5_answers  h15) (by omega) (by omega) rfl (Nat.le_of_ble_eq_true rfl) dX5_start_39 42 rfl [.int q16.1] rfl ?_
      obtain rfl := Option.some.inj hf
      exact fm_iret C hr hk0 dX5_start_42
    · rw [if_pos c6] at hf
      refine fm_iconst C (x := -1) dX5_start_15 (by decide) 16 rfl ?_
      obtain rfl := Option.some.inj hf
      exact fm_iret C hr hk0 dX5_start_16
def f_X5_fault (x1 : Int32) (v : fm_T) : Option (Int32 × fm_T) := ((f_X5_in x1 0 3 v).bind fun q2 => (if q2.1 = 0 then some ((-1), q2.2) else (if x1 < 0 ∨ 4 ≤ x1.toNatClampNeg then none else some (q2.2 21 x1.toNatClampNeg, q2.2))))
set_option maxHeartbeats 4000000 in
set_option maxRecDepth 20000 in
theorem c_X5_fault {x1 : Int32}  {v : fm_T} {q : Int32 × fm_T} (hf : f_X5_fault x1 v = some q) : fm_M l D (fm_tys cI cII cLd cOc) tA b 29 (shM cI b) A yX5_fault cX5_fault 2 (some .int) 1 [.ref (b + 0), .int x1] v (some (.int q.1)) q.2 := by
  refine fm_entry (by decide) (Nat.le_of_ble_eq_true rfl) ?_
  intro p e R s m args below meth c C hr hk0 hF hLo
  unfold f_X5_fault at hf
  show fm_V p l e R s m args below meth c D b 29 (shM cI b) A _ 2 0 [(0, .ref (b + 0)), (1, .int x1)] [] v
  refine fm_iload_n C dX5_fault_0 rfl 1 rfl 1 rfl ?_
  refine fm_iconst C (x := 0) dX5_fault_1 (by decide) 2 rfl ?_
  refine fm_iconst C (x := 3) dX5_fault_2 (by decide) 3 rfl ?_
  obtain ⟨q2, h1, hf⟩ := Option.bind_eq_some_iff.mp hf
  refine fm_callS C Y_X5_in LS_X5_98 (As := [.int x1, .int 0, .int 3]) (rest := []) (c_X5_in  h1) (by omega) (by omega) rfl (Nat.le_of_ble_eq_true rfl) dX5_fault_3 6 rfl [.int q2.1] rfl ?_
  refine fm_if_eq C 18 dX5_fault_6 (by decide) (fun c3 => ?_) 9 rfl (fun c3 => ?_)
  · rw [if_pos c3] at hf
    refine fm_iconst C (x := -1) dX5_fault_18 (by decide) 19 rfl ?_
    obtain rfl := Option.some.inj hf
    exact fm_iret C hr hk0 dX5_fault_19
  · rw [if_neg c3] at hf
    refine fm_aload_n C dX5_fault_9 rfl 0 rfl 10 rfl ?_
    refine fm_get C (t := 0) (by decide) (shM_0 _) rfl inG_X5 27 (by decide) F_X5_70 rfl dX5_fault_10 13 rfl ?_
    refine fm_iload_n C dX5_fault_13 rfl 1 rfl 14 rfl ?_
    by_cases b4 : x1 < 0 ∨ 4 ≤ x1.toNatClampNeg
    · rw [if_pos b4] at hf; cases hf
    rw [if_neg b4] at hf
    refine fm_iald C (t := 21) (t0 := 0) (by decide) (shM_21 _) rfl b4 dX5_fault_14 15 rfl ?_
    refine fm_goto C 19 dX5_fault_15 (by decide) ?_
    obtain rfl := Option.some.inj hf
    exact fm_iret C hr hk0 dX5_fault_19
def f_X5_state (x1 : Int32) (x2 : Int32) (v : fm_T) : Option (Int32 × fm_T) := ((f_X5_isLoader x1 v).bind fun q2 => (if q2.1 = 0 then some ((-1), q2.2) else ((f_X5_isModule x2 q2.2).bind fun q5 => (if q5.1 = 0 then some ((-1), q5.2) else (if (12 * x1) + x2 < 0 ∨ 60 ≤ ((12 * x1) + x2).toNatClampNeg then none else some (q5.2 13 (((12 * x1) + x2).toNatClampNeg), q5.2))))))
set_option maxHeartbeats 4000000 in
set_option maxRecDepth 20000 in
theorem c_X5_state {x1 : Int32} {x2 : Int32}  {v : fm_T} {q : Int32 × fm_T} (hf : f_X5_state x1 x2 v = some q) : fm_M l D (fm_tys cI cII cLd cOc) tA b 29 (shM cI b) A yX5_state cX5_state 3 (some .int) 2 [.ref (b + 0), .int x1, .int x2] v (some (.int q.1)) q.2 := by
  refine fm_entry (by decide) (Nat.le_of_ble_eq_true rfl) ?_
  intro p e R s m args below meth c C hr hk0 hF hLo
  unfold f_X5_state at hf
  show fm_V p l e R s m args below meth c D b 29 (shM cI b) A _ 3 0 [(0, .ref (b + 0)), (1, .int x1), (2, .int x2)] [] v
  refine fm_iload_n C dX5_state_0 rfl 1 rfl 1 rfl ?_
  obtain ⟨q2, h1, hf⟩ := Option.bind_eq_some_iff.mp hf
  refine fm_callS C Y_X5_isLoader LS_X5_179 (As := [.int x1]) (rest := []) (c_X5_isLoader  h1) (by omega) (by omega) rfl (Nat.le_of_ble_eq_true rfl) dX5_state_1 4 rfl [.int q2.1] rfl ?_
  refine fm_if_eq C 29 dX5_state_4 (by decide) (fun c3 => ?_) 7 rfl (fun c3 => ?_)
  · rw [if_pos c3] at hf
    refine fm_iconst C (x := -1) dX5_state_29 (by decide) 30 rfl ?_
    obtain rfl := Option.some.inj hf
    exact fm_iret C hr hk0 dX5_state_30
  · rw [if_neg c3] at hf
    refine fm_aload_n C dX5_state_7 rfl 0 rfl 8 rfl ?_
    refine fm_iload_n C dX5_state_8 rfl 2 rfl 9 rfl ?_
    obtain ⟨q5, h4, hf⟩ := Option.bind_eq_some_iff.mp hf
    refine fm_callV C Y_X5_isModule (t := 0) (by decide) (shM_0 _) rfl LM_X5_102 (As := [.int x2]) (rest := []) (c_X5_isModule  h4) (by omega) (by omega) rfl (Nat.le_of_ble_eq_true rfl) dX5_state_9 12 rfl [.int q5.1] rfl ?_
    refine fm_if_eq C 29 dX5_state_12 (by decide) (fun c6 => ?_) 15 rfl (fun c6 => ?_)
    · rw [if_pos c6] at hf
      refine fm_iconst C (x := -1) dX5_state_29 (by decide) 30 rfl ?_
      obtain rfl := Option.some.inj hf
      exact fm_iret C hr hk0 dX5_state_30
    · rw [if_neg c6] at hf
      refine fm_aload_n C dX5_state_15 rfl 0 rfl 16 rfl ?_
      refine fm_get C (t := 0) (by decide) (shM_0 _) rfl inG_X5 14 (by decide) F_X5_46 rfl dX5_state_16 19 rfl ?_
      refine fm_bipush C (x := 12) dX5_state_19 (by decide) 21 rfl ?_
      refine fm_iload_n C dX5_state_21 rfl 1 rfl 22 rfl ?_
      refine fm_imul C dX5_state_22 23 rfl ?_
      refine fm_iload_n C dX5_state_23 rfl 2 rfl 24 rfl ?_
      refine fm_iadd C dX5_state_24 25 rfl ?_
      by_cases b7 : (12 * x1) + x2 < 0 ∨ 60 ≤ ((12 * x1) + x2).toNatClampNeg
      · rw [if_pos b7] at hf; cases hf
      rw [if_neg b7] at hf
      refine fm_iald C (t := 13) (t0 := 0) (by decide) (shM_13 _) rfl b7 dX5_state_25 26 rfl ?_
      refine fm_goto C 30 dX5_state_26 (by decide) ?_
      obtain rfl := Option.some.inj hf
      exact fm_iret C hr hk0 dX5_state_30
def f_X5_kept (x1 : Int32) (x2 : Int32) (v : fm_T) : Option (Int32 × fm_T) := ((f_X5_isLoader x1 v).bind fun q2 => (if q2.1 = 0 then some ((-1), q2.2) else ((f_X5_in x2 0 ((q2.2 0 8) - 1) q2.2).bind fun q5 => (if q5.1 = 0 then some ((-1), q5.2) else (if (40 * x1) + x2 < 0 ∨ 200 ≤ ((40 * x1) + x2).toNatClampNeg then none else (if q5.2 15 (((40 * x1) + x2).toNatClampNeg) = 2 then some (1, q5.2) else (if q5.2 15 (((40 * x1) + x2).toNatClampNeg) = 3 then some (10 + (q5.2 16 (((40 * x1) + x2).toNatClampNeg)), q5.2) else some (0, q5.2))))))))
set_option maxHeartbeats 4000000 in
set_option maxRecDepth 20000 in
theorem c_X5_kept {x1 : Int32} {x2 : Int32}  {v : fm_T} {q : Int32 × fm_T} (hf : f_X5_kept x1 x2 v = some q) : fm_M l D (fm_tys cI cII cLd cOc) tA b 29 (shM cI b) A yX5_kept cX5_kept 4 (some .int) 2 [.ref (b + 0), .int x1, .int x2] v (some (.int q.1)) q.2 := by
  refine fm_entry (by decide) (Nat.le_of_ble_eq_true rfl) ?_
  intro p e R s m args below meth c C hr hk0 hF hLo
  unfold f_X5_kept at hf
  show fm_V p l e R s m args below meth c D b 29 (shM cI b) A _ 4 0 [(0, .ref (b + 0)), (1, .int x1), (2, .int x2)] [] v
  refine fm_iload_n C dX5_kept_0 rfl 1 rfl 1 rfl ?_
  obtain ⟨q2, h1, hf⟩ := Option.bind_eq_some_iff.mp hf
  refine fm_callS C Y_X5_isLoader LS_X5_179 (As := [.int x1]) (rest := []) (c_X5_isLoader  h1) (by omega) (by omega) rfl (Nat.le_of_ble_eq_true rfl) dX5_kept_1 4 rfl [.int q2.1] rfl ?_
  refine fm_if_eq C 21 dX5_kept_4 (by decide) (fun c3 => ?_) 7 rfl (fun c3 => ?_)
  · rw [if_pos c3] at hf
    refine fm_iconst C (x := -1) dX5_kept_21 (by decide) 22 rfl ?_
    obtain rfl := Option.some.inj hf
    exact fm_iret C hr hk0 dX5_kept_22
  · rw [if_neg c3] at hf
    refine fm_iload_n C dX5_kept_7 rfl 2 rfl 8 rfl ?_
    refine fm_iconst C (x := 0) dX5_kept_8 (by decide) 9 rfl ?_
    refine fm_aload_n C dX5_kept_9 rfl 0 rfl 10 rfl ?_
    refine fm_get C (t := 0) (by decide) (shM_0 _) rfl inG_X5 8 (by decide) F_X5_106 rfl dX5_kept_10 13 rfl ?_
    refine fm_iconst C (x := 1) dX5_kept_13 (by decide) 14 rfl ?_
    refine fm_isub C dX5_kept_14 15 rfl ?_
    obtain ⟨q5, h4, hf⟩ := Option.bind_eq_some_iff.mp hf
    refine fm_callS C Y_X5_in LS_X5_98 (As := [.int x2, .int 0, .int ((q2.2 0 8) - 1)]) (rest := []) (c_X5_in  h4) (by omega) (by omega) rfl (Nat.le_of_ble_eq_true rfl) dX5_kept_15 18 rfl [.int q5.1] rfl ?_
    refine fm_if_ne C 23 dX5_kept_18 (by decide) (fun c6 => ?_) 21 rfl (fun c6 => ?_)
    · rw [if_neg c6] at hf
      refine fm_bipush C (x := 40) dX5_kept_23 (by decide) 25 rfl ?_
      refine fm_iload_n C dX5_kept_25 rfl 1 rfl 26 rfl ?_
      refine fm_imul C dX5_kept_26 27 rfl ?_
      refine fm_iload_n C dX5_kept_27 rfl 2 rfl 28 rfl ?_
      refine fm_iadd C dX5_kept_28 29 rfl ?_
      refine fm_istore_n C [(3, .int ((40 * x1) + x2)), (0, .ref (b + 0)), (1, .int x1), (2, .int x2)] dX5_kept_29 rfl (by decide) rfl 30 rfl ?_
      refine fm_aload_n C dX5_kept_30 rfl 1 rfl 31 rfl ?_
      refine fm_get C (t := 0) (by decide) (shM_0 _) rfl inG_X5 16 (by decide) F_X5_52 rfl dX5_kept_31 34 rfl ?_
      refine fm_iload_n C dX5_kept_34 rfl 0 rfl 35 rfl ?_
      by_cases b7 : (40 * x1) + x2 < 0 ∨ 200 ≤ ((40 * x1) + x2).toNatClampNeg
      · rw [if_pos b7] at hf; cases hf
      rw [if_neg b7] at hf
      refine fm_iald C (t := 15) (t0 := 0) (by decide) (shM_15 _) rfl b7 dX5_kept_35 36 rfl ?_
      refine fm_iconst C (x := 2) dX5_kept_36 (by decide) 37 rfl ?_
      refine fm_icmp_ne C 44 dX5_kept_37 (by decide) (fun c8 => ?_) 40 rfl (fun c8 => ?_)
      · rw [if_neg c8] at hf
        refine fm_aload_n C dX5_kept_44 rfl 1 rfl 45 rfl ?_
        refine fm_get C (t := 0) (by decide) (shM_0 _) rfl inG_X5 16 (by decide) F_X5_52 rfl dX5_kept_45 48 rfl ?_
        refine fm_iload_n C dX5_kept_48 rfl 0 rfl 49 rfl ?_
        refine fm_iald C (t := 15) (t0 := 0) (by decide) (shM_15 _) rfl b7 dX5_kept_49 50 rfl ?_
        refine fm_iconst C (x := 3) dX5_kept_50 (by decide) 51 rfl ?_
        refine fm_icmp_ne C 66 dX5_kept_51 (by decide) (fun c9 => ?_) 54 rfl (fun c9 => ?_)
        · rw [if_neg c9] at hf
          refine fm_iconst C (x := 0) dX5_kept_66 (by decide) 67 rfl ?_
          obtain rfl := Option.some.inj hf
          exact fm_iret C hr hk0 dX5_kept_67
        · rw [if_pos c9] at hf
          refine fm_bipush C (x := 10) dX5_kept_54 (by decide) 56 rfl ?_
          refine fm_aload_n C dX5_kept_56 rfl 1 rfl 57 rfl ?_
          refine fm_get C (t := 0) (by decide) (shM_0 _) rfl inG_X5 17 (by decide) F_X5_55 rfl dX5_kept_57 60 rfl ?_
          refine fm_iload_n C dX5_kept_60 rfl 0 rfl 61 rfl ?_
          refine fm_iald C (t := 16) (t0 := 0) (by decide) (shM_16 _) rfl b7 dX5_kept_61 62 rfl ?_
          refine fm_iadd C dX5_kept_62 63 rfl ?_
          refine fm_goto C 67 dX5_kept_63 (by decide) ?_
          obtain rfl := Option.some.inj hf
          exact fm_iret C hr hk0 dX5_kept_67
      · rw [if_pos c8] at hf
        refine fm_iconst C (x := 1) dX5_kept_40 (by decide) 41 rfl ?_
        refine fm_goto C 67 dX5_kept_41 (by decide) ?_
        obtain rfl := Option.some.inj hf
        exact fm_iret C hr hk0 dX5_kept_67
    · rw [if_pos c6] at hf
      refine fm_iconst C (x := -1) dX5_kept_21 (by decide) 22 rfl ?_
      obtain rfl := Option.some.inj hf
      exact fm_iret C hr hk0 dX5_kept_22
def f_X5_row (x1 : Int32) (x2 : Int32) (x3 : Int32) (v : fm_T) : Option (Int32 × fm_T) := ((f_X5_isLoader x1 v).bind fun q2 => (if q2.1 = 0 then some ((-1), q2.2) else ((f_X5_isModule x2 q2.2).bind fun q5 => (if q5.1 = 0 then some ((-1), q5.2) else (if x2 < 0 ∨ 12 ≤ x2.toNatClampNeg then none else ((f_X5_in x3 0 ((q5.2 1 x2.toNatClampNeg) - 1) q5.2).bind fun q9 => (if q9.1 = 0 then some ((-3), q9.2) else (if (12 * x1) + x2 < 0 ∨ 60 ≤ ((12 * x1) + x2).toNatClampNeg then none else (if q9.2 13 (((12 * x1) + x2).toNatClampNeg) = 0 then (if (8 * x2) + x3 < 0 ∨ 96 ≤ ((8 * x2) + x3).toNatClampNeg then none else some (q9.2 2 (((8 * x2) + x3).toNatClampNeg), q9.2)) else (if ((96 * x1) + (8 * x2)) + x3 < 0 ∨ 480 ≤ (((96 * x1) + (8 * x2)) + x3).toNatClampNeg then none else some (q9.2 14 ((((96 * x1) + (8 * x2)) + x3).toNatClampNeg), q9.2)))))))))))
set_option maxHeartbeats 4000000 in
set_option maxRecDepth 20000 in
theorem c_X5_row {x1 : Int32} {x2 : Int32} {x3 : Int32}  {v : fm_T} {q : Int32 × fm_T} (hf : f_X5_row x1 x2 x3 v = some q) : fm_M l D (fm_tys cI cII cLd cOc) tA b 29 (shM cI b) A yX5_row cX5_row 4 (some .int) 2 [.ref (b + 0), .int x1, .int x2, .int x3] v (some (.int q.1)) q.2 := by
  refine fm_entry (by decide) (Nat.le_of_ble_eq_true rfl) ?_
  intro p e R s m args below meth c C hr hk0 hF hLo
  unfold f_X5_row at hf
  show fm_V p l e R s m args below meth c D b 29 (shM cI b) A _ 4 0 [(0, .ref (b + 0)), (1, .int x1), (2, .int x2), (3, .int x3)] [] v
  refine fm_iload_n C dX5_row_0 rfl 1 rfl 1 rfl ?_
  obtain ⟨q2, h1, hf⟩ := Option.bind_eq_some_iff.mp hf
  refine fm_callS C Y_X5_isLoader LS_X5_179 (As := [.int x1]) (rest := []) (c_X5_isLoader  h1) (by omega) (by omega) rfl (Nat.le_of_ble_eq_true rfl) dX5_row_1 4 rfl [.int q2.1] rfl ?_
  refine fm_if_eq C 15 dX5_row_4 (by decide) (fun c3 => ?_) 7 rfl (fun c3 => ?_)
  · rw [if_pos c3] at hf
    refine fm_iconst C (x := -1) dX5_row_15 (by decide) 16 rfl ?_
    obtain rfl := Option.some.inj hf
    exact fm_iret C hr hk0 dX5_row_16
  · rw [if_neg c3] at hf
    refine fm_aload_n C dX5_row_7 rfl 0 rfl 8 rfl ?_
    refine fm_iload_n C dX5_row_8 rfl 2 rfl 9 rfl ?_
    obtain ⟨q5, h4, hf⟩ := Option.bind_eq_some_iff.mp hf
    refine fm_callV C Y_X5_isModule (t := 0) (by decide) (shM_0 _) rfl LM_X5_102 (As := [.int x2]) (rest := []) (c_X5_isModule  h4) (by omega) (by omega) rfl (Nat.le_of_ble_eq_true rfl) dX5_row_9 12 rfl [.int q5.1] rfl ?_
    refine fm_if_ne C 17 dX5_row_12 (by decide) (fun c6 => ?_) 15 rfl (fun c6 => ?_)
    · rw [if_neg c6] at hf
      refine fm_iload_n C dX5_row_17 rfl 3 rfl 18 rfl ?_
      refine fm_iconst C (x := 0) dX5_row_18 (by decide) 19 rfl ?_
      refine fm_aload_n C dX5_row_19 rfl 0 rfl 20 rfl ?_
      refine fm_get C (t := 0) (by decide) (shM_0 _) rfl inG_X5 1 (by decide) F_X5_7 rfl dX5_row_20 23 rfl ?_
      refine fm_iload_n C dX5_row_23 rfl 2 rfl 24 rfl ?_
      by_cases b7 : x2 < 0 ∨ 12 ≤ x2.toNatClampNeg
      · rw [if_pos b7] at hf; cases hf
      rw [if_neg b7] at hf
      refine fm_iald C (t := 1) (t0 := 0) (by decide) (shM_1 _) rfl b7 dX5_row_24 25 rfl ?_
      refine fm_iconst C (x := 1) dX5_row_25 (by decide) 26 rfl ?_
      refine fm_isub C dX5_row_26 27 rfl ?_
      obtain ⟨q9, h8, hf⟩ := Option.bind_eq_some_iff.mp hf
      refine fm_callS C Y_X5_in LS_X5_98 (As := [.int x3, .int 0, .int ((q5.2 1 x2.toNatClampNeg) - 1)]) (rest := []) (c_X5_in  h8) (by omega) (by omega) rfl (Nat.le_of_ble_eq_true rfl) dX5_row_27 30 rfl [.int q9.1] rfl ?_
      refine fm_if_ne C 36 dX5_row_30 (by decide) (fun c10 => ?_) 33 rfl (fun c10 => ?_)
      · rw [if_neg c10] at hf
        refine fm_aload_n C dX5_row_36 rfl 0 rfl 37 rfl ?_
        refine fm_get C (t := 0) (by decide) (shM_0 _) rfl inG_X5 14 (by decide) F_X5_46 rfl dX5_row_37 40 rfl ?_
        refine fm_bipush C (x := 12) dX5_row_40 (by decide) 42 rfl ?_
        refine fm_iload_n C dX5_row_42 rfl 1 rfl 43 rfl ?_
        refine fm_imul C dX5_row_43 44 rfl ?_
        refine fm_iload_n C dX5_row_44 rfl 2 rfl 45 rfl ?_
        refine fm_iadd C dX5_row_45 46 rfl ?_
        by_cases b11 : (12 * x1) + x2 < 0 ∨ 60 ≤ ((12 * x1) + x2).toNatClampNeg
        · rw [if_pos b11] at hf; cases hf
        rw [if_neg b11] at hf
        refine fm_iald C (t := 13) (t0 := 0) (by decide) (shM_13 _) rfl b11 dX5_row_46 47 rfl ?_
        refine fm_if_ne C 64 dX5_row_47 (by decide) (fun c12 => ?_) 50 rfl (fun c12 => ?_)
        · rw [if_neg c12] at hf
          refine fm_aload_n C dX5_row_64 rfl 0 rfl 65 rfl ?_
          refine fm_get C (t := 0) (by decide) (shM_0 _) rfl inG_X5 15 (by decide) F_X5_49 rfl dX5_row_65 68 rfl ?_
          refine fm_bipush C (x := 96) dX5_row_68 (by decide) 70 rfl ?_
          refine fm_iload_n C dX5_row_70 rfl 1 rfl 71 rfl ?_
          refine fm_imul C dX5_row_71 72 rfl ?_
          refine fm_bipush C (x := 8) dX5_row_72 (by decide) 74 rfl ?_
          refine fm_iload_n C dX5_row_74 rfl 2 rfl 75 rfl ?_
          refine fm_imul C dX5_row_75 76 rfl ?_
          refine fm_iadd C dX5_row_76 77 rfl ?_
          refine fm_iload_n C dX5_row_77 rfl 3 rfl 78 rfl ?_
          refine fm_iadd C dX5_row_78 79 rfl ?_
          by_cases b13 : ((96 * x1) + (8 * x2)) + x3 < 0 ∨ 480 ≤ (((96 * x1) + (8 * x2)) + x3).toNatClampNeg
          · rw [if_pos b13] at hf; cases hf
          rw [if_neg b13] at hf
          refine fm_iald C (t := 14) (t0 := 0) (by decide) (shM_14 _) rfl b13 dX5_row_79 80 rfl ?_
          obtain rfl := Option.some.inj hf
          exact fm_iret C hr hk0 dX5_row_80
        · rw [if_pos c12] at hf
          refine fm_aload_n C dX5_row_50 rfl 0 rfl 51 rfl ?_
          refine fm_get C (t := 0) (by decide) (shM_0 _) rfl inG_X5 2 (by decide) F_X5_13 rfl dX5_row_51 54 rfl ?_
          refine fm_bipush C (x := 8) dX5_row_54 (by decide) 56 rfl ?_
          refine fm_iload_n C dX5_row_56 rfl 2 rfl 57 rfl ?_
          refine fm_imul C dX5_row_57 58 rfl ?_
          refine fm_iload_n C dX5_row_58 rfl 3 rfl 59 rfl ?_
          refine fm_iadd C dX5_row_59 60 rfl ?_
          by_cases b14 : (8 * x2) + x3 < 0 ∨ 96 ≤ ((8 * x2) + x3).toNatClampNeg
          · rw [if_pos b14] at hf; cases hf
          rw [if_neg b14] at hf
          refine fm_iald C (t := 2) (t0 := 0) (by decide) (shM_2 _) rfl b14 dX5_row_60 61 rfl ?_
          refine fm_goto C 80 dX5_row_61 (by decide) ?_
          obtain rfl := Option.some.inj hf
          exact fm_iret C hr hk0 dX5_row_80
      · rw [if_pos c10] at hf
        refine fm_bipush C (x := -3) dX5_row_33 (by decide) 35 rfl ?_
        obtain rfl := Option.some.inj hf
        exact fm_iret C hr hk0 dX5_row_35
    · rw [if_pos c6] at hf
      refine fm_iconst C (x := -1) dX5_row_15 (by decide) 16 rfl ?_
      obtain rfl := Option.some.inj hf
      exact fm_iret C hr hk0 dX5_row_16
def f_X5_trace (x1 : Int32) (x2 : Int32) (v : fm_T) : Option (Int32 × fm_T) := ((f_X5_in x2 0 1 v).bind fun q2 => (if q2.1 = 0 then some ((-1), q2.2) else ((f_X5_in x1 0 ((q2.2 0 22) - 1) q2.2).bind fun q5 => (if q5.1 = 0 then some ((-3), q5.2) else (if (2 * x1) + x2 < 0 ∨ 400 ≤ ((2 * x1) + x2).toNatClampNeg then none else some (q5.2 20 (((2 * x1) + x2).toNatClampNeg), q5.2))))))
set_option maxHeartbeats 4000000 in
set_option maxRecDepth 20000 in
theorem c_X5_trace {x1 : Int32} {x2 : Int32}  {v : fm_T} {q : Int32 × fm_T} (hf : f_X5_trace x1 x2 v = some q) : fm_M l D (fm_tys cI cII cLd cOc) tA b 29 (shM cI b) A yX5_trace cX5_trace 3 (some .int) 1 [.ref (b + 0), .int x1, .int x2] v (some (.int q.1)) q.2 := by
  refine fm_entry (by decide) (Nat.le_of_ble_eq_true rfl) ?_
  intro p e R s m args below meth c C hr hk0 hF hLo
  unfold f_X5_trace at hf
  show fm_V p l e R s m args below meth c D b 29 (shM cI b) A _ 3 0 [(0, .ref (b + 0)), (1, .int x1), (2, .int x2)] [] v
  refine fm_iload_n C dX5_trace_0 rfl 2 rfl 1 rfl ?_
  refine fm_iconst C (x := 0) dX5_trace_1 (by decide) 2 rfl ?_
  refine fm_iconst C (x := 1) dX5_trace_2 (by decide) 3 rfl ?_
  obtain ⟨q2, h1, hf⟩ := Option.bind_eq_some_iff.mp hf
  refine fm_callS C Y_X5_in LS_X5_98 (As := [.int x2, .int 0, .int 1]) (rest := []) (c_X5_in  h1) (by omega) (by omega) rfl (Nat.le_of_ble_eq_true rfl) dX5_trace_3 6 rfl [.int q2.1] rfl ?_
  refine fm_if_ne C 11 dX5_trace_6 (by decide) (fun c3 => ?_) 9 rfl (fun c3 => ?_)
  · rw [if_neg c3] at hf
    refine fm_iload_n C dX5_trace_11 rfl 1 rfl 12 rfl ?_
    refine fm_iconst C (x := 0) dX5_trace_12 (by decide) 13 rfl ?_
    refine fm_aload_n C dX5_trace_13 rfl 0 rfl 14 rfl ?_
    refine fm_get C (t := 0) (by decide) (shM_0 _) rfl inG_X5 22 (by decide) F_X5_116 rfl dX5_trace_14 17 rfl ?_
    refine fm_iconst C (x := 1) dX5_trace_17 (by decide) 18 rfl ?_
    refine fm_isub C dX5_trace_18 19 rfl ?_
    obtain ⟨q5, h4, hf⟩ := Option.bind_eq_some_iff.mp hf
    refine fm_callS C Y_X5_in LS_X5_98 (As := [.int x1, .int 0, .int ((q2.2 0 22) - 1)]) (rest := []) (c_X5_in  h4) (by omega) (by omega) rfl (Nat.le_of_ble_eq_true rfl) dX5_trace_19 22 rfl [.int q5.1] rfl ?_
    refine fm_if_eq C 38 dX5_trace_22 (by decide) (fun c6 => ?_) 25 rfl (fun c6 => ?_)
    · rw [if_pos c6] at hf
      refine fm_bipush C (x := -3) dX5_trace_38 (by decide) 40 rfl ?_
      obtain rfl := Option.some.inj hf
      exact fm_iret C hr hk0 dX5_trace_40
    · rw [if_neg c6] at hf
      refine fm_aload_n C dX5_trace_25 rfl 0 rfl 26 rfl ?_
      refine fm_get C (t := 0) (by decide) (shM_0 _) rfl inG_X5 21 (by decide) F_X5_67 rfl dX5_trace_26 29 rfl ?_
      refine fm_iconst C (x := 2) dX5_trace_29 (by decide) 30 rfl ?_
      refine fm_iload_n C dX5_trace_30 rfl 1 rfl 31 rfl ?_
      refine fm_imul C dX5_trace_31 32 rfl ?_
      refine fm_iload_n C dX5_trace_32 rfl 2 rfl 33 rfl ?_
      refine fm_iadd C dX5_trace_33 34 rfl ?_
      by_cases b7 : (2 * x1) + x2 < 0 ∨ 400 ≤ ((2 * x1) + x2).toNatClampNeg
      · rw [if_pos b7] at hf; cases hf
      rw [if_neg b7] at hf
      refine fm_iald C (t := 20) (t0 := 0) (by decide) (shM_20 _) rfl b7 dX5_trace_34 35 rfl ?_
      refine fm_goto C 40 dX5_trace_35 (by decide) ?_
      obtain rfl := Option.some.inj hf
      exact fm_iret C hr hk0 dX5_trace_40
  · rw [if_pos c3] at hf
    refine fm_iconst C (x := -1) dX5_trace_9 (by decide) 10 rfl ?_
    obtain rfl := Option.some.inj hf
    exact fm_iret C hr hk0 dX5_trace_10
def f_X5_empties_52 : Nat → Int32 → Int32 → Int32 → fm_T → Option (Int32 × fm_T)
  | 0 => fun _ _ _ _ => none
  | n + 1 => fun x1 x2 x3 v => (if 40 ≤ x3 then some (x2, v) else (if (40 * x1) + x3 < 0 ∨ 200 ≤ ((40 * x1) + x3).toNatClampNeg then none else ((some (fm_u v 15 (((40 * x1) + x3).toNatClampNeg) 0) : Option fm_T).bind fun m4 => f_X5_empties_52 n x1 x2 (x3 + 1) m4)))
theorem f_X5_empties_52_s (n : Nat)  (x1 : Int32) (x2 : Int32) (x3 : Int32) (v : fm_T) : f_X5_empties_52 (n + 1) x1 x2 x3 v = (if 40 ≤ x3 then some (x2, v) else (if (40 * x1) + x3 < 0 ∨ 200 ≤ ((40 * x1) + x3).toNatClampNeg then none else ((some (fm_u v 15 (((40 * x1) + x3).toNatClampNeg) 0) : Option fm_T).bind fun m4 => f_X5_empties_52 n x1 x2 (x3 + 1) m4))) := rfl
set_option maxHeartbeats 4000000 in
set_option maxRecDepth 20000 in
theorem b_X5_empties_52   {p : Program} {e : Env} {R : Room} {s : State} {m : MethodId} {args : Array Value} {below : List Frame} {meth : Method} {c : Code} (C : fm_C p s m args c cX5_empties RX5 4 D (fm_tys cI cII cLd cOc) tA b 29 A) (hr : meth.sig.returnType = (some .int)) (hk0 : meth.locks = false) (hF : 0 ≤ R.frames) (hLo : 40 * 0 ≤ R.locals) : ∀ (n : Nat) (x1 : Int32) (x2 : Int32) (x3 : Int32) (v : fm_T) {q : Int32 × fm_T}, f_X5_empties_52 n x1 x2 x3 v = some q → fm_V p l e R s m args below meth c D b 29 (shM cI b) A (MQ below (fm_Q D b 29 (shM cI b) A (some (.int q.1)) q.2) args s 0 0 A) 4 52 [(0, .ref (b + 0)), (1, .int x1), (2, .int x2), (3, .int x3)] [] v := by
  intro n
  induction n with
  | zero =>
    intro x1 x2 x3 v q hf
    cases (show (none : Option (Int32 × fm_T)) = some q from hf)
  | succ n ih =>
    intro x1 x2 x3 v q hf
    rw [f_X5_empties_52_s] at hf
    refine fm_iload_n C dX5_empties_52 rfl 3 rfl 53 rfl ?_
    refine fm_bipush C (x := 40) dX5_empties_53 (by decide) 55 rfl ?_
    refine fm_icmp_ge C 76 dX5_empties_55 (by decide) (fun c1 => ?_) 58 rfl (fun c1 => ?_)
    · rw [if_pos c1] at hf
      refine fm_iload_n C dX5_empties_76 rfl 2 rfl 77 rfl ?_
      obtain rfl := Option.some.inj hf
      exact fm_iret C hr hk0 dX5_empties_77
    · rw [if_neg c1] at hf
      refine fm_aload_n C dX5_empties_58 rfl 0 rfl 59 rfl ?_
      refine fm_get C (t := 0) (by decide) (shM_0 _) rfl inG_X5 16 (by decide) F_X5_52 rfl dX5_empties_59 62 rfl ?_
      refine fm_bipush C (x := 40) dX5_empties_62 (by decide) 64 rfl ?_
      refine fm_iload_n C dX5_empties_64 rfl 1 rfl 65 rfl ?_
      refine fm_imul C dX5_empties_65 66 rfl ?_
      refine fm_iload_n C dX5_empties_66 rfl 3 rfl 67 rfl ?_
      refine fm_iadd C dX5_empties_67 68 rfl ?_
      refine fm_iconst C (x := 0) dX5_empties_68 (by decide) 69 rfl ?_
      by_cases b2 : (40 * x1) + x3 < 0 ∨ 200 ≤ ((40 * x1) + x3).toNatClampNeg
      · rw [if_pos b2] at hf; cases hf
      rw [if_neg b2] at hf
      obtain ⟨m4, e3, hf⟩ := Option.bind_eq_some_iff.mp hf
      refine fm_iast C (t := 15) (t0 := 0) (by decide) shM_15 rfl b2 dX5_empties_69 70 rfl m4 (Option.some.inj e3) ?_
      refine fm_iinc C [(3, .int (x3 + 1)), (0, .ref (b + 0)), (1, .int x1), (2, .int x2)] dX5_empties_70 3 rfl rfl (by decide) rfl 73 rfl ?_
      refine fm_goto C 52 dX5_empties_73 (by decide) ?_
      refine fm_lv [1, 2, 3, 0] [(0, .ref (b + 0)), (1, .int x1), (2, .int x2), (3, .int (x3 + 1))] rfl ?_
      exact ih x1 x2 (x3 + 1) m4 hf
def f_X5_empties_4 : Nat → Int32 → Int32 → Int32 → fm_T → Option (Int32 × fm_T)
  | 0 => fun _ _ _ _ => none
  | n + 1 => fun x1 x2 x3 v => (if 12 ≤ x3 then f_X5_empties_52 1000 x1 x2 0 v else (if (12 * x1) + x3 < 0 ∨ 60 ≤ ((12 * x1) + x3).toNatClampNeg then none else (if v 13 (((12 * x1) + x3).toNatClampNeg) = 0 then ((some (fm_u v 13 (((12 * x1) + x3).toNatClampNeg) 0) : Option fm_T).bind fun m9 => f_X5_empties_4 n x1 (x2 + 0) (x3 + 1) m9) else ((some (fm_u v 13 (((12 * x1) + x3).toNatClampNeg) 0) : Option fm_T).bind fun m11 => f_X5_empties_4 n x1 (x2 + 1) (x3 + 1) m11))))
theorem f_X5_empties_4_s (n : Nat)  (x1 : Int32) (x2 : Int32) (x3 : Int32) (v : fm_T) : f_X5_empties_4 (n + 1) x1 x2 x3 v = (if 12 ≤ x3 then f_X5_empties_52 1000 x1 x2 0 v else (if (12 * x1) + x3 < 0 ∨ 60 ≤ ((12 * x1) + x3).toNatClampNeg then none else (if v 13 (((12 * x1) + x3).toNatClampNeg) = 0 then ((some (fm_u v 13 (((12 * x1) + x3).toNatClampNeg) 0) : Option fm_T).bind fun m9 => f_X5_empties_4 n x1 (x2 + 0) (x3 + 1) m9) else ((some (fm_u v 13 (((12 * x1) + x3).toNatClampNeg) 0) : Option fm_T).bind fun m11 => f_X5_empties_4 n x1 (x2 + 1) (x3 + 1) m11)))) := rfl
set_option maxHeartbeats 4000000 in
set_option maxRecDepth 20000 in
theorem b_X5_empties_4   {p : Program} {e : Env} {R : Room} {s : State} {m : MethodId} {args : Array Value} {below : List Frame} {meth : Method} {c : Code} (C : fm_C p s m args c cX5_empties RX5 4 D (fm_tys cI cII cLd cOc) tA b 29 A) (hr : meth.sig.returnType = (some .int)) (hk0 : meth.locks = false) (hF : 0 ≤ R.frames) (hLo : 40 * 0 ≤ R.locals) : ∀ (n : Nat) (x1 : Int32) (x2 : Int32) (x3 : Int32) (v : fm_T) {q : Int32 × fm_T}, f_X5_empties_4 n x1 x2 x3 v = some q → fm_V p l e R s m args below meth c D b 29 (shM cI b) A (MQ below (fm_Q D b 29 (shM cI b) A (some (.int q.1)) q.2) args s 0 0 A) 4 4 [(0, .ref (b + 0)), (1, .int x1), (2, .int x2), (3, .int x3)] [] v := by
  intro n
  induction n with
  | zero =>
    intro x1 x2 x3 v q hf
    cases (show (none : Option (Int32 × fm_T)) = some q from hf)
  | succ n ih =>
    intro x1 x2 x3 v q hf
    rw [f_X5_empties_4_s] at hf
    refine fm_iload_n C dX5_empties_4 rfl 3 rfl 5 rfl ?_
    refine fm_bipush C (x := 12) dX5_empties_5 (by decide) 7 rfl ?_
    refine fm_icmp_ge C 50 dX5_empties_7 (by decide) (fun c5 => ?_) 10 rfl (fun c5 => ?_)
    · rw [if_pos c5] at hf
      refine fm_iconst C (x := 0) dX5_empties_50 (by decide) 51 rfl ?_
      refine fm_istore_n C [(3, .int 0), (0, .ref (b + 0)), (1, .int x1), (2, .int x2)] dX5_empties_51 rfl (by decide) rfl 52 rfl ?_
      refine fm_lv [1, 2, 3, 0] [(0, .ref (b + 0)), (1, .int x1), (2, .int x2), (3, .int 0)] rfl ?_
      exact b_X5_empties_52  C hr hk0 hF hLo 1000 x1 x2 0 v hf
    · rw [if_neg c5] at hf
      refine fm_iload_n C dX5_empties_10 rfl 2 rfl 11 rfl ?_
      refine fm_aload_n C dX5_empties_11 rfl 0 rfl 12 rfl ?_
      refine fm_get C (t := 0) (by decide) (shM_0 _) rfl inG_X5 14 (by decide) F_X5_46 rfl dX5_empties_12 15 rfl ?_
      refine fm_bipush C (x := 12) dX5_empties_15 (by decide) 17 rfl ?_
      refine fm_iload_n C dX5_empties_17 rfl 1 rfl 18 rfl ?_
      refine fm_imul C dX5_empties_18 19 rfl ?_
      refine fm_iload_n C dX5_empties_19 rfl 3 rfl 20 rfl ?_
      refine fm_iadd C dX5_empties_20 21 rfl ?_
      by_cases b6 : (12 * x1) + x3 < 0 ∨ 60 ≤ ((12 * x1) + x3).toNatClampNeg
      · rw [if_pos b6] at hf; cases hf
      rw [if_neg b6] at hf
      refine fm_iald C (t := 13) (t0 := 0) (by decide) (shM_13 _) rfl b6 dX5_empties_21 22 rfl ?_
      refine fm_if_eq C 29 dX5_empties_22 (by decide) (fun c7 => ?_) 25 rfl (fun c7 => ?_)
      · rw [if_pos c7] at hf
        refine fm_iconst C (x := 0) dX5_empties_29 (by decide) 30 rfl ?_
        refine fm_iadd C dX5_empties_30 31 rfl ?_
        refine fm_istore_n C [(2, .int (x2 + 0)), (0, .ref (b + 0)), (1, .int x1), (3, .int x3)] dX5_empties_31 rfl (by decide) rfl 32 rfl ?_
        refine fm_aload_n C dX5_empties_32 rfl 1 rfl 33 rfl ?_
        refine fm_get C (t := 0) (by decide) (shM_0 _) rfl inG_X5 14 (by decide) F_X5_46 rfl dX5_empties_33 36 rfl ?_
        refine fm_bipush C (x := 12) dX5_empties_36 (by decide) 38 rfl ?_
        refine fm_iload_n C dX5_empties_38 rfl 2 rfl 39 rfl ?_
        refine fm_imul C dX5_empties_39 40 rfl ?_
        refine fm_iload_n C dX5_empties_40 rfl 3 rfl 41 rfl ?_
        refine fm_iadd C dX5_empties_41 42 rfl ?_
        refine fm_iconst C (x := 0) dX5_empties_42 (by decide) 43 rfl ?_
        obtain ⟨m9, e8, hf⟩ := Option.bind_eq_some_iff.mp hf
        refine fm_iast C (t := 13) (t0 := 0) (by decide) shM_13 rfl b6 dX5_empties_43 44 rfl m9 (Option.some.inj e8) ?_
        refine fm_iinc C [(3, .int (x3 + 1)), (2, .int (x2 + 0)), (0, .ref (b + 0)), (1, .int x1)] dX5_empties_44 3 rfl rfl (by decide) rfl 47 rfl ?_
        refine fm_goto C 4 dX5_empties_47 (by decide) ?_
        refine fm_lv [2, 3, 1, 0] [(0, .ref (b + 0)), (1, .int x1), (2, .int (x2 + 0)), (3, .int (x3 + 1))] rfl ?_
        exact ih x1 (x2 + 0) (x3 + 1) m9 hf
      · rw [if_neg c7] at hf
        refine fm_iconst C (x := 1) dX5_empties_25 (by decide) 26 rfl ?_
        refine fm_goto C 30 dX5_empties_26 (by decide) ?_
        refine fm_iadd C dX5_empties_30 31 rfl ?_
        refine fm_istore_n C [(2, .int (x2 + 1)), (0, .ref (b + 0)), (1, .int x1), (3, .int x3)] dX5_empties_31 rfl (by decide) rfl 32 rfl ?_
        refine fm_aload_n C dX5_empties_32 rfl 1 rfl 33 rfl ?_
        refine fm_get C (t := 0) (by decide) (shM_0 _) rfl inG_X5 14 (by decide) F_X5_46 rfl dX5_empties_33 36 rfl ?_
        refine fm_bipush C (x := 12) dX5_empties_36 (by decide) 38 rfl ?_
        refine fm_iload_n C dX5_empties_38 rfl 2 rfl 39 rfl ?_
        refine fm_imul C dX5_empties_39 40 rfl ?_
        refine fm_iload_n C dX5_empties_40 rfl 3 rfl 41 rfl ?_
        refine fm_iadd C dX5_empties_41 42 rfl ?_
        refine fm_iconst C (x := 0) dX5_empties_42 (by decide) 43 rfl ?_
        obtain ⟨m11, e10, hf⟩ := Option.bind_eq_some_iff.mp hf
        refine fm_iast C (t := 13) (t0 := 0) (by decide) shM_13 rfl b6 dX5_empties_43 44 rfl m11 (Option.some.inj e10) ?_
        refine fm_iinc C [(3, .int (x3 + 1)), (2, .int (x2 + 1)), (0, .ref (b + 0)), (1, .int x1)] dX5_empties_44 3 rfl rfl (by decide) rfl 47 rfl ?_
        refine fm_goto C 4 dX5_empties_47 (by decide) ?_
        refine fm_lv [2, 3, 1, 0] [(0, .ref (b + 0)), (1, .int x1), (2, .int (x2 + 1)), (3, .int (x3 + 1))] rfl ?_
        exact ih x1 (x2 + 1) (x3 + 1) m11 hf
def f_X5_empties (x1 : Int32) (v : fm_T) : Option (Int32 × fm_T) := f_X5_empties_4 1000 x1 0 0 v
set_option maxHeartbeats 4000000 in
set_option maxRecDepth 20000 in
theorem c_X5_empties {x1 : Int32}  {v : fm_T} {q : Int32 × fm_T} (hf : f_X5_empties x1 v = some q) : fm_M l D (fm_tys cI cII cLd cOc) tA b 29 (shM cI b) A yX5_empties cX5_empties 4 (some .int) 0 [.ref (b + 0), .int x1] v (some (.int q.1)) q.2 := by
  refine fm_entry (by decide) (Nat.le_of_ble_eq_true rfl) ?_
  intro p e R s m args below meth c C hr hk0 hF hLo
  unfold f_X5_empties at hf
  show fm_V p l e R s m args below meth c D b 29 (shM cI b) A _ 4 0 [(0, .ref (b + 0)), (1, .int x1)] [] v
  refine fm_iconst C (x := 0) dX5_empties_0 (by decide) 1 rfl ?_
  refine fm_istore_n C [(2, .int 0), (0, .ref (b + 0)), (1, .int x1)] dX5_empties_1 rfl (by decide) rfl 2 rfl ?_
  refine fm_iconst C (x := 0) dX5_empties_2 (by decide) 3 rfl ?_
  refine fm_istore_n C [(3, .int 0), (2, .int 0), (0, .ref (b + 0)), (1, .int x1)] dX5_empties_3 rfl (by decide) rfl 4 rfl ?_
  refine fm_lv [2, 3, 1, 0] [(0, .ref (b + 0)), (1, .int x1), (2, .int 0), (3, .int 0)] rfl ?_
  exact b_X5_empties_4  C hr hk0 hF hLo 1000 x1 0 0 v hf
def f_X5_forget (x1 : Int32) (v : fm_T) : Option (Int32 × fm_T) := ((f_X5_isLoader x1 v).bind fun q2 => (if q2.1 = 0 then some ((-1), q2.2) else ((f_X5_empties x1 q2.2).bind fun q5 => some (q5.1, q5.2))))
set_option maxHeartbeats 4000000 in
set_option maxRecDepth 20000 in
theorem c_X5_forget {x1 : Int32}  {v : fm_T} {q : Int32 × fm_T} (hf : f_X5_forget x1 v = some q) : fm_M l D (fm_tys cI cII cLd cOc) tA b 29 (shM cI b) A yX5_forget cX5_forget 2 (some .int) 2 [.ref (b + 0), .int x1] v (some (.int q.1)) q.2 := by
  refine fm_entry (by decide) (Nat.le_of_ble_eq_true rfl) ?_
  intro p e R s m args below meth c C hr hk0 hF hLo
  unfold f_X5_forget at hf
  show fm_V p l e R s m args below meth c D b 29 (shM cI b) A _ 2 0 [(0, .ref (b + 0)), (1, .int x1)] [] v
  refine fm_iload_n C dX5_forget_0 rfl 1 rfl 1 rfl ?_
  obtain ⟨q2, h1, hf⟩ := Option.bind_eq_some_iff.mp hf
  refine fm_callS C Y_X5_isLoader LS_X5_179 (As := [.int x1]) (rest := []) (c_X5_isLoader  h1) (by omega) (by omega) rfl (Nat.le_of_ble_eq_true rfl) dX5_forget_1 4 rfl [.int q2.1] rfl ?_
  refine fm_if_eq C 15 dX5_forget_4 (by decide) (fun c3 => ?_) 7 rfl (fun c3 => ?_)
  · rw [if_pos c3] at hf
    refine fm_iconst C (x := -1) dX5_forget_15 (by decide) 16 rfl ?_
    obtain rfl := Option.some.inj hf
    exact fm_iret C hr hk0 dX5_forget_16
  · rw [if_neg c3] at hf
    refine fm_aload_n C dX5_forget_7 rfl 0 rfl 8 rfl ?_
    refine fm_iload_n C dX5_forget_8 rfl 1 rfl 9 rfl ?_
    obtain ⟨q5, h4, hf⟩ := Option.bind_eq_some_iff.mp hf
    refine fm_callV C Y_X5_empties (t := 0) (by decide) (shM_0 _) rfl LM_X5_192 (As := [.int x1]) (rest := []) (c_X5_empties  h4) (by omega) (by omega) rfl (Nat.le_of_ble_eq_true rfl) dX5_forget_9 12 rfl [.int q5.1] rfl ?_
    refine fm_goto C 16 dX5_forget_12 (by decide) ?_
    obtain rfl := Option.some.inj hf
    exact fm_iret C hr hk0 dX5_forget_16
def f_X5_alike_S57 (u : Nat) : Nat → Nat → Int32 → Int32 → Int32 → Int32 → Int32 → Int32 → fm_T → Option (Int32 × fm_T)
  | 0 => fun _ _ _ _ _ _ _ _ => none
  | n + 1 => fun w x1 x2 x3 x4 x5 x6 v => match w with
    | 0 => (if 5 ≤ x4 then some (x2, v) else ((f_X5_empties x4 v).bind fun q3 => f_X5_alike_S57 u n 1 x1 x2 x3 x4 q3.1 0 q3.2))
    | 1 => (if v 0 8 ≤ x6 then f_X5_alike_S57 u n 2 x1 x2 x3 x4 x5 ((v 0 8) - 1) v else (if x6 < 0 ∨ 40 ≤ x6.toNatClampNeg then none else ((f_X5_push 0 (v 26 x6.toNatClampNeg) v).bind fun q7 => ((f_X5_runs u x4 q7.2).bind fun q9 => (if v 26 x6.toNatClampNeg < 0 ∨ 40 ≤ (v 26 x6.toNatClampNeg).toNatClampNeg then none else (if q9.2 27 ((v 26 x6.toNatClampNeg).toNatClampNeg) = q9.2 0 34 then (if 0 < q9.2 0 34 then (if x4 = 4 then ((some (fm_u q9.2 27 ((v 26 x6.toNatClampNeg).toNatClampNeg) (q9.2 0 34)) : Option fm_T).bind fun m28 => ((some (fm_u m28 28 ((v 26 x6.toNatClampNeg).toNatClampNeg) (m28 0 33)) : Option fm_T).bind fun m30 => f_X5_alike_S57 u n 1 x1 (x2 + 0) x3 x4 x5 (x6 + 1) m30)) else ((some (fm_u q9.2 27 ((v 26 x6.toNatClampNeg).toNatClampNeg) (q9.2 0 34)) : Option fm_T).bind fun m24 => ((some (fm_u m24 28 ((v 26 x6.toNatClampNeg).toNatClampNeg) (m24 0 33)) : Option fm_T).bind fun m26 => f_X5_alike_S57 u n 1 x1 (x2 + 0) x3 x4 x5 (x6 + 1) m26))) else (if q9.2 28 ((v 26 x6.toNatClampNeg).toNatClampNeg) = q9.2 0 33 then (if x4 = 4 then ((some (fm_u q9.2 27 ((v 26 x6.toNatClampNeg).toNatClampNeg) (q9.2 0 34)) : Option fm_T).bind fun m47 => ((some (fm_u m47 28 ((v 26 x6.toNatClampNeg).toNatClampNeg) (m47 0 33)) : Option fm_T).bind fun m49 => f_X5_alike_S57 u n 1 x1 (x2 + 0) x3 x4 x5 (x6 + 1) m49)) else ((some (fm_u q9.2 27 ((v 26 x6.toNatClampNeg).toNatClampNeg) (q9.2 0 34)) : Option fm_T).bind fun m43 => ((some (fm_u m43 28 ((v 26 x6.toNatClampNeg).toNatClampNeg) (m43 0 33)) : Option fm_T).bind fun m45 => f_X5_alike_S57 u n 1 x1 (x2 + 0) x3 x4 x5 (x6 + 1) m45))) else (if x4 = 4 then ((some (fm_u q9.2 27 ((v 26 x6.toNatClampNeg).toNatClampNeg) (q9.2 0 34)) : Option fm_T).bind fun m38 => ((some (fm_u m38 28 ((v 26 x6.toNatClampNeg).toNatClampNeg) (m38 0 33)) : Option fm_T).bind fun m40 => f_X5_alike_S57 u n 1 x1 (x2 + 1) x3 x4 x5 (x6 + 1) m40)) else ((some (fm_u q9.2 27 ((v 26 x6.toNatClampNeg).toNatClampNeg) (q9.2 0 34)) : Option fm_T).bind fun m34 => ((some (fm_u m34 28 ((v 26 x6.toNatClampNeg).toNatClampNeg) (m34 0 33)) : Option fm_T).bind fun m36 => f_X5_alike_S57 u n 1 x1 (x2 + 0) x3 x4 x5 (x6 + 1) m36))))) else (if x4 = 4 then ((some (fm_u q9.2 27 ((v 26 x6.toNatClampNeg).toNatClampNeg) (q9.2 0 34)) : Option fm_T).bind fun m18 => ((some (fm_u m18 28 ((v 26 x6.toNatClampNeg).toNatClampNeg) (m18 0 33)) : Option fm_T).bind fun m20 => f_X5_alike_S57 u n 1 x1 (x2 + 1) x3 x4 x5 (x6 + 1) m20)) else ((some (fm_u q9.2 27 ((v 26 x6.toNatClampNeg).toNatClampNeg) (q9.2 0 34)) : Option fm_T).bind fun m14 => ((some (fm_u m14 28 ((v 26 x6.toNatClampNeg).toNatClampNeg) (m14 0 33)) : Option fm_T).bind fun m16 => f_X5_alike_S57 u n 1 x1 (x2 + 0) x3 x4 x5 (x6 + 1) m16)))))))))
    | _ => (if x6 ≤ 0 then f_X5_alike_S57 u n 0 x1 x2 x3 (x4 + 1) 0 0 v else (if x6 + 1 = 0 then none else (if x6 < 0 ∨ 40 ≤ x6.toNatClampNeg then none else (if ((((x3 * 1103515245) + 12345).toUInt32 >>> ((16 : Int32).toUInt32 &&& Int32.toUInt32 31)).toInt32) - ((((x3 * 1103515245) + 12345).toUInt32 >>> ((16 : Int32).toUInt32 &&& Int32.toUInt32 31)).toInt32) / (x6 + 1) * (x6 + 1) < 0 ∨ 40 ≤ (((((x3 * 1103515245) + 12345).toUInt32 >>> ((16 : Int32).toUInt32 &&& Int32.toUInt32 31)).toInt32) - ((((x3 * 1103515245) + 12345).toUInt32 >>> ((16 : Int32).toUInt32 &&& Int32.toUInt32 31)).toInt32) / (x6 + 1) * (x6 + 1)).toNatClampNeg then none else ((some (fm_u v 26 x6.toNatClampNeg (v 26 ((((((x3 * 1103515245) + 12345).toUInt32 >>> ((16 : Int32).toUInt32 &&& Int32.toUInt32 31)).toInt32) - ((((x3 * 1103515245) + 12345).toUInt32 >>> ((16 : Int32).toUInt32 &&& Int32.toUInt32 31)).toInt32) / (x6 + 1) * (x6 + 1)).toNatClampNeg))) : Option fm_T).bind fun m55 => ((some (fm_u m55 26 ((((((x3 * 1103515245) + 12345).toUInt32 >>> ((16 : Int32).toUInt32 &&& Int32.toUInt32 31)).toInt32) - ((((x3 * 1103515245) + 12345).toUInt32 >>> ((16 : Int32).toUInt32 &&& Int32.toUInt32 31)).toInt32) / (x6 + 1) * (x6 + 1)).toNatClampNeg) (v 26 x6.toNatClampNeg)) : Option fm_T).bind fun m57 => f_X5_alike_S57 u n 2 x1 x2 ((x3 * 1103515245) + 12345) x4 x5 (x6 + (-1)) m57))))))
theorem f_X5_alike_S57_s0 (u : Nat) (n : Nat)  (x1 x2 x3 x4 x5 x6 : Int32) (v : fm_T) : f_X5_alike_S57 u (n + 1) 0 x1 x2 x3 x4 x5 x6 v = (if 5 ≤ x4 then some (x2, v) else ((f_X5_empties x4 v).bind fun q3 => f_X5_alike_S57 u n 1 x1 x2 x3 x4 q3.1 0 q3.2)) := rfl
theorem f_X5_alike_S57_s1 (u : Nat) (n : Nat)  (x1 x2 x3 x4 x5 x6 : Int32) (v : fm_T) : f_X5_alike_S57 u (n + 1) 1 x1 x2 x3 x4 x5 x6 v = (if v 0 8 ≤ x6 then f_X5_alike_S57 u n 2 x1 x2 x3 x4 x5 ((v 0 8) - 1) v else (if x6 < 0 ∨ 40 ≤ x6.toNatClampNeg then none else ((f_X5_push 0 (v 26 x6.toNatClampNeg) v).bind fun q7 => ((f_X5_runs u x4 q7.2).bind fun q9 => (if v 26 x6.toNatClampNeg < 0 ∨ 40 ≤ (v 26 x6.toNatClampNeg).toNatClampNeg then none else (if q9.2 27 ((v 26 x6.toNatClampNeg).toNatClampNeg) = q9.2 0 34 then (if 0 < q9.2 0 34 then (if x4 = 4 then ((some (fm_u q9.2 27 ((v 26 x6.toNatClampNeg).toNatClampNeg) (q9.2 0 34)) : Option fm_T).bind fun m28 => ((some (fm_u m28 28 ((v 26 x6.toNatClampNeg).toNatClampNeg) (m28 0 33)) : Option fm_T).bind fun m30 => f_X5_alike_S57 u n 1 x1 (x2 + 0) x3 x4 x5 (x6 + 1) m30)) else ((some (fm_u q9.2 27 ((v 26 x6.toNatClampNeg).toNatClampNeg) (q9.2 0 34)) : Option fm_T).bind fun m24 => ((some (fm_u m24 28 ((v 26 x6.toNatClampNeg).toNatClampNeg) (m24 0 33)) : Option fm_T).bind fun m26 => f_X5_alike_S57 u n 1 x1 (x2 + 0) x3 x4 x5 (x6 + 1) m26))) else (if q9.2 28 ((v 26 x6.toNatClampNeg).toNatClampNeg) = q9.2 0 33 then (if x4 = 4 then ((some (fm_u q9.2 27 ((v 26 x6.toNatClampNeg).toNatClampNeg) (q9.2 0 34)) : Option fm_T).bind fun m47 => ((some (fm_u m47 28 ((v 26 x6.toNatClampNeg).toNatClampNeg) (m47 0 33)) : Option fm_T).bind fun m49 => f_X5_alike_S57 u n 1 x1 (x2 + 0) x3 x4 x5 (x6 + 1) m49)) else ((some (fm_u q9.2 27 ((v 26 x6.toNatClampNeg).toNatClampNeg) (q9.2 0 34)) : Option fm_T).bind fun m43 => ((some (fm_u m43 28 ((v 26 x6.toNatClampNeg).toNatClampNeg) (m43 0 33)) : Option fm_T).bind fun m45 => f_X5_alike_S57 u n 1 x1 (x2 + 0) x3 x4 x5 (x6 + 1) m45))) else (if x4 = 4 then ((some (fm_u q9.2 27 ((v 26 x6.toNatClampNeg).toNatClampNeg) (q9.2 0 34)) : Option fm_T).bind fun m38 => ((some (fm_u m38 28 ((v 26 x6.toNatClampNeg).toNatClampNeg) (m38 0 33)) : Option fm_T).bind fun m40 => f_X5_alike_S57 u n 1 x1 (x2 + 1) x3 x4 x5 (x6 + 1) m40)) else ((some (fm_u q9.2 27 ((v 26 x6.toNatClampNeg).toNatClampNeg) (q9.2 0 34)) : Option fm_T).bind fun m34 => ((some (fm_u m34 28 ((v 26 x6.toNatClampNeg).toNatClampNeg) (m34 0 33)) : Option fm_T).bind fun m36 => f_X5_alike_S57 u n 1 x1 (x2 + 0) x3 x4 x5 (x6 + 1) m36))))) else (if x4 = 4 then ((some (fm_u q9.2 27 ((v 26 x6.toNatClampNeg).toNatClampNeg) (q9.2 0 34)) : Option fm_T).bind fun m18 => ((some (fm_u m18 28 ((v 26 x6.toNatClampNeg).toNatClampNeg) (m18 0 33)) : Option fm_T).bind fun m20 => f_X5_alike_S57 u n 1 x1 (x2 + 1) x3 x4 x5 (x6 + 1) m20)) else ((some (fm_u q9.2 27 ((v 26 x6.toNatClampNeg).toNatClampNeg) (q9.2 0 34)) : Option fm_T).bind fun m14 => ((some (fm_u m14 28 ((v 26 x6.toNatClampNeg).toNatClampNeg) (m14 0 33)) : Option fm_T).bind fun m16 => f_X5_alike_S57 u n 1 x1 (x2 + 0) x3 x4 x5 (x6 + 1) m16))))))))) := rfl
theorem f_X5_alike_S57_s2 (u : Nat) (n : Nat)  (x1 x2 x3 x4 x5 x6 : Int32) (v : fm_T) : f_X5_alike_S57 u (n + 1) 2 x1 x2 x3 x4 x5 x6 v = (if x6 ≤ 0 then f_X5_alike_S57 u n 0 x1 x2 x3 (x4 + 1) 0 0 v else (if x6 + 1 = 0 then none else (if x6 < 0 ∨ 40 ≤ x6.toNatClampNeg then none else (if ((((x3 * 1103515245) + 12345).toUInt32 >>> ((16 : Int32).toUInt32 &&& Int32.toUInt32 31)).toInt32) - ((((x3 * 1103515245) + 12345).toUInt32 >>> ((16 : Int32).toUInt32 &&& Int32.toUInt32 31)).toInt32) / (x6 + 1) * (x6 + 1) < 0 ∨ 40 ≤ (((((x3 * 1103515245) + 12345).toUInt32 >>> ((16 : Int32).toUInt32 &&& Int32.toUInt32 31)).toInt32) - ((((x3 * 1103515245) + 12345).toUInt32 >>> ((16 : Int32).toUInt32 &&& Int32.toUInt32 31)).toInt32) / (x6 + 1) * (x6 + 1)).toNatClampNeg then none else ((some (fm_u v 26 x6.toNatClampNeg (v 26 ((((((x3 * 1103515245) + 12345).toUInt32 >>> ((16 : Int32).toUInt32 &&& Int32.toUInt32 31)).toInt32) - ((((x3 * 1103515245) + 12345).toUInt32 >>> ((16 : Int32).toUInt32 &&& Int32.toUInt32 31)).toInt32) / (x6 + 1) * (x6 + 1)).toNatClampNeg))) : Option fm_T).bind fun m55 => ((some (fm_u m55 26 ((((((x3 * 1103515245) + 12345).toUInt32 >>> ((16 : Int32).toUInt32 &&& Int32.toUInt32 31)).toInt32) - ((((x3 * 1103515245) + 12345).toUInt32 >>> ((16 : Int32).toUInt32 &&& Int32.toUInt32 31)).toInt32) / (x6 + 1) * (x6 + 1)).toNatClampNeg) (v 26 x6.toNatClampNeg)) : Option fm_T).bind fun m57 => f_X5_alike_S57 u n 2 x1 x2 ((x3 * 1103515245) + 12345) x4 x5 (x6 + (-1)) m57)))))) := rfl
set_option maxHeartbeats 8000000 in
set_option maxRecDepth 20000 in
theorem b_X5_alike_S57  (u : Nat)  {p : Program} {e : Env} {R : Room} {s : State} {m : MethodId} {args : Array Value} {below : List Frame} {meth : Method} {c : Code} (C : fm_C p s m args c cX5_alike RX5 9 D (fm_tys cI cII cLd cOc) tA b 29 A) (hr : meth.sig.returnType = (some .int)) (hk0 : meth.locks = false) (hF : 6 ≤ R.frames) (hLo : 40 * 6 ≤ R.locals) : ∀ (n : Nat), (∀ (x1 x2 x3 x4 : Int32) (v : fm_T) {q : Int32 × fm_T}, f_X5_alike_S57 u n 0 x1 x2 x3 x4 0 0 v = some q → fm_V p l e R s m args below meth c D b 29 (shM cI b) A (MQ below (fm_Q D b 29 (shM cI b) A (some (.int q.1)) q.2) args s 0 0 A) 9 57 [(0, .ref (b + 0)), (1, .int x1), (2, .int x2), (3, .int x3), (4, .int x4)] [] v) ∧ (∀ (x1 x2 x3 x4 x5 x6 : Int32) (v : fm_T) {q : Int32 × fm_T}, f_X5_alike_S57 u n 1 x1 x2 x3 x4 x5 x6 v = some q → fm_V p l e R s m args below meth c D b 29 (shM cI b) A (MQ below (fm_Q D b 29 (shM cI b) A (some (.int q.1)) q.2) args s 0 0 A) 9 74 [(0, .ref (b + 0)), (1, .int x1), (2, .int x2), (3, .int x3), (4, .int x4), (5, .int x5), (6, .int x6)] [] v) ∧ (∀ (x1 x2 x3 x4 x5 x6 : Int32) (v : fm_T) {q : Int32 × fm_T}, f_X5_alike_S57 u n 2 x1 x2 x3 x4 x5 x6 v = some q → fm_V p l e R s m args below meth c D b 29 (shM cI b) A (MQ below (fm_Q D b 29 (shM cI b) A (some (.int q.1)) q.2) args s 0 0 A) 9 202 [(0, .ref (b + 0)), (1, .int x1), (2, .int x2), (3, .int x3), (4, .int x4), (5, .int x5), (6, .int x6)] [] v) := by
  intro n
  induction n with
  | zero =>
    refine ⟨?_, ?_, ?_⟩ <;> (intros; rename_i hf; cases hf)
  | succ n ih =>
    refine ⟨?_, ?_, ?_⟩
    · intro x1 x2 x3 x4 v q hf
      rw [f_X5_alike_S57_s0] at hf
      refine fm_iload C dX5_alike_57 4 rfl 59 rfl ?_
      refine fm_iconst C (x := 5) dX5_alike_59 (by decide) 60 rfl ?_
      refine fm_icmp_ge C 271 dX5_alike_60 (by decide) (fun c1 => ?_) 63 rfl (fun c1 => ?_)
      · rw [if_pos c1] at hf
        refine fm_iload_n C dX5_alike_271 rfl 2 rfl 272 rfl ?_
        obtain rfl := Option.some.inj hf
        exact fm_iret C hr hk0 dX5_alike_272
      · rw [if_neg c1] at hf
        refine fm_aload_n C dX5_alike_63 rfl 0 rfl 64 rfl ?_
        refine fm_iload C dX5_alike_64 4 rfl 66 rfl ?_
        obtain ⟨q3, h2, hf⟩ := Option.bind_eq_some_iff.mp hf
        refine fm_callV C Y_X5_empties (t := 0) (by decide) (shM_0 _) rfl LM_X5_192 (As := [.int x4]) (rest := []) (c_X5_empties  h2) (by omega) (by omega) rfl (Nat.le_of_ble_eq_true rfl) dX5_alike_66 69 rfl [.int q3.1] rfl ?_
        refine fm_istore C [(5, .int q3.1), (0, .ref (b + 0)), (1, .int x1), (2, .int x2), (3, .int x3), (4, .int x4)] dX5_alike_69 (by decide) rfl 71 rfl ?_
        refine fm_iconst C (x := 0) dX5_alike_71 (by decide) 72 rfl ?_
        refine fm_istore C [(6, .int 0), (5, .int q3.1), (0, .ref (b + 0)), (1, .int x1), (2, .int x2), (3, .int x3), (4, .int x4)] dX5_alike_72 (by decide) rfl 74 rfl ?_
        refine fm_lv [2, 3, 4, 5, 6, 1, 0] [(0, .ref (b + 0)), (1, .int x1), (2, .int x2), (3, .int x3), (4, .int x4), (5, .int q3.1), (6, .int 0)] rfl ?_
        exact ih.2.1 x1 x2 x3 x4 q3.1 0 q3.2 hf
    · intro x1 x2 x3 x4 x5 x6 v q hf
      rw [f_X5_alike_S57_s1] at hf
      refine fm_iload C dX5_alike_74 6 rfl 76 rfl ?_
      refine fm_aload_n C dX5_alike_76 rfl 0 rfl 77 rfl ?_
      refine fm_get C (t := 0) (by decide) (shM_0 _) rfl inG_X5 8 (by decide) F_X5_106 rfl dX5_alike_77 80 rfl ?_
      refine fm_icmp_ge C 194 dX5_alike_80 (by decide) (fun c4 => ?_) 83 rfl (fun c4 => ?_)
      · rw [if_pos c4] at hf
        refine fm_aload_n C dX5_alike_194 rfl 0 rfl 195 rfl ?_
        refine fm_get C (t := 0) (by decide) (shM_0 _) rfl inG_X5 8 (by decide) F_X5_106 rfl dX5_alike_195 198 rfl ?_
        refine fm_iconst C (x := 1) dX5_alike_198 (by decide) 199 rfl ?_
        refine fm_isub C dX5_alike_199 200 rfl ?_
        refine fm_istore C [(6, .int ((v 0 8) - 1)), (0, .ref (b + 0)), (1, .int x1), (2, .int x2), (3, .int x3), (4, .int x4), (5, .int x5)] dX5_alike_200 (by decide) rfl 202 rfl ?_
        refine fm_lv [1, 2, 3, 4, 5, 6, 0] [(0, .ref (b + 0)), (1, .int x1), (2, .int x2), (3, .int x3), (4, .int x4), (5, .int x5), (6, .int ((v 0 8) - 1))] rfl ?_
        exact ih.2.2 x1 x2 x3 x4 x5 ((v 0 8) - 1) v hf
      · rw [if_neg c4] at hf
        refine fm_aload_n C dX5_alike_83 rfl 0 rfl 84 rfl ?_
        refine fm_get C (t := 0) (by decide) (shM_0 _) rfl inG_X5 38 (by decide) F_X5_85 rfl dX5_alike_84 87 rfl ?_
        refine fm_iload C dX5_alike_87 6 rfl 89 rfl ?_
        by_cases b5 : x6 < 0 ∨ 40 ≤ x6.toNatClampNeg
        · rw [if_pos b5] at hf; cases hf
        rw [if_neg b5] at hf
        refine fm_iald C (t := 26) (t0 := 0) (by decide) (shM_26 _) rfl b5 dX5_alike_89 90 rfl ?_
        refine fm_istore C [(7, .int (v 26 x6.toNatClampNeg)), (0, .ref (b + 0)), (1, .int x1), (2, .int x2), (3, .int x3), (4, .int x4), (5, .int x5), (6, .int x6)] dX5_alike_90 (by decide) rfl 92 rfl ?_
        refine fm_aload_n C dX5_alike_92 rfl 1 rfl 93 rfl ?_
        refine fm_iconst C (x := 0) dX5_alike_93 (by decide) 94 rfl ?_
        refine fm_iload C dX5_alike_94 0 rfl 96 rfl ?_
        obtain ⟨q7, h6, hf⟩ := Option.bind_eq_some_iff.mp hf
        refine fm_callV C Y_X5_push (t := 0) (by decide) (shM_0 _) rfl LM_X5_144 (As := [.int 0, .int (v 26 x6.toNatClampNeg)]) (rest := []) (c_X5_push  h6) (by omega) (by omega) rfl (Nat.le_of_ble_eq_true rfl) dX5_alike_96 99 rfl [] rfl ?_
        refine fm_aload_n C dX5_alike_99 rfl 1 rfl 100 rfl ?_
        refine fm_iload C dX5_alike_100 5 rfl 102 rfl ?_
        obtain ⟨q9, h8, hf⟩ := Option.bind_eq_some_iff.mp hf
        refine fm_callV C Y_X5_runs (t := 0) (by decide) (shM_0 _) rfl LM_X5_182 (As := [.int x4]) (rest := []) (c_X5_runs u  h8) (by omega) (by omega) rfl (Nat.le_of_ble_eq_true rfl) dX5_alike_102 105 rfl [] rfl ?_
        refine fm_aload_n C dX5_alike_105 rfl 1 rfl 106 rfl ?_
        refine fm_get C (t := 0) (by decide) (shM_0 _) rfl inG_X5 39 (by decide) F_X5_88 rfl dX5_alike_106 109 rfl ?_
        refine fm_iload C dX5_alike_109 0 rfl 111 rfl ?_
        by_cases b10 : v 26 x6.toNatClampNeg < 0 ∨ 40 ≤ (v 26 x6.toNatClampNeg).toNatClampNeg
        · rw [if_pos b10] at hf; cases hf
        rw [if_neg b10] at hf
        refine fm_iald C (t := 27) (t0 := 0) (by decide) (shM_27 _) rfl b10 dX5_alike_111 112 rfl ?_
        refine fm_aload_n C dX5_alike_112 rfl 1 rfl 113 rfl ?_
        refine fm_get C (t := 0) (by decide) (shM_0 _) rfl inG_X5 34 (by decide) F_X5_119 rfl dX5_alike_113 116 rfl ?_
        refine fm_icmp_ne C 144 dX5_alike_116 (by decide) (fun c11 => ?_) 119 rfl (fun c11 => ?_)
        · rw [if_neg c11] at hf
          refine fm_iconst C (x := 0) dX5_alike_144 (by decide) 145 rfl ?_
          refine fm_istore C [(8, .int 0), (7, .int (v 26 x6.toNatClampNeg)), (0, .ref (b + 0)), (1, .int x1), (2, .int x2), (3, .int x3), (4, .int x4), (5, .int x5), (6, .int x6)] dX5_alike_145 (by decide) rfl 147 rfl ?_
          refine fm_iload_n C dX5_alike_147 rfl 4 rfl 148 rfl ?_
          refine fm_iload C dX5_alike_148 6 rfl 150 rfl ?_
          refine fm_iconst C (x := 4) dX5_alike_150 (by decide) 151 rfl ?_
          refine fm_icmp_ne C 163 dX5_alike_151 (by decide) (fun c12 => ?_) 154 rfl (fun c12 => ?_)
          · rw [if_neg c12] at hf
            refine fm_iconst C (x := 0) dX5_alike_163 (by decide) 164 rfl ?_
            refine fm_iadd C dX5_alike_164 165 rfl ?_
            refine fm_istore_n C [(2, .int (x2 + 0)), (8, .int 0), (7, .int (v 26 x6.toNatClampNeg)), (0, .ref (b + 0)), (1, .int x1), (3, .int x3), (4, .int x4), (5, .int x5), (6, .int x6)] dX5_alike_165 rfl (by decide) rfl 166 rfl ?_
            refine fm_aload_n C dX5_alike_166 rfl 3 rfl 167 rfl ?_
            refine fm_get C (t := 0) (by decide) (shM_0 _) rfl inG_X5 39 (by decide) F_X5_88 rfl dX5_alike_167 170 rfl ?_
            refine fm_iload C dX5_alike_170 2 rfl 172 rfl ?_
            refine fm_aload_n C dX5_alike_172 rfl 3 rfl 173 rfl ?_
            refine fm_get C (t := 0) (by decide) (shM_0 _) rfl inG_X5 34 (by decide) F_X5_119 rfl dX5_alike_173 176 rfl ?_
            obtain ⟨m14, e13, hf⟩ := Option.bind_eq_some_iff.mp hf
            refine fm_iast C (t := 27) (t0 := 0) (by decide) shM_27 rfl b10 dX5_alike_176 177 rfl m14 (Option.some.inj e13) ?_
            refine fm_aload_n C dX5_alike_177 rfl 3 rfl 178 rfl ?_
            refine fm_get C (t := 0) (by decide) (shM_0 _) rfl inG_X5 40 (by decide) F_X5_91 rfl dX5_alike_178 181 rfl ?_
            refine fm_iload C dX5_alike_181 2 rfl 183 rfl ?_
            refine fm_aload_n C dX5_alike_183 rfl 3 rfl 184 rfl ?_
            refine fm_get C (t := 0) (by decide) (shM_0 _) rfl inG_X5 33 (by decide) F_X5_131 rfl dX5_alike_184 187 rfl ?_
            obtain ⟨m16, e15, hf⟩ := Option.bind_eq_some_iff.mp hf
            refine fm_iast C (t := 28) (t0 := 0) (by decide) shM_28 rfl b10 dX5_alike_187 188 rfl m16 (Option.some.inj e15) ?_
            refine fm_iinc C [(6, .int (x6 + 1)), (2, .int (x2 + 0)), (8, .int 0), (7, .int (v 26 x6.toNatClampNeg)), (0, .ref (b + 0)), (1, .int x1), (3, .int x3), (4, .int x4), (5, .int x5)] dX5_alike_188 8 rfl rfl (by decide) rfl 191 rfl ?_
            refine fm_goto C 74 dX5_alike_191 (by decide) ?_
            refine fm_lv [4, 5, 1, 6, 7, 8, 0] [(0, .ref (b + 0)), (1, .int x1), (2, .int (x2 + 0)), (3, .int x3), (4, .int x4), (5, .int x5), (6, .int (x6 + 1))] rfl ?_
            exact ih.2.1 x1 (x2 + 0) x3 x4 x5 (x6 + 1) m16 hf
          · rw [if_pos c12] at hf
            refine fm_iload C dX5_alike_154 0 rfl 156 rfl ?_
            refine fm_if_ne C 163 dX5_alike_156 (by decide) (fun c0 => absurd c0 (by decide)) 159 rfl (fun _ => ?_)
            refine fm_iconst C (x := 1) dX5_alike_159 (by decide) 160 rfl ?_
            refine fm_goto C 164 dX5_alike_160 (by decide) ?_
            refine fm_iadd C dX5_alike_164 165 rfl ?_
            refine fm_istore_n C [(2, .int (x2 + 1)), (8, .int 0), (7, .int (v 26 x6.toNatClampNeg)), (0, .ref (b + 0)), (1, .int x1), (3, .int x3), (4, .int x4), (5, .int x5), (6, .int x6)] dX5_alike_165 rfl (by decide) rfl 166 rfl ?_
            refine fm_aload_n C dX5_alike_166 rfl 3 rfl 167 rfl ?_
            refine fm_get C (t := 0) (by decide) (shM_0 _) rfl inG_X5 39 (by decide) F_X5_88 rfl dX5_alike_167 170 rfl ?_
            refine fm_iload C dX5_alike_170 2 rfl 172 rfl ?_
            refine fm_aload_n C dX5_alike_172 rfl 3 rfl 173 rfl ?_
            refine fm_get C (t := 0) (by decide) (shM_0 _) rfl inG_X5 34 (by decide) F_X5_119 rfl dX5_alike_173 176 rfl ?_
            obtain ⟨m18, e17, hf⟩ := Option.bind_eq_some_iff.mp hf
            refine fm_iast C (t := 27) (t0 := 0) (by decide) shM_27 rfl b10 dX5_alike_176 177 rfl m18 (Option.some.inj e17) ?_
            refine fm_aload_n C dX5_alike_177 rfl 3 rfl 178 rfl ?_
            refine fm_get C (t := 0) (by decide) (shM_0 _) rfl inG_X5 40 (by decide) F_X5_91 rfl dX5_alike_178 181 rfl ?_
            refine fm_iload C dX5_alike_181 2 rfl 183 rfl ?_
            refine fm_aload_n C dX5_alike_183 rfl 3 rfl 184 rfl ?_
            refine fm_get C (t := 0) (by decide) (shM_0 _) rfl inG_X5 33 (by decide) F_X5_131 rfl dX5_alike_184 187 rfl ?_
            obtain ⟨m20, e19, hf⟩ := Option.bind_eq_some_iff.mp hf
            refine fm_iast C (t := 28) (t0 := 0) (by decide) shM_28 rfl b10 dX5_alike_187 188 rfl m20 (Option.some.inj e19) ?_
            refine fm_iinc C [(6, .int (x6 + 1)), (2, .int (x2 + 1)), (8, .int 0), (7, .int (v 26 x6.toNatClampNeg)), (0, .ref (b + 0)), (1, .int x1), (3, .int x3), (4, .int x4), (5, .int x5)] dX5_alike_188 8 rfl rfl (by decide) rfl 191 rfl ?_
            refine fm_goto C 74 dX5_alike_191 (by decide) ?_
            refine fm_lv [4, 5, 1, 6, 7, 8, 0] [(0, .ref (b + 0)), (1, .int x1), (2, .int (x2 + 1)), (3, .int x3), (4, .int x4), (5, .int x5), (6, .int (x6 + 1))] rfl ?_
            exact ih.2.1 x1 (x2 + 1) x3 x4 x5 (x6 + 1) m20 hf
        · rw [if_pos c11] at hf
          refine fm_aload_n C dX5_alike_119 rfl 1 rfl 120 rfl ?_
          refine fm_get C (t := 0) (by decide) (shM_0 _) rfl inG_X5 34 (by decide) F_X5_119 rfl dX5_alike_120 123 rfl ?_
          refine fm_if_gt C 140 dX5_alike_123 (by decide) (fun c21 => ?_) 126 rfl (fun c21 => ?_)
          · rw [if_pos c21] at hf
            refine fm_iconst C (x := 1) dX5_alike_140 (by decide) 141 rfl ?_
            refine fm_goto C 145 dX5_alike_141 (by decide) ?_
            refine fm_istore C [(8, .int 1), (7, .int (v 26 x6.toNatClampNeg)), (0, .ref (b + 0)), (1, .int x1), (2, .int x2), (3, .int x3), (4, .int x4), (5, .int x5), (6, .int x6)] dX5_alike_145 (by decide) rfl 147 rfl ?_
            refine fm_iload_n C dX5_alike_147 rfl 4 rfl 148 rfl ?_
            refine fm_iload C dX5_alike_148 6 rfl 150 rfl ?_
            refine fm_iconst C (x := 4) dX5_alike_150 (by decide) 151 rfl ?_
            refine fm_icmp_ne C 163 dX5_alike_151 (by decide) (fun c22 => ?_) 154 rfl (fun c22 => ?_)
            · rw [if_neg c22] at hf
              refine fm_iconst C (x := 0) dX5_alike_163 (by decide) 164 rfl ?_
              refine fm_iadd C dX5_alike_164 165 rfl ?_
              refine fm_istore_n C [(2, .int (x2 + 0)), (8, .int 1), (7, .int (v 26 x6.toNatClampNeg)), (0, .ref (b + 0)), (1, .int x1), (3, .int x3), (4, .int x4), (5, .int x5), (6, .int x6)] dX5_alike_165 rfl (by decide) rfl 166 rfl ?_
              refine fm_aload_n C dX5_alike_166 rfl 3 rfl 167 rfl ?_
              refine fm_get C (t := 0) (by decide) (shM_0 _) rfl inG_X5 39 (by decide) F_X5_88 rfl dX5_alike_167 170 rfl ?_
              refine fm_iload C dX5_alike_170 2 rfl 172 rfl ?_
              refine fm_aload_n C dX5_alike_172 rfl 3 rfl 173 rfl ?_
              refine fm_get C (t := 0) (by decide) (shM_0 _) rfl inG_X5 34 (by decide) F_X5_119 rfl dX5_alike_173 176 rfl ?_
              obtain ⟨m24, e23, hf⟩ := Option.bind_eq_some_iff.mp hf
              refine fm_iast C (t := 27) (t0 := 0) (by decide) shM_27 rfl b10 dX5_alike_176 177 rfl m24 (Option.some.inj e23) ?_
              refine fm_aload_n C dX5_alike_177 rfl 3 rfl 178 rfl ?_
              refine fm_get C (t := 0) (by decide) (shM_0 _) rfl inG_X5 40 (by decide) F_X5_91 rfl dX5_alike_178 181 rfl ?_
              refine fm_iload C dX5_alike_181 2 rfl 183 rfl ?_
              refine fm_aload_n C dX5_alike_183 rfl 3 rfl 184 rfl ?_
              refine fm_get C (t := 0) (by decide) (shM_0 _) rfl inG_X5 33 (by decide) F_X5_131 rfl dX5_alike_184 187 rfl ?_
              obtain ⟨m26, e25, hf⟩ := Option.bind_eq_some_iff.mp hf
              refine fm_iast C (t := 28) (t0 := 0) (by decide) shM_28 rfl b10 dX5_alike_187 188 rfl m26 (Option.some.inj e25) ?_
              refine fm_iinc C [(6, .int (x6 + 1)), (2, .int (x2 + 0)), (8, .int 1), (7, .int (v 26 x6.toNatClampNeg)), (0, .ref (b + 0)), (1, .int x1), (3, .int x3), (4, .int x4), (5, .int x5)] dX5_alike_188 8 rfl rfl (by decide) rfl 191 rfl ?_
              refine fm_goto C 74 dX5_alike_191 (by decide) ?_
              refine fm_lv [4, 5, 1, 6, 7, 8, 0] [(0, .ref (b + 0)), (1, .int x1), (2, .int (x2 + 0)), (3, .int x3), (4, .int x4), (5, .int x5), (6, .int (x6 + 1))] rfl ?_
              exact ih.2.1 x1 (x2 + 0) x3 x4 x5 (x6 + 1) m26 hf
            · rw [if_pos c22] at hf
              refine fm_iload C dX5_alike_154 0 rfl 156 rfl ?_
              refine fm_if_ne C 163 dX5_alike_156 (by decide) (fun _ => ?_) 159 rfl (fun c0 => absurd c0 (by decide))
              refine fm_iconst C (x := 0) dX5_alike_163 (by decide) 164 rfl ?_
              refine fm_iadd C dX5_alike_164 165 rfl ?_
              refine fm_istore_n C [(2, .int (x2 + 0)), (8, .int 1), (7, .int (v 26 x6.toNatClampNeg)), (0, .ref (b + 0)), (1, .int x1), (3, .int x3), (4, .int x4), (5, .int x5), (6, .int x6)] dX5_alike_165 rfl (by decide) rfl 166 rfl ?_
              refine fm_aload_n C dX5_alike_166 rfl 3 rfl 167 rfl ?_
              refine fm_get C (t := 0) (by decide) (shM_0 _) rfl inG_X5 39 (by decide) F_X5_88 rfl dX5_alike_167 170 rfl ?_
              refine fm_iload C dX5_alike_170 2 rfl 172 rfl ?_
              refine fm_aload_n C dX5_alike_172 rfl 3 rfl 173 rfl ?_
              refine fm_get C (t := 0) (by decide) (shM_0 _) rfl inG_X5 34 (by decide) F_X5_119 rfl dX5_alike_173 176 rfl ?_
              obtain ⟨m28, e27, hf⟩ := Option.bind_eq_some_iff.mp hf
              refine fm_iast C (t := 27) (t0 := 0) (by decide) shM_27 rfl b10 dX5_alike_176 177 rfl m28 (Option.some.inj e27) ?_
              refine fm_aload_n C dX5_alike_177 rfl 3 rfl 178 rfl ?_
              refine fm_get C (t := 0) (by decide) (shM_0 _) rfl inG_X5 40 (by decide) F_X5_91 rfl dX5_alike_178 181 rfl ?_
              refine fm_iload C dX5_alike_181 2 rfl 183 rfl ?_
              refine fm_aload_n C dX5_alike_183 rfl 3 rfl 184 rfl ?_
              refine fm_get C (t := 0) (by decide) (shM_0 _) rfl inG_X5 33 (by decide) F_X5_131 rfl dX5_alike_184 187 rfl ?_
              obtain ⟨m30, e29, hf⟩ := Option.bind_eq_some_iff.mp hf
              refine fm_iast C (t := 28) (t0 := 0) (by decide) shM_28 rfl b10 dX5_alike_187 188 rfl m30 (Option.some.inj e29) ?_
              refine fm_iinc C [(6, .int (x6 + 1)), (2, .int (x2 + 0)), (8, .int 1), (7, .int (v 26 x6.toNatClampNeg)), (0, .ref (b + 0)), (1, .int x1), (3, .int x3), (4, .int x4), (5, .int x5)] dX5_alike_188 8 rfl rfl (by decide) rfl 191 rfl ?_
              refine fm_goto C 74 dX5_alike_191 (by decide) ?_
              refine fm_lv [4, 5, 1, 6, 7, 8, 0] [(0, .ref (b + 0)), (1, .int x1), (2, .int (x2 + 0)), (3, .int x3), (4, .int x4), (5, .int x5), (6, .int (x6 + 1))] rfl ?_
              exact ih.2.1 x1 (x2 + 0) x3 x4 x5 (x6 + 1) m30 hf
          · rw [if_neg c21] at hf
            refine fm_aload_n C dX5_alike_126 rfl 1 rfl 127 rfl ?_
            refine fm_get C (t := 0) (by decide) (shM_0 _) rfl inG_X5 40 (by decide) F_X5_91 rfl dX5_alike_127 130 rfl ?_
            refine fm_iload C dX5_alike_130 0 rfl 132 rfl ?_
            refine fm_iald C (t := 28) (t0 := 0) (by decide) (shM_28 _) rfl b10 dX5_alike_132 133 rfl ?_
            refine fm_aload_n C dX5_alike_133 rfl 1 rfl 134 rfl ?_
            refine fm_get C (t := 0) (by decide) (shM_0 _) rfl inG_X5 33 (by decide) F_X5_131 rfl dX5_alike_134 137 rfl ?_
            refine fm_icmp_ne C 144 dX5_alike_137 (by decide) (fun c31 => ?_) 140 rfl (fun c31 => ?_)
            · rw [if_neg c31] at hf
              refine fm_iconst C (x := 0) dX5_alike_144 (by decide) 145 rfl ?_
              refine fm_istore C [(8, .int 0), (7, .int (v 26 x6.toNatClampNeg)), (0, .ref (b + 0)), (1, .int x1), (2, .int x2), (3, .int x3), (4, .int x4), (5, .int x5), (6, .int x6)] dX5_alike_145 (by decide) rfl 147 rfl ?_
              refine fm_iload_n C dX5_alike_147 rfl 4 rfl 148 rfl ?_
              refine fm_iload C dX5_alike_148 6 rfl 150 rfl ?_
              refine fm_iconst C (x := 4) dX5_alike_150 (by decide) 151 rfl ?_
              refine fm_icmp_ne C 163 dX5_alike_151 (by decide) (fun c32 => ?_) 154 rfl (fun c32 => ?_)
              · rw [if_neg c32] at hf
                refine fm_iconst C (x := 0) dX5_alike_163 (by decide) 164 rfl ?_
                refine fm_iadd C dX5_alike_164 165 rfl ?_
                refine fm_istore_n C [(2, .int (x2 + 0)), (8, .int 0), (7, .int (v 26 x6.toNatClampNeg)), (0, .ref (b + 0)), (1, .int x1), (3, .int x3), (4, .int x4), (5, .int x5), (6, .int x6)] dX5_alike_165 rfl (by decide) rfl 166 rfl ?_
                refine fm_aload_n C dX5_alike_166 rfl 3 rfl 167 rfl ?_
                refine fm_get C (t := 0) (by decide) (shM_0 _) rfl inG_X5 39 (by decide) F_X5_88 rfl dX5_alike_167 170 rfl ?_
                refine fm_iload C dX5_alike_170 2 rfl 172 rfl ?_
                refine fm_aload_n C dX5_alike_172 rfl 3 rfl 173 rfl ?_
                refine fm_get C (t := 0) (by decide) (shM_0 _) rfl inG_X5 34 (by decide) F_X5_119 rfl dX5_alike_173 176 rfl ?_
                obtain ⟨m34, e33, hf⟩ := Option.bind_eq_some_iff.mp hf
                refine fm_iast C (t := 27) (t0 := 0) (by decide) shM_27 rfl b10 dX5_alike_176 177 rfl m34 (Option.some.inj e33) ?_
                refine fm_aload_n C dX5_alike_177 rfl 3 rfl 178 rfl ?_
                refine fm_get C (t := 0) (by decide) (shM_0 _) rfl inG_X5 40 (by decide) F_X5_91 rfl dX5_alike_178 181 rfl ?_
                refine fm_iload C dX5_alike_181 2 rfl 183 rfl ?_
                refine fm_aload_n C dX5_alike_183 rfl 3 rfl 184 rfl ?_
                refine fm_get C (t := 0) (by decide) (shM_0 _) rfl inG_X5 33 (by decide) F_X5_131 rfl dX5_alike_184 187 rfl ?_
                obtain ⟨m36, e35, hf⟩ := Option.bind_eq_some_iff.mp hf
                refine fm_iast C (t := 28) (t0 := 0) (by decide) shM_28 rfl b10 dX5_alike_187 188 rfl m36 (Option.some.inj e35) ?_
                refine fm_iinc C [(6, .int (x6 + 1)), (2, .int (x2 + 0)), (8, .int 0), (7, .int (v 26 x6.toNatClampNeg)), (0, .ref (b + 0)), (1, .int x1), (3, .int x3), (4, .int x4), (5, .int x5)] dX5_alike_188 8 rfl rfl (by decide) rfl 191 rfl ?_
                refine fm_goto C 74 dX5_alike_191 (by decide) ?_
                refine fm_lv [4, 5, 1, 6, 7, 8, 0] [(0, .ref (b + 0)), (1, .int x1), (2, .int (x2 + 0)), (3, .int x3), (4, .int x4), (5, .int x5), (6, .int (x6 + 1))] rfl ?_
                exact ih.2.1 x1 (x2 + 0) x3 x4 x5 (x6 + 1) m36 hf
              · rw [if_pos c32] at hf
                refine fm_iload C dX5_alike_154 0 rfl 156 rfl ?_
                refine fm_if_ne C 163 dX5_alike_156 (by decide) (fun c0 => absurd c0 (by decide)) 159 rfl (fun _ => ?_)
                refine fm_iconst C (x := 1) dX5_alike_159 (by decide) 160 rfl ?_
                refine fm_goto C 164 dX5_alike_160 (by decide) ?_
                refine fm_iadd C dX5_alike_164 165 rfl ?_
                refine fm_istore_n C [(2, .int (x2 + 1)), (8, .int 0), (7, .int (v 26 x6.toNatClampNeg)), (0, .ref (b + 0)), (1, .int x1), (3, .int x3), (4, .int x4), (5, .int x5), (6, .int x6)] dX5_alike_165 rfl (by decide) rfl 166 rfl ?_
                refine fm_aload_n C dX5_alike_166 rfl 3 rfl 167 rfl ?_
                refine fm_get C (t := 0) (by decide) (shM_0 _) rfl inG_X5 39 (by decide) F_X5_88 rfl dX5_alike_167 170 rfl ?_
                refine fm_iload C dX5_alike_170 2 rfl 172 rfl ?_
                refine fm_aload_n C dX5_alike_172 rfl 3 rfl 173 rfl ?_
                refine fm_get C (t := 0) (by decide) (shM_0 _) rfl inG_X5 34 (by decide) F_X5_119 rfl dX5_alike_173 176 rfl ?_
                obtain ⟨m38, e37, hf⟩ := Option.bind_eq_some_iff.mp hf
                refine fm_iast C (t := 27) (t0 := 0) (by decide) shM_27 rfl b10 dX5_alike_176 177 rfl m38 (Option.some.inj e37) ?_
                refine fm_aload_n C dX5_alike_177 rfl 3 rfl 178 rfl ?_
                refine fm_get C (t := 0) (by decide) (shM_0 _) rfl inG_X5 40 (by decide) F_X5_91 rfl dX5_alike_178 181 rfl ?_
                refine fm_iload C dX5_alike_181 2 rfl 183 rfl ?_
                refine fm_aload_n C dX5_alike_183 rfl 3 rfl 184 rfl ?_
                refine fm_get C (t := 0) (by decide) (shM_0 _) rfl inG_X5 33 (by decide) F_X5_131 rfl dX5_alike_184 187 rfl ?_
                obtain ⟨m40, e39, hf⟩ := Option.bind_eq_some_iff.mp hf
                refine fm_iast C (t := 28) (t0 := 0) (by decide) shM_28 rfl b10 dX5_alike_187 188 rfl m40 (Option.some.inj e39) ?_
                refine fm_iinc C [(6, .int (x6 + 1)), (2, .int (x2 + 1)), (8, .int 0), (7, .int (v 26 x6.toNatClampNeg)), (0, .ref (b + 0)), (1, .int x1), (3, .int x3), (4, .int x4), (5, .int x5)] dX5_alike_188 8 rfl rfl (by decide) rfl 191 rfl ?_
                refine fm_goto C 74 dX5_alike_191 (by decide) ?_
                refine fm_lv [4, 5, 1, 6, 7, 8, 0] [(0, .ref (b + 0)), (1, .int x1), (2, .int (x2 + 1)), (3, .int x3), (4, .int x4), (5, .int x5), (6, .int (x6 + 1))] rfl ?_
                exact ih.2.1 x1 (x2 + 1) x3 x4 x5 (x6 + 1) m40 hf
            · rw [if_pos c31] at hf
              refine fm_iconst C (x := 1) dX5_alike_140 (by decide) 141 rfl ?_
              refine fm_goto C 145 dX5_alike_141 (by decide) ?_
              refine fm_istore C [(8, .int 1), (7, .int (v 26 x6.toNatClampNeg)), (0, .ref (b + 0)), (1, .int x1), (2, .int x2), (3, .int x3), (4, .int x4), (5, .int x5), (6, .int x6)] dX5_alike_145 (by decide) rfl 147 rfl ?_
              refine fm_iload_n C dX5_alike_147 rfl 4 rfl 148 rfl ?_
              refine fm_iload C dX5_alike_148 6 rfl 150 rfl ?_
              refine fm_iconst C (x := 4) dX5_alike_150 (by decide) 151 rfl ?_
              refine fm_icmp_ne C 163 dX5_alike_151 (by decide) (fun c41 => ?_) 154 rfl (fun c41 => ?_)
              · rw [if_neg c41] at hf
                refine fm_iconst C (x := 0) dX5_alike_163 (by decide) 164 rfl ?_
                refine fm_iadd C dX5_alike_164 165 rfl ?_
                refine fm_istore_n C [(2, .int (x2 + 0)), (8, .int 1), (7, .int (v 26 x6.toNatClampNeg)), (0, .ref (b + 0)), (1, .int x1), (3, .int x3), (4, .int x4), (5, .int x5), (6, .int x6)] dX5_alike_165 rfl (by decide) rfl 166 rfl ?_
                refine fm_aload_n C dX5_alike_166 rfl 3 rfl 167 rfl ?_
                refine fm_get C (t := 0) (by decide) (shM_0 _) rfl inG_X5 39 (by decide) F_X5_88 rfl dX5_alike_167 170 rfl ?_
                refine fm_iload C dX5_alike_170 2 rfl 172 rfl ?_
                refine fm_aload_n C dX5_alike_172 rfl 3 rfl 173 rfl ?_
                refine fm_get C (t := 0) (by decide) (shM_0 _) rfl inG_X5 34 (by decide) F_X5_119 rfl dX5_alike_173 176 rfl ?_
                obtain ⟨m43, e42, hf⟩ := Option.bind_eq_some_iff.mp hf
                refine fm_iast C (t := 27) (t0 := 0) (by decide) shM_27 rfl b10 dX5_alike_176 177 rfl m43 (Option.some.inj e42) ?_
                refine fm_aload_n C dX5_alike_177 rfl 3 rfl 178 rfl ?_
                refine fm_get C (t := 0) (by decide) (shM_0 _) rfl inG_X5 40 (by decide) F_X5_91 rfl dX5_alike_178 181 rfl ?_
                refine fm_iload C dX5_alike_181 2 rfl 183 rfl ?_
                refine fm_aload_n C dX5_alike_183 rfl 3 rfl 184 rfl ?_
                refine fm_get C (t := 0) (by decide) (shM_0 _) rfl inG_X5 33 (by decide) F_X5_131 rfl dX5_alike_184 187 rfl ?_
                obtain ⟨m45, e44, hf⟩ := Option.bind_eq_some_iff.mp hf
                refine fm_iast C (t := 28) (t0 := 0) (by decide) shM_28 rfl b10 dX5_alike_187 188 rfl m45 (Option.some.inj e44) ?_
                refine fm_iinc C [(6, .int (x6 + 1)), (2, .int (x2 + 0)), (8, .int 1), (7, .int (v 26 x6.toNatClampNeg)), (0, .ref (b + 0)), (1, .int x1), (3, .int x3), (4, .int x4), (5, .int x5)] dX5_alike_188 8 rfl rfl (by decide) rfl 191 rfl ?_
                refine fm_goto C 74 dX5_alike_191 (by decide) ?_
                refine fm_lv [4, 5, 1, 6, 7, 8, 0] [(0, .ref (b + 0)), (1, .int x1), (2, .int (x2 + 0)), (3, .int x3), (4, .int x4), (5, .int x5), (6, .int (x6 + 1))] rfl ?_
                exact ih.2.1 x1 (x2 + 0) x3 x4 x5 (x6 + 1) m45 hf
              · rw [if_pos c41] at hf
                refine fm_iload C dX5_alike_154 0 rfl 156 rfl ?_
                refine fm_if_ne C 163 dX5_alike_156 (by decide) (fun _ => ?_) 159 rfl (fun c0 => absurd c0 (by decide))
                refine fm_iconst C (x := 0) dX5_alike_163 (by decide) 164 rfl ?_
                refine fm_iadd C dX5_alike_164 165 rfl ?_
                refine fm_istore_n C [(2, .int (x2 + 0)), (8, .int 1), (7, .int (v 26 x6.toNatClampNeg)), (0, .ref (b + 0)), (1, .int x1), (3, .int x3), (4, .int x4), (5, .int x5), (6, .int x6)] dX5_alike_165 rfl (by decide) rfl 166 rfl ?_
                refine fm_aload_n C dX5_alike_166 rfl 3 rfl 167 rfl ?_
                refine fm_get C (t := 0) (by decide) (shM_0 _) rfl inG_X5 39 (by decide) F_X5_88 rfl dX5_alike_167 170 rfl ?_
                refine fm_iload C dX5_alike_170 2 rfl 172 rfl ?_
                refine fm_aload_n C dX5_alike_172 rfl 3 rfl 173 rfl ?_
                refine fm_get C (t := 0) (by decide) (shM_0 _) rfl inG_X5 34 (by decide) F_X5_119 rfl dX5_alike_173 176 rfl ?_
                obtain ⟨m47, e46, hf⟩ := Option.bind_eq_some_iff.mp hf
                refine fm_iast C (t := 27) (t0 := 0) (by decide) shM_27 rfl b10 dX5_alike_176 177 rfl m47 (Option.some.inj e46) ?_
                refine fm_aload_n C dX5_alike_177 rfl 3 rfl 178 rfl ?_
                refine fm_get C (t := 0) (by decide) (shM_0 _) rfl inG_X5 40 (by decide) F_X5_91 rfl dX5_alike_178 181 rfl ?_
                refine fm_iload C dX5_alike_181 2 rfl 183 rfl ?_
                refine fm_aload_n C dX5_alike_183 rfl 3 rfl 184 rfl ?_
                refine fm_get C (t := 0) (by decide) (shM_0 _) rfl inG_X5 33 (by decide) F_X5_131 rfl dX5_alike_184 187 rfl ?_
                obtain ⟨m49, e48, hf⟩ := Option.bind_eq_some_iff.mp hf
                refine fm_iast C (t := 28) (t0 := 0) (by decide) shM_28 rfl b10 dX5_alike_187 188 rfl m49 (Option.some.inj e48) ?_
                refine fm_iinc C [(6, .int (x6 + 1)), (2, .int (x2 + 0)), (8, .int 1), (7, .int (v 26 x6.toNatClampNeg)), (0, .ref (b + 0)), (1, .int x1), (3, .int x3), (4, .int x4), (5, .int x5)] dX5_alike_188 8 rfl rfl (by decide) rfl 191 rfl ?_
                refine fm_goto C 74 dX5_alike_191 (by decide) ?_
                refine fm_lv [4, 5, 1, 6, 7, 8, 0] [(0, .ref (b + 0)), (1, .int x1), (2, .int (x2 + 0)), (3, .int x3), (4, .int x4), (5, .int x5), (6, .int (x6 + 1))] rfl ?_
                exact ih.2.1 x1 (x2 + 0) x3 x4 x5 (x6 + 1) m49 hf
    · intro x1 x2 x3 x4 x5 x6 v q hf
      rw [f_X5_alike_S57_s2] at hf
      refine fm_iload C dX5_alike_202 6 rfl 204 rfl ?_
      refine fm_if_le C 265 dX5_alike_204 (by decide) (fun c50 => ?_) 207 rfl (fun c50 => ?_)
      · rw [if_pos c50] at hf
        refine fm_iinc C [(4, .int (x4 + 1)), (0, .ref (b + 0)), (1, .int x1), (2, .int x2), (3, .int x3), (5, .int x5), (6, .int x6)] dX5_alike_265 4 rfl rfl (by decide) rfl 268 rfl ?_
        refine fm_goto C 57 dX5_alike_268 (by decide) ?_
        refine fm_lv [1, 2, 3, 4, 0] [(0, .ref (b + 0)), (1, .int x1), (2, .int x2), (3, .int x3), (4, .int (x4 + 1))] rfl ?_
        exact ih.1 x1 x2 x3 (x4 + 1) v hf
      · rw [if_neg c50] at hf
        refine fm_iload_n C dX5_alike_207 rfl 3 rfl 208 rfl ?_
        refine fm_ldc C dX5_alike_208 FC_X5_199 210 rfl ?_
        refine fm_imul C dX5_alike_210 211 rfl ?_
        refine fm_sipush C (x := 12345) dX5_alike_211 (by decide) 214 rfl ?_
        refine fm_iadd C dX5_alike_214 215 rfl ?_
        refine fm_istore_n C [(3, .int ((x3 * 1103515245) + 12345)), (0, .ref (b + 0)), (1, .int x1), (2, .int x2), (4, .int x4), (5, .int x5), (6, .int x6)] dX5_alike_215 rfl (by decide) rfl 216 rfl ?_
        refine fm_iload_n C dX5_alike_216 rfl 0 rfl 217 rfl ?_
        refine fm_bipush C (x := 16) dX5_alike_217 (by decide) 219 rfl ?_
        refine fm_iushr C dX5_alike_219 220 rfl ?_
        refine fm_iload C dX5_alike_220 6 rfl 222 rfl ?_
        refine fm_iconst C (x := 1) dX5_alike_222 (by decide) 223 rfl ?_
        refine fm_iadd C dX5_alike_223 224 rfl ?_
        by_cases z51 : x6 + 1 = 0
        · rw [if_pos z51] at hf; cases hf
        rw [if_neg z51] at hf
        refine fm_irem C dX5_alike_224 z51 225 rfl ?_
        refine fm_istore C [(7, .int (((((x3 * 1103515245) + 12345).toUInt32 >>> ((16 : Int32).toUInt32 &&& Int32.toUInt32 31)).toInt32) - ((((x3 * 1103515245) + 12345).toUInt32 >>> ((16 : Int32).toUInt32 &&& Int32.toUInt32 31)).toInt32) / (x6 + 1) * (x6 + 1))), (3, .int ((x3 * 1103515245) + 12345)), (0, .ref (b + 0)), (1, .int x1), (2, .int x2), (4, .int x4), (5, .int x5), (6, .int x6)] dX5_alike_225 (by decide) rfl 227 rfl ?_
        refine fm_aload_n C dX5_alike_227 rfl 2 rfl 228 rfl ?_
        refine fm_get C (t := 0) (by decide) (shM_0 _) rfl inG_X5 38 (by decide) F_X5_85 rfl dX5_alike_228 231 rfl ?_
        refine fm_iload C dX5_alike_231 7 rfl 233 rfl ?_
        by_cases b52 : x6 < 0 ∨ 40 ≤ x6.toNatClampNeg
        · rw [if_pos b52] at hf; cases hf
        rw [if_neg b52] at hf
        refine fm_iald C (t := 26) (t0 := 0) (by decide) (shM_26 _) rfl b52 dX5_alike_233 234 rfl ?_
        refine fm_istore C [(8, .int (v 26 x6.toNatClampNeg)), (7, .int (((((x3 * 1103515245) + 12345).toUInt32 >>> ((16 : Int32).toUInt32 &&& Int32.toUInt32 31)).toInt32) - ((((x3 * 1103515245) + 12345).toUInt32 >>> ((16 : Int32).toUInt32 &&& Int32.toUInt32 31)).toInt32) / (x6 + 1) * (x6 + 1))), (3, .int ((x3 * 1103515245) + 12345)), (0, .ref (b + 0)), (1, .int x1), (2, .int x2), (4, .int x4), (5, .int x5), (6, .int x6)] dX5_alike_234 (by decide) rfl 236 rfl ?_
        refine fm_aload_n C dX5_alike_236 rfl 3 rfl 237 rfl ?_
        refine fm_get C (t := 0) (by decide) (shM_0 _) rfl inG_X5 38 (by decide) F_X5_85 rfl dX5_alike_237 240 rfl ?_
        refine fm_iload C dX5_alike_240 8 rfl 242 rfl ?_
        refine fm_aload_n C dX5_alike_242 rfl 3 rfl 243 rfl ?_
        refine fm_get C (t := 0) (by decide) (shM_0 _) rfl inG_X5 38 (by decide) F_X5_85 rfl dX5_alike_243 246 rfl ?_
        refine fm_iload C dX5_alike_246 1 rfl 248 rfl ?_
        by_cases b53 : ((((x3 * 1103515245) + 12345).toUInt32 >>> ((16 : Int32).toUInt32 &&& Int32.toUInt32 31)).toInt32) - ((((x3 * 1103515245) + 12345).toUInt32 >>> ((16 : Int32).toUInt32 &&& Int32.toUInt32 31)).toInt32) / (x6 + 1) * (x6 + 1) < 0 ∨ 40 ≤ (((((x3 * 1103515245) + 12345).toUInt32 >>> ((16 : Int32).toUInt32 &&& Int32.toUInt32 31)).toInt32) - ((((x3 * 1103515245) + 12345).toUInt32 >>> ((16 : Int32).toUInt32 &&& Int32.toUInt32 31)).toInt32) / (x6 + 1) * (x6 + 1)).toNatClampNeg
        · rw [if_pos b53] at hf; cases hf
        rw [if_neg b53] at hf
        refine fm_iald C (t := 26) (t0 := 0) (by decide) (shM_26 _) rfl b53 dX5_alike_248 249 rfl ?_
        obtain ⟨m55, e54, hf⟩ := Option.bind_eq_some_iff.mp hf
        refine fm_iast C (t := 26) (t0 := 0) (by decide) shM_26 rfl b52 dX5_alike_249 250 rfl m55 (Option.some.inj e54) ?_
        refine fm_aload_n C dX5_alike_250 rfl 3 rfl 251 rfl ?_
        refine fm_get C (t := 0) (by decide) (shM_0 _) rfl inG_X5 38 (by decide) F_X5_85 rfl dX5_alike_251 254 rfl ?_
        refine fm_iload C dX5_alike_254 1 rfl 256 rfl ?_
        refine fm_iload C dX5_alike_256 0 rfl 258 rfl ?_
        obtain ⟨m57, e56, hf⟩ := Option.bind_eq_some_iff.mp hf
        refine fm_iast C (t := 26) (t0 := 0) (by decide) shM_26 rfl b53 dX5_alike_258 259 rfl m57 (Option.some.inj e56) ?_
        refine fm_iinc C [(6, .int (x6 + (-1))), (8, .int (v 26 x6.toNatClampNeg)), (7, .int (((((x3 * 1103515245) + 12345).toUInt32 >>> ((16 : Int32).toUInt32 &&& Int32.toUInt32 31)).toInt32) - ((((x3 * 1103515245) + 12345).toUInt32 >>> ((16 : Int32).toUInt32 &&& Int32.toUInt32 31)).toInt32) / (x6 + 1) * (x6 + 1))), (3, .int ((x3 * 1103515245) + 12345)), (0, .ref (b + 0)), (1, .int x1), (2, .int x2), (4, .int x4), (5, .int x5)] dX5_alike_259 8 rfl rfl (by decide) rfl 262 rfl ?_
        refine fm_goto C 202 dX5_alike_262 (by decide) ?_
        refine fm_lv [4, 5, 6, 3, 7, 8, 0] [(0, .ref (b + 0)), (1, .int x1), (2, .int x2), (3, .int ((x3 * 1103515245) + 12345)), (4, .int x4), (5, .int x5), (6, .int (x6 + (-1)))] rfl ?_
        exact ih.2.2 x1 x2 ((x3 * 1103515245) + 12345) x4 x5 (x6 + (-1)) m57 hf
def f_X5_alike_29 (u : Nat) : Nat → Int32 → Int32 → fm_T → Option (Int32 × fm_T)
  | 0 => fun _ _ _ => none
  | n + 1 => fun x1 x2 v => (if v 0 8 ≤ x2 then f_X5_alike_S57 u 1000 0 x1 0 x1 3 0 0 v else (if x2 < 0 ∨ 40 ≤ x2.toNatClampNeg then none else ((some (fm_u v 26 x2.toNatClampNeg x2) : Option fm_T).bind fun m61 => f_X5_alike_29 u n x1 (x2 + 1) m61)))
theorem f_X5_alike_29_s (u : Nat) (n : Nat)  (x1 : Int32) (x2 : Int32) (v : fm_T) : f_X5_alike_29 u (n + 1) x1 x2 v = (if v 0 8 ≤ x2 then f_X5_alike_S57 u 1000 0 x1 0 x1 3 0 0 v else (if x2 < 0 ∨ 40 ≤ x2.toNatClampNeg then none else ((some (fm_u v 26 x2.toNatClampNeg x2) : Option fm_T).bind fun m61 => f_X5_alike_29 u n x1 (x2 + 1) m61))) := rfl
set_option maxHeartbeats 4000000 in
set_option maxRecDepth 20000 in
theorem b_X5_alike_29  (u : Nat)  {p : Program} {e : Env} {R : Room} {s : State} {m : MethodId} {args : Array Value} {below : List Frame} {meth : Method} {c : Code} (C : fm_C p s m args c cX5_alike RX5 9 D (fm_tys cI cII cLd cOc) tA b 29 A) (hr : meth.sig.returnType = (some .int)) (hk0 : meth.locks = false) (hF : 6 ≤ R.frames) (hLo : 40 * 6 ≤ R.locals) : ∀ (n : Nat) (x1 : Int32) (x2 : Int32) (v : fm_T) {q : Int32 × fm_T}, f_X5_alike_29 u n x1 x2 v = some q → fm_V p l e R s m args below meth c D b 29 (shM cI b) A (MQ below (fm_Q D b 29 (shM cI b) A (some (.int q.1)) q.2) args s 0 0 A) 9 29 [(0, .ref (b + 0)), (1, .int x1), (2, .int x2)] [] v := by
  intro n
  induction n with
  | zero =>
    intro x1 x2 v q hf
    cases (show (none : Option (Int32 × fm_T)) = some q from hf)
  | succ n ih =>
    intro x1 x2 v q hf
    rw [f_X5_alike_29_s] at hf
    refine fm_iload_n C dX5_alike_29 rfl 2 rfl 30 rfl ?_
    refine fm_aload_n C dX5_alike_30 rfl 0 rfl 31 rfl ?_
    refine fm_get C (t := 0) (by decide) (shM_0 _) rfl inG_X5 8 (by decide) F_X5_106 rfl dX5_alike_31 34 rfl ?_
    refine fm_icmp_ge C 50 dX5_alike_34 (by decide) (fun c58 => ?_) 37 rfl (fun c58 => ?_)
    · rw [if_pos c58] at hf
      refine fm_iconst C (x := 0) dX5_alike_50 (by decide) 51 rfl ?_
      refine fm_istore_n C [(2, .int 0), (0, .ref (b + 0)), (1, .int x1)] dX5_alike_51 rfl (by decide) rfl 52 rfl ?_
      refine fm_iload_n C dX5_alike_52 rfl 2 rfl 53 rfl ?_
      refine fm_istore_n C [(3, .int x1), (2, .int 0), (0, .ref (b + 0)), (1, .int x1)] dX5_alike_53 rfl (by decide) rfl 54 rfl ?_
      refine fm_iconst C (x := 3) dX5_alike_54 (by decide) 55 rfl ?_
      refine fm_istore C [(4, .int 3), (3, .int x1), (2, .int 0), (0, .ref (b + 0)), (1, .int x1)] dX5_alike_55 (by decide) rfl 57 rfl ?_
      refine fm_lv [3, 4, 2, 1, 0] [(0, .ref (b + 0)), (1, .int x1), (2, .int 0), (3, .int x1), (4, .int 3)] rfl ?_
      exact (b_X5_alike_S57 u  C hr hk0 hF hLo 1000).1 x1 0 x1 3 v hf
    · rw [if_neg c58] at hf
      refine fm_aload_n C dX5_alike_37 rfl 0 rfl 38 rfl ?_
      refine fm_get C (t := 0) (by decide) (shM_0 _) rfl inG_X5 38 (by decide) F_X5_85 rfl dX5_alike_38 41 rfl ?_
      refine fm_iload_n C dX5_alike_41 rfl 2 rfl 42 rfl ?_
      refine fm_iload_n C dX5_alike_42 rfl 2 rfl 43 rfl ?_
      by_cases b59 : x2 < 0 ∨ 40 ≤ x2.toNatClampNeg
      · rw [if_pos b59] at hf; cases hf
      rw [if_neg b59] at hf
      obtain ⟨m61, e60, hf⟩ := Option.bind_eq_some_iff.mp hf
      refine fm_iast C (t := 26) (t0 := 0) (by decide) shM_26 rfl b59 dX5_alike_43 44 rfl m61 (Option.some.inj e60) ?_
      refine fm_iinc C [(2, .int (x2 + 1)), (0, .ref (b + 0)), (1, .int x1)] dX5_alike_44 2 rfl rfl (by decide) rfl 47 rfl ?_
      refine fm_goto C 29 dX5_alike_47 (by decide) ?_
      refine fm_lv [1, 2, 0] [(0, .ref (b + 0)), (1, .int x1), (2, .int (x2 + 1))] rfl ?_
      exact ih x1 (x2 + 1) m61 hf
def f_X5_alike (u : Nat) (x1 : Int32) (v : fm_T) : Option (Int32 × fm_T) := (if v 0 25 = 40 then some ((-2), v) else ((some (fm_u v 0 25 ((v 0 25) + 1)) : Option fm_T).bind fun m64 => ((some (fm_u m64 0 23 0) : Option fm_T).bind fun m66 => f_X5_alike_29 u 1000 x1 0 m66)))
set_option maxHeartbeats 4000000 in
set_option maxRecDepth 20000 in
theorem c_X5_alike {x1 : Int32} (u : Nat)  {v : fm_T} {q : Int32 × fm_T} (hf : f_X5_alike u x1 v = some q) : fm_M l D (fm_tys cI cII cLd cOc) tA b 29 (shM cI b) A yX5_alike cX5_alike 9 (some .int) 6 [.ref (b + 0), .int x1] v (some (.int q.1)) q.2 := by
  refine fm_entry (by decide) (Nat.le_of_ble_eq_true rfl) ?_
  intro p e R s m args below meth c C hr hk0 hF hLo
  unfold f_X5_alike at hf
  show fm_V p l e R s m args below meth c D b 29 (shM cI b) A _ 9 0 [(0, .ref (b + 0)), (1, .int x1)] [] v
  refine fm_aload_n C dX5_alike_0 rfl 0 rfl 1 rfl ?_
  refine fm_get C (t := 0) (by decide) (shM_0 _) rfl inG_X5 25 (by decide) F_X5_196 rfl dX5_alike_1 4 rfl ?_
  refine fm_bipush C (x := 40) dX5_alike_4 (by decide) 6 rfl ?_
  refine fm_icmp_ne C 12 dX5_alike_6 (by decide) (fun c62 => ?_) 9 rfl (fun c62 => ?_)
  · rw [if_neg c62] at hf
    refine fm_aload_n C dX5_alike_12 rfl 0 rfl 13 rfl ?_
    refine fm_dup C dX5_alike_13 rfl 14 rfl ?_
    refine fm_get C (t := 0) (by decide) (shM_0 _) rfl inG_X5 25 (by decide) F_X5_196 rfl dX5_alike_14 17 rfl ?_
    refine fm_iconst C (x := 1) dX5_alike_17 (by decide) 18 rfl ?_
    refine fm_iadd C dX5_alike_18 19 rfl ?_
    obtain ⟨m64, e63, hf⟩ := Option.bind_eq_some_iff.mp hf
    refine fm_put C (t := 0) (by decide) (shM_0 _) rfl inG_X5 25 (by decide) F_X5_196 tyX5 tyX5_ok nmX5 rfl (ty := .int) (by decide +kernel) rfl rfl (Nat.le_of_ble_eq_true rfl) ((shM_0 _).trans rfl) dX5_alike_19 22 rfl m64 (Option.some.inj e63) ?_
    refine fm_aload_n C dX5_alike_22 rfl 0 rfl 23 rfl ?_
    refine fm_iconst C (x := 0) dX5_alike_23 (by decide) 24 rfl ?_
    obtain ⟨m66, e65, hf⟩ := Option.bind_eq_some_iff.mp hf
    refine fm_put C (t := 0) (by decide) (shM_0 _) rfl inG_X5 23 (by decide) F_X5_112 tyX5 tyX5_ok nmX5 rfl (ty := .boolean) (by decide +kernel) rfl rfl (Nat.le_of_ble_eq_true rfl) ((shM_0 _).trans rfl) dX5_alike_24 27 rfl m66 (Option.some.inj e65) ?_
    refine fm_iconst C (x := 0) dX5_alike_27 (by decide) 28 rfl ?_
    refine fm_istore_n C [(2, .int 0), (0, .ref (b + 0)), (1, .int x1)] dX5_alike_28 rfl (by decide) rfl 29 rfl ?_
    refine fm_lv [1, 2, 0] [(0, .ref (b + 0)), (1, .int x1), (2, .int 0)] rfl ?_
    exact b_X5_alike_29 u  C hr hk0 hF hLo 1000 x1 0 m66 hf
  · rw [if_pos c62] at hf
    refine fm_bipush C (x := -2) dX5_alike_9 (by decide) 11 rfl ?_
    obtain rfl := Option.some.inj hf
    exact fm_iret C hr hk0 dX5_alike_11
def f_X5_told (x1 : Int32) (v : fm_T) : Option (Int32 × fm_T) := (if x1 = 0 then some (v 0 0, v) else (if x1 = 1 then some (v 0 8, v) else (if x1 = 2 then some (v 0 22, v) else (if x1 = 3 then some (v 0 24, v) else some ((-1), v)))))
set_option maxHeartbeats 4000000 in
set_option maxRecDepth 20000 in
theorem c_X5_told {x1 : Int32}  {v : fm_T} {q : Int32 × fm_T} (hf : f_X5_told x1 v = some q) : fm_M l D (fm_tys cI cII cLd cOc) tA b 29 (shM cI b) A yX5_told cX5_told 2 (some .int) 0 [.ref (b + 0), .int x1] v (some (.int q.1)) q.2 := by
  refine fm_entry (by decide) (Nat.le_of_ble_eq_true rfl) ?_
  intro p e R s m args below meth c C hr hk0 hF hLo
  unfold f_X5_told at hf
  show fm_V p l e R s m args below meth c D b 29 (shM cI b) A _ 2 0 [(0, .ref (b + 0)), (1, .int x1)] [] v
  refine fm_iload_n C dX5_told_0 rfl 1 rfl 1 rfl ?_
  by_cases w1 : x1 = 0
  · rw [if_pos w1] at hf
    refine fm_tableIn C (off := 31) 32 dX5_told_1 (by rw [w1]; decide) (by rw [w1]; decide) (by rw [w1] <;> rfl) (by decide) ?_
    refine fm_aload_n C dX5_told_32 rfl 0 rfl 33 rfl ?_
    refine fm_get C (t := 0) (by decide) (shM_0 _) rfl inG_X5 0 (by decide) F_X5_94 rfl dX5_told_33 36 rfl ?_
    obtain rfl := Option.some.inj hf
    exact fm_iret C hr hk0 dX5_told_36
  rw [if_neg w1] at hf
  by_cases w2 : x1 = 1
  · rw [if_pos w2] at hf
    refine fm_tableIn C (off := 36) 37 dX5_told_1 (by rw [w2]; decide) (by rw [w2]; decide) (by rw [w2] <;> rfl) (by decide) ?_
    refine fm_aload_n C dX5_told_37 rfl 0 rfl 38 rfl ?_
    refine fm_get C (t := 0) (by decide) (shM_0 _) rfl inG_X5 8 (by decide) F_X5_106 rfl dX5_told_38 41 rfl ?_
    obtain rfl := Option.some.inj hf
    exact fm_iret C hr hk0 dX5_told_41
  rw [if_neg w2] at hf
  by_cases w3 : x1 = 2
  · rw [if_pos w3] at hf
    refine fm_tableIn C (off := 41) 42 dX5_told_1 (by rw [w3]; decide) (by rw [w3]; decide) (by rw [w3] <;> rfl) (by decide) ?_
    refine fm_aload_n C dX5_told_42 rfl 0 rfl 43 rfl ?_
    refine fm_get C (t := 0) (by decide) (shM_0 _) rfl inG_X5 22 (by decide) F_X5_116 rfl dX5_told_43 46 rfl ?_
    obtain rfl := Option.some.inj hf
    exact fm_iret C hr hk0 dX5_told_46
  rw [if_neg w3] at hf
  by_cases w4 : x1 = 3
  · rw [if_pos w4] at hf
    refine fm_tableIn C (off := 46) 47 dX5_told_1 (by rw [w4]; decide) (by rw [w4]; decide) (by rw [w4] <;> rfl) (by decide) ?_
    refine fm_aload_n C dX5_told_47 rfl 0 rfl 48 rfl ?_
    refine fm_get C (t := 0) (by decide) (shM_0 _) rfl inG_X5 24 (by decide) F_X5_164 rfl dX5_told_48 51 rfl ?_
    obtain rfl := Option.some.inj hf
    exact fm_iret C hr hk0 dX5_told_51
  rw [if_neg w4] at hf
  refine fm_tableOut C 52 dX5_told_1 (by have := lv_neT (a := 0) w1 (by decide); have := lv_neT (a := 1) w2 (by decide); have := lv_neT (a := 2) w3 (by decide); have := lv_neT (a := 3) w4 (by decide); omega) (by decide) ?_
  refine fm_iconst C (x := -1) dX5_told_52 (by decide) 53 rfl ?_
  obtain rfl := Option.some.inj hf
  exact fm_iret C hr hk0 dX5_told_53
end
