section
variable {l : Launch} {D : va_G} {tA b : Nat} {A : Nat → Prop} {cI cII cLd cOc : ClassId}
abbrev GT : Type := Nat → Nat → Int32 → Int32 → Int32 → fm_T → Option (Int32 × fm_T)
def GG (l : Launch) (D : va_G) (tA : Nat) (cI cII cLd cOc : ClassId) (b : Nat) (A : Nat → Prop) (g : GT) (h : Nat) : Prop :=
  (∀ {k : Nat} {x1 x2 : Int32} {v : fm_T} {q : Int32 × fm_T}, k < 4 → g 0 k x1 x2 0 v = some q → fm_M l D (fm_tys cI cII cLd cOc) tA b 305 (shC cI cII cLd cOc b) A yX0_obtain cX0_obtain 3 (some .boolean) h [.ref (b + lo k), .int x1, .int x2] v (some (.int q.1)) q.2) ∧
  (∀ {k : Nat} {x1 x2 : Int32} {v : fm_T} {q : Int32 × fm_T}, k < 4 → g 1 k x1 x2 0 v = some q → fm_M l D (fm_tys cI cII cLd cOc) tA b 305 (shC cI cII cLd cOc b) A yX0_begin cX0_begin 4 (some .boolean) h [.ref (b + lo k), .int x1, .int x2] v (some (.int q.1)) q.2) ∧
  (∀ {k : Nat} {x1 x2 : Int32} {v : fm_T} {q : Int32 × fm_T}, k < 4 → g 2 k x1 x2 0 v = some q → fm_M l D (fm_tys cI cII cLd cOc) tA b 305 (shC cI cII cLd cOc b) A yX0_work cX0_work 4 (some .boolean) h [.ref (b + lo k), .int x1, .int x2] v (some (.int q.1)) q.2) ∧
  (∀ {k : Nat} {x1 x2 : Int32} {v : fm_T} {q : Int32 × fm_T}, k < 4 → g 3 k x1 x2 0 v = some q → fm_M l D (fm_tys cI cII cLd cOc) tA b 305 (shC cI cII cLd cOc b) A yX0_reckon cX0_reckon 5 (some .boolean) h [.ref (b + lo k), .int x1, .int x2] v (some (.int q.1)) q.2) ∧
  (∀ {k : Nat} {x1 x2 x3 : Int32} {v : fm_T} {q : Int32 × fm_T}, k < 4 → g 4 k x1 x2 x3 v = some q → fm_M l D (fm_tys cI cII cLd cOc) tA b 305 (shC cI cII cLd cOc b) A yX0_multiply cX0_multiply 5 (some .boolean) h [.ref (b + lo k), .int x1, .int x2, .int x3] v (some (.int q.1)) q.2) ∧
  (∀ {k : Nat} {x1 x2 x3 : Int32} {v : fm_T} {q : Int32 × fm_T}, k < 4 → g 5 k x1 x2 x3 v = some q → fm_M l D (fm_tys cI cII cLd cOc) tA b 305 (shC cI cII cLd cOc b) A yX0_divide cX0_divide 6 (some .boolean) h [.ref (b + lo k), .int x1, .int x2, .int x3] v (some (.int q.1)) q.2) ∧
  (∀ {k : Nat} {x1 x2 : Int32} {v : fm_T} {q : Int32 × fm_T}, k < 4 → g 6 k x1 x2 0 v = some q → fm_M l D (fm_tys cI cII cLd cOc) tA b 305 (shC cI cII cLd cOc b) A yX0_beginUsed cX0_beginUsed 4 (some .boolean) h [.ref (b + lo k), .int x1, .int x2] v (some (.int q.1)) q.2) ∧
  (∀ {k : Nat} {x1 x2 : Int32} {v : fm_T} {q : Int32 × fm_T}, k < 4 → g 7 k x1 x2 0 v = some q → fm_M l D (fm_tys cI cII cLd cOc) tA b 305 (shC cI cII cLd cOc b) A yX0_doDeeds cX0_doDeeds 4 (some .boolean) h [.ref (b + lo k), .int x1, .int x2] v (some (.int q.1)) q.2) ∧
  (∀ {k : Nat} {x1 x2 x3 : Int32} {v : fm_T} {q : Int32 × fm_T}, k < 4 → g 8 k x1 x2 x3 v = some q → fm_M l D (fm_tys cI cII cLd cOc) tA b 305 (shC cI cII cLd cOc b) A yX0_doDeed cX0_doDeed 4 (some .boolean) h [.ref (b + lo k), .int x1, .int x2, .int x3] v (some (.int q.1)) q.2)
def f_X0_obtain (g : GT) (k : Nat) (x1 : Int32) (x2 : Int32) (v : fm_T) : Option (Int32 × fm_T) := ((f_X2_hasConstant x1 v).bind fun q2 => (if q2.1 = 0 then ((f_X1_fail (bo k + 16) 8 x1 q2.2).bind fun q24 => (if q24.1 = 0 ∨ q24.1 = 1 then some (q24.1, q24.2) else none)) else (if x1 < 0 ∨ 40 ≤ x1.toNatClampNeg then none else ((g 1 k (q2.2 57 x1.toNatClampNeg) (x2 + 1) 0 q2.2).bind fun q6 => (if q6.1 = 0 then some (0, q6.2) else (if q6.2 (bo k + 14) x1.toNatClampNeg = 2 then ((f_X1_copy (bo k + 16) (bo k + 17 + x1.toNatClampNeg) q6.2).bind fun q21 => (if q21.2 (bo k + 16) 1 = 0 then some (1, q21.2) else some (0, q21.2))) else (if q6.2 (bo k + 14) x1.toNatClampNeg = 1 then ((f_X1_fail (bo k + 16) 4 x1 q6.2).bind fun q11 => (if q11.1 = 0 ∨ q11.1 = 1 then some (q11.1, q11.2) else none)) else (if x2 ≤ 66 then ((g 2 k x1 x2 0 q6.2).bind fun q15 => (if q15.1 = 0 ∨ q15.1 = 1 then some (q15.1, q15.2) else none)) else ((f_X1_fail (bo k + 16) 4 x1 q6.2).bind fun q18 => (if q18.1 = 0 ∨ q18.1 = 1 then some (q18.1, q18.2) else none))))))))))
set_option maxHeartbeats 4000000 in
set_option maxRecDepth 20000 in
theorem c_X0_obtain {k : Nat} {x1 : Int32} {x2 : Int32} {g : GT} {h : Nat} (G : GG l D tA cI cII cLd cOc b A g h) (hh : 3 ≤ h) (hk : k < 4) {v : fm_T} {q : Int32 × fm_T} (hf : f_X0_obtain g k x1 x2 v = some q) : fm_M l D (fm_tys cI cII cLd cOc) tA b 305 (shC cI cII cLd cOc b) A yX0_obtain cX0_obtain 3 (some .boolean) (h + 1) [.ref (b + (lo k)), .int x1, .int x2] v (some (.int q.1)) q.2 := by
  refine fm_entry (by decide) (Nat.le_of_ble_eq_true rfl) ?_
  intro p e R s m args below meth c C hr hk0 hF hLo
  unfold f_X0_obtain at hf
  show fm_V p l e R s m args below meth c D b 305 (shC cI cII cLd cOc b) A _ 3 0 [(0, .ref (b + (lo k))), (1, .int x1), (2, .int x2)] [] v
  refine fm_aload_n C dX0_obtain_0 rfl 0 rfl 1 rfl ?_
  refine fm_get C (t := lo k) (lo_lt hk) ((shC_lo hk) _) rfl inG_X0 0 (by decide) F_X0_34 rfl dX0_obtain_1 4 rfl ?_
  refine fm_iload_n C dX0_obtain_4 rfl 1 rfl 5 rfl ?_
  obtain ⟨q2, h1, hf⟩ := Option.bind_eq_some_iff.mp hf
  refine fm_callN C Y_X2_hasConstant (t := 1) (by decide) (shC_1 _) rfl LN_X0_51 (As := [.int x1]) (rest := []) (c_X2_hasConstant  h1) (by omega) (by omega) rfl (Nat.le_of_ble_eq_true rfl) dX0_obtain_5 8 rfl [.int q2.1] rfl ?_
  refine fm_if_ne C 22 dX0_obtain_8 (by decide) (fun c3 => ?_) 11 rfl (fun c3 => ?_)
  · rw [if_neg c3] at hf
    refine fm_aload_n C dX0_obtain_22 rfl 0 rfl 23 rfl ?_
    refine fm_aload_n C dX0_obtain_23 rfl 0 rfl 24 rfl ?_
    refine fm_get C (t := lo k) (lo_lt hk) ((shC_lo hk) _) rfl inG_X0 0 (by decide) F_X0_34 rfl dX0_obtain_24 27 rfl ?_
    refine fm_getN C (t := 1) (by decide) (shC_1 _) rfl inG_X2 9 (by decide) FN_X0_59 rfl dX0_obtain_27 30 rfl ?_
    refine fm_iload_n C dX0_obtain_30 rfl 1 rfl 31 rfl ?_
    by_cases b4 : x1 < 0 ∨ 40 ≤ x1.toNatClampNeg
    · rw [if_pos b4] at hf; cases hf
    rw [if_neg b4] at hf
    refine fm_iald C (t := 57) (t0 := 0) (by decide) (shC_57 _) rfl b4 dX0_obtain_31 32 rfl ?_
    refine fm_iload_n C dX0_obtain_32 rfl 2 rfl 33 rfl ?_
    refine fm_iconst C (x := 1) dX0_obtain_33 (by decide) 34 rfl ?_
    refine fm_iadd C dX0_obtain_34 35 rfl ?_
    obtain ⟨q6, h5, hf⟩ := Option.bind_eq_some_iff.mp hf
    refine fm_callV C Y_X0_begin (t := lo k) (lo_lt hk) ((shC_lo hk) _) rfl LM_X0_62 (As := [.int (q2.2 57 x1.toNatClampNeg), .int (x2 + 1)]) (rest := []) (G.2.1 hk h5) (by omega) (by omega) rfl (Nat.le_of_ble_eq_true rfl) dX0_obtain_35 38 rfl [.int q6.1] rfl ?_
    refine fm_if_ne C 43 dX0_obtain_38 (by decide) (fun c7 => ?_) 41 rfl (fun c7 => ?_)
    · rw [if_neg c7] at hf
      refine fm_aload_n C dX0_obtain_43 rfl 0 rfl 44 rfl ?_
      refine fm_get C (t := lo k) (lo_lt hk) ((shC_lo hk) _) rfl inG_X0 4 (by decide) F_X0_20 rfl dX0_obtain_44 47 rfl ?_
      refine fm_iload_n C dX0_obtain_47 rfl 1 rfl 48 rfl ?_
      refine fm_iald C (t := bo k + 14) (t0 := 0) (bo_lt hk (by decide)) ((shC_b14 hk) _) rfl b4 dX0_obtain_48 49 rfl ?_
      refine fm_iconst C (x := 2) dX0_obtain_49 (by decide) 50 rfl ?_
      refine fm_icmp_ne C 82 dX0_obtain_50 (by decide) (fun c8 => ?_) 53 rfl (fun c8 => ?_)
      · rw [if_neg c8] at hf
        refine fm_aload_n C dX0_obtain_82 rfl 0 rfl 83 rfl ?_
        refine fm_get C (t := lo k) (lo_lt hk) ((shC_lo hk) _) rfl inG_X0 4 (by decide) F_X0_20 rfl dX0_obtain_83 86 rfl ?_
        refine fm_iload_n C dX0_obtain_86 rfl 1 rfl 87 rfl ?_
        refine fm_iald C (t := bo k + 14) (t0 := 0) (bo_lt hk (by decide)) ((shC_b14 hk) _) rfl b4 dX0_obtain_87 88 rfl ?_
        refine fm_iconst C (x := 1) dX0_obtain_88 (by decide) 89 rfl ?_
        refine fm_icmp_eq C 98 dX0_obtain_89 (by decide) (fun c9 => ?_) 92 rfl (fun c9 => ?_)
        · rw [if_pos c9] at hf
          refine fm_aload_n C dX0_obtain_98 rfl 0 rfl 99 rfl ?_
          refine fm_get C (t := lo k) (lo_lt hk) ((shC_lo hk) _) rfl inG_X0 6 (by decide) F_X0_30 rfl dX0_obtain_99 102 rfl ?_
          refine fm_iconst C (x := 4) dX0_obtain_102 (by decide) 103 rfl ?_
          refine fm_iload_n C dX0_obtain_103 rfl 1 rfl 104 rfl ?_
          obtain ⟨q11, h10, hf⟩ := Option.bind_eq_some_iff.mp hf
          refine fm_callN C Y_X1_fail (t := bo k + 16) (isO_lt (isO_now hk)) ((shC_O (isO_now hk)) _) rfl LN_X0_55 (As := [.int 4, .int x1]) (rest := []) (c_X1_fail (isO_now hk) h10) (by omega) (by omega) rfl (Nat.le_of_ble_eq_true rfl) dX0_obtain_104 107 rfl [.int q11.1] rfl ?_
          by_cases r12 : q11.1 = 0 ∨ q11.1 = 1
          · rw [if_pos r12] at hf
            obtain rfl := Option.some.inj hf
            exact fm_zret C hr hk0 r12 dX0_obtain_107
          · rw [if_neg r12] at hf; cases hf
        · rw [if_neg c9] at hf
          refine fm_iload_n C dX0_obtain_92 rfl 2 rfl 93 rfl ?_
          refine fm_bipush C (x := 66) dX0_obtain_93 (by decide) 95 rfl ?_
          refine fm_icmp_le C 108 dX0_obtain_95 (by decide) (fun c13 => ?_) 98 rfl (fun c13 => ?_)
          · rw [if_pos c13] at hf
            refine fm_aload_n C dX0_obtain_108 rfl 0 rfl 109 rfl ?_
            refine fm_iload_n C dX0_obtain_109 rfl 1 rfl 110 rfl ?_
            refine fm_iload_n C dX0_obtain_110 rfl 2 rfl 111 rfl ?_
            obtain ⟨q15, h14, hf⟩ := Option.bind_eq_some_iff.mp hf
            refine fm_callV C Y_X0_work (t := lo k) (lo_lt hk) ((shC_lo hk) _) rfl LM_X0_69 (As := [.int x1, .int x2]) (rest := []) (G.2.2.1 hk h14) (by omega) (by omega) rfl (Nat.le_of_ble_eq_true rfl) dX0_obtain_111 114 rfl [.int q15.1] rfl ?_
            by_cases r16 : q15.1 = 0 ∨ q15.1 = 1
            · rw [if_pos r16] at hf
              obtain rfl := Option.some.inj hf
              exact fm_zret C hr hk0 r16 dX0_obtain_114
            · rw [if_neg r16] at hf; cases hf
          · rw [if_neg c13] at hf
            refine fm_aload_n C dX0_obtain_98 rfl 0 rfl 99 rfl ?_
            refine fm_get C (t := lo k) (lo_lt hk) ((shC_lo hk) _) rfl inG_X0 6 (by decide) F_X0_30 rfl dX0_obtain_99 102 rfl ?_
            refine fm_iconst C (x := 4) dX0_obtain_102 (by decide) 103 rfl ?_
            refine fm_iload_n C dX0_obtain_103 rfl 1 rfl 104 rfl ?_
            obtain ⟨q18, h17, hf⟩ := Option.bind_eq_some_iff.mp hf
            refine fm_callN C Y_X1_fail (t := bo k + 16) (isO_lt (isO_now hk)) ((shC_O (isO_now hk)) _) rfl LN_X0_55 (As := [.int 4, .int x1]) (rest := []) (c_X1_fail (isO_now hk) h17) (by omega) (by omega) rfl (Nat.le_of_ble_eq_true rfl) dX0_obtain_104 107 rfl [.int q18.1] rfl ?_
            by_cases r19 : q18.1 = 0 ∨ q18.1 = 1
            · rw [if_pos r19] at hf
              obtain rfl := Option.some.inj hf
              exact fm_zret C hr hk0 r19 dX0_obtain_107
            · rw [if_neg r19] at hf; cases hf
      · rw [if_pos c8] at hf
        refine fm_aload_n C dX0_obtain_53 rfl 0 rfl 54 rfl ?_
        refine fm_get C (t := lo k) (lo_lt hk) ((shC_lo hk) _) rfl inG_X0 6 (by decide) F_X0_30 rfl dX0_obtain_54 57 rfl ?_
        refine fm_aload_n C dX0_obtain_57 rfl 0 rfl 58 rfl ?_
        refine fm_get C (t := lo k) (lo_lt hk) ((shC_lo hk) _) rfl inG_X0 5 (by decide) F_X0_25 rfl dX0_obtain_58 61 rfl ?_
        refine fm_iload_n C dX0_obtain_61 rfl 1 rfl 62 rfl ?_
        refine fm_aald C (t := bo k + 15) (t0 := 3) (bo_lt hk (by decide)) ((shC_b15 hk) _) rfl rfl b4 (x := b + (bo k + 17 + x1.toNatClampNeg)) (in_some (g := fun i => b + (bo k + 17 + i)) b4) dX0_obtain_62 63 rfl ?_
        obtain ⟨q21, h20, hf⟩ := Option.bind_eq_some_iff.mp hf
        refine fm_callN C Y_X1_copy (t := bo k + 16) (isO_lt (isO_now hk)) ((shC_O (isO_now hk)) _) rfl LN_X0_65 (As := [.ref (b + (bo k + 17 + x1.toNatClampNeg))]) (rest := []) (c_X1_copy (isO_now hk) (isO_out hk (in_lt b4)) h20) (by omega) (by omega) rfl (Nat.le_of_ble_eq_true rfl) dX0_obtain_63 66 rfl [] rfl ?_
        refine fm_aload_n C dX0_obtain_66 rfl 0 rfl 67 rfl ?_
        refine fm_get C (t := lo k) (lo_lt hk) ((shC_lo hk) _) rfl inG_X0 6 (by decide) F_X0_30 rfl dX0_obtain_67 70 rfl ?_
        refine fm_getN C (t := bo k + 16) (isO_lt (isO_now hk)) ((shC_O (isO_now hk)) _) rfl inG_X1 1 (by decide) FN_X0_42 rfl dX0_obtain_70 73 rfl ?_
        refine fm_if_ne C 80 dX0_obtain_73 (by decide) (fun c22 => ?_) 76 rfl (fun c22 => ?_)
        · rw [if_neg c22] at hf
          refine fm_iconst C (x := 0) dX0_obtain_80 (by decide) 81 rfl ?_
          obtain rfl := Option.some.inj hf
          exact fm_zret C hr hk0 (Or.inl rfl) dX0_obtain_81
        · rw [if_pos c22] at hf
          refine fm_iconst C (x := 1) dX0_obtain_76 (by decide) 77 rfl ?_
          refine fm_goto C 81 dX0_obtain_77 (by decide) ?_
          obtain rfl := Option.some.inj hf
          exact fm_zret C hr hk0 (Or.inr rfl) dX0_obtain_81
    · rw [if_pos c7] at hf
      refine fm_iconst C (x := 0) dX0_obtain_41 (by decide) 42 rfl ?_
      obtain rfl := Option.some.inj hf
      exact fm_zret C hr hk0 (Or.inl rfl) dX0_obtain_42
  · rw [if_pos c3] at hf
    refine fm_aload_n C dX0_obtain_11 rfl 0 rfl 12 rfl ?_
    refine fm_get C (t := lo k) (lo_lt hk) ((shC_lo hk) _) rfl inG_X0 6 (by decide) F_X0_30 rfl dX0_obtain_12 15 rfl ?_
    refine fm_bipush C (x := 8) dX0_obtain_15 (by decide) 17 rfl ?_
    refine fm_iload_n C dX0_obtain_17 rfl 1 rfl 18 rfl ?_
    obtain ⟨q24, h23, hf⟩ := Option.bind_eq_some_iff.mp hf
    refine fm_callN C Y_X1_fail (t := bo k + 16) (isO_lt (isO_now hk)) ((shC_O (isO_now hk)) _) rfl LN_X0_55 (As := [.int 8, .int x1]) (rest := []) (c_X1_fail (isO_now hk) h23) (by omega) (by omega) rfl (Nat.le_of_ble_eq_true rfl) dX0_obtain_18 21 rfl [.int q24.1] rfl ?_
    by_cases r25 : q24.1 = 0 ∨ q24.1 = 1
    · rw [if_pos r25] at hf
      obtain rfl := Option.some.inj hf
      exact fm_zret C hr hk0 r25 dX0_obtain_21
    · rw [if_neg r25] at hf; cases hf
def f_X0_begin (g : GT) (k : Nat) (x1 : Int32) (x2 : Int32) (v : fm_T) : Option (Int32 × fm_T) := (if x1 < 0 ∨ 12 ≤ x1.toNatClampNeg then none else (if v (bo k) x1.toNatClampNeg = 1 then some (1, v) else (if v (bo k) x1.toNatClampNeg = 2 then some (1, v) else (if v (bo k) x1.toNatClampNeg = 3 then ((f_X1_fail (bo k + 16) 6 x1 v).bind fun q6 => (if q6.1 = 0 ∨ q6.1 = 1 then some (q6.1, q6.2) else none)) else (if x2 ≤ 66 then ((some (fm_u v (bo k) x1.toNatClampNeg 2) : Option fm_T).bind fun m10 => ((f_X3_note k 0 x1 m10).bind fun q12 => ((some (va_up q12.2 (bo k + 2 + x1.toNatClampNeg) (va_cpy (q12.2 (4 + x1.toNatClampNeg)) (q12.2 (bo k + 2 + x1.toNatClampNeg)) ((0 : Int32).toNatClampNeg) ((0 : Int32).toNatClampNeg) ((8 : Int32).toNatClampNeg))) : Option fm_T).bind fun m14 => ((g 6 k x1 (x2 + 1) 0 m14).bind fun q16 => (if q16.1 = 0 then ((some (fm_u q16.2 (bo k) x1.toNatClampNeg 3) : Option fm_T).bind fun m19 => ((f_X3_note k 2 x1 m19).bind fun q21 => ((f_X1_failStart (bo k + 16) x1 q21.2).bind fun q23 => (if q23.1 = 0 then some (0, q23.2) else some (1, q23.2))))) else ((g 7 k x1 (x2 + 1) 0 q16.2).bind fun q26 => (if q26.1 = 0 then ((some (fm_u q26.2 (bo k) x1.toNatClampNeg 3) : Option fm_T).bind fun m29 => ((f_X3_note k 2 x1 m29).bind fun q31 => ((f_X1_failStart (bo k + 16) x1 q31.2).bind fun q33 => (if q33.1 = 0 then some (0, q33.2) else some (1, q33.2))))) else ((some (fm_u q26.2 (bo k) x1.toNatClampNeg 1) : Option fm_T).bind fun m36 => ((f_X3_note k 1 x1 m36).bind fun q38 => some (1, q38.2)))))))))) else ((f_X1_fail (bo k + 16) 6 x1 v).bind fun q40 => (if q40.1 = 0 ∨ q40.1 = 1 then some (q40.1, q40.2) else none)))))))
set_option maxHeartbeats 4000000 in
set_option maxRecDepth 20000 in
theorem c_X0_begin {k : Nat} {x1 : Int32} {x2 : Int32} {g : GT} {h : Nat} (G : GG l D tA cI cII cLd cOc b A g h) (hh : 3 ≤ h) (hk : k < 4) {v : fm_T} {q : Int32 × fm_T} (hf : f_X0_begin g k x1 x2 v = some q) : fm_M l D (fm_tys cI cII cLd cOc) tA b 305 (shC cI cII cLd cOc b) A yX0_begin cX0_begin 4 (some .boolean) (h + 1) [.ref (b + (lo k)), .int x1, .int x2] v (some (.int q.1)) q.2 := by
  refine fm_entry (by decide) (Nat.le_of_ble_eq_true rfl) ?_
  intro p e R s m args below meth c C hr hk0 hF hLo
  unfold f_X0_begin at hf
  show fm_V p l e R s m args below meth c D b 305 (shC cI cII cLd cOc b) A _ 4 0 [(0, .ref (b + (lo k))), (1, .int x1), (2, .int x2)] [] v
  refine fm_aload_n C dX0_begin_0 rfl 0 rfl 1 rfl ?_
  refine fm_get C (t := lo k) (lo_lt hk) ((shC_lo hk) _) rfl inG_X0 2 (by decide) F_X0_9 rfl dX0_begin_1 4 rfl ?_
  refine fm_iload_n C dX0_begin_4 rfl 1 rfl 5 rfl ?_
  by_cases b1 : x1 < 0 ∨ 12 ≤ x1.toNatClampNeg
  · rw [if_pos b1] at hf; cases hf
  rw [if_neg b1] at hf
  refine fm_iald C (t := bo k) (t0 := 0) (bo_lt (j := 0) hk (by decide)) ((shC_b0 hk) _) rfl b1 dX0_begin_5 6 rfl ?_
  refine fm_iconst C (x := 1) dX0_begin_6 (by decide) 7 rfl ?_
  refine fm_icmp_eq C 20 dX0_begin_7 (by decide) (fun c2 => ?_) 10 rfl (fun c2 => ?_)
  · rw [if_pos c2] at hf
    refine fm_iconst C (x := 1) dX0_begin_20 (by decide) 21 rfl ?_
    obtain rfl := Option.some.inj hf
    exact fm_zret C hr hk0 (Or.inr rfl) dX0_begin_21
  · rw [if_neg c2] at hf
    refine fm_aload_n C dX0_begin_10 rfl 0 rfl 11 rfl ?_
    refine fm_get C (t := lo k) (lo_lt hk) ((shC_lo hk) _) rfl inG_X0 2 (by decide) F_X0_9 rfl dX0_begin_11 14 rfl ?_
    refine fm_iload_n C dX0_begin_14 rfl 1 rfl 15 rfl ?_
    refine fm_iald C (t := bo k) (t0 := 0) (bo_lt (j := 0) hk (by decide)) ((shC_b0 hk) _) rfl b1 dX0_begin_15 16 rfl ?_
    refine fm_iconst C (x := 2) dX0_begin_16 (by decide) 17 rfl ?_
    refine fm_icmp_ne C 22 dX0_begin_17 (by decide) (fun c3 => ?_) 20 rfl (fun c3 => ?_)
    · rw [if_neg c3] at hf
      refine fm_aload_n C dX0_begin_22 rfl 0 rfl 23 rfl ?_
      refine fm_get C (t := lo k) (lo_lt hk) ((shC_lo hk) _) rfl inG_X0 2 (by decide) F_X0_9 rfl dX0_begin_23 26 rfl ?_
      refine fm_iload_n C dX0_begin_26 rfl 1 rfl 27 rfl ?_
      refine fm_iald C (t := bo k) (t0 := 0) (bo_lt (j := 0) hk (by decide)) ((shC_b0 hk) _) rfl b1 dX0_begin_27 28 rfl ?_
      refine fm_iconst C (x := 3) dX0_begin_28 (by decide) 29 rfl ?_
      refine fm_icmp_eq C 38 dX0_begin_29 (by decide) (fun c4 => ?_) 32 rfl (fun c4 => ?_)
      · rw [if_pos c4] at hf
        refine fm_aload_n C dX0_begin_38 rfl 0 rfl 39 rfl ?_
        refine fm_get C (t := lo k) (lo_lt hk) ((shC_lo hk) _) rfl inG_X0 6 (by decide) F_X0_30 rfl dX0_begin_39 42 rfl ?_
        refine fm_bipush C (x := 6) dX0_begin_42 (by decide) 44 rfl ?_
        refine fm_iload_n C dX0_begin_44 rfl 1 rfl 45 rfl ?_
        obtain ⟨q6, h5, hf⟩ := Option.bind_eq_some_iff.mp hf
        refine fm_callN C Y_X1_fail (t := bo k + 16) (isO_lt (isO_now hk)) ((shC_O (isO_now hk)) _) rfl LN_X0_55 (As := [.int 6, .int x1]) (rest := []) (c_X1_fail (isO_now hk) h5) (by omega) (by omega) rfl (Nat.le_of_ble_eq_true rfl) dX0_begin_45 48 rfl [.int q6.1] rfl ?_
        by_cases r7 : q6.1 = 0 ∨ q6.1 = 1
        · rw [if_pos r7] at hf
          obtain rfl := Option.some.inj hf
          exact fm_zret C hr hk0 r7 dX0_begin_48
        · rw [if_neg r7] at hf; cases hf
      · rw [if_neg c4] at hf
        refine fm_iload_n C dX0_begin_32 rfl 2 rfl 33 rfl ?_
        refine fm_bipush C (x := 66) dX0_begin_33 (by decide) 35 rfl ?_
        refine fm_icmp_le C 49 dX0_begin_35 (by decide) (fun c8 => ?_) 38 rfl (fun c8 => ?_)
        · rw [if_pos c8] at hf
          refine fm_aload_n C dX0_begin_49 rfl 0 rfl 50 rfl ?_
          refine fm_get C (t := lo k) (lo_lt hk) ((shC_lo hk) _) rfl inG_X0 2 (by decide) F_X0_9 rfl dX0_begin_50 53 rfl ?_
          refine fm_iload_n C dX0_begin_53 rfl 1 rfl 54 rfl ?_
          refine fm_iconst C (x := 2) dX0_begin_54 (by decide) 55 rfl ?_
          obtain ⟨m10, e9, hf⟩ := Option.bind_eq_some_iff.mp hf
          refine fm_iast C (t := bo k) (t0 := 0) (bo_lt (j := 0) hk (by decide)) (shC_b0 hk) rfl b1 dX0_begin_55 56 rfl m10 (Option.some.inj e9) ?_
          refine fm_aload_n C dX0_begin_56 rfl 0 rfl 57 rfl ?_
          refine fm_get C (t := lo k) (lo_lt hk) ((shC_lo hk) _) rfl inG_X0 1 (by decide) F_X0_38 rfl dX0_begin_57 60 rfl ?_
          refine fm_iconst C (x := 0) dX0_begin_60 (by decide) 61 rfl ?_
          refine fm_iload_n C dX0_begin_61 rfl 1 rfl 62 rfl ?_
          obtain ⟨q12, h11, hf⟩ := Option.bind_eq_some_iff.mp hf
          refine fm_callN C Y_X3_note (t := ev k) (ev_lt (j := 0) hk (by decide)) ((shC_ev hk) _) rfl LN_X0_75 (As := [.int 0, .int x1]) (rest := []) (c_X3_note hk h11) (by omega) (by omega) rfl (Nat.le_of_ble_eq_true rfl) dX0_begin_62 65 rfl [] rfl ?_
          refine fm_aload_n C dX0_begin_65 rfl 0 rfl 66 rfl ?_
          refine fm_get C (t := lo k) (lo_lt hk) ((shC_lo hk) _) rfl inG_X0 0 (by decide) F_X0_34 rfl dX0_begin_66 69 rfl ?_
          refine fm_getN C (t := 1) (by decide) (shC_1 _) rfl inG_X2 2 (by decide) FN_X0_46 rfl dX0_begin_69 72 rfl ?_
          refine fm_iload_n C dX0_begin_72 rfl 1 rfl 73 rfl ?_
          refine fm_aald C (t := 3) (t0 := 1) (by decide) (shC_3 _) rfl rfl b1 (x := b + (4 + x1.toNatClampNeg)) (in_some (g := fun i => b + (4 + i)) b1) dX0_begin_73 74 rfl ?_
          refine fm_iconst C (x := 0) dX0_begin_74 (by decide) 75 rfl ?_
          refine fm_aload_n C dX0_begin_75 rfl 0 rfl 76 rfl ?_
          refine fm_get C (t := lo k) (lo_lt hk) ((shC_lo hk) _) rfl inG_X0 3 (by decide) F_X0_17 rfl dX0_begin_76 79 rfl ?_
          refine fm_iload_n C dX0_begin_79 rfl 1 rfl 80 rfl ?_
          refine fm_aald C (t := bo k + 1) (t0 := 1) (bo_lt hk (by decide)) ((shC_b1 hk) _) rfl rfl b1 (x := b + (bo k + 2 + x1.toNatClampNeg)) (in_some (g := fun i => b + (bo k + 2 + i)) b1) dX0_begin_80 81 rfl ?_
          refine fm_iconst C (x := 0) dX0_begin_81 (by decide) 82 rfl ?_
          refine fm_bipush C (x := 8) dX0_begin_82 (by decide) 84 rfl ?_
          obtain ⟨m14, e13, hf⟩ := Option.bind_eq_some_iff.mp hf
          refine fm_copy C (t0 := 4 + x1.toNatClampNeg) (t1 := bo k + 2 + x1.toNatClampNeg) (j0 := 0) (by have := in_lt b1; omega) (row_lt hk (in_lt b1)) ((shC_r4 (in_lt b1)) _) (shC_row hk (in_lt b1)) rfl FA_X0_125 cp_nat cp_stat cp_ini (sp := 0) (dp := 0) (n := 8) (by decide) (by decide) (by decide) (by decide) (by decide) (by omega) (Nat.le_trans (show _ ≤ 40 by decide) (by omega)) dX0_begin_84 87 rfl m14 (Option.some.inj e13) ?_
          refine fm_aload_n C dX0_begin_87 rfl 0 rfl 88 rfl ?_
          refine fm_iload_n C dX0_begin_88 rfl 1 rfl 89 rfl ?_
          refine fm_iload_n C dX0_begin_89 rfl 2 rfl 90 rfl ?_
          refine fm_iconst C (x := 1) dX0_begin_90 (by decide) 91 rfl ?_
          refine fm_iadd C dX0_begin_91 92 rfl ?_
          obtain ⟨q16, h15, hf⟩ := Option.bind_eq_some_iff.mp hf
          refine fm_callV C Y_X0_beginUsed (t := lo k) (lo_lt hk) ((shC_lo hk) _) rfl LM_X0_131 (As := [.int x1, .int (x2 + 1)]) (rest := []) (G.2.2.2.2.2.2.1 hk h15) (by omega) (by omega) rfl (Nat.le_of_ble_eq_true rfl) dX0_begin_92 95 rfl [.int q16.1] rfl ?_
          refine fm_if_eq C 113 dX0_begin_95 (by decide) (fun c17 => ?_) 98 rfl (fun c17 => ?_)
          · rw [if_pos c17] at hf
            refine fm_iconst C (x := 0) dX0_begin_113 (by decide) 114 rfl ?_
            refine fm_istore_n C [(3, .int 0), (0, .ref (b + (lo k))), (1, .int x1), (2, .int x2)] dX0_begin_114 rfl (by decide) rfl 115 rfl ?_
            refine fm_aload_n C dX0_begin_115 rfl 1 rfl 116 rfl ?_
            refine fm_get C (t := lo k) (lo_lt hk) ((shC_lo hk) _) rfl inG_X0 2 (by decide) F_X0_9 rfl dX0_begin_116 119 rfl ?_
            refine fm_iload_n C dX0_begin_119 rfl 2 rfl 120 rfl ?_
            refine fm_iload_n C dX0_begin_120 rfl 0 rfl 121 rfl ?_
            refine fm_if_eq C 128 dX0_begin_121 (by decide) (fun _ => ?_) 124 rfl (fun c0 => absurd c0 (by decide))
            refine fm_iconst C (x := 3) dX0_begin_128 (by decide) 129 rfl ?_
            obtain ⟨m19, e18, hf⟩ := Option.bind_eq_some_iff.mp hf
            refine fm_iast C (t := bo k) (t0 := 0) (bo_lt (j := 0) hk (by decide)) (shC_b0 hk) rfl b1 dX0_begin_129 130 rfl m19 (Option.some.inj e18) ?_
            refine fm_aload_n C dX0_begin_130 rfl 1 rfl 131 rfl ?_
            refine fm_get C (t := lo k) (lo_lt hk) ((shC_lo hk) _) rfl inG_X0 1 (by decide) F_X0_38 rfl dX0_begin_131 134 rfl ?_
            refine fm_iload_n C dX0_begin_134 rfl 0 rfl 135 rfl ?_
            refine fm_if_eq C 142 dX0_begin_135 (by decide) (fun _ => ?_) 138 rfl (fun c0 => absurd c0 (by decide))
            refine fm_iconst C (x := 2) dX0_begin_142 (by decide) 143 rfl ?_
            refine fm_iload_n C dX0_begin_143 rfl 2 rfl 144 rfl ?_
            obtain ⟨q21, h20, hf⟩ := Option.bind_eq_some_iff.mp hf
            refine fm_callN C Y_X3_note (t := ev k) (ev_lt (j := 0) hk (by decide)) ((shC_ev hk) _) rfl LN_X0_75 (As := [.int 2, .int x1]) (rest := []) (c_X3_note hk h20) (by omega) (by omega) rfl (Nat.le_of_ble_eq_true rfl) dX0_begin_144 147 rfl [] rfl ?_
            refine fm_iload_n C dX0_begin_147 rfl 0 rfl 148 rfl ?_
            refine fm_if_ne C 162 dX0_begin_148 (by decide) (fun c0 => absurd c0 (by decide)) 151 rfl (fun _ => ?_)
            refine fm_aload_n C dX0_begin_151 rfl 1 rfl 152 rfl ?_
            refine fm_get C (t := lo k) (lo_lt hk) ((shC_lo hk) _) rfl inG_X0 6 (by decide) F_X0_30 rfl dX0_begin_152 155 rfl ?_
            refine fm_iload_n C dX0_begin_155 rfl 2 rfl 156 rfl ?_
            obtain ⟨q23, h22, hf⟩ := Option.bind_eq_some_iff.mp hf
            refine fm_callN C Y_X1_failStart (t := bo k + 16) (isO_lt (isO_now hk)) ((shC_O (isO_now hk)) _) rfl LN_X0_137 (As := [.int x1]) (rest := []) (c_X1_failStart (isO_now hk) h22) (by omega) (by omega) rfl (Nat.le_of_ble_eq_true rfl) dX0_begin_156 159 rfl [.int q23.1] rfl ?_
            refine fm_if_eq C 166 dX0_begin_159 (by decide) (fun c24 => ?_) 162 rfl (fun c24 => ?_)
            · rw [if_pos c24] at hf
              refine fm_iconst C (x := 0) dX0_begin_166 (by decide) 167 rfl ?_
              obtain rfl := Option.some.inj hf
              exact fm_zret C hr hk0 (Or.inl rfl) dX0_begin_167
            · rw [if_neg c24] at hf
              refine fm_iconst C (x := 1) dX0_begin_162 (by decide) 163 rfl ?_
              refine fm_goto C 167 dX0_begin_163 (by decide) ?_
              obtain rfl := Option.some.inj hf
              exact fm_zret C hr hk0 (Or.inr rfl) dX0_begin_167
          · rw [if_neg c17] at hf
            refine fm_aload_n C dX0_begin_98 rfl 0 rfl 99 rfl ?_
            refine fm_iload_n C dX0_begin_99 rfl 1 rfl 100 rfl ?_
            refine fm_iload_n C dX0_begin_100 rfl 2 rfl 101 rfl ?_
            refine fm_iconst C (x := 1) dX0_begin_101 (by decide) 102 rfl ?_
            refine fm_iadd C dX0_begin_102 103 rfl ?_
            obtain ⟨q26, h25, hf⟩ := Option.bind_eq_some_iff.mp hf
            refine fm_callV C Y_X0_doDeeds (t := lo k) (lo_lt hk) ((shC_lo hk) _) rfl LM_X0_134 (As := [.int x1, .int (x2 + 1)]) (rest := []) (G.2.2.2.2.2.2.2.1 hk h25) (by omega) (by omega) rfl (Nat.le_of_ble_eq_true rfl) dX0_begin_103 106 rfl [.int q26.1] rfl ?_
            refine fm_if_eq C 113 dX0_begin_106 (by decide) (fun c27 => ?_) 109 rfl (fun c27 => ?_)
            · rw [if_pos c27] at hf
              refine fm_iconst C (x := 0) dX0_begin_113 (by decide) 114 rfl ?_
              refine fm_istore_n C [(3, .int 0), (0, .ref (b + (lo k))), (1, .int x1), (2, .int x2)] dX0_begin_114 rfl (by decide) rfl 115 rfl ?_
              refine fm_aload_n C dX0_begin_115 rfl 1 rfl 116 rfl ?_
              refine fm_get C (t := lo k) (lo_lt hk) ((shC_lo hk) _) rfl inG_X0 2 (by decide) F_X0_9 rfl dX0_begin_116 119 rfl ?_
              refine fm_iload_n C dX0_begin_119 rfl 2 rfl 120 rfl ?_
              refine fm_iload_n C dX0_begin_120 rfl 0 rfl 121 rfl ?_
              refine fm_if_eq C 128 dX0_begin_121 (by decide) (fun _ => ?_) 124 rfl (fun c0 => absurd c0 (by decide))
              refine fm_iconst C (x := 3) dX0_begin_128 (by decide) 129 rfl ?_
              obtain ⟨m29, e28, hf⟩ := Option.bind_eq_some_iff.mp hf
              refine fm_iast C (t := bo k) (t0 := 0) (bo_lt (j := 0) hk (by decide)) (shC_b0 hk) rfl b1 dX0_begin_129 130 rfl m29 (Option.some.inj e28) ?_
              refine fm_aload_n C dX0_begin_130 rfl 1 rfl 131 rfl ?_
              refine fm_get C (t := lo k) (lo_lt hk) ((shC_lo hk) _) rfl inG_X0 1 (by decide) F_X0_38 rfl dX0_begin_131 134 rfl ?_
              refine fm_iload_n C dX0_begin_134 rfl 0 rfl 135 rfl ?_
              refine fm_if_eq C 142 dX0_begin_135 (by decide) (fun _ => ?_) 138 rfl (fun c0 => absurd c0 (by decide))
              refine fm_iconst C (x := 2) dX0_begin_142 (by decide) 143 rfl ?_
              refine fm_iload_n C dX0_begin_143 rfl 2 rfl 144 rfl ?_
              obtain ⟨q31, h30, hf⟩ := Option.bind_eq_some_iff.mp hf
              refine fm_callN C Y_X3_note (t := ev k) (ev_lt (j := 0) hk (by decide)) ((shC_ev hk) _) rfl LN_X0_75 (As := [.int 2, .int x1]) (rest := []) (c_X3_note hk h30) (by omega) (by omega) rfl (Nat.le_of_ble_eq_true rfl) dX0_begin_144 147 rfl [] rfl ?_
              refine fm_iload_n C dX0_begin_147 rfl 0 rfl 148 rfl ?_
              refine fm_if_ne C 162 dX0_begin_148 (by decide) (fun c0 => absurd c0 (by decide)) 151 rfl (fun _ => ?_)
              refine fm_aload_n C dX0_begin_151 rfl 1 rfl 152 rfl ?_
              refine fm_get C (t := lo k) (lo_lt hk) ((shC_lo hk) _) rfl inG_X0 6 (by decide) F_X0_30 rfl dX0_begin_152 155 rfl ?_
              refine fm_iload_n C dX0_begin_155 rfl 2 rfl 156 rfl ?_
              obtain ⟨q33, h32, hf⟩ := Option.bind_eq_some_iff.mp hf
              refine fm_callN C Y_X1_failStart (t := bo k + 16) (isO_lt (isO_now hk)) ((shC_O (isO_now hk)) _) rfl LN_X0_137 (As := [.int x1]) (rest := []) (c_X1_failStart (isO_now hk) h32) (by omega) (by omega) rfl (Nat.le_of_ble_eq_true rfl) dX0_begin_156 159 rfl [.int q33.1] rfl ?_
              refine fm_if_eq C 166 dX0_begin_159 (by decide) (fun c34 => ?_) 162 rfl (fun c34 => ?_)
              · rw [if_pos c34] at hf
                refine fm_iconst C (x := 0) dX0_begin_166 (by decide) 167 rfl ?_
                obtain rfl := Option.some.inj hf
                exact fm_zret C hr hk0 (Or.inl rfl) dX0_begin_167
              · rw [if_neg c34] at hf
                refine fm_iconst C (x := 1) dX0_begin_162 (by decide) 163 rfl ?_
                refine fm_goto C 167 dX0_begin_163 (by decide) ?_
                obtain rfl := Option.some.inj hf
                exact fm_zret C hr hk0 (Or.inr rfl) dX0_begin_167
            · rw [if_neg c27] at hf
              refine fm_iconst C (x := 1) dX0_begin_109 (by decide) 110 rfl ?_
              refine fm_goto C 114 dX0_begin_110 (by decide) ?_
              refine fm_istore_n C [(3, .int 1), (0, .ref (b + (lo k))), (1, .int x1), (2, .int x2)] dX0_begin_114 rfl (by decide) rfl 115 rfl ?_
              refine fm_aload_n C dX0_begin_115 rfl 1 rfl 116 rfl ?_
              refine fm_get C (t := lo k) (lo_lt hk) ((shC_lo hk) _) rfl inG_X0 2 (by decide) F_X0_9 rfl dX0_begin_116 119 rfl ?_
              refine fm_iload_n C dX0_begin_119 rfl 2 rfl 120 rfl ?_
              refine fm_iload_n C dX0_begin_120 rfl 0 rfl 121 rfl ?_
              refine fm_if_eq C 128 dX0_begin_121 (by decide) (fun c0 => absurd c0 (by decide)) 124 rfl (fun _ => ?_)
              refine fm_iconst C (x := 1) dX0_begin_124 (by decide) 125 rfl ?_
              refine fm_goto C 129 dX0_begin_125 (by decide) ?_
              obtain ⟨m36, e35, hf⟩ := Option.bind_eq_some_iff.mp hf
              refine fm_iast C (t := bo k) (t0 := 0) (bo_lt (j := 0) hk (by decide)) (shC_b0 hk) rfl b1 dX0_begin_129 130 rfl m36 (Option.some.inj e35) ?_
              refine fm_aload_n C dX0_begin_130 rfl 1 rfl 131 rfl ?_
              refine fm_get C (t := lo k) (lo_lt hk) ((shC_lo hk) _) rfl inG_X0 1 (by decide) F_X0_38 rfl dX0_begin_131 134 rfl ?_
              refine fm_iload_n C dX0_begin_134 rfl 0 rfl 135 rfl ?_
              refine fm_if_eq C 142 dX0_begin_135 (by decide) (fun c0 => absurd c0 (by decide)) 138 rfl (fun _ => ?_)
              refine fm_iconst C (x := 1) dX0_begin_138 (by decide) 139 rfl ?_
              refine fm_goto C 143 dX0_begin_139 (by decide) ?_
              refine fm_iload_n C dX0_begin_143 rfl 2 rfl 144 rfl ?_
              obtain ⟨q38, h37, hf⟩ := Option.bind_eq_some_iff.mp hf
              refine fm_callN C Y_X3_note (t := ev k) (ev_lt (j := 0) hk (by decide)) ((shC_ev hk) _) rfl LN_X0_75 (As := [.int 1, .int x1]) (rest := []) (c_X3_note hk h37) (by omega) (by omega) rfl (Nat.le_of_ble_eq_true rfl) dX0_begin_144 147 rfl [] rfl ?_
              refine fm_iload_n C dX0_begin_147 rfl 0 rfl 148 rfl ?_
              refine fm_if_ne C 162 dX0_begin_148 (by decide) (fun _ => ?_) 151 rfl (fun c0 => absurd c0 (by decide))
              refine fm_iconst C (x := 1) dX0_begin_162 (by decide) 163 rfl ?_
              refine fm_goto C 167 dX0_begin_163 (by decide) ?_
              obtain rfl := Option.some.inj hf
              exact fm_zret C hr hk0 (Or.inr rfl) dX0_begin_167
        · rw [if_neg c8] at hf
          refine fm_aload_n C dX0_begin_38 rfl 0 rfl 39 rfl ?_
          refine fm_get C (t := lo k) (lo_lt hk) ((shC_lo hk) _) rfl inG_X0 6 (by decide) F_X0_30 rfl dX0_begin_39 42 rfl ?_
          refine fm_bipush C (x := 6) dX0_begin_42 (by decide) 44 rfl ?_
          refine fm_iload_n C dX0_begin_44 rfl 1 rfl 45 rfl ?_
          obtain ⟨q40, h39, hf⟩ := Option.bind_eq_some_iff.mp hf
          refine fm_callN C Y_X1_fail (t := bo k + 16) (isO_lt (isO_now hk)) ((shC_O (isO_now hk)) _) rfl LN_X0_55 (As := [.int 6, .int x1]) (rest := []) (c_X1_fail (isO_now hk) h39) (by omega) (by omega) rfl (Nat.le_of_ble_eq_true rfl) dX0_begin_45 48 rfl [.int q40.1] rfl ?_
          by_cases r41 : q40.1 = 0 ∨ q40.1 = 1
          · rw [if_pos r41] at hf
            obtain rfl := Option.some.inj hf
            exact fm_zret C hr hk0 r41 dX0_begin_48
          · rw [if_neg r41] at hf; cases hf
    · rw [if_pos c3] at hf
      refine fm_iconst C (x := 1) dX0_begin_20 (by decide) 21 rfl ?_
      obtain rfl := Option.some.inj hf
      exact fm_zret C hr hk0 (Or.inr rfl) dX0_begin_21
def f_X0_work (g : GT) (k : Nat) (x1 : Int32) (x2 : Int32) (v : fm_T) : Option (Int32 × fm_T) := (if x1 < 0 ∨ 40 ≤ x1.toNatClampNeg then none else ((some (fm_u v (bo k + 14) x1.toNatClampNeg 1) : Option fm_T).bind fun m3 => ((some (fm_u m3 (lo k) 7 ((m3 (lo k) 7) + 1)) : Option fm_T).bind fun m5 => ((f_X3_note k 3 x1 m5).bind fun q7 => ((g 3 k x1 (x2 + 1) 0 q7.2).bind fun q9 => ((f_X1_copy (bo k + 17 + x1.toNatClampNeg) (bo k + 16) q9.2).bind fun q11 => ((some (fm_u q11.2 (bo k + 14) x1.toNatClampNeg 2) : Option fm_T).bind fun m13 => (if q9.1 = 0 then ((f_X3_note k 5 x1 m13).bind fun q16 => (if q9.1 = 0 ∨ q9.1 = 1 then some (q9.1, q16.2) else none)) else ((f_X3_note k 4 x1 m13).bind fun q19 => (if q9.1 = 0 ∨ q9.1 = 1 then some (q9.1, q19.2) else none))))))))))
set_option maxHeartbeats 4000000 in
set_option maxRecDepth 20000 in
theorem c_X0_work {k : Nat} {x1 : Int32} {x2 : Int32} {g : GT} {h : Nat} (G : GG l D tA cI cII cLd cOc b A g h) (hh : 3 ≤ h) (hk : k < 4) {v : fm_T} {q : Int32 × fm_T} (hf : f_X0_work g k x1 x2 v = some q) : fm_M l D (fm_tys cI cII cLd cOc) tA b 305 (shC cI cII cLd cOc b) A yX0_work cX0_work 4 (some .boolean) (h + 1) [.ref (b + (lo k)), .int x1, .int x2] v (some (.int q.1)) q.2 := by
  refine fm_entry (by decide) (Nat.le_of_ble_eq_true rfl) ?_
  intro p e R s m args below meth c C hr hk0 hF hLo
  unfold f_X0_work at hf
  show fm_V p l e R s m args below meth c D b 305 (shC cI cII cLd cOc b) A _ 4 0 [(0, .ref (b + (lo k))), (1, .int x1), (2, .int x2)] [] v
  refine fm_aload_n C dX0_work_0 rfl 0 rfl 1 rfl ?_
  refine fm_get C (t := lo k) (lo_lt hk) ((shC_lo hk) _) rfl inG_X0 4 (by decide) F_X0_20 rfl dX0_work_1 4 rfl ?_
  refine fm_iload_n C dX0_work_4 rfl 1 rfl 5 rfl ?_
  refine fm_iconst C (x := 1) dX0_work_5 (by decide) 6 rfl ?_
  by_cases b1 : x1 < 0 ∨ 40 ≤ x1.toNatClampNeg
  · rw [if_pos b1] at hf; cases hf
  rw [if_neg b1] at hf
  obtain ⟨m3, e2, hf⟩ := Option.bind_eq_some_iff.mp hf
  refine fm_iast C (t := bo k + 14) (t0 := 0) (bo_lt hk (by decide)) (shC_b14 hk) rfl b1 dX0_work_6 7 rfl m3 (Option.some.inj e2) ?_
  refine fm_aload_n C dX0_work_7 rfl 0 rfl 8 rfl ?_
  refine fm_dup C dX0_work_8 rfl 9 rfl ?_
  refine fm_get C (t := lo k) (lo_lt hk) ((shC_lo hk) _) rfl inG_X0 7 (by decide) F_X0_72 rfl dX0_work_9 12 rfl ?_
  refine fm_iconst C (x := 1) dX0_work_12 (by decide) 13 rfl ?_
  refine fm_iadd C dX0_work_13 14 rfl ?_
  obtain ⟨m5, e4, hf⟩ := Option.bind_eq_some_iff.mp hf
  refine fm_put C (t := lo k) (lo_lt hk) ((shC_lo hk) _) rfl inG_X0 7 (by decide) F_X0_72 tyX0 tyX0_ok nmX0 rfl (ty := .int) (by decide +kernel) rfl rfl (Nat.le_of_ble_eq_true rfl) (((shC_lo hk) _).trans rfl) dX0_work_14 17 rfl m5 (Option.some.inj e4) ?_
  refine fm_aload_n C dX0_work_17 rfl 0 rfl 18 rfl ?_
  refine fm_get C (t := lo k) (lo_lt hk) ((shC_lo hk) _) rfl inG_X0 1 (by decide) F_X0_38 rfl dX0_work_18 21 rfl ?_
  refine fm_iconst C (x := 3) dX0_work_21 (by decide) 22 rfl ?_
  refine fm_iload_n C dX0_work_22 rfl 1 rfl 23 rfl ?_
  obtain ⟨q7, h6, hf⟩ := Option.bind_eq_some_iff.mp hf
  refine fm_callN C Y_X3_note (t := ev k) (ev_lt (j := 0) hk (by decide)) ((shC_ev hk) _) rfl LN_X0_75 (As := [.int 3, .int x1]) (rest := []) (c_X3_note hk h6) (by omega) (by omega) rfl (Nat.le_of_ble_eq_true rfl) dX0_work_23 26 rfl [] rfl ?_
  refine fm_aload_n C dX0_work_26 rfl 0 rfl 27 rfl ?_
  refine fm_iload_n C dX0_work_27 rfl 1 rfl 28 rfl ?_
  refine fm_iload_n C dX0_work_28 rfl 2 rfl 29 rfl ?_
  refine fm_iconst C (x := 1) dX0_work_29 (by decide) 30 rfl ?_
  refine fm_iadd C dX0_work_30 31 rfl ?_
  obtain ⟨q9, h8, hf⟩ := Option.bind_eq_some_iff.mp hf
  refine fm_callV C Y_X0_reckon (t := lo k) (lo_lt hk) ((shC_lo hk) _) rfl LM_X0_81 (As := [.int x1, .int (x2 + 1)]) (rest := []) (G.2.2.2.1 hk h8) (by omega) (by omega) rfl (Nat.le_of_ble_eq_true rfl) dX0_work_31 34 rfl [.int q9.1] rfl ?_
  refine fm_istore_n C [(3, .int q9.1), (0, .ref (b + (lo k))), (1, .int x1), (2, .int x2)] dX0_work_34 rfl (by decide) rfl 35 rfl ?_
  refine fm_aload_n C dX0_work_35 rfl 1 rfl 36 rfl ?_
  refine fm_get C (t := lo k) (lo_lt hk) ((shC_lo hk) _) rfl inG_X0 5 (by decide) F_X0_25 rfl dX0_work_36 39 rfl ?_
  refine fm_iload_n C dX0_work_39 rfl 2 rfl 40 rfl ?_
  refine fm_aald C (t := bo k + 15) (t0 := 3) (bo_lt hk (by decide)) ((shC_b15 hk) _) rfl rfl b1 (x := b + (bo k + 17 + x1.toNatClampNeg)) (in_some (g := fun i => b + (bo k + 17 + i)) b1) dX0_work_40 41 rfl ?_
  refine fm_aload_n C dX0_work_41 rfl 1 rfl 42 rfl ?_
  refine fm_get C (t := lo k) (lo_lt hk) ((shC_lo hk) _) rfl inG_X0 6 (by decide) F_X0_30 rfl dX0_work_42 45 rfl ?_
  obtain ⟨q11, h10, hf⟩ := Option.bind_eq_some_iff.mp hf
  refine fm_callN C Y_X1_copy (t := bo k + 17 + x1.toNatClampNeg) (isO_lt (isO_out hk (in_lt b1))) ((shC_O (isO_out hk (in_lt b1))) _) rfl LN_X0_65 (As := [.ref (b + (bo k + 16))]) (rest := []) (c_X1_copy (isO_out hk (in_lt b1)) (isO_now hk) h10) (by omega) (by omega) rfl (Nat.le_of_ble_eq_true rfl) dX0_work_45 48 rfl [] rfl ?_
  refine fm_aload_n C dX0_work_48 rfl 1 rfl 49 rfl ?_
  refine fm_get C (t := lo k) (lo_lt hk) ((shC_lo hk) _) rfl inG_X0 4 (by decide) F_X0_20 rfl dX0_work_49 52 rfl ?_
  refine fm_iload_n C dX0_work_52 rfl 2 rfl 53 rfl ?_
  refine fm_iconst C (x := 2) dX0_work_53 (by decide) 54 rfl ?_
  obtain ⟨m13, e12, hf⟩ := Option.bind_eq_some_iff.mp hf
  refine fm_iast C (t := bo k + 14) (t0 := 0) (bo_lt hk (by decide)) (shC_b14 hk) rfl b1 dX0_work_54 55 rfl m13 (Option.some.inj e12) ?_
  refine fm_aload_n C dX0_work_55 rfl 1 rfl 56 rfl ?_
  refine fm_get C (t := lo k) (lo_lt hk) ((shC_lo hk) _) rfl inG_X0 1 (by decide) F_X0_38 rfl dX0_work_56 59 rfl ?_
  refine fm_iload_n C dX0_work_59 rfl 0 rfl 60 rfl ?_
  refine fm_if_eq C 67 dX0_work_60 (by decide) (fun c14 => ?_) 63 rfl (fun c14 => ?_)
  · rw [if_pos c14] at hf
    refine fm_iconst C (x := 5) dX0_work_67 (by decide) 68 rfl ?_
    refine fm_iload_n C dX0_work_68 rfl 2 rfl 69 rfl ?_
    obtain ⟨q16, h15, hf⟩ := Option.bind_eq_some_iff.mp hf
    refine fm_callN C Y_X3_note (t := ev k) (ev_lt (j := 0) hk (by decide)) ((shC_ev hk) _) rfl LN_X0_75 (As := [.int 5, .int x1]) (rest := []) (c_X3_note hk h15) (by omega) (by omega) rfl (Nat.le_of_ble_eq_true rfl) dX0_work_69 72 rfl [] rfl ?_
    refine fm_iload_n C dX0_work_72 rfl 0 rfl 73 rfl ?_
    by_cases r17 : q9.1 = 0 ∨ q9.1 = 1
    · rw [if_pos r17] at hf
      obtain rfl := Option.some.inj hf
      exact fm_zret C hr hk0 r17 dX0_work_73
    · rw [if_neg r17] at hf; cases hf
  · rw [if_neg c14] at hf
    refine fm_iconst C (x := 4) dX0_work_63 (by decide) 64 rfl ?_
    refine fm_goto C 68 dX0_work_64 (by decide) ?_
    refine fm_iload_n C dX0_work_68 rfl 2 rfl 69 rfl ?_
    obtain ⟨q19, h18, hf⟩ := Option.bind_eq_some_iff.mp hf
    refine fm_callN C Y_X3_note (t := ev k) (ev_lt (j := 0) hk (by decide)) ((shC_ev hk) _) rfl LN_X0_75 (As := [.int 4, .int x1]) (rest := []) (c_X3_note hk h18) (by omega) (by omega) rfl (Nat.le_of_ble_eq_true rfl) dX0_work_69 72 rfl [] rfl ?_
    refine fm_iload_n C dX0_work_72 rfl 0 rfl 73 rfl ?_
    by_cases r20 : q9.1 = 0 ∨ q9.1 = 1
    · rw [if_pos r20] at hf
      obtain rfl := Option.some.inj hf
      exact fm_zret C hr hk0 r20 dX0_work_73
    · rw [if_neg r20] at hf; cases hf
def f_X0_reckon (g : GT) (k : Nat) (x1 : Int32) (x2 : Int32) (v : fm_T) : Option (Int32 × fm_T) := (if x1 < 0 ∨ 40 ≤ x1.toNatClampNeg then none else (if v 58 x1.toNatClampNeg = 0 then ((f_X1_succeed (bo k + 16) (v 59 x1.toNatClampNeg) v).bind fun q4 => (if q4.1 = 0 ∨ q4.1 = 1 then some (q4.1, q4.2) else none)) else (if v 58 x1.toNatClampNeg = 1 then ((g 0 k (v 59 x1.toNatClampNeg) x2 0 v).bind fun q8 => (if q8.1 = 0 then some (0, q8.2) else ((f_X1_succeed (bo k + 16) ((q8.2 (bo k + 16) 0) + (v 60 x1.toNatClampNeg)) q8.2).bind fun q11 => (if q11.1 = 0 then some (0, q11.2) else some (1, q11.2))))) else (if v 58 x1.toNatClampNeg = 2 then ((g 4 k (v 59 x1.toNatClampNeg) (v 60 x1.toNatClampNeg) x2 v).bind fun q15 => (if q15.1 = 0 ∨ q15.1 = 1 then some (q15.1, q15.2) else none)) else (if v 58 x1.toNatClampNeg = 3 then ((g 5 k (v 59 x1.toNatClampNeg) (v 60 x1.toNatClampNeg) x2 v).bind fun q19 => (if q19.1 = 0 ∨ q19.1 = 1 then some (q19.1, q19.2) else none)) else (if v 58 x1.toNatClampNeg = 4 then ((g 0 k (v 59 x1.toNatClampNeg) x2 0 v).bind fun q23 => (if q23.1 = 0 then some (0, q23.2) else ((f_X0_readItem k (q23.2 57 x1.toNatClampNeg) (q23.2 (bo k + 16) 0) q23.2).bind fun q26 => (if q26.1 = 0 then some (0, q26.2) else some (1, q26.2))))) else (if v 58 x1.toNatClampNeg = 5 then ((g 0 k (v 59 x1.toNatClampNeg) x2 0 v).bind fun q30 => (if q30.1 = 0 then ((f_X1_succeed (bo k + 16) (v 60 x1.toNatClampNeg) q30.2).bind fun q33 => (if q33.1 = 0 then some (0, q33.2) else some (1, q33.2))) else some (1, q30.2))) else (if v 58 x1.toNatClampNeg = 6 then ((f_X1_fail (bo k + 16) 3 (v 59 x1.toNatClampNeg) v).bind fun q37 => (if q37.1 = 0 ∨ q37.1 = 1 then some (q37.1, q37.2) else none)) else (if v 58 x1.toNatClampNeg = 7 then ((g 0 k (v 59 x1.toNatClampNeg) x2 0 v).bind fun q41 => (if q41.1 = 0 then some (0, q41.2) else (if q41.2 (bo k + 16) 0 = 0 then ((g 0 k (q41.2 61 x1.toNatClampNeg) x2 0 q41.2).bind fun q45 => (if q45.1 = 0 then some (0, q45.2) else some (1, q45.2))) else ((g 0 k (v 60 x1.toNatClampNeg) x2 0 q41.2).bind fun q48 => (if q48.1 = 0 then some (0, q48.2) else some (1, q48.2)))))) else (if v 58 x1.toNatClampNeg = 8 then (if v 59 x1.toNatClampNeg < 0 ∨ 12 ≤ (v 59 x1.toNatClampNeg).toNatClampNeg then none else ((f_X1_succeed (bo k + 16) (v (bo k) ((v 59 x1.toNatClampNeg).toNatClampNeg)) v).bind fun q53 => (if q53.1 = 0 ∨ q53.1 = 1 then some (q53.1, q53.2) else none))) else (if v 58 x1.toNatClampNeg = 9 then ((f_X2_countConstants (v 59 x1.toNatClampNeg) v).bind fun q57 => ((f_X1_succeed (bo k + 16) q57.1 q57.2).bind fun q59 => (if q59.1 = 0 ∨ q59.1 = 1 then some (q59.1, q59.2) else none))) else (if v 58 x1.toNatClampNeg = 10 then ((g 1 k (v 59 x1.toNatClampNeg) x2 0 v).bind fun q63 => (if q63.1 = 0 then some (0, q63.2) else ((f_X1_succeed (bo k + 16) 1 q63.2).bind fun q66 => (if q66.1 = 0 then some (0, q66.2) else some (1, q66.2))))) else (if v 58 x1.toNatClampNeg = 11 then ((g 0 k (v 59 x1.toNatClampNeg) x2 0 v).bind fun q70 => (if q70.1 = 0 then some (0, q70.2) else ((f_X0_writeItem k (q70.2 57 x1.toNatClampNeg) (v 60 x1.toNatClampNeg) (q70.2 (bo k + 16) 0) q70.2).bind fun q73 => (if q73.1 = 0 then some (0, q73.2) else some (1, q73.2))))) else ((f_X1_fail (bo k + 16) 3 (v 59 x1.toNatClampNeg) v).bind fun q76 => (if q76.1 = 0 ∨ q76.1 = 1 then some (q76.1, q76.2) else none)))))))))))))))
set_option maxHeartbeats 4000000 in
set_option maxRecDepth 20000 in
theorem c_X0_reckon {k : Nat} {x1 : Int32} {x2 : Int32} {g : GT} {h : Nat} (G : GG l D tA cI cII cLd cOc b A g h) (hh : 3 ≤ h) (hk : k < 4) {v : fm_T} {q : Int32 × fm_T} (hf : f_X0_reckon g k x1 x2 v = some q) : fm_M l D (fm_tys cI cII cLd cOc) tA b 305 (shC cI cII cLd cOc b) A yX0_reckon cX0_reckon 5 (some .boolean) (h + 1) [.ref (b + (lo k)), .int x1, .int x2] v (some (.int q.1)) q.2 := by
  refine fm_entry (by decide) (Nat.le_of_ble_eq_true rfl) ?_
  intro p e R s m args below meth c C hr hk0 hF hLo
  unfold f_X0_reckon at hf
  show fm_V p l e R s m args below meth c D b 305 (shC cI cII cLd cOc b) A _ 5 0 [(0, .ref (b + (lo k))), (1, .int x1), (2, .int x2)] [] v
  refine fm_aload_n C dX0_reckon_0 rfl 0 rfl 1 rfl ?_
  refine fm_get C (t := lo k) (lo_lt hk) ((shC_lo hk) _) rfl inG_X0 0 (by decide) F_X0_34 rfl dX0_reckon_1 4 rfl ?_
  refine fm_getN C (t := 1) (by decide) (shC_1 _) rfl inG_X2 11 (by decide) FN_X0_84 rfl dX0_reckon_4 7 rfl ?_
  refine fm_iload_n C dX0_reckon_7 rfl 1 rfl 8 rfl ?_
  by_cases b1 : x1 < 0 ∨ 40 ≤ x1.toNatClampNeg
  · rw [if_pos b1] at hf; cases hf
  rw [if_neg b1] at hf
  refine fm_iald C (t := 59) (t0 := 0) (by decide) (shC_59 _) rfl b1 dX0_reckon_8 9 rfl ?_
  refine fm_istore_n C [(3, .int (v 59 x1.toNatClampNeg)), (0, .ref (b + (lo k))), (1, .int x1), (2, .int x2)] dX0_reckon_9 rfl (by decide) rfl 10 rfl ?_
  refine fm_aload_n C dX0_reckon_10 rfl 1 rfl 11 rfl ?_
  refine fm_get C (t := lo k) (lo_lt hk) ((shC_lo hk) _) rfl inG_X0 0 (by decide) F_X0_34 rfl dX0_reckon_11 14 rfl ?_
  refine fm_getN C (t := 1) (by decide) (shC_1 _) rfl inG_X2 12 (by decide) FN_X0_87 rfl dX0_reckon_14 17 rfl ?_
  refine fm_iload_n C dX0_reckon_17 rfl 2 rfl 18 rfl ?_
  refine fm_iald C (t := 60) (t0 := 0) (by decide) (shC_60 _) rfl b1 dX0_reckon_18 19 rfl ?_
  refine fm_istore C [(4, .int (v 60 x1.toNatClampNeg)), (3, .int (v 59 x1.toNatClampNeg)), (0, .ref (b + (lo k))), (1, .int x1), (2, .int x2)] dX0_reckon_19 (by decide) rfl 21 rfl ?_
  refine fm_aload_n C dX0_reckon_21 rfl 2 rfl 22 rfl ?_
  refine fm_get C (t := lo k) (lo_lt hk) ((shC_lo hk) _) rfl inG_X0 0 (by decide) F_X0_34 rfl dX0_reckon_22 25 rfl ?_
  refine fm_getN C (t := 1) (by decide) (shC_1 _) rfl inG_X2 10 (by decide) FN_X0_90 rfl dX0_reckon_25 28 rfl ?_
  refine fm_iload_n C dX0_reckon_28 rfl 3 rfl 29 rfl ?_
  refine fm_iald C (t := 58) (t0 := 0) (by decide) (shC_58 _) rfl b1 dX0_reckon_29 30 rfl ?_
  by_cases w2 : v 58 x1.toNatClampNeg = 0
  · rw [if_pos w2] at hf
    refine fm_tableIn C (off := 62) 92 dX0_reckon_30 (by rw [w2]; decide) (by rw [w2]; decide) (by rw [w2] <;> rfl) (by decide) ?_
    refine fm_aload_n C dX0_reckon_92 rfl 2 rfl 93 rfl ?_
    refine fm_get C (t := lo k) (lo_lt hk) ((shC_lo hk) _) rfl inG_X0 6 (by decide) F_X0_30 rfl dX0_reckon_93 96 rfl ?_
    refine fm_iload_n C dX0_reckon_96 rfl 1 rfl 97 rfl ?_
    obtain ⟨q4, h3, hf⟩ := Option.bind_eq_some_iff.mp hf
    refine fm_callN C Y_X1_succeed (t := bo k + 16) (isO_lt (isO_now hk)) ((shC_O (isO_now hk)) _) rfl LN_X0_93 (As := [.int (v 59 x1.toNatClampNeg)]) (rest := []) (c_X1_succeed (isO_now hk) h3) (by omega) (by omega) rfl (Nat.le_of_ble_eq_true rfl) dX0_reckon_97 100 rfl [.int q4.1] rfl ?_
    by_cases r5 : q4.1 = 0 ∨ q4.1 = 1
    · rw [if_pos r5] at hf
      obtain rfl := Option.some.inj hf
      exact fm_zret C hr hk0 r5 dX0_reckon_100
    · rw [if_neg r5] at hf; cases hf
  rw [if_neg w2] at hf
  by_cases w6 : v 58 x1.toNatClampNeg = 1
  · rw [if_pos w6] at hf
    refine fm_tableIn C (off := 71) 101 dX0_reckon_30 (by rw [w6]; decide) (by rw [w6]; decide) (by rw [w6] <;> rfl) (by decide) ?_
    refine fm_aload_n C dX0_reckon_101 rfl 2 rfl 102 rfl ?_
    refine fm_iload_n C dX0_reckon_102 rfl 1 rfl 103 rfl ?_
    refine fm_iload_n C dX0_reckon_103 rfl 4 rfl 104 rfl ?_
    obtain ⟨q8, h7, hf⟩ := Option.bind_eq_some_iff.mp hf
    refine fm_callV C Y_X0_obtain (t := lo k) (lo_lt hk) ((shC_lo hk) _) rfl LM_X0_96 (As := [.int (v 59 x1.toNatClampNeg), .int x2]) (rest := []) (G.1 hk h7) (by omega) (by omega) rfl (Nat.le_of_ble_eq_true rfl) dX0_reckon_104 107 rfl [.int q8.1] rfl ?_
    refine fm_if_eq C 134 dX0_reckon_107 (by decide) (fun c9 => ?_) 110 rfl (fun c9 => ?_)
    · rw [if_pos c9] at hf
      refine fm_iconst C (x := 0) dX0_reckon_134 (by decide) 135 rfl ?_
      obtain rfl := Option.some.inj hf
      exact fm_zret C hr hk0 (Or.inl rfl) dX0_reckon_135
    · rw [if_neg c9] at hf
      refine fm_aload_n C dX0_reckon_110 rfl 2 rfl 111 rfl ?_
      refine fm_get C (t := lo k) (lo_lt hk) ((shC_lo hk) _) rfl inG_X0 6 (by decide) F_X0_30 rfl dX0_reckon_111 114 rfl ?_
      refine fm_aload_n C dX0_reckon_114 rfl 2 rfl 115 rfl ?_
      refine fm_get C (t := lo k) (lo_lt hk) ((shC_lo hk) _) rfl inG_X0 6 (by decide) F_X0_30 rfl dX0_reckon_115 118 rfl ?_
      refine fm_getN C (t := bo k + 16) (isO_lt (isO_now hk)) ((shC_O (isO_now hk)) _) rfl inG_X1 0 (by decide) FN_X0_99 rfl dX0_reckon_118 121 rfl ?_
      refine fm_iload C dX0_reckon_121 0 rfl 123 rfl ?_
      refine fm_iadd C dX0_reckon_123 124 rfl ?_
      obtain ⟨q11, h10, hf⟩ := Option.bind_eq_some_iff.mp hf
      refine fm_callN C Y_X1_succeed (t := bo k + 16) (isO_lt (isO_now hk)) ((shC_O (isO_now hk)) _) rfl LN_X0_93 (As := [.int ((q8.2 (bo k + 16) 0) + (v 60 x1.toNatClampNeg))]) (rest := []) (c_X1_succeed (isO_now hk) h10) (by omega) (by omega) rfl (Nat.le_of_ble_eq_true rfl) dX0_reckon_124 127 rfl [.int q11.1] rfl ?_
      refine fm_if_eq C 134 dX0_reckon_127 (by decide) (fun c12 => ?_) 130 rfl (fun c12 => ?_)
      · rw [if_pos c12] at hf
        refine fm_iconst C (x := 0) dX0_reckon_134 (by decide) 135 rfl ?_
        obtain rfl := Option.some.inj hf
        exact fm_zret C hr hk0 (Or.inl rfl) dX0_reckon_135
      · rw [if_neg c12] at hf
        refine fm_iconst C (x := 1) dX0_reckon_130 (by decide) 131 rfl ?_
        refine fm_goto C 135 dX0_reckon_131 (by decide) ?_
        obtain rfl := Option.some.inj hf
        exact fm_zret C hr hk0 (Or.inr rfl) dX0_reckon_135
  rw [if_neg w6] at hf
  by_cases w13 : v 58 x1.toNatClampNeg = 2
  · rw [if_pos w13] at hf
    refine fm_tableIn C (off := 106) 136 dX0_reckon_30 (by rw [w13]; decide) (by rw [w13]; decide) (by rw [w13] <;> rfl) (by decide) ?_
    refine fm_aload_n C dX0_reckon_136 rfl 2 rfl 137 rfl ?_
    refine fm_iload_n C dX0_reckon_137 rfl 1 rfl 138 rfl ?_
    refine fm_iload C dX0_reckon_138 0 rfl 140 rfl ?_
    refine fm_iload_n C dX0_reckon_140 rfl 4 rfl 141 rfl ?_
    obtain ⟨q15, h14, hf⟩ := Option.bind_eq_some_iff.mp hf
    refine fm_callV C Y_X0_multiply (t := lo k) (lo_lt hk) ((shC_lo hk) _) rfl LM_X0_102 (As := [.int (v 59 x1.toNatClampNeg), .int (v 60 x1.toNatClampNeg), .int x2]) (rest := []) (G.2.2.2.2.1 hk h14) (by omega) (by omega) rfl (Nat.le_of_ble_eq_true rfl) dX0_reckon_141 144 rfl [.int q15.1] rfl ?_
    by_cases r16 : q15.1 = 0 ∨ q15.1 = 1
    · rw [if_pos r16] at hf
      obtain rfl := Option.some.inj hf
      exact fm_zret C hr hk0 r16 dX0_reckon_144
    · rw [if_neg r16] at hf; cases hf
  rw [if_neg w13] at hf
  by_cases w17 : v 58 x1.toNatClampNeg = 3
  · rw [if_pos w17] at hf
    refine fm_tableIn C (off := 115) 145 dX0_reckon_30 (by rw [w17]; decide) (by rw [w17]; decide) (by rw [w17] <;> rfl) (by decide) ?_
    refine fm_aload_n C dX0_reckon_145 rfl 2 rfl 146 rfl ?_
    refine fm_iload_n C dX0_reckon_146 rfl 1 rfl 147 rfl ?_
    refine fm_iload C dX0_reckon_147 0 rfl 149 rfl ?_
    refine fm_iload_n C dX0_reckon_149 rfl 4 rfl 150 rfl ?_
    obtain ⟨q19, h18, hf⟩ := Option.bind_eq_some_iff.mp hf
    refine fm_callV C Y_X0_divide (t := lo k) (lo_lt hk) ((shC_lo hk) _) rfl LM_X0_106 (As := [.int (v 59 x1.toNatClampNeg), .int (v 60 x1.toNatClampNeg), .int x2]) (rest := []) (G.2.2.2.2.2.1 hk h18) (by omega) (by omega) rfl (Nat.le_of_ble_eq_true rfl) dX0_reckon_150 153 rfl [.int q19.1] rfl ?_
    by_cases r20 : q19.1 = 0 ∨ q19.1 = 1
    · rw [if_pos r20] at hf
      obtain rfl := Option.some.inj hf
      exact fm_zret C hr hk0 r20 dX0_reckon_153
    · rw [if_neg r20] at hf; cases hf
  rw [if_neg w17] at hf
  by_cases w21 : v 58 x1.toNatClampNeg = 4
  · rw [if_pos w21] at hf
    refine fm_tableIn C (off := 124) 154 dX0_reckon_30 (by rw [w21]; decide) (by rw [w21]; decide) (by rw [w21] <;> rfl) (by decide) ?_
    refine fm_aload_n C dX0_reckon_154 rfl 2 rfl 155 rfl ?_
    refine fm_iload_n C dX0_reckon_155 rfl 1 rfl 156 rfl ?_
    refine fm_iload_n C dX0_reckon_156 rfl 4 rfl 157 rfl ?_
    obtain ⟨q23, h22, hf⟩ := Option.bind_eq_some_iff.mp hf
    refine fm_callV C Y_X0_obtain (t := lo k) (lo_lt hk) ((shC_lo hk) _) rfl LM_X0_96 (As := [.int (v 59 x1.toNatClampNeg), .int x2]) (rest := []) (G.1 hk h22) (by omega) (by omega) rfl (Nat.le_of_ble_eq_true rfl) dX0_reckon_157 160 rfl [.int q23.1] rfl ?_
    refine fm_if_eq C 190 dX0_reckon_160 (by decide) (fun c24 => ?_) 163 rfl (fun c24 => ?_)
    · rw [if_pos c24] at hf
      refine fm_iconst C (x := 0) dX0_reckon_190 (by decide) 191 rfl ?_
      obtain rfl := Option.some.inj hf
      exact fm_zret C hr hk0 (Or.inl rfl) dX0_reckon_191
    · rw [if_neg c24] at hf
      refine fm_aload_n C dX0_reckon_163 rfl 2 rfl 164 rfl ?_
      refine fm_aload_n C dX0_reckon_164 rfl 2 rfl 165 rfl ?_
      refine fm_get C (t := lo k) (lo_lt hk) ((shC_lo hk) _) rfl inG_X0 0 (by decide) F_X0_34 rfl dX0_reckon_165 168 rfl ?_
      refine fm_getN C (t := 1) (by decide) (shC_1 _) rfl inG_X2 9 (by decide) FN_X0_59 rfl dX0_reckon_168 171 rfl ?_
      refine fm_iload_n C dX0_reckon_171 rfl 3 rfl 172 rfl ?_
      refine fm_iald C (t := 57) (t0 := 0) (by decide) (shC_57 _) rfl b1 dX0_reckon_172 173 rfl ?_
      refine fm_aload_n C dX0_reckon_173 rfl 2 rfl 174 rfl ?_
      refine fm_get C (t := lo k) (lo_lt hk) ((shC_lo hk) _) rfl inG_X0 6 (by decide) F_X0_30 rfl dX0_reckon_174 177 rfl ?_
      refine fm_getN C (t := bo k + 16) (isO_lt (isO_now hk)) ((shC_O (isO_now hk)) _) rfl inG_X1 0 (by decide) FN_X0_99 rfl dX0_reckon_177 180 rfl ?_
      obtain ⟨q26, h25, hf⟩ := Option.bind_eq_some_iff.mp hf
      refine fm_callV C Y_X0_readItem (t := lo k) (lo_lt hk) ((shC_lo hk) _) rfl LM_X0_109 (As := [.int (q23.2 57 x1.toNatClampNeg), .int (q23.2 (bo k + 16) 0)]) (rest := []) (c_X0_readItem hk h25) (by omega) (by omega) rfl (Nat.le_of_ble_eq_true rfl) dX0_reckon_180 183 rfl [.int q26.1] rfl ?_
      refine fm_if_eq C 190 dX0_reckon_183 (by decide) (fun c27 => ?_) 186 rfl (fun c27 => ?_)
      · rw [if_pos c27] at hf
        refine fm_iconst C (x := 0) dX0_reckon_190 (by decide) 191 rfl ?_
        obtain rfl := Option.some.inj hf
        exact fm_zret C hr hk0 (Or.inl rfl) dX0_reckon_191
      · rw [if_neg c27] at hf
        refine fm_iconst C (x := 1) dX0_reckon_186 (by decide) 187 rfl ?_
        refine fm_goto C 191 dX0_reckon_187 (by decide) ?_
        obtain rfl := Option.some.inj hf
        exact fm_zret C hr hk0 (Or.inr rfl) dX0_reckon_191
  rw [if_neg w21] at hf
  by_cases w28 : v 58 x1.toNatClampNeg = 5
  · rw [if_pos w28] at hf
    refine fm_tableIn C (off := 162) 192 dX0_reckon_30 (by rw [w28]; decide) (by rw [w28]; decide) (by rw [w28] <;> rfl) (by decide) ?_
    refine fm_aload_n C dX0_reckon_192 rfl 2 rfl 193 rfl ?_
    refine fm_iload_n C dX0_reckon_193 rfl 1 rfl 194 rfl ?_
    refine fm_iload_n C dX0_reckon_194 rfl 4 rfl 195 rfl ?_
    obtain ⟨q30, h29, hf⟩ := Option.bind_eq_some_iff.mp hf
    refine fm_callV C Y_X0_obtain (t := lo k) (lo_lt hk) ((shC_lo hk) _) rfl LM_X0_96 (As := [.int (v 59 x1.toNatClampNeg), .int x2]) (rest := []) (G.1 hk h29) (by omega) (by omega) rfl (Nat.le_of_ble_eq_true rfl) dX0_reckon_195 198 rfl [.int q30.1] rfl ?_
    refine fm_if_ne C 213 dX0_reckon_198 (by decide) (fun c31 => ?_) 201 rfl (fun c31 => ?_)
    · rw [if_neg c31] at hf
      refine fm_iconst C (x := 1) dX0_reckon_213 (by decide) 214 rfl ?_
      refine fm_goto C 218 dX0_reckon_214 (by decide) ?_
      obtain rfl := Option.some.inj hf
      exact fm_zret C hr hk0 (Or.inr rfl) dX0_reckon_218
    · rw [if_pos c31] at hf
      refine fm_aload_n C dX0_reckon_201 rfl 2 rfl 202 rfl ?_
      refine fm_get C (t := lo k) (lo_lt hk) ((shC_lo hk) _) rfl inG_X0 6 (by decide) F_X0_30 rfl dX0_reckon_202 205 rfl ?_
      refine fm_iload C dX0_reckon_205 0 rfl 207 rfl ?_
      obtain ⟨q33, h32, hf⟩ := Option.bind_eq_some_iff.mp hf
      refine fm_callN C Y_X1_succeed (t := bo k + 16) (isO_lt (isO_now hk)) ((shC_O (isO_now hk)) _) rfl LN_X0_93 (As := [.int (v 60 x1.toNatClampNeg)]) (rest := []) (c_X1_succeed (isO_now hk) h32) (by omega) (by omega) rfl (Nat.le_of_ble_eq_true rfl) dX0_reckon_207 210 rfl [.int q33.1] rfl ?_
      refine fm_if_eq C 217 dX0_reckon_210 (by decide) (fun c34 => ?_) 213 rfl (fun c34 => ?_)
      · rw [if_pos c34] at hf
        refine fm_iconst C (x := 0) dX0_reckon_217 (by decide) 218 rfl ?_
        obtain rfl := Option.some.inj hf
        exact fm_zret C hr hk0 (Or.inl rfl) dX0_reckon_218
      · rw [if_neg c34] at hf
        refine fm_iconst C (x := 1) dX0_reckon_213 (by decide) 214 rfl ?_
        refine fm_goto C 218 dX0_reckon_214 (by decide) ?_
        obtain rfl := Option.some.inj hf
        exact fm_zret C hr hk0 (Or.inr rfl) dX0_reckon_218
  rw [if_neg w28] at hf
  by_cases w35 : v 58 x1.toNatClampNeg = 6
  · rw [if_pos w35] at hf
    refine fm_tableIn C (off := 332) 362 dX0_reckon_30 (by rw [w35]; decide) (by rw [w35]; decide) (by rw [w35] <;> rfl) (by decide) ?_
    refine fm_aload_n C dX0_reckon_362 rfl 2 rfl 363 rfl ?_
    refine fm_get C (t := lo k) (lo_lt hk) ((shC_lo hk) _) rfl inG_X0 6 (by decide) F_X0_30 rfl dX0_reckon_363 366 rfl ?_
    refine fm_iconst C (x := 3) dX0_reckon_366 (by decide) 367 rfl ?_
    refine fm_iload_n C dX0_reckon_367 rfl 1 rfl 368 rfl ?_
    obtain ⟨q37, h36, hf⟩ := Option.bind_eq_some_iff.mp hf
    refine fm_callN C Y_X1_fail (t := bo k + 16) (isO_lt (isO_now hk)) ((shC_O (isO_now hk)) _) rfl LN_X0_55 (As := [.int 3, .int (v 59 x1.toNatClampNeg)]) (rest := []) (c_X1_fail (isO_now hk) h36) (by omega) (by omega) rfl (Nat.le_of_ble_eq_true rfl) dX0_reckon_368 371 rfl [.int q37.1] rfl ?_
    by_cases r38 : q37.1 = 0 ∨ q37.1 = 1
    · rw [if_pos r38] at hf
      obtain rfl := Option.some.inj hf
      exact fm_zret C hr hk0 r38 dX0_reckon_371
    · rw [if_neg r38] at hf; cases hf
  rw [if_neg w35] at hf
  by_cases w39 : v 58 x1.toNatClampNeg = 7
  · rw [if_pos w39] at hf
    refine fm_tableIn C (off := 189) 219 dX0_reckon_30 (by rw [w39]; decide) (by rw [w39]; decide) (by rw [w39] <;> rfl) (by decide) ?_
    refine fm_aload_n C dX0_reckon_219 rfl 2 rfl 220 rfl ?_
    refine fm_iload_n C dX0_reckon_220 rfl 1 rfl 221 rfl ?_
    refine fm_iload_n C dX0_reckon_221 rfl 4 rfl 222 rfl ?_
    obtain ⟨q41, h40, hf⟩ := Option.bind_eq_some_iff.mp hf
    refine fm_callV C Y_X0_obtain (t := lo k) (lo_lt hk) ((shC_lo hk) _) rfl LM_X0_96 (As := [.int (v 59 x1.toNatClampNeg), .int x2]) (rest := []) (G.1 hk h40) (by omega) (by omega) rfl (Nat.le_of_ble_eq_true rfl) dX0_reckon_222 225 rfl [.int q41.1] rfl ?_
    refine fm_if_eq C 264 dX0_reckon_225 (by decide) (fun c42 => ?_) 228 rfl (fun c42 => ?_)
    · rw [if_pos c42] at hf
      refine fm_iconst C (x := 0) dX0_reckon_264 (by decide) 265 rfl ?_
      obtain rfl := Option.some.inj hf
      exact fm_zret C hr hk0 (Or.inl rfl) dX0_reckon_265
    · rw [if_neg c42] at hf
      refine fm_aload_n C dX0_reckon_228 rfl 2 rfl 229 rfl ?_
      refine fm_aload_n C dX0_reckon_229 rfl 2 rfl 230 rfl ?_
      refine fm_get C (t := lo k) (lo_lt hk) ((shC_lo hk) _) rfl inG_X0 6 (by decide) F_X0_30 rfl dX0_reckon_230 233 rfl ?_
      refine fm_getN C (t := bo k + 16) (isO_lt (isO_now hk)) ((shC_O (isO_now hk)) _) rfl inG_X1 0 (by decide) FN_X0_99 rfl dX0_reckon_233 236 rfl ?_
      refine fm_if_eq C 244 dX0_reckon_236 (by decide) (fun c43 => ?_) 239 rfl (fun c43 => ?_)
      · rw [if_pos c43] at hf
        refine fm_aload_n C dX0_reckon_244 rfl 2 rfl 245 rfl ?_
        refine fm_get C (t := lo k) (lo_lt hk) ((shC_lo hk) _) rfl inG_X0 0 (by decide) F_X0_34 rfl dX0_reckon_245 248 rfl ?_
        refine fm_getN C (t := 1) (by decide) (shC_1 _) rfl inG_X2 13 (by decide) FN_X0_112 rfl dX0_reckon_248 251 rfl ?_
        refine fm_iload_n C dX0_reckon_251 rfl 3 rfl 252 rfl ?_
        refine fm_iald C (t := 61) (t0 := 0) (by decide) (shC_61 _) rfl b1 dX0_reckon_252 253 rfl ?_
        refine fm_iload_n C dX0_reckon_253 rfl 4 rfl 254 rfl ?_
        obtain ⟨q45, h44, hf⟩ := Option.bind_eq_some_iff.mp hf
        refine fm_callV C Y_X0_obtain (t := lo k) (lo_lt hk) ((shC_lo hk) _) rfl LM_X0_96 (As := [.int (q41.2 61 x1.toNatClampNeg), .int x2]) (rest := []) (G.1 hk h44) (by omega) (by omega) rfl (Nat.le_of_ble_eq_true rfl) dX0_reckon_254 257 rfl [.int q45.1] rfl ?_
        refine fm_if_eq C 264 dX0_reckon_257 (by decide) (fun c46 => ?_) 260 rfl (fun c46 => ?_)
        · rw [if_pos c46] at hf
          refine fm_iconst C (x := 0) dX0_reckon_264 (by decide) 265 rfl ?_
          obtain rfl := Option.some.inj hf
          exact fm_zret C hr hk0 (Or.inl rfl) dX0_reckon_265
        · rw [if_neg c46] at hf
          refine fm_iconst C (x := 1) dX0_reckon_260 (by decide) 261 rfl ?_
          refine fm_goto C 265 dX0_reckon_261 (by decide) ?_
          obtain rfl := Option.some.inj hf
          exact fm_zret C hr hk0 (Or.inr rfl) dX0_reckon_265
      · rw [if_neg c43] at hf
        refine fm_iload C dX0_reckon_239 0 rfl 241 rfl ?_
        refine fm_goto C 253 dX0_reckon_241 (by decide) ?_
        refine fm_iload_n C dX0_reckon_253 rfl 4 rfl 254 rfl ?_
        obtain ⟨q48, h47, hf⟩ := Option.bind_eq_some_iff.mp hf
        refine fm_callV C Y_X0_obtain (t := lo k) (lo_lt hk) ((shC_lo hk) _) rfl LM_X0_96 (As := [.int (v 60 x1.toNatClampNeg), .int x2]) (rest := []) (G.1 hk h47) (by omega) (by omega) rfl (Nat.le_of_ble_eq_true rfl) dX0_reckon_254 257 rfl [.int q48.1] rfl ?_
        refine fm_if_eq C 264 dX0_reckon_257 (by decide) (fun c49 => ?_) 260 rfl (fun c49 => ?_)
        · rw [if_pos c49] at hf
          refine fm_iconst C (x := 0) dX0_reckon_264 (by decide) 265 rfl ?_
          obtain rfl := Option.some.inj hf
          exact fm_zret C hr hk0 (Or.inl rfl) dX0_reckon_265
        · rw [if_neg c49] at hf
          refine fm_iconst C (x := 1) dX0_reckon_260 (by decide) 261 rfl ?_
          refine fm_goto C 265 dX0_reckon_261 (by decide) ?_
          obtain rfl := Option.some.inj hf
          exact fm_zret C hr hk0 (Or.inr rfl) dX0_reckon_265
  rw [if_neg w39] at hf
  by_cases w50 : v 58 x1.toNatClampNeg = 8
  · rw [if_pos w50] at hf
    refine fm_tableIn C (off := 236) 266 dX0_reckon_30 (by rw [w50]; decide) (by rw [w50]; decide) (by rw [w50] <;> rfl) (by decide) ?_
    refine fm_aload_n C dX0_reckon_266 rfl 2 rfl 267 rfl ?_
    refine fm_get C (t := lo k) (lo_lt hk) ((shC_lo hk) _) rfl inG_X0 6 (by decide) F_X0_30 rfl dX0_reckon_267 270 rfl ?_
    refine fm_aload_n C dX0_reckon_270 rfl 2 rfl 271 rfl ?_
    refine fm_get C (t := lo k) (lo_lt hk) ((shC_lo hk) _) rfl inG_X0 2 (by decide) F_X0_9 rfl dX0_reckon_271 274 rfl ?_
    refine fm_iload_n C dX0_reckon_274 rfl 1 rfl 275 rfl ?_
    by_cases b51 : v 59 x1.toNatClampNeg < 0 ∨ 12 ≤ (v 59 x1.toNatClampNeg).toNatClampNeg
    · rw [if_pos b51] at hf; cases hf
    rw [if_neg b51] at hf
    refine fm_iald C (t := bo k) (t0 := 0) (bo_lt (j := 0) hk (by decide)) ((shC_b0 hk) _) rfl b51 dX0_reckon_275 276 rfl ?_
    obtain ⟨q53, h52, hf⟩ := Option.bind_eq_some_iff.mp hf
    refine fm_callN C Y_X1_succeed (t := bo k + 16) (isO_lt (isO_now hk)) ((shC_O (isO_now hk)) _) rfl LN_X0_93 (As := [.int (v (bo k) ((v 59 x1.toNatClampNeg).toNatClampNeg))]) (rest := []) (c_X1_succeed (isO_now hk) h52) (by omega) (by omega) rfl (Nat.le_of_ble_eq_true rfl) dX0_reckon_276 279 rfl [.int q53.1] rfl ?_
    by_cases r54 : q53.1 = 0 ∨ q53.1 = 1
    · rw [if_pos r54] at hf
      obtain rfl := Option.some.inj hf
      exact fm_zret C hr hk0 r54 dX0_reckon_279
    · rw [if_neg r54] at hf; cases hf
  rw [if_neg w50] at hf
  by_cases w55 : v 58 x1.toNatClampNeg = 9
  · rw [if_pos w55] at hf
    refine fm_tableIn C (off := 250) 280 dX0_reckon_30 (by rw [w55]; decide) (by rw [w55]; decide) (by rw [w55] <;> rfl) (by decide) ?_
    refine fm_aload_n C dX0_reckon_280 rfl 2 rfl 281 rfl ?_
    refine fm_get C (t := lo k) (lo_lt hk) ((shC_lo hk) _) rfl inG_X0 6 (by decide) F_X0_30 rfl dX0_reckon_281 284 rfl ?_
    refine fm_aload_n C dX0_reckon_284 rfl 2 rfl 285 rfl ?_
    refine fm_get C (t := lo k) (lo_lt hk) ((shC_lo hk) _) rfl inG_X0 0 (by decide) F_X0_34 rfl dX0_reckon_285 288 rfl ?_
    refine fm_iload_n C dX0_reckon_288 rfl 1 rfl 289 rfl ?_
    obtain ⟨q57, h56, hf⟩ := Option.bind_eq_some_iff.mp hf
    refine fm_callN C Y_X2_countConstants (t := 1) (by decide) (shC_1 _) rfl LN_X0_115 (As := [.int (v 59 x1.toNatClampNeg)]) (rest := [.ref (b + (bo k + 16))]) (c_X2_countConstants  h56) (by omega) (by omega) rfl (Nat.le_of_ble_eq_true rfl) dX0_reckon_289 292 rfl [.int q57.1, .ref (b + (bo k + 16))] rfl ?_
    obtain ⟨q59, h58, hf⟩ := Option.bind_eq_some_iff.mp hf
    refine fm_callN C Y_X1_succeed (t := bo k + 16) (isO_lt (isO_now hk)) ((shC_O (isO_now hk)) _) rfl LN_X0_93 (As := [.int q57.1]) (rest := []) (c_X1_succeed (isO_now hk) h58) (by omega) (by omega) rfl (Nat.le_of_ble_eq_true rfl) dX0_reckon_292 295 rfl [.int q59.1] rfl ?_
    by_cases r60 : q59.1 = 0 ∨ q59.1 = 1
    · rw [if_pos r60] at hf
      obtain rfl := Option.some.inj hf
      exact fm_zret C hr hk0 r60 dX0_reckon_295
    · rw [if_neg r60] at hf; cases hf
  rw [if_neg w55] at hf
  by_cases w61 : v 58 x1.toNatClampNeg = 10
  · rw [if_pos w61] at hf
    refine fm_tableIn C (off := 266) 296 dX0_reckon_30 (by rw [w61]; decide) (by rw [w61]; decide) (by rw [w61] <;> rfl) (by decide) ?_
    refine fm_aload_n C dX0_reckon_296 rfl 2 rfl 297 rfl ?_
    refine fm_iload_n C dX0_reckon_297 rfl 1 rfl 298 rfl ?_
    refine fm_iload_n C dX0_reckon_298 rfl 4 rfl 299 rfl ?_
    obtain ⟨q63, h62, hf⟩ := Option.bind_eq_some_iff.mp hf
    refine fm_callV C Y_X0_begin (t := lo k) (lo_lt hk) ((shC_lo hk) _) rfl LM_X0_62 (As := [.int (v 59 x1.toNatClampNeg), .int x2]) (rest := []) (G.2.1 hk h62) (by omega) (by omega) rfl (Nat.le_of_ble_eq_true rfl) dX0_reckon_299 302 rfl [.int q63.1] rfl ?_
    refine fm_if_eq C 320 dX0_reckon_302 (by decide) (fun c64 => ?_) 305 rfl (fun c64 => ?_)
    · rw [if_pos c64] at hf
      refine fm_iconst C (x := 0) dX0_reckon_320 (by decide) 321 rfl ?_
      obtain rfl := Option.some.inj hf
      exact fm_zret C hr hk0 (Or.inl rfl) dX0_reckon_321
    · rw [if_neg c64] at hf
      refine fm_aload_n C dX0_reckon_305 rfl 2 rfl 306 rfl ?_
      refine fm_get C (t := lo k) (lo_lt hk) ((shC_lo hk) _) rfl inG_X0 6 (by decide) F_X0_30 rfl dX0_reckon_306 309 rfl ?_
      refine fm_iconst C (x := 1) dX0_reckon_309 (by decide) 310 rfl ?_
      obtain ⟨q66, h65, hf⟩ := Option.bind_eq_some_iff.mp hf
      refine fm_callN C Y_X1_succeed (t := bo k + 16) (isO_lt (isO_now hk)) ((shC_O (isO_now hk)) _) rfl LN_X0_93 (As := [.int 1]) (rest := []) (c_X1_succeed (isO_now hk) h65) (by omega) (by omega) rfl (Nat.le_of_ble_eq_true rfl) dX0_reckon_310 313 rfl [.int q66.1] rfl ?_
      refine fm_if_eq C 320 dX0_reckon_313 (by decide) (fun c67 => ?_) 316 rfl (fun c67 => ?_)
      · rw [if_pos c67] at hf
        refine fm_iconst C (x := 0) dX0_reckon_320 (by decide) 321 rfl ?_
        obtain rfl := Option.some.inj hf
        exact fm_zret C hr hk0 (Or.inl rfl) dX0_reckon_321
      · rw [if_neg c67] at hf
        refine fm_iconst C (x := 1) dX0_reckon_316 (by decide) 317 rfl ?_
        refine fm_goto C 321 dX0_reckon_317 (by decide) ?_
        obtain rfl := Option.some.inj hf
        exact fm_zret C hr hk0 (Or.inr rfl) dX0_reckon_321
  rw [if_neg w61] at hf
  by_cases w68 : v 58 x1.toNatClampNeg = 11
  · rw [if_pos w68] at hf
    refine fm_tableIn C (off := 292) 322 dX0_reckon_30 (by rw [w68]; decide) (by rw [w68]; decide) (by rw [w68] <;> rfl) (by decide) ?_
    refine fm_aload_n C dX0_reckon_322 rfl 2 rfl 323 rfl ?_
    refine fm_iload_n C dX0_reckon_323 rfl 1 rfl 324 rfl ?_
    refine fm_iload_n C dX0_reckon_324 rfl 4 rfl 325 rfl ?_
    obtain ⟨q70, h69, hf⟩ := Option.bind_eq_some_iff.mp hf
    refine fm_callV C Y_X0_obtain (t := lo k) (lo_lt hk) ((shC_lo hk) _) rfl LM_X0_96 (As := [.int (v 59 x1.toNatClampNeg), .int x2]) (rest := []) (G.1 hk h69) (by omega) (by omega) rfl (Nat.le_of_ble_eq_true rfl) dX0_reckon_325 328 rfl [.int q70.1] rfl ?_
    refine fm_if_eq C 360 dX0_reckon_328 (by decide) (fun c71 => ?_) 331 rfl (fun c71 => ?_)
    · rw [if_pos c71] at hf
      refine fm_iconst C (x := 0) dX0_reckon_360 (by decide) 361 rfl ?_
      obtain rfl := Option.some.inj hf
      exact fm_zret C hr hk0 (Or.inl rfl) dX0_reckon_361
    · rw [if_neg c71] at hf
      refine fm_aload_n C dX0_reckon_331 rfl 2 rfl 332 rfl ?_
      refine fm_aload_n C dX0_reckon_332 rfl 2 rfl 333 rfl ?_
      refine fm_get C (t := lo k) (lo_lt hk) ((shC_lo hk) _) rfl inG_X0 0 (by decide) F_X0_34 rfl dX0_reckon_333 336 rfl ?_
      refine fm_getN C (t := 1) (by decide) (shC_1 _) rfl inG_X2 9 (by decide) FN_X0_59 rfl dX0_reckon_336 339 rfl ?_
      refine fm_iload_n C dX0_reckon_339 rfl 3 rfl 340 rfl ?_
      refine fm_iald C (t := 57) (t0 := 0) (by decide) (shC_57 _) rfl b1 dX0_reckon_340 341 rfl ?_
      refine fm_iload C dX0_reckon_341 0 rfl 343 rfl ?_
      refine fm_aload_n C dX0_reckon_343 rfl 2 rfl 344 rfl ?_
      refine fm_get C (t := lo k) (lo_lt hk) ((shC_lo hk) _) rfl inG_X0 6 (by decide) F_X0_30 rfl dX0_reckon_344 347 rfl ?_
      refine fm_getN C (t := bo k + 16) (isO_lt (isO_now hk)) ((shC_O (isO_now hk)) _) rfl inG_X1 0 (by decide) FN_X0_99 rfl dX0_reckon_347 350 rfl ?_
      obtain ⟨q73, h72, hf⟩ := Option.bind_eq_some_iff.mp hf
      refine fm_callV C Y_X0_writeItem (t := lo k) (lo_lt hk) ((shC_lo hk) _) rfl LM_X0_119 (As := [.int (q70.2 57 x1.toNatClampNeg), .int (v 60 x1.toNatClampNeg), .int (q70.2 (bo k + 16) 0)]) (rest := []) (c_X0_writeItem hk h72) (by omega) (by omega) rfl (Nat.le_of_ble_eq_true rfl) dX0_reckon_350 353 rfl [.int q73.1] rfl ?_
      refine fm_if_eq C 360 dX0_reckon_353 (by decide) (fun c74 => ?_) 356 rfl (fun c74 => ?_)
      · rw [if_pos c74] at hf
        refine fm_iconst C (x := 0) dX0_reckon_360 (by decide) 361 rfl ?_
        obtain rfl := Option.some.inj hf
        exact fm_zret C hr hk0 (Or.inl rfl) dX0_reckon_361
      · rw [if_neg c74] at hf
        refine fm_iconst C (x := 1) dX0_reckon_356 (by decide) 357 rfl ?_
        refine fm_goto C 361 dX0_reckon_357 (by decide) ?_
        obtain rfl := Option.some.inj hf
        exact fm_zret C hr hk0 (Or.inr rfl) dX0_reckon_361
  rw [if_neg w68] at hf
  refine fm_tableOut C 362 dX0_reckon_30 (by have := lv_neT (a := 0) w2 (by decide); have := lv_neT (a := 1) w6 (by decide); have := lv_neT (a := 2) w13 (by decide); have := lv_neT (a := 3) w17 (by decide); have := lv_neT (a := 4) w21 (by decide); have := lv_neT (a := 5) w28 (by decide); have := lv_neT (a := 6) w35 (by decide); have := lv_neT (a := 7) w39 (by decide); have := lv_neT (a := 8) w50 (by decide); have := lv_neT (a := 9) w55 (by decide); have := lv_neT (a := 10) w61 (by decide); have := lv_neT (a := 11) w68 (by decide); omega) (by decide) ?_
  refine fm_aload_n C dX0_reckon_362 rfl 2 rfl 363 rfl ?_
  refine fm_get C (t := lo k) (lo_lt hk) ((shC_lo hk) _) rfl inG_X0 6 (by decide) F_X0_30 rfl dX0_reckon_363 366 rfl ?_
  refine fm_iconst C (x := 3) dX0_reckon_366 (by decide) 367 rfl ?_
  refine fm_iload_n C dX0_reckon_367 rfl 1 rfl 368 rfl ?_
  obtain ⟨q76, h75, hf⟩ := Option.bind_eq_some_iff.mp hf
  refine fm_callN C Y_X1_fail (t := bo k + 16) (isO_lt (isO_now hk)) ((shC_O (isO_now hk)) _) rfl LN_X0_55 (As := [.int 3, .int (v 59 x1.toNatClampNeg)]) (rest := []) (c_X1_fail (isO_now hk) h75) (by omega) (by omega) rfl (Nat.le_of_ble_eq_true rfl) dX0_reckon_368 371 rfl [.int q76.1] rfl ?_
  by_cases r77 : q76.1 = 0 ∨ q76.1 = 1
  · rw [if_pos r77] at hf
    obtain rfl := Option.some.inj hf
    exact fm_zret C hr hk0 r77 dX0_reckon_371
  · rw [if_neg r77] at hf; cases hf
def f_X0_multiply (g : GT) (k : Nat) (x1 : Int32) (x2 : Int32) (x3 : Int32) (v : fm_T) : Option (Int32 × fm_T) := ((g 0 k x1 x3 0 v).bind fun q2 => (if q2.1 = 0 then some (0, q2.2) else ((g 0 k x2 x3 0 q2.2).bind fun q5 => (if q5.1 = 0 then some (0, q5.2) else ((f_X1_succeed (bo k + 16) ((q2.2 (bo k + 16) 0) * (q5.2 (bo k + 16) 0)) q5.2).bind fun q8 => (if q8.1 = 0 then some (0, q8.2) else some (1, q8.2)))))))
set_option maxHeartbeats 4000000 in
set_option maxRecDepth 20000 in
theorem c_X0_multiply {k : Nat} {x1 : Int32} {x2 : Int32} {x3 : Int32} {g : GT} {h : Nat} (G : GG l D tA cI cII cLd cOc b A g h) (hh : 3 ≤ h) (hk : k < 4) {v : fm_T} {q : Int32 × fm_T} (hf : f_X0_multiply g k x1 x2 x3 v = some q) : fm_M l D (fm_tys cI cII cLd cOc) tA b 305 (shC cI cII cLd cOc b) A yX0_multiply cX0_multiply 5 (some .boolean) (h + 1) [.ref (b + (lo k)), .int x1, .int x2, .int x3] v (some (.int q.1)) q.2 := by
  refine fm_entry (by decide) (Nat.le_of_ble_eq_true rfl) ?_
  intro p e R s m args below meth c C hr hk0 hF hLo
  unfold f_X0_multiply at hf
  show fm_V p l e R s m args below meth c D b 305 (shC cI cII cLd cOc b) A _ 5 0 [(0, .ref (b + (lo k))), (1, .int x1), (2, .int x2), (3, .int x3)] [] v
  refine fm_aload_n C dX0_multiply_0 rfl 0 rfl 1 rfl ?_
  refine fm_iload_n C dX0_multiply_1 rfl 1 rfl 2 rfl ?_
  refine fm_iload_n C dX0_multiply_2 rfl 3 rfl 3 rfl ?_
  obtain ⟨q2, h1, hf⟩ := Option.bind_eq_some_iff.mp hf
  refine fm_callV C Y_X0_obtain (t := lo k) (lo_lt hk) ((shC_lo hk) _) rfl LM_X0_96 (As := [.int x1, .int x3]) (rest := []) (G.1 hk h1) (by omega) (by omega) rfl (Nat.le_of_ble_eq_true rfl) dX0_multiply_3 6 rfl [.int q2.1] rfl ?_
  refine fm_if_ne C 11 dX0_multiply_6 (by decide) (fun c3 => ?_) 9 rfl (fun c3 => ?_)
  · rw [if_neg c3] at hf
    refine fm_aload_n C dX0_multiply_11 rfl 0 rfl 12 rfl ?_
    refine fm_get C (t := lo k) (lo_lt hk) ((shC_lo hk) _) rfl inG_X0 6 (by decide) F_X0_30 rfl dX0_multiply_12 15 rfl ?_
    refine fm_getN C (t := bo k + 16) (isO_lt (isO_now hk)) ((shC_O (isO_now hk)) _) rfl inG_X1 0 (by decide) FN_X0_99 rfl dX0_multiply_15 18 rfl ?_
    refine fm_istore C [(4, .int (q2.2 (bo k + 16) 0)), (0, .ref (b + (lo k))), (1, .int x1), (2, .int x2), (3, .int x3)] dX0_multiply_18 (by decide) rfl 20 rfl ?_
    refine fm_aload_n C dX0_multiply_20 rfl 1 rfl 21 rfl ?_
    refine fm_iload_n C dX0_multiply_21 rfl 3 rfl 22 rfl ?_
    refine fm_iload_n C dX0_multiply_22 rfl 4 rfl 23 rfl ?_
    obtain ⟨q5, h4, hf⟩ := Option.bind_eq_some_iff.mp hf
    refine fm_callV C Y_X0_obtain (t := lo k) (lo_lt hk) ((shC_lo hk) _) rfl LM_X0_96 (As := [.int x2, .int x3]) (rest := []) (G.1 hk h4) (by omega) (by omega) rfl (Nat.le_of_ble_eq_true rfl) dX0_multiply_23 26 rfl [.int q5.1] rfl ?_
    refine fm_if_eq C 53 dX0_multiply_26 (by decide) (fun c6 => ?_) 29 rfl (fun c6 => ?_)
    · rw [if_pos c6] at hf
      refine fm_iconst C (x := 0) dX0_multiply_53 (by decide) 54 rfl ?_
      obtain rfl := Option.some.inj hf
      exact fm_zret C hr hk0 (Or.inl rfl) dX0_multiply_54
    · rw [if_neg c6] at hf
      refine fm_aload_n C dX0_multiply_29 rfl 1 rfl 30 rfl ?_
      refine fm_get C (t := lo k) (lo_lt hk) ((shC_lo hk) _) rfl inG_X0 6 (by decide) F_X0_30 rfl dX0_multiply_30 33 rfl ?_
      refine fm_iload C dX0_multiply_33 0 rfl 35 rfl ?_
      refine fm_aload_n C dX0_multiply_35 rfl 1 rfl 36 rfl ?_
      refine fm_get C (t := lo k) (lo_lt hk) ((shC_lo hk) _) rfl inG_X0 6 (by decide) F_X0_30 rfl dX0_multiply_36 39 rfl ?_
      refine fm_getN C (t := bo k + 16) (isO_lt (isO_now hk)) ((shC_O (isO_now hk)) _) rfl inG_X1 0 (by decide) FN_X0_99 rfl dX0_multiply_39 42 rfl ?_
      refine fm_imul C dX0_multiply_42 43 rfl ?_
      obtain ⟨q8, h7, hf⟩ := Option.bind_eq_some_iff.mp hf
      refine fm_callN C Y_X1_succeed (t := bo k + 16) (isO_lt (isO_now hk)) ((shC_O (isO_now hk)) _) rfl LN_X0_93 (As := [.int ((q2.2 (bo k + 16) 0) * (q5.2 (bo k + 16) 0))]) (rest := []) (c_X1_succeed (isO_now hk) h7) (by omega) (by omega) rfl (Nat.le_of_ble_eq_true rfl) dX0_multiply_43 46 rfl [.int q8.1] rfl ?_
      refine fm_if_eq C 53 dX0_multiply_46 (by decide) (fun c9 => ?_) 49 rfl (fun c9 => ?_)
      · rw [if_pos c9] at hf
        refine fm_iconst C (x := 0) dX0_multiply_53 (by decide) 54 rfl ?_
        obtain rfl := Option.some.inj hf
        exact fm_zret C hr hk0 (Or.inl rfl) dX0_multiply_54
      · rw [if_neg c9] at hf
        refine fm_iconst C (x := 1) dX0_multiply_49 (by decide) 50 rfl ?_
        refine fm_goto C 54 dX0_multiply_50 (by decide) ?_
        obtain rfl := Option.some.inj hf
        exact fm_zret C hr hk0 (Or.inr rfl) dX0_multiply_54
  · rw [if_pos c3] at hf
    refine fm_iconst C (x := 0) dX0_multiply_9 (by decide) 10 rfl ?_
    obtain rfl := Option.some.inj hf
    exact fm_zret C hr hk0 (Or.inl rfl) dX0_multiply_10
def f_X0_divide (g : GT) (k : Nat) (x1 : Int32) (x2 : Int32) (x3 : Int32) (v : fm_T) : Option (Int32 × fm_T) := ((g 0 k x1 x3 0 v).bind fun q2 => (if q2.1 = 0 then some (0, q2.2) else ((g 0 k x2 x3 0 q2.2).bind fun q5 => (if q5.1 = 0 then some (0, q5.2) else (if q5.2 (bo k + 16) 0 = 0 then ((f_X1_fail (bo k + 16) 1 0 q5.2).bind fun q12 => (if q12.1 = 0 ∨ q12.1 = 1 then some (q12.1, q12.2) else none)) else ((f_X1_succeed (bo k + 16) ((q2.2 (bo k + 16) 0) / (q5.2 (bo k + 16) 0)) q5.2).bind fun q9 => (if q9.1 = 0 ∨ q9.1 = 1 then some (q9.1, q9.2) else none)))))))
set_option maxHeartbeats 4000000 in
set_option maxRecDepth 20000 in
theorem c_X0_divide {k : Nat} {x1 : Int32} {x2 : Int32} {x3 : Int32} {g : GT} {h : Nat} (G : GG l D tA cI cII cLd cOc b A g h) (hh : 3 ≤ h) (hk : k < 4) {v : fm_T} {q : Int32 × fm_T} (hf : f_X0_divide g k x1 x2 x3 v = some q) : fm_M l D (fm_tys cI cII cLd cOc) tA b 305 (shC cI cII cLd cOc b) A yX0_divide cX0_divide 6 (some .boolean) (h + 1) [.ref (b + (lo k)), .int x1, .int x2, .int x3] v (some (.int q.1)) q.2 := by
  refine fm_entry (by decide) (Nat.le_of_ble_eq_true rfl) ?_
  intro p e R s m args below meth c C hr hk0 hF hLo
  unfold f_X0_divide at hf
  show fm_V p l e R s m args below meth c D b 305 (shC cI cII cLd cOc b) A _ 6 0 [(0, .ref (b + (lo k))), (1, .int x1), (2, .int x2), (3, .int x3)] [] v
  refine fm_aload_n C dX0_divide_0 rfl 0 rfl 1 rfl ?_
  refine fm_iload_n C dX0_divide_1 rfl 1 rfl 2 rfl ?_
  refine fm_iload_n C dX0_divide_2 rfl 3 rfl 3 rfl ?_
  obtain ⟨q2, h1, hf⟩ := Option.bind_eq_some_iff.mp hf
  refine fm_callV C Y_X0_obtain (t := lo k) (lo_lt hk) ((shC_lo hk) _) rfl LM_X0_96 (As := [.int x1, .int x3]) (rest := []) (G.1 hk h1) (by omega) (by omega) rfl (Nat.le_of_ble_eq_true rfl) dX0_divide_3 6 rfl [.int q2.1] rfl ?_
  refine fm_if_ne C 11 dX0_divide_6 (by decide) (fun c3 => ?_) 9 rfl (fun c3 => ?_)
  · rw [if_neg c3] at hf
    refine fm_aload_n C dX0_divide_11 rfl 0 rfl 12 rfl ?_
    refine fm_get C (t := lo k) (lo_lt hk) ((shC_lo hk) _) rfl inG_X0 6 (by decide) F_X0_30 rfl dX0_divide_12 15 rfl ?_
    refine fm_getN C (t := bo k + 16) (isO_lt (isO_now hk)) ((shC_O (isO_now hk)) _) rfl inG_X1 0 (by decide) FN_X0_99 rfl dX0_divide_15 18 rfl ?_
    refine fm_istore C [(4, .int (q2.2 (bo k + 16) 0)), (0, .ref (b + (lo k))), (1, .int x1), (2, .int x2), (3, .int x3)] dX0_divide_18 (by decide) rfl 20 rfl ?_
    refine fm_aload_n C dX0_divide_20 rfl 1 rfl 21 rfl ?_
    refine fm_iload_n C dX0_divide_21 rfl 3 rfl 22 rfl ?_
    refine fm_iload_n C dX0_divide_22 rfl 4 rfl 23 rfl ?_
    obtain ⟨q5, h4, hf⟩ := Option.bind_eq_some_iff.mp hf
    refine fm_callV C Y_X0_obtain (t := lo k) (lo_lt hk) ((shC_lo hk) _) rfl LM_X0_96 (As := [.int x2, .int x3]) (rest := []) (G.1 hk h4) (by omega) (by omega) rfl (Nat.le_of_ble_eq_true rfl) dX0_divide_23 26 rfl [.int q5.1] rfl ?_
    refine fm_if_ne C 31 dX0_divide_26 (by decide) (fun c6 => ?_) 29 rfl (fun c6 => ?_)
    · rw [if_neg c6] at hf
      refine fm_aload_n C dX0_divide_31 rfl 1 rfl 32 rfl ?_
      refine fm_get C (t := lo k) (lo_lt hk) ((shC_lo hk) _) rfl inG_X0 6 (by decide) F_X0_30 rfl dX0_divide_32 35 rfl ?_
      refine fm_getN C (t := bo k + 16) (isO_lt (isO_now hk)) ((shC_O (isO_now hk)) _) rfl inG_X1 0 (by decide) FN_X0_99 rfl dX0_divide_35 38 rfl ?_
      refine fm_istore C [(5, .int (q5.2 (bo k + 16) 0)), (4, .int (q2.2 (bo k + 16) 0)), (0, .ref (b + (lo k))), (1, .int x1), (2, .int x2), (3, .int x3)] dX0_divide_38 (by decide) rfl 40 rfl ?_
      refine fm_iload C dX0_divide_40 0 rfl 42 rfl ?_
      refine fm_if_ne C 57 dX0_divide_42 (by decide) (fun c7 => ?_) 45 rfl (fun c7 => ?_)
      · rw [if_neg c7] at hf
        refine fm_aload_n C dX0_divide_57 rfl 2 rfl 58 rfl ?_
        refine fm_get C (t := lo k) (lo_lt hk) ((shC_lo hk) _) rfl inG_X0 6 (by decide) F_X0_30 rfl dX0_divide_58 61 rfl ?_
        refine fm_iload C dX0_divide_61 1 rfl 63 rfl ?_
        refine fm_iload C dX0_divide_63 0 rfl 65 rfl ?_
        refine fm_idiv C dX0_divide_65 c7 66 rfl ?_
        obtain ⟨q9, h8, hf⟩ := Option.bind_eq_some_iff.mp hf
        refine fm_callN C Y_X1_succeed (t := bo k + 16) (isO_lt (isO_now hk)) ((shC_O (isO_now hk)) _) rfl LN_X0_93 (As := [.int ((q2.2 (bo k + 16) 0) / (q5.2 (bo k + 16) 0))]) (rest := []) (c_X1_succeed (isO_now hk) h8) (by omega) (by omega) rfl (Nat.le_of_ble_eq_true rfl) dX0_divide_66 69 rfl [.int q9.1] rfl ?_
        by_cases r10 : q9.1 = 0 ∨ q9.1 = 1
        · rw [if_pos r10] at hf
          obtain rfl := Option.some.inj hf
          exact fm_zret C hr hk0 r10 dX0_divide_69
        · rw [if_neg r10] at hf; cases hf
      · rw [if_pos c7] at hf
        refine fm_aload_n C dX0_divide_45 rfl 2 rfl 46 rfl ?_
        refine fm_get C (t := lo k) (lo_lt hk) ((shC_lo hk) _) rfl inG_X0 6 (by decide) F_X0_30 rfl dX0_divide_46 49 rfl ?_
        refine fm_iconst C (x := 1) dX0_divide_49 (by decide) 50 rfl ?_
        refine fm_iconst C (x := 0) dX0_divide_50 (by decide) 51 rfl ?_
        obtain ⟨q12, h11, hf⟩ := Option.bind_eq_some_iff.mp hf
        refine fm_callN C Y_X1_fail (t := bo k + 16) (isO_lt (isO_now hk)) ((shC_O (isO_now hk)) _) rfl LN_X0_55 (As := [.int 1, .int 0]) (rest := []) (c_X1_fail (isO_now hk) h11) (by omega) (by omega) rfl (Nat.le_of_ble_eq_true rfl) dX0_divide_51 54 rfl [.int q12.1] rfl ?_
        refine fm_goto C 69 dX0_divide_54 (by decide) ?_
        by_cases r13 : q12.1 = 0 ∨ q12.1 = 1
        · rw [if_pos r13] at hf
          obtain rfl := Option.some.inj hf
          exact fm_zret C hr hk0 r13 dX0_divide_69
        · rw [if_neg r13] at hf; cases hf
    · rw [if_pos c6] at hf
      refine fm_iconst C (x := 0) dX0_divide_29 (by decide) 30 rfl ?_
      obtain rfl := Option.some.inj hf
      exact fm_zret C hr hk0 (Or.inl rfl) dX0_divide_30
  · rw [if_pos c3] at hf
    refine fm_iconst C (x := 0) dX0_divide_9 (by decide) 10 rfl ?_
    obtain rfl := Option.some.inj hf
    exact fm_zret C hr hk0 (Or.inl rfl) dX0_divide_10
def f_X0_beginUsed_2 (g : GT) : Nat → Nat → Int32 → Int32 → Int32 → fm_T → Option (Int32 × fm_T)
  | 0 => fun _ _ _ _ _ => none
  | n + 1 => fun k x1 x2 x3 v => (if x1 < 0 ∨ 12 ≤ x1.toNatClampNeg then none else (if v 16 x1.toNatClampNeg ≤ x3 then some (1, v) else (if x3 < 0 ∨ 6 ≤ x3.toNatClampNeg then none else ((g 1 k (v (18 + x1.toNatClampNeg) x3.toNatClampNeg) x2 0 v).bind fun q5 => (if q5.1 = 0 then some (0, q5.2) else f_X0_beginUsed_2 g n k x1 x2 (x3 + 1) q5.2)))))
theorem f_X0_beginUsed_2_s (g : GT) (n : Nat) (k : Nat) (x1 : Int32) (x2 : Int32) (x3 : Int32) (v : fm_T) : f_X0_beginUsed_2 g (n + 1) k x1 x2 x3 v = (if x1 < 0 ∨ 12 ≤ x1.toNatClampNeg then none else (if v 16 x1.toNatClampNeg ≤ x3 then some (1, v) else (if x3 < 0 ∨ 6 ≤ x3.toNatClampNeg then none else ((g 1 k (v (18 + x1.toNatClampNeg) x3.toNatClampNeg) x2 0 v).bind fun q5 => (if q5.1 = 0 then some (0, q5.2) else f_X0_beginUsed_2 g n k x1 x2 (x3 + 1) q5.2))))) := rfl
set_option maxHeartbeats 4000000 in
set_option maxRecDepth 20000 in
theorem b_X0_beginUsed_2 {k : Nat} {g : GT} {h : Nat} (G : GG l D tA cI cII cLd cOc b A g h) (hh : 3 ≤ h) (hk : k < 4) {p : Program} {e : Env} {R : Room} {s : State} {m : MethodId} {args : Array Value} {below : List Frame} {meth : Method} {c : Code} (C : fm_C p s m args c cX0_beginUsed RX0 4 D (fm_tys cI cII cLd cOc) tA b 305 A) (hr : meth.sig.returnType = (some .boolean)) (hk0 : meth.locks = false) (hF : (h + 1) ≤ R.frames) (hLo : 40 * (h + 1) ≤ R.locals) : ∀ (n : Nat) (x1 : Int32) (x2 : Int32) (x3 : Int32) (v : fm_T) {q : Int32 × fm_T}, f_X0_beginUsed_2 g n k x1 x2 x3 v = some q → fm_V p l e R s m args below meth c D b 305 (shC cI cII cLd cOc b) A (MQ below (fm_Q D b 305 (shC cI cII cLd cOc b) A (some (.int q.1)) q.2) args s 0 0 A) 4 2 [(0, .ref (b + (lo k))), (1, .int x1), (2, .int x2), (3, .int x3)] [] v := by
  intro n
  induction n with
  | zero =>
    intro x1 x2 x3 v q hf
    cases (show (none : Option (Int32 × fm_T)) = some q from hf)
  | succ n ih =>
    intro x1 x2 x3 v q hf
    rw [f_X0_beginUsed_2_s] at hf
    refine fm_iload_n C dX0_beginUsed_2 rfl 3 rfl 3 rfl ?_
    refine fm_aload_n C dX0_beginUsed_3 rfl 0 rfl 4 rfl ?_
    refine fm_get C (t := lo k) (lo_lt hk) ((shC_lo hk) _) rfl inG_X0 0 (by decide) F_X0_34 rfl dX0_beginUsed_4 7 rfl ?_
    refine fm_getN C (t := 1) (by decide) (shC_1 _) rfl inG_X2 3 (by decide) FN_X0_140 rfl dX0_beginUsed_7 10 rfl ?_
    refine fm_iload_n C dX0_beginUsed_10 rfl 1 rfl 11 rfl ?_
    by_cases b1 : x1 < 0 ∨ 12 ≤ x1.toNatClampNeg
    · rw [if_pos b1] at hf; cases hf
    rw [if_neg b1] at hf
    refine fm_iald C (t := 16) (t0 := 0) (by decide) (shC_16 _) rfl b1 dX0_beginUsed_11 12 rfl ?_
    refine fm_icmp_ge C 42 dX0_beginUsed_12 (by decide) (fun c2 => ?_) 15 rfl (fun c2 => ?_)
    · rw [if_pos c2] at hf
      refine fm_iconst C (x := 1) dX0_beginUsed_42 (by decide) 43 rfl ?_
      obtain rfl := Option.some.inj hf
      exact fm_zret C hr hk0 (Or.inr rfl) dX0_beginUsed_43
    · rw [if_neg c2] at hf
      refine fm_aload_n C dX0_beginUsed_15 rfl 0 rfl 16 rfl ?_
      refine fm_aload_n C dX0_beginUsed_16 rfl 0 rfl 17 rfl ?_
      refine fm_get C (t := lo k) (lo_lt hk) ((shC_lo hk) _) rfl inG_X0 0 (by decide) F_X0_34 rfl dX0_beginUsed_17 20 rfl ?_
      refine fm_getN C (t := 1) (by decide) (shC_1 _) rfl inG_X2 4 (by decide) FN_X0_143 rfl dX0_beginUsed_20 23 rfl ?_
      refine fm_iload_n C dX0_beginUsed_23 rfl 1 rfl 24 rfl ?_
      refine fm_aald C (t := 17) (t0 := 1) (by decide) (shC_17 _) rfl rfl b1 (x := b + (18 + x1.toNatClampNeg)) (in_some (g := fun i => b + (18 + i)) b1) dX0_beginUsed_24 25 rfl ?_
      refine fm_iload_n C dX0_beginUsed_25 rfl 3 rfl 26 rfl ?_
      by_cases b3 : x3 < 0 ∨ 6 ≤ x3.toNatClampNeg
      · rw [if_pos b3] at hf; cases hf
      rw [if_neg b3] at hf
      refine fm_iald C (t := 18 + x1.toNatClampNeg) (t0 := 0) (by have := in_lt b1; omega) ((shC_r18 (in_lt b1)) _) rfl b3 dX0_beginUsed_26 27 rfl ?_
      refine fm_iload_n C dX0_beginUsed_27 rfl 2 rfl 28 rfl ?_
      obtain ⟨q5, h4, hf⟩ := Option.bind_eq_some_iff.mp hf
      refine fm_callV C Y_X0_begin (t := lo k) (lo_lt hk) ((shC_lo hk) _) rfl LM_X0_62 (As := [.int (v (18 + x1.toNatClampNeg) x3.toNatClampNeg), .int x2]) (rest := []) (G.2.1 hk h4) (by omega) (by omega) rfl (Nat.le_of_ble_eq_true rfl) dX0_beginUsed_28 31 rfl [.int q5.1] rfl ?_
      refine fm_if_ne C 36 dX0_beginUsed_31 (by decide) (fun c6 => ?_) 34 rfl (fun c6 => ?_)
      · rw [if_neg c6] at hf
        refine fm_iinc C [(3, .int (x3 + 1)), (0, .ref (b + (lo k))), (1, .int x1), (2, .int x2)] dX0_beginUsed_36 3 rfl rfl (by decide) rfl 39 rfl ?_
        refine fm_goto C 2 dX0_beginUsed_39 (by decide) ?_
        refine fm_lv [1, 2, 3, 0] [(0, .ref (b + (lo k))), (1, .int x1), (2, .int x2), (3, .int (x3 + 1))] rfl ?_
        exact ih x1 x2 (x3 + 1) q5.2 hf
      · rw [if_pos c6] at hf
        refine fm_iconst C (x := 0) dX0_beginUsed_34 (by decide) 35 rfl ?_
        obtain rfl := Option.some.inj hf
        exact fm_zret C hr hk0 (Or.inl rfl) dX0_beginUsed_35
def f_X0_beginUsed (g : GT) (k : Nat) (x1 : Int32) (x2 : Int32) (v : fm_T) : Option (Int32 × fm_T) := f_X0_beginUsed_2 g 1000 k x1 x2 0 v
set_option maxHeartbeats 4000000 in
set_option maxRecDepth 20000 in
theorem c_X0_beginUsed {k : Nat} {x1 : Int32} {x2 : Int32} {g : GT} {h : Nat} (G : GG l D tA cI cII cLd cOc b A g h) (hh : 3 ≤ h) (hk : k < 4) {v : fm_T} {q : Int32 × fm_T} (hf : f_X0_beginUsed g k x1 x2 v = some q) : fm_M l D (fm_tys cI cII cLd cOc) tA b 305 (shC cI cII cLd cOc b) A yX0_beginUsed cX0_beginUsed 4 (some .boolean) (h + 1) [.ref (b + (lo k)), .int x1, .int x2] v (some (.int q.1)) q.2 := by
  refine fm_entry (by decide) (Nat.le_of_ble_eq_true rfl) ?_
  intro p e R s m args below meth c C hr hk0 hF hLo
  unfold f_X0_beginUsed at hf
  show fm_V p l e R s m args below meth c D b 305 (shC cI cII cLd cOc b) A _ 4 0 [(0, .ref (b + (lo k))), (1, .int x1), (2, .int x2)] [] v
  refine fm_iconst C (x := 0) dX0_beginUsed_0 (by decide) 1 rfl ?_
  refine fm_istore_n C [(3, .int 0), (0, .ref (b + (lo k))), (1, .int x1), (2, .int x2)] dX0_beginUsed_1 rfl (by decide) rfl 2 rfl ?_
  refine fm_lv [1, 2, 3, 0] [(0, .ref (b + (lo k))), (1, .int x1), (2, .int x2), (3, .int 0)] rfl ?_
  exact b_X0_beginUsed_2 G hh hk C hr hk0 hF hLo 1000 x1 x2 0 v hf
def f_X0_doDeeds_2 (g : GT) : Nat → Nat → Int32 → Int32 → Int32 → fm_T → Option (Int32 × fm_T)
  | 0 => fun _ _ _ _ _ => none
  | n + 1 => fun k x1 x2 x3 v => (if x1 < 0 ∨ 12 ≤ x1.toNatClampNeg then none else (if v 30 x1.toNatClampNeg ≤ x3 then some (1, v) else (if x3 < 0 ∨ 6 ≤ x3.toNatClampNeg then none else ((g 8 k (v (32 + x1.toNatClampNeg) x3.toNatClampNeg) (v (45 + x1.toNatClampNeg) x3.toNatClampNeg) x2 v).bind fun q5 => (if q5.1 = 0 then some (0, q5.2) else f_X0_doDeeds_2 g n k x1 x2 (x3 + 1) q5.2)))))
theorem f_X0_doDeeds_2_s (g : GT) (n : Nat) (k : Nat) (x1 : Int32) (x2 : Int32) (x3 : Int32) (v : fm_T) : f_X0_doDeeds_2 g (n + 1) k x1 x2 x3 v = (if x1 < 0 ∨ 12 ≤ x1.toNatClampNeg then none else (if v 30 x1.toNatClampNeg ≤ x3 then some (1, v) else (if x3 < 0 ∨ 6 ≤ x3.toNatClampNeg then none else ((g 8 k (v (32 + x1.toNatClampNeg) x3.toNatClampNeg) (v (45 + x1.toNatClampNeg) x3.toNatClampNeg) x2 v).bind fun q5 => (if q5.1 = 0 then some (0, q5.2) else f_X0_doDeeds_2 g n k x1 x2 (x3 + 1) q5.2))))) := rfl
set_option maxHeartbeats 4000000 in
set_option maxRecDepth 20000 in
theorem b_X0_doDeeds_2 {k : Nat} {g : GT} {h : Nat} (G : GG l D tA cI cII cLd cOc b A g h) (hh : 3 ≤ h) (hk : k < 4) {p : Program} {e : Env} {R : Room} {s : State} {m : MethodId} {args : Array Value} {below : List Frame} {meth : Method} {c : Code} (C : fm_C p s m args c cX0_doDeeds RX0 4 D (fm_tys cI cII cLd cOc) tA b 305 A) (hr : meth.sig.returnType = (some .boolean)) (hk0 : meth.locks = false) (hF : (h + 1) ≤ R.frames) (hLo : 40 * (h + 1) ≤ R.locals) : ∀ (n : Nat) (x1 : Int32) (x2 : Int32) (x3 : Int32) (v : fm_T) {q : Int32 × fm_T}, f_X0_doDeeds_2 g n k x1 x2 x3 v = some q → fm_V p l e R s m args below meth c D b 305 (shC cI cII cLd cOc b) A (MQ below (fm_Q D b 305 (shC cI cII cLd cOc b) A (some (.int q.1)) q.2) args s 0 0 A) 4 2 [(0, .ref (b + (lo k))), (1, .int x1), (2, .int x2), (3, .int x3)] [] v := by
  intro n
  induction n with
  | zero =>
    intro x1 x2 x3 v q hf
    cases (show (none : Option (Int32 × fm_T)) = some q from hf)
  | succ n ih =>
    intro x1 x2 x3 v q hf
    rw [f_X0_doDeeds_2_s] at hf
    refine fm_iload_n C dX0_doDeeds_2 rfl 3 rfl 3 rfl ?_
    refine fm_aload_n C dX0_doDeeds_3 rfl 0 rfl 4 rfl ?_
    refine fm_get C (t := lo k) (lo_lt hk) ((shC_lo hk) _) rfl inG_X0 0 (by decide) F_X0_34 rfl dX0_doDeeds_4 7 rfl ?_
    refine fm_getN C (t := 1) (by decide) (shC_1 _) rfl inG_X2 5 (by decide) FN_X0_146 rfl dX0_doDeeds_7 10 rfl ?_
    refine fm_iload_n C dX0_doDeeds_10 rfl 1 rfl 11 rfl ?_
    by_cases b1 : x1 < 0 ∨ 12 ≤ x1.toNatClampNeg
    · rw [if_pos b1] at hf; cases hf
    rw [if_neg b1] at hf
    refine fm_iald C (t := 30) (t0 := 0) (by decide) (shC_30 _) rfl b1 dX0_doDeeds_11 12 rfl ?_
    refine fm_icmp_ge C 53 dX0_doDeeds_12 (by decide) (fun c2 => ?_) 15 rfl (fun c2 => ?_)
    · rw [if_pos c2] at hf
      refine fm_iconst C (x := 1) dX0_doDeeds_53 (by decide) 54 rfl ?_
      obtain rfl := Option.some.inj hf
      exact fm_zret C hr hk0 (Or.inr rfl) dX0_doDeeds_54
    · rw [if_neg c2] at hf
      refine fm_aload_n C dX0_doDeeds_15 rfl 0 rfl 16 rfl ?_
      refine fm_aload_n C dX0_doDeeds_16 rfl 0 rfl 17 rfl ?_
      refine fm_get C (t := lo k) (lo_lt hk) ((shC_lo hk) _) rfl inG_X0 0 (by decide) F_X0_34 rfl dX0_doDeeds_17 20 rfl ?_
      refine fm_getN C (t := 1) (by decide) (shC_1 _) rfl inG_X2 6 (by decide) FN_X0_149 rfl dX0_doDeeds_20 23 rfl ?_
      refine fm_iload_n C dX0_doDeeds_23 rfl 1 rfl 24 rfl ?_
      refine fm_aald C (t := 31) (t0 := 1) (by decide) (shC_31 _) rfl rfl b1 (x := b + (32 + x1.toNatClampNeg)) (in_some (g := fun i => b + (32 + i)) b1) dX0_doDeeds_24 25 rfl ?_
      refine fm_iload_n C dX0_doDeeds_25 rfl 3 rfl 26 rfl ?_
      by_cases b3 : x3 < 0 ∨ 6 ≤ x3.toNatClampNeg
      · rw [if_pos b3] at hf; cases hf
      rw [if_neg b3] at hf
      refine fm_iald C (t := 32 + x1.toNatClampNeg) (t0 := 0) (by have := in_lt b1; omega) ((shC_r32 (in_lt b1)) _) rfl b3 dX0_doDeeds_26 27 rfl ?_
      refine fm_aload_n C dX0_doDeeds_27 rfl 0 rfl 28 rfl ?_
      refine fm_get C (t := lo k) (lo_lt hk) ((shC_lo hk) _) rfl inG_X0 0 (by decide) F_X0_34 rfl dX0_doDeeds_28 31 rfl ?_
      refine fm_getN C (t := 1) (by decide) (shC_1 _) rfl inG_X2 7 (by decide) FN_X0_152 rfl dX0_doDeeds_31 34 rfl ?_
      refine fm_iload_n C dX0_doDeeds_34 rfl 1 rfl 35 rfl ?_
      refine fm_aald C (t := 44) (t0 := 1) (by decide) (shC_44 _) rfl rfl b1 (x := b + (45 + x1.toNatClampNeg)) (in_some (g := fun i => b + (45 + i)) b1) dX0_doDeeds_35 36 rfl ?_
      refine fm_iload_n C dX0_doDeeds_36 rfl 3 rfl 37 rfl ?_
      refine fm_iald C (t := 45 + x1.toNatClampNeg) (t0 := 0) (by have := in_lt b1; omega) ((shC_r45 (in_lt b1)) _) rfl b3 dX0_doDeeds_37 38 rfl ?_
      refine fm_iload_n C dX0_doDeeds_38 rfl 2 rfl 39 rfl ?_
      obtain ⟨q5, h4, hf⟩ := Option.bind_eq_some_iff.mp hf
      refine fm_callV C Y_X0_doDeed (t := lo k) (lo_lt hk) ((shC_lo hk) _) rfl LM_X0_155 (As := [.int (v (32 + x1.toNatClampNeg) x3.toNatClampNeg), .int (v (45 + x1.toNatClampNeg) x3.toNatClampNeg), .int x2]) (rest := []) (G.2.2.2.2.2.2.2.2 hk h4) (by omega) (by omega) rfl (Nat.le_of_ble_eq_true rfl) dX0_doDeeds_39 42 rfl [.int q5.1] rfl ?_
      refine fm_if_ne C 47 dX0_doDeeds_42 (by decide) (fun c6 => ?_) 45 rfl (fun c6 => ?_)
      · rw [if_neg c6] at hf
        refine fm_iinc C [(3, .int (x3 + 1)), (0, .ref (b + (lo k))), (1, .int x1), (2, .int x2)] dX0_doDeeds_47 3 rfl rfl (by decide) rfl 50 rfl ?_
        refine fm_goto C 2 dX0_doDeeds_50 (by decide) ?_
        refine fm_lv [1, 2, 3, 0] [(0, .ref (b + (lo k))), (1, .int x1), (2, .int x2), (3, .int (x3 + 1))] rfl ?_
        exact ih x1 x2 (x3 + 1) q5.2 hf
      · rw [if_pos c6] at hf
        refine fm_iconst C (x := 0) dX0_doDeeds_45 (by decide) 46 rfl ?_
        obtain rfl := Option.some.inj hf
        exact fm_zret C hr hk0 (Or.inl rfl) dX0_doDeeds_46
def f_X0_doDeeds (g : GT) (k : Nat) (x1 : Int32) (x2 : Int32) (v : fm_T) : Option (Int32 × fm_T) := f_X0_doDeeds_2 g 1000 k x1 x2 0 v
set_option maxHeartbeats 4000000 in
set_option maxRecDepth 20000 in
theorem c_X0_doDeeds {k : Nat} {x1 : Int32} {x2 : Int32} {g : GT} {h : Nat} (G : GG l D tA cI cII cLd cOc b A g h) (hh : 3 ≤ h) (hk : k < 4) {v : fm_T} {q : Int32 × fm_T} (hf : f_X0_doDeeds g k x1 x2 v = some q) : fm_M l D (fm_tys cI cII cLd cOc) tA b 305 (shC cI cII cLd cOc b) A yX0_doDeeds cX0_doDeeds 4 (some .boolean) (h + 1) [.ref (b + (lo k)), .int x1, .int x2] v (some (.int q.1)) q.2 := by
  refine fm_entry (by decide) (Nat.le_of_ble_eq_true rfl) ?_
  intro p e R s m args below meth c C hr hk0 hF hLo
  unfold f_X0_doDeeds at hf
  show fm_V p l e R s m args below meth c D b 305 (shC cI cII cLd cOc b) A _ 4 0 [(0, .ref (b + (lo k))), (1, .int x1), (2, .int x2)] [] v
  refine fm_iconst C (x := 0) dX0_doDeeds_0 (by decide) 1 rfl ?_
  refine fm_istore_n C [(3, .int 0), (0, .ref (b + (lo k))), (1, .int x1), (2, .int x2)] dX0_doDeeds_1 rfl (by decide) rfl 2 rfl ?_
  refine fm_lv [1, 2, 3, 0] [(0, .ref (b + (lo k))), (1, .int x1), (2, .int x2), (3, .int 0)] rfl ?_
  exact b_X0_doDeeds_2 G hh hk C hr hk0 hF hLo 1000 x1 x2 0 v hf
def f_X0_doDeed (g : GT) (k : Nat) (x1 : Int32) (x2 : Int32) (x3 : Int32) (v : fm_T) : Option (Int32 × fm_T) := (if x1 = 0 then ((g 0 k x2 x3 0 v).bind fun q3 => (if q3.1 = 0 ∨ q3.1 = 1 then some (q3.1, q3.2) else none)) else (if x1 = 1 then ((g 1 k x2 x3 0 v).bind fun q7 => (if q7.1 = 0 ∨ q7.1 = 1 then some (q7.1, q7.2) else none)) else ((f_X1_fail (bo k + 16) 7 x2 v).bind fun q10 => (if q10.1 = 0 ∨ q10.1 = 1 then some (q10.1, q10.2) else none))))
set_option maxHeartbeats 4000000 in
set_option maxRecDepth 20000 in
theorem c_X0_doDeed {k : Nat} {x1 : Int32} {x2 : Int32} {x3 : Int32} {g : GT} {h : Nat} (G : GG l D tA cI cII cLd cOc b A g h) (hh : 3 ≤ h) (hk : k < 4) {v : fm_T} {q : Int32 × fm_T} (hf : f_X0_doDeed g k x1 x2 x3 v = some q) : fm_M l D (fm_tys cI cII cLd cOc) tA b 305 (shC cI cII cLd cOc b) A yX0_doDeed cX0_doDeed 4 (some .boolean) (h + 1) [.ref (b + (lo k)), .int x1, .int x2, .int x3] v (some (.int q.1)) q.2 := by
  refine fm_entry (by decide) (Nat.le_of_ble_eq_true rfl) ?_
  intro p e R s m args below meth c C hr hk0 hF hLo
  unfold f_X0_doDeed at hf
  show fm_V p l e R s m args below meth c D b 305 (shC cI cII cLd cOc b) A _ 4 0 [(0, .ref (b + (lo k))), (1, .int x1), (2, .int x2), (3, .int x3)] [] v
  refine fm_iload_n C dX0_doDeed_0 rfl 1 rfl 1 rfl ?_
  by_cases w1 : x1 = 0
  · rw [if_pos w1] at hf
    refine fm_lookup C (off := 27) 28 dX0_doDeed_1 (by decide) (by rw [w1] <;> rfl) (by decide) ?_
    refine fm_aload_n C dX0_doDeed_28 rfl 0 rfl 29 rfl ?_
    refine fm_iload_n C dX0_doDeed_29 rfl 2 rfl 30 rfl ?_
    refine fm_iload_n C dX0_doDeed_30 rfl 3 rfl 31 rfl ?_
    obtain ⟨q3, h2, hf⟩ := Option.bind_eq_some_iff.mp hf
    refine fm_callV C Y_X0_obtain (t := lo k) (lo_lt hk) ((shC_lo hk) _) rfl LM_X0_96 (As := [.int x2, .int x3]) (rest := []) (G.1 hk h2) (by omega) (by omega) rfl (Nat.le_of_ble_eq_true rfl) dX0_doDeed_31 34 rfl [.int q3.1] rfl ?_
    by_cases r4 : q3.1 = 0 ∨ q3.1 = 1
    · rw [if_pos r4] at hf
      obtain rfl := Option.some.inj hf
      exact fm_zret C hr hk0 r4 dX0_doDeed_34
    · rw [if_neg r4] at hf; cases hf
  rw [if_neg w1] at hf
  by_cases w5 : x1 = 1
  · rw [if_pos w5] at hf
    refine fm_lookup C (off := 34) 35 dX0_doDeed_1 (by decide) (by rw [w5] <;> rfl) (by decide) ?_
    refine fm_aload_n C dX0_doDeed_35 rfl 0 rfl 36 rfl ?_
    refine fm_iload_n C dX0_doDeed_36 rfl 2 rfl 37 rfl ?_
    refine fm_iload_n C dX0_doDeed_37 rfl 3 rfl 38 rfl ?_
    obtain ⟨q7, h6, hf⟩ := Option.bind_eq_some_iff.mp hf
    refine fm_callV C Y_X0_begin (t := lo k) (lo_lt hk) ((shC_lo hk) _) rfl LM_X0_62 (As := [.int x2, .int x3]) (rest := []) (G.2.1 hk h6) (by omega) (by omega) rfl (Nat.le_of_ble_eq_true rfl) dX0_doDeed_38 41 rfl [.int q7.1] rfl ?_
    by_cases r8 : q7.1 = 0 ∨ q7.1 = 1
    · rw [if_pos r8] at hf
      obtain rfl := Option.some.inj hf
      exact fm_zret C hr hk0 r8 dX0_doDeed_41
    · rw [if_neg r8] at hf; cases hf
  rw [if_neg w5] at hf
  refine fm_lookup C (off := 41) 42 dX0_doDeed_1 (by decide) (by rw [lv_osw (k := 0) w1 (by decide), lv_osw (k := 1) w5 (by decide)] <;> rfl) (by decide) ?_
  refine fm_aload_n C dX0_doDeed_42 rfl 0 rfl 43 rfl ?_
  refine fm_get C (t := lo k) (lo_lt hk) ((shC_lo hk) _) rfl inG_X0 6 (by decide) F_X0_30 rfl dX0_doDeed_43 46 rfl ?_
  refine fm_bipush C (x := 7) dX0_doDeed_46 (by decide) 48 rfl ?_
  refine fm_iload_n C dX0_doDeed_48 rfl 2 rfl 49 rfl ?_
  obtain ⟨q10, h9, hf⟩ := Option.bind_eq_some_iff.mp hf
  refine fm_callN C Y_X1_fail (t := bo k + 16) (isO_lt (isO_now hk)) ((shC_O (isO_now hk)) _) rfl LN_X0_55 (As := [.int 7, .int x2]) (rest := []) (c_X1_fail (isO_now hk) h9) (by omega) (by omega) rfl (Nat.le_of_ble_eq_true rfl) dX0_doDeed_49 52 rfl [.int q10.1] rfl ?_
  by_cases r11 : q10.1 = 0 ∨ q10.1 = 1
  · rw [if_pos r11] at hf
    obtain rfl := Option.some.inj hf
    exact fm_zret C hr hk0 r11 dX0_doDeed_52
  · rw [if_neg r11] at hf; cases hf
end
