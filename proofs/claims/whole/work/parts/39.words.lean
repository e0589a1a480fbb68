theorem OB_X0 : Cond.methodLink RX0 3 objectInit ∈ gtbl ∧ Cond.instanceMethod objectInit ∈ gtbl ∧ Cond.code objectInit ⟨#[0xb1]⟩ 1 none ∈ gtbl := ⟨by decide +kernel, by decide +kernel, by decide +kernel⟩
theorem OB_X1 : Cond.methodLink RX1 3 objectInit ∈ gtbl ∧ Cond.instanceMethod objectInit ∈ gtbl ∧ Cond.code objectInit ⟨#[0xb1]⟩ 1 none ∈ gtbl := ⟨by decide +kernel, by decide +kernel, by decide +kernel⟩
theorem OB_X2 : Cond.methodLink RX2 3 objectInit ∈ gtbl ∧ Cond.instanceMethod objectInit ∈ gtbl ∧ Cond.code objectInit ⟨#[0xb1]⟩ 1 none ∈ gtbl := ⟨by decide +kernel, by decide +kernel, by decide +kernel⟩
theorem OB_X3 : Cond.methodLink RX3 3 objectInit ∈ gtbl ∧ Cond.instanceMethod objectInit ∈ gtbl ∧ Cond.code objectInit ⟨#[0xb1]⟩ 1 none ∈ gtbl := ⟨by decide +kernel, by decide +kernel, by decide +kernel⟩
theorem OB_X4 : Cond.methodLink RX4 3 objectInit ∈ gtbl ∧ Cond.instanceMethod objectInit ∈ gtbl ∧ Cond.code objectInit ⟨#[0xb1]⟩ 1 none ∈ gtbl := ⟨by decide +kernel, by decide +kernel, by decide +kernel⟩
theorem OB_X5 : Cond.methodLink RX5 1 objectInit ∈ gtbl ∧ Cond.instanceMethod objectInit ∈ gtbl ∧ Cond.code objectInit ⟨#[0xb1]⟩ 1 none ∈ gtbl := ⟨by decide +kernel, by decide +kernel, by decide +kernel⟩
theorem AC_int : Cond.arrayClass .int ∈ gtbl := by decide +kernel
theorem CL_X0_15 : Cond.classLink RX0 15 "[[I" ∈ gtbl := by decide +kernel
theorem CL_X2_15 : Cond.classLink RX2 15 "[[I" ∈ gtbl := by decide +kernel
theorem NW_X0_23 : Cond.classLink RX0 23 RX1 ∈ gtbl ∧ Cond.instantiable RX1 5 ∈ gtbl ∧ Cond.initialized RX1 ∈ gtbl := ⟨by decide +kernel, by decide +kernel, by decide +kernel⟩
theorem NW_X4_9 : Cond.classLink RX4 9 RX2 ∈ gtbl ∧ Cond.instantiable RX2 14 ∈ gtbl ∧ Cond.initialized RX2 ∈ gtbl := ⟨by decide +kernel, by decide +kernel, by decide +kernel⟩
theorem NW_X4_16 : Cond.classLink RX4 16 RX3 ∈ gtbl ∧ Cond.instantiable RX3 3 ∈ gtbl ∧ Cond.initialized RX3 ∈ gtbl := ⟨by decide +kernel, by decide +kernel, by decide +kernel⟩
theorem NW_X4_23 : Cond.classLink RX4 23 RX0 ∈ gtbl ∧ Cond.instantiable RX0 8 ∈ gtbl ∧ Cond.initialized RX0 ∈ gtbl := ⟨by decide +kernel, by decide +kernel, by decide +kernel⟩
theorem NW_X4_32 : Cond.classLink RX4 32 RX1 ∈ gtbl ∧ Cond.instantiable RX1 5 ∈ gtbl ∧ Cond.initialized RX1 ∈ gtbl := ⟨by decide +kernel, by decide +kernel, by decide +kernel⟩
theorem Y_X0_init : fm_Y yX0_init cX0_init 4 none 2 := ⟨by decide +kernel, by decide +kernel, by decide +kernel, by decide⟩
theorem Y_X1_init : fm_Y yX1_init cX1_init 1 none 0 := ⟨by decide +kernel, by decide +kernel, by decide +kernel, by decide⟩
theorem Y_X2_init : fm_Y yX2_init cX2_init 1 none 0 := ⟨by decide +kernel, by decide +kernel, by decide +kernel, by decide⟩
theorem Y_X3_init : fm_Y yX3_init cX3_init 1 none 0 := ⟨by decide +kernel, by decide +kernel, by decide +kernel, by decide⟩
theorem Y_X4_init : fm_Y yX4_init cX4_init 2 none 0 := ⟨by decide +kernel, by decide +kernel, by decide +kernel, by decide⟩
theorem Y_X5_init : fm_Y yX5_init cX5_init 1 none 0 := ⟨by decide +kernel, by decide +kernel, by decide +kernel, by decide⟩
theorem IN_X0_29 : Cond.methodLinkNest RX0 29 yX1_init "ConstantStarts" ∈ fm_nest ∧ Cond.instanceMethod yX1_init ∈ gtbl := ⟨by decide +kernel, by decide +kernel⟩
theorem IN_X4_11 : Cond.methodLinkNest RX4 11 yX2_init "ConstantStarts" ∈ fm_nest ∧ Cond.instanceMethod yX2_init ∈ gtbl := ⟨by decide +kernel, by decide +kernel⟩
theorem IN_X4_18 : Cond.methodLinkNest RX4 18 yX3_init "ConstantStarts" ∈ fm_nest ∧ Cond.instanceMethod yX3_init ∈ gtbl := ⟨by decide +kernel, by decide +kernel⟩
theorem IN_X4_29 : Cond.methodLinkNest RX4 29 yX0_init "ConstantStarts" ∈ fm_nest ∧ Cond.instanceMethod yX0_init ∈ gtbl := ⟨by decide +kernel, by decide +kernel⟩
theorem IN_X4_34 : Cond.methodLinkNest RX4 34 yX1_init "ConstantStarts" ∈ fm_nest ∧ Cond.instanceMethod yX1_init ∈ gtbl := ⟨by decide +kernel, by decide +kernel⟩
theorem va_up_id {α : Type} {G : Nat → α} {t : Nat} {x : α} (h : G t = x) : va_up G t x = G := by
  funext a
  by_cases e : a = t
  · subst e; rw [va_up_self, h]
  · rw [va_up_ne _ _ e]
theorem va_up_cm {α : Type} (G : Nat → α) {t u : Nat} (h : t ≠ u) (x y : α) : va_up (va_up G t x) u y = va_up (va_up G u y) t x := by
  funext a
  by_cases e : a = t
  · subst e; rw [va_up_ne _ _ h, va_up_self, va_up_self]
  · by_cases e2 : a = u
    · subst e2; rw [va_up_self, va_up_ne _ _ e, va_up_self]
    · rw [va_up_ne _ _ e2, va_up_ne _ _ e, va_up_ne _ _ e, va_up_ne _ _ e2]
theorem va_up_ex {α : Type} {G : Nat → α} {t : Nat} {x : α} {n : Nat} (h : n ≤ t) : ∀ u, u < n → va_up G t x u = G u := fun u hu => va_up_ne _ _ (by omega)
