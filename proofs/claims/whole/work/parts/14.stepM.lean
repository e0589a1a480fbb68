section
variable {l : Launch} {D : va_G} {tA b : Nat} {A : Nat → Prop} {cI cII cLd cOc : ClassId}
def f_X5_begins_131 : Nat → Int32 → Int32 → Int32 → Int32 → Int32 → fm_T → Option (Int32 × fm_T)
  | 0 => fun _ _ _ _ _ _ => none
  | n + 1 => fun x1 x2 x3 x4 x5 v => (if v 0 8 ≤ x5 then ((f_X5_gives x4 v).bind fun q3 => ((f_X5_ends x1 x2 q3.2).bind fun q5 => some (0, q5.2))) else (if x5 < 0 ∨ 40 ≤ x5.toNatClampNeg then none else (if v 8 x5.toNatClampNeg = x3 then f_X5_begins_131 n x1 x2 x3 (x4 + 1) (x5 + 1) v else f_X5_begins_131 n x1 x2 x3 (x4 + 0) (x5 + 1) v)))
theorem f_X5_begins_131_s (n : Nat)  (x1 : Int32) (x2 : Int32) (x3 : Int32) (x4 : Int32) (x5 : Int32) (v : fm_T) : f_X5_begins_131 (n + 1) x1 x2 x3 x4 x5 v = (if v 0 8 ≤ x5 then ((f_X5_gives x4 v).bind fun q3 => ((f_X5_ends x1 x2 q3.2).bind fun q5 => some (0, q5.2))) else (if x5 < 0 ∨ 40 ≤ x5.toNatClampNeg then none else (if v 8 x5.toNatClampNeg = x3 then f_X5_begins_131 n x1 x2 x3 (x4 + 1) (x5 + 1) v else f_X5_begins_131 n x1 x2 x3 (x4 + 0) (x5 + 1) v))) := rfl
set_option maxHeartbeats 4000000 in
set_option maxRecDepth 20000 in
theorem b_X5_begins_131   {p : Program} {e : Env} {R : Room} {s : State} {m : MethodId} {args : Array Value} {below : List Frame} {meth : Method} {c : Code} (C : fm_C p s m args c cX5_begins RX5 6 D (fm_tys cI cII cLd cOc) tA b 29 A) (hr : meth.sig.returnType = none) (hk0 : meth.locks = false) (hF : 2 ≤ R.frames) (hLo : 40 * 2 ≤ R.locals) : ∀ (n : Nat) (x1 : Int32) (x2 : Int32) (x3 : Int32) (x4 : Int32) (x5 : Int32) (v : fm_T) {q : Int32 × fm_T}, f_X5_begins_131 n x1 x2 x3 x4 x5 v = some q → fm_V p l e R s m args below meth c D b 29 (shM cI b) A (MQ below (fm_Q D b 29 (shM cI b) A none q.2) args s 0 0 A) 6 131 [(0, .ref (b + 0)), (1, .int x1), (2, .int x2), (3, .int x3), (4, .int x4), (5, .int x5)] [] v := by
  intro n
  induction n with
  | zero =>
    intro x1 x2 x3 x4 x5 v q hf
    cases (show (none : Option (Int32 × fm_T)) = some q from hf)
  | succ n ih =>
    intro x1 x2 x3 x4 x5 v q hf
    rw [f_X5_begins_131_s] at hf
    refine fm_iload C dX5_begins_131 5 rfl 133 rfl ?_
    refine fm_aload_n C dX5_begins_133 rfl 0 rfl 134 rfl ?_
    refine fm_get C (t := 0) (by decide) (shM_0 _) rfl inG_X5 8 (by decide) F_X5_106 rfl dX5_begins_134 137 rfl ?_
    refine fm_icmp_ge C 167 dX5_begins_137 (by decide) (fun c1 => ?_) 140 rfl (fun c1 => ?_)
    · rw [if_pos c1] at hf
      refine fm_aload_n C dX5_begins_167 rfl 0 rfl 168 rfl ?_
      refine fm_iload C dX5_begins_168 4 rfl 170 rfl ?_
      obtain ⟨q3, h2, hf⟩ := Option.bind_eq_some_iff.mp hf
      refine fm_callV C Y_X5_gives (t := 0) (by decide) (shM_0 _) rfl LM_X5_157 (As := [.int x4]) (rest := []) (c_X5_gives  h2) (by omega) (by omega) rfl (Nat.le_of_ble_eq_true rfl) dX5_begins_170 173 rfl [] rfl ?_
      refine fm_aload_n C dX5_begins_173 rfl 0 rfl 174 rfl ?_
      refine fm_iload_n C dX5_begins_174 rfl 1 rfl 175 rfl ?_
      refine fm_iload_n C dX5_begins_175 rfl 2 rfl 176 rfl ?_
      obtain ⟨q5, h4, hf⟩ := Option.bind_eq_some_iff.mp hf
      refine fm_callV C Y_X5_ends (t := 0) (by decide) (shM_0 _) rfl LM_X5_170 (As := [.int x1, .int x2]) (rest := []) (c_X5_ends  h4) (by omega) (by omega) rfl (Nat.le_of_ble_eq_true rfl) dX5_begins_176 179 rfl [] rfl ?_
      refine fm_goto C 197 dX5_begins_179 (by decide) ?_
      obtain rfl := Option.some.inj hf
      exact fm_vret C hr hk0 dX5_begins_197
    · rw [if_neg c1] at hf
      refine fm_iload C dX5_begins_140 4 rfl 142 rfl ?_
      refine fm_aload_n C dX5_begins_142 rfl 0 rfl 143 rfl ?_
      refine fm_get C (t := 0) (by decide) (shM_0 _) rfl inG_X5 9 (by decide) F_X5_31 rfl dX5_begins_143 146 rfl ?_
      refine fm_iload C dX5_begins_146 5 rfl 148 rfl ?_
      by_cases b6 : x5 < 0 ∨ 40 ≤ x5.toNatClampNeg
      · rw [if_pos b6] at hf; cases hf
      rw [if_neg b6] at hf
      refine fm_iald C (t := 8) (t0 := 0) (by decide) (shM_8 _) rfl b6 dX5_begins_148 149 rfl ?_
      refine fm_iload_n C dX5_begins_149 rfl 3 rfl 150 rfl ?_
      refine fm_icmp_ne C 157 dX5_begins_150 (by decide) (fun c7 => ?_) 153 rfl (fun c7 => ?_)
      · rw [if_neg c7] at hf
        refine fm_iconst C (x := 0) dX5_begins_157 (by decide) 158 rfl ?_
        refine fm_iadd C dX5_begins_158 159 rfl ?_
        refine fm_istore C [(4, .int (x4 + 0)), (0, .ref (b + 0)), (1, .int x1), (2, .int x2), (3, .int x3), (5, .int x5)] dX5_begins_159 (by decide) rfl 161 rfl ?_
        refine fm_iinc C [(5, .int (x5 + 1)), (4, .int (x4 + 0)), (0, .ref (b + 0)), (1, .int x1), (2, .int x2), (3, .int x3)] dX5_begins_161 5 rfl rfl (by decide) rfl 164 rfl ?_
        refine fm_goto C 131 dX5_begins_164 (by decide) ?_
        refine fm_lv [2, 3, 4, 5, 1, 0] [(0, .ref (b + 0)), (1, .int x1), (2, .int x2), (3, .int x3), (4, .int (x4 + 0)), (5, .int (x5 + 1))] rfl ?_
        exact ih x1 x2 x3 (x4 + 0) (x5 + 1) v hf
      · rw [if_pos c7] at hf
        refine fm_iconst C (x := 1) dX5_begins_153 (by decide) 154 rfl ?_
        refine fm_goto C 158 dX5_begins_154 (by decide) ?_
        refine fm_iadd C dX5_begins_158 159 rfl ?_
        refine fm_istore C [(4, .int (x4 + 1)), (0, .ref (b + 0)), (1, .int x1), (2, .int x2), (3, .int x3), (5, .int x5)] dX5_begins_159 (by decide) rfl 161 rfl ?_
        refine fm_iinc C [(5, .int (x5 + 1)), (4, .int (x4 + 1)), (0, .ref (b + 0)), (1, .int x1), (2, .int x2), (3, .int x3)] dX5_begins_161 5 rfl rfl (by decide) rfl 164 rfl ?_
        refine fm_goto C 131 dX5_begins_164 (by decide) ?_
        refine fm_lv [2, 3, 4, 5, 1, 0] [(0, .ref (b + 0)), (1, .int x1), (2, .int x2), (3, .int x3), (4, .int (x4 + 1)), (5, .int (x5 + 1))] rfl ?_
        exact ih x1 x2 x3 (x4 + 1) (x5 + 1) v hf
def f_X5_begins (x1 : Int32) (x2 : Int32) (v : fm_T) : Option (Int32 × fm_T) := (if x2 < 0 ∨ 40 ≤ x2.toNatClampNeg then none else (if v 9 x2.toNatClampNeg = 0 then ((f_X5_gives (v 10 x2.toNatClampNeg) v).bind fun q11 => ((f_X5_ends x1 x2 q11.2).bind fun q13 => some (0, q13.2))) else (if v 9 x2.toNatClampNeg = 1 then ((f_X5_push 0 (v 10 x2.toNatClampNeg) v).bind fun q16 => some (0, q16.2)) else (if v 9 x2.toNatClampNeg = 2 then ((f_X5_push 0 (v 10 x2.toNatClampNeg) v).bind fun q19 => some (0, q19.2)) else (if v 9 x2.toNatClampNeg = 3 then ((f_X5_push 0 (v 10 x2.toNatClampNeg) v).bind fun q22 => some (0, q22.2)) else (if v 9 x2.toNatClampNeg = 4 then ((f_X5_push 0 (v 10 x2.toNatClampNeg) v).bind fun q25 => some (0, q25.2)) else (if v 9 x2.toNatClampNeg = 5 then ((f_X5_push 0 (v 10 x2.toNatClampNeg) v).bind fun q28 => some (0, q28.2)) else (if v 9 x2.toNatClampNeg = 6 then ((f_X5_fails 3 (v 10 x2.toNatClampNeg) v).bind fun q31 => ((f_X5_ends x1 x2 q31.2).bind fun q33 => some (0, q33.2))) else (if v 9 x2.toNatClampNeg = 7 then ((f_X5_push 0 (v 10 x2.toNatClampNeg) v).bind fun q36 => some (0, q36.2)) else (if v 9 x2.toNatClampNeg = 8 then (if (12 * x1) + (v 10 x2.toNatClampNeg) < 0 ∨ 60 ≤ ((12 * x1) + (v 10 x2.toNatClampNeg)).toNatClampNeg then none else ((f_X5_gives (v 13 (((12 * x1) + (v 10 x2.toNatClampNeg)).toNatClampNeg)) v).bind fun q40 => ((f_X5_ends x1 x2 q40.2).bind fun q42 => some (0, q42.2)))) else (if v 9 x2.toNatClampNeg = 9 then f_X5_begins_131 1000 x1 x2 (v 10 x2.toNatClampNeg) 0 0 v else (if v 9 x2.toNatClampNeg = 10 then ((f_X5_push 1 (v 10 x2.toNatClampNeg) v).bind fun q46 => some (0, q46.2)) else ((f_X5_push 0 (v 10 x2.toNatClampNeg) v).bind fun q48 => some (0, q48.2))))))))))))))
set_option maxHeartbeats 4000000 in
set_option maxRecDepth 20000 in
theorem c_X5_begins {x1 : Int32} {x2 : Int32}  {v : fm_T} {q : Int32 × fm_T} (hf : f_X5_begins x1 x2 v = some q) : fm_M l D (fm_tys cI cII cLd cOc) tA b 29 (shM cI b) A yX5_begins cX5_begins 6 none 2 [.ref (b + 0), .int x1, .int x2] v none q.2 := by
  refine fm_entry (by decide) (Nat.le_of_ble_eq_true rfl) ?_
  intro p e R s m args below meth c C hr hk0 hF hLo
  unfold f_X5_begins at hf
  show fm_V p l e R s m args below meth c D b 29 (shM cI b) A _ 6 0 [(0, .ref (b + 0)), (1, .int x1), (2, .int x2)] [] v
  refine fm_aload_n C dX5_begins_0 rfl 0 rfl 1 rfl ?_
  refine fm_get C (t := 0) (by decide) (shM_0 _) rfl inG_X5 11 (by decide) F_X5_37 rfl dX5_begins_1 4 rfl ?_
  refine fm_iload_n C dX5_begins_4 rfl 2 rfl 5 rfl ?_
  by_cases b8 : x2 < 0 ∨ 40 ≤ x2.toNatClampNeg
  · rw [if_pos b8] at hf; cases hf
  rw [if_neg b8] at hf
  refine fm_iald C (t := 10) (t0 := 0) (by decide) (shM_10 _) rfl b8 dX5_begins_5 6 rfl ?_
  refine fm_istore_n C [(3, .int (v 10 x2.toNatClampNeg)), (0, .ref (b + 0)), (1, .int x1), (2, .int x2)] dX5_begins_6 rfl (by decide) rfl 7 rfl ?_
  refine fm_aload_n C dX5_begins_7 rfl 1 rfl 8 rfl ?_
  refine fm_get C (t := 0) (by decide) (shM_0 _) rfl inG_X5 10 (by decide) F_X5_34 rfl dX5_begins_8 11 rfl ?_
  refine fm_iload_n C dX5_begins_11 rfl 3 rfl 12 rfl ?_
  refine fm_iald C (t := 9) (t0 := 0) (by decide) (shM_9 _) rfl b8 dX5_begins_12 13 rfl ?_
  by_cases w9 : v 9 x2.toNatClampNeg = 0
  · rw [if_pos w9] at hf
    refine fm_tableIn C (off := 59) 72 dX5_begins_13 (by rw [w9]; decide) (by rw [w9]; decide) (by rw [w9] <;> rfl) (by decide) ?_
    refine fm_aload_n C dX5_begins_72 rfl 1 rfl 73 rfl ?_
    refine fm_iload_n C dX5_begins_73 rfl 0 rfl 74 rfl ?_
    obtain ⟨q11, h10, hf⟩ := Option.bind_eq_some_iff.mp hf
    refine fm_callV C Y_X5_gives (t := 0) (by decide) (shM_0 _) rfl LM_X5_157 (As := [.int (v 10 x2.toNatClampNeg)]) (rest := []) (c_X5_gives  h10) (by omega) (by omega) rfl (Nat.le_of_ble_eq_true rfl) dX5_begins_74 77 rfl [] rfl ?_
    refine fm_aload_n C dX5_begins_77 rfl 1 rfl 78 rfl ?_
    refine fm_iload_n C dX5_begins_78 rfl 2 rfl 79 rfl ?_
    refine fm_iload_n C dX5_begins_79 rfl 3 rfl 80 rfl ?_
    obtain ⟨q13, h12, hf⟩ := Option.bind_eq_some_iff.mp hf
    refine fm_callV C Y_X5_ends (t := 0) (by decide) (shM_0 _) rfl LM_X5_170 (As := [.int x1, .int x2]) (rest := []) (c_X5_ends  h12) (by omega) (by omega) rfl (Nat.le_of_ble_eq_true rfl) dX5_begins_80 83 rfl [] rfl ?_
    refine fm_goto C 197 dX5_begins_83 (by decide) ?_
    obtain rfl := Option.some.inj hf
    exact fm_vret C hr hk0 dX5_begins_197
  rw [if_neg w9] at hf
  by_cases w14 : v 9 x2.toNatClampNeg = 1
  · rw [if_pos w14] at hf
    refine fm_tableIn C (off := 178) 191 dX5_begins_13 (by rw [w14]; decide) (by rw [w14]; decide) (by rw [w14] <;> rfl) (by decide) ?_
    refine fm_aload_n C dX5_begins_191 rfl 1 rfl 192 rfl ?_
    refine fm_iconst C (x := 0) dX5_begins_192 (by decide) 193 rfl ?_
    refine fm_iload_n C dX5_begins_193 rfl 0 rfl 194 rfl ?_
    obtain ⟨q16, h15, hf⟩ := Option.bind_eq_some_iff.mp hf
    refine fm_callV C Y_X5_push (t := 0) (by decide) (shM_0 _) rfl LM_X5_144 (As := [.int 0, .int (v 10 x2.toNatClampNeg)]) (rest := []) (c_X5_push  h15) (by omega) (by omega) rfl (Nat.le_of_ble_eq_true rfl) dX5_begins_194 197 rfl [] rfl ?_
    obtain rfl := Option.some.inj hf
    exact fm_vret C hr hk0 dX5_begins_197
  rw [if_neg w14] at hf
  by_cases w17 : v 9 x2.toNatClampNeg = 2
  · rw [if_pos w17] at hf
    refine fm_tableIn C (off := 178) 191 dX5_begins_13 (by rw [w17]; decide) (by rw [w17]; decide) (by rw [w17] <;> rfl) (by decide) ?_
    refine fm_aload_n C dX5_begins_191 rfl 1 rfl 192 rfl ?_
    refine fm_iconst C (x := 0) dX5_begins_192 (by decide) 193 rfl ?_
    refine fm_iload_n C dX5_begins_193 rfl 0 rfl 194 rfl ?_
    obtain ⟨q19, h18, hf⟩ := Option.bind_eq_some_iff.mp hf
    refine fm_callV C Y_X5_push (t := 0) (by decide) (shM_0 _) rfl LM_X5_144 (As := [.int 0, .int (v 10 x2.toNatClampNeg)]) (rest := []) (c_X5_push  h18) (by omega) (by omega) rfl (Nat.le_of_ble_eq_true rfl) dX5_begins_194 197 rfl [] rfl ?_
    obtain rfl := Option.some.inj hf
    exact fm_vret C hr hk0 dX5_begins_197
  rw [if_neg w17] at hf
  by_cases w20 : v 9 x2.toNatClampNeg = 3
  · rw [if_pos w20] at hf
    refine fm_tableIn C (off := 178) 191 dX5_begins_13 (by rw [w20]; decide) (by rw [w20]; decide) (by rw [w20] <;> rfl) (by decide) ?_
    refine fm_aload_n C dX5_begins_191 rfl 1 rfl 192 rfl ?_
    refine fm_iconst C (x := 0) dX5_begins_192 (by decide) 193 rfl ?_
    refine fm_iload_n C dX5_begins_193 rfl 0 rfl 194 rfl ?_
    obtain ⟨q22, h21, hf⟩ := Option.bind_eq_some_iff.mp hf
    refine fm_callV C Y_X5_push (t := 0) (by decide) (shM_0 _) rfl LM_X5_144 (As := [.int 0, .int (v 10 x2.toNatClampNeg)]) (rest := []) (c_X5_push  h21) (by omega) (by omega) rfl (Nat.le_of_ble_eq_true rfl) dX5_begins_194 197 rfl [] rfl ?_
    obtain rfl := Option.some.inj hf
    exact fm_vret C hr hk0 dX5_begins_197
  rw [if_neg w20] at hf
  by_cases w23 : v 9 x2.toNatClampNeg = 4
  · rw [if_pos w23] at hf
    refine fm_tableIn C (off := 178) 191 dX5_begins_13 (by rw [w23]; decide) (by rw [w23]; decide) (by rw [w23] <;> rfl) (by decide) ?_
    refine fm_aload_n C dX5_begins_191 rfl 1 rfl 192 rfl ?_
    refine fm_iconst C (x := 0) dX5_begins_192 (by decide) 193 rfl ?_
    refine fm_iload_n C dX5_begins_193 rfl 0 rfl 194 rfl ?_
    obtain ⟨q25, h24, hf⟩ := Option.bind_eq_some_iff.mp hf
    refine fm_callV C Y_X5_push (t := 0) (by decide) (shM_0 _) rfl LM_X5_144 (As := [.int 0, .int (v 10 x2.toNatClampNeg)]) (rest := []) (c_X5_push  h24) (by omega) (by omega) rfl (Nat.le_of_ble_eq_true rfl) dX5_begins_194 197 rfl [] rfl ?_
    obtain rfl := Option.some.inj hf
    exact fm_vret C hr hk0 dX5_begins_197
  rw [if_neg w23] at hf
  by_cases w26 : v 9 x2.toNatClampNeg = 5
  · rw [if_pos w26] at hf
    refine fm_tableIn C (off := 178) 191 dX5_begins_13 (by rw [w26]; decide) (by rw [w26]; decide) (by rw [w26] <;> rfl) (by decide) ?_
    refine fm_aload_n C dX5_begins_191 rfl 1 rfl 192 rfl ?_
    refine fm_iconst C (x := 0) dX5_begins_192 (by decide) 193 rfl ?_
    refine fm_iload_n C dX5_begins_193 rfl 0 rfl 194 rfl ?_
    obtain ⟨q28, h27, hf⟩ := Option.bind_eq_some_iff.mp hf
    refine fm_callV C Y_X5_push (t := 0) (by decide) (shM_0 _) rfl LM_X5_144 (As := [.int 0, .int (v 10 x2.toNatClampNeg)]) (rest := []) (c_X5_push  h27) (by omega) (by omega) rfl (Nat.le_of_ble_eq_true rfl) dX5_begins_194 197 rfl [] rfl ?_
    obtain rfl := Option.some.inj hf
    exact fm_vret C hr hk0 dX5_begins_197
  rw [if_neg w26] at hf
  by_cases w29 : v 9 x2.toNatClampNeg = 6
  · rw [if_pos w29] at hf
    refine fm_tableIn C (off := 73) 86 dX5_begins_13 (by rw [w29]; decide) (by rw [w29]; decide) (by rw [w29] <;> rfl) (by decide) ?_
    refine fm_aload_n C dX5_begins_86 rfl 1 rfl 87 rfl ?_
    refine fm_iconst C (x := 3) dX5_begins_87 (by decide) 88 rfl ?_
    refine fm_iload_n C dX5_begins_88 rfl 0 rfl 89 rfl ?_
    obtain ⟨q31, h30, hf⟩ := Option.bind_eq_some_iff.mp hf
    refine fm_callV C Y_X5_fails (t := 0) (by decide) (shM_0 _) rfl LM_X5_141 (As := [.int 3, .int (v 10 x2.toNatClampNeg)]) (rest := []) (c_X5_fails  h30) (by omega) (by omega) rfl (Nat.le_of_ble_eq_true rfl) dX5_begins_89 92 rfl [] rfl ?_
    refine fm_aload_n C dX5_begins_92 rfl 1 rfl 93 rfl ?_
    refine fm_iload_n C dX5_begins_93 rfl 2 rfl 94 rfl ?_
    refine fm_iload_n C dX5_begins_94 rfl 3 rfl 95 rfl ?_
    obtain ⟨q33, h32, hf⟩ := Option.bind_eq_some_iff.mp hf
    refine fm_callV C Y_X5_ends (t := 0) (by decide) (shM_0 _) rfl LM_X5_170 (As := [.int x1, .int x2]) (rest := []) (c_X5_ends  h32) (by omega) (by omega) rfl (Nat.le_of_ble_eq_true rfl) dX5_begins_95 98 rfl [] rfl ?_
    refine fm_goto C 197 dX5_begins_98 (by decide) ?_
    obtain rfl := Option.some.inj hf
    exact fm_vret C hr hk0 dX5_begins_197
  rw [if_neg w29] at hf
  by_cases w34 : v 9 x2.toNatClampNeg = 7
  · rw [if_pos w34] at hf
    refine fm_tableIn C (off := 178) 191 dX5_begins_13 (by rw [w34]; decide) (by rw [w34]; decide) (by rw [w34] <;> rfl) (by decide) ?_
    refine fm_aload_n C dX5_begins_191 rfl 1 rfl 192 rfl ?_
    refine fm_iconst C (x := 0) dX5_begins_192 (by decide) 193 rfl ?_
    refine fm_iload_n C dX5_begins_193 rfl 0 rfl 194 rfl ?_
    obtain ⟨q36, h35, hf⟩ := Option.bind_eq_some_iff.mp hf
    refine fm_callV C Y_X5_push (t := 0) (by decide) (shM_0 _) rfl LM_X5_144 (As := [.int 0, .int (v 10 x2.toNatClampNeg)]) (rest := []) (c_X5_push  h35) (by omega) (by omega) rfl (Nat.le_of_ble_eq_true rfl) dX5_begins_194 197 rfl [] rfl ?_
    obtain rfl := Option.some.inj hf
    exact fm_vret C hr hk0 dX5_begins_197
  rw [if_neg w34] at hf
  by_cases w37 : v 9 x2.toNatClampNeg = 8
  · rw [if_pos w37] at hf
    refine fm_tableIn C (off := 88) 101 dX5_begins_13 (by rw [w37]; decide) (by rw [w37]; decide) (by rw [w37] <;> rfl) (by decide) ?_
    refine fm_aload_n C dX5_begins_101 rfl 1 rfl 102 rfl ?_
    refine fm_aload_n C dX5_begins_102 rfl 1 rfl 103 rfl ?_
    refine fm_get C (t := 0) (by decide) (shM_0 _) rfl inG_X5 14 (by decide) F_X5_46 rfl dX5_begins_103 106 rfl ?_
    refine fm_bipush C (x := 12) dX5_begins_106 (by decide) 108 rfl ?_
    refine fm_iload_n C dX5_begins_108 rfl 2 rfl 109 rfl ?_
    refine fm_imul C dX5_begins_109 110 rfl ?_
    refine fm_iload_n C dX5_begins_110 rfl 0 rfl 111 rfl ?_
    refine fm_iadd C dX5_begins_111 112 rfl ?_
    by_cases b38 : (12 * x1) + (v 10 x2.toNatClampNeg) < 0 ∨ 60 ≤ ((12 * x1) + (v 10 x2.toNatClampNeg)).toNatClampNeg
    · rw [if_pos b38] at hf; cases hf
    rw [if_neg b38] at hf
    refine fm_iald C (t := 13) (t0 := 0) (by decide) (shM_13 _) rfl b38 dX5_begins_112 113 rfl ?_
    obtain ⟨q40, h39, hf⟩ := Option.bind_eq_some_iff.mp hf
    refine fm_callV C Y_X5_gives (t := 0) (by decide) (shM_0 _) rfl LM_X5_157 (As := [.int (v 13 (((12 * x1) + (v 10 x2.toNatClampNeg)).toNatClampNeg))]) (rest := []) (c_X5_gives  h39) (by omega) (by omega) rfl (Nat.le_of_ble_eq_true rfl) dX5_begins_113 116 rfl [] rfl ?_
    refine fm_aload_n C dX5_begins_116 rfl 1 rfl 117 rfl ?_
    refine fm_iload_n C dX5_begins_117 rfl 2 rfl 118 rfl ?_
    refine fm_iload_n C dX5_begins_118 rfl 3 rfl 119 rfl ?_
    obtain ⟨q42, h41, hf⟩ := Option.bind_eq_some_iff.mp hf
    refine fm_callV C Y_X5_ends (t := 0) (by decide) (shM_0 _) rfl LM_X5_170 (As := [.int x1, .int x2]) (rest := []) (c_X5_ends  h41) (by omega) (by omega) rfl (Nat.le_of_ble_eq_true rfl) dX5_begins_119 122 rfl [] rfl ?_
    refine fm_goto C 197 dX5_begins_122 (by decide) ?_
    obtain rfl := Option.some.inj hf
    exact fm_vret C hr hk0 dX5_begins_197
  rw [if_neg w37] at hf
  by_cases w43 : v 9 x2.toNatClampNeg = 9
  · rw [if_pos w43] at hf
    refine fm_tableIn C (off := 112) 125 dX5_begins_13 (by rw [w43]; decide) (by rw [w43]; decide) (by rw [w43] <;> rfl) (by decide) ?_
    refine fm_iconst C (x := 0) dX5_begins_125 (by decide) 126 rfl ?_
    refine fm_istore C [(4, .int 0), (3, .int (v 10 x2.toNatClampNeg)), (0, .ref (b + 0)), (1, .int x1), (2, .int x2)] dX5_begins_126 (by decide) rfl 128 rfl ?_
    refine fm_iconst C (x := 0) dX5_begins_128 (by decide) 129 rfl ?_
    refine fm_istore C [(5, .int 0), (4, .int 0), (3, .int (v 10 x2.toNatClampNeg)), (0, .ref (b + 0)), (1, .int x1), (2, .int x2)] dX5_begins_129 (by decide) rfl 131 rfl ?_
    refine fm_lv [3, 4, 5, 2, 1, 0] [(0, .ref (b + 0)), (1, .int x1), (2, .int x2), (3, .int (v 10 x2.toNatClampNeg)), (4, .int 0), (5, .int 0)] rfl ?_
    exact b_X5_begins_131  C hr hk0 hF hLo 1000 x1 x2 (v 10 x2.toNatClampNeg) 0 0 v hf
  rw [if_neg w43] at hf
  by_cases w44 : v 9 x2.toNatClampNeg = 10
  · rw [if_pos w44] at hf
    refine fm_tableIn C (off := 169) 182 dX5_begins_13 (by rw [w44]; decide) (by rw [w44]; decide) (by rw [w44] <;> rfl) (by decide) ?_
    refine fm_aload_n C dX5_begins_182 rfl 1 rfl 183 rfl ?_
    refine fm_iconst C (x := 1) dX5_begins_183 (by decide) 184 rfl ?_
    refine fm_iload_n C dX5_begins_184 rfl 0 rfl 185 rfl ?_
    obtain ⟨q46, h45, hf⟩ := Option.bind_eq_some_iff.mp hf
    refine fm_callV C Y_X5_push (t := 0) (by decide) (shM_0 _) rfl LM_X5_144 (As := [.int 1, .int (v 10 x2.toNatClampNeg)]) (rest := []) (c_X5_push  h45) (by omega) (by omega) rfl (Nat.le_of_ble_eq_true rfl) dX5_begins_185 188 rfl [] rfl ?_
    refine fm_goto C 197 dX5_begins_188 (by decide) ?_
    obtain rfl := Option.some.inj hf
    exact fm_vret C hr hk0 dX5_begins_197
  rw [if_neg w44] at hf
  refine fm_tableOut C 191 dX5_begins_13 (by have := lv_neT (a := 0) w9 (by decide); have := lv_neT (a := 1) w14 (by decide); have := lv_neT (a := 2) w17 (by decide); have := lv_neT (a := 3) w20 (by decide); have := lv_neT (a := 4) w23 (by decide); have := lv_neT (a := 5) w26 (by decide); have := lv_neT (a := 6) w29 (by decide); have := lv_neT (a := 7) w34 (by decide); have := lv_neT (a := 8) w37 (by decide); have := lv_neT (a := 9) w43 (by decide); have := lv_neT (a := 10) w44 (by decide); omega) (by decide) ?_
  refine fm_aload_n C dX5_begins_191 rfl 1 rfl 192 rfl ?_
  refine fm_iconst C (x := 0) dX5_begins_192 (by decide) 193 rfl ?_
  refine fm_iload_n C dX5_begins_193 rfl 0 rfl 194 rfl ?_
  obtain ⟨q48, h47, hf⟩ := Option.bind_eq_some_iff.mp hf
  refine fm_callV C Y_X5_push (t := 0) (by decide) (shM_0 _) rfl LM_X5_144 (As := [.int 0, .int (v 10 x2.toNatClampNeg)]) (rest := []) (c_X5_push  h47) (by omega) (by omega) rfl (Nat.le_of_ble_eq_true rfl) dX5_begins_194 197 rfl [] rfl ?_
  obtain rfl := Option.some.inj hf
  exact fm_vret C hr hk0 dX5_begins_197
def f_X5_first (x1 : Int32) (x2 : Int32) (x3 : Int32) (v : fm_T) : Option (Int32 × fm_T) := (if x3 < 0 ∨ 40 ≤ x3.toNatClampNeg then none else (if v 0 34 ≤ 0 then (if v 9 x3.toNatClampNeg = 1 then ((f_X5_gives ((v 0 33) + (v 11 x3.toNatClampNeg)) v).bind fun q5 => ((f_X5_ends x1 x3 q5.2).bind fun q7 => some (0, q7.2))) else (if v 9 x3.toNatClampNeg = 2 then (if x2 < 0 ∨ 200 ≤ x2.toNatClampNeg then none else ((some (fm_u v 25 x2.toNatClampNeg (v 0 33)) : Option fm_T).bind fun m11 => ((some (fm_u m11 24 x2.toNatClampNeg 3) : Option fm_T).bind fun m13 => ((f_X5_push 0 (m13 11 x3.toNatClampNeg) m13).bind fun q15 => some (0, q15.2))))) else (if v 9 x3.toNatClampNeg = 3 then (if x2 < 0 ∨ 200 ≤ x2.toNatClampNeg then none else ((some (fm_u v 25 x2.toNatClampNeg (v 0 33)) : Option fm_T).bind fun m19 => ((some (fm_u m19 24 x2.toNatClampNeg 3) : Option fm_T).bind fun m21 => ((f_X5_push 0 (m21 11 x3.toNatClampNeg) m21).bind fun q23 => some (0, q23.2))))) else (if v 9 x3.toNatClampNeg = 4 then (if v 8 x3.toNatClampNeg < 0 ∨ 12 ≤ (v 8 x3.toNatClampNeg).toNatClampNeg then none else ((f_X5_in (v 0 33) 0 ((v 1 ((v 8 x3.toNatClampNeg).toNatClampNeg)) - 1) v).bind fun q27 => (if q27.1 = 0 then ((f_X5_fails 2 0 q27.2).bind fun q30 => ((f_X5_ends x1 x3 q30.2).bind fun q32 => some (0, q32.2))) else (if ((96 * x1) + (8 * (v 8 x3.toNatClampNeg))) + (q27.2 0 33) < 0 ∨ 480 ≤ (((96 * x1) + (8 * (v 8 x3.toNatClampNeg))) + (q27.2 0 33)).toNatClampNeg then none else ((f_X5_gives (q27.2 14 ((((96 * x1) + (8 * (v 8 x3.toNatClampNeg))) + (q27.2 0 33)).toNatClampNeg)) q27.2).bind fun q35 => ((f_X5_ends x1 x3 q35.2).bind fun q37 => some (0, q37.2))))))) else (if v 9 x3.toNatClampNeg = 5 then ((f_X5_ends x1 x3 v).bind fun q40 => some (0, q40.2)) else (if v 9 x3.toNatClampNeg = 6 then ((f_X5_ends x1 x3 v).bind fun q43 => some (0, q43.2)) else (if v 9 x3.toNatClampNeg = 7 then (if v 0 33 = 0 then (if x2 < 0 ∨ 200 ≤ x2.toNatClampNeg then none else ((some (fm_u v 24 x2.toNatClampNeg 3) : Option fm_T).bind fun m48 => ((f_X5_push 0 (v 12 x3.toNatClampNeg) m48).bind fun q50 => some (0, q50.2)))) else (if x2 < 0 ∨ 200 ≤ x2.toNatClampNeg then none else ((some (fm_u v 24 x2.toNatClampNeg 3) : Option fm_T).bind fun m53 => ((f_X5_push 0 (v 11 x3.toNatClampNeg) m53).bind fun q55 => some (0, q55.2))))) else (if v 9 x3.toNatClampNeg = 8 then ((f_X5_ends x1 x3 v).bind fun q58 => some (0, q58.2)) else (if v 9 x3.toNatClampNeg = 9 then ((f_X5_ends x1 x3 v).bind fun q61 => some (0, q61.2)) else (if v 9 x3.toNatClampNeg = 10 then ((f_X5_gives 1 v).bind fun q64 => ((f_X5_ends x1 x3 q64.2).bind fun q66 => some (0, q66.2))) else (if v 9 x3.toNatClampNeg = 11 then (if v 8 x3.toNatClampNeg < 0 ∨ 12 ≤ (v 8 x3.toNatClampNeg).toNatClampNeg then none else ((f_X5_in (v 11 x3.toNatClampNeg) 0 ((v 1 ((v 8 x3.toNatClampNeg).toNatClampNeg)) - 1) v).bind fun q70 => (if q70.1 = 0 then ((f_X5_fails 2 0 q70.2).bind fun q73 => ((f_X5_ends x1 x3 q73.2).bind fun q75 => some (0, q75.2))) else (if ((96 * x1) + (8 * (v 8 x3.toNatClampNeg))) + (q70.2 11 x3.toNatClampNeg) < 0 ∨ 480 ≤ (((96 * x1) + (8 * (v 8 x3.toNatClampNeg))) + (q70.2 11 x3.toNatClampNeg)).toNatClampNeg then none else ((some (fm_u q70.2 14 ((((96 * x1) + (8 * (v 8 x3.toNatClampNeg))) + (q70.2 11 x3.toNatClampNeg)).toNatClampNeg) (q70.2 0 33)) : Option fm_T).bind fun m78 => ((f_X5_ends x1 x3 m78).bind fun q80 => some (0, q80.2))))))) else ((f_X5_ends x1 x3 v).bind fun q82 => some (0, q82.2))))))))))))) else (if v 9 x3.toNatClampNeg = 5 then ((f_X5_gives (v 11 x3.toNatClampNeg) v).bind fun q87 => ((f_X5_ends x1 x3 q87.2).bind fun q89 => some (0, q89.2))) else ((f_X5_ends x1 x3 v).bind fun q85 => some (0, q85.2)))))
set_option maxHeartbeats 4000000 in
set_option maxRecDepth 20000 in
theorem c_X5_first {x1 : Int32} {x2 : Int32} {x3 : Int32}  {v : fm_T} {q : Int32 × fm_T} (hf : f_X5_first x1 x2 x3 v = some q) : fm_M l D (fm_tys cI cII cLd cOc) tA b 29 (shM cI b) A yX5_first cX5_first 7 none 2 [.ref (b + 0), .int x1, .int x2, .int x3] v none q.2 := by
  refine fm_entry (by decide) (Nat.le_of_ble_eq_true rfl) ?_
  intro p e R s m args below meth c C hr hk0 hF hLo
  unfold f_X5_first at hf
  show fm_V p l e R s m args below meth c D b 29 (shM cI b) A _ 7 0 [(0, .ref (b + 0)), (1, .int x1), (2, .int x2), (3, .int x3)] [] v
  refine fm_aload_n C dX5_first_0 rfl 0 rfl 1 rfl ?_
  refine fm_get C (t := 0) (by decide) (shM_0 _) rfl inG_X5 10 (by decide) F_X5_34 rfl dX5_first_1 4 rfl ?_
  refine fm_iload_n C dX5_first_4 rfl 3 rfl 5 rfl ?_
  by_cases b1 : x3 < 0 ∨ 40 ≤ x3.toNatClampNeg
  · rw [if_pos b1] at hf; cases hf
  rw [if_neg b1] at hf
  refine fm_iald C (t := 9) (t0 := 0) (by decide) (shM_9 _) rfl b1 dX5_first_5 6 rfl ?_
  refine fm_istore C [(4, .int (v 9 x3.toNatClampNeg)), (0, .ref (b + 0)), (1, .int x1), (2, .int x2), (3, .int x3)] dX5_first_6 (by decide) rfl 8 rfl ?_
  refine fm_aload_n C dX5_first_8 rfl 1 rfl 9 rfl ?_
  refine fm_get C (t := 0) (by decide) (shM_0 _) rfl inG_X5 34 (by decide) F_X5_119 rfl dX5_first_9 12 rfl ?_
  refine fm_if_le C 38 dX5_first_12 (by decide) (fun c2 => ?_) 15 rfl (fun c2 => ?_)
  · rw [if_pos c2] at hf
    refine fm_bipush C (x := 96) dX5_first_38 (by decide) 40 rfl ?_
    refine fm_iload_n C dX5_first_40 rfl 2 rfl 41 rfl ?_
    refine fm_imul C dX5_first_41 42 rfl ?_
    refine fm_bipush C (x := 8) dX5_first_42 (by decide) 44 rfl ?_
    refine fm_aload_n C dX5_first_44 rfl 1 rfl 45 rfl ?_
    refine fm_get C (t := 0) (by decide) (shM_0 _) rfl inG_X5 9 (by decide) F_X5_31 rfl dX5_first_45 48 rfl ?_
    refine fm_iload_n C dX5_first_48 rfl 4 rfl 49 rfl ?_
    refine fm_iald C (t := 8) (t0 := 0) (by decide) (shM_8 _) rfl b1 dX5_first_49 50 rfl ?_
    refine fm_imul C dX5_first_50 51 rfl ?_
    refine fm_iadd C dX5_first_51 52 rfl ?_
    refine fm_istore C [(5, .int ((96 * x1) + (8 * (v 8 x3.toNatClampNeg)))), (4, .int (v 9 x3.toNatClampNeg)), (0, .ref (b + 0)), (1, .int x1), (2, .int x2), (3, .int x3)] dX5_first_52 (by decide) rfl 54 rfl ?_
    refine fm_iload C dX5_first_54 1 rfl 56 rfl ?_
    by_cases w3 : v 9 x3.toNatClampNeg = 1
    · rw [if_pos w3] at hf
      refine fm_tableIn C (off := 60) 116 dX5_first_56 (by rw [w3]; decide) (by rw [w3]; decide) (by rw [w3] <;> rfl) (by decide) ?_
      refine fm_aload_n C dX5_first_116 rfl 2 rfl 117 rfl ?_
      refine fm_aload_n C dX5_first_117 rfl 2 rfl 118 rfl ?_
      refine fm_get C (t := 0) (by decide) (shM_0 _) rfl inG_X5 33 (by decide) F_X5_131 rfl dX5_first_118 121 rfl ?_
      refine fm_aload_n C dX5_first_121 rfl 2 rfl 122 rfl ?_
      refine fm_get C (t := 0) (by decide) (shM_0 _) rfl inG_X5 12 (by decide) F_X5_40 rfl dX5_first_122 125 rfl ?_
      refine fm_iload_n C dX5_first_125 rfl 5 rfl 126 rfl ?_
      refine fm_iald C (t := 11) (t0 := 0) (by decide) (shM_11 _) rfl b1 dX5_first_126 127 rfl ?_
      refine fm_iadd C dX5_first_127 128 rfl ?_
      obtain ⟨q5, h4, hf⟩ := Option.bind_eq_some_iff.mp hf
      refine fm_callV C Y_X5_gives (t := 0) (by decide) (shM_0 _) rfl LM_X5_157 (As := [.int ((v 0 33) + (v 11 x3.toNatClampNeg))]) (rest := []) (c_X5_gives  h4) (by omega) (by omega) rfl (Nat.le_of_ble_eq_true rfl) dX5_first_128 131 rfl [] rfl ?_
      refine fm_aload_n C dX5_first_131 rfl 2 rfl 132 rfl ?_
      refine fm_iload_n C dX5_first_132 rfl 3 rfl 133 rfl ?_
      refine fm_iload_n C dX5_first_133 rfl 5 rfl 134 rfl ?_
      obtain ⟨q7, h6, hf⟩ := Option.bind_eq_some_iff.mp hf
      refine fm_callV C Y_X5_ends (t := 0) (by decide) (shM_0 _) rfl LM_X5_170 (As := [.int x1, .int x3]) (rest := []) (c_X5_ends  h6) (by omega) (by omega) rfl (Nat.le_of_ble_eq_true rfl) dX5_first_134 137 rfl [] rfl ?_
      refine fm_goto C 352 dX5_first_137 (by decide) ?_
      obtain rfl := Option.some.inj hf
      exact fm_vret C hr hk0 dX5_first_352
    rw [if_neg w3] at hf
    by_cases w8 : v 9 x3.toNatClampNeg = 2
    · rw [if_pos w8] at hf
      refine fm_tableIn C (off := 84) 140 dX5_first_56 (by rw [w8]; decide) (by rw [w8]; decide) (by rw [w8] <;> rfl) (by decide) ?_
      refine fm_aload_n C dX5_first_140 rfl 2 rfl 141 rfl ?_
      refine fm_get C (t := 0) (by decide) (shM_0 _) rfl inG_X5 31 (by decide) F_X5_82 rfl dX5_first_141 144 rfl ?_
      refine fm_iload_n C dX5_first_144 rfl 4 rfl 145 rfl ?_
      refine fm_aload_n C dX5_first_145 rfl 2 rfl 146 rfl ?_
      refine fm_get C (t := 0) (by decide) (shM_0 _) rfl inG_X5 33 (by decide) F_X5_131 rfl dX5_first_146 149 rfl ?_
      by_cases b9 : x2 < 0 ∨ 200 ≤ x2.toNatClampNeg
      · rw [if_pos b9] at hf; cases hf
      rw [if_neg b9] at hf
      obtain ⟨m11, e10, hf⟩ := Option.bind_eq_some_iff.mp hf
      refine fm_iast C (t := 25) (t0 := 0) (by decide) shM_25 rfl b9 dX5_first_149 150 rfl m11 (Option.some.inj e10) ?_
      refine fm_aload_n C dX5_first_150 rfl 2 rfl 151 rfl ?_
      refine fm_get C (t := 0) (by decide) (shM_0 _) rfl inG_X5 30 (by decide) F_X5_79 rfl dX5_first_151 154 rfl ?_
      refine fm_iload_n C dX5_first_154 rfl 4 rfl 155 rfl ?_
      refine fm_iconst C (x := 3) dX5_first_155 (by decide) 156 rfl ?_
      obtain ⟨m13, e12, hf⟩ := Option.bind_eq_some_iff.mp hf
      refine fm_iast C (t := 24) (t0 := 0) (by decide) shM_24 rfl b9 dX5_first_156 157 rfl m13 (Option.some.inj e12) ?_
      refine fm_aload_n C dX5_first_157 rfl 2 rfl 158 rfl ?_
      refine fm_iconst C (x := 0) dX5_first_158 (by decide) 159 rfl ?_
      refine fm_aload_n C dX5_first_159 rfl 2 rfl 160 rfl ?_
      refine fm_get C (t := 0) (by decide) (shM_0 _) rfl inG_X5 12 (by decide) F_X5_40 rfl dX5_first_160 163 rfl ?_
      refine fm_iload_n C dX5_first_163 rfl 5 rfl 164 rfl ?_
      refine fm_iald C (t := 11) (t0 := 0) (by decide) (shM_11 _) rfl b1 dX5_first_164 165 rfl ?_
      obtain ⟨q15, h14, hf⟩ := Option.bind_eq_some_iff.mp hf
      refine fm_callV C Y_X5_push (t := 0) (by decide) (shM_0 _) rfl LM_X5_144 (As := [.int 0, .int (m13 11 x3.toNatClampNeg)]) (rest := []) (c_X5_push  h14) (by omega) (by omega) rfl (Nat.le_of_ble_eq_true rfl) dX5_first_165 168 rfl [] rfl ?_
      refine fm_goto C 352 dX5_first_168 (by decide) ?_
      obtain rfl := Option.some.inj hf
      exact fm_vret C hr hk0 dX5_first_352
    rw [if_neg w8] at hf
    by_cases w16 : v 9 x3.toNatClampNeg = 3
    · rw [if_pos w16] at hf
      refine fm_tableIn C (off := 84) 140 dX5_first_56 (by rw [w16]; decide) (by rw [w16]; decide) (by rw [w16] <;> rfl) (by decide) ?_
      refine fm_aload_n C dX5_first_140 rfl 2 rfl 141 rfl ?_
      refine fm_get C (t := 0) (by decide) (shM_0 _) rfl inG_X5 31 (by decide) F_X5_82 rfl dX5_first_141 144 rfl ?_
      refine fm_iload_n C dX5_first_144 rfl 4 rfl 145 rfl ?_
      refine fm_aload_n C dX5_first_145 rfl 2 rfl 146 rfl ?_
      refine fm_get C (t := 0) (by decide) (shM_0 _) rfl inG_X5 33 (by decide) F_X5_131 rfl dX5_first_146 149 rfl ?_
      by_cases b17 : x2 < 0 ∨ 200 ≤ x2.toNatClampNeg
      · rw [if_pos b17] at hf; cases hf
      rw [if_neg b17] at hf
      obtain ⟨m19, e18, hf⟩ := Option.bind_eq_some_iff.mp hf
      refine fm_iast C (t := 25) (t0 := 0) (by decide) shM_25 rfl b17 dX5_first_149 150 rfl m19 (Option.some.inj e18) ?_
      refine fm_aload_n C dX5_first_150 rfl 2 rfl 151 rfl ?_
      refine fm_get C (t := 0) (by decide) (shM_0 _) rfl inG_X5 30 (by decide) F_X5_79 rfl dX5_first_151 154 rfl ?_
      refine fm_iload_n C dX5_first_154 rfl 4 rfl 155 rfl ?_
      refine fm_iconst C (x := 3) dX5_first_155 (by decide) 156 rfl ?_
      obtain ⟨m21, e20, hf⟩ := Option.bind_eq_some_iff.mp hf
      refine fm_iast C (t := 24) (t0 := 0) (by decide) shM_24 rfl b17 dX5_first_156 157 rfl m21 (Option.some.inj e20) ?_
      refine fm_aload_n C dX5_first_157 rfl 2 rfl 158 rfl ?_
      refine fm_iconst C (x := 0) dX5_first_158 (by decide) 159 rfl ?_
      refine fm_aload_n C dX5_first_159 rfl 2 rfl 160 rfl ?_
      refine fm_get C (t := 0) (by decide) (shM_0 _) rfl inG_X5 12 (by decide) F_X5_40 rfl dX5_first_160 163 rfl ?_
      refine fm_iload_n C dX5_first_163 rfl 5 rfl 164 rfl ?_
      refine fm_iald C (t := 11) (t0 := 0) (by decide) (shM_11 _) rfl b1 dX5_first_164 165 rfl ?_
      obtain ⟨q23, h22, hf⟩ := Option.bind_eq_some_iff.mp hf
      refine fm_callV C Y_X5_push (t := 0) (by decide) (shM_0 _) rfl LM_X5_144 (As := [.int 0, .int (m21 11 x3.toNatClampNeg)]) (rest := []) (c_X5_push  h22) (by omega) (by omega) rfl (Nat.le_of_ble_eq_true rfl) dX5_first_165 168 rfl [] rfl ?_
      refine fm_goto C 352 dX5_first_168 (by decide) ?_
      obtain rfl := Option.some.inj hf
      exact fm_vret C hr hk0 dX5_first_352
    rw [if_neg w16] at hf
    by_cases w24 : v 9 x3.toNatClampNeg = 4
    · rw [if_pos w24] at hf
      refine fm_tableIn C (off := 115) 171 dX5_first_56 (by rw [w24]; decide) (by rw [w24]; decide) (by rw [w24] <;> rfl) (by decide) ?_
      refine fm_aload_n C dX5_first_171 rfl 2 rfl 172 rfl ?_
      refine fm_get C (t := 0) (by decide) (shM_0 _) rfl inG_X5 33 (by decide) F_X5_131 rfl dX5_first_172 175 rfl ?_
      refine fm_iconst C (x := 0) dX5_first_175 (by decide) 176 rfl ?_
      refine fm_aload_n C dX5_first_176 rfl 2 rfl 177 rfl ?_
      refine fm_get C (t := 0) (by decide) (shM_0 _) rfl inG_X5 1 (by decide) F_X5_7 rfl dX5_first_177 180 rfl ?_
      refine fm_aload_n C dX5_first_180 rfl 2 rfl 181 rfl ?_
      refine fm_get C (t := 0) (by decide) (shM_0 _) rfl inG_X5 9 (by decide) F_X5_31 rfl dX5_first_181 184 rfl ?_
      refine fm_iload_n C dX5_first_184 rfl 5 rfl 185 rfl ?_
      refine fm_iald C (t := 8) (t0 := 0) (by decide) (shM_8 _) rfl b1 dX5_first_185 186 rfl ?_
      by_cases b25 : v 8 x3.toNatClampNeg < 0 ∨ 12 ≤ (v 8 x3.toNatClampNeg).toNatClampNeg
      · rw [if_pos b25] at hf; cases hf
      rw [if_neg b25] at hf
      refine fm_iald C (t := 1) (t0 := 0) (by decide) (shM_1 _) rfl b25 dX5_first_186 187 rfl ?_
      refine fm_iconst C (x := 1) dX5_first_187 (by decide) 188 rfl ?_
      refine fm_isub C dX5_first_188 189 rfl ?_
      obtain ⟨q27, h26, hf⟩ := Option.bind_eq_some_iff.mp hf
      refine fm_callS C Y_X5_in LS_X5_98 (As := [.int (v 0 33), .int 0, .int ((v 1 ((v 8 x3.toNatClampNeg).toNatClampNeg)) - 1)]) (rest := []) (c_X5_in  h26) (by omega) (by omega) rfl (Nat.le_of_ble_eq_true rfl) dX5_first_189 192 rfl [.int q27.1] rfl ?_
      refine fm_if_eq C 214 dX5_first_192 (by decide) (fun c28 => ?_) 195 rfl (fun c28 => ?_)
      · rw [if_pos c28] at hf
        refine fm_aload_n C dX5_first_214 rfl 2 rfl 215 rfl ?_
        refine fm_iconst C (x := 2) dX5_first_215 (by decide) 216 rfl ?_
        refine fm_iconst C (x := 0) dX5_first_216 (by decide) 217 rfl ?_
        obtain ⟨q30, h29, hf⟩ := Option.bind_eq_some_iff.mp hf
        refine fm_callV C Y_X5_fails (t := 0) (by decide) (shM_0 _) rfl LM_X5_141 (As := [.int 2, .int 0]) (rest := []) (c_X5_fails  h29) (by omega) (by omega) rfl (Nat.le_of_ble_eq_true rfl) dX5_first_217 220 rfl [] rfl ?_
        refine fm_aload_n C dX5_first_220 rfl 2 rfl 221 rfl ?_
        refine fm_iload_n C dX5_first_221 rfl 3 rfl 222 rfl ?_
        refine fm_iload_n C dX5_first_222 rfl 5 rfl 223 rfl ?_
        obtain ⟨q32, h31, hf⟩ := Option.bind_eq_some_iff.mp hf
        refine fm_callV C Y_X5_ends (t := 0) (by decide) (shM_0 _) rfl LM_X5_170 (As := [.int x1, .int x3]) (rest := []) (c_X5_ends  h31) (by omega) (by omega) rfl (Nat.le_of_ble_eq_true rfl) dX5_first_223 226 rfl [] rfl ?_
        refine fm_goto C 352 dX5_first_226 (by decide) ?_
        obtain rfl := Option.some.inj hf
        exact fm_vret C hr hk0 dX5_first_352
      · rw [if_neg c28] at hf
        refine fm_aload_n C dX5_first_195 rfl 2 rfl 196 rfl ?_
        refine fm_aload_n C dX5_first_196 rfl 2 rfl 197 rfl ?_
        refine fm_get C (t := 0) (by decide) (shM_0 _) rfl inG_X5 15 (by decide) F_X5_49 rfl dX5_first_197 200 rfl ?_
        refine fm_iload C dX5_first_200 0 rfl 202 rfl ?_
        refine fm_aload_n C dX5_first_202 rfl 2 rfl 203 rfl ?_
        refine fm_get C (t := 0) (by decide) (shM_0 _) rfl inG_X5 33 (by decide) F_X5_131 rfl dX5_first_203 206 rfl ?_
        refine fm_iadd C dX5_first_206 207 rfl ?_
        by_cases b33 : ((96 * x1) + (8 * (v 8 x3.toNatClampNeg))) + (q27.2 0 33) < 0 ∨ 480 ≤ (((96 * x1) + (8 * (v 8 x3.toNatClampNeg))) + (q27.2 0 33)).toNatClampNeg
        · rw [if_pos b33] at hf; cases hf
        rw [if_neg b33] at hf
        refine fm_iald C (t := 14) (t0 := 0) (by decide) (shM_14 _) rfl b33 dX5_first_207 208 rfl ?_
        obtain ⟨q35, h34, hf⟩ := Option.bind_eq_some_iff.mp hf
        refine fm_callV C Y_X5_gives (t := 0) (by decide) (shM_0 _) rfl LM_X5_157 (As := [.int (q27.2 14 ((((96 * x1) + (8 * (v 8 x3.toNatClampNeg))) + (q27.2 0 33)).toNatClampNeg))]) (rest := []) (c_X5_gives  h34) (by omega) (by omega) rfl (Nat.le_of_ble_eq_true rfl) dX5_first_208 211 rfl [] rfl ?_
        refine fm_goto C 220 dX5_first_211 (by decide) ?_
        refine fm_aload_n C dX5_first_220 rfl 2 rfl 221 rfl ?_
        refine fm_iload_n C dX5_first_221 rfl 3 rfl 222 rfl ?_
        refine fm_iload_n C dX5_first_222 rfl 5 rfl 223 rfl ?_
        obtain ⟨q37, h36, hf⟩ := Option.bind_eq_some_iff.mp hf
        refine fm_callV C Y_X5_ends (t := 0) (by decide) (shM_0 _) rfl LM_X5_170 (As := [.int x1, .int x3]) (rest := []) (c_X5_ends  h36) (by omega) (by omega) rfl (Nat.le_of_ble_eq_true rfl) dX5_first_223 226 rfl [] rfl ?_
        refine fm_goto C 352 dX5_first_226 (by decide) ?_
        obtain rfl := Option.some.inj hf
        exact fm_vret C hr hk0 dX5_first_352
    rw [if_neg w24] at hf
    by_cases w38 : v 9 x3.toNatClampNeg = 5
    · rw [if_pos w38] at hf
      refine fm_tableIn C (off := 290) 346 dX5_first_56 (by rw [w38]; decide) (by rw [w38]; decide) (by rw [w38] <;> rfl) (by decide) ?_
      refine fm_aload_n C dX5_first_346 rfl 2 rfl 347 rfl ?_
      refine fm_iload_n C dX5_first_347 rfl 3 rfl 348 rfl ?_
      refine fm_iload_n C dX5_first_348 rfl 5 rfl 349 rfl ?_
      obtain ⟨q40, h39, hf⟩ := Option.bind_eq_some_iff.mp hf
      refine fm_callV C Y_X5_ends (t := 0) (by decide) (shM_0 _) rfl LM_X5_170 (As := [.int x1, .int x3]) (rest := []) (c_X5_ends  h39) (by omega) (by omega) rfl (Nat.le_of_ble_eq_true rfl) dX5_first_349 352 rfl [] rfl ?_
      obtain rfl := Option.some.inj hf
      exact fm_vret C hr hk0 dX5_first_352
    rw [if_neg w38] at hf
    by_cases w41 : v 9 x3.toNatClampNeg = 6
    · rw [if_pos w41] at hf
      refine fm_tableIn C (off := 290) 346 dX5_first_56 (by rw [w41]; decide) (by rw [w41]; decide) (by rw [w41] <;> rfl) (by decide) ?_
      refine fm_aload_n C dX5_first_346 rfl 2 rfl 347 rfl ?_
      refine fm_iload_n C dX5_first_347 rfl 3 rfl 348 rfl ?_
      refine fm_iload_n C dX5_first_348 rfl 5 rfl 349 rfl ?_
      obtain ⟨q43, h42, hf⟩ := Option.bind_eq_some_iff.mp hf
      refine fm_callV C Y_X5_ends (t := 0) (by decide) (shM_0 _) rfl LM_X5_170 (As := [.int x1, .int x3]) (rest := []) (c_X5_ends  h42) (by omega) (by omega) rfl (Nat.le_of_ble_eq_true rfl) dX5_first_349 352 rfl [] rfl ?_
      obtain rfl := Option.some.inj hf
      exact fm_vret C hr hk0 dX5_first_352
    rw [if_neg w41] at hf
    by_cases w44 : v 9 x3.toNatClampNeg = 7
    · rw [if_pos w44] at hf
      refine fm_tableIn C (off := 173) 229 dX5_first_56 (by rw [w44]; decide) (by rw [w44]; decide) (by rw [w44] <;> rfl) (by decide) ?_
      refine fm_aload_n C dX5_first_229 rfl 2 rfl 230 rfl ?_
      refine fm_get C (t := 0) (by decide) (shM_0 _) rfl inG_X5 33 (by decide) F_X5_131 rfl dX5_first_230 233 rfl ?_
      refine fm_if_eq C 245 dX5_first_233 (by decide) (fun c45 => ?_) 236 rfl (fun c45 => ?_)
      · rw [if_pos c45] at hf
        refine fm_aload_n C dX5_first_245 rfl 2 rfl 246 rfl ?_
        refine fm_get C (t := 0) (by decide) (shM_0 _) rfl inG_X5 13 (by decide) F_X5_43 rfl dX5_first_246 249 rfl ?_
        refine fm_iload_n C dX5_first_249 rfl 5 rfl 250 rfl ?_
        refine fm_iald C (t := 12) (t0 := 0) (by decide) (shM_12 _) rfl b1 dX5_first_250 251 rfl ?_
        refine fm_istore C [(6, .int (v 12 x3.toNatClampNeg)), (5, .int ((96 * x1) + (8 * (v 8 x3.toNatClampNeg)))), (4, .int (v 9 x3.toNatClampNeg)), (0, .ref (b + 0)), (1, .int x1), (2, .int x2), (3, .int x3)] dX5_first_251 (by decide) rfl 253 rfl ?_
        refine fm_aload_n C dX5_first_253 rfl 3 rfl 254 rfl ?_
        refine fm_get C (t := 0) (by decide) (shM_0 _) rfl inG_X5 30 (by decide) F_X5_79 rfl dX5_first_254 257 rfl ?_
        refine fm_iload_n C dX5_first_257 rfl 5 rfl 258 rfl ?_
        refine fm_iconst C (x := 3) dX5_first_258 (by decide) 259 rfl ?_
        by_cases b46 : x2 < 0 ∨ 200 ≤ x2.toNatClampNeg
        · rw [if_pos b46] at hf; cases hf
        rw [if_neg b46] at hf
        obtain ⟨m48, e47, hf⟩ := Option.bind_eq_some_iff.mp hf
        refine fm_iast C (t := 24) (t0 := 0) (by decide) shM_24 rfl b46 dX5_first_259 260 rfl m48 (Option.some.inj e47) ?_
        refine fm_aload_n C dX5_first_260 rfl 3 rfl 261 rfl ?_
        refine fm_iconst C (x := 0) dX5_first_261 (by decide) 262 rfl ?_
        refine fm_iload C dX5_first_262 0 rfl 264 rfl ?_
        obtain ⟨q50, h49, hf⟩ := Option.bind_eq_some_iff.mp hf
        refine fm_callV C Y_X5_push (t := 0) (by decide) (shM_0 _) rfl LM_X5_144 (As := [.int 0, .int (v 12 x3.toNatClampNeg)]) (rest := []) (c_X5_push  h49) (by omega) (by omega) rfl (Nat.le_of_ble_eq_true rfl) dX5_first_264 267 rfl [] rfl ?_
        refine fm_goto C 352 dX5_first_267 (by decide) ?_
        obtain rfl := Option.some.inj hf
        exact fm_vret C hr hk0 dX5_first_352
      · rw [if_neg c45] at hf
        refine fm_aload_n C dX5_first_236 rfl 2 rfl 237 rfl ?_
        refine fm_get C (t := 0) (by decide) (shM_0 _) rfl inG_X5 12 (by decide) F_X5_40 rfl dX5_first_237 240 rfl ?_
        refine fm_iload_n C dX5_first_240 rfl 5 rfl 241 rfl ?_
        refine fm_iald C (t := 11) (t0 := 0) (by decide) (shM_11 _) rfl b1 dX5_first_241 242 rfl ?_
        refine fm_goto C 251 dX5_first_242 (by decide) ?_
        refine fm_istore C [(6, .int (v 11 x3.toNatClampNeg)), (5, .int ((96 * x1) + (8 * (v 8 x3.toNatClampNeg)))), (4, .int (v 9 x3.toNatClampNeg)), (0, .ref (b + 0)), (1, .int x1), (2, .int x2), (3, .int x3)] dX5_first_251 (by decide) rfl 253 rfl ?_
        refine fm_aload_n C dX5_first_253 rfl 3 rfl 254 rfl ?_
        refine fm_get C (t := 0) (by decide) (shM_0 _) rfl inG_X5 30 (by decide) F_X5_79 rfl dX5_first_254 257 rfl ?_
        refine fm_iload_n C dX5_first_257 rfl 5 rfl 258 rfl ?_
        refine fm_iconst C (x := 3) dX5_first_258 (by decide) 259 rfl ?_
        by_cases b51 : x2 < 0 ∨ 200 ≤ x2.toNatClampNeg
        · rw [if_pos b51] at hf; cases hf
        rw [if_neg b51] at hf
        obtain ⟨m53, e52, hf⟩ := Option.bind_eq_some_iff.mp hf
        refine fm_iast C (t := 24) (t0 := 0) (by decide) shM_24 rfl b51 dX5_first_259 260 rfl m53 (Option.some.inj e52) ?_
        refine fm_aload_n C dX5_first_260 rfl 3 rfl 261 rfl ?_
        refine fm_iconst C (x := 0) dX5_first_261 (by decide) 262 rfl ?_
        refine fm_iload C dX5_first_262 0 rfl 264 rfl ?_
        obtain ⟨q55, h54, hf⟩ := Option.bind_eq_some_iff.mp hf
        refine fm_callV C Y_X5_push (t := 0) (by decide) (shM_0 _) rfl LM_X5_144 (As := [.int 0, .int (v 11 x3.toNatClampNeg)]) (rest := []) (c_X5_push  h54) (by omega) (by omega) rfl (Nat.le_of_ble_eq_true rfl) dX5_first_264 267 rfl [] rfl ?_
        refine fm_goto C 352 dX5_first_267 (by decide) ?_
        obtain rfl := Option.some.inj hf
        exact fm_vret C hr hk0 dX5_first_352
    rw [if_neg w44] at hf
    by_cases w56 : v 9 x3.toNatClampNeg = 8
    · rw [if_pos w56] at hf
      refine fm_tableIn C (off := 290) 346 dX5_first_56 (by rw [w56]; decide) (by rw [w56]; decide) (by rw [w56] <;> rfl) (by decide) ?_
      refine fm_aload_n C dX5_first_346 rfl 2 rfl 347 rfl ?_
      refine fm_iload_n C dX5_first_347 rfl 3 rfl 348 rfl ?_
      refine fm_iload_n C dX5_first_348 rfl 5 rfl 349 rfl ?_
      obtain ⟨q58, h57, hf⟩ := Option.bind_eq_some_iff.mp hf
      refine fm_callV C Y_X5_ends (t := 0) (by decide) (shM_0 _) rfl LM_X5_170 (As := [.int x1, .int x3]) (rest := []) (c_X5_ends  h57) (by omega) (by omega) rfl (Nat.le_of_ble_eq_true rfl) dX5_first_349 352 rfl [] rfl ?_
      obtain rfl := Option.some.inj hf
      exact fm_vret C hr hk0 dX5_first_352
    rw [if_neg w56] at hf
    by_cases w59 : v 9 x3.toNatClampNeg = 9
    · rw [if_pos w59] at hf
      refine fm_tableIn C (off := 290) 346 dX5_first_56 (by rw [w59]; decide) (by rw [w59]; decide) (by rw [w59] <;> rfl) (by decide) ?_
      refine fm_aload_n C dX5_first_346 rfl 2 rfl 347 rfl ?_
      refine fm_iload_n C dX5_first_347 rfl 3 rfl 348 rfl ?_
      refine fm_iload_n C dX5_first_348 rfl 5 rfl 349 rfl ?_
      obtain ⟨q61, h60, hf⟩ := Option.bind_eq_some_iff.mp hf
      refine fm_callV C Y_X5_ends (t := 0) (by decide) (shM_0 _) rfl LM_X5_170 (As := [.int x1, .int x3]) (rest := []) (c_X5_ends  h60) (by omega) (by omega) rfl (Nat.le_of_ble_eq_true rfl) dX5_first_349 352 rfl [] rfl ?_
      obtain rfl := Option.some.inj hf
      exact fm_vret C hr hk0 dX5_first_352
    rw [if_neg w59] at hf
    by_cases w62 : v 9 x3.toNatClampNeg = 10
    · rw [if_pos w62] at hf
      refine fm_tableIn C (off := 214) 270 dX5_first_56 (by rw [w62]; decide) (by rw [w62]; decide) (by rw [w62] <;> rfl) (by decide) ?_
      refine fm_aload_n C dX5_first_270 rfl 2 rfl 271 rfl ?_
      refine fm_iconst C (x := 1) dX5_first_271 (by decide) 272 rfl ?_
      obtain ⟨q64, h63, hf⟩ := Option.bind_eq_some_iff.mp hf
      refine fm_callV C Y_X5_gives (t := 0) (by decide) (shM_0 _) rfl LM_X5_157 (As := [.int 1]) (rest := []) (c_X5_gives  h63) (by omega) (by omega) rfl (Nat.le_of_ble_eq_true rfl) dX5_first_272 275 rfl [] rfl ?_
      refine fm_aload_n C dX5_first_275 rfl 2 rfl 276 rfl ?_
      refine fm_iload_n C dX5_first_276 rfl 3 rfl 277 rfl ?_
      refine fm_iload_n C dX5_first_277 rfl 5 rfl 278 rfl ?_
      obtain ⟨q66, h65, hf⟩ := Option.bind_eq_some_iff.mp hf
      refine fm_callV C Y_X5_ends (t := 0) (by decide) (shM_0 _) rfl LM_X5_170 (As := [.int x1, .int x3]) (rest := []) (c_X5_ends  h65) (by omega) (by omega) rfl (Nat.le_of_ble_eq_true rfl) dX5_first_278 281 rfl [] rfl ?_
      refine fm_goto C 352 dX5_first_281 (by decide) ?_
      obtain rfl := Option.some.inj hf
      exact fm_vret C hr hk0 dX5_first_352
    rw [if_neg w62] at hf
    by_cases w67 : v 9 x3.toNatClampNeg = 11
    · rw [if_pos w67] at hf
      refine fm_tableIn C (off := 228) 284 dX5_first_56 (by rw [w67]; decide) (by rw [w67]; decide) (by rw [w67] <;> rfl) (by decide) ?_
      refine fm_aload_n C dX5_first_284 rfl 2 rfl 285 rfl ?_
      refine fm_get C (t := 0) (by decide) (shM_0 _) rfl inG_X5 12 (by decide) F_X5_40 rfl dX5_first_285 288 rfl ?_
      refine fm_iload_n C dX5_first_288 rfl 5 rfl 289 rfl ?_
      refine fm_iald C (t := 11) (t0 := 0) (by decide) (shM_11 _) rfl b1 dX5_first_289 290 rfl ?_
      refine fm_iconst C (x := 0) dX5_first_290 (by decide) 291 rfl ?_
      refine fm_aload_n C dX5_first_291 rfl 2 rfl 292 rfl ?_
      refine fm_get C (t := 0) (by decide) (shM_0 _) rfl inG_X5 1 (by decide) F_X5_7 rfl dX5_first_292 295 rfl ?_
      refine fm_aload_n C dX5_first_295 rfl 2 rfl 296 rfl ?_
      refine fm_get C (t := 0) (by decide) (shM_0 _) rfl inG_X5 9 (by decide) F_X5_31 rfl dX5_first_296 299 rfl ?_
      refine fm_iload_n C dX5_first_299 rfl 5 rfl 300 rfl ?_
      refine fm_iald C (t := 8) (t0 := 0) (by decide) (shM_8 _) rfl b1 dX5_first_300 301 rfl ?_
      by_cases b68 : v 8 x3.toNatClampNeg < 0 ∨ 12 ≤ (v 8 x3.toNatClampNeg).toNatClampNeg
      · rw [if_pos b68] at hf; cases hf
      rw [if_neg b68] at hf
      refine fm_iald C (t := 1) (t0 := 0) (by decide) (shM_1 _) rfl b68 dX5_first_301 302 rfl ?_
      refine fm_iconst C (x := 1) dX5_first_302 (by decide) 303 rfl ?_
      refine fm_isub C dX5_first_303 304 rfl ?_
      obtain ⟨q70, h69, hf⟩ := Option.bind_eq_some_iff.mp hf
      refine fm_callS C Y_X5_in LS_X5_98 (As := [.int (v 11 x3.toNatClampNeg), .int 0, .int ((v 1 ((v 8 x3.toNatClampNeg).toNatClampNeg)) - 1)]) (rest := []) (c_X5_in  h69) (by omega) (by omega) rfl (Nat.le_of_ble_eq_true rfl) dX5_first_304 307 rfl [.int q70.1] rfl ?_
      refine fm_if_eq C 331 dX5_first_307 (by decide) (fun c71 => ?_) 310 rfl (fun c71 => ?_)
      · rw [if_pos c71] at hf
        refine fm_aload_n C dX5_first_331 rfl 2 rfl 332 rfl ?_
        refine fm_iconst C (x := 2) dX5_first_332 (by decide) 333 rfl ?_
        refine fm_iconst C (x := 0) dX5_first_333 (by decide) 334 rfl ?_
        obtain ⟨q73, h72, hf⟩ := Option.bind_eq_some_iff.mp hf
        refine fm_callV C Y_X5_fails (t := 0) (by decide) (shM_0 _) rfl LM_X5_141 (As := [.int 2, .int 0]) (rest := []) (c_X5_fails  h72) (by omega) (by omega) rfl (Nat.le_of_ble_eq_true rfl) dX5_first_334 337 rfl [] rfl ?_
        refine fm_aload_n C dX5_first_337 rfl 2 rfl 338 rfl ?_
        refine fm_iload_n C dX5_first_338 rfl 3 rfl 339 rfl ?_
        refine fm_iload_n C dX5_first_339 rfl 5 rfl 340 rfl ?_
        obtain ⟨q75, h74, hf⟩ := Option.bind_eq_some_iff.mp hf
        refine fm_callV C Y_X5_ends (t := 0) (by decide) (shM_0 _) rfl LM_X5_170 (As := [.int x1, .int x3]) (rest := []) (c_X5_ends  h74) (by omega) (by omega) rfl (Nat.le_of_ble_eq_true rfl) dX5_first_340 343 rfl [] rfl ?_
        refine fm_goto C 352 dX5_first_343 (by decide) ?_
        obtain rfl := Option.some.inj hf
        exact fm_vret C hr hk0 dX5_first_352
      · rw [if_neg c71] at hf
        refine fm_aload_n C dX5_first_310 rfl 2 rfl 311 rfl ?_
        refine fm_get C (t := 0) (by decide) (shM_0 _) rfl inG_X5 15 (by decide) F_X5_49 rfl dX5_first_311 314 rfl ?_
        refine fm_iload C dX5_first_314 0 rfl 316 rfl ?_
        refine fm_aload_n C dX5_first_316 rfl 2 rfl 317 rfl ?_
        refine fm_get C (t := 0) (by decide) (shM_0 _) rfl inG_X5 12 (by decide) F_X5_40 rfl dX5_first_317 320 rfl ?_
        refine fm_iload_n C dX5_first_320 rfl 5 rfl 321 rfl ?_
        refine fm_iald C (t := 11) (t0 := 0) (by decide) (shM_11 _) rfl b1 dX5_first_321 322 rfl ?_
        refine fm_iadd C dX5_first_322 323 rfl ?_
        refine fm_aload_n C dX5_first_323 rfl 2 rfl 324 rfl ?_
        refine fm_get C (t := 0) (by decide) (shM_0 _) rfl inG_X5 33 (by decide) F_X5_131 rfl dX5_first_324 327 rfl ?_
        by_cases b76 : ((96 * x1) + (8 * (v 8 x3.toNatClampNeg))) + (q70.2 11 x3.toNatClampNeg) < 0 ∨ 480 ≤ (((96 * x1) + (8 * (v 8 x3.toNatClampNeg))) + (q70.2 11 x3.toNatClampNeg)).toNatClampNeg
        · rw [if_pos b76] at hf; cases hf
        rw [if_neg b76] at hf
        obtain ⟨m78, e77, hf⟩ := Option.bind_eq_some_iff.mp hf
        refine fm_iast C (t := 14) (t0 := 0) (by decide) shM_14 rfl b76 dX5_first_327 328 rfl m78 (Option.some.inj e77) ?_
        refine fm_goto C 337 dX5_first_328 (by decide) ?_
        refine fm_aload_n C dX5_first_337 rfl 2 rfl 338 rfl ?_
        refine fm_iload_n C dX5_first_338 rfl 3 rfl 339 rfl ?_
        refine fm_iload_n C dX5_first_339 rfl 5 rfl 340 rfl ?_
        obtain ⟨q80, h79, hf⟩ := Option.bind_eq_some_iff.mp hf
        refine fm_callV C Y_X5_ends (t := 0) (by decide) (shM_0 _) rfl LM_X5_170 (As := [.int x1, .int x3]) (rest := []) (c_X5_ends  h79) (by omega) (by omega) rfl (Nat.le_of_ble_eq_true rfl) dX5_first_340 343 rfl [] rfl ?_
        refine fm_goto C 352 dX5_first_343 (by decide) ?_
        obtain rfl := Option.some.inj hf
        exact fm_vret C hr hk0 dX5_first_352
    rw [if_neg w67] at hf
    refine fm_tableOut C 346 dX5_first_56 (by have := lv_neT (a := 1) w3 (by decide); have := lv_neT (a := 2) w8 (by decide); have := lv_neT (a := 3) w16 (by decide); have := lv_neT (a := 4) w24 (by decide); have := lv_neT (a := 5) w38 (by decide); have := lv_neT (a := 6) w41 (by decide); have := lv_neT (a := 7) w44 (by decide); have := lv_neT (a := 8) w56 (by decide); have := lv_neT (a := 9) w59 (by decide); have := lv_neT (a := 10) w62 (by decide); have := lv_neT (a := 11) w67 (by decide); omega) (by decide) ?_
    refine fm_aload_n C dX5_first_346 rfl 2 rfl 347 rfl ?_
    refine fm_iload_n C dX5_first_347 rfl 3 rfl 348 rfl ?_
    refine fm_iload_n C dX5_first_348 rfl 5 rfl 349 rfl ?_
    obtain ⟨q82, h81, hf⟩ := Option.bind_eq_some_iff.mp hf
    refine fm_callV C Y_X5_ends (t := 0) (by decide) (shM_0 _) rfl LM_X5_170 (As := [.int x1, .int x3]) (rest := []) (c_X5_ends  h81) (by omega) (by omega) rfl (Nat.le_of_ble_eq_true rfl) dX5_first_349 352 rfl [] rfl ?_
    obtain rfl := Option.some.inj hf
    exact fm_vret C hr hk0 dX5_first_352
  · rw [if_neg c2] at hf
    refine fm_iload C dX5_first_15 0 rfl 17 rfl ?_
    refine fm_iconst C (x := 5) dX5_first_17 (by decide) 18 rfl ?_
    refine fm_icmp_ne C 31 dX5_first_18 (by decide) (fun c83 => ?_) 21 rfl (fun c83 => ?_)
    · rw [if_neg c83] at hf
      refine fm_aload_n C dX5_first_31 rfl 1 rfl 32 rfl ?_
      refine fm_iload_n C dX5_first_32 rfl 2 rfl 33 rfl ?_
      refine fm_iload_n C dX5_first_33 rfl 4 rfl 34 rfl ?_
      obtain ⟨q85, h84, hf⟩ := Option.bind_eq_some_iff.mp hf
      refine fm_callV C Y_X5_ends (t := 0) (by decide) (shM_0 _) rfl LM_X5_170 (As := [.int x1, .int x3]) (rest := []) (c_X5_ends  h84) (by omega) (by omega) rfl (Nat.le_of_ble_eq_true rfl) dX5_first_34 37 rfl [] rfl ?_
      obtain rfl := Option.some.inj hf
      exact fm_vret C hr hk0 dX5_first_37
    · rw [if_pos c83] at hf
      refine fm_aload_n C dX5_first_21 rfl 1 rfl 22 rfl ?_
      refine fm_aload_n C dX5_first_22 rfl 1 rfl 23 rfl ?_
      refine fm_get C (t := 0) (by decide) (shM_0 _) rfl inG_X5 12 (by decide) F_X5_40 rfl dX5_first_23 26 rfl ?_
      refine fm_iload_n C dX5_first_26 rfl 4 rfl 27 rfl ?_
      refine fm_iald C (t := 11) (t0 := 0) (by decide) (shM_11 _) rfl b1 dX5_first_27 28 rfl ?_
      obtain ⟨q87, h86, hf⟩ := Option.bind_eq_some_iff.mp hf
      refine fm_callV C Y_X5_gives (t := 0) (by decide) (shM_0 _) rfl LM_X5_157 (As := [.int (v 11 x3.toNatClampNeg)]) (rest := []) (c_X5_gives  h86) (by omega) (by omega) rfl (Nat.le_of_ble_eq_true rfl) dX5_first_28 31 rfl [] rfl ?_
      refine fm_aload_n C dX5_first_31 rfl 1 rfl 32 rfl ?_
      refine fm_iload_n C dX5_first_32 rfl 2 rfl 33 rfl ?_
      refine fm_iload_n C dX5_first_33 rfl 4 rfl 34 rfl ?_
      obtain ⟨q89, h88, hf⟩ := Option.bind_eq_some_iff.mp hf
      refine fm_callV C Y_X5_ends (t := 0) (by decide) (shM_0 _) rfl LM_X5_170 (As := [.int x1, .int x3]) (rest := []) (c_X5_ends  h88) (by omega) (by omega) rfl (Nat.le_of_ble_eq_true rfl) dX5_first_34 37 rfl [] rfl ?_
      obtain rfl := Option.some.inj hf
      exact fm_vret C hr hk0 dX5_first_37
def f_X5_second (x1 : Int32) (x2 : Int32) (x3 : Int32) (v : fm_T) : Option (Int32 × fm_T) := (if v 0 34 = 0 then (if x3 < 0 ∨ 40 ≤ x3.toNatClampNeg then none else (if v 9 x3.toNatClampNeg = 2 then (if x2 < 0 ∨ 200 ≤ x2.toNatClampNeg then none else ((f_X5_gives ((v 25 x2.toNatClampNeg) * (v 0 33)) v).bind fun q21 => ((f_X5_ends x1 x3 q21.2).bind fun q23 => some (0, q23.2)))) else (if v 9 x3.toNatClampNeg = 3 then (if v 0 33 = 0 then ((f_X5_fails 1 0 v).bind fun q16 => ((f_X5_ends x1 x3 q16.2).bind fun q18 => some (0, q18.2))) else (if x2 < 0 ∨ 200 ≤ x2.toNatClampNeg then none else ((f_X5_gives ((v 25 x2.toNatClampNeg) / (v 0 33)) v).bind fun q12 => ((f_X5_ends x1 x3 q12.2).bind fun q14 => some (0, q14.2))))) else ((f_X5_ends x1 x3 v).bind fun q8 => some (0, q8.2))))) else ((f_X5_ends x1 x3 v).bind fun q3 => some (0, q3.2)))
set_option maxHeartbeats 4000000 in
set_option maxRecDepth 20000 in
theorem c_X5_second {x1 : Int32} {x2 : Int32} {x3 : Int32}  {v : fm_T} {q : Int32 × fm_T} (hf : f_X5_second x1 x2 x3 v = some q) : fm_M l D (fm_tys cI cII cLd cOc) tA b 29 (shM cI b) A yX5_second cX5_second 4 none 2 [.ref (b + 0), .int x1, .int x2, .int x3] v none q.2 := by
  refine fm_entry (by decide) (Nat.le_of_ble_eq_true rfl) ?_
  intro p e R s m args below meth c C hr hk0 hF hLo
  unfold f_X5_second at hf
  show fm_V p l e R s m args below meth c D b 29 (shM cI b) A _ 4 0 [(0, .ref (b + 0)), (1, .int x1), (2, .int x2), (3, .int x3)] [] v
  refine fm_aload_n C dX5_second_0 rfl 0 rfl 1 rfl ?_
  refine fm_get C (t := 0) (by decide) (shM_0 _) rfl inG_X5 34 (by decide) F_X5_119 rfl dX5_second_1 4 rfl ?_
  refine fm_if_ne C 35 dX5_second_4 (by decide) (fun c1 => ?_) 7 rfl (fun c1 => ?_)
  · rw [if_neg c1] at hf
    refine fm_aload_n C dX5_second_35 rfl 0 rfl 36 rfl ?_
    refine fm_get C (t := 0) (by decide) (shM_0 _) rfl inG_X5 34 (by decide) F_X5_119 rfl dX5_second_36 39 rfl ?_
    refine fm_if_ne C 83 dX5_second_39 (by decide) (fun _ => ?_) 42 rfl (fun c0 => (by first | exact absurd c1 c0 | exact absurd c0 c1))
    refine fm_aload_n C dX5_second_83 rfl 0 rfl 84 rfl ?_
    refine fm_iload_n C dX5_second_84 rfl 1 rfl 85 rfl ?_
    refine fm_iload_n C dX5_second_85 rfl 3 rfl 86 rfl ?_
    obtain ⟨q3, h2, hf⟩ := Option.bind_eq_some_iff.mp hf
    refine fm_callV C Y_X5_ends (t := 0) (by decide) (shM_0 _) rfl LM_X5_170 (As := [.int x1, .int x3]) (rest := []) (c_X5_ends  h2) (by omega) (by omega) rfl (Nat.le_of_ble_eq_true rfl) dX5_second_86 89 rfl [] rfl ?_
    obtain rfl := Option.some.inj hf
    exact fm_vret C hr hk0 dX5_second_89
  · rw [if_pos c1] at hf
    refine fm_aload_n C dX5_second_7 rfl 0 rfl 8 rfl ?_
    refine fm_get C (t := 0) (by decide) (shM_0 _) rfl inG_X5 10 (by decide) F_X5_34 rfl dX5_second_8 11 rfl ?_
    refine fm_iload_n C dX5_second_11 rfl 3 rfl 12 rfl ?_
    by_cases b4 : x3 < 0 ∨ 40 ≤ x3.toNatClampNeg
    · rw [if_pos b4] at hf; cases hf
    rw [if_neg b4] at hf
    refine fm_iald C (t := 9) (t0 := 0) (by decide) (shM_9 _) rfl b4 dX5_second_12 13 rfl ?_
    refine fm_iconst C (x := 2) dX5_second_13 (by decide) 14 rfl ?_
    refine fm_icmp_ne C 35 dX5_second_14 (by decide) (fun c5 => ?_) 17 rfl (fun c5 => ?_)
    · rw [if_neg c5] at hf
      refine fm_aload_n C dX5_second_35 rfl 0 rfl 36 rfl ?_
      refine fm_get C (t := 0) (by decide) (shM_0 _) rfl inG_X5 34 (by decide) F_X5_119 rfl dX5_second_36 39 rfl ?_
      refine fm_if_ne C 83 dX5_second_39 (by decide) (fun c0 => (by first | exact absurd c1 c0 | exact absurd c0 c1)) 42 rfl (fun _ => ?_)
      refine fm_aload_n C dX5_second_42 rfl 0 rfl 43 rfl ?_
      refine fm_get C (t := 0) (by decide) (shM_0 _) rfl inG_X5 10 (by decide) F_X5_34 rfl dX5_second_43 46 rfl ?_
      refine fm_iload_n C dX5_second_46 rfl 3 rfl 47 rfl ?_
      refine fm_iald C (t := 9) (t0 := 0) (by decide) (shM_9 _) rfl b4 dX5_second_47 48 rfl ?_
      refine fm_iconst C (x := 3) dX5_second_48 (by decide) 49 rfl ?_
      refine fm_icmp_ne C 83 dX5_second_49 (by decide) (fun c6 => ?_) 52 rfl (fun c6 => ?_)
      · rw [if_neg c6] at hf
        refine fm_aload_n C dX5_second_83 rfl 0 rfl 84 rfl ?_
        refine fm_iload_n C dX5_second_84 rfl 1 rfl 85 rfl ?_
        refine fm_iload_n C dX5_second_85 rfl 3 rfl 86 rfl ?_
        obtain ⟨q8, h7, hf⟩ := Option.bind_eq_some_iff.mp hf
        refine fm_callV C Y_X5_ends (t := 0) (by decide) (shM_0 _) rfl LM_X5_170 (As := [.int x1, .int x3]) (rest := []) (c_X5_ends  h7) (by omega) (by omega) rfl (Nat.le_of_ble_eq_true rfl) dX5_second_86 89 rfl [] rfl ?_
        obtain rfl := Option.some.inj hf
        exact fm_vret C hr hk0 dX5_second_89
      · rw [if_pos c6] at hf
        refine fm_aload_n C dX5_second_52 rfl 0 rfl 53 rfl ?_
        refine fm_get C (t := 0) (by decide) (shM_0 _) rfl inG_X5 33 (by decide) F_X5_131 rfl dX5_second_53 56 rfl ?_
        refine fm_if_ne C 68 dX5_second_56 (by decide) (fun c9 => ?_) 59 rfl (fun c9 => ?_)
        · rw [if_neg c9] at hf
          refine fm_aload_n C dX5_second_68 rfl 0 rfl 69 rfl ?_
          refine fm_aload_n C dX5_second_69 rfl 0 rfl 70 rfl ?_
          refine fm_get C (t := 0) (by decide) (shM_0 _) rfl inG_X5 31 (by decide) F_X5_82 rfl dX5_second_70 73 rfl ?_
          refine fm_iload_n C dX5_second_73 rfl 2 rfl 74 rfl ?_
          by_cases b10 : x2 < 0 ∨ 200 ≤ x2.toNatClampNeg
          · rw [if_pos b10] at hf; cases hf
          rw [if_neg b10] at hf
          refine fm_iald C (t := 25) (t0 := 0) (by decide) (shM_25 _) rfl b10 dX5_second_74 75 rfl ?_
          refine fm_aload_n C dX5_second_75 rfl 0 rfl 76 rfl ?_
          refine fm_get C (t := 0) (by decide) (shM_0 _) rfl inG_X5 33 (by decide) F_X5_131 rfl dX5_second_76 79 rfl ?_
          refine fm_idiv C dX5_second_79 c9 80 rfl ?_
          obtain ⟨q12, h11, hf⟩ := Option.bind_eq_some_iff.mp hf
          refine fm_callV C Y_X5_gives (t := 0) (by decide) (shM_0 _) rfl LM_X5_157 (As := [.int ((v 25 x2.toNatClampNeg) / (v 0 33))]) (rest := []) (c_X5_gives  h11) (by omega) (by omega) rfl (Nat.le_of_ble_eq_true rfl) dX5_second_80 83 rfl [] rfl ?_
          refine fm_aload_n C dX5_second_83 rfl 0 rfl 84 rfl ?_
          refine fm_iload_n C dX5_second_84 rfl 1 rfl 85 rfl ?_
          refine fm_iload_n C dX5_second_85 rfl 3 rfl 86 rfl ?_
          obtain ⟨q14, h13, hf⟩ := Option.bind_eq_some_iff.mp hf
          refine fm_callV C Y_X5_ends (t := 0) (by decide) (shM_0 _) rfl LM_X5_170 (As := [.int x1, .int x3]) (rest := []) (c_X5_ends  h13) (by omega) (by omega) rfl (Nat.le_of_ble_eq_true rfl) dX5_second_86 89 rfl [] rfl ?_
          obtain rfl := Option.some.inj hf
          exact fm_vret C hr hk0 dX5_second_89
        · rw [if_pos c9] at hf
          refine fm_aload_n C dX5_second_59 rfl 0 rfl 60 rfl ?_
          refine fm_iconst C (x := 1) dX5_second_60 (by decide) 61 rfl ?_
          refine fm_iconst C (x := 0) dX5_second_61 (by decide) 62 rfl ?_
          obtain ⟨q16, h15, hf⟩ := Option.bind_eq_some_iff.mp hf
          refine fm_callV C Y_X5_fails (t := 0) (by decide) (shM_0 _) rfl LM_X5_141 (As := [.int 1, .int 0]) (rest := []) (c_X5_fails  h15) (by omega) (by omega) rfl (Nat.le_of_ble_eq_true rfl) dX5_second_62 65 rfl [] rfl ?_
          refine fm_goto C 83 dX5_second_65 (by decide) ?_
          refine fm_aload_n C dX5_second_83 rfl 0 rfl 84 rfl ?_
          refine fm_iload_n C dX5_second_84 rfl 1 rfl 85 rfl ?_
          refine fm_iload_n C dX5_second_85 rfl 3 rfl 86 rfl ?_
          obtain ⟨q18, h17, hf⟩ := Option.bind_eq_some_iff.mp hf
          refine fm_callV C Y_X5_ends (t := 0) (by decide) (shM_0 _) rfl LM_X5_170 (As := [.int x1, .int x3]) (rest := []) (c_X5_ends  h17) (by omega) (by omega) rfl (Nat.le_of_ble_eq_true rfl) dX5_second_86 89 rfl [] rfl ?_
          obtain rfl := Option.some.inj hf
          exact fm_vret C hr hk0 dX5_second_89
    · rw [if_pos c5] at hf
      refine fm_aload_n C dX5_second_17 rfl 0 rfl 18 rfl ?_
      refine fm_aload_n C dX5_second_18 rfl 0 rfl 19 rfl ?_
      refine fm_get C (t := 0) (by decide) (shM_0 _) rfl inG_X5 31 (by decide) F_X5_82 rfl dX5_second_19 22 rfl ?_
      refine fm_iload_n C dX5_second_22 rfl 2 rfl 23 rfl ?_
      by_cases b19 : x2 < 0 ∨ 200 ≤ x2.toNatClampNeg
      · rw [if_pos b19] at hf; cases hf
      rw [if_neg b19] at hf
      refine fm_iald C (t := 25) (t0 := 0) (by decide) (shM_25 _) rfl b19 dX5_second_23 24 rfl ?_
      refine fm_aload_n C dX5_second_24 rfl 0 rfl 25 rfl ?_
      refine fm_get C (t := 0) (by decide) (shM_0 _) rfl inG_X5 33 (by decide) F_X5_131 rfl dX5_second_25 28 rfl ?_
      refine fm_imul C dX5_second_28 29 rfl ?_
      obtain ⟨q21, h20, hf⟩ := Option.bind_eq_some_iff.mp hf
      refine fm_callV C Y_X5_gives (t := 0) (by decide) (shM_0 _) rfl LM_X5_157 (As := [.int ((v 25 x2.toNatClampNeg) * (v 0 33))]) (rest := []) (c_X5_gives  h20) (by omega) (by omega) rfl (Nat.le_of_ble_eq_true rfl) dX5_second_29 32 rfl [] rfl ?_
      refine fm_goto C 83 dX5_second_32 (by decide) ?_
      refine fm_aload_n C dX5_second_83 rfl 0 rfl 84 rfl ?_
      refine fm_iload_n C dX5_second_84 rfl 1 rfl 85 rfl ?_
      refine fm_iload_n C dX5_second_85 rfl 3 rfl 86 rfl ?_
      obtain ⟨q23, h22, hf⟩ := Option.bind_eq_some_iff.mp hf
      refine fm_callV C Y_X5_ends (t := 0) (by decide) (shM_0 _) rfl LM_X5_170 (As := [.int x1, .int x3]) (rest := []) (c_X5_ends  h22) (by omega) (by omega) rfl (Nat.le_of_ble_eq_true rfl) dX5_second_86 89 rfl [] rfl ?_
      obtain rfl := Option.some.inj hf
      exact fm_vret C hr hk0 dX5_second_89
def f_X5_looks (x1 : Int32) (x2 : Int32) (x3 : Int32) (v : fm_T) : Option (Int32 × fm_T) := (if v 0 34 ≤ 0 then (if (40 * x1) + x3 < 0 ∨ 200 ≤ ((40 * x1) + x3).toNatClampNeg then none else (if v 15 (((40 * x1) + x3).toNatClampNeg) = 2 then ((f_X5_gives (v 16 (((40 * x1) + x3).toNatClampNeg)) v).bind fun q40 => ((some (fm_u q40.2 0 32 ((q40.2 0 32) - 1)) : Option fm_T).bind fun m42 => some (0, m42))) else (if v 15 (((40 * x1) + x3).toNatClampNeg) = 3 then ((some (fm_u v 0 34 (v 16 (((40 * x1) + x3).toNatClampNeg))) : Option fm_T).bind fun m30 => ((some (fm_u m30 0 35 (m30 17 (((40 * x1) + x3).toNatClampNeg))) : Option fm_T).bind fun m32 => ((some (fm_u m32 0 36 (m32 18 (((40 * x1) + x3).toNatClampNeg))) : Option fm_T).bind fun m34 => ((some (fm_u m34 0 37 (m34 19 (((40 * x1) + x3).toNatClampNeg))) : Option fm_T).bind fun m36 => ((some (fm_u m36 0 32 ((m36 0 32) - 1)) : Option fm_T).bind fun m38 => some (0, m38)))))) else (if v 15 (((40 * x1) + x3).toNatClampNeg) = 1 then ((f_X5_fails 4 x3 v).bind fun q26 => ((some (fm_u q26.2 0 32 ((q26.2 0 32) - 1)) : Option fm_T).bind fun m28 => some (0, m28))) else ((some (fm_u v 15 (((40 * x1) + x3).toNatClampNeg) 1) : Option fm_T).bind fun m7 => ((f_X5_mark 3 x3 m7).bind fun q9 => (if 3 ≤ x1 then ((some (fm_u q9.2 0 24 ((q9.2 0 24) + 0)) : Option fm_T).bind fun m12 => (if x2 < 0 ∨ 200 ≤ x2.toNatClampNeg then none else ((some (fm_u m12 24 x2.toNatClampNeg 2) : Option fm_T).bind fun m15 => ((f_X5_begins x1 x3 m15).bind fun q17 => some (0, q17.2))))) else ((some (fm_u q9.2 0 24 ((q9.2 0 24) + 1)) : Option fm_T).bind fun m19 => (if x2 < 0 ∨ 200 ≤ x2.toNatClampNeg then none else ((some (fm_u m19 24 x2.toNatClampNeg 2) : Option fm_T).bind fun m22 => ((f_X5_begins x1 x3 m22).bind fun q24 => some (0, q24.2)))))))))))) else ((some (fm_u v 0 32 ((v 0 32) - 1)) : Option fm_T).bind fun m44 => some (0, m44)))
set_option maxHeartbeats 4000000 in
set_option maxRecDepth 20000 in
theorem c_X5_looks {x1 : Int32} {x2 : Int32} {x3 : Int32}  {v : fm_T} {q : Int32 × fm_T} (hf : f_X5_looks x1 x2 x3 v = some q) : fm_M l D (fm_tys cI cII cLd cOc) tA b 29 (shM cI b) A yX5_looks cX5_looks 5 none 3 [.ref (b + 0), .int x1, .int x2, .int x3] v none q.2 := by
  refine fm_entry (by decide) (Nat.le_of_ble_eq_true rfl) ?_
  intro p e R s m args below meth c C hr hk0 hF hLo
  unfold f_X5_looks at hf
  show fm_V p l e R s m args below meth c D b 29 (shM cI b) A _ 5 0 [(0, .ref (b + 0)), (1, .int x1), (2, .int x2), (3, .int x3)] [] v
  refine fm_bipush C (x := 40) dX5_looks_0 (by decide) 2 rfl ?_
  refine fm_iload_n C dX5_looks_2 rfl 1 rfl 3 rfl ?_
  refine fm_imul C dX5_looks_3 4 rfl ?_
  refine fm_iload_n C dX5_looks_4 rfl 3 rfl 5 rfl ?_
  refine fm_iadd C dX5_looks_5 6 rfl ?_
  refine fm_istore C [(4, .int ((40 * x1) + x3)), (0, .ref (b + 0)), (1, .int x1), (2, .int x2), (3, .int x3)] dX5_looks_6 (by decide) rfl 8 rfl ?_
  refine fm_aload_n C dX5_looks_8 rfl 1 rfl 9 rfl ?_
  refine fm_get C (t := 0) (by decide) (shM_0 _) rfl inG_X5 34 (by decide) F_X5_119 rfl dX5_looks_9 12 rfl ?_
  refine fm_if_le C 28 dX5_looks_12 (by decide) (fun c1 => ?_) 15 rfl (fun c1 => ?_)
  · rw [if_pos c1] at hf
    refine fm_aload_n C dX5_looks_28 rfl 1 rfl 29 rfl ?_
    refine fm_get C (t := 0) (by decide) (shM_0 _) rfl inG_X5 16 (by decide) F_X5_52 rfl dX5_looks_29 32 rfl ?_
    refine fm_iload C dX5_looks_32 0 rfl 34 rfl ?_
    by_cases b2 : (40 * x1) + x3 < 0 ∨ 200 ≤ ((40 * x1) + x3).toNatClampNeg
    · rw [if_pos b2] at hf; cases hf
    rw [if_neg b2] at hf
    refine fm_iald C (t := 15) (t0 := 0) (by decide) (shM_15 _) rfl b2 dX5_looks_34 35 rfl ?_
    refine fm_iconst C (x := 2) dX5_looks_35 (by decide) 36 rfl ?_
    refine fm_icmp_ne C 63 dX5_looks_36 (by decide) (fun c3 => ?_) 39 rfl (fun c3 => ?_)
    · rw [if_neg c3] at hf
      refine fm_aload_n C dX5_looks_63 rfl 1 rfl 64 rfl ?_
      refine fm_get C (t := 0) (by decide) (shM_0 _) rfl inG_X5 16 (by decide) F_X5_52 rfl dX5_looks_64 67 rfl ?_
      refine fm_iload C dX5_looks_67 0 rfl 69 rfl ?_
      refine fm_iald C (t := 15) (t0 := 0) (by decide) (shM_15 _) rfl b2 dX5_looks_69 70 rfl ?_
      refine fm_iconst C (x := 3) dX5_looks_70 (by decide) 71 rfl ?_
      refine fm_icmp_ne C 131 dX5_looks_71 (by decide) (fun c4 => ?_) 74 rfl (fun c4 => ?_)
      · rw [if_neg c4] at hf
        refine fm_aload_n C dX5_looks_131 rfl 1 rfl 132 rfl ?_
        refine fm_get C (t := 0) (by decide) (shM_0 _) rfl inG_X5 16 (by decide) F_X5_52 rfl dX5_looks_132 135 rfl ?_
        refine fm_iload C dX5_looks_135 0 rfl 137 rfl ?_
        refine fm_iald C (t := 15) (t0 := 0) (by decide) (shM_15 _) rfl b2 dX5_looks_137 138 rfl ?_
        refine fm_iconst C (x := 1) dX5_looks_138 (by decide) 139 rfl ?_
        refine fm_icmp_ne C 161 dX5_looks_139 (by decide) (fun c5 => ?_) 142 rfl (fun c5 => ?_)
        · rw [if_neg c5] at hf
          refine fm_aload_n C dX5_looks_161 rfl 1 rfl 162 rfl ?_
          refine fm_get C (t := 0) (by decide) (shM_0 _) rfl inG_X5 16 (by decide) F_X5_52 rfl dX5_looks_162 165 rfl ?_
          refine fm_iload C dX5_looks_165 0 rfl 167 rfl ?_
          refine fm_iconst C (x := 1) dX5_looks_167 (by decide) 168 rfl ?_
          obtain ⟨m7, e6, hf⟩ := Option.bind_eq_some_iff.mp hf
          refine fm_iast C (t := 15) (t0 := 0) (by decide) shM_15 rfl b2 dX5_looks_168 169 rfl m7 (Option.some.inj e6) ?_
          refine fm_aload_n C dX5_looks_169 rfl 1 rfl 170 rfl ?_
          refine fm_iconst C (x := 3) dX5_looks_170 (by decide) 171 rfl ?_
          refine fm_iload_n C dX5_looks_171 rfl 4 rfl 172 rfl ?_
          obtain ⟨q9, h8, hf⟩ := Option.bind_eq_some_iff.mp hf
          refine fm_callV C Y_X5_mark (t := 0) (by decide) (shM_0 _) rfl LM_X5_161 (As := [.int 3, .int x3]) (rest := []) (c_X5_mark  h8) (by omega) (by omega) rfl (Nat.le_of_ble_eq_true rfl) dX5_looks_172 175 rfl [] rfl ?_
          refine fm_aload_n C dX5_looks_175 rfl 1 rfl 176 rfl ?_
          refine fm_dup C dX5_looks_176 rfl 177 rfl ?_
          refine fm_get C (t := 0) (by decide) (shM_0 _) rfl inG_X5 24 (by decide) F_X5_164 rfl dX5_looks_177 180 rfl ?_
          refine fm_iload_n C dX5_looks_180 rfl 2 rfl 181 rfl ?_
          refine fm_iconst C (x := 3) dX5_looks_181 (by decide) 182 rfl ?_
          refine fm_icmp_ge C 189 dX5_looks_182 (by decide) (fun c10 => ?_) 185 rfl (fun c10 => ?_)
          · rw [if_pos c10] at hf
            refine fm_iconst C (x := 0) dX5_looks_189 (by decide) 190 rfl ?_
            refine fm_iadd C dX5_looks_190 191 rfl ?_
            obtain ⟨m12, e11, hf⟩ := Option.bind_eq_some_iff.mp hf
            refine fm_put C (t := 0) (by decide) (shM_0 _) rfl inG_X5 24 (by decide) F_X5_164 tyX5 tyX5_ok nmX5 rfl (ty := .int) (by decide +kernel) rfl rfl (Nat.le_of_ble_eq_true rfl) ((shM_0 _).trans rfl) dX5_looks_191 194 rfl m12 (Option.some.inj e11) ?_
            refine fm_aload_n C dX5_looks_194 rfl 1 rfl 195 rfl ?_
            refine fm_get C (t := 0) (by decide) (shM_0 _) rfl inG_X5 30 (by decide) F_X5_79 rfl dX5_looks_195 198 rfl ?_
            refine fm_iload_n C dX5_looks_198 rfl 3 rfl 199 rfl ?_
            refine fm_iconst C (x := 2) dX5_looks_199 (by decide) 200 rfl ?_
            by_cases b13 : x2 < 0 ∨ 200 ≤ x2.toNatClampNeg
            · rw [if_pos b13] at hf; cases hf
            rw [if_neg b13] at hf
            obtain ⟨m15, e14, hf⟩ := Option.bind_eq_some_iff.mp hf
            refine fm_iast C (t := 24) (t0 := 0) (by decide) shM_24 rfl b13 dX5_looks_200 201 rfl m15 (Option.some.inj e14) ?_
            refine fm_aload_n C dX5_looks_201 rfl 1 rfl 202 rfl ?_
            refine fm_iload_n C dX5_looks_202 rfl 2 rfl 203 rfl ?_
            refine fm_iload_n C dX5_looks_203 rfl 4 rfl 204 rfl ?_
            obtain ⟨q17, h16, hf⟩ := Option.bind_eq_some_iff.mp hf
            refine fm_callV C Y_X5_begins (t := 0) (by decide) (shM_0 _) rfl LM_X5_167 (As := [.int x1, .int x3]) (rest := []) (c_X5_begins  h16) (by omega) (by omega) rfl (Nat.le_of_ble_eq_true rfl) dX5_looks_204 207 rfl [] rfl ?_
            obtain rfl := Option.some.inj hf
            exact fm_vret C hr hk0 dX5_looks_207
          · rw [if_neg c10] at hf
            refine fm_iconst C (x := 1) dX5_looks_185 (by decide) 186 rfl ?_
            refine fm_goto C 190 dX5_looks_186 (by decide) ?_
            refine fm_iadd C dX5_looks_190 191 rfl ?_
            obtain ⟨m19, e18, hf⟩ := Option.bind_eq_some_iff.mp hf
            refine fm_put C (t := 0) (by decide) (shM_0 _) rfl inG_X5 24 (by decide) F_X5_164 tyX5 tyX5_ok nmX5 rfl (ty := .int) (by decide +kernel) rfl rfl (Nat.le_of_ble_eq_true rfl) ((shM_0 _).trans rfl) dX5_looks_191 194 rfl m19 (Option.some.inj e18) ?_
            refine fm_aload_n C dX5_looks_194 rfl 1 rfl 195 rfl ?_
            refine fm_get C (t := 0) (by decide) (shM_0 _) rfl inG_X5 30 (by decide) F_X5_79 rfl dX5_looks_195 198 rfl ?_
            refine fm_iload_n C dX5_looks_198 rfl 3 rfl 199 rfl ?_
            refine fm_iconst C (x := 2) dX5_looks_199 (by decide) 200 rfl ?_
            by_cases b20 : x2 < 0 ∨ 200 ≤ x2.toNatClampNeg
            · rw [if_pos b20] at hf; cases hf
            rw [if_neg b20] at hf
            obtain ⟨m22, e21, hf⟩ := Option.bind_eq_some_iff.mp hf
            refine fm_iast C (t := 24) (t0 := 0) (by decide) shM_24 rfl b20 dX5_looks_200 201 rfl m22 (Option.some.inj e21) ?_
            refine fm_aload_n C dX5_looks_201 rfl 1 rfl 202 rfl ?_
            refine fm_iload_n C dX5_looks_202 rfl 2 rfl 203 rfl ?_
            refine fm_iload_n C dX5_looks_203 rfl 4 rfl 204 rfl ?_
            obtain ⟨q24, h23, hf⟩ := Option.bind_eq_some_iff.mp hf
            refine fm_callV C Y_X5_begins (t := 0) (by decide) (shM_0 _) rfl LM_X5_167 (As := [.int x1, .int x3]) (rest := []) (c_X5_begins  h23) (by omega) (by omega) rfl (Nat.le_of_ble_eq_true rfl) dX5_looks_204 207 rfl [] rfl ?_
            obtain rfl := Option.some.inj hf
            exact fm_vret C hr hk0 dX5_looks_207
        · rw [if_pos c5] at hf
          refine fm_aload_n C dX5_looks_142 rfl 1 rfl 143 rfl ?_
          refine fm_iconst C (x := 4) dX5_looks_143 (by decide) 144 rfl ?_
          refine fm_iload_n C dX5_looks_144 rfl 4 rfl 145 rfl ?_
          obtain ⟨q26, h25, hf⟩ := Option.bind_eq_some_iff.mp hf
          refine fm_callV C Y_X5_fails (t := 0) (by decide) (shM_0 _) rfl LM_X5_141 (As := [.int 4, .int x3]) (rest := []) (c_X5_fails  h25) (by omega) (by omega) rfl (Nat.le_of_ble_eq_true rfl) dX5_looks_145 148 rfl [] rfl ?_
          refine fm_aload_n C dX5_looks_148 rfl 1 rfl 149 rfl ?_
          refine fm_dup C dX5_looks_149 rfl 150 rfl ?_
          refine fm_get C (t := 0) (by decide) (shM_0 _) rfl inG_X5 32 (by decide) F_X5_109 rfl dX5_looks_150 153 rfl ?_
          refine fm_iconst C (x := 1) dX5_looks_153 (by decide) 154 rfl ?_
          refine fm_isub C dX5_looks_154 155 rfl ?_
          obtain ⟨m28, e27, hf⟩ := Option.bind_eq_some_iff.mp hf
          refine fm_put C (t := 0) (by decide) (shM_0 _) rfl inG_X5 32 (by decide) F_X5_109 tyX5 tyX5_ok nmX5 rfl (ty := .int) (by decide +kernel) rfl rfl (Nat.le_of_ble_eq_true rfl) ((shM_0 _).trans rfl) dX5_looks_155 158 rfl m28 (Option.some.inj e27) ?_
          refine fm_goto C 207 dX5_looks_158 (by decide) ?_
          obtain rfl := Option.some.inj hf
          exact fm_vret C hr hk0 dX5_looks_207
      · rw [if_pos c4] at hf
        refine fm_aload_n C dX5_looks_74 rfl 1 rfl 75 rfl ?_
        refine fm_aload_n C dX5_looks_75 rfl 1 rfl 76 rfl ?_
        refine fm_get C (t := 0) (by decide) (shM_0 _) rfl inG_X5 17 (by decide) F_X5_55 rfl dX5_looks_76 79 rfl ?_
        refine fm_iload C dX5_looks_79 0 rfl 81 rfl ?_
        refine fm_iald C (t := 16) (t0 := 0) (by decide) (shM_16 _) rfl b2 dX5_looks_81 82 rfl ?_
        obtain ⟨m30, e29, hf⟩ := Option.bind_eq_some_iff.mp hf
        refine fm_put C (t := 0) (by decide) (shM_0 _) rfl inG_X5 34 (by decide) F_X5_119 tyX5 tyX5_ok nmX5 rfl (ty := .int) (by decide +kernel) rfl rfl (Nat.le_of_ble_eq_true rfl) ((shM_0 _).trans rfl) dX5_looks_82 85 rfl m30 (Option.some.inj e29) ?_
        refine fm_aload_n C dX5_looks_85 rfl 1 rfl 86 rfl ?_
        refine fm_aload_n C dX5_looks_86 rfl 1 rfl 87 rfl ?_
        refine fm_get C (t := 0) (by decide) (shM_0 _) rfl inG_X5 18 (by decide) F_X5_58 rfl dX5_looks_87 90 rfl ?_
        refine fm_iload C dX5_looks_90 0 rfl 92 rfl ?_
        refine fm_iald C (t := 17) (t0 := 0) (by decide) (shM_17 _) rfl b2 dX5_looks_92 93 rfl ?_
        obtain ⟨m32, e31, hf⟩ := Option.bind_eq_some_iff.mp hf
        refine fm_put C (t := 0) (by decide) (shM_0 _) rfl inG_X5 35 (by decide) F_X5_122 tyX5 tyX5_ok nmX5 rfl (ty := .int) (by decide +kernel) rfl rfl (Nat.le_of_ble_eq_true rfl) ((shM_0 _).trans rfl) dX5_looks_93 96 rfl m32 (Option.some.inj e31) ?_
        refine fm_aload_n C dX5_looks_96 rfl 1 rfl 97 rfl ?_
        refine fm_aload_n C dX5_looks_97 rfl 1 rfl 98 rfl ?_
        refine fm_get C (t := 0) (by decide) (shM_0 _) rfl inG_X5 19 (by decide) F_X5_61 rfl dX5_looks_98 101 rfl ?_
        refine fm_iload C dX5_looks_101 0 rfl 103 rfl ?_
        refine fm_iald C (t := 18) (t0 := 0) (by decide) (shM_18 _) rfl b2 dX5_looks_103 104 rfl ?_
        obtain ⟨m34, e33, hf⟩ := Option.bind_eq_some_iff.mp hf
        refine fm_put C (t := 0) (by decide) (shM_0 _) rfl inG_X5 36 (by decide) F_X5_125 tyX5 tyX5_ok nmX5 rfl (ty := .int) (by decide +kernel) rfl rfl (Nat.le_of_ble_eq_true rfl) ((shM_0 _).trans rfl) dX5_looks_104 107 rfl m34 (Option.some.inj e33) ?_
        refine fm_aload_n C dX5_looks_107 rfl 1 rfl 108 rfl ?_
        refine fm_aload_n C dX5_looks_108 rfl 1 rfl 109 rfl ?_
        refine fm_get C (t := 0) (by decide) (shM_0 _) rfl inG_X5 20 (by decide) F_X5_64 rfl dX5_looks_109 112 rfl ?_
        refine fm_iload C dX5_looks_112 0 rfl 114 rfl ?_
        refine fm_iald C (t := 19) (t0 := 0) (by decide) (shM_19 _) rfl b2 dX5_looks_114 115 rfl ?_
        obtain ⟨m36, e35, hf⟩ := Option.bind_eq_some_iff.mp hf
        refine fm_put C (t := 0) (by decide) (shM_0 _) rfl inG_X5 37 (by decide) F_X5_128 tyX5 tyX5_ok nmX5 rfl (ty := .int) (by decide +kernel) rfl rfl (Nat.le_of_ble_eq_true rfl) ((shM_0 _).trans rfl) dX5_looks_115 118 rfl m36 (Option.some.inj e35) ?_
        refine fm_aload_n C dX5_looks_118 rfl 1 rfl 119 rfl ?_
        refine fm_dup C dX5_looks_119 rfl 120 rfl ?_
        refine fm_get C (t := 0) (by decide) (shM_0 _) rfl inG_X5 32 (by decide) F_X5_109 rfl dX5_looks_120 123 rfl ?_
        refine fm_iconst C (x := 1) dX5_looks_123 (by decide) 124 rfl ?_
        refine fm_isub C dX5_looks_124 125 rfl ?_
        obtain ⟨m38, e37, hf⟩ := Option.bind_eq_some_iff.mp hf
        refine fm_put C (t := 0) (by decide) (shM_0 _) rfl inG_X5 32 (by decide) F_X5_109 tyX5 tyX5_ok nmX5 rfl (ty := .int) (by decide +kernel) rfl rfl (Nat.le_of_ble_eq_true rfl) ((shM_0 _).trans rfl) dX5_looks_125 128 rfl m38 (Option.some.inj e37) ?_
        refine fm_goto C 207 dX5_looks_128 (by decide) ?_
        obtain rfl := Option.some.inj hf
        exact fm_vret C hr hk0 dX5_looks_207
    · rw [if_pos c3] at hf
      refine fm_aload_n C dX5_looks_39 rfl 1 rfl 40 rfl ?_
      refine fm_aload_n C dX5_looks_40 rfl 1 rfl 41 rfl ?_
      refine fm_get C (t := 0) (by decide) (shM_0 _) rfl inG_X5 17 (by decide) F_X5_55 rfl dX5_looks_41 44 rfl ?_
      refine fm_iload C dX5_looks_44 0 rfl 46 rfl ?_
      refine fm_iald C (t := 16) (t0 := 0) (by decide) (shM_16 _) rfl b2 dX5_looks_46 47 rfl ?_
      obtain ⟨q40, h39, hf⟩ := Option.bind_eq_some_iff.mp hf
      refine fm_callV C Y_X5_gives (t := 0) (by decide) (shM_0 _) rfl LM_X5_157 (As := [.int (v 16 (((40 * x1) + x3).toNatClampNeg))]) (rest := []) (c_X5_gives  h39) (by omega) (by omega) rfl (Nat.le_of_ble_eq_true rfl) dX5_looks_47 50 rfl [] rfl ?_
      refine fm_aload_n C dX5_looks_50 rfl 1 rfl 51 rfl ?_
      refine fm_dup C dX5_looks_51 rfl 52 rfl ?_
      refine fm_get C (t := 0) (by decide) (shM_0 _) rfl inG_X5 32 (by decide) F_X5_109 rfl dX5_looks_52 55 rfl ?_
      refine fm_iconst C (x := 1) dX5_looks_55 (by decide) 56 rfl ?_
      refine fm_isub C dX5_looks_56 57 rfl ?_
      obtain ⟨m42, e41, hf⟩ := Option.bind_eq_some_iff.mp hf
      refine fm_put C (t := 0) (by decide) (shM_0 _) rfl inG_X5 32 (by decide) F_X5_109 tyX5 tyX5_ok nmX5 rfl (ty := .int) (by decide +kernel) rfl rfl (Nat.le_of_ble_eq_true rfl) ((shM_0 _).trans rfl) dX5_looks_57 60 rfl m42 (Option.some.inj e41) ?_
      refine fm_goto C 207 dX5_looks_60 (by decide) ?_
      obtain rfl := Option.some.inj hf
      exact fm_vret C hr hk0 dX5_looks_207
  · rw [if_neg c1] at hf
    refine fm_aload_n C dX5_looks_15 rfl 1 rfl 16 rfl ?_
    refine fm_dup C dX5_looks_16 rfl 17 rfl ?_
    refine fm_get C (t := 0) (by decide) (shM_0 _) rfl inG_X5 32 (by decide) F_X5_109 rfl dX5_looks_17 20 rfl ?_
    refine fm_iconst C (x := 1) dX5_looks_20 (by decide) 21 rfl ?_
    refine fm_isub C dX5_looks_21 22 rfl ?_
    obtain ⟨m44, e43, hf⟩ := Option.bind_eq_some_iff.mp hf
    refine fm_put C (t := 0) (by decide) (shM_0 _) rfl inG_X5 32 (by decide) F_X5_109 tyX5 tyX5_ok nmX5 rfl (ty := .int) (by decide +kernel) rfl rfl (Nat.le_of_ble_eq_true rfl) ((shM_0 _).trans rfl) dX5_looks_22 25 rfl m44 (Option.some.inj e43) ?_
    refine fm_goto C 207 dX5_looks_25 (by decide) ?_
    obtain rfl := Option.some.inj hf
    exact fm_vret C hr hk0 dX5_looks_207
def f_X5_needs (x1 : Int32) (x2 : Int32) (v : fm_T) : Option (Int32 × fm_T) := (if x2 < 0 ∨ 200 ≤ x2.toNatClampNeg then none else (if v 24 x2.toNatClampNeg = 0 then (if v 23 x2.toNatClampNeg < v 0 8 then ((some (fm_u v 24 x2.toNatClampNeg 1) : Option fm_T).bind fun m13 => (if v 23 x2.toNatClampNeg < 0 ∨ 40 ≤ (v 23 x2.toNatClampNeg).toNatClampNeg then none else ((f_X5_push 1 (m13 8 ((v 23 x2.toNatClampNeg).toNatClampNeg)) m13).bind fun q16 => some (0, q16.2)))) else ((f_X5_fails 8 (v 23 x2.toNatClampNeg) v).bind fun q18 => ((some (fm_u q18.2 0 32 ((q18.2 0 32) - 1)) : Option fm_T).bind fun m20 => some (0, m20)))) else (if v 24 x2.toNatClampNeg = 1 then ((f_X5_looks x1 x2 (v 23 x2.toNatClampNeg) v).bind fun q10 => some (0, q10.2)) else (if v 24 x2.toNatClampNeg = 2 then ((f_X5_first x1 x2 (v 23 x2.toNatClampNeg) v).bind fun q8 => some (0, q8.2)) else ((f_X5_second x1 x2 (v 23 x2.toNatClampNeg) v).bind fun q6 => some (0, q6.2))))))
set_option maxHeartbeats 4000000 in
set_option maxRecDepth 20000 in
theorem c_X5_needs {x1 : Int32} {x2 : Int32}  {v : fm_T} {q : Int32 × fm_T} (hf : f_X5_needs x1 x2 v = some q) : fm_M l D (fm_tys cI cII cLd cOc) tA b 29 (shM cI b) A yX5_needs cX5_needs 4 none 4 [.ref (b + 0), .int x1, .int x2] v none q.2 := by
  refine fm_entry (by decide) (Nat.le_of_ble_eq_true rfl) ?_
  intro p e R s m args below meth c C hr hk0 hF hLo
  unfold f_X5_needs at hf
  show fm_V p l e R s m args below meth c D b 29 (shM cI b) A _ 4 0 [(0, .ref (b + 0)), (1, .int x1), (2, .int x2)] [] v
  refine fm_aload_n C dX5_needs_0 rfl 0 rfl 1 rfl ?_
  refine fm_get C (t := 0) (by decide) (shM_0 _) rfl inG_X5 29 (by decide) F_X5_76 rfl dX5_needs_1 4 rfl ?_
  refine fm_iload_n C dX5_needs_4 rfl 2 rfl 5 rfl ?_
  by_cases b1 : x2 < 0 ∨ 200 ≤ x2.toNatClampNeg
  · rw [if_pos b1] at hf; cases hf
  rw [if_neg b1] at hf
  refine fm_iald C (t := 23) (t0 := 0) (by decide) (shM_23 _) rfl b1 dX5_needs_5 6 rfl ?_
  refine fm_istore_n C [(3, .int (v 23 x2.toNatClampNeg)), (0, .ref (b + 0)), (1, .int x1), (2, .int x2)] dX5_needs_6 rfl (by decide) rfl 7 rfl ?_
  refine fm_aload_n C dX5_needs_7 rfl 1 rfl 8 rfl ?_
  refine fm_get C (t := 0) (by decide) (shM_0 _) rfl inG_X5 30 (by decide) F_X5_79 rfl dX5_needs_8 11 rfl ?_
  refine fm_iload_n C dX5_needs_11 rfl 3 rfl 12 rfl ?_
  refine fm_iald C (t := 24) (t0 := 0) (by decide) (shM_24 _) rfl b1 dX5_needs_12 13 rfl ?_
  refine fm_if_ne C 44 dX5_needs_13 (by decide) (fun c2 => ?_) 16 rfl (fun c2 => ?_)
  · rw [if_neg c2] at hf
    refine fm_aload_n C dX5_needs_44 rfl 1 rfl 45 rfl ?_
    refine fm_get C (t := 0) (by decide) (shM_0 _) rfl inG_X5 30 (by decide) F_X5_79 rfl dX5_needs_45 48 rfl ?_
    refine fm_iload_n C dX5_needs_48 rfl 3 rfl 49 rfl ?_
    refine fm_iald C (t := 24) (t0 := 0) (by decide) (shM_24 _) rfl b1 dX5_needs_49 50 rfl ?_
    refine fm_if_ne C 74 dX5_needs_50 (by decide) (fun _ => ?_) 53 rfl (fun c0 => (by first | exact absurd c2 c0 | exact absurd c0 c2))
    refine fm_aload_n C dX5_needs_74 rfl 1 rfl 75 rfl ?_
    refine fm_get C (t := 0) (by decide) (shM_0 _) rfl inG_X5 30 (by decide) F_X5_79 rfl dX5_needs_75 78 rfl ?_
    refine fm_iload_n C dX5_needs_78 rfl 3 rfl 79 rfl ?_
    refine fm_iald C (t := 24) (t0 := 0) (by decide) (shM_24 _) rfl b1 dX5_needs_79 80 rfl ?_
    refine fm_iconst C (x := 1) dX5_needs_80 (by decide) 81 rfl ?_
    refine fm_icmp_ne C 94 dX5_needs_81 (by decide) (fun c3 => ?_) 84 rfl (fun c3 => ?_)
    · rw [if_neg c3] at hf
      refine fm_aload_n C dX5_needs_94 rfl 1 rfl 95 rfl ?_
      refine fm_get C (t := 0) (by decide) (shM_0 _) rfl inG_X5 30 (by decide) F_X5_79 rfl dX5_needs_95 98 rfl ?_
      refine fm_iload_n C dX5_needs_98 rfl 3 rfl 99 rfl ?_
      refine fm_iald C (t := 24) (t0 := 0) (by decide) (shM_24 _) rfl b1 dX5_needs_99 100 rfl ?_
      refine fm_iconst C (x := 2) dX5_needs_100 (by decide) 101 rfl ?_
      refine fm_icmp_ne C 114 dX5_needs_101 (by decide) (fun c4 => ?_) 104 rfl (fun c4 => ?_)
      · rw [if_neg c4] at hf
        refine fm_aload_n C dX5_needs_114 rfl 1 rfl 115 rfl ?_
        refine fm_iload_n C dX5_needs_115 rfl 2 rfl 116 rfl ?_
        refine fm_iload_n C dX5_needs_116 rfl 3 rfl 117 rfl ?_
        refine fm_iload_n C dX5_needs_117 rfl 0 rfl 118 rfl ?_
        obtain ⟨q6, h5, hf⟩ := Option.bind_eq_some_iff.mp hf
        refine fm_callV C Y_X5_second (t := 0) (by decide) (shM_0 _) rfl LM_X5_154 (As := [.int x1, .int x2, .int (v 23 x2.toNatClampNeg)]) (rest := []) (c_X5_second  h5) (by omega) (by omega) rfl (Nat.le_of_ble_eq_true rfl) dX5_needs_118 121 rfl [] rfl ?_
        obtain rfl := Option.some.inj hf
        exact fm_vret C hr hk0 dX5_needs_121
      · rw [if_pos c4] at hf
        refine fm_aload_n C dX5_needs_104 rfl 1 rfl 105 rfl ?_
        refine fm_iload_n C dX5_needs_105 rfl 2 rfl 106 rfl ?_
        refine fm_iload_n C dX5_needs_106 rfl 3 rfl 107 rfl ?_
        refine fm_iload_n C dX5_needs_107 rfl 0 rfl 108 rfl ?_
        obtain ⟨q8, h7, hf⟩ := Option.bind_eq_some_iff.mp hf
        refine fm_callV C Y_X5_first (t := 0) (by decide) (shM_0 _) rfl LM_X5_151 (As := [.int x1, .int x2, .int (v 23 x2.toNatClampNeg)]) (rest := []) (c_X5_first  h7) (by omega) (by omega) rfl (Nat.le_of_ble_eq_true rfl) dX5_needs_108 111 rfl [] rfl ?_
        refine fm_goto C 121 dX5_needs_111 (by decide) ?_
        obtain rfl := Option.some.inj hf
        exact fm_vret C hr hk0 dX5_needs_121
    · rw [if_pos c3] at hf
      refine fm_aload_n C dX5_needs_84 rfl 1 rfl 85 rfl ?_
      refine fm_iload_n C dX5_needs_85 rfl 2 rfl 86 rfl ?_
      refine fm_iload_n C dX5_needs_86 rfl 3 rfl 87 rfl ?_
      refine fm_iload_n C dX5_needs_87 rfl 0 rfl 88 rfl ?_
      obtain ⟨q10, h9, hf⟩ := Option.bind_eq_some_iff.mp hf
      refine fm_callV C Y_X5_looks (t := 0) (by decide) (shM_0 _) rfl LM_X5_147 (As := [.int x1, .int x2, .int (v 23 x2.toNatClampNeg)]) (rest := []) (c_X5_looks  h9) (by omega) (by omega) rfl (Nat.le_of_ble_eq_true rfl) dX5_needs_88 91 rfl [] rfl ?_
      refine fm_goto C 121 dX5_needs_91 (by decide) ?_
      obtain rfl := Option.some.inj hf
      exact fm_vret C hr hk0 dX5_needs_121
  · rw [if_pos c2] at hf
    refine fm_iload_n C dX5_needs_16 rfl 0 rfl 17 rfl ?_
    refine fm_aload_n C dX5_needs_17 rfl 1 rfl 18 rfl ?_
    refine fm_get C (t := 0) (by decide) (shM_0 _) rfl inG_X5 8 (by decide) F_X5_106 rfl dX5_needs_18 21 rfl ?_
    refine fm_icmp_lt C 44 dX5_needs_21 (by decide) (fun c11 => ?_) 24 rfl (fun c11 => ?_)
    · rw [if_pos c11] at hf
      refine fm_aload_n C dX5_needs_44 rfl 1 rfl 45 rfl ?_
      refine fm_get C (t := 0) (by decide) (shM_0 _) rfl inG_X5 30 (by decide) F_X5_79 rfl dX5_needs_45 48 rfl ?_
      refine fm_iload_n C dX5_needs_48 rfl 3 rfl 49 rfl ?_
      refine fm_iald C (t := 24) (t0 := 0) (by decide) (shM_24 _) rfl b1 dX5_needs_49 50 rfl ?_
      refine fm_if_ne C 74 dX5_needs_50 (by decide) (fun c0 => (by first | exact absurd c2 c0 | exact absurd c0 c2)) 53 rfl (fun _ => ?_)
      refine fm_aload_n C dX5_needs_53 rfl 1 rfl 54 rfl ?_
      refine fm_get C (t := 0) (by decide) (shM_0 _) rfl inG_X5 30 (by decide) F_X5_79 rfl dX5_needs_54 57 rfl ?_
      refine fm_iload_n C dX5_needs_57 rfl 3 rfl 58 rfl ?_
      refine fm_iconst C (x := 1) dX5_needs_58 (by decide) 59 rfl ?_
      obtain ⟨m13, e12, hf⟩ := Option.bind_eq_some_iff.mp hf
      refine fm_iast C (t := 24) (t0 := 0) (by decide) shM_24 rfl b1 dX5_needs_59 60 rfl m13 (Option.some.inj e12) ?_
      refine fm_aload_n C dX5_needs_60 rfl 1 rfl 61 rfl ?_
      refine fm_iconst C (x := 1) dX5_needs_61 (by decide) 62 rfl ?_
      refine fm_aload_n C dX5_needs_62 rfl 1 rfl 63 rfl ?_
      refine fm_get C (t := 0) (by decide) (shM_0 _) rfl inG_X5 9 (by decide) F_X5_31 rfl dX5_needs_63 66 rfl ?_
      refine fm_iload_n C dX5_needs_66 rfl 0 rfl 67 rfl ?_
      by_cases b14 : v 23 x2.toNatClampNeg < 0 ∨ 40 ≤ (v 23 x2.toNatClampNeg).toNatClampNeg
      · rw [if_pos b14] at hf; cases hf
      rw [if_neg b14] at hf
      refine fm_iald C (t := 8) (t0 := 0) (by decide) (shM_8 _) rfl b14 dX5_needs_67 68 rfl ?_
      obtain ⟨q16, h15, hf⟩ := Option.bind_eq_some_iff.mp hf
      refine fm_callV C Y_X5_push (t := 0) (by decide) (shM_0 _) rfl LM_X5_144 (As := [.int 1, .int (m13 8 ((v 23 x2.toNatClampNeg).toNatClampNeg))]) (rest := []) (c_X5_push  h15) (by omega) (by omega) rfl (Nat.le_of_ble_eq_true rfl) dX5_needs_68 71 rfl [] rfl ?_
      refine fm_goto C 121 dX5_needs_71 (by decide) ?_
      obtain rfl := Option.some.inj hf
      exact fm_vret C hr hk0 dX5_needs_121
    · rw [if_neg c11] at hf
      refine fm_aload_n C dX5_needs_24 rfl 1 rfl 25 rfl ?_
      refine fm_bipush C (x := 8) dX5_needs_25 (by decide) 27 rfl ?_
      refine fm_iload_n C dX5_needs_27 rfl 0 rfl 28 rfl ?_
      obtain ⟨q18, h17, hf⟩ := Option.bind_eq_some_iff.mp hf
      refine fm_callV C Y_X5_fails (t := 0) (by decide) (shM_0 _) rfl LM_X5_141 (As := [.int 8, .int (v 23 x2.toNatClampNeg)]) (rest := []) (c_X5_fails  h17) (by omega) (by omega) rfl (Nat.le_of_ble_eq_true rfl) dX5_needs_28 31 rfl [] rfl ?_
      refine fm_aload_n C dX5_needs_31 rfl 1 rfl 32 rfl ?_
      refine fm_dup C dX5_needs_32 rfl 33 rfl ?_
      refine fm_get C (t := 0) (by decide) (shM_0 _) rfl inG_X5 32 (by decide) F_X5_109 rfl dX5_needs_33 36 rfl ?_
      refine fm_iconst C (x := 1) dX5_needs_36 (by decide) 37 rfl ?_
      refine fm_isub C dX5_needs_37 38 rfl ?_
      obtain ⟨m20, e19, hf⟩ := Option.bind_eq_some_iff.mp hf
      refine fm_put C (t := 0) (by decide) (shM_0 _) rfl inG_X5 32 (by decide) F_X5_109 tyX5 tyX5_ok nmX5 rfl (ty := .int) (by decide +kernel) rfl rfl (Nat.le_of_ble_eq_true rfl) ((shM_0 _).trans rfl) dX5_needs_38 41 rfl m20 (Option.some.inj e19) ?_
      refine fm_goto C 121 dX5_needs_41 (by decide) ?_
      obtain rfl := Option.some.inj hf
      exact fm_vret C hr hk0 dX5_needs_121
def f_X5_deeds (x1 : Int32) (x2 : Int32) (x3 : Int32) (v : fm_T) : Option (Int32 × fm_T) := (if x1 < 0 ∨ 200 ≤ x1.toNatClampNeg then none else (if x2 < 0 ∨ 12 ≤ x2.toNatClampNeg then none else (if v 25 x1.toNatClampNeg = v 5 x2.toNatClampNeg then (if x3 < 0 ∨ 60 ≤ x3.toNatClampNeg then none else ((some (fm_u v 13 x3.toNatClampNeg 1) : Option fm_T).bind fun m16 => ((f_X5_mark 1 x2 m16).bind fun q18 => ((f_X5_gives 0 q18.2).bind fun q20 => ((some (fm_u q20.2 0 32 ((q20.2 0 32) - 1)) : Option fm_T).bind fun m22 => some (0, m22)))))) else (if (6 * x2) + (v 25 x1.toNatClampNeg) < 0 ∨ 72 ≤ ((6 * x2) + (v 25 x1.toNatClampNeg)).toNatClampNeg then none else (if v 6 (((6 * x2) + (v 25 x1.toNatClampNeg)).toNatClampNeg) = 2 then ((f_X5_fails 7 (v 7 (((6 * x2) + (v 25 x1.toNatClampNeg)).toNatClampNeg)) v).bind fun q11 => ((f_X5_breaks x3 x2 q11.2).bind fun q13 => some (0, q13.2))) else ((some (fm_u v 24 x1.toNatClampNeg 4) : Option fm_T).bind fun m7 => ((f_X5_push (m7 6 (((6 * x2) + (v 25 x1.toNatClampNeg)).toNatClampNeg)) (m7 7 (((6 * x2) + (v 25 x1.toNatClampNeg)).toNatClampNeg)) m7).bind fun q9 => some (0, q9.2))))))))
set_option maxHeartbeats 4000000 in
set_option maxRecDepth 20000 in
theorem c_X5_deeds {x1 : Int32} {x2 : Int32} {x3 : Int32}  {v : fm_T} {q : Int32 × fm_T} (hf : f_X5_deeds x1 x2 x3 v = some q) : fm_M l D (fm_tys cI cII cLd cOc) tA b 29 (shM cI b) A yX5_deeds cX5_deeds 5 none 2 [.ref (b + 0), .int x1, .int x2, .int x3] v none q.2 := by
  refine fm_entry (by decide) (Nat.le_of_ble_eq_true rfl) ?_
  intro p e R s m args below meth c C hr hk0 hF hLo
  unfold f_X5_deeds at hf
  show fm_V p l e R s m args below meth c D b 29 (shM cI b) A _ 5 0 [(0, .ref (b + 0)), (1, .int x1), (2, .int x2), (3, .int x3)] [] v
  refine fm_bipush C (x := 6) dX5_deeds_0 (by decide) 2 rfl ?_
  refine fm_iload_n C dX5_deeds_2 rfl 2 rfl 3 rfl ?_
  refine fm_imul C dX5_deeds_3 4 rfl ?_
  refine fm_aload_n C dX5_deeds_4 rfl 0 rfl 5 rfl ?_
  refine fm_get C (t := 0) (by decide) (shM_0 _) rfl inG_X5 31 (by decide) F_X5_82 rfl dX5_deeds_5 8 rfl ?_
  refine fm_iload_n C dX5_deeds_8 rfl 1 rfl 9 rfl ?_
  by_cases b1 : x1 < 0 ∨ 200 ≤ x1.toNatClampNeg
  · rw [if_pos b1] at hf; cases hf
  rw [if_neg b1] at hf
  refine fm_iald C (t := 25) (t0 := 0) (by decide) (shM_25 _) rfl b1 dX5_deeds_9 10 rfl ?_
  refine fm_iadd C dX5_deeds_10 11 rfl ?_
  refine fm_istore C [(4, .int ((6 * x2) + (v 25 x1.toNatClampNeg))), (0, .ref (b + 0)), (1, .int x1), (2, .int x2), (3, .int x3)] dX5_deeds_11 (by decide) rfl 13 rfl ?_
  refine fm_aload_n C dX5_deeds_13 rfl 1 rfl 14 rfl ?_
  refine fm_get C (t := 0) (by decide) (shM_0 _) rfl inG_X5 31 (by decide) F_X5_82 rfl dX5_deeds_14 17 rfl ?_
  refine fm_iload_n C dX5_deeds_17 rfl 2 rfl 18 rfl ?_
  refine fm_iald C (t := 25) (t0 := 0) (by decide) (shM_25 _) rfl b1 dX5_deeds_18 19 rfl ?_
  refine fm_aload_n C dX5_deeds_19 rfl 1 rfl 20 rfl ?_
  refine fm_get C (t := 0) (by decide) (shM_0 _) rfl inG_X5 5 (by decide) F_X5_22 rfl dX5_deeds_20 23 rfl ?_
  refine fm_iload_n C dX5_deeds_23 rfl 3 rfl 24 rfl ?_
  by_cases b2 : x2 < 0 ∨ 12 ≤ x2.toNatClampNeg
  · rw [if_pos b2] at hf; cases hf
  rw [if_neg b2] at hf
  refine fm_iald C (t := 5) (t0 := 0) (by decide) (shM_5 _) rfl b2 dX5_deeds_24 25 rfl ?_
  refine fm_icmp_ne C 59 dX5_deeds_25 (by decide) (fun c3 => ?_) 28 rfl (fun c3 => ?_)
  · rw [if_neg c3] at hf
    refine fm_aload_n C dX5_deeds_59 rfl 1 rfl 60 rfl ?_
    refine fm_get C (t := 0) (by decide) (shM_0 _) rfl inG_X5 6 (by decide) F_X5_25 rfl dX5_deeds_60 63 rfl ?_
    refine fm_iload C dX5_deeds_63 0 rfl 65 rfl ?_
    by_cases b4 : (6 * x2) + (v 25 x1.toNatClampNeg) < 0 ∨ 72 ≤ ((6 * x2) + (v 25 x1.toNatClampNeg)).toNatClampNeg
    · rw [if_pos b4] at hf; cases hf
    rw [if_neg b4] at hf
    refine fm_iald C (t := 6) (t0 := 0) (by decide) (shM_6 _) rfl b4 dX5_deeds_65 66 rfl ?_
    refine fm_iconst C (x := 2) dX5_deeds_66 (by decide) 67 rfl ?_
    refine fm_icmp_ne C 92 dX5_deeds_67 (by decide) (fun c5 => ?_) 70 rfl (fun c5 => ?_)
    · rw [if_neg c5] at hf
      refine fm_aload_n C dX5_deeds_92 rfl 1 rfl 93 rfl ?_
      refine fm_get C (t := 0) (by decide) (shM_0 _) rfl inG_X5 30 (by decide) F_X5_79 rfl dX5_deeds_93 96 rfl ?_
      refine fm_iload_n C dX5_deeds_96 rfl 2 rfl 97 rfl ?_
      refine fm_iconst C (x := 4) dX5_deeds_97 (by decide) 98 rfl ?_
      obtain ⟨m7, e6, hf⟩ := Option.bind_eq_some_iff.mp hf
      refine fm_iast C (t := 24) (t0 := 0) (by decide) shM_24 rfl b1 dX5_deeds_98 99 rfl m7 (Option.some.inj e6) ?_
      refine fm_aload_n C dX5_deeds_99 rfl 1 rfl 100 rfl ?_
      refine fm_aload_n C dX5_deeds_100 rfl 1 rfl 101 rfl ?_
      refine fm_get C (t := 0) (by decide) (shM_0 _) rfl inG_X5 6 (by decide) F_X5_25 rfl dX5_deeds_101 104 rfl ?_
      refine fm_iload C dX5_deeds_104 0 rfl 106 rfl ?_
      refine fm_iald C (t := 6) (t0 := 0) (by decide) (shM_6 _) rfl b4 dX5_deeds_106 107 rfl ?_
      refine fm_aload_n C dX5_deeds_107 rfl 1 rfl 108 rfl ?_
      refine fm_get C (t := 0) (by decide) (shM_0 _) rfl inG_X5 7 (by decide) F_X5_28 rfl dX5_deeds_108 111 rfl ?_
      refine fm_iload C dX5_deeds_111 0 rfl 113 rfl ?_
      refine fm_iald C (t := 7) (t0 := 0) (by decide) (shM_7 _) rfl b4 dX5_deeds_113 114 rfl ?_
      obtain ⟨q9, h8, hf⟩ := Option.bind_eq_some_iff.mp hf
      refine fm_callV C Y_X5_push (t := 0) (by decide) (shM_0 _) rfl LM_X5_144 (As := [.int (m7 6 (((6 * x2) + (v 25 x1.toNatClampNeg)).toNatClampNeg)), .int (m7 7 (((6 * x2) + (v 25 x1.toNatClampNeg)).toNatClampNeg))]) (rest := []) (c_X5_push  h8) (by omega) (by omega) rfl (Nat.le_of_ble_eq_true rfl) dX5_deeds_114 117 rfl [] rfl ?_
      obtain rfl := Option.some.inj hf
      exact fm_vret C hr hk0 dX5_deeds_117
    · rw [if_pos c5] at hf
      refine fm_aload_n C dX5_deeds_70 rfl 1 rfl 71 rfl ?_
      refine fm_bipush C (x := 7) dX5_deeds_71 (by decide) 73 rfl ?_
      refine fm_aload_n C dX5_deeds_73 rfl 1 rfl 74 rfl ?_
      refine fm_get C (t := 0) (by decide) (shM_0 _) rfl inG_X5 7 (by decide) F_X5_28 rfl dX5_deeds_74 77 rfl ?_
      refine fm_iload C dX5_deeds_77 0 rfl 79 rfl ?_
      refine fm_iald C (t := 7) (t0 := 0) (by decide) (shM_7 _) rfl b4 dX5_deeds_79 80 rfl ?_
      obtain ⟨q11, h10, hf⟩ := Option.bind_eq_some_iff.mp hf
      refine fm_callV C Y_X5_fails (t := 0) (by decide) (shM_0 _) rfl LM_X5_141 (As := [.int 7, .int (v 7 (((6 * x2) + (v 25 x1.toNatClampNeg)).toNatClampNeg))]) (rest := []) (c_X5_fails  h10) (by omega) (by omega) rfl (Nat.le_of_ble_eq_true rfl) dX5_deeds_80 83 rfl [] rfl ?_
      refine fm_aload_n C dX5_deeds_83 rfl 1 rfl 84 rfl ?_
      refine fm_iload_n C dX5_deeds_84 rfl 4 rfl 85 rfl ?_
      refine fm_iload_n C dX5_deeds_85 rfl 3 rfl 86 rfl ?_
      obtain ⟨q13, h12, hf⟩ := Option.bind_eq_some_iff.mp hf
      refine fm_callV C Y_X5_breaks (t := 0) (by decide) (shM_0 _) rfl LM_X5_173 (As := [.int x3, .int x2]) (rest := []) (c_X5_breaks  h12) (by omega) (by omega) rfl (Nat.le_of_ble_eq_true rfl) dX5_deeds_86 89 rfl [] rfl ?_
      refine fm_goto C 117 dX5_deeds_89 (by decide) ?_
      obtain rfl := Option.some.inj hf
      exact fm_vret C hr hk0 dX5_deeds_117
  · rw [if_pos c3] at hf
    refine fm_aload_n C dX5_deeds_28 rfl 1 rfl 29 rfl ?_
    refine fm_get C (t := 0) (by decide) (shM_0 _) rfl inG_X5 14 (by decide) F_X5_46 rfl dX5_deeds_29 32 rfl ?_
    refine fm_iload_n C dX5_deeds_32 rfl 4 rfl 33 rfl ?_
    refine fm_iconst C (x := 1) dX5_deeds_33 (by decide) 34 rfl ?_
    by_cases b14 : x3 < 0 ∨ 60 ≤ x3.toNatClampNeg
    · rw [if_pos b14] at hf; cases hf
    rw [if_neg b14] at hf
    obtain ⟨m16, e15, hf⟩ := Option.bind_eq_some_iff.mp hf
    refine fm_iast C (t := 13) (t0 := 0) (by decide) shM_13 rfl b14 dX5_deeds_34 35 rfl m16 (Option.some.inj e15) ?_
    refine fm_aload_n C dX5_deeds_35 rfl 1 rfl 36 rfl ?_
    refine fm_iconst C (x := 1) dX5_deeds_36 (by decide) 37 rfl ?_
    refine fm_iload_n C dX5_deeds_37 rfl 3 rfl 38 rfl ?_
    obtain ⟨q18, h17, hf⟩ := Option.bind_eq_some_iff.mp hf
    refine fm_callV C Y_X5_mark (t := 0) (by decide) (shM_0 _) rfl LM_X5_161 (As := [.int 1, .int x2]) (rest := []) (c_X5_mark  h17) (by omega) (by omega) rfl (Nat.le_of_ble_eq_true rfl) dX5_deeds_38 41 rfl [] rfl ?_
    refine fm_aload_n C dX5_deeds_41 rfl 1 rfl 42 rfl ?_
    refine fm_iconst C (x := 0) dX5_deeds_42 (by decide) 43 rfl ?_
    obtain ⟨q20, h19, hf⟩ := Option.bind_eq_some_iff.mp hf
    refine fm_callV C Y_X5_gives (t := 0) (by decide) (shM_0 _) rfl LM_X5_157 (As := [.int 0]) (rest := []) (c_X5_gives  h19) (by omega) (by omega) rfl (Nat.le_of_ble_eq_true rfl) dX5_deeds_43 46 rfl [] rfl ?_
    refine fm_aload_n C dX5_deeds_46 rfl 1 rfl 47 rfl ?_
    refine fm_dup C dX5_deeds_47 rfl 48 rfl ?_
    refine fm_get C (t := 0) (by decide) (shM_0 _) rfl inG_X5 32 (by decide) F_X5_109 rfl dX5_deeds_48 51 rfl ?_
    refine fm_iconst C (x := 1) dX5_deeds_51 (by decide) 52 rfl ?_
    refine fm_isub C dX5_deeds_52 53 rfl ?_
    obtain ⟨m22, e21, hf⟩ := Option.bind_eq_some_iff.mp hf
    refine fm_put C (t := 0) (by decide) (shM_0 _) rfl inG_X5 32 (by decide) F_X5_109 tyX5 tyX5_ok nmX5 rfl (ty := .int) (by decide +kernel) rfl rfl (Nat.le_of_ble_eq_true rfl) ((shM_0 _).trans rfl) dX5_deeds_53 56 rfl m22 (Option.some.inj e21) ?_
    refine fm_goto C 117 dX5_deeds_56 (by decide) ?_
    obtain rfl := Option.some.inj hf
    exact fm_vret C hr hk0 dX5_deeds_117
def f_X5_starts_94 : Nat → Int32 → Int32 → Int32 → Int32 → Int32 → fm_T → Option (Int32 × fm_T)
  | 0 => fun _ _ _ _ _ _ => none
  | n + 1 => fun x1 x2 x3 x4 x5 v => (if 8 ≤ x5 then ((f_X5_mark 0 x3 v).bind fun q3 => (if x2 < 0 ∨ 200 ≤ x2.toNatClampNeg then none else ((some (fm_u q3.2 24 x2.toNatClampNeg 1) : Option fm_T).bind fun m6 => some (0, m6)))) else (if (8 * x3) + x5 < 0 ∨ 96 ≤ ((8 * x3) + x5).toNatClampNeg then none else (if ((96 * x1) + (8 * x3)) + x5 < 0 ∨ 480 ≤ (((96 * x1) + (8 * x3)) + x5).toNatClampNeg then none else ((some (fm_u v 14 ((((96 * x1) + (8 * x3)) + x5).toNatClampNeg) (v 2 (((8 * x3) + x5).toNatClampNeg))) : Option fm_T).bind fun m10 => f_X5_starts_94 n x1 x2 x3 x4 (x5 + 1) m10))))
theorem f_X5_starts_94_s (n : Nat)  (x1 : Int32) (x2 : Int32) (x3 : Int32) (x4 : Int32) (x5 : Int32) (v : fm_T) : f_X5_starts_94 (n + 1) x1 x2 x3 x4 x5 v = (if 8 ≤ x5 then ((f_X5_mark 0 x3 v).bind fun q3 => (if x2 < 0 ∨ 200 ≤ x2.toNatClampNeg then none else ((some (fm_u q3.2 24 x2.toNatClampNeg 1) : Option fm_T).bind fun m6 => some (0, m6)))) else (if (8 * x3) + x5 < 0 ∨ 96 ≤ ((8 * x3) + x5).toNatClampNeg then none else (if ((96 * x1) + (8 * x3)) + x5 < 0 ∨ 480 ≤ (((96 * x1) + (8 * x3)) + x5).toNatClampNeg then none else ((some (fm_u v 14 ((((96 * x1) + (8 * x3)) + x5).toNatClampNeg) (v 2 (((8 * x3) + x5).toNatClampNeg))) : Option fm_T).bind fun m10 => f_X5_starts_94 n x1 x2 x3 x4 (x5 + 1) m10)))) := rfl
set_option maxHeartbeats 4000000 in
set_option maxRecDepth 20000 in
theorem b_X5_starts_94   {p : Program} {e : Env} {R : Room} {s : State} {m : MethodId} {args : Array Value} {below : List Frame} {meth : Method} {c : Code} (C : fm_C p s m args c cX5_starts RX5 6 D (fm_tys cI cII cLd cOc) tA b 29 A) (hr : meth.sig.returnType = none) (hk0 : meth.locks = false) (hF : 3 ≤ R.frames) (hLo : 40 * 3 ≤ R.locals) : ∀ (n : Nat) (x1 : Int32) (x2 : Int32) (x3 : Int32) (x4 : Int32) (x5 : Int32) (v : fm_T) {q : Int32 × fm_T}, f_X5_starts_94 n x1 x2 x3 x4 x5 v = some q → fm_V p l e R s m args below meth c D b 29 (shM cI b) A (MQ below (fm_Q D b 29 (shM cI b) A none q.2) args s 0 0 A) 6 94 [(0, .ref (b + 0)), (1, .int x1), (2, .int x2), (3, .int x3), (4, .int x4), (5, .int x5)] [] v := by
  intro n
  induction n with
  | zero =>
    intro x1 x2 x3 x4 x5 v q hf
    cases (show (none : Option (Int32 × fm_T)) = some q from hf)
  | succ n ih =>
    intro x1 x2 x3 x4 x5 v q hf
    rw [f_X5_starts_94_s] at hf
    refine fm_iload C dX5_starts_94 5 rfl 96 rfl ?_
    refine fm_bipush C (x := 8) dX5_starts_96 (by decide) 98 rfl ?_
    refine fm_icmp_ge C 136 dX5_starts_98 (by decide) (fun c1 => ?_) 101 rfl (fun c1 => ?_)
    · rw [if_pos c1] at hf
      refine fm_aload_n C dX5_starts_136 rfl 0 rfl 137 rfl ?_
      refine fm_iconst C (x := 0) dX5_starts_137 (by decide) 138 rfl ?_
      refine fm_iload_n C dX5_starts_138 rfl 3 rfl 139 rfl ?_
      obtain ⟨q3, h2, hf⟩ := Option.bind_eq_some_iff.mp hf
      refine fm_callV C Y_X5_mark (t := 0) (by decide) (shM_0 _) rfl LM_X5_161 (As := [.int 0, .int x3]) (rest := []) (c_X5_mark  h2) (by omega) (by omega) rfl (Nat.le_of_ble_eq_true rfl) dX5_starts_139 142 rfl [] rfl ?_
      refine fm_aload_n C dX5_starts_142 rfl 0 rfl 143 rfl ?_
      refine fm_get C (t := 0) (by decide) (shM_0 _) rfl inG_X5 30 (by decide) F_X5_79 rfl dX5_starts_143 146 rfl ?_
      refine fm_iload_n C dX5_starts_146 rfl 2 rfl 147 rfl ?_
      refine fm_iconst C (x := 1) dX5_starts_147 (by decide) 148 rfl ?_
      by_cases b4 : x2 < 0 ∨ 200 ≤ x2.toNatClampNeg
      · rw [if_pos b4] at hf; cases hf
      rw [if_neg b4] at hf
      obtain ⟨m6, e5, hf⟩ := Option.bind_eq_some_iff.mp hf
      refine fm_iast C (t := 24) (t0 := 0) (by decide) shM_24 rfl b4 dX5_starts_148 149 rfl m6 (Option.some.inj e5) ?_
      refine fm_goto C 284 dX5_starts_149 (by decide) ?_
      obtain rfl := Option.some.inj hf
      exact fm_vret C hr hk0 dX5_starts_284
    · rw [if_neg c1] at hf
      refine fm_aload_n C dX5_starts_101 rfl 0 rfl 102 rfl ?_
      refine fm_get C (t := 0) (by decide) (shM_0 _) rfl inG_X5 15 (by decide) F_X5_49 rfl dX5_starts_102 105 rfl ?_
      refine fm_bipush C (x := 96) dX5_starts_105 (by decide) 107 rfl ?_
      refine fm_iload_n C dX5_starts_107 rfl 1 rfl 108 rfl ?_
      refine fm_imul C dX5_starts_108 109 rfl ?_
      refine fm_bipush C (x := 8) dX5_starts_109 (by decide) 111 rfl ?_
      refine fm_iload_n C dX5_starts_111 rfl 3 rfl 112 rfl ?_
      refine fm_imul C dX5_starts_112 113 rfl ?_
      refine fm_iadd C dX5_starts_113 114 rfl ?_
      refine fm_iload C dX5_starts_114 5 rfl 116 rfl ?_
      refine fm_iadd C dX5_starts_116 117 rfl ?_
      refine fm_aload_n C dX5_starts_117 rfl 0 rfl 118 rfl ?_
      refine fm_get C (t := 0) (by decide) (shM_0 _) rfl inG_X5 2 (by decide) F_X5_13 rfl dX5_starts_118 121 rfl ?_
      refine fm_bipush C (x := 8) dX5_starts_121 (by decide) 123 rfl ?_
      refine fm_iload_n C dX5_starts_123 rfl 3 rfl 124 rfl ?_
      refine fm_imul C dX5_starts_124 125 rfl ?_
      refine fm_iload C dX5_starts_125 5 rfl 127 rfl ?_
      refine fm_iadd C dX5_starts_127 128 rfl ?_
      by_cases b7 : (8 * x3) + x5 < 0 ∨ 96 ≤ ((8 * x3) + x5).toNatClampNeg
      · rw [if_pos b7] at hf; cases hf
      rw [if_neg b7] at hf
      refine fm_iald C (t := 2) (t0 := 0) (by decide) (shM_2 _) rfl b7 dX5_starts_128 129 rfl ?_
      by_cases b8 : ((96 * x1) + (8 * x3)) + x5 < 0 ∨ 480 ≤ (((96 * x1) + (8 * x3)) + x5).toNatClampNeg
      · rw [if_pos b8] at hf; cases hf
      rw [if_neg b8] at hf
      obtain ⟨m10, e9, hf⟩ := Option.bind_eq_some_iff.mp hf
      refine fm_iast C (t := 14) (t0 := 0) (by decide) shM_14 rfl b8 dX5_starts_129 130 rfl m10 (Option.some.inj e9) ?_
      refine fm_iinc C [(5, .int (x5 + 1)), (0, .ref (b + 0)), (1, .int x1), (2, .int x2), (3, .int x3), (4, .int x4)] dX5_starts_130 5 rfl rfl (by decide) rfl 133 rfl ?_
      refine fm_goto C 94 dX5_starts_133 (by decide) ?_
      refine fm_lv [1, 2, 3, 4, 5, 0] [(0, .ref (b + 0)), (1, .int x1), (2, .int x2), (3, .int x3), (4, .int x4), (5, .int (x5 + 1))] rfl ?_
      exact ih x1 x2 x3 x4 (x5 + 1) m10 hf
def f_X5_starts (x1 : Int32) (x2 : Int32) (v : fm_T) : Option (Int32 × fm_T) := (if x2 < 0 ∨ 200 ≤ x2.toNatClampNeg then none else (if v 24 x2.toNatClampNeg = 0 then (if (12 * x1) + (v 23 x2.toNatClampNeg) < 0 ∨ 60 ≤ ((12 * x1) + (v 23 x2.toNatClampNeg)).toNatClampNeg then none else (if v 13 (((12 * x1) + (v 23 x2.toNatClampNeg)).toNatClampNeg) = 3 then ((f_X5_fails 6 (v 23 x2.toNatClampNeg) v).bind fun q45 => ((some (fm_u q45.2 0 32 ((q45.2 0 32) - 1)) : Option fm_T).bind fun m47 => some (0, m47))) else (if v 13 (((12 * x1) + (v 23 x2.toNatClampNeg)).toNatClampNeg) = 0 then ((some (fm_u v 13 (((12 * x1) + (v 23 x2.toNatClampNeg)).toNatClampNeg) 2) : Option fm_T).bind fun m39 => f_X5_starts_94 1000 x1 x2 (v 23 x2.toNatClampNeg) ((12 * x1) + (v 23 x2.toNatClampNeg)) 0 m39) else ((f_X5_gives 0 v).bind fun q41 => ((some (fm_u q41.2 0 32 ((q41.2 0 32) - 1)) : Option fm_T).bind fun m43 => some (0, m43)))))) else (if (v 24 x2.toNatClampNeg) - (v 24 x2.toNatClampNeg) / 2 * 2 = 0 then (if v 0 34 ≤ 0 then ((some (fm_u v 25 x2.toNatClampNeg ((v 25 x2.toNatClampNeg) + 1)) : Option fm_T).bind fun m30 => ((some (fm_u m30 24 x2.toNatClampNeg ((m30 24 x2.toNatClampNeg) - 1)) : Option fm_T).bind fun m32 => some (0, m32))) else ((f_X5_breaks ((12 * x1) + (v 23 x2.toNatClampNeg)) (v 23 x2.toNatClampNeg) v).bind fun q34 => some (0, q34.2))) else (if v 24 x2.toNatClampNeg = 1 then (if v 23 x2.toNatClampNeg < 0 ∨ 12 ≤ (v 23 x2.toNatClampNeg).toNatClampNeg then none else (if v 3 ((v 23 x2.toNatClampNeg).toNatClampNeg) ≤ v 25 x2.toNatClampNeg then ((some (fm_u v 25 x2.toNatClampNeg 0) : Option fm_T).bind fun m20 => ((some (fm_u m20 24 x2.toNatClampNeg 3) : Option fm_T).bind fun m22 => some (0, m22))) else ((some (fm_u v 24 x2.toNatClampNeg 2) : Option fm_T).bind fun m24 => (if (6 * (v 23 x2.toNatClampNeg)) + (m24 25 x2.toNatClampNeg) < 0 ∨ 72 ≤ ((6 * (v 23 x2.toNatClampNeg)) + (m24 25 x2.toNatClampNeg)).toNatClampNeg then none else ((f_X5_push 1 (m24 4 (((6 * (v 23 x2.toNatClampNeg)) + (m24 25 x2.toNatClampNeg)).toNatClampNeg)) m24).bind fun q27 => some (0, q27.2)))))) else ((f_X5_deeds x2 (v 23 x2.toNatClampNeg) ((12 * x1) + (v 23 x2.toNatClampNeg)) v).bind fun q16 => some (0, q16.2))))))
set_option maxHeartbeats 4000000 in
set_option maxRecDepth 20000 in
theorem c_X5_starts {x1 : Int32} {x2 : Int32}  {v : fm_T} {q : Int32 × fm_T} (hf : f_X5_starts x1 x2 v = some q) : fm_M l D (fm_tys cI cII cLd cOc) tA b 29 (shM cI b) A yX5_starts cX5_starts 6 none 3 [.ref (b + 0), .int x1, .int x2] v none q.2 := by
  refine fm_entry (by decide) (Nat.le_of_ble_eq_true rfl) ?_
  intro p e R s m args below meth c C hr hk0 hF hLo
  unfold f_X5_starts at hf
  show fm_V p l e R s m args below meth c D b 29 (shM cI b) A _ 6 0 [(0, .ref (b + 0)), (1, .int x1), (2, .int x2)] [] v
  refine fm_aload_n C dX5_starts_0 rfl 0 rfl 1 rfl ?_
  refine fm_get C (t := 0) (by decide) (shM_0 _) rfl inG_X5 29 (by decide) F_X5_76 rfl dX5_starts_1 4 rfl ?_
  refine fm_iload_n C dX5_starts_4 rfl 2 rfl 5 rfl ?_
  by_cases b11 : x2 < 0 ∨ 200 ≤ x2.toNatClampNeg
  · rw [if_pos b11] at hf; cases hf
  rw [if_neg b11] at hf
  refine fm_iald C (t := 23) (t0 := 0) (by decide) (shM_23 _) rfl b11 dX5_starts_5 6 rfl ?_
  refine fm_istore_n C [(3, .int (v 23 x2.toNatClampNeg)), (0, .ref (b + 0)), (1, .int x1), (2, .int x2)] dX5_starts_6 rfl (by decide) rfl 7 rfl ?_
  refine fm_bipush C (x := 12) dX5_starts_7 (by decide) 9 rfl ?_
  refine fm_iload_n C dX5_starts_9 rfl 2 rfl 10 rfl ?_
  refine fm_imul C dX5_starts_10 11 rfl ?_
  refine fm_iload_n C dX5_starts_11 rfl 0 rfl 12 rfl ?_
  refine fm_iadd C dX5_starts_12 13 rfl ?_
  refine fm_istore C [(4, .int ((12 * x1) + (v 23 x2.toNatClampNeg))), (3, .int (v 23 x2.toNatClampNeg)), (0, .ref (b + 0)), (1, .int x1), (2, .int x2)] dX5_starts_13 (by decide) rfl 15 rfl ?_
  refine fm_aload_n C dX5_starts_15 rfl 2 rfl 16 rfl ?_
  refine fm_get C (t := 0) (by decide) (shM_0 _) rfl inG_X5 30 (by decide) F_X5_79 rfl dX5_starts_16 19 rfl ?_
  refine fm_iload_n C dX5_starts_19 rfl 4 rfl 20 rfl ?_
  refine fm_iald C (t := 24) (t0 := 0) (by decide) (shM_24 _) rfl b11 dX5_starts_20 21 rfl ?_
  refine fm_if_ne C 152 dX5_starts_21 (by decide) (fun c12 => ?_) 24 rfl (fun c12 => ?_)
  · rw [if_neg c12] at hf
    refine fm_aload_n C dX5_starts_152 rfl 2 rfl 153 rfl ?_
    refine fm_get C (t := 0) (by decide) (shM_0 _) rfl inG_X5 30 (by decide) F_X5_79 rfl dX5_starts_153 156 rfl ?_
    refine fm_iload_n C dX5_starts_156 rfl 4 rfl 157 rfl ?_
    refine fm_iald C (t := 24) (t0 := 0) (by decide) (shM_24 _) rfl b11 dX5_starts_157 158 rfl ?_
    refine fm_iconst C (x := 2) dX5_starts_158 (by decide) 159 rfl ?_
    refine fm_irem C dX5_starts_159 (by decide) 160 rfl ?_
    refine fm_if_ne C 203 dX5_starts_160 (by decide) (fun c13 => ?_) 163 rfl (fun c13 => ?_)
    · rw [if_neg c13] at hf
      refine fm_aload_n C dX5_starts_203 rfl 2 rfl 204 rfl ?_
      refine fm_get C (t := 0) (by decide) (shM_0 _) rfl inG_X5 30 (by decide) F_X5_79 rfl dX5_starts_204 207 rfl ?_
      refine fm_iload_n C dX5_starts_207 rfl 4 rfl 208 rfl ?_
      refine fm_iald C (t := 24) (t0 := 0) (by decide) (shM_24 _) rfl b11 dX5_starts_208 209 rfl ?_
      refine fm_iconst C (x := 1) dX5_starts_209 (by decide) 210 rfl ?_
      refine fm_icmp_ne C 276 dX5_starts_210 (by decide) (fun c14 => ?_) 213 rfl (fun c14 => ?_)
      · rw [if_neg c14] at hf
        refine fm_aload_n C dX5_starts_276 rfl 2 rfl 277 rfl ?_
        refine fm_iload_n C dX5_starts_277 rfl 4 rfl 278 rfl ?_
        refine fm_iload_n C dX5_starts_278 rfl 1 rfl 279 rfl ?_
        refine fm_iload C dX5_starts_279 0 rfl 281 rfl ?_
        obtain ⟨q16, h15, hf⟩ := Option.bind_eq_some_iff.mp hf
        refine fm_callV C Y_X5_deeds (t := 0) (by decide) (shM_0 _) rfl LM_X5_176 (As := [.int x2, .int (v 23 x2.toNatClampNeg), .int ((12 * x1) + (v 23 x2.toNatClampNeg))]) (rest := []) (c_X5_deeds  h15) (by omega) (by omega) rfl (Nat.le_of_ble_eq_true rfl) dX5_starts_281 284 rfl [] rfl ?_
        obtain rfl := Option.some.inj hf
        exact fm_vret C hr hk0 dX5_starts_284
      · rw [if_pos c14] at hf
        refine fm_aload_n C dX5_starts_213 rfl 2 rfl 214 rfl ?_
        refine fm_get C (t := 0) (by decide) (shM_0 _) rfl inG_X5 31 (by decide) F_X5_82 rfl dX5_starts_214 217 rfl ?_
        refine fm_iload_n C dX5_starts_217 rfl 4 rfl 218 rfl ?_
        refine fm_iald C (t := 25) (t0 := 0) (by decide) (shM_25 _) rfl b11 dX5_starts_218 219 rfl ?_
        refine fm_aload_n C dX5_starts_219 rfl 2 rfl 220 rfl ?_
        refine fm_get C (t := 0) (by decide) (shM_0 _) rfl inG_X5 3 (by decide) F_X5_16 rfl dX5_starts_220 223 rfl ?_
        refine fm_iload_n C dX5_starts_223 rfl 1 rfl 224 rfl ?_
        by_cases b17 : v 23 x2.toNatClampNeg < 0 ∨ 12 ≤ (v 23 x2.toNatClampNeg).toNatClampNeg
        · rw [if_pos b17] at hf; cases hf
        rw [if_neg b17] at hf
        refine fm_iald C (t := 3) (t0 := 0) (by decide) (shM_3 _) rfl b17 dX5_starts_224 225 rfl ?_
        refine fm_icmp_ge C 259 dX5_starts_225 (by decide) (fun c18 => ?_) 228 rfl (fun c18 => ?_)
        · rw [if_pos c18] at hf
          refine fm_aload_n C dX5_starts_259 rfl 2 rfl 260 rfl ?_
          refine fm_get C (t := 0) (by decide) (shM_0 _) rfl inG_X5 31 (by decide) F_X5_82 rfl dX5_starts_260 263 rfl ?_
          refine fm_iload_n C dX5_starts_263 rfl 4 rfl 264 rfl ?_
          refine fm_iconst C (x := 0) dX5_starts_264 (by decide) 265 rfl ?_
          obtain ⟨m20, e19, hf⟩ := Option.bind_eq_some_iff.mp hf
          refine fm_iast C (t := 25) (t0 := 0) (by decide) shM_25 rfl b11 dX5_starts_265 266 rfl m20 (Option.some.inj e19) ?_
          refine fm_aload_n C dX5_starts_266 rfl 2 rfl 267 rfl ?_
          refine fm_get C (t := 0) (by decide) (shM_0 _) rfl inG_X5 30 (by decide) F_X5_79 rfl dX5_starts_267 270 rfl ?_
          refine fm_iload_n C dX5_starts_270 rfl 4 rfl 271 rfl ?_
          refine fm_iconst C (x := 3) dX5_starts_271 (by decide) 272 rfl ?_
          obtain ⟨m22, e21, hf⟩ := Option.bind_eq_some_iff.mp hf
          refine fm_iast C (t := 24) (t0 := 0) (by decide) shM_24 rfl b11 dX5_starts_272 273 rfl m22 (Option.some.inj e21) ?_
          refine fm_goto C 284 dX5_starts_273 (by decide) ?_
          obtain rfl := Option.some.inj hf
          exact fm_vret C hr hk0 dX5_starts_284
        · rw [if_neg c18] at hf
          refine fm_aload_n C dX5_starts_228 rfl 2 rfl 229 rfl ?_
          refine fm_get C (t := 0) (by decide) (shM_0 _) rfl inG_X5 30 (by decide) F_X5_79 rfl dX5_starts_229 232 rfl ?_
          refine fm_iload_n C dX5_starts_232 rfl 4 rfl 233 rfl ?_
          refine fm_iconst C (x := 2) dX5_starts_233 (by decide) 234 rfl ?_
          obtain ⟨m24, e23, hf⟩ := Option.bind_eq_some_iff.mp hf
          refine fm_iast C (t := 24) (t0 := 0) (by decide) shM_24 rfl b11 dX5_starts_234 235 rfl m24 (Option.some.inj e23) ?_
          refine fm_aload_n C dX5_starts_235 rfl 2 rfl 236 rfl ?_
          refine fm_iconst C (x := 1) dX5_starts_236 (by decide) 237 rfl ?_
          refine fm_aload_n C dX5_starts_237 rfl 2 rfl 238 rfl ?_
          refine fm_get C (t := 0) (by decide) (shM_0 _) rfl inG_X5 4 (by decide) F_X5_19 rfl dX5_starts_238 241 rfl ?_
          refine fm_bipush C (x := 6) dX5_starts_241 (by decide) 243 rfl ?_
          refine fm_iload_n C dX5_starts_243 rfl 1 rfl 244 rfl ?_
          refine fm_imul C dX5_starts_244 245 rfl ?_
          refine fm_aload_n C dX5_starts_245 rfl 2 rfl 246 rfl ?_
          refine fm_get C (t := 0) (by decide) (shM_0 _) rfl inG_X5 31 (by decide) F_X5_82 rfl dX5_starts_246 249 rfl ?_
          refine fm_iload_n C dX5_starts_249 rfl 4 rfl 250 rfl ?_
          refine fm_iald C (t := 25) (t0 := 0) (by decide) (shM_25 _) rfl b11 dX5_starts_250 251 rfl ?_
          refine fm_iadd C dX5_starts_251 252 rfl ?_
          by_cases b25 : (6 * (v 23 x2.toNatClampNeg)) + (m24 25 x2.toNatClampNeg) < 0 ∨ 72 ≤ ((6 * (v 23 x2.toNatClampNeg)) + (m24 25 x2.toNatClampNeg)).toNatClampNeg
          · rw [if_pos b25] at hf; cases hf
          rw [if_neg b25] at hf
          refine fm_iald C (t := 4) (t0 := 0) (by decide) (shM_4 _) rfl b25 dX5_starts_252 253 rfl ?_
          obtain ⟨q27, h26, hf⟩ := Option.bind_eq_some_iff.mp hf
          refine fm_callV C Y_X5_push (t := 0) (by decide) (shM_0 _) rfl LM_X5_144 (As := [.int 1, .int (m24 4 (((6 * (v 23 x2.toNatClampNeg)) + (m24 25 x2.toNatClampNeg)).toNatClampNeg))]) (rest := []) (c_X5_push  h26) (by omega) (by omega) rfl (Nat.le_of_ble_eq_true rfl) dX5_starts_253 256 rfl [] rfl ?_
          refine fm_goto C 284 dX5_starts_256 (by decide) ?_
          obtain rfl := Option.some.inj hf
          exact fm_vret C hr hk0 dX5_starts_284
    · rw [if_pos c13] at hf
      refine fm_aload_n C dX5_starts_163 rfl 2 rfl 164 rfl ?_
      refine fm_get C (t := 0) (by decide) (shM_0 _) rfl inG_X5 34 (by decide) F_X5_119 rfl dX5_starts_164 167 rfl ?_
      refine fm_if_le C 180 dX5_starts_167 (by decide) (fun c28 => ?_) 170 rfl (fun c28 => ?_)
      · rw [if_pos c28] at hf
        refine fm_aload_n C dX5_starts_180 rfl 2 rfl 181 rfl ?_
        refine fm_get C (t := 0) (by decide) (shM_0 _) rfl inG_X5 31 (by decide) F_X5_82 rfl dX5_starts_181 184 rfl ?_
        refine fm_iload_n C dX5_starts_184 rfl 4 rfl 185 rfl ?_
        refine fm_dup2 C dX5_starts_185 rfl rfl 186 rfl ?_
        refine fm_iald C (t := 25) (t0 := 0) (by decide) (shM_25 _) rfl b11 dX5_starts_186 187 rfl ?_
        refine fm_iconst C (x := 1) dX5_starts_187 (by decide) 188 rfl ?_
        refine fm_iadd C dX5_starts_188 189 rfl ?_
        obtain ⟨m30, e29, hf⟩ := Option.bind_eq_some_iff.mp hf
        refine fm_iast C (t := 25) (t0 := 0) (by decide) shM_25 rfl b11 dX5_starts_189 190 rfl m30 (Option.some.inj e29) ?_
        refine fm_aload_n C dX5_starts_190 rfl 2 rfl 191 rfl ?_
        refine fm_get C (t := 0) (by decide) (shM_0 _) rfl inG_X5 30 (by decide) F_X5_79 rfl dX5_starts_191 194 rfl ?_
        refine fm_iload_n C dX5_starts_194 rfl 4 rfl 195 rfl ?_
        refine fm_dup2 C dX5_starts_195 rfl rfl 196 rfl ?_
        refine fm_iald C (t := 24) (t0 := 0) (by decide) (shM_24 _) rfl b11 dX5_starts_196 197 rfl ?_
        refine fm_iconst C (x := 1) dX5_starts_197 (by decide) 198 rfl ?_
        refine fm_isub C dX5_starts_198 199 rfl ?_
        obtain ⟨m32, e31, hf⟩ := Option.bind_eq_some_iff.mp hf
        refine fm_iast C (t := 24) (t0 := 0) (by decide) shM_24 rfl b11 dX5_starts_199 200 rfl m32 (Option.some.inj e31) ?_
        refine fm_goto C 284 dX5_starts_200 (by decide) ?_
        obtain rfl := Option.some.inj hf
        exact fm_vret C hr hk0 dX5_starts_284
      · rw [if_neg c28] at hf
        refine fm_aload_n C dX5_starts_170 rfl 2 rfl 171 rfl ?_
        refine fm_iload C dX5_starts_171 0 rfl 173 rfl ?_
        refine fm_iload_n C dX5_starts_173 rfl 1 rfl 174 rfl ?_
        obtain ⟨q34, h33, hf⟩ := Option.bind_eq_some_iff.mp hf
        refine fm_callV C Y_X5_breaks (t := 0) (by decide) (shM_0 _) rfl LM_X5_173 (As := [.int ((12 * x1) + (v 23 x2.toNatClampNeg)), .int (v 23 x2.toNatClampNeg)]) (rest := []) (c_X5_breaks  h33) (by omega) (by omega) rfl (Nat.le_of_ble_eq_true rfl) dX5_starts_174 177 rfl [] rfl ?_
        refine fm_goto C 284 dX5_starts_177 (by decide) ?_
        obtain rfl := Option.some.inj hf
        exact fm_vret C hr hk0 dX5_starts_284
  · rw [if_pos c12] at hf
    refine fm_aload_n C dX5_starts_24 rfl 2 rfl 25 rfl ?_
    refine fm_get C (t := 0) (by decide) (shM_0 _) rfl inG_X5 14 (by decide) F_X5_46 rfl dX5_starts_25 28 rfl ?_
    refine fm_iload C dX5_starts_28 0 rfl 30 rfl ?_
    by_cases b35 : (12 * x1) + (v 23 x2.toNatClampNeg) < 0 ∨ 60 ≤ ((12 * x1) + (v 23 x2.toNatClampNeg)).toNatClampNeg
    · rw [if_pos b35] at hf; cases hf
    rw [if_neg b35] at hf
    refine fm_iald C (t := 13) (t0 := 0) (by decide) (shM_13 _) rfl b35 dX5_starts_30 31 rfl ?_
    refine fm_iconst C (x := 3) dX5_starts_31 (by decide) 32 rfl ?_
    refine fm_icmp_ne C 55 dX5_starts_32 (by decide) (fun c36 => ?_) 35 rfl (fun c36 => ?_)
    · rw [if_neg c36] at hf
      refine fm_aload_n C dX5_starts_55 rfl 2 rfl 56 rfl ?_
      refine fm_get C (t := 0) (by decide) (shM_0 _) rfl inG_X5 14 (by decide) F_X5_46 rfl dX5_starts_56 59 rfl ?_
      refine fm_iload C dX5_starts_59 0 rfl 61 rfl ?_
      refine fm_iald C (t := 13) (t0 := 0) (by decide) (shM_13 _) rfl b35 dX5_starts_61 62 rfl ?_
      refine fm_if_eq C 83 dX5_starts_62 (by decide) (fun c37 => ?_) 65 rfl (fun c37 => ?_)
      · rw [if_pos c37] at hf
        refine fm_aload_n C dX5_starts_83 rfl 2 rfl 84 rfl ?_
        refine fm_get C (t := 0) (by decide) (shM_0 _) rfl inG_X5 14 (by decide) F_X5_46 rfl dX5_starts_84 87 rfl ?_
        refine fm_iload C dX5_starts_87 0 rfl 89 rfl ?_
        refine fm_iconst C (x := 2) dX5_starts_89 (by decide) 90 rfl ?_
        obtain ⟨m39, e38, hf⟩ := Option.bind_eq_some_iff.mp hf
        refine fm_iast C (t := 13) (t0 := 0) (by decide) shM_13 rfl b35 dX5_starts_90 91 rfl m39 (Option.some.inj e38) ?_
        refine fm_iconst C (x := 0) dX5_starts_91 (by decide) 92 rfl ?_
        refine fm_istore C [(5, .int 0), (4, .int ((12 * x1) + (v 23 x2.toNatClampNeg))), (3, .int (v 23 x2.toNatClampNeg)), (0, .ref (b + 0)), (1, .int x1), (2, .int x2)] dX5_starts_92 (by decide) rfl 94 rfl ?_
        refine fm_lv [3, 4, 5, 2, 1, 0] [(0, .ref (b + 0)), (1, .int x1), (2, .int x2), (3, .int (v 23 x2.toNatClampNeg)), (4, .int ((12 * x1) + (v 23 x2.toNatClampNeg))), (5, .int 0)] rfl ?_
        exact b_X5_starts_94  C hr hk0 hF hLo 1000 x1 x2 (v 23 x2.toNatClampNeg) ((12 * x1) + (v 23 x2.toNatClampNeg)) 0 m39 hf
      · rw [if_neg c37] at hf
        refine fm_aload_n C dX5_starts_65 rfl 2 rfl 66 rfl ?_
        refine fm_iconst C (x := 0) dX5_starts_66 (by decide) 67 rfl ?_
        obtain ⟨q41, h40, hf⟩ := Option.bind_eq_some_iff.mp hf
        refine fm_callV C Y_X5_gives (t := 0) (by decide) (shM_0 _) rfl LM_X5_157 (As := [.int 0]) (rest := []) (c_X5_gives  h40) (by omega) (by omega) rfl (Nat.le_of_ble_eq_true rfl) dX5_starts_67 70 rfl [] rfl ?_
        refine fm_aload_n C dX5_starts_70 rfl 2 rfl 71 rfl ?_
        refine fm_dup C dX5_starts_71 rfl 72 rfl ?_
        refine fm_get C (t := 0) (by decide) (shM_0 _) rfl inG_X5 32 (by decide) F_X5_109 rfl dX5_starts_72 75 rfl ?_
        refine fm_iconst C (x := 1) dX5_starts_75 (by decide) 76 rfl ?_
        refine fm_isub C dX5_starts_76 77 rfl ?_
        obtain ⟨m43, e42, hf⟩ := Option.bind_eq_some_iff.mp hf
        refine fm_put C (t := 0) (by decide) (shM_0 _) rfl inG_X5 32 (by decide) F_X5_109 tyX5 tyX5_ok nmX5 rfl (ty := .int) (by decide +kernel) rfl rfl (Nat.le_of_ble_eq_true rfl) ((shM_0 _).trans rfl) dX5_starts_77 80 rfl m43 (Option.some.inj e42) ?_
        refine fm_goto C 284 dX5_starts_80 (by decide) ?_
        obtain rfl := Option.some.inj hf
        exact fm_vret C hr hk0 dX5_starts_284
    · rw [if_pos c36] at hf
      refine fm_aload_n C dX5_starts_35 rfl 2 rfl 36 rfl ?_
      refine fm_bipush C (x := 6) dX5_starts_36 (by decide) 38 rfl ?_
      refine fm_iload_n C dX5_starts_38 rfl 1 rfl 39 rfl ?_
      obtain ⟨q45, h44, hf⟩ := Option.bind_eq_some_iff.mp hf
      refine fm_callV C Y_X5_fails (t := 0) (by decide) (shM_0 _) rfl LM_X5_141 (As := [.int 6, .int (v 23 x2.toNatClampNeg)]) (rest := []) (c_X5_fails  h44) (by omega) (by omega) rfl (Nat.le_of_ble_eq_true rfl) dX5_starts_39 42 rfl [] rfl ?_
      refine fm_aload_n C dX5_starts_42 rfl 2 rfl 43 rfl ?_
      refine fm_dup C dX5_starts_43 rfl 44 rfl ?_
      refine fm_get C (t := 0) (by decide) (shM_0 _) rfl inG_X5 32 (by decide) F_X5_109 rfl dX5_starts_44 47 rfl ?_
      refine fm_iconst C (x := 1) dX5_starts_47 (by decide) 48 rfl ?_
      refine fm_isub C dX5_starts_48 49 rfl ?_
      obtain ⟨m47, e46, hf⟩ := Option.bind_eq_some_iff.mp hf
      refine fm_put C (t := 0) (by decide) (shM_0 _) rfl inG_X5 32 (by decide) F_X5_109 tyX5 tyX5_ok nmX5 rfl (ty := .int) (by decide +kernel) rfl rfl (Nat.le_of_ble_eq_true rfl) ((shM_0 _).trans rfl) dX5_starts_49 52 rfl m47 (Option.some.inj e46) ?_
      refine fm_goto C 284 dX5_starts_52 (by decide) ?_
      obtain rfl := Option.some.inj hf
      exact fm_vret C hr hk0 dX5_starts_284
end
