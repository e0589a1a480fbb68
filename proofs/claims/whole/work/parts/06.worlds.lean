abbrev fm_tys (cI cII cLd cOc : ClassId) : List (ClassId × FieldType) := [(cI, .int), (cII, .array .int), (cLd, .object "ConstantStarts$Loader"), (cOc, .object "ConstantStarts$Outcome")]
/-- loader k (3: the one aside): its object, the block of its cells, its trace -/
def lo (k : Nat) : Nat := if k < 3 then 66 + 58 * k else 241
def bo (k : Nat) : Nat := if k < 3 then 67 + 58 * k else 245
def ev (k : Nat) : Nat := if k < 3 then 62 else 242
theorem k4 {k : Nat} (h : k < 4) : k = 0 ∨ k = 1 ∨ k = 2 ∨ k = 3 := by omega
abbrev shI (cI : ClassId) (n : Nat) (f : Nat → Int32) : va_E := .inl (cI, n, .inl f)
abbrev shR (c : ClassId) (n : Nat) (g : Nat → Nat) : va_E := .inl (c, n, .inr (.inr (.inr (.inr (fun i => if i < n then some (g i) else none)))))
abbrev shO (f : Nat → Int32) : va_E := .inr (1, [.int (f 0), .int (f 1), .int (f 2), .int (f 3), .int (f 4)])
abbrev shT (b t : Nat) (f : Nat → Int32) : va_E := .inr (3, [.ref (b + (t + 1)), .ref (b + (t + 2)), .int (f 2)])
abbrev shL (b e q : Nat) (f : Nat → Int32) : va_E := .inr (0, [.ref (b + 1), .ref (b + e), .ref (b + q), .ref (b + (q + 1)), .ref (b + (q + 14)), .ref (b + (q + 15)), .ref (b + (q + 16)), .int (f 7)])
def shB (cI cII cOc : ClassId) (b q r : Nat) (f : Nat → Int32) : va_E :=
  if r = 0 then shI cI 12 f else if r = 1 then shR cII 12 (fun i => b + (q + 2 + i)) else if r < 14 then shI cI 8 f else if r = 14 then shI cI 40 f else if r = 15 then shR cOc 40 (fun i => b + (q + 17 + i)) else shO f
def shC (cI cII cLd cOc : ClassId) (b : Nat) : fm_S := fun t f =>
  if t = 0 then .inr (4, [.ref (b + 1), .ref (b + ev 0), .ref (b + 65), .ref (b + 240), .int (f 4), .ref (b + lo 3), .ref (b + 302), .ref (b + 303), .ref (b + 304), .int (f 9)])
  else if t = 1 then .inr (2, [.int (f 0), .ref (b + 2), .ref (b + 3), .ref (b + 16), .ref (b + 17), .ref (b + 30), .ref (b + 31), .ref (b + 44), .int (f 8), .ref (b + 57), .ref (b + 58), .ref (b + 59), .ref (b + 60), .ref (b + 61)])
  else if t = 2 then shI cI 12 f
  else if t = 3 then shR cII 12 (fun i => b + (4 + i))
  else if t < 16 then shI cI 8 f
  else if t = 16 then shI cI 12 f
  else if t = 17 then shR cII 12 (fun i => b + (18 + i))
  else if t < 30 then shI cI 6 f
  else if t = 30 then shI cI 12 f
  else if t = 31 then shR cII 12 (fun i => b + (32 + i))
  else if t < 44 then shI cI 6 f
  else if t = 44 then shR cII 12 (fun i => b + (45 + i))
  else if t < 57 then shI cI 6 f
  else if t < 62 then shI cI 40 f
  else if t = 62 then shT b 62 f
  else if t < 65 then shI cI 200 f
  else if t = 65 then shR cLd 3 (fun i => b + lo i)
  else if t = 66 then shL b 62 67 f
  else if t < 124 then shB cI cII cOc b 67 (t - 67) f
  else if t = 124 then shL b 62 125 f
  else if t < 182 then shB cI cII cOc b 125 (t - 125) f
  else if t = 182 then shL b 62 183 f
  else if t < 240 then shB cI cII cOc b 183 (t - 183) f
  else if t = 240 then shO f
  else if t = 241 then shL b 242 245 f
  else if t = 242 then shT b 242 f
  else if t < 245 then shI cI 200 f
  else if t < 302 then shB cI cII cOc b 245 (t - 245) f
  else shI cI 40 f
section SHC
variable {cI cII cLd cOc : ClassId} {b : Nat} {f : Nat → Int32}
abbrev SC (cI cII cLd cOc : ClassId) (b : Nat) : fm_S := shC cI cII cLd cOc b
theorem shC_0 (f : Nat → Int32) : shC cI cII cLd cOc b 0 f = .inr (4, [.ref (b + 1), .ref (b + ev 0), .ref (b + 65), .ref (b + 240), .int (f 4), .ref (b + lo 3), .ref (b + 302), .ref (b + 303), .ref (b + 304), .int (f 9)]) := rfl
theorem shC_1 (f : Nat → Int32) : shC cI cII cLd cOc b 1 f = .inr (2, [.int (f 0), .ref (b + 2), .ref (b + 3), .ref (b + 16), .ref (b + 17), .ref (b + 30), .ref (b + 31), .ref (b + 44), .int (f 8), .ref (b + 57), .ref (b + 58), .ref (b + 59), .ref (b + 60), .ref (b + 61)]) := rfl
theorem shC_2 (f : Nat → Int32) : shC cI cII cLd cOc b 2 f = shI cI 12 f := rfl
theorem shC_16 (f : Nat → Int32) : shC cI cII cLd cOc b 16 f = shI cI 12 f := rfl
theorem shC_30 (f : Nat → Int32) : shC cI cII cLd cOc b 30 f = shI cI 12 f := rfl
theorem shC_57 (f : Nat → Int32) : shC cI cII cLd cOc b 57 f = shI cI 40 f := rfl
theorem shC_58 (f : Nat → Int32) : shC cI cII cLd cOc b 58 f = shI cI 40 f := rfl
theorem shC_59 (f : Nat → Int32) : shC cI cII cLd cOc b 59 f = shI cI 40 f := rfl
theorem shC_60 (f : Nat → Int32) : shC cI cII cLd cOc b 60 f = shI cI 40 f := rfl
theorem shC_61 (f : Nat → Int32) : shC cI cII cLd cOc b 61 f = shI cI 40 f := rfl
theorem shC_302 (f : Nat → Int32) : shC cI cII cLd cOc b 302 f = shI cI 40 f := rfl
theorem shC_303 (f : Nat → Int32) : shC cI cII cLd cOc b 303 f = shI cI 40 f := rfl
theorem shC_304 (f : Nat → Int32) : shC cI cII cLd cOc b 304 f = shI cI 40 f := rfl
theorem shC_3 (f : Nat → Int32) : shC cI cII cLd cOc b 3 f = shR cII 12 (fun i => b + (4 + i)) := rfl
theorem shC_17 (f : Nat → Int32) : shC cI cII cLd cOc b 17 f = shR cII 12 (fun i => b + (18 + i)) := rfl
theorem shC_31 (f : Nat → Int32) : shC cI cII cLd cOc b 31 f = shR cII 12 (fun i => b + (32 + i)) := rfl
theorem shC_44 (f : Nat → Int32) : shC cI cII cLd cOc b 44 f = shR cII 12 (fun i => b + (45 + i)) := rfl
theorem shC_65 (f : Nat → Int32) : shC cI cII cLd cOc b 65 f = shR cLd 3 (fun i => b + lo i) := rfl
theorem shC_r4 {i : Nat} (hi : i < 12) (f : Nat → Int32) : shC cI cII cLd cOc b (4 + i) f = shI cI 8 f := by
  show (if 4 + i = 0 then _ else _) = _
  rw [if_neg (by omega), if_neg (by omega), if_neg (by omega), if_neg (by omega), if_pos (by omega)]
theorem shC_r18 {i : Nat} (hi : i < 12) (f : Nat → Int32) : shC cI cII cLd cOc b (18 + i) f = shI cI 6 f := by
  show (if 18 + i = 0 then _ else _) = _
  rw [if_neg (by omega), if_neg (by omega), if_neg (by omega), if_neg (by omega), if_neg (by omega), if_neg (by omega), if_neg (by omega), if_pos (by omega)]
theorem shC_r32 {i : Nat} (hi : i < 12) (f : Nat → Int32) : shC cI cII cLd cOc b (32 + i) f = shI cI 6 f := by
  show (if 32 + i = 0 then _ else _) = _
  rw [if_neg (by omega), if_neg (by omega), if_neg (by omega), if_neg (by omega), if_neg (by omega), if_neg (by omega), if_neg (by omega), if_neg (by omega), if_neg (by omega), if_neg (by omega), if_pos (by omega)]
theorem shC_r45 {i : Nat} (hi : i < 12) (f : Nat → Int32) : shC cI cII cLd cOc b (45 + i) f = shI cI 6 f := by
  show (if 45 + i = 0 then _ else _) = _
  rw [if_neg (by omega), if_neg (by omega), if_neg (by omega), if_neg (by omega), if_neg (by omega), if_neg (by omega), if_neg (by omega), if_neg (by omega), if_neg (by omega), if_neg (by omega), if_neg (by omega), if_neg (by omega), if_pos (by omega)]
theorem shC_lo {k : Nat} (hk : k < 4) (f : Nat → Int32) : shC cI cII cLd cOc b (lo k) f = shL b (ev k) (bo k) f := by
  rcases k4 hk with rfl | rfl | rfl | rfl <;> rfl
theorem shC_ev {k : Nat} (hk : k < 4) (f : Nat → Int32) : shC cI cII cLd cOc b (ev k) f = shT b (ev k) f := by
  rcases k4 hk with rfl | rfl | rfl | rfl <;> rfl
theorem shC_ev1 {k : Nat} (hk : k < 4) (f : Nat → Int32) : shC cI cII cLd cOc b (ev k + 1) f = shI cI 200 f := by
  rcases k4 hk with rfl | rfl | rfl | rfl <;> rfl
theorem shC_ev2 {k : Nat} (hk : k < 4) (f : Nat → Int32) : shC cI cII cLd cOc b (ev k + 2) f = shI cI 200 f := by
  rcases k4 hk with rfl | rfl | rfl | rfl <;> rfl
theorem shC_b0 {k : Nat} (hk : k < 4) (f : Nat → Int32) : shC cI cII cLd cOc b (bo k) f = shI cI 12 f := by
  rcases k4 hk with rfl | rfl | rfl | rfl <;> rfl
theorem shC_b1 {k : Nat} (hk : k < 4) (f : Nat → Int32) : shC cI cII cLd cOc b (bo k + 1) f = shR cII 12 (fun i => b + (bo k + 2 + i)) := by
  rcases k4 hk with rfl | rfl | rfl | rfl <;> rfl
theorem shC_b14 {k : Nat} (hk : k < 4) (f : Nat → Int32) : shC cI cII cLd cOc b (bo k + 14) f = shI cI 40 f := by
  rcases k4 hk with rfl | rfl | rfl | rfl <;> rfl
theorem shC_b15 {k : Nat} (hk : k < 4) (f : Nat → Int32) : shC cI cII cLd cOc b (bo k + 15) f = shR cOc 40 (fun i => b + (bo k + 17 + i)) := by
  rcases k4 hk with rfl | rfl | rfl | rfl <;> rfl
theorem shC_b16 {k : Nat} (hk : k < 4) (f : Nat → Int32) : shC cI cII cLd cOc b (bo k + 16) f = shO f := by
  rcases k4 hk with rfl | rfl | rfl | rfl <;> rfl
theorem shC_row {k i : Nat} (hk : k < 4) (hi : i < 12) (f : Nat → Int32) : shC cI cII cLd cOc b (bo k + 2 + i) f = shI cI 8 f := by
  rcases k4 hk with rfl | rfl | rfl | rfl
  · rw [show bo 0 = 67 from rfl]
    show (if 67 + 2 + i = 0 then _ else _) = _
    rw [if_neg (by omega), if_neg (by omega), if_neg (by omega), if_neg (by omega), if_neg (by omega), if_neg (by omega), if_neg (by omega), if_neg (by omega), if_neg (by omega), if_neg (by omega), if_neg (by omega), if_neg (by omega), if_neg (by omega), if_neg (by omega), if_neg (by omega), if_neg (by omega), if_neg (by omega), if_neg (by omega), if_pos (by omega)]
    show shB cI cII cOc b 67 (67 + 2 + i - 67) f = _
    unfold shB
    rw [if_neg (by omega), if_neg (by omega), if_pos (by omega)]
  · rw [show bo 1 = 125 from rfl]
    show (if 125 + 2 + i = 0 then _ else _) = _
    rw [if_neg (by omega), if_neg (by omega), if_neg (by omega), if_neg (by omega), if_neg (by omega), if_neg (by omega), if_neg (by omega), if_neg (by omega), if_neg (by omega), if_neg (by omega), if_neg (by omega), if_neg (by omega), if_neg (by omega), if_neg (by omega), if_neg (by omega), if_neg (by omega), if_neg (by omega), if_neg (by omega), if_neg (by omega), if_neg (by omega), if_pos (by omega)]
    show shB cI cII cOc b 125 (125 + 2 + i - 125) f = _
    unfold shB
    rw [if_neg (by omega), if_neg (by omega), if_pos (by omega)]
  · rw [show bo 2 = 183 from rfl]
    show (if 183 + 2 + i = 0 then _ else _) = _
    rw [if_neg (by omega), if_neg (by omega), if_neg (by omega), if_neg (by omega), if_neg (by omega), if_neg (by omega), if_neg (by omega), if_neg (by omega), if_neg (by omega), if_neg (by omega), if_neg (by omega), if_neg (by omega), if_neg (by omega), if_neg (by omega), if_neg (by omega), if_neg (by omega), if_neg (by omega), if_neg (by omega), if_neg (by omega), if_neg (by omega), if_neg (by omega), if_neg (by omega), if_pos (by omega)]
    show shB cI cII cOc b 183 (183 + 2 + i - 183) f = _
    unfold shB
    rw [if_neg (by omega), if_neg (by omega), if_pos (by omega)]
  · rw [show bo 3 = 245 from rfl]
    show (if 245 + 2 + i = 0 then _ else _) = _
    rw [if_neg (by omega), if_neg (by omega), if_neg (by omega), if_neg (by omega), if_neg (by omega), if_neg (by omega), if_neg (by omega), if_neg (by omega), if_neg (by omega), if_neg (by omega), if_neg (by omega), if_neg (by omega), if_neg (by omega), if_neg (by omega), if_neg (by omega), if_neg (by omega), if_neg (by omega), if_neg (by omega), if_neg (by omega), if_neg (by omega), if_neg (by omega), if_neg (by omega), if_neg (by omega), if_neg (by omega), if_neg (by omega), if_neg (by omega), if_neg (by omega), if_pos (by omega)]
    show shB cI cII cOc b 245 (245 + 2 + i - 245) f = _
    unfold shB
    rw [if_neg (by omega), if_neg (by omega), if_pos (by omega)]
theorem shC_out {k i : Nat} (hk : k < 4) (hi : i < 40) (f : Nat → Int32) : shC cI cII cLd cOc b (bo k + 17 + i) f = shO f := by
  rcases k4 hk with rfl | rfl | rfl | rfl
  · rw [show bo 0 = 67 from rfl]
    show (if 67 + 17 + i = 0 then _ else _) = _
    rw [if_neg (by omega), if_neg (by omega), if_neg (by omega), if_neg (by omega), if_neg (by omega), if_neg (by omega), if_neg (by omega), if_neg (by omega), if_neg (by omega), if_neg (by omega), if_neg (by omega), if_neg (by omega), if_neg (by omega), if_neg (by omega), if_neg (by omega), if_neg (by omega), if_neg (by omega), if_neg (by omega), if_pos (by omega)]
    show shB cI cII cOc b 67 (67 + 17 + i - 67) f = _
    unfold shB
    rw [if_neg (by omega), if_neg (by omega), if_neg (by omega), if_neg (by omega), if_neg (by omega)]
  · rw [show bo 1 = 125 from rfl]
    show (if 125 + 17 + i = 0 then _ else _) = _
    rw [if_neg (by omega), if_neg (by omega), if_neg (by omega), if_neg (by omega), if_neg (by omega), if_neg (by omega), if_neg (by omega), if_neg (by omega), if_neg (by omega), if_neg (by omega), if_neg (by omega), if_neg (by omega), if_neg (by omega), if_neg (by omega), if_neg (by omega), if_neg (by omega), if_neg (by omega), if_neg (by omega), if_neg (by omega), if_neg (by omega), if_pos (by omega)]
    show shB cI cII cOc b 125 (125 + 17 + i - 125) f = _
    unfold shB
    rw [if_neg (by omega), if_neg (by omega), if_neg (by omega), if_neg (by omega), if_neg (by omega)]
  · rw [show bo 2 = 183 from rfl]
    show (if 183 + 17 + i = 0 then _ else _) = _
    rw [if_neg (by omega), if_neg (by omega), if_neg (by omega), if_neg (by omega), if_neg (by omega), if_neg (by omega), if_neg (by omega), if_neg (by omega), if_neg (by omega), if_neg (by omega), if_neg (by omega), if_neg (by omega), if_neg (by omega), if_neg (by omega), if_neg (by omega), if_neg (by omega), if_neg (by omega), if_neg (by omega), if_neg (by omega), if_neg (by omega), if_neg (by omega), if_neg (by omega), if_pos (by omega)]
    show shB cI cII cOc b 183 (183 + 17 + i - 183) f = _
    unfold shB
    rw [if_neg (by omega), if_neg (by omega), if_neg (by omega), if_neg (by omega), if_neg (by omega)]
  · rw [show bo 3 = 245 from rfl]
    show (if 245 + 17 + i = 0 then _ else _) = _
    rw [if_neg (by omega), if_neg (by omega), if_neg (by omega), if_neg (by omega), if_neg (by omega), if_neg (by omega), if_neg (by omega), if_neg (by omega), if_neg (by omega), if_neg (by omega), if_neg (by omega), if_neg (by omega), if_neg (by omega), if_neg (by omega), if_neg (by omega), if_neg (by omega), if_neg (by omega), if_neg (by omega), if_neg (by omega), if_neg (by omega), if_neg (by omega), if_neg (by omega), if_neg (by omega), if_neg (by omega), if_neg (by omega), if_neg (by omega), if_neg (by omega), if_pos (by omega)]
    show shB cI cII cOc b 245 (245 + 17 + i - 245) f = _
    unfold shB
    rw [if_neg (by omega), if_neg (by omega), if_neg (by omega), if_neg (by omega), if_neg (by omega)]
def isO (t : Nat) : Prop := t = 240 ∨ ∃ k, k < 4 ∧ (t = bo k + 16 ∨ ∃ i, i < 40 ∧ t = bo k + 17 + i)
theorem isO_240 : isO 240 := Or.inl rfl
theorem isO_now {k : Nat} (hk : k < 4) : isO (bo k + 16) := Or.inr ⟨k, hk, Or.inl rfl⟩
theorem isO_out {k i : Nat} (hk : k < 4) (hi : i < 40) : isO (bo k + 17 + i) := Or.inr ⟨k, hk, Or.inr ⟨i, hi, rfl⟩⟩
theorem shC_O {t : Nat} (h : isO t) (f : Nat → Int32) : shC cI cII cLd cOc b t f = shO f := by
  rcases h with rfl | ⟨k, hk, rfl | ⟨i, hi, rfl⟩⟩
  · rfl
  · exact shC_b16 hk f
  · exact shC_out hk hi f
theorem bo_lt {k : Nat} (hk : k < 4) {j : Nat} (hj : j < 57) : bo k + j < 305 := by
  rcases k4 hk with rfl | rfl | rfl | rfl <;> simp [bo] <;> omega
theorem lo_lt {k : Nat} (hk : k < 4) : lo k < 305 := by rcases k4 hk with rfl | rfl | rfl | rfl <;> decide
theorem ev_lt {k : Nat} (hk : k < 4) {j : Nat} (hj : j < 3) : ev k + j < 305 := by rcases k4 hk with rfl | rfl | rfl | rfl <;> simp [ev] <;> omega
theorem isO_lt {t : Nat} (h : isO t) : t < 305 := by
  rcases h with rfl | ⟨k, hk, rfl | ⟨i, hi, rfl⟩⟩
  · decide
  · exact bo_lt hk (by decide)
  · rw [Nat.add_assoc]; exact bo_lt hk (by omega)
theorem row_lt {k : Nat} (hk : k < 4) {i : Nat} (hi : i < 12) : bo k + 2 + i < 305 := by rw [Nat.add_assoc]; exact bo_lt hk (by omega)
theorem out_lt {k : Nat} (hk : k < 4) {i : Nat} (hi : i < 40) : bo k + 17 + i < 305 := by rw [Nat.add_assoc]; exact bo_lt hk (by omega)
end SHC
theorem in_lt {i : Int32} {n : Nat} (h : ¬ (i < 0 ∨ n ≤ i.toNatClampNeg)) : i.toNatClampNeg < n := Nat.not_le.mp fun q => h (Or.inr q)
theorem in_some {i : Int32} {n : Nat} {g : Nat → Nat} (h : ¬ (i < 0 ∨ n ≤ i.toNatClampNeg)) : (if i.toNatClampNeg < n then some (g i.toNatClampNeg) else none) = some (g i.toNatClampNeg) := if_pos (in_lt h)
def lenM : List Nat := [0, 12, 96, 12, 72, 12, 72, 72, 40, 40, 40, 40, 40, 60, 480, 200, 200, 200, 200, 200, 400, 4, 200, 200, 200, 200, 40, 40, 40]
def shM (cI : ClassId) (b : Nat) : fm_S := fun t f => if t = 0 then .inr (5, [.int (f 0), .ref (b + 1), .ref (b + 2), .ref (b + 3), .ref (b + 4), .ref (b + 5), .ref (b + 6), .ref (b + 7), .int (f 8), .ref (b + 8), .ref (b + 9), .ref (b + 10), .ref (b + 11), .ref (b + 12), .ref (b + 13), .ref (b + 14), .ref (b + 15), .ref (b + 16), .ref (b + 17), .ref (b + 18), .ref (b + 19), .ref (b + 20), .int (f 22), .int (f 23), .int (f 24), .int (f 25), .int (f 26), .ref (b + 21), .ref (b + 22), .ref (b + 23), .ref (b + 24), .ref (b + 25), .int (f 32), .int (f 33), .int (f 34), .int (f 35), .int (f 36), .int (f 37), .ref (b + 26), .ref (b + 27), .ref (b + 28)]) else shI cI (lenM.getD t 0) f
section SHM
variable {cI : ClassId} {b : Nat}
theorem shM_0 (f : Nat → Int32) : shM cI b 0 f = .inr (5, [.int (f 0), .ref (b + 1), .ref (b + 2), .ref (b + 3), .ref (b + 4), .ref (b + 5), .ref (b + 6), .ref (b + 7), .int (f 8), .ref (b + 8), .ref (b + 9), .ref (b + 10), .ref (b + 11), .ref (b + 12), .ref (b + 13), .ref (b + 14), .ref (b + 15), .ref (b + 16), .ref (b + 17), .ref (b + 18), .ref (b + 19), .ref (b + 20), .int (f 22), .int (f 23), .int (f 24), .int (f 25), .int (f 26), .ref (b + 21), .ref (b + 22), .ref (b + 23), .ref (b + 24), .ref (b + 25), .int (f 32), .int (f 33), .int (f 34), .int (f 35), .int (f 36), .int (f 37), .ref (b + 26), .ref (b + 27), .ref (b + 28)]) := rfl
theorem shM_1 (f : Nat → Int32) : shM cI b 1 f = shI cI 12 f := rfl
theorem shM_2 (f : Nat → Int32) : shM cI b 2 f = shI cI 96 f := rfl
theorem shM_3 (f : Nat → Int32) : shM cI b 3 f = shI cI 12 f := rfl
theorem shM_4 (f : Nat → Int32) : shM cI b 4 f = shI cI 72 f := rfl
theorem shM_5 (f : Nat → Int32) : shM cI b 5 f = shI cI 12 f := rfl
theorem shM_6 (f : Nat → Int32) : shM cI b 6 f = shI cI 72 f := rfl
theorem shM_7 (f : Nat → Int32) : shM cI b 7 f = shI cI 72 f := rfl
theorem shM_8 (f : Nat → Int32) : shM cI b 8 f = shI cI 40 f := rfl
theorem shM_9 (f : Nat → Int32) : shM cI b 9 f = shI cI 40 f := rfl
theorem shM_10 (f : Nat → Int32) : shM cI b 10 f = shI cI 40 f := rfl
theorem shM_11 (f : Nat → Int32) : shM cI b 11 f = shI cI 40 f := rfl
theorem shM_12 (f : Nat → Int32) : shM cI b 12 f = shI cI 40 f := rfl
theorem shM_13 (f : Nat → Int32) : shM cI b 13 f = shI cI 60 f := rfl
theorem shM_14 (f : Nat → Int32) : shM cI b 14 f = shI cI 480 f := rfl
theorem shM_15 (f : Nat → Int32) : shM cI b 15 f = shI cI 200 f := rfl
theorem shM_16 (f : Nat → Int32) : shM cI b 16 f = shI cI 200 f := rfl
theorem shM_17 (f : Nat → Int32) : shM cI b 17 f = shI cI 200 f := rfl
theorem shM_18 (f : Nat → Int32) : shM cI b 18 f = shI cI 200 f := rfl
theorem shM_19 (f : Nat → Int32) : shM cI b 19 f = shI cI 200 f := rfl
theorem shM_20 (f : Nat → Int32) : shM cI b 20 f = shI cI 400 f := rfl
theorem shM_21 (f : Nat → Int32) : shM cI b 21 f = shI cI 4 f := rfl
theorem shM_22 (f : Nat → Int32) : shM cI b 22 f = shI cI 200 f := rfl
theorem shM_23 (f : Nat → Int32) : shM cI b 23 f = shI cI 200 f := rfl
theorem shM_24 (f : Nat → Int32) : shM cI b 24 f = shI cI 200 f := rfl
theorem shM_25 (f : Nat → Int32) : shM cI b 25 f = shI cI 200 f := rfl
theorem shM_26 (f : Nat → Int32) : shM cI b 26 f = shI cI 40 f := rfl
theorem shM_27 (f : Nat → Int32) : shM cI b 27 f = shI cI 40 f := rfl
theorem shM_28 (f : Nat → Int32) : shM cI b 28 f = shI cI 40 f := rfl
end SHM
