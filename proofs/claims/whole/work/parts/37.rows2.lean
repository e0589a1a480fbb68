/-- an array of arrays of ints while it is made: the outer one at a, i rows behind it -/
def mr_o (c : ClassId) (N a i : Nat) : Cell := arrV c N (fun j => if j < i then .ref (a + (1 + j)) else .null)
def mr_i (d : ClassId) (M : Nat) : Cell := arrV d M (fun _ => .int 0)
def mr_s (s : State) (c d : ClassId) (N M : Nat) : Nat → State
  | 0 => s.pushCell (mr_o c N s.heap.size 0)
  | i + 1 => ((mr_s s c d N M i).pushCell (mr_i d M)).setCell s.heap.size (mr_o c N s.heap.size (i + 1))
theorem mr_o_0 (c : ClassId) (N a : Nat) : mr_o c N a 0 = { cls := c, slots := Array.replicate N .null, vm := .none } := by
  rw [arrV_new]
  unfold mr_o
  congr 1
theorem mr_i_0 (d : ClassId) (M : Nat) : mr_i d M = { cls := d, slots := Array.replicate M (.int 0), vm := .none } := by
  rw [arrV_new]
  rfl
theorem mr_o_s (c : ClassId) (N a i : Nat) : (mr_o c N a i).setSlot i (.ref (a + (1 + i))) = mr_o c N a (i + 1) := by
  unfold mr_o
  rw [arrV_store]
  congr 1
  funext j
  unfold updV
  by_cases h : j = i
  · subst h
    rw [if_pos rfl, if_pos (by omega)]
  · rw [if_neg h]
    dsimp only
    by_cases h2 : j < i
    · rw [if_pos h2, if_pos (by omega)]
    · rw [if_neg h2, if_neg (by omega)]
theorem mr_facts (s : State) (c d : ClassId) (N M : Nat) : ∀ i, (mr_s s c d N M i).heap.size = s.heap.size + (1 + i) ∧ (mr_s s c d N M i).heap[s.heap.size]? = some (mr_o c N s.heap.size i) ∧ (mr_s s c d N M i).vm = s.vm ∧ (mr_s s c d N M i).slotsUsed = s.slotsUsed + (N + i * M) ∧ (∀ a, a < s.heap.size → (mr_s s c d N M i).heap[a]? = s.heap[a]?) ∧ (∀ j, j < i → (mr_s s c d N M i).heap[s.heap.size + (1 + j)]? = some (mr_i d M)) := by
  intro i
  induction i with
  | zero =>
    refine ⟨?_, ?_, rfl, ?_, fun a ha => State.heap_pushCell_of_lt _ _ ha, fun j hj => by omega⟩
    · simp [mr_s]
    · exact State.heap_pushCell_size _ _
    · simp [mr_s, mr_o, arrV_size]
  | succ i ih =>
    obtain ⟨h1, h2, h3, h4, h5, h6⟩ := ih
    have hlt : s.heap.size < (mr_s s c d N M i).heap.size := by omega
    have hb : ((mr_s s c d N M i).pushCell (mr_i d M)).heap[s.heap.size]? = some (mr_o c N s.heap.size i) := by rw [State.heap_pushCell_of_lt (h := hlt)]; exact h2
    refine ⟨?_, State.heap_setCell_self hb, by simp [mr_s, h3], ?_, fun a ha => ?_, fun j hj => ?_⟩
    · simp [mr_s, State.setCell, h1]; omega
    · simp [mr_s, h4, mr_i, arrV_size, Nat.succ_mul]; omega
    · show (((mr_s s c d N M i).pushCell (mr_i d M)).setCell s.heap.size _).heap[a]? = _
      rw [State.heap_setCell_other (Nat.ne_of_gt ha), State.heap_pushCell_of_lt (h := show a < (mr_s s c d N M i).heap.size by omega)]
      exact h5 a ha
    · show (((mr_s s c d N M i).pushCell (mr_i d M)).setCell s.heap.size _).heap[s.heap.size + (1 + j)]? = _
      rw [State.heap_setCell_other (show s.heap.size ≠ s.heap.size + (1 + j) by omega)]
      by_cases e : j = i
      · subst e
        rw [← h1]
        exact State.heap_pushCell_size _ _
      · rw [State.heap_pushCell_of_lt (h := show s.heap.size + (1 + j) < (mr_s s c d N M i).heap.size by omega)]
        exact h6 j (by omega)
theorem mr_top (s : State) (f : JFrame) (c d : ClassId) (N M : Nat) : ∀ i, mr_s (s.setTop f) c d N M i = (mr_s s c d N M i).setTop f := by
  intro i
  induction i with
  | zero => rfl
  | succ i ih => simp only [mr_s, ih, State.heap_setTop, State.pushCell_setTop, State.setCell_setTop]
section MRW
variable {E : CtlPost} {e : Env} {d : Bool} {acts : List Action} {s : State}
theorem mr_alloc {c comp : ClassId} {k : Class} {ty : FieldType} {n : Nat} {x : Value} (hk : s.vm.classes[c]? = some k) (hkind : k.kind = .array comp ty) (h1 : ¬ n > e.platform.arrayLengthLimit) (h2 : ¬ n * componentBytes ty > e.platform.maxHeapBytes) (hfit : fits ty x = true) (hdef : x.isDefault = true) (hc : s.heap.size < e.platform.maxCells) (hs : s.slotsUsed + n ≤ e.platform.maxSlots) {Q : Addr → Pre} (hq : Q s.heap.size d acts (s.pushCell { cls := c, slots := Array.replicate n x, vm := .none })) : wp (Jvm.newArray c n x) Q E e d acts s := by
  have hfs : ∀ i v, (Array.replicate n x)[i]? = some v → s.fitsSlot c .none i v = true := by
    intro i v hv
    rw [Array.getElem?_replicate] at hv
    by_cases hi : i < n
    · rw [if_pos hi] at hv
      cases hv
      simp [State.fitsSlot, State.slotType?, hk, hkind, hfit]
    · rw [if_neg hi] at hv
      cases hv
  have hac : allocActs (Array.replicate n x) s.heap.size acts = acts := by
    unfold allocActs
    rw [if_pos]
    rw [Array.all_replicate]
    split <;> simp [hdef]
  simp only [Jvm.newArray, Jvm.arrayFits, wp_bind', W.ask, W.ite, h1, if_false, wp_pure', W.theClass, hk, hkind, h2, W.alloc, W.stop, Option.some.injEq, exists_eq_left', Array.size_replicate, hac]
  rw [if_neg (by omega)]
  exact ⟨hc, hs, hfs, hq⟩
theorem mr_row {c comp : ClassId} {k : Class} {m : Int32} (hk : s.vm.classes[c]? = some k) (hkind : k.kind = .array comp .int) (hm : ¬ m < 0) (h1 : ¬ m.toNatClampNeg > e.platform.arrayLengthLimit) (h2 : ¬ m.toNatClampNeg * componentBytes .int > e.platform.maxHeapBytes) (hc : s.heap.size < e.platform.maxCells) (hs : s.slotsUsed + m.toNatClampNeg ≤ e.platform.maxSlots) {Q : Addr → Pre} (hq : Q s.heap.size d acts (s.pushCell (mr_i c m.toNatClampNeg))) : wp (multianewarray.make c [m]) Q E e d acts s := by
  rw [multianewarray.make]
  simp only [wp_bind', W.ite, hm, if_false, wp_pure', W.theClass, hk, hkind, Option.some.injEq, exists_eq_left']
  refine mr_alloc hk hkind h1 h2 rfl rfl hc hs ?_
  rw [mr_i_0] at hq
  exact hq
theorem mr_make {c0 c1 c2 : ClassId} {k0 k1 : Class} {n m : Int32} (hk0 : s.vm.classes[c0]? = some k0) (hkind0 : k0.kind = .array c1 (.array .int)) (hk1 : s.vm.classes[c1]? = some k1) (hkind1 : k1.kind = .array c2 .int) (hn : ¬ n < 0) (hm : ¬ m < 0) (h1 : ¬ n.toNatClampNeg > e.platform.arrayLengthLimit) (h2 : ¬ n.toNatClampNeg * componentBytes (.array .int) > e.platform.maxHeapBytes) (h3 : ¬ m.toNatClampNeg > e.platform.arrayLengthLimit) (h4 : ¬ m.toNatClampNeg * componentBytes .int > e.platform.maxHeapBytes)
    (hc : s.heap.size + (1 + n.toNatClampNeg) ≤ e.platform.maxCells) (hs : s.slotsUsed + (n.toNatClampNeg + n.toNatClampNeg * m.toNatClampNeg) ≤ e.platform.maxSlots) {Q : Addr → Pre} (hq : ∀ d' acts', Q s.heap.size d' acts' (mr_s s c0 c1 n.toNatClampNeg m.toNatClampNeg n.toNatClampNeg)) : wp (multianewarray.make c0 [n, m]) Q E e d acts s := by
  have hf : ([m].find? (· < 0)) = none := by simp [hm]
  rw [multianewarray.make]
  simp only [wp_bind', W.ite, hn, if_false, wp_pure', W.theClass, hk0, hkind0, Option.some.injEq, exists_eq_left']
  refine mr_alloc hk0 hkind0 h1 h2 rfl rfl (by omega) (by have := Nat.zero_le (n.toNatClampNeg * m.toNatClampNeg); omega) ?_
  rw [← mr_o_0 c0 n.toNatClampNeg s.heap.size]
  simp only [hf]
  rw [ite_self, wp_bind', Std.Legacy.Range.forIn_eq_forIn_range']
  have hsz : ([:n.toNatClampNeg] : Std.Legacy.Range).size = n.toNatClampNeg := by simp [Std.Legacy.Range.size]
  rw [hsz]
  generalize hN : n.toNatClampNeg = N at *
  generalize hM : m.toNatClampNeg = M at *
  show wp (forIn (List.range' 0 N 1) PUnit.unit _) _ E e d acts _
  refine wp_forIn_inv (fun r s' => ∃ i, i ≤ N ∧ r = List.range' i (N - i) ∧ s' = mr_s s c0 c1 N M i) _ _ ⟨0, Nat.zero_le _, rfl, rfl⟩ ?_ ?_
  · rintro x r s' d' acts' Q' ⟨i, hi, hl, rfl⟩ hnext
    have hlt : i < N := by
      rcases Nat.lt_or_ge i N with h | h
      · exact h
      · rw [show N - i = 0 by omega] at hl
        cases hl
    rw [show N - i = (N - (i + 1)) + 1 by omega, List.range'_succ] at hl
    obtain ⟨rfl, hr⟩ := List.cons.inj hl
    obtain ⟨f1, f2, f3, f4, -, -⟩ := mr_facts s c0 c1 N M x
    have hmul : x * M + M ≤ N * M := by
      have := Nat.mul_le_mul_right M (show x + 1 ≤ N from hlt)
      rw [Nat.succ_mul] at this
      exact this
    simp only [wp_bind']
    refine mr_row (k := k1) (comp := c2) (by rw [f3]; exact hk1) hkind1 hm (by rw [hM]; exact h3) (by rw [hM]; exact h4) (by omega) (by rw [hM]; omega) ?_
    rw [hM]
    simp only [wp_bind', W.writeLoc, wp_pure']
    refine ⟨mr_o c0 N s.heap.size x, by rw [State.heap_pushCell_of_lt (h := show s.heap.size < (mr_s s c0 c1 N M x).heap.size by omega)]; exact f2, by simp [mr_o, arrV], by unfold mr_o; rw [arrV_size]; exact hlt, ?_, hnext _ _ _ ⟨x + 1, hlt, hr, ?_⟩⟩
    · simp [State.fitsSlot, State.slotType?, mr_o, arrV, f3, hk0, hkind0, fits]
    · rw [f1, mr_o_s]; rfl
  · rintro s' d' acts' ⟨i, hi, hl, rfl⟩
    have e : i = N := by
      rcases Nat.lt_or_ge i N with h | h
      · rw [show N - i = (N - (i + 1)) + 1 by omega, List.range'_succ] at hl
        cases hl
      · omega
    subst e
    simp only [wp_pure']
    exact hq _ _
end MRW
section MRS
variable {p : Program} {l : Launch} {e : Env} {R : Room} {s : State} {m : MethodId} {args : Array Value} {below : List Frame} {meth : Method} {c : Code} {T : State} {locs : List Loc} {cells slots : Nat}
theorem mr_stand (X : Stand p l e R s m args below meth c T locs cells slots) (c0 c1 : ClassId) (N M : Nat) : ∀ i, Stand p l e R s m args below meth c (mr_s T c0 c1 N M i) locs (cells + (1 + i)) (slots + (N + i * M)) := by
  intro i
  induction i with
  | zero =>
    have h := X.pushed (mr_o c0 N T.heap.size 0)
    have e1 : (mr_o c0 N T.heap.size 0).slots.size = N := arrV_size _ _ _
    rw [e1] at h
    simpa [mr_s] using h
  | succ i ih =>
    obtain ⟨f1, f2, f3, f4, -, -⟩ := mr_facts T c0 c1 N M i
    have hcell : ((mr_s T c0 c1 N M i).pushCell (mr_i c1 M)).heap[T.heap.size]? = some (mr_o c0 N T.heap.size i) := by rw [State.heap_pushCell_of_lt (h := show T.heap.size < (mr_s T c0 c1 N M i).heap.size by omega)]; exact f2
    have h := (ih.pushed (mr_i c1 M)).stored hcell i (.ref (T.heap.size + (1 + i)))
    have e1 : (mr_i c1 M).slots.size = M := arrV_size _ _ _
    rw [e1, mr_o_s] at h
    have h2 := h.dropFresh (fun x hx => by rw [List.mem_singleton.mp hx]; exact X.heapGrown)
    have e3 : slots + (N + (i + 1) * M) = slots + (N + i * M) + M := by rw [Nat.succ_mul]; omega
    rw [e3, show cells + (1 + (i + 1)) = cells + (1 + i) + 1 by omega]
    exact h2
/-- new int[n][k]: the outer array, then its rows -/
theorem mr_multi (X : Stand p l e R s m args below meth c T locs cells slots) (hexec : p.tables.exec = Jvm.exec) {own : String} {index : Nat} {cI cII cc : ClassId} {kA kC : Class} (hown : s.vm.findClass own = some m.cls) (hlink : (Cond.classLink own index "[[I").before args s = true) (hA : s.vm.findClass "[[I" = some cII) (hkA : s.vm.classes[cII]? = some kA) (hkindA : kA.kind = .array cI (.array .int)) (hkC : s.vm.classes[cI]? = some kC) (hkindC : kC.kind = .array cc .int)
    {g : JFrame} (hg : g.method = m) (hdg : decode c.code g.pc = .ok (.multianewarray index 2, 4)) {n k : Int32} {rest : List Value} (hst : g.stack = .int k :: .int n :: rest) (hn : ¬ n < 0) (hk : ¬ k < 0) (hb1 : n.toNatClampNeg ≤ 1000) (hb2 : k.toNatClampNeg ≤ 1000) (hcells : cells + (1 + n.toNatClampNeg) ≤ R.cells) (hslots : slots + (n.toNatClampNeg + n.toNatClampNeg * k.toNatClampNeg) ≤ R.slots) :
    ∃ vm₁ : Vm, Stand p l e R s m args below meth c (mr_s (T.setVm vm₁) cII cI n.toNatClampNeg k.toNatClampNeg n.toNatClampNeg) locs (cells + (1 + n.toNatClampNeg)) (slots + (n.toNatClampNeg + n.toNatClampNeg * k.toNatClampNeg)) ∧
      ∀ target, Steps p.tables e below ((mr_s (T.setVm vm₁) cII cI n.toNatClampNeg k.toNatClampNeg n.toNatClampNeg).setTop { g with pc := g.pc + 4, stack := .ref T.heap.size :: rest }) target → Steps p.tables e below (T.setTop g) target := by
  subst hg
  have hpl : e.platform.magicAccessors = ({} : Platform).magicAccessors := by rw [X.admits.platform]
  obtain ⟨c0, hc0, hcl⟩ := Cond.classLink_spec hown hlink e.platform hpl
  have ec : cII = c0 := Option.some.inj (hA.symm.trans hc0)
  subst ec
  obtain ⟨hg₁, hw₁, hr₁⟩ := State.classEntry (e := e) X.warmed hcl
  generalize T.vm.noted g.method.cls index (.cls cII) = vm₁ at hg₁ hw₁ hr₁
  obtain ⟨kA₁, hkA₁, heA⟩ := hw₁.alike.2.2 _ _ hkA
  obtain ⟨kC₁, hkC₁, heC⟩ := hw₁.alike.2.2 _ _ hkC
  have hkindA₁ : kA₁.kind = .array cI (.array .int) := by rw [heA]; exact hkindA
  have hkindC₁ : kC₁.kind = .array cc .int := by rw [heC]; exact hkindC
  have X₁ := X.noted hw₁
  obtain ⟨hr1, hr2⟩ := X.roomAbove hcells hslots
  have XF := mr_stand X₁ cII cI n.toNatClampNeg k.toNatClampNeg n.toNatClampNeg
  refine ⟨vm₁, XF, fun target hrest => ?_⟩
  have hl1 : ¬ n.toNatClampNeg > e.platform.arrayLengthLimit := by rw [Launch.admits_arrayLengthLimit X.admits]; omega
  have hh1 : ¬ n.toNatClampNeg * componentBytes (.array .int) > e.platform.maxHeapBytes := by
    rw [Launch.admits_maxHeapBytes X.admits]; show ¬ n.toNatClampNeg * 4 > 536870912; omega
  have hl2 : ¬ k.toNatClampNeg > e.platform.arrayLengthLimit := by rw [Launch.admits_arrayLengthLimit X.admits]; omega
  have hh2 : ¬ k.toNatClampNeg * componentBytes .int > e.platform.maxHeapBytes := by
    rw [Launch.admits_maxHeapBytes X.admits]; show ¬ k.toNatClampNeg * 4 > 536870912; omega
  jvm_step X.here [hexec, hdg]
  simp only [multianewarray.sem, wp_bind', W.resolveClassAt_links (State.method?_setTop g X.here.top) hg₁]
  rw [W.popN, if_neg (by decide)]
  refine ⟨g, State.topJava?_setTop' (s := T.setVm vm₁) g X.here.top, [.int n, .int k], rest, rfl, hst, ?_⟩
  simp only [List.mapM_cons, List.mapM_nil, wp_bind', wp_pure']
  refine mr_make (k0 := kA₁) (k1 := kC₁) (c1 := cI) (c2 := cc) hkA₁ hkindA₁ hkC₁ hkindC₁ hn hk hl1 hh1 hl2 hh2 (by show T.heap.size + _ ≤ _; omega) (by show T.slotsUsed + _ ≤ _; omega) (fun d' acts' => ?_)
  have eS : ((T.setTop g).setVm vm₁).setTop { g with stack := rest } = (T.setVm vm₁).setTop { g with stack := rest } := by
    show ((T.setVm vm₁).setTop g).setTop _ = _
    rw [State.setTop_setTop]
  rw [eS, mr_top]
  simp only [wp_bind', W.mark, W.pushRef, State.topJava?_setTop' _ XF.here.top, Option.some.injEq, exists_eq_left', State.setTop_setTop, State.heap_setTop]
  intro acts
  simp [jvm, XF.here.top]
  exact hrest
end MRS
