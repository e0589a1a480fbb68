/-- the rows of an array of arrays are of the class of arrays of ints -/
def fm_AA (cI cII : ClassId) (U : State) : Prop := ∃ k : Class, U.vm.classes[cII]? = some k ∧ k.kind = .array cI (.array .int)
theorem fm_AA.moved {cI cII : ClassId} {u U : State} (hvm : u.vm.Alike U.vm) (h : fm_AA cI cII u) : fm_AA cI cII U := by
  obtain ⟨k, h1, h2⟩ := h
  obtain ⟨k2, h3, h4⟩ := hvm.2.2 _ _ h1
  exact ⟨k2, h3, by rw [h4]; exact h2⟩
/-- a world that grows: n cells from b on, the heap's last ones -/
def fg_K (D : va_G) (cI cII cLd cOc : ClassId) (U : State) : Prop := va_K D vwCl (fm_tys cI cII cLd cOc) U ∧ (∀ w ∈ fm_nest, va_Nw w U) ∧ va_AO "ConstantStarts$Loader" U ∧ va_AO "ConstantStarts$Outcome" U ∧ fm_AA cI cII U
theorem fg_K.to {D : va_G} {cI cII cLd cOc : ClassId} {s U : State} (h : fg_K D cI cII cLd cOc s) (hW : s.WarmedH U.vm) : fg_K D cI cII cLd cOc U := by
  obtain ⟨h1, h2, h3, h4, h5⟩ := h
  exact ⟨h1.moved hW.alike, fun w hw => fm_nest_warm hw hW (h2 w hw), h3.moved hW.alike, h4.moved hW.alike, h5.moved hW.alike⟩
def fg_C (p : Program) (s : State) (m : MethodId) (args : Array Value) (meth : Method) (c : Code) (cc : ByteArray) (own : String) (nL : Nat) (D : va_G) (cI cII cLd cOc : ClassId) (b : Nat) (A : Nat → Prop) : Prop :=
  p.tables.exec = Jvm.exec ∧ c.code = cc ∧ c.maxLocals = nL ∧ s.vm.findClass own = some m.cls ∧ (∀ w ∈ gtbl, w.before args s = true) ∧ fg_K D cI cII cLd cOc s ∧ (∀ q, b ≤ q → A q) ∧ b ≤ s.heap.size ∧ meth.name = "<init>"
def fg_V (p : Program) (l : Launch) (e : Env) (R : Room) (s : State) (m : MethodId) (args : Array Value) (below : List Frame) (meth : Method) (c : Code) (D : va_G) (b : Nat) (A : Nat → Prop) (Q : State → Prop) (nL pc : Nat) (lv : List (Nat × Value)) (st : List Value) (n : Nat) (g : Nat → va_E) (cells slots : Nat) : Prop :=
  ∀ (H : Heap) (locs : List Loc) (ls : Array Slot), H.size = b + n → va_P D vwCl (fm_w b n g) H → va_S A s.heap H locs → lv_has ls nL lv → W p l e R s m args below meth c H locs cells slots Q (F0 m pc ls st)
def fg_Pc (D : va_G) (cI cII cLd cOc : ClassId) (b : Nat) (av : List Value) (n : Nat) (g : Nat → va_E) : Array Value → State → Prop := va_Pc av (fun U => U.heap.size = b + n ∧ va_P D vwCl (fm_w b n g) U.heap ∧ fg_K D cI cII cLd cOc U)
def fg_Q (D : va_G) (b : Nat) (A : Nat → Prop) (n : Nat) (g : Nat → va_E) : Array Value → State → Outcome → State → Prop := fun _ st oc t => oc = .returned none ∧ t.heap.size = b + n ∧ va_P D vwCl (fm_w b n g) t.heap ∧ va_F A st t
def fg_rm (h mc ms : Nat) : Room := { frames := h, cells := mc, slots := ms, locals := 40 * h }
/-- the contract of a constructor: n cells g become n2 cells g2 -/
def fg_M (l : Launch) (D : va_G) (cI cII cLd cOc : ClassId) (b : Nat) (A : Nat → Prop) (y : MethodName) (cc : ByteArray) (nL h mc ms : Nat) (av : List Value) (n : Nat) (g : Nat → va_E) (n2 : Nat) (g2 : Nat → va_E) : Prop :=
  Met l y (.code y cc nL none :: gtbl) (fg_rm h mc ms) (fg_Pc D cI cII cLd cOc b av n g) (fg_Q D b A n2 g2) mc ms A
theorem fg_blind {D : va_G} {cI cII cLd cOc : ClassId} {b n : Nat} {g : Nat → va_E} {av : List Value} : FrameBlind (fg_Pc D cI cII cLd cOc b av n g) := by
  intro a U g0 mk q
  obtain ⟨q0, qz, qP, q1, q2, q3, q4, q5⟩ := q
  exact ⟨q0, qz, qP, va_K.moved (u := U) (U := U.calling g0 mk a) (Vm.Alike.refl U.vm) q1, fun w hw => by
    have hn := (List.mem_filter.mp hw).2
    have hz := q2 w hw
    cases w <;> first | (cases hn; done) | exact va_Nw.same rfl (u := U) (U := U.calling g0 mk a) rfl hz, va_AO.moved (u := U) (U := U.calling g0 mk a) (Vm.Alike.refl U.vm) q3, va_AO.moved (u := U) (U := U.calling g0 mk a) (Vm.Alike.refl U.vm) q4, fm_AA.moved (u := U) (U := U.calling g0 mk a) (Vm.Alike.refl U.vm) q5⟩
theorem fg_push {D : va_G} {b n : Nat} {g : Nat → va_E} {H H1 : Heap} (hP : va_P D vwCl (fm_w b n g) H) (o1 : ∀ q : Nat, q < b + n → H1[q]? = H[q]?) (hn : va_at D vwCl (b + n, g n) H1) : va_P D vwCl (fm_w b (n + 1) g) H1 := by
  intro k q hq
  obtain ⟨hk, rfl⟩ := fm_w_of hq
  by_cases e : k = n
  · subst e; exact hn
  · exact (hP k _ (fm_w_get (show k < n by omega))).kept (o1 _ (show b + k < b + n by omega))
theorem va_up2 {α : Type} (G : Nat → α) (t : Nat) (x y : α) : va_up (va_up G t x) t y = va_up G t y := by
  funext a
  by_cases h : a = t
  · subst h; rw [va_up_self, va_up_self]
  · rw [va_up_ne _ _ h, va_up_ne _ _ h, va_up_ne _ _ h]
section FG
variable {p : Program} {l : Launch} {e : Env} {R : Room} {s : State} {m : MethodId} {args : Array Value} {below : List Frame} {meth : Method} {c : Code} {D : va_G} {cI cII cLd cOc : ClassId} {b : Nat} {A : Nat → Prop} {Q : State → Prop} {nL pc : Nat} {lv : List (Nat × Value)} {rest : List Value} {n : Nat} {g G : Nat → va_E} {cc : ByteArray} {own : String} {cells slots : Nat}
theorem fg_hA (C : fg_C p s m args meth c cc own nL D cI cII cLd cOc b A) : ∀ q, s.heap.size ≤ q → A q := fun q h => C.2.2.2.2.2.2.1 q (Nat.le_trans C.2.2.2.2.2.2.2.1 h)
theorem fg_D (C : fg_C p s m args meth c cc own nL D cI cII cLd cOc b A) : va_D A (fm_w b n g) := fm_w_D (fun q h _ => C.2.2.2.2.2.2.1 q h)
theorem fg_iconst (C : fg_C p s m args meth c cc own nL D cI cII cLd cOc b A) {x0 : Int} {x : Int32} (hdg : decode cc pc = .ok (.iconst x0, 1)) (hv : Int32.ofInt x0 = x) (np : Nat) (hnp : pc + 1 = np) (k : fg_V p l e R s m args below meth c D b A Q nL np lv (.int x :: rest) n g cells slots) : fg_V p l e R s m args below meth c D b A Q nL pc lv rest n g cells slots := fun H locs ls hz hP hS hl => by subst hnp; exact lv_iconst C.1 C.2.1 hdg hv (k H locs ls hz hP hS hl)
theorem fg_bipush (C : fg_C p s m args meth c cc own nL D cI cII cLd cOc b A) {x0 : Int} {x : Int32} (hdg : decode cc pc = .ok (.bipush x0, 2)) (hv : (Int8.ofInt x0).toInt32 = x) (np : Nat) (hnp : pc + 2 = np) (k : fg_V p l e R s m args below meth c D b A Q nL np lv (.int x :: rest) n g cells slots) : fg_V p l e R s m args below meth c D b A Q nL pc lv rest n g cells slots := fun H locs ls hz hP hS hl => by subst hnp; exact lv_bipush C.1 C.2.1 hdg hv (k H locs ls hz hP hS hl)
theorem fg_sipush (C : fg_C p s m args meth c cc own nL D cI cII cLd cOc b A) {x0 : Int} {x : Int32} (hdg : decode cc pc = .ok (.sipush x0, 3)) (hv : (Int16.ofInt x0).toInt32 = x) (np : Nat) (hnp : pc + 3 = np) (k : fg_V p l e R s m args below meth c D b A Q nL np lv (.int x :: rest) n g cells slots) : fg_V p l e R s m args below meth c D b A Q nL pc lv rest n g cells slots := fun H locs ls hz hP hS hl => by subst hnp; exact lv_sipush C.1 C.2.1 hdg hv (k H locs ls hz hP hS hl)
theorem fg_dup (C : fg_C p s m args meth c cc own nL D cI cII cLd cOc b A) {x : Value} (hdg : decode cc pc = .ok (.dup, 1)) (hx : x.category = 1) (np : Nat) (hnp : pc + 1 = np) (k : fg_V p l e R s m args below meth c D b A Q nL np lv (x :: x :: rest) n g cells slots) : fg_V p l e R s m args below meth c D b A Q nL pc lv (x :: rest) n g cells slots := fun H locs ls hz hP hS hl => by subst hnp; exact lv_dup C.1 C.2.1 hdg hx (k H locs ls hz hP hS hl)
theorem fg_aload_n (C : fg_C p s m args meth c cc own nL D cI cII cLd cOc b A) {k : Fin 4} {i x : Nat} (hdg : decode cc pc = .ok (.aload_n k, 1)) (hi : (k : Nat) = i) (j : Nat) (hj : lv[j]? = some (i, .ref x)) (np : Nat) (hnp : pc + 1 = np) (kk : fg_V p l e R s m args below meth c D b A Q nL np lv (.ref x :: rest) n g cells slots) : fg_V p l e R s m args below meth c D b A Q nL pc lv rest n g cells slots := fun H locs ls hz hP hS hl => by subst hnp; exact lv_aload_n C.1 C.2.1 hdg hi (lv_at hl j hj) (kk H locs ls hz hP hS hl)
theorem fg_iload_n (C : fg_C p s m args meth c cc own nL D cI cII cLd cOc b A) {k : Fin 4} {i : Nat} {x : Int32} (hdg : decode cc pc = .ok (.iload_n k, 1)) (hi : (k : Nat) = i) (j : Nat) (hj : lv[j]? = some (i, .int x)) (np : Nat) (hnp : pc + 1 = np) (kk : fg_V p l e R s m args below meth c D b A Q nL np lv (.int x :: rest) n g cells slots) : fg_V p l e R s m args below meth c D b A Q nL pc lv rest n g cells slots := fun H locs ls hz hP hS hl => by subst hnp; exact lv_iload_n C.1 C.2.1 hdg hi (lv_at hl j hj) (kk H locs ls hz hP hS hl)
theorem fg_istore_n (C : fg_C p s m args meth c cc own nL D cI cII cLd cOc b A) {k : Fin 4} {i : Nat} {x : Int32} (lv2 : List (Nat × Value)) (hdg : decode cc pc = .ok (.istore_n k, 1)) (hi : (k : Nat) = i) (hn : i < nL) (hl2 : (i, Value.int x) :: lv.filter (fun q => !(q.1 == i) && !(q.1 + 1 == i && q.2.category == 2)) = lv2) (np : Nat) (hnp : pc + 1 = np) (kk : fg_V p l e R s m args below meth c D b A Q nL np lv2 rest n g cells slots) : fg_V p l e R s m args below meth c D b A Q nL pc lv (.int x :: rest) n g cells slots := fun H locs ls hz hP hS hl => by subst hnp; exact lv_istore_n C.1 C.2.1 hdg hi hl hn hl2 (fun ls2 hl3 => kk H locs ls2 hz hP hS hl3)
theorem fg_iinc (C : fg_C p s m args meth c cc own nL D cI cII cLd cOc b A) {i : Nat} {x0 : Int} {x y : Int32} (lv2 : List (Nat × Value)) (hdg : decode cc pc = .ok (.iinc i x0, 3)) (j : Nat) (hj : lv[j]? = some (i, .int x)) (hy : x + Int32.ofInt x0 = y) (hn : i < nL) (hl2 : (i, Value.int y) :: lv.filter (fun q => !(q.1 == i) && !(q.1 + 1 == i && q.2.category == 2)) = lv2) (np : Nat) (hnp : pc + 3 = np) (kk : fg_V p l e R s m args below meth c D b A Q nL np lv2 rest n g cells slots) : fg_V p l e R s m args below meth c D b A Q nL pc lv rest n g cells slots := fun H locs ls hz hP hS hl => by subst hnp; exact lv_iinc C.1 C.2.1 hdg hl hj hy hn hl2 (fun ls2 hl3 => kk H locs ls2 hz hP hS hl3)
theorem fg_icmp_ge (C : fg_C p s m args meth c cc own nL D cI cII cLd cOc b A) {x y : Int32} {off : Int} (tgt : Nat) (hdg : decode cc pc = .ok (.if_icmp .ge off, 3)) (ht : (pc : Int) + off = (tgt : Int)) (kt : y ≤ x → fg_V p l e R s m args below meth c D b A Q nL tgt lv rest n g cells slots) (np : Nat) (hnp : pc + 3 = np) (kf : ¬ y ≤ x → fg_V p l e R s m args below meth c D b A Q nL np lv rest n g cells slots) : fg_V p l e R s m args below meth c D b A Q nL pc lv (.int y :: .int x :: rest) n g cells slots := fun H locs ls hz hP hS hl => by subst hnp; exact lv_icmp_ge C.1 C.2.1 hdg ht (fun q => kt q H locs ls hz hP hS hl) (fun q => kf q H locs ls hz hP hS hl)
theorem fg_goto (C : fg_C p s m args meth c cc own nL D cI cII cLd cOc b A) {off : Int} (tgt : Nat) (hdg : decode cc pc = .ok (.goto off, 3)) (ht : (pc : Int) + off = (tgt : Int)) (k : fg_V p l e R s m args below meth c D b A Q nL tgt lv rest n g cells slots) : fg_V p l e R s m args below meth c D b A Q nL pc lv rest n g cells slots := fun H locs ls hz hP hS hl => lv_goto C.1 C.2.1 hdg ht (k H locs ls hz hP hS hl)
theorem fg_get (C : fg_C p s m args meth c cc own nL D cI cII cLd cOc b A) {t ci nn : Nat} {fs : List Value} {Cn : String} {T : u_T} {index : Nat} (ht : t < n) (hg : g t = .inr (ci, fs)) (hc : vwCl[ci]? = some (Cn, T, nn)) (hin : ∀ w ∈ u_ws Cn T nn, w ∈ gtbl) (k : Nat) (hk : k < nn) (hlink : Cond.fieldLink own index (T k).1 (T k).2.1 (T k).2.2.1 ∈ gtbl) {x : Value} (hv : fs[k]? = some x) (hdg : decode cc pc = .ok (.getfield index, 3)) (np : Nat) (hnp : pc + 3 = np) (kk : fg_V p l e R s m args below meth c D b A Q nL np lv (x :: rest) n g cells slots) : fg_V p l e R s m args below meth c D b A Q nL pc lv (.ref (b + t) :: rest) n g cells slots := fun H locs ls hz hP hS hl => by
  subst hnp
  exact va_get C.1 C.2.1 C.2.2.2.2.1 hin C.2.2.2.1 C.2.2.2.2.2.1.1 hP t (by rw [fm_w_get ht, hg]) hc k hk (C.2.2.2.2.1 _ hlink) (fun _ h => h) hv hdg (kk H locs ls hz hP hS hl)
theorem fg_put (C : fg_C p s m args meth c cc own nL D cI cII cLd cOc b A) {t ci nn : Nat} {fs : List Value} {Cn : String} {T : u_T} {index : Nat} (ht : t < n) (hc : vwCl[ci]? = some (Cn, T, nn)) (hin : ∀ w ∈ u_ws Cn T nn, w ∈ gtbl) (k : Nat) (hk : k < nn) (hlink : Cond.fieldLink own index (T k).1 (T k).2.1 (T k).2.2.1 ∈ gtbl) (ty0 : Nat → FieldType) (hty : ∀ k, k < nn → parseFieldDescriptor (T k).2.2.1 = some (ty0 k)) (hnm : ∀ a, a < nn → ∀ b, b < nn → a ≠ b → (T a).2.1 ≠ (T b).2.1) (hfin : (T k).2.2.2 = true) (hdecl : (T k).1 = own) {ty : FieldType} {x : Value} (hd : parseFieldDescriptor (T k).2.2.1 = some ty) (hn : narrow ty x = x) (hfit : fits ty x = true) (hl : k < fs.length) (hdg : decode cc pc = .ok (.putfield index, 3)) (np : Nat) (hnp : pc + 3 = np) (fs2 : List Value) (hfs : fs.set k x = fs2) (kk : fg_V p l e R s m args below meth c D b A Q nL np lv rest n (va_up G t (.inr (ci, fs2))) cells slots) : fg_V p l e R s m args below meth c D b A Q nL pc lv (x :: .ref (b + t) :: rest) n (va_up G t (.inr (ci, fs))) cells slots := fun H locs ls hz hP hS hlv => by
  subst hnp
  subst hfs
  have he : (fm_w b n (va_up G t (.inr (ci, fs))))[t]? = some (b + t, .inr (ci, fs)) := by rw [fm_w_get ht, va_up_self]
  obtain ⟨r, h1, cell, q1, q2, q3, q4⟩ := hP t _ he
  have hr : r = (Cn, T, nn) := Option.some.inj (h1.symm.trans hc)
  subst hr
  have hts := C.2.2.2.2.1
  have hown := C.2.2.2.1
  have hap := va_apart (own := own) hts hin ty0 hty hnm C.2.2.2.2.2.1.1 hc
  obtain ⟨hSl, hfc, kC, hkC, hkind⟩ := C.2.2.2.2.2.1.1.1 ci _ hc
  obtain ⟨cf, kf, fi, f, hi, hsl⟩ := hSl k hk
  have hlay := hts _ (hin _ (u_in_lay hk))
  unfold u_lay at hlay
  rw [if_pos hfin] at hlay
  have hcf : m.cls = cf := by
    obtain ⟨_, _, c', _, _, _, -, -, hf', -, -, -, ho, -⟩ := Cond.laysFinal_spec hlay
    have e1 : c' = cf := by have := hi.symm.trans hf'; simp at this; exact this.1.symm
    rw [hdecl] at ho
    rw [← e1]
    exact Option.some.inj (hown.symm.trans ho)
  refine W.putFinK C.1 C.2.1 hown (hts _ hlink) hi (u_facts hfc hkC (u_lays hts hin hk) hi).1 hcf C.2.2.2.2.2.2.2.2 (by rw [q2]; exact u_fits hfc hkC hkind (Or.inr hlay) hi hd hn hfit) q1 q3 (by rw [hsl]; exact k2_hasslot (q4 k hk)) rfl rfl hdg fun H1 e1 e2 e3 => ?_
  rw [hsl] at e1 ⊢
  have hP1 := hP.set (fg_D C) he (e := .inr (ci, fs.set k x)) ⟨_, hc, t_OB.to (V := updV (vp_V fs) k x) ⟨_, e1, q2, q3, t_set q4 hap hk x⟩ (fun j _ => vp_updV_set hl x j)⟩ e3
  rw [fm_w_set, va_up2] at hP1
  exact kk H1 _ ls (e2.trans hz) hP1 (hS.put e2 e3 (C.2.2.2.2.2.2.1 _ (Nat.le_add_right _ _))) hlv
theorem fg_newa (C : fg_C p s m args meth c cc own nL D cI cII cLd cOc b A) (harr : Cond.arrayClass .int ∈ gtbl) {x : Int32} {N : Nat} (hx : ¬ x < 0) (hN : x.toNatClampNeg = N) (hb : N ≤ 1000) (hg : g n = .inl (cI, N, .inl (fun _ => 0))) (hcells : cells + 1 ≤ R.cells) (hslots : slots + N ≤ R.slots) (hdg : decode cc pc = .ok (.newarray .int, 2)) (np : Nat) (hnp : pc + 2 = np) (kk : fg_V p l e R s m args below meth c D b A Q nL np lv (.ref (b + n) :: rest) (n + 1) g (cells + 1) (slots + N)) : fg_V p l e R s m args below meth c D b A Q nL pc lv (.int x :: rest) n g cells slots := fun H locs ls hz hP hS hl => by
  subst hnp
  refine va_newaK (atype := .int) C.1 C.2.1 (C.2.2.2.2.1 _ harr) rfl hdg rfl hx hN (show N * 4 ≤ _ by omega) hcells hslots hz fun H1 cA e1 z1 o1 hAr hNm => ?_
  have ec : cA = cI := Option.some.inj (hNm.symm.trans (C.2.2.2.2.2.1.1.2 0 _ rfl).2)
  subst ec
  exact kk H1 locs ls (by omega) (fg_push hP (fun q hq => o1 q hq) (by rw [hg]; exact e1)) ⟨by have := hS.1; omega, fun q h1 h2 => by rw [o1 q (by have := hS.1; omega)]; exact hS.2.1 q h1 h2, hS.2.2⟩ hl
theorem fg_new (C : fg_C p s m args meth c cc own nL D cI cII cLd cOc b A) {ci nn : Nat} {fs : List Value} {Cn : String} {T : u_T} {index : Nat} (hc : vwCl[ci]? = some (Cn, T, nn)) (hin : ∀ w ∈ u_ws Cn T nn, w ∈ gtbl) (ty0 : Nat → FieldType) (hty : ∀ k, k < nn → parseFieldDescriptor (T k).2.2.1 = some (ty0 k)) (hw : Cond.classLink own index Cn ∈ gtbl ∧ Cond.instantiable Cn nn ∈ gtbl ∧ Cond.initialized Cn ∈ gtbl) (hfs : ∀ j, j < nn → defaultValue (ty0 j) = vp_V fs j) (hg : g n = .inr (ci, fs)) (hcells : cells + 1 ≤ R.cells) (hslots : slots + nn ≤ R.slots) (hdg : decode cc pc = .ok (.new index, 3)) (np : Nat) (hnp : pc + 3 = np) (kk : fg_V p l e R s m args below meth c D b A Q nL np lv (.ref (b + n) :: rest) (n + 1) g (cells + 1) (slots + nn)) : fg_V p l e R s m args below meth c D b A Q nL pc lv rest n g cells slots := fun H locs ls hz hP hS hl => by
  subst hnp
  have hts := C.2.2.2.2.1
  have hKn := C.2.2.2.2.2.1.1.1 ci _ hc
  refine W.newcK C.1 C.2.1 C.2.2.2.1 (hts _ hw.1) (hts _ hw.2.1) (hts _ hw.2.2) rfl hdg hcells hslots hKn.2.1 hz fun H1 kC hkC e1 z1 o1 => ?_
  exact kk H1 locs ls (by omega) (fg_push hP (fun q hq => o1 q hq) (by rw [hg]; exact ⟨_, hc, (u_born ty0 hts hin hKn hkC e1 hty).to hfs⟩)) ⟨by have := hS.1; omega, fun q h1 h2 => by rw [o1 q (by have := hS.1; omega)]; exact hS.2.1 q h1 h2, hS.2.2⟩ hl
theorem fg_newq (C : fg_C p s m args meth c cc own nL D cI cII cLd cOc b A) {Cn : String} {index t0 : Nat} {cX : ClassId} (hw : Cond.classLink own index Cn ∈ gtbl) (hover : va_AO Cn s) (hty : (fm_tys cI cII cLd cOc)[t0]? = some (cX, .object Cn)) {x : Int32} {N : Nat} (hx : ¬ x < 0) (hN : x.toNatClampNeg = N) (hb : N ≤ 1000) (hg : g n = .inl (cX, N, .inr (.inr (.inr (.inr (fun _ => none)))))) (hcells : cells + 1 ≤ R.cells) (hslots : slots + N ≤ R.slots) (hdg : decode cc pc = .ok (.anewarray index, 3)) (np : Nat) (hnp : pc + 3 = np) (kk : fg_V p l e R s m args below meth c D b A Q nL np lv (.ref (b + n) :: rest) (n + 1) g (cells + 1) (slots + N)) : fg_V p l e R s m args below meth c D b A Q nL pc lv (.int x :: rest) n g cells slots := fun H locs ls hz hP hS hl => by
  subst hnp
  subst hN
  refine W.anew C.1 C.2.1 C.2.2.2.1 (C.2.2.2.2.1 _ hw) (va_AO.use hover) rfl hdg rfl hx (by omega) hcells hslots fun cA kA comp f1 f2 f3 f4 => ?_
  obtain ⟨kA2, comp2, -, -, -, g4⟩ := (C.2.2.2.2.2.1.1.2 t0 _ hty).2
  have ec : cA = cX := Option.some.inj (f1.symm.trans g4)
  subst ec
  generalize hH1 : H.push ({ cls := cA, slots := Array.replicate x.toNatClampNeg .null, vm := .none } : Cell) = H1
  have z1 : H1.size = H.size + 1 := by rw [← hH1, Array.size_push]
  have e1 : H1[H.size]? = some (arrV cA x.toNatClampNeg (fun _ => .null)) := by rw [← hH1, Array.getElem?_push_size, ← arrV_new]
  have o1 : ∀ q : Nat, q < H.size → H1[q]? = H[q]? := fun q hq => by rw [← hH1, Array.getElem?_push, if_neg (Nat.ne_of_lt hq)]
  rw [hz] at e1
  have k2 := kk H1 locs ls (by omega) (fg_push hP (fun q hq => o1 q (by omega)) (by rw [hg]; exact e1)) ⟨by have := hS.1; omega, fun q h1 h2 => by rw [o1 q (by have := hS.1; omega)]; exact hS.2.1 q h1 h2, hS.2.2⟩ hl
  rw [← hz] at k2
  exact k2
theorem fg_mna (C : fg_C p s m args meth c cc own nL D cI cII cLd cOc b A) {index : Nat} (hw : Cond.classLink own index "[[I" ∈ gtbl) {x y : Int32} {N M : Nat} (hx : ¬ x < 0) (hy : ¬ y < 0) (hN : x.toNatClampNeg = N) (hM : y.toNatClampNeg = M) (hb1 : N ≤ 1000) (hb2 : M ≤ 1000) (hg0 : g n = shR cII N (fun i => b + (n + 1 + i))) (hg1 : ∀ i, i < N → g (n + 1 + i) = shI cI M (fun _ => 0)) (hcells : cells + (1 + N) ≤ R.cells) (hslots : slots + (N + N * M) ≤ R.slots) (hdg : decode cc pc = .ok (.multianewarray index 2, 4)) (np : Nat) (hnp : pc + 4 = np) (kk : fg_V p l e R s m args below meth c D b A Q nL np lv (.ref (b + n) :: rest) (n + (1 + N)) g (cells + (1 + N)) (slots + (N + N * M))) : fg_V p l e R s m args below meth c D b A Q nL pc lv (.int y :: .int x :: rest) n g cells slots := fun H locs ls hz hP hS hl => by
  subst hnp
  subst hN
  subst hM
  intro T hT X
  obtain ⟨kA, hkA, hkindA⟩ := C.2.2.2.2.2.1.2.2.2.2
  have hcI := (C.2.2.2.2.2.1.1.2 0 _ rfl).1
  obtain ⟨-, kC, hkC, cc2, hkindC⟩ := hcI 0 (fun _ => .null)
  have hA2 : s.vm.findClass "[[I" = some cII := (C.2.2.2.2.2.1.1.2 1 _ rfl).2
  obtain ⟨vm₁, X2, step⟩ := mr_multi X C.1 C.2.2.2.1 (C.2.2.2.2.1 _ hw) hA2 hkA hkindA hkC hkindC (g := F0 m pc ls (.int y :: .int x :: rest)) rfl (by rw [C.2.1]; exact hdg) rfl hx hy hb1 hb2 hcells hslots
  obtain ⟨f1, f2, -, -, f5, f6⟩ := mr_facts (T.setVm vm₁) cII cI x.toNatClampNeg y.toNatClampNeg x.toNatClampNeg
  have hTh : (T.setVm vm₁).heap = H := hT
  rw [hTh] at f1 f2 f5 f6
  generalize mr_s (T.setVm vm₁) cII cI x.toNatClampNeg y.toNatClampNeg x.toNatClampNeg = U at f1 f2 f5 f6 X2 step
  rw [hz] at f1 f2 f5 f6
  have hP1 : va_P D vwCl (fm_w b (n + (1 + x.toNatClampNeg)) g) U.heap := by
    intro k q hq
    obtain ⟨hk, rfl⟩ := fm_w_of hq
    rcases Nat.lt_or_ge k n with h | h
    · exact (hP k _ (fm_w_get h)).kept (f5 _ (show b + k < b + n by omega))
    · by_cases e : k = n
      · subst e
        show va_at D vwCl (b + k, g k) U.heap
        rw [hg0]
        show U.heap[b + k]? = some (vp_cell cII _)
        rw [f2, vp_cell_q]
        unfold mr_o
        refine congrArg some (congrArg (arrV cII x.toNatClampNeg) (funext fun j => ?_))
        by_cases hj : j < x.toNatClampNeg
        · rw [if_pos hj, if_pos hj]
          show Value.ref (b + k + (1 + j)) = Value.ref (b + (k + 1 + j))
          rw [show b + k + (1 + j) = b + (k + 1 + j) by omega]
        · rw [if_neg hj, if_neg hj]; rfl
      · obtain ⟨i, rfl⟩ : ∃ i, k = n + 1 + i := ⟨k - n - 1, by omega⟩
        show va_at D vwCl (b + (n + 1 + i), g (n + 1 + i)) U.heap
        rw [hg1 i (by omega)]
        show U.heap[b + (n + 1 + i)]? = some (vp_cell cI _)
        rw [show b + (n + 1 + i) = b + n + (1 + i) by omega, f6 i (by omega)]
        rfl
  obtain ⟨t, a1, b1⟩ := kk U.heap locs ls (by omega) hP1 ⟨by have := hS.1; omega, fun q h1 h2 => by rw [f5 q (by have := hS.1; omega)]; exact hS.2.1 q h1 h2, hS.2.2⟩ hl U rfl X2
  refine ⟨t, step t ?_, b1⟩
  rw [hT, hz]
  exact a1
theorem fg_ast (C : fg_C p s m args meth c cc own nL D cI cII cLd cOc b A) {t t2 t0 ci nn N : Nat} {cX : ClassId} {Cn : String} {T : u_T} {f : Nat → Option Nat} {vs : List Value} (ht : t < n) (ht2 : t2 < n) (hg2 : va_up G t (.inl (cX, N, .inr (.inr (.inr (.inr f))))) t2 = .inr (ci, vs)) (hc : vwCl[ci]? = some (Cn, T, nn)) (hty : (fm_tys cI cII cLd cOc)[t0]? = some (cX, .object Cn)) {i : Int32} (hi : ¬ (i < 0 ∨ N ≤ i.toNatClampNeg)) (hdg : decode cc pc = .ok (.aastore, 1)) (np : Nat) (hnp : pc + 1 = np) (kk : fg_V p l e R s m args below meth c D b A Q nL np lv rest n (va_up G t (.inl (cX, N, .inr (.inr (.inr (.inr (va_up f i.toNatClampNeg (some (b + t2))))))))) cells slots) : fg_V p l e R s m args below meth c D b A Q nL pc lv (.ref (b + t2) :: .int i :: .ref (b + t) :: rest) n (va_up G t (.inl (cX, N, .inr (.inr (.inr (.inr f)))))) cells slots := fun H locs ls hz hP hS hl => by
  subst hnp
  have he : (fm_w b n (va_up G t (.inl (cX, N, .inr (.inr (.inr (.inr f)))))))[t]? = some (b + t, .inl (cX, N, .inr (.inr (.inr (.inr f))))) := by rw [fm_w_get ht, va_up_self]
  have he2 : (fm_w b n (va_up G t (.inl (cX, N, .inr (.inr (.inr (.inr f)))))))[t2]? = some (b + t2, .inr (ci, vs)) := by rw [fm_w_get ht2, hg2]
  have hlt : i.toNatClampNeg < N := Nat.not_le.mp fun q => hi (Or.inr q)
  obtain ⟨r, h1, cellV, g1, g2, g3, -⟩ := hP t2 _ he2
  have hcls := (C.2.2.2.2.2.1.1.1 ci _ hc).2
  obtain ⟨kA, comp, k1, k2, k3, -⟩ := (C.2.2.2.2.2.1.1.2 t0 _ hty).2
  have hcomp : comp = D.1 ci := Option.some.inj (k3.symm.trans hcls.1)
  subst hcomp
  obtain ⟨kC, hkC, -⟩ := hcls.2
  refine W.aast C.1 C.2.1 (hP t _ he) (fun q h => by cases h) (fun h => by cases h) k1 k2 rfl hkC ⟨fun q => hi (Or.inl q), by show _ < (arrV _ _ _).slots.size; rw [arrV_size]; exact hlt⟩ g1 (fun q h => by rw [g3] at h; cases h) (by rw [g2]; exact hkC) (by rw [g2]; exact va_assign hcls) rfl rfl hdg fun H1 e1 z1 oq => ?_
  have hP1 := hP.set (fg_D C) he (e := .inl (cX, N, .inr (.inr (.inr (.inr (va_up f i.toNatClampNeg (some (b + t2)))))))) (by
    show H1[b + t]? = some (vp_cell _ _)
    rw [e1, vp_cell_q, vp_cell_q, arrV_store]
    refine congrArg some (congrArg (arrV cX N) (funext fun q => ?_))
    unfold updV va_up
    by_cases hq : q = i.toNatClampNeg
    · rw [if_pos hq, if_pos hq]; rfl
    · rw [if_neg hq, if_neg hq]) oq
  rw [fm_w_set, va_up2] at hP1
  exact kk H1 _ ls (z1.trans hz) hP1 (hS.put z1 oq (C.2.2.2.2.2.2.1 _ (Nat.le_add_right _ _))) hl
theorem fg_obj (C : fg_C p s m args meth c cc own nL D cI cII cLd cOc b A) {index x : Nat} (hw : Cond.methodLink own index objectInit ∈ gtbl ∧ Cond.instanceMethod objectInit ∈ gtbl ∧ Cond.code objectInit ⟨#[0xb1]⟩ 1 none ∈ gtbl) (hF : 1 ≤ R.frames) (hLo : 40 ≤ R.locals) (hdg : decode cc pc = .ok (.invokespecial index, 3)) (np : Nat) (hnp : pc + 3 = np) (kk : fg_V p l e R s m args below meth c D b A Q nL np lv [] n g cells slots) : fg_V p l e R s m args below meth c D b A Q nL pc lv [.ref x] n g cells slots := fun H locs ls hz hP hS hl => by
  subst hnp
  have hts := C.2.2.2.2.1
  exact W.objInit C.1 C.2.1 C.2.2.2.1 (hts _ hw.1) (hts _ hw.2.1) (hts _ hw.2.2) rfl (by rw [C.2.2.1]; exact hl.1) rfl hdg hF (show 0 + 0 + 12 ≤ R.locals by omega) (kk H locs ls hz hP hS hl)
theorem fg_call (C : fg_C p s m args meth c cc own nL D cI cII cLd cOc b A) {y : MethodName} {cy : ByteArray} {ny na h mc ms : Nat} {host : String} {As : List Value} {index t : Nat} {n2 : Nat} {g2 : Nat → va_E} (hY : fm_Y y cy ny none na) (hyn : y.name = "<init>") (hw : Cond.methodLinkNest own index y host ∈ fm_nest ∧ Cond.instanceMethod y ∈ gtbl) (hM : fg_M l D cI cII cLd cOc b A y cy ny h mc ms (.ref (b + t) :: As) n g n2 g2) (hF : h + 1 ≤ R.frames) (hLo : 40 * (h + 1) ≤ R.locals) (hn : As.length = na) (hrest : (rest.map fun v => v.category).sum ≤ 8) (hcells : cells + mc ≤ R.cells) (hslots : slots + ms ≤ R.slots) (hdg : decode cc pc = .ok (.invokespecial index, 3)) (np : Nat) (hnp : pc + 3 = np) (kk : fg_V p l e R s m args below meth c D b A Q nL np lv rest n2 g2 (cells + mc) (slots + ms)) : fg_V p l e R s m args below meth c D b A Q nL pc lv (As.reverse ++ .ref (b + t) :: rest) n g cells slots := fun H locs ls hz hP hS hl => by
  subst hnp
  have hts := C.2.2.2.2.1
  obtain ⟨y1, y2, y3, y4⟩ := hY
  have hcb : va_CN R s args own index y host cy ny none (.code y cy ny none :: gtbl) (fg_rm h mc ms) mc ms na := va_cnB na hts (gtbl_GoodIn (fun _ h => h) y1) rfl rfl rfl (C.2.2.2.2.2.1.2.1 _ hw.1) (hts _ y2) y3 ⟨hF, by show 8 + (ny + 11) + 40 * h ≤ R.locals; omega⟩
  have hr := va_runIN (g := F0 m pc ls (As.reverse ++ .ref (b + t) :: rest)) (locs := locs) (cells := cells) (slots := slots) (below := below) (meth := meth) (e := e) (Ts := gtbl) ⟨C.1, C.2.1, C.2.2.1, C.2.2.2.1, hts⟩ hM ⟨hcb, hyn, hts _ hw.2⟩ ⟨fg_blind, fun U hU hW => ⟨rfl, by rw [hU]; exact hz, by rw [hU]; exact hP, C.2.2.2.2.2.1.to hW⟩⟩ rfl hn hl.1 rfl (lv_room hrest) hdg ⟨hcells, hslots⟩
  intro T hT X
  obtain ⟨x, st₀, t9, T2, L, h0, X2, hL, e1, e2, ⟨hv, hz2, hb, hz3, hk⟩, st⟩ := hr T hT X
  cases hv
  rw [h0] at hz3 hk
  obtain ⟨t2, a1, b1⟩ := kk T2.heap (locs ++ L) ls (by rw [e1]; exact hz2) (by rw [e1]; exact hb) ⟨Nat.le_trans hS.1 (by rw [e1]; exact hz3), fun q h1 h2 => by rw [e1, hk q (Nat.lt_of_lt_of_le h1 hS.1) h2]; exact hS.2.1 q h1 h2, fun q hq => by
      rcases List.mem_append.mp hq with h | h
      · exact hS.2.2 q h
      · exact hL q h⟩ hl T2 rfl X2
  exact ⟨t2, st t2 a1, b1⟩
theorem fg_vret (C : fg_C p s m args meth c cc own nL D cI cII cLd cOc b A) (hr : meth.sig.returnType = none) (hk : meth.locks = false) (hdg : decode cc pc = .ok (.return_, 1)) : fg_V p l e R s m args below meth c D b A (MQ below (fg_Q D b A n g) args s cells slots A) nL pc lv [] n g cells slots := fun H locs ls hz hP hS hl => W.vret C.1 C.2.1 hr (fun t ht _ => ⟨rfl, by rw [ht]; exact hz, by rw [ht]; exact hP, hS.F ht⟩) hS.2.2 hdg hk
theorem fg_eq {g2 : Nat → va_E} {st : List Value} (h : ∀ t, t < n → g2 t = g t) (kk : fg_V p l e R s m args below meth c D b A Q nL pc lv st n g2 cells slots) : fg_V p l e R s m args below meth c D b A Q nL pc lv st n g cells slots := fun H locs ls hz hP hS hl => kk H locs ls hz (by
  intro k q hq
  obtain ⟨hk, rfl⟩ := fm_w_of hq
  have := hP k _ (fm_w_get hk)
  rw [← h k hk] at this
  exact this) hS hl
end FG
theorem fg_entry {l : Launch} {D : va_G} {cI cII cLd cOc : ClassId} {b : Nat} {A : Nat → Prop} {y : MethodName} {cc : ByteArray} {nL h mc ms : Nat} {av : List Value} {n n2 : Nat} {g g2 : Nat → va_E} (hy : plainName y.cls = true) (hyn : y.name = "<init>") (hlen : (lg_sl av).length ≤ nL) (hA : ∀ q, b ≤ q → A q)
    (body : ∀ (p : Program) (e : Env) (R : Room) (s : State) (m : MethodId) (args : Array Value) (below : List Frame) (meth : Method) (c : Code), fg_C p s m args meth c cc y.cls nL D cI cII cLd cOc b A → meth.sig.returnType = none → meth.locks = false → h ≤ R.frames → 40 * h ≤ R.locals → mc ≤ R.cells → ms ≤ R.slots →
      fg_V p l e R s m args below meth c D b A (MQ below (fg_Q D b A n2 g2) args s mc ms A) nL 0 (lv_args 0 av) [] n g 0 0) : fg_M l D cI cII cLd cOc b A y cc nL h mc ms av n g n2 g2 := by
  refine Met.ofW (cc := cc) (maxL := nL) (ret := none) hy rfl ?_
  intro p e s m args below meth c s₁ B hml hv
  obtain ⟨rfl, hz, hP, hK⟩ := hv
  have hts := atoms_spec (ws := .code y cc nL none :: gtbl) B.pre
  have hl := lv_entry av (n := nL) hlen
  rw [lg_entry_eq]
  exact body p e _ s m av.toArray below meth c ⟨B.exec, B.bytes, hml, findClass_of_methodNamed B.named, fun w hw => hts w (List.mem_cons_of_mem _ hw), hK, hA, by omega, (name_of_methodNamed B.named B.method).1.trans hyn⟩ B.returns B.notSynchronized (Nat.le_refl _) (Nat.le_refl _) (Nat.le_refl _) (Nat.le_refl _) s.heap [] _ hz hP va_S.rf hl
