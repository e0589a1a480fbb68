/-! THE CLAIM OUT OF ONE WALK OF THE LAW'S BODY. Your part is whole_start (and what it stands on); all else here is the same for every law, but numbers. -/
def R_law : String := "ConstantStartsLaw"
def lw_P (b : Addr) (xs : List Int32) (args : Array Value) (s : State) : Prop := args = #[.ref b] ∧ s.IntsAt b xs ∧ xs.length ≤ 3072 ∧ (Jvm.Cond.and given_1 narrow_1).before args s = true
def lw_Q (_ : Array Value) (s : State) (o : Outcome) (t : State) : Prop := o = .returned (some (.int 1)) ∧ Framed s o t [] 600000 7302250
def lw_Z (below : List Frame) (a : Array Value) (s : State) : State → Prop := fun t => ∃ o, t.status = .running ∧ Ended t below o ∧ lw_Q a s o t
/-- the law's own end, with 1 on the stack, nothing written that was there before, its room as the claim has it -/
theorem lw_ret {p : Program} {l : Launch} {e : Env} {s : State} {m : MethodId} {below : List Frame} {meth : Method} {c : Code} {b : Nat} (hx : p.tables.exec = Jvm.exec) (hb : c.code = code) (hr : meth.sig.returnType = ret) (hlocks : meth.locks = false) {pc : Nat} {H : Heap} {ls : Array Slot} (hdg : decode code pc = .ok (.ireturn, 1)) : W p l e room_1 s m #[Value.ref b] below meth c H [] 600000 7302250 (lw_Z below #[Value.ref b] s) (F0 m pc ls [.int 1]) := by
  intro T hT X
  obtain ⟨fs, hret, hrun, hended, hW, hframe⟩ := X.leave (v := some (.int 1)) (hlocks := hlocks) (fun h => by rw [hr] at h; cases h)
  have hmeth' : T.vm.method? m = some meth := X.method'
  refine ⟨T.setFrames fs, ?_, .returned (some (.int 1)), hrun, hended, rfl, ⟨_, rfl⟩, hW, hframe⟩
  jvm_step X.here [X.here.top, hx, hb, hdg, hmeth', hr, ret, narrow_b1]
  (try refine ⟨rfl, ?_⟩); (try refine ⟨rfl, ?_⟩)
  first | (intro acts; rw [hret _ acts rfl rfl rfl]) | rw [hret _ _ rfl rfl rfl]
  exact Steps.refl _
/-- what holds at the law's entry: the machine, the code, the tables' words (any of lw_tbl by 'hts w (by decide +kernel)'), the script of L ints xs at the cell b, what the Statement gives of the start (any of its parts by flat_of_before) -/
def lw_At (p : Program) (s : State) (m : MethodId) (meth : Method) (c : Code) (b L : Nat) (xs : Nat → Int32) : Prop :=
  p.tables.exec = Jvm.exec ∧ c.code = code ∧ meth.sig.returnType = ret ∧ c.maxLocals = 4 ∧ s.vm.findClass R_law = some m.cls ∧ (∀ w ∈ lw_tbl, w.before #[Value.ref b] s = true) ∧ va_X b L xs s s.heap ∧ b < s.heap.size ∧ meth.locks = false ∧ (Jvm.Cond.and given_1 narrow_1).before #[Value.ref b] s = true

theorem Y_X4_module : fm_Y yX4_module cX4_module 2 (some .int) 1 := ⟨by decide +kernel, by decide +kernel, by decide +kernel, by decide⟩
theorem LL_X4_module : Cond.methodLink R_law 13 yX4_module ∈ gtbl ∧ Cond.instanceMethod yX4_module ∈ gtbl ∧ Cond.selects RX4 yX4_module yX4_module ∈ gtbl := ⟨by decide +kernel, by decide +kernel, by decide +kernel⟩
theorem Y_X5_module : fm_Y yX5_module cX5_module 2 (some .int) 1 := ⟨by decide +kernel, by decide +kernel, by decide +kernel, by decide⟩
theorem LL_X5_module : Cond.methodLink R_law 17 yX5_module ∈ gtbl ∧ Cond.instanceMethod yX5_module ∈ gtbl ∧ Cond.selects RX5 yX5_module yX5_module ∈ gtbl := ⟨by decide +kernel, by decide +kernel, by decide +kernel⟩
theorem Y_X4_item : fm_Y yX4_item cX4_item 4 (some .int) 3 := ⟨by decide +kernel, by decide +kernel, by decide +kernel, by decide⟩
theorem LL_X4_item : Cond.methodLink R_law 18 yX4_item ∈ gtbl ∧ Cond.instanceMethod yX4_item ∈ gtbl ∧ Cond.selects RX4 yX4_item yX4_item ∈ gtbl := ⟨by decide +kernel, by decide +kernel, by decide +kernel⟩
theorem Y_X5_item : fm_Y yX5_item cX5_item 4 (some .int) 3 := ⟨by decide +kernel, by decide +kernel, by decide +kernel, by decide⟩
theorem LL_X5_item : Cond.methodLink R_law 22 yX5_item ∈ gtbl ∧ Cond.instanceMethod yX5_item ∈ gtbl ∧ Cond.selects RX5 yX5_item yX5_item ∈ gtbl := ⟨by decide +kernel, by decide +kernel, by decide +kernel⟩
theorem Y_X4_uses : fm_Y yX4_uses cX4_uses 3 (some .int) 2 := ⟨by decide +kernel, by decide +kernel, by decide +kernel, by decide⟩
theorem LL_X4_uses : Cond.methodLink R_law 23 yX4_uses ∈ gtbl ∧ Cond.instanceMethod yX4_uses ∈ gtbl ∧ Cond.selects RX4 yX4_uses yX4_uses ∈ gtbl := ⟨by decide +kernel, by decide +kernel, by decide +kernel⟩
theorem Y_X5_uses : fm_Y yX5_uses cX5_uses 3 (some .int) 2 := ⟨by decide +kernel, by decide +kernel, by decide +kernel, by decide⟩
theorem LL_X5_uses : Cond.methodLink R_law 27 yX5_uses ∈ gtbl ∧ Cond.instanceMethod yX5_uses ∈ gtbl ∧ Cond.selects RX5 yX5_uses yX5_uses ∈ gtbl := ⟨by decide +kernel, by decide +kernel, by decide +kernel⟩
theorem Y_X4_deed : fm_Y yX4_deed cX4_deed 4 (some .int) 3 := ⟨by decide +kernel, by decide +kernel, by decide +kernel, by decide⟩
theorem LL_X4_deed : Cond.methodLink R_law 28 yX4_deed ∈ gtbl ∧ Cond.instanceMethod yX4_deed ∈ gtbl ∧ Cond.selects RX4 yX4_deed yX4_deed ∈ gtbl := ⟨by decide +kernel, by decide +kernel, by decide +kernel⟩
theorem Y_X5_deed : fm_Y yX5_deed cX5_deed 4 (some .int) 3 := ⟨by decide +kernel, by decide +kernel, by decide +kernel, by decide⟩
theorem LL_X5_deed : Cond.methodLink R_law 31 yX5_deed ∈ gtbl ∧ Cond.instanceMethod yX5_deed ∈ gtbl ∧ Cond.selects RX5 yX5_deed yX5_deed ∈ gtbl := ⟨by decide +kernel, by decide +kernel, by decide +kernel⟩
theorem Y_X4_constant : fm_Y yX4_constant cX4_constant 6 (some .int) 5 := ⟨by decide +kernel, by decide +kernel, by decide +kernel, by decide⟩
theorem LL_X4_constant : Cond.methodLink R_law 32 yX4_constant ∈ gtbl ∧ Cond.instanceMethod yX4_constant ∈ gtbl ∧ Cond.selects RX4 yX4_constant yX4_constant ∈ gtbl := ⟨by decide +kernel, by decide +kernel, by decide +kernel⟩
theorem Y_X5_constant : fm_Y yX5_constant cX5_constant 8 (some .int) 5 := ⟨by decide +kernel, by decide +kernel, by decide +kernel, by decide⟩
theorem LL_X5_constant : Cond.methodLink R_law 36 yX5_constant ∈ gtbl ∧ Cond.instanceMethod yX5_constant ∈ gtbl ∧ Cond.selects RX5 yX5_constant yX5_constant ∈ gtbl := ⟨by decide +kernel, by decide +kernel, by decide +kernel⟩
theorem Y_X4_need : fm_Y yX4_need cX4_need 5 (some .int) 2 := ⟨by decide +kernel, by decide +kernel, by decide +kernel, by decide⟩
theorem LL_X4_need : Cond.methodLink R_law 37 yX4_need ∈ gtbl ∧ Cond.instanceMethod yX4_need ∈ gtbl ∧ Cond.selects RX4 yX4_need yX4_need ∈ gtbl := ⟨by decide +kernel, by decide +kernel, by decide +kernel⟩
theorem Y_X5_need : fm_Y yX5_need cX5_need 3 (some .int) 2 := ⟨by decide +kernel, by decide +kernel, by decide +kernel, by decide⟩
theorem LL_X5_need : Cond.methodLink R_law 40 yX5_need ∈ gtbl ∧ Cond.instanceMethod yX5_need ∈ gtbl ∧ Cond.selects RX5 yX5_need yX5_need ∈ gtbl := ⟨by decide +kernel, by decide +kernel, by decide +kernel⟩
theorem Y_X4_value : fm_Y yX4_value cX4_value 1 (some .int) 0 := ⟨by decide +kernel, by decide +kernel, by decide +kernel, by decide⟩
theorem LL_X4_value : Cond.methodLink R_law 41 yX4_value ∈ gtbl ∧ Cond.instanceMethod yX4_value ∈ gtbl ∧ Cond.selects RX4 yX4_value yX4_value ∈ gtbl := ⟨by decide +kernel, by decide +kernel, by decide +kernel⟩
theorem Y_X5_value : fm_Y yX5_value cX5_value 1 (some .int) 0 := ⟨by decide +kernel, by decide +kernel, by decide +kernel, by decide⟩
theorem LL_X5_value : Cond.methodLink R_law 45 yX5_value ∈ gtbl ∧ Cond.instanceMethod yX5_value ∈ gtbl ∧ Cond.selects RX5 yX5_value yX5_value ∈ gtbl := ⟨by decide +kernel, by decide +kernel, by decide +kernel⟩
theorem Y_X4_start : fm_Y yX4_start cX4_start 4 (some .int) 2 := ⟨by decide +kernel, by decide +kernel, by decide +kernel, by decide⟩
theorem LL_X4_start : Cond.methodLink R_law 46 yX4_start ∈ gtbl ∧ Cond.instanceMethod yX4_start ∈ gtbl ∧ Cond.selects RX4 yX4_start yX4_start ∈ gtbl := ⟨by decide +kernel, by decide +kernel, by decide +kernel⟩
theorem Y_X5_start : fm_Y yX5_start cX5_start 3 (some .int) 2 := ⟨by decide +kernel, by decide +kernel, by decide +kernel, by decide⟩
theorem LL_X5_start : Cond.methodLink R_law 49 yX5_start ∈ gtbl ∧ Cond.instanceMethod yX5_start ∈ gtbl ∧ Cond.selects RX5 yX5_start yX5_start ∈ gtbl := ⟨by decide +kernel, by decide +kernel, by decide +kernel⟩
theorem Y_X4_fault : fm_Y yX4_fault cX4_fault 2 (some .int) 1 := ⟨by decide +kernel, by decide +kernel, by decide +kernel, by decide⟩
theorem LL_X4_fault : Cond.methodLink R_law 50 yX4_fault ∈ gtbl ∧ Cond.instanceMethod yX4_fault ∈ gtbl ∧ Cond.selects RX4 yX4_fault yX4_fault ∈ gtbl := ⟨by decide +kernel, by decide +kernel, by decide +kernel⟩
theorem Y_X5_fault : fm_Y yX5_fault cX5_fault 2 (some .int) 1 := ⟨by decide +kernel, by decide +kernel, by decide +kernel, by decide⟩
theorem LL_X5_fault : Cond.methodLink R_law 53 yX5_fault ∈ gtbl ∧ Cond.instanceMethod yX5_fault ∈ gtbl ∧ Cond.selects RX5 yX5_fault yX5_fault ∈ gtbl := ⟨by decide +kernel, by decide +kernel, by decide +kernel⟩
theorem Y_X4_state : fm_Y yX4_state cX4_state 4 (some .int) 2 := ⟨by decide +kernel, by decide +kernel, by decide +kernel, by decide⟩
theorem LL_X4_state : Cond.methodLink R_law 54 yX4_state ∈ gtbl ∧ Cond.instanceMethod yX4_state ∈ gtbl ∧ Cond.selects RX4 yX4_state yX4_state ∈ gtbl := ⟨by decide +kernel, by decide +kernel, by decide +kernel⟩
theorem Y_X5_state : fm_Y yX5_state cX5_state 3 (some .int) 2 := ⟨by decide +kernel, by decide +kernel, by decide +kernel, by decide⟩
theorem LL_X5_state : Cond.methodLink R_law 57 yX5_state ∈ gtbl ∧ Cond.instanceMethod yX5_state ∈ gtbl ∧ Cond.selects RX5 yX5_state yX5_state ∈ gtbl := ⟨by decide +kernel, by decide +kernel, by decide +kernel⟩
theorem Y_X4_kept : fm_Y yX4_kept cX4_kept 4 (some .int) 2 := ⟨by decide +kernel, by decide +kernel, by decide +kernel, by decide⟩
theorem LL_X4_kept : Cond.methodLink R_law 58 yX4_kept ∈ gtbl ∧ Cond.instanceMethod yX4_kept ∈ gtbl ∧ Cond.selects RX4 yX4_kept yX4_kept ∈ gtbl := ⟨by decide +kernel, by decide +kernel, by decide +kernel⟩
theorem Y_X5_kept : fm_Y yX5_kept cX5_kept 4 (some .int) 2 := ⟨by decide +kernel, by decide +kernel, by decide +kernel, by decide⟩
theorem LL_X5_kept : Cond.methodLink R_law 61 yX5_kept ∈ gtbl ∧ Cond.instanceMethod yX5_kept ∈ gtbl ∧ Cond.selects RX5 yX5_kept yX5_kept ∈ gtbl := ⟨by decide +kernel, by decide +kernel, by decide +kernel⟩
theorem Y_X4_row : fm_Y yX4_row cX4_row 5 (some .int) 3 := ⟨by decide +kernel, by decide +kernel, by decide +kernel, by decide⟩
theorem LL_X4_row : Cond.methodLink R_law 62 yX4_row ∈ gtbl ∧ Cond.instanceMethod yX4_row ∈ gtbl ∧ Cond.selects RX4 yX4_row yX4_row ∈ gtbl := ⟨by decide +kernel, by decide +kernel, by decide +kernel⟩
theorem Y_X5_row : fm_Y yX5_row cX5_row 4 (some .int) 3 := ⟨by decide +kernel, by decide +kernel, by decide +kernel, by decide⟩
theorem LL_X5_row : Cond.methodLink R_law 65 yX5_row ∈ gtbl ∧ Cond.instanceMethod yX5_row ∈ gtbl ∧ Cond.selects RX5 yX5_row yX5_row ∈ gtbl := ⟨by decide +kernel, by decide +kernel, by decide +kernel⟩
theorem Y_X4_trace : fm_Y yX4_trace cX4_trace 3 (some .int) 2 := ⟨by decide +kernel, by decide +kernel, by decide +kernel, by decide⟩
theorem LL_X4_trace : Cond.methodLink R_law 66 yX4_trace ∈ gtbl ∧ Cond.instanceMethod yX4_trace ∈ gtbl ∧ Cond.selects RX4 yX4_trace yX4_trace ∈ gtbl := ⟨by decide +kernel, by decide +kernel, by decide +kernel⟩
theorem Y_X5_trace : fm_Y yX5_trace cX5_trace 3 (some .int) 2 := ⟨by decide +kernel, by decide +kernel, by decide +kernel, by decide⟩
theorem LL_X5_trace : Cond.methodLink R_law 69 yX5_trace ∈ gtbl ∧ Cond.instanceMethod yX5_trace ∈ gtbl ∧ Cond.selects RX5 yX5_trace yX5_trace ∈ gtbl := ⟨by decide +kernel, by decide +kernel, by decide +kernel⟩
theorem Y_X4_forget : fm_Y yX4_forget cX4_forget 4 (some .int) 1 := ⟨by decide +kernel, by decide +kernel, by decide +kernel, by decide⟩
theorem LL_X4_forget : Cond.methodLink R_law 70 yX4_forget ∈ gtbl ∧ Cond.instanceMethod yX4_forget ∈ gtbl ∧ Cond.selects RX4 yX4_forget yX4_forget ∈ gtbl := ⟨by decide +kernel, by decide +kernel, by decide +kernel⟩
theorem Y_X5_forget : fm_Y yX5_forget cX5_forget 2 (some .int) 1 := ⟨by decide +kernel, by decide +kernel, by decide +kernel, by decide⟩
theorem LL_X5_forget : Cond.methodLink R_law 73 yX5_forget ∈ gtbl ∧ Cond.instanceMethod yX5_forget ∈ gtbl ∧ Cond.selects RX5 yX5_forget yX5_forget ∈ gtbl := ⟨by decide +kernel, by decide +kernel, by decide +kernel⟩
theorem Y_X4_alike : fm_Y yX4_alike cX4_alike 2 (some .int) 1 := ⟨by decide +kernel, by decide +kernel, by decide +kernel, by decide⟩
theorem LL_X4_alike : Cond.methodLink R_law 74 yX4_alike ∈ gtbl ∧ Cond.instanceMethod yX4_alike ∈ gtbl ∧ Cond.selects RX4 yX4_alike yX4_alike ∈ gtbl := ⟨by decide +kernel, by decide +kernel, by decide +kernel⟩
theorem Y_X5_alike : fm_Y yX5_alike cX5_alike 9 (some .int) 1 := ⟨by decide +kernel, by decide +kernel, by decide +kernel, by decide⟩
theorem LL_X5_alike : Cond.methodLink R_law 77 yX5_alike ∈ gtbl ∧ Cond.instanceMethod yX5_alike ∈ gtbl ∧ Cond.selects RX5 yX5_alike yX5_alike ∈ gtbl := ⟨by decide +kernel, by decide +kernel, by decide +kernel⟩
theorem Y_X4_told : fm_Y yX4_told cX4_told 2 (some .int) 1 := ⟨by decide +kernel, by decide +kernel, by decide +kernel, by decide⟩
theorem LL_X4_told : Cond.methodLink R_law 78 yX4_told ∈ gtbl ∧ Cond.instanceMethod yX4_told ∈ gtbl ∧ Cond.selects RX4 yX4_told yX4_told ∈ gtbl := ⟨by decide +kernel, by decide +kernel, by decide +kernel⟩
theorem Y_X5_told : fm_Y yX5_told cX5_told 2 (some .int) 1 := ⟨by decide +kernel, by decide +kernel, by decide +kernel, by decide⟩
theorem LL_X5_told : Cond.methodLink R_law 81 yX5_told ∈ gtbl ∧ Cond.instanceMethod yX5_told ∈ gtbl ∧ Cond.selects RX5 yX5_told yX5_told ∈ gtbl := ⟨by decide +kernel, by decide +kernel, by decide +kernel⟩
def A1 (h : Nat) : Nat → Prop := fun q => h ≤ q ∧ q < h + 305
def A2 (h : Nat) : Nat → Prop := fun q => h + 305 ≤ q ∧ q < h + 305 + 29
def ll_C (p : Program) (s : State) (m : MethodId) (c : Code) (b L : Nat) (xs : Nat → Int32) (D : va_G) (cI cII cLd cOc : ClassId) (tA h : Nat) : Prop :=
  p.tables.exec = Jvm.exec ∧ c.code = cL_law ∧ c.maxLocals = 4 ∧ s.vm.findClass R_law = some m.cls ∧ (∀ w ∈ gtbl, w.before #[Value.ref b] s = true) ∧ fm_K D (fm_tys cI cII cLd cOc) tA h 305 (A1 h) s ∧ fm_K D (fm_tys cI cII cLd cOc) tA (h + 305) 29 (A2 h) s ∧ va_X b L xs s s.heap ∧ b < s.heap.size ∧ s.heap.size = h ∧ L ≤ 3072
/-- the law's judgement: both worlds -/
def ll_V (p : Program) (l : Launch) (e : Env) (s : State) (m : MethodId) (b : Nat) (below : List Frame) (meth : Method) (c : Code) (D : va_G) (cI cII cLd cOc : ClassId) (h : Nat) (Q : State → Prop) (pc : Nat) (lv : List (Nat × Value)) (st : List Value) (v w : fm_T) : Prop :=
  ∀ (H : Heap) (locs : List Loc) (ls : Array Slot), va_P D vwCl (fm_w h 305 (fm_c (shC cI cII cLd cOc h) v)) H → va_P D vwCl (fm_w (h + 305) 29 (fm_c (shM cI (h + 305)) w)) H → va_S (fun q => h ≤ q) s.heap H locs → lv_has ls 4 lv → W p l e room_1 s m #[Value.ref b] below meth c H locs 334 6659 Q (F0 m pc ls st)
abbrev llv (b h k : Nat) : List (Nat × Value) := [(3, .int (nI k)), (2, .ref (h + 305 + 0)), (1, .ref (h + 0)), (0, .ref b)]
section LL
variable {p : Program} {l : Launch} {e : Env} {s : State} {m : MethodId} {b L : Nat} {xs : Nat → Int32} {below : List Frame} {meth : Method} {c : Code} {D : va_G} {cI cII cLd cOc : ClassId} {tA h : Nat} {Q : State → Prop} {pc k : Nat} {rest : List Value} {v w : fm_T}
theorem ll_K {N b0 : Nat} {A : Nat → Prop} {s U : State} (hK : fm_K D (fm_tys cI cII cLd cOc) tA b0 N A s) (hW : s.WarmedH U.vm) {H : Heap} {locs : List Loc} (hh : s.heap.size = h) (hS : va_S (fun q => h ≤ q) s.heap H locs) (hU : U.heap = H) : fm_K D (fm_tys cI cII cLd cOc) tA b0 N A U := hK.to hW (locs := []) ⟨by rw [hU]; exact hS.1, fun q h1 _ => by rw [hU]; exact hS.2.1 q h1 (by omega), fun _ h => absurd h List.not_mem_nil⟩
theorem ll_callX (C : ll_C p s m c b L xs D cI cII cLd cOc tA h) {y : MethodName} {cy : ByteArray} {ny n hh : Nat} {As : List Value} {r : Int32} {u : fm_T} {index : Nat} (hY : fm_Y y cy ny (some .int) n) (hw : Cond.methodLink R_law index y ∈ gtbl ∧ Cond.instanceMethod y ∈ gtbl ∧ Cond.selects RX4 y y ∈ gtbl) (hM : fm_M l D (fm_tys cI cII cLd cOc) tA h 305 (shC cI cII cLd cOc h) (A1 h) y cy ny (some .int) hh (.ref (h + 0) :: As) v (some (.int r)) u) (hF : hh + 1 ≤ 2048) (hLo : 40 * (hh + 1) ≤ 84000) (hn : As.length = n) (hrest : (rest.map fun v => v.category).sum ≤ 8) (hdg : decode cL_law pc = .ok (.invokevirtual index, 3)) (np : Nat) (hnp : pc + 3 = np) (kk : ll_V p l e s m b below meth c D cI cII cLd cOc h Q np (llv b h k) (.int r :: rest) u w) : ll_V p l e s m b below meth c D cI cII cLd cOc h Q pc (llv b h k) (As.reverse ++ .ref (h + 0) :: rest) v w := fun H locs ls hP hPm hS hl => by
  subst hnp
  have hts := C.2.2.2.2.1
  have hh0 := C.2.2.2.2.2.2.2.2.2.1
  obtain ⟨y1, y2, y3, y4⟩ := hY
  have hcb : CallB room_1 s #[Value.ref b] R_law index y cy ny (some .int) (.code y cy ny (some .int) :: gtbl) (fm_rm hh) 0 0 n := callB_of n hts (gtbl_GoodIn (fun _ h => h) y1) rfl rfl rfl (hts _ y2) (hts _ hw.1) y3 ⟨hF, by show 8 + (ny + 11) + 40 * hh ≤ 84000; omega⟩
  have hr := va_runV (g := F0 m pc ls (As.reverse ++ .ref (h + 0) :: rest)) (locs := locs) (cells := 334) (slots := 6659) (below := below) (meth := meth) (e := e) (Ts := gtbl) ⟨C.1, C.2.1, C.2.2.1, C.2.2.2.1, hts⟩ hM ⟨hcb, hts _ hw.2.1, hts _ hw.2.2⟩ ⟨fm_blind, va_recv (q0 := 0) (ci := 4) C.2.2.2.2.2.1.1 hP rfl (fm_w_c (shC_0 _) (by decide)), fun U hU hW => ⟨rfl, by rw [hU]; exact hP, ll_K C.2.2.2.2.2.1 hW hh0 hS hU⟩⟩ rfl hn hl.1 rfl (lv_room hrest) hdg ⟨by decide, by decide⟩
  intro T hT X
  obtain ⟨x, st₀, t9, T2, L2, h0, X2, hL, e1, e2, ⟨hv, hb, hz, hk⟩, st⟩ := hr T hT X
  cases hv
  rw [h0] at hz hk
  have hPo : va_P D vwCl (fm_w (h + 305) 29 (fm_c (shM cI (h + 305)) w)) T2.heap := hPm.kept (fun k x hx => by
    have hlt := (hPm k x hx).lt
    obtain ⟨h1, rfl⟩ := fm_w_of hx
    rw [e1]
    exact hk _ hlt (fun q => by have q1 := q.1; have q2 := q.2; dsimp only at q1 q2; omega))
  obtain ⟨t2, a1, b1⟩ := kk T2.heap (locs ++ L2) ls (by rw [e1]; exact hb) hPo ⟨Nat.le_trans hS.1 (by rw [e1]; exact hz), fun q h1 h2 => by rw [e1, hk q (Nat.lt_of_lt_of_le h1 hS.1) (fun z => h2 (by have z1 := z.1; show h ≤ q; omega))]; exact hS.2.1 q h1 h2, fun q hq => by
      rcases List.mem_append.mp hq with h3 | h3
      · exact hS.2.2 q h3
      · have z1 := (hL q h3).1; show h ≤ q.base; omega⟩ hl T2 rfl X2
  exact ⟨t2, st t2 a1, b1⟩
theorem ll_callM (C : ll_C p s m c b L xs D cI cII cLd cOc tA h) {y : MethodName} {cy : ByteArray} {ny n hh : Nat} {As : List Value} {r : Int32} {u : fm_T} {index : Nat} (hY : fm_Y y cy ny (some .int) n) (hw : Cond.methodLink R_law index y ∈ gtbl ∧ Cond.instanceMethod y ∈ gtbl ∧ Cond.selects RX5 y y ∈ gtbl) (hM : fm_M l D (fm_tys cI cII cLd cOc) tA (h + 305) 29 (shM cI (h + 305)) (A2 h) y cy ny (some .int) hh (.ref ((h + 305) + 0) :: As) w (some (.int r)) u) (hF : hh + 1 ≤ 2048) (hLo : 40 * (hh + 1) ≤ 84000) (hn : As.length = n) (hrest : (rest.map fun v => v.category).sum ≤ 8) (hdg : decode cL_law pc = .ok (.invokevirtual index, 3)) (np : Nat) (hnp : pc + 3 = np) (kk : ll_V p l e s m b below meth c D cI cII cLd cOc h Q np (llv b h k) (.int r :: rest) v u) : ll_V p l e s m b below meth c D cI cII cLd cOc h Q pc (llv b h k) (As.reverse ++ .ref ((h + 305) + 0) :: rest) v w := fun H locs ls hP hPm hS hl => by
  subst hnp
  have hts := C.2.2.2.2.1
  have hh0 := C.2.2.2.2.2.2.2.2.2.1
  obtain ⟨y1, y2, y3, y4⟩ := hY
  have hcb : CallB room_1 s #[Value.ref b] R_law index y cy ny (some .int) (.code y cy ny (some .int) :: gtbl) (fm_rm hh) 0 0 n := callB_of n hts (gtbl_GoodIn (fun _ h => h) y1) rfl rfl rfl (hts _ y2) (hts _ hw.1) y3 ⟨hF, by show 8 + (ny + 11) + 40 * hh ≤ 84000; omega⟩
  have hr := va_runV (g := F0 m pc ls (As.reverse ++ .ref ((h + 305) + 0) :: rest)) (locs := locs) (cells := 334) (slots := 6659) (below := below) (meth := meth) (e := e) (Ts := gtbl) ⟨C.1, C.2.1, C.2.2.1, C.2.2.2.1, hts⟩ hM ⟨hcb, hts _ hw.2.1, hts _ hw.2.2⟩ ⟨fm_blind, va_recv (q0 := 0) (ci := 5) C.2.2.2.2.2.2.1.1 hPm rfl (fm_w_c (shM_0 _) (by decide)), fun U hU hW => ⟨rfl, by rw [hU]; exact hPm, ll_K C.2.2.2.2.2.2.1 hW hh0 hS hU⟩⟩ rfl hn hl.1 rfl (lv_room hrest) hdg ⟨by decide, by decide⟩
  intro T hT X
  obtain ⟨x, st₀, t9, T2, L2, h0, X2, hL, e1, e2, ⟨hv, hb, hz, hk⟩, st⟩ := hr T hT X
  cases hv
  rw [h0] at hz hk
  have hPo : va_P D vwCl (fm_w h 305 (fm_c (shC cI cII cLd cOc h) v)) T2.heap := hP.kept (fun k x hx => by
    have hlt := (hP k x hx).lt
    obtain ⟨h1, rfl⟩ := fm_w_of hx
    rw [e1]
    exact hk _ hlt (fun q => by have q1 := q.1; have q2 := q.2; dsimp only at q1 q2; omega))
  obtain ⟨t2, a1, b1⟩ := kk T2.heap (locs ++ L2) ls hPo (by rw [e1]; exact hb) ⟨Nat.le_trans hS.1 (by rw [e1]; exact hz), fun q h1 h2 => by rw [e1, hk q (Nat.lt_of_lt_of_le h1 hS.1) (fun z => h2 (by have z1 := z.1; show h ≤ q; omega))]; exact hS.2.1 q h1 h2, fun q hq => by
      rcases List.mem_append.mp hq with h3 | h3
      · exact hS.2.2 q h3
      · have z1 := (hL q h3).1; show h ≤ q.base; omega⟩ hl T2 rfl X2
  exact ⟨t2, st t2 a1, b1⟩
theorem ll_arg (C : ll_C p s m c b L xs D cI cII cLd cOc tA h) {j : Nat} {j0 : Int} (hkj : k + j < L) (hj0 : Int32.ofInt j0 = nI j) (d0 : decode cL_law pc = .ok (.aload_n 0, 1)) (d1 : decode cL_law (pc + 1) = .ok (.iload_n 3, 1)) (d2 : decode cL_law (pc + 2) = .ok (.iconst j0, 1)) (d3 : decode cL_law (pc + 3) = .ok (.iadd, 1)) (d4 : decode cL_law (pc + 4) = .ok (.iaload, 1)) (np : Nat) (hnp : pc + 5 = np) (kk : ll_V p l e s m b below meth c D cI cII cLd cOc h Q np (llv b h k) (.int (xs (k + j)) :: rest) v w) : ll_V p l e s m b below meth c D cI cII cLd cOc h Q pc (llv b h k) rest v w := fun H locs ls hP hPm hS hl => by
  subst hnp
  have hL := C.2.2.2.2.2.2.2.2.2.2
  have hh0 := C.2.2.2.2.2.2.2.2.2.1
  have hb := C.2.2.2.2.2.2.2.2.1
  refine lv_aload_n C.1 C.2.1 d0 rfl (lv_at hl 3 rfl) ?_
  refine lv_iload_n C.1 C.2.1 d1 rfl (lv_at hl 0 rfl) ?_
  refine lv_iconst (v := nI j) C.1 C.2.1 d2 hj0 ?_
  refine lv_iadd C.1 C.2.1 d3 ?_
  rw [nI_add]
  refine va_sld C.1 C.2.1 C.2.2.2.2.2.2.2.1 hb (show ¬ h ≤ b by omega) hS (i := nI (k + j)) (nI_in hkj (by omega)) d4 ?_
  rw [nI_clamp (by omega)]
  exact kk H locs ls hP hPm hS hl
theorem ll_a1 (C : ll_C p s m c b L xs D cI cII cLd cOc tA h) (d0 : decode cL_law pc = .ok (.aload_n 1, 1)) (np : Nat) (hnp : pc + 1 = np) (kk : ll_V p l e s m b below meth c D cI cII cLd cOc h Q np (llv b h k) (.ref (h + 0) :: rest) v w) : ll_V p l e s m b below meth c D cI cII cLd cOc h Q pc (llv b h k) rest v w := fun H locs ls hP hPm hS hl => by
  subst hnp
  exact lv_aload_n C.1 C.2.1 d0 rfl (lv_at hl 2 rfl) (kk H locs ls hP hPm hS hl)
theorem ll_a2 (C : ll_C p s m c b L xs D cI cII cLd cOc tA h) (d0 : decode cL_law pc = .ok (.aload_n 2, 1)) (np : Nat) (hnp : pc + 1 = np) (kk : ll_V p l e s m b below meth c D cI cII cLd cOc h Q np (llv b h k) (.ref (h + 305 + 0) :: rest) v w) : ll_V p l e s m b below meth c D cI cII cLd cOc h Q pc (llv b h k) rest v w := fun H locs ls hP hPm hS hl => by
  subst hnp
  exact lv_aload_n C.1 C.2.1 d0 rfl (lv_at hl 1 rfl) (kk H locs ls hP hPm hS hl)
theorem ll_eq (C : ll_C p s m c b L xs D cI cII cLd cOc tA h) {off : Int} {r : Int32} (hdg : decode cL_law pc = .ok (.if_icmp .eq off, 3)) (ht : (pc : Int) + off = ((630 : Nat) : Int)) (kk : ll_V p l e s m b below meth c D cI cII cLd cOc h Q 630 (llv b h k) [] v w) : ll_V p l e s m b below meth c D cI cII cLd cOc h Q pc (llv b h k) [.int r, .int r] v w := fun H locs ls hP hPm hS hl => lv_icmp_eq C.1 C.2.1 hdg ht (fun _ => kk H locs ls hP hPm hS hl) (fun q => absurd rfl q)
theorem ll_module (C : ll_C p s m c b L xs D cI cII cLd cOc tA h) (hk : k + 6 ≤ L) (hR : RR v w) (nx : ∀ v2 w2, RR v2 w2 → ll_V p l e s m b below meth c D cI cII cLd cOc h Q 630 (llv b h k) [] v2 w2) : ll_V p l e s m b below meth c D cI cII cLd cOc h Q 112 (llv b h k) [] v w := by
  obtain ⟨r, v2, w2, e1, e2, e3⟩ := B_module hR (xs (k + 1))
  refine ll_a1 C dL_law_112 113 rfl ?_
  refine ll_arg C (j := 1) (by omega) (by decide) dL_law_113 dL_law_114 dL_law_115 dL_law_116 dL_law_117 118 rfl ?_
  refine ll_callX C (As := [.int (xs (k + 1))]) (rest := []) Y_X4_module LL_X4_module (c_X4_module e1) (by decide) (by decide) rfl (Nat.le_of_ble_eq_true rfl) dL_law_118 121 rfl ?_
  refine ll_a2 C dL_law_121 122 rfl ?_
  refine ll_arg C (j := 1) (by omega) (by decide) dL_law_122 dL_law_123 dL_law_124 dL_law_125 dL_law_126 127 rfl ?_
  refine ll_callM C (As := [.int (xs (k + 1))]) (rest := [.int r]) Y_X5_module LL_X5_module (c_X5_module e2) (by decide) (by decide) rfl (Nat.le_of_ble_eq_true rfl) dL_law_127 130 rfl ?_
  exact ll_eq C dL_law_130 (by decide) (nx _ _ e3)
theorem ll_item (C : ll_C p s m c b L xs D cI cII cLd cOc tA h) (hk : k + 6 ≤ L) (hR : RR v w) (nx : ∀ v2 w2, RR v2 w2 → ll_V p l e s m b below meth c D cI cII cLd cOc h Q 630 (llv b h k) [] v2 w2) : ll_V p l e s m b below meth c D cI cII cLd cOc h Q 135 (llv b h k) [] v w := by
  obtain ⟨r, v2, w2, e1, e2, e3⟩ := B_item hR (xs (k + 1)) (xs (k + 2)) (xs (k + 3))
  refine ll_a1 C dL_law_135 136 rfl ?_
  refine ll_arg C (j := 1) (by omega) (by decide) dL_law_136 dL_law_137 dL_law_138 dL_law_139 dL_law_140 141 rfl ?_
  refine ll_arg C (j := 2) (by omega) (by decide) dL_law_141 dL_law_142 dL_law_143 dL_law_144 dL_law_145 146 rfl ?_
  refine ll_arg C (j := 3) (by omega) (by decide) dL_law_146 dL_law_147 dL_law_148 dL_law_149 dL_law_150 151 rfl ?_
  refine ll_callX C (As := [.int (xs (k + 1)), .int (xs (k + 2)), .int (xs (k + 3))]) (rest := []) Y_X4_item LL_X4_item (c_X4_item e1) (by decide) (by decide) rfl (Nat.le_of_ble_eq_true rfl) dL_law_151 154 rfl ?_
  refine ll_a2 C dL_law_154 155 rfl ?_
  refine ll_arg C (j := 1) (by omega) (by decide) dL_law_155 dL_law_156 dL_law_157 dL_law_158 dL_law_159 160 rfl ?_
  refine ll_arg C (j := 2) (by omega) (by decide) dL_law_160 dL_law_161 dL_law_162 dL_law_163 dL_law_164 165 rfl ?_
  refine ll_arg C (j := 3) (by omega) (by decide) dL_law_165 dL_law_166 dL_law_167 dL_law_168 dL_law_169 170 rfl ?_
  refine ll_callM C (As := [.int (xs (k + 1)), .int (xs (k + 2)), .int (xs (k + 3))]) (rest := [.int r]) Y_X5_item LL_X5_item (c_X5_item e2) (by decide) (by decide) rfl (Nat.le_of_ble_eq_true rfl) dL_law_170 173 rfl ?_
  exact ll_eq C dL_law_173 (by decide) (nx _ _ e3)
theorem ll_uses (C : ll_C p s m c b L xs D cI cII cLd cOc tA h) (hk : k + 6 ≤ L) (hR : RR v w) (nx : ∀ v2 w2, RR v2 w2 → ll_V p l e s m b below meth c D cI cII cLd cOc h Q 630 (llv b h k) [] v2 w2) : ll_V p l e s m b below meth c D cI cII cLd cOc h Q 178 (llv b h k) [] v w := by
  obtain ⟨r, v2, w2, e1, e2, e3⟩ := B_uses hR (xs (k + 1)) (xs (k + 2))
  refine ll_a1 C dL_law_178 179 rfl ?_
  refine ll_arg C (j := 1) (by omega) (by decide) dL_law_179 dL_law_180 dL_law_181 dL_law_182 dL_law_183 184 rfl ?_
  refine ll_arg C (j := 2) (by omega) (by decide) dL_law_184 dL_law_185 dL_law_186 dL_law_187 dL_law_188 189 rfl ?_
  refine ll_callX C (As := [.int (xs (k + 1)), .int (xs (k + 2))]) (rest := []) Y_X4_uses LL_X4_uses (c_X4_uses e1) (by decide) (by decide) rfl (Nat.le_of_ble_eq_true rfl) dL_law_189 192 rfl ?_
  refine ll_a2 C dL_law_192 193 rfl ?_
  refine ll_arg C (j := 1) (by omega) (by decide) dL_law_193 dL_law_194 dL_law_195 dL_law_196 dL_law_197 198 rfl ?_
  refine ll_arg C (j := 2) (by omega) (by decide) dL_law_198 dL_law_199 dL_law_200 dL_law_201 dL_law_202 203 rfl ?_
  refine ll_callM C (As := [.int (xs (k + 1)), .int (xs (k + 2))]) (rest := [.int r]) Y_X5_uses LL_X5_uses (c_X5_uses e2) (by decide) (by decide) rfl (Nat.le_of_ble_eq_true rfl) dL_law_203 206 rfl ?_
  exact ll_eq C dL_law_206 (by decide) (nx _ _ e3)
theorem ll_deed (C : ll_C p s m c b L xs D cI cII cLd cOc tA h) (hk : k + 6 ≤ L) (hR : RR v w) (nx : ∀ v2 w2, RR v2 w2 → ll_V p l e s m b below meth c D cI cII cLd cOc h Q 630 (llv b h k) [] v2 w2) : ll_V p l e s m b below meth c D cI cII cLd cOc h Q 211 (llv b h k) [] v w := by
  obtain ⟨r, v2, w2, e1, e2, e3⟩ := B_deed hR (xs (k + 1)) (xs (k + 2)) (xs (k + 3))
  refine ll_a1 C dL_law_211 212 rfl ?_
  refine ll_arg C (j := 1) (by omega) (by decide) dL_law_212 dL_law_213 dL_law_214 dL_law_215 dL_law_216 217 rfl ?_
  refine ll_arg C (j := 2) (by omega) (by decide) dL_law_217 dL_law_218 dL_law_219 dL_law_220 dL_law_221 222 rfl ?_
  refine ll_arg C (j := 3) (by omega) (by decide) dL_law_222 dL_law_223 dL_law_224 dL_law_225 dL_law_226 227 rfl ?_
  refine ll_callX C (As := [.int (xs (k + 1)), .int (xs (k + 2)), .int (xs (k + 3))]) (rest := []) Y_X4_deed LL_X4_deed (c_X4_deed e1) (by decide) (by decide) rfl (Nat.le_of_ble_eq_true rfl) dL_law_227 230 rfl ?_
  refine ll_a2 C dL_law_230 231 rfl ?_
  refine ll_arg C (j := 1) (by omega) (by decide) dL_law_231 dL_law_232 dL_law_233 dL_law_234 dL_law_235 236 rfl ?_
  refine ll_arg C (j := 2) (by omega) (by decide) dL_law_236 dL_law_237 dL_law_238 dL_law_239 dL_law_240 241 rfl ?_
  refine ll_arg C (j := 3) (by omega) (by decide) dL_law_241 dL_law_242 dL_law_243 dL_law_244 dL_law_245 246 rfl ?_
  refine ll_callM C (As := [.int (xs (k + 1)), .int (xs (k + 2)), .int (xs (k + 3))]) (rest := [.int r]) Y_X5_deed LL_X5_deed (c_X5_deed e2) (by decide) (by decide) rfl (Nat.le_of_ble_eq_true rfl) dL_law_246 249 rfl ?_
  exact ll_eq C dL_law_249 (by decide) (nx _ _ e3)
theorem ll_constant (C : ll_C p s m c b L xs D cI cII cLd cOc tA h) (hk : k + 6 ≤ L) (hR : RR v w) (nx : ∀ v2 w2, RR v2 w2 → ll_V p l e s m b below meth c D cI cII cLd cOc h Q 630 (llv b h k) [] v2 w2) : ll_V p l e s m b below meth c D cI cII cLd cOc h Q 254 (llv b h k) [] v w := by
  obtain ⟨r, v2, w2, e1, e2, e3⟩ := B_constant hR (xs (k + 1)) (xs (k + 2)) (xs (k + 3)) (xs (k + 4)) (xs (k + 5))
  refine ll_a1 C dL_law_254 255 rfl ?_
  refine ll_arg C (j := 1) (by omega) (by decide) dL_law_255 dL_law_256 dL_law_257 dL_law_258 dL_law_259 260 rfl ?_
  refine ll_arg C (j := 2) (by omega) (by decide) dL_law_260 dL_law_261 dL_law_262 dL_law_263 dL_law_264 265 rfl ?_
  refine ll_arg C (j := 3) (by omega) (by decide) dL_law_265 dL_law_266 dL_law_267 dL_law_268 dL_law_269 270 rfl ?_
  refine ll_arg C (j := 4) (by omega) (by decide) dL_law_270 dL_law_271 dL_law_272 dL_law_273 dL_law_274 275 rfl ?_
  refine ll_arg C (j := 5) (by omega) (by decide) dL_law_275 dL_law_276 dL_law_277 dL_law_278 dL_law_279 280 rfl ?_
  refine ll_callX C (As := [.int (xs (k + 1)), .int (xs (k + 2)), .int (xs (k + 3)), .int (xs (k + 4)), .int (xs (k + 5))]) (rest := []) Y_X4_constant LL_X4_constant (c_X4_constant e1) (by decide) (by decide) rfl (Nat.le_of_ble_eq_true rfl) dL_law_280 283 rfl ?_
  refine ll_a2 C dL_law_283 284 rfl ?_
  refine ll_arg C (j := 1) (by omega) (by decide) dL_law_284 dL_law_285 dL_law_286 dL_law_287 dL_law_288 289 rfl ?_
  refine ll_arg C (j := 2) (by omega) (by decide) dL_law_289 dL_law_290 dL_law_291 dL_law_292 dL_law_293 294 rfl ?_
  refine ll_arg C (j := 3) (by omega) (by decide) dL_law_294 dL_law_295 dL_law_296 dL_law_297 dL_law_298 299 rfl ?_
  refine ll_arg C (j := 4) (by omega) (by decide) dL_law_299 dL_law_300 dL_law_301 dL_law_302 dL_law_303 304 rfl ?_
  refine ll_arg C (j := 5) (by omega) (by decide) dL_law_304 dL_law_305 dL_law_306 dL_law_307 dL_law_308 309 rfl ?_
  refine ll_callM C (As := [.int (xs (k + 1)), .int (xs (k + 2)), .int (xs (k + 3)), .int (xs (k + 4)), .int (xs (k + 5))]) (rest := [.int r]) Y_X5_constant LL_X5_constant (c_X5_constant e2) (by decide) (by decide) rfl (Nat.le_of_ble_eq_true rfl) dL_law_309 312 rfl ?_
  exact ll_eq C dL_law_312 (by decide) (nx _ _ e3)
theorem ll_need (C : ll_C p s m c b L xs D cI cII cLd cOc tA h) (hk : k + 6 ≤ L) (hR : RR v w) (nx : ∀ v2 w2, RR v2 w2 → ll_V p l e s m b below meth c D cI cII cLd cOc h Q 630 (llv b h k) [] v2 w2) : ll_V p l e s m b below meth c D cI cII cLd cOc h Q 317 (llv b h k) [] v w := by
  obtain ⟨u, r, v2, w2, e1, e2, e3⟩ := B_need hR (xs (k + 1)) (xs (k + 2))
  refine ll_a1 C dL_law_317 318 rfl ?_
  refine ll_arg C (j := 1) (by omega) (by decide) dL_law_318 dL_law_319 dL_law_320 dL_law_321 dL_law_322 323 rfl ?_
  refine ll_arg C (j := 2) (by omega) (by decide) dL_law_323 dL_law_324 dL_law_325 dL_law_326 dL_law_327 328 rfl ?_
  refine ll_callX C (As := [.int (xs (k + 1)), .int (xs (k + 2))]) (rest := []) Y_X4_need LL_X4_need (c_X4_need 220 e1) (by decide) (by decide) rfl (Nat.le_of_ble_eq_true rfl) dL_law_328 331 rfl ?_
  refine ll_a2 C dL_law_331 332 rfl ?_
  refine ll_arg C (j := 1) (by omega) (by decide) dL_law_332 dL_law_333 dL_law_334 dL_law_335 dL_law_336 337 rfl ?_
  refine ll_arg C (j := 2) (by omega) (by decide) dL_law_337 dL_law_338 dL_law_339 dL_law_340 dL_law_341 342 rfl ?_
  refine ll_callM C (As := [.int (xs (k + 1)), .int (xs (k + 2))]) (rest := [.int r]) Y_X5_need LL_X5_need (c_X5_need u e2) (by decide) (by decide) rfl (Nat.le_of_ble_eq_true rfl) dL_law_342 345 rfl ?_
  exact ll_eq C dL_law_345 (by decide) (nx _ _ e3)
theorem ll_value (C : ll_C p s m c b L xs D cI cII cLd cOc tA h) (hk : k + 6 ≤ L) (hR : RR v w) (nx : ∀ v2 w2, RR v2 w2 → ll_V p l e s m b below meth c D cI cII cLd cOc h Q 630 (llv b h k) [] v2 w2) : ll_V p l e s m b below meth c D cI cII cLd cOc h Q 350 (llv b h k) [] v w := by
  obtain ⟨r, v2, w2, e1, e2, e3⟩ := B_value hR
  refine ll_a1 C dL_law_350 351 rfl ?_
  refine ll_callX C (As := []) (rest := []) Y_X4_value LL_X4_value (c_X4_value e1) (by decide) (by decide) rfl (Nat.le_of_ble_eq_true rfl) dL_law_351 354 rfl ?_
  refine ll_a2 C dL_law_354 355 rfl ?_
  refine ll_callM C (As := []) (rest := [.int r]) Y_X5_value LL_X5_value (c_X5_value e2) (by decide) (by decide) rfl (Nat.le_of_ble_eq_true rfl) dL_law_355 358 rfl ?_
  exact ll_eq C dL_law_358 (by decide) (nx _ _ e3)
theorem ll_start (C : ll_C p s m c b L xs D cI cII cLd cOc tA h) (hk : k + 6 ≤ L) (hR : RR v w) (nx : ∀ v2 w2, RR v2 w2 → ll_V p l e s m b below meth c D cI cII cLd cOc h Q 630 (llv b h k) [] v2 w2) : ll_V p l e s m b below meth c D cI cII cLd cOc h Q 363 (llv b h k) [] v w := by
  obtain ⟨u, r, v2, w2, e1, e2, e3⟩ := B_start hR (xs (k + 1)) (xs (k + 2))
  refine ll_a1 C dL_law_363 364 rfl ?_
  refine ll_arg C (j := 1) (by omega) (by decide) dL_law_364 dL_law_365 dL_law_366 dL_law_367 dL_law_368 369 rfl ?_
  refine ll_arg C (j := 2) (by omega) (by decide) dL_law_369 dL_law_370 dL_law_371 dL_law_372 dL_law_373 374 rfl ?_
  refine ll_callX C (As := [.int (xs (k + 1)), .int (xs (k + 2))]) (rest := []) Y_X4_start LL_X4_start (c_X4_start 220 e1) (by decide) (by decide) rfl (Nat.le_of_ble_eq_true rfl) dL_law_374 377 rfl ?_
  refine ll_a2 C dL_law_377 378 rfl ?_
  refine ll_arg C (j := 1) (by omega) (by decide) dL_law_378 dL_law_379 dL_law_380 dL_law_381 dL_law_382 383 rfl ?_
  refine ll_arg C (j := 2) (by omega) (by decide) dL_law_383 dL_law_384 dL_law_385 dL_law_386 dL_law_387 388 rfl ?_
  refine ll_callM C (As := [.int (xs (k + 1)), .int (xs (k + 2))]) (rest := [.int r]) Y_X5_start LL_X5_start (c_X5_start u e2) (by decide) (by decide) rfl (Nat.le_of_ble_eq_true rfl) dL_law_388 391 rfl ?_
  exact ll_eq C dL_law_391 (by decide) (nx _ _ e3)
theorem ll_fault (C : ll_C p s m c b L xs D cI cII cLd cOc tA h) (hk : k + 6 ≤ L) (hR : RR v w) (nx : ∀ v2 w2, RR v2 w2 → ll_V p l e s m b below meth c D cI cII cLd cOc h Q 630 (llv b h k) [] v2 w2) : ll_V p l e s m b below meth c D cI cII cLd cOc h Q 396 (llv b h k) [] v w := by
  obtain ⟨r, v2, w2, e1, e2, e3⟩ := B_fault hR (xs (k + 1))
  refine ll_a1 C dL_law_396 397 rfl ?_
  refine ll_arg C (j := 1) (by omega) (by decide) dL_law_397 dL_law_398 dL_law_399 dL_law_400 dL_law_401 402 rfl ?_
  refine ll_callX C (As := [.int (xs (k + 1))]) (rest := []) Y_X4_fault LL_X4_fault (c_X4_fault e1) (by decide) (by decide) rfl (Nat.le_of_ble_eq_true rfl) dL_law_402 405 rfl ?_
  refine ll_a2 C dL_law_405 406 rfl ?_
  refine ll_arg C (j := 1) (by omega) (by decide) dL_law_406 dL_law_407 dL_law_408 dL_law_409 dL_law_410 411 rfl ?_
  refine ll_callM C (As := [.int (xs (k + 1))]) (rest := [.int r]) Y_X5_fault LL_X5_fault (c_X5_fault e2) (by decide) (by decide) rfl (Nat.le_of_ble_eq_true rfl) dL_law_411 414 rfl ?_
  exact ll_eq C dL_law_414 (by decide) (nx _ _ e3)
theorem ll_state (C : ll_C p s m c b L xs D cI cII cLd cOc tA h) (hk : k + 6 ≤ L) (hR : RR v w) (nx : ∀ v2 w2, RR v2 w2 → ll_V p l e s m b below meth c D cI cII cLd cOc h Q 630 (llv b h k) [] v2 w2) : ll_V p l e s m b below meth c D cI cII cLd cOc h Q 419 (llv b h k) [] v w := by
  obtain ⟨r, v2, w2, e1, e2, e3⟩ := B_state hR (xs (k + 1)) (xs (k + 2))
  refine ll_a1 C dL_law_419 420 rfl ?_
  refine ll_arg C (j := 1) (by omega) (by decide) dL_law_420 dL_law_421 dL_law_422 dL_law_423 dL_law_424 425 rfl ?_
  refine ll_arg C (j := 2) (by omega) (by decide) dL_law_425 dL_law_426 dL_law_427 dL_law_428 dL_law_429 430 rfl ?_
  refine ll_callX C (As := [.int (xs (k + 1)), .int (xs (k + 2))]) (rest := []) Y_X4_state LL_X4_state (c_X4_state e1) (by decide) (by decide) rfl (Nat.le_of_ble_eq_true rfl) dL_law_430 433 rfl ?_
  refine ll_a2 C dL_law_433 434 rfl ?_
  refine ll_arg C (j := 1) (by omega) (by decide) dL_law_434 dL_law_435 dL_law_436 dL_law_437 dL_law_438 439 rfl ?_
  refine ll_arg C (j := 2) (by omega) (by decide) dL_law_439 dL_law_440 dL_law_441 dL_law_442 dL_law_443 444 rfl ?_
  refine ll_callM C (As := [.int (xs (k + 1)), .int (xs (k + 2))]) (rest := [.int r]) Y_X5_state LL_X5_state (c_X5_state e2) (by decide) (by decide) rfl (Nat.le_of_ble_eq_true rfl) dL_law_444 447 rfl ?_
  exact ll_eq C dL_law_447 (by decide) (nx _ _ e3)
theorem ll_kept (C : ll_C p s m c b L xs D cI cII cLd cOc tA h) (hk : k + 6 ≤ L) (hR : RR v w) (nx : ∀ v2 w2, RR v2 w2 → ll_V p l e s m b below meth c D cI cII cLd cOc h Q 630 (llv b h k) [] v2 w2) : ll_V p l e s m b below meth c D cI cII cLd cOc h Q 452 (llv b h k) [] v w := by
  obtain ⟨r, v2, w2, e1, e2, e3⟩ := B_kept hR (xs (k + 1)) (xs (k + 2))
  refine ll_a1 C dL_law_452 453 rfl ?_
  refine ll_arg C (j := 1) (by omega) (by decide) dL_law_453 dL_law_454 dL_law_455 dL_law_456 dL_law_457 458 rfl ?_
  refine ll_arg C (j := 2) (by omega) (by decide) dL_law_458 dL_law_459 dL_law_460 dL_law_461 dL_law_462 463 rfl ?_
  refine ll_callX C (As := [.int (xs (k + 1)), .int (xs (k + 2))]) (rest := []) Y_X4_kept LL_X4_kept (c_X4_kept e1) (by decide) (by decide) rfl (Nat.le_of_ble_eq_true rfl) dL_law_463 466 rfl ?_
  refine ll_a2 C dL_law_466 467 rfl ?_
  refine ll_arg C (j := 1) (by omega) (by decide) dL_law_467 dL_law_468 dL_law_469 dL_law_470 dL_law_471 472 rfl ?_
  refine ll_arg C (j := 2) (by omega) (by decide) dL_law_472 dL_law_473 dL_law_474 dL_law_475 dL_law_476 477 rfl ?_
  refine ll_callM C (As := [.int (xs (k + 1)), .int (xs (k + 2))]) (rest := [.int r]) Y_X5_kept LL_X5_kept (c_X5_kept e2) (by decide) (by decide) rfl (Nat.le_of_ble_eq_true rfl) dL_law_477 480 rfl ?_
  exact ll_eq C dL_law_480 (by decide) (nx _ _ e3)
theorem ll_row (C : ll_C p s m c b L xs D cI cII cLd cOc tA h) (hk : k + 6 ≤ L) (hR : RR v w) (nx : ∀ v2 w2, RR v2 w2 → ll_V p l e s m b below meth c D cI cII cLd cOc h Q 630 (llv b h k) [] v2 w2) : ll_V p l e s m b below meth c D cI cII cLd cOc h Q 485 (llv b h k) [] v w := by
  obtain ⟨r, v2, w2, e1, e2, e3⟩ := B_row hR (xs (k + 1)) (xs (k + 2)) (xs (k + 3))
  refine ll_a1 C dL_law_485 486 rfl ?_
  refine ll_arg C (j := 1) (by omega) (by decide) dL_law_486 dL_law_487 dL_law_488 dL_law_489 dL_law_490 491 rfl ?_
  refine ll_arg C (j := 2) (by omega) (by decide) dL_law_491 dL_law_492 dL_law_493 dL_law_494 dL_law_495 496 rfl ?_
  refine ll_arg C (j := 3) (by omega) (by decide) dL_law_496 dL_law_497 dL_law_498 dL_law_499 dL_law_500 501 rfl ?_
  refine ll_callX C (As := [.int (xs (k + 1)), .int (xs (k + 2)), .int (xs (k + 3))]) (rest := []) Y_X4_row LL_X4_row (c_X4_row e1) (by decide) (by decide) rfl (Nat.le_of_ble_eq_true rfl) dL_law_501 504 rfl ?_
  refine ll_a2 C dL_law_504 505 rfl ?_
  refine ll_arg C (j := 1) (by omega) (by decide) dL_law_505 dL_law_506 dL_law_507 dL_law_508 dL_law_509 510 rfl ?_
  refine ll_arg C (j := 2) (by omega) (by decide) dL_law_510 dL_law_511 dL_law_512 dL_law_513 dL_law_514 515 rfl ?_
  refine ll_arg C (j := 3) (by omega) (by decide) dL_law_515 dL_law_516 dL_law_517 dL_law_518 dL_law_519 520 rfl ?_
  refine ll_callM C (As := [.int (xs (k + 1)), .int (xs (k + 2)), .int (xs (k + 3))]) (rest := [.int r]) Y_X5_row LL_X5_row (c_X5_row e2) (by decide) (by decide) rfl (Nat.le_of_ble_eq_true rfl) dL_law_520 523 rfl ?_
  exact ll_eq C dL_law_523 (by decide) (nx _ _ e3)
theorem ll_trace (C : ll_C p s m c b L xs D cI cII cLd cOc tA h) (hk : k + 6 ≤ L) (hR : RR v w) (nx : ∀ v2 w2, RR v2 w2 → ll_V p l e s m b below meth c D cI cII cLd cOc h Q 630 (llv b h k) [] v2 w2) : ll_V p l e s m b below meth c D cI cII cLd cOc h Q 528 (llv b h k) [] v w := by
  obtain ⟨r, v2, w2, e1, e2, e3⟩ := B_trace hR (xs (k + 1)) (xs (k + 2))
  refine ll_a1 C dL_law_528 529 rfl ?_
  refine ll_arg C (j := 1) (by omega) (by decide) dL_law_529 dL_law_530 dL_law_531 dL_law_532 dL_law_533 534 rfl ?_
  refine ll_arg C (j := 2) (by omega) (by decide) dL_law_534 dL_law_535 dL_law_536 dL_law_537 dL_law_538 539 rfl ?_
  refine ll_callX C (As := [.int (xs (k + 1)), .int (xs (k + 2))]) (rest := []) Y_X4_trace LL_X4_trace (c_X4_trace e1) (by decide) (by decide) rfl (Nat.le_of_ble_eq_true rfl) dL_law_539 542 rfl ?_
  refine ll_a2 C dL_law_542 543 rfl ?_
  refine ll_arg C (j := 1) (by omega) (by decide) dL_law_543 dL_law_544 dL_law_545 dL_law_546 dL_law_547 548 rfl ?_
  refine ll_arg C (j := 2) (by omega) (by decide) dL_law_548 dL_law_549 dL_law_550 dL_law_551 dL_law_552 553 rfl ?_
  refine ll_callM C (As := [.int (xs (k + 1)), .int (xs (k + 2))]) (rest := [.int r]) Y_X5_trace LL_X5_trace (c_X5_trace e2) (by decide) (by decide) rfl (Nat.le_of_ble_eq_true rfl) dL_law_553 556 rfl ?_
  exact ll_eq C dL_law_556 (by decide) (nx _ _ e3)
theorem ll_forget (C : ll_C p s m c b L xs D cI cII cLd cOc tA h) (hk : k + 6 ≤ L) (hR : RR v w) (nx : ∀ v2 w2, RR v2 w2 → ll_V p l e s m b below meth c D cI cII cLd cOc h Q 630 (llv b h k) [] v2 w2) : ll_V p l e s m b below meth c D cI cII cLd cOc h Q 561 (llv b h k) [] v w := by
  obtain ⟨r, v2, w2, e1, e2, e3⟩ := B_forget hR (xs (k + 1))
  refine ll_a1 C dL_law_561 562 rfl ?_
  refine ll_arg C (j := 1) (by omega) (by decide) dL_law_562 dL_law_563 dL_law_564 dL_law_565 dL_law_566 567 rfl ?_
  refine ll_callX C (As := [.int (xs (k + 1))]) (rest := []) Y_X4_forget LL_X4_forget (c_X4_forget e1) (by decide) (by decide) rfl (Nat.le_of_ble_eq_true rfl) dL_law_567 570 rfl ?_
  refine ll_a2 C dL_law_570 571 rfl ?_
  refine ll_arg C (j := 1) (by omega) (by decide) dL_law_571 dL_law_572 dL_law_573 dL_law_574 dL_law_575 576 rfl ?_
  refine ll_callM C (As := [.int (xs (k + 1))]) (rest := [.int r]) Y_X5_forget LL_X5_forget (c_X5_forget e2) (by decide) (by decide) rfl (Nat.le_of_ble_eq_true rfl) dL_law_576 579 rfl ?_
  exact ll_eq C dL_law_579 (by decide) (nx _ _ e3)
theorem ll_alike (C : ll_C p s m c b L xs D cI cII cLd cOc tA h) (hk : k + 6 ≤ L) (hR : RR v w) (nx : ∀ v2 w2, RR v2 w2 → ll_V p l e s m b below meth c D cI cII cLd cOc h Q 630 (llv b h k) [] v2 w2) : ll_V p l e s m b below meth c D cI cII cLd cOc h Q 584 (llv b h k) [] v w := by
  obtain ⟨u, r, v2, w2, e1, e2, e3⟩ := B_alike hR (xs (k + 1))
  refine ll_a1 C dL_law_584 585 rfl ?_
  refine ll_arg C (j := 1) (by omega) (by decide) dL_law_585 dL_law_586 dL_law_587 dL_law_588 dL_law_589 590 rfl ?_
  refine ll_callX C (As := [.int (xs (k + 1))]) (rest := []) Y_X4_alike LL_X4_alike (c_X4_alike 220 e1) (by decide) (by decide) rfl (Nat.le_of_ble_eq_true rfl) dL_law_590 593 rfl ?_
  refine ll_a2 C dL_law_593 594 rfl ?_
  refine ll_arg C (j := 1) (by omega) (by decide) dL_law_594 dL_law_595 dL_law_596 dL_law_597 dL_law_598 599 rfl ?_
  refine ll_callM C (As := [.int (xs (k + 1))]) (rest := [.int r]) Y_X5_alike LL_X5_alike (c_X5_alike u e2) (by decide) (by decide) rfl (Nat.le_of_ble_eq_true rfl) dL_law_599 602 rfl ?_
  exact ll_eq C dL_law_602 (by decide) (nx _ _ e3)
theorem ll_told (C : ll_C p s m c b L xs D cI cII cLd cOc tA h) (hk : k + 6 ≤ L) (hR : RR v w) (nx : ∀ v2 w2, RR v2 w2 → ll_V p l e s m b below meth c D cI cII cLd cOc h Q 630 (llv b h k) [] v2 w2) : ll_V p l e s m b below meth c D cI cII cLd cOc h Q 607 (llv b h k) [] v w := by
  obtain ⟨r, v2, w2, e1, e2, e3⟩ := B_told hR (xs (k + 1))
  refine ll_a1 C dL_law_607 608 rfl ?_
  refine ll_arg C (j := 1) (by omega) (by decide) dL_law_608 dL_law_609 dL_law_610 dL_law_611 dL_law_612 613 rfl ?_
  refine ll_callX C (As := [.int (xs (k + 1))]) (rest := []) Y_X4_told LL_X4_told (c_X4_told e1) (by decide) (by decide) rfl (Nat.le_of_ble_eq_true rfl) dL_law_613 616 rfl ?_
  refine ll_a2 C dL_law_616 617 rfl ?_
  refine ll_arg C (j := 1) (by omega) (by decide) dL_law_617 dL_law_618 dL_law_619 dL_law_620 dL_law_621 622 rfl ?_
  refine ll_callM C (As := [.int (xs (k + 1))]) (rest := [.int r]) Y_X5_told LL_X5_told (c_X5_told e2) (by decide) (by decide) rfl (Nat.le_of_ble_eq_true rfl) dL_law_622 625 rfl ?_
  exact ll_eq C dL_law_625 (by decide) (nx _ _ e3)
end LL
