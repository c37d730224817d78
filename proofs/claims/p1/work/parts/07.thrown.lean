/-! A new exception, thrown at once: what it wants of statics and words; the row for it. -/
/-- a static of Throwable as a throw wants it: laid, a reference or null, outside A -/
def kSt (n d : String) (A : Nat → Prop) (U : State) (H : Heap) : Prop := ∃ (c : ClassId) (k : Class) (i : Nat) (f : Field) (a : Nat) (cell : Cell) (v : Value), U.vm.findClass Bundle.tN = some c ∧ U.fieldFound? Bundle.tN n d = some (c, k, i, f) ∧ f.isStatic = true ∧ k.statics = some a ∧ H[a]? = some cell ∧ cell.vm.isStatics = true ∧ cell.cls = c ∧ f.slot < cell.slots.size ∧ k.staticTypes[f.slot]? = some f.type ∧ cell.slots[f.slot]? = some v ∧ v.isRef = true ∧ ¬ A a
theorem kSt.move {n d : String} {A B : Nat → Prop} {U V : State} {H H1 : Heap} (hAB : ∀ q, B q → A q) (hk : ∀ a : Nat, a < H.size → ¬ A a → H1[a]? = H[a]?) (hW : U.WarmedH V.vm) (h : kSt n d A U H) : kSt n d B V H1 := by
  obtain ⟨c, k, i, f, a, cell, v, h1, h2, h3, h4, h5, h6, h7, h8, h9, h10, h11, h12⟩ := h
  obtain ⟨k', hi', he⟩ := State.fieldFound?_setVm hW.alike h2
  refine ⟨c, k', i, f, a, cell, v, by rw [hW.alike.findClass]; exact h1, hi', h3, by rw [he]; exact h4, by rw [hk a (Array.getElem?_eq_some_iff.mp h5).1 h12]; exact h5, h6, h7, h8, by rw [he]; exact h9, h10, h11, fun z => h12 (hAB a z)⟩
theorem kSt.lays {n d : String} {A : Nat → Prop} {U : State} {args : Array Value} (h : kSt n d A U U.heap) : (Cond.laysStatic Bundle.tN n d).before args U = true := by
  obtain ⟨c, k, i, f, a, cell, v, h1, h2, h3, h4, h5, h6, h7, h8, h9, h10, h11, h12⟩ := h
  simp [Cond.before, Cond.holds, Cond.value, h1, h2, h3, h4, h5, h6, h7, h8, h9]
theorem kSt.isRef {n d : String} {A : Nat → Prop} {U : State} {args : Array Value} (h : kSt n d A U U.heap) : (Cond.isRef (.static Bundle.tN n d)).before args U = true := by
  obtain ⟨c, k, i, f, a, cell, v, h1, h2, h3, h4, h5, h6, h7, h8, h9, h10, h11, h12⟩ := h
  have hv : (Term.static Bundle.tN n d).eval args U none [] U = some v := by
    simp [Term.eval, State.fieldNamed?, h2, h3, h4, h5, h6, h10]
  cases v <;> simp [Value.isRef] at h11 <;> simp [Cond.before, Cond.holds, Cond.value, hv, Value.isRef]
def kIA : String := "java/lang/IllegalArgumentException"
def kIS : String := "java/lang/IllegalStateException"
def kIO : String := "java/lang/IndexOutOfBoundsException"
def kNm : List String := ["java/lang/RuntimeException", "java/lang/Exception"]
def kTw : List Cond := [.declares (Bundle.initS "java/lang/RuntimeException"), .declares (Bundle.initS "java/lang/Exception"), .declares (Bundle.initS Bundle.tN), .castable kIA kIA, .castable kIS kIS, .castable kIO kIO]
def kT4 : List Cond := [.laysStatic Bundle.tN "UNASSIGNED_STACK" Bundle.steD, .laysStatic Bundle.tN "SUPPRESSED_SENTINEL" Bundle.listD, .isRef (.static Bundle.tN "UNASSIGNED_STACK" Bundle.steD), .isRef (.static Bundle.tN "SUPPRESSED_SENTINEL" Bundle.listD)]
/-- what every throw of ours wants of the start -/
def kT (A : Nat → Prop) (U : State) (H : Heap) : Prop := (∀ w ∈ kTw, va_Nw w U) ∧ kSt "UNASSIGNED_STACK" Bundle.steD A U H ∧ kSt "SUPPRESSED_SENTINEL" Bundle.listD A U H
theorem kT.move {A B : Nat → Prop} {U V : State} {H H1 : Heap} (hAB : ∀ q, B q → A q) (hk : ∀ a : Nat, a < H.size → ¬ A a → H1[a]? = H[a]?) (hW : U.WarmedH V.vm) (h : kT A U H) : kT B V H1 := by
  refine ⟨fun w hw => ?_, h.2.1.move hAB hk hW, h.2.2.move hAB hk hW⟩
  have h1 := h.1 w hw
  simp only [kTw, List.mem_cons, List.not_mem_nil, or_false] at hw
  rcases hw with rfl | rfl | rfl | rfl | rfl | rfl
  · exact va_Nw.warmD hW h1
  · exact va_Nw.warmD hW h1
  · exact va_Nw.warmD hW h1
  · exact va_Nw.warmC hW h1
  · exact va_Nw.warmC hW h1
  · exact va_Nw.warmC hW h1
theorem kT.words {A : Nat → Prop} {U : State} {args : Array Value} (h : kT A U U.heap) : (∀ w ∈ kTw, w.before args U = true) ∧ ∀ w ∈ kT4, w.before args U = true := by
  refine ⟨fun w hw => ?_, fun w hw => ?_⟩
  · have h1 := h.1 w hw
    refine va_Nw.use ?_ h1
    simp only [kTw, List.mem_cons, List.not_mem_nil, or_false] at hw
    rcases hw with rfl | rfl | rfl | rfl | rfl | rfl <;> rfl
  · simp only [kT4, List.mem_cons, List.not_mem_nil, or_false] at hw
    rcases hw with rfl | rfl | rfl | rfl
    · exact h.2.1.lays
    · exact h.2.2.lays
    · exact h.2.1.isRef
    · exact h.2.2.isRef
section XWT
variable {p : Program} {l : Launch} {e : Env} {R : Room} {s : State} {m : MethodId} {args : Array Value} {below : List Frame} {meth : Method} {c : Code} {H : Heap} {A : Nat → Prop} {cc : ByteArray} {ls : Array Slot} {rest : List Value}
set_option maxHeartbeats 4000000 in
/-- 'throw new E("text")' where nothing old has been written -/
theorem xw_throw {pc ik is ic sa : Nat} {own X tx : String} (hx : p.tables.exec = Jvm.exec) (hb : c.code = cc) (hst : l.stackTraces = false) (hown : s.vm.findClass own = some m.cls) (hW : ∀ w ∈ kWs, w.before args s = true) (hcls : Bundle.fit X = true)
    (hk : Cond.classLink own ik X ∈ kWs) (hini : Cond.initialized X ∈ kWs) (hat : ∀ w ∈ Bundle.ownAtoms own ic X kNm, w ∈ kWs ∨ w ∈ kTw ∨ w ∈ kT4) (hT : kT A s s.heap) (hstr : vk_R own is tx sa s)
    (hout : ∀ (x : ExceptionTableEntry), x ∈ c.exceptionTable.toList → ∀ pc, covers x pc = false) (hlocks : meth.locks = false) (hsize : ls.size = c.maxLocals)
    (d0 : decode cc pc = .ok (.new ik, 3)) (d3 : decode cc (pc + 3) = .ok (.dup, 1)) (d4 : decode cc (pc + 4) = .ok (.ldc is, 2)) (d6 : decode cc (pc + 6) = .ok (.invokespecial ic, 3)) (d9 : decode cc (pc + 9) = .ok (.athrow, 1))
    (hf : 5 < R.frames) (hlo : (rest.map fun v => v.category).sum + 82 ≤ R.locals) (hcells : 1 ≤ R.cells) (hslots : 6 ≤ R.slots) :
    W p l e R s m args below meth c H [] 0 0 (xw_MQ below X s 1 6) (F0 m pc ls rest) := by
  intro T hT0 X0
  have htr : e.platform.stackTraces = false := (show e.platform.stackTraces = l.stackTraces by rw [X0.admits.platform]).trans hst
  have hws := hT.words (args := args)
  have atoms : ∀ w ∈ Bundle.ownAtoms own ic X kNm, w.before args s = true := fun w h => by
    rcases hat w h with h1 | h1 | h1
    · exact hW w h1
    · exact hws.1 w h1
    · exact hws.2 w h1
  have hins : (Cond.instantiable X 6).before args s = true := atoms _ (by simp [Bundle.ownAtoms])
  obtain ⟨vm₁, cX, kX, hfX, hkX, -, -, X₁, st1⟩ := X0.newCold hx (own := own) (C := X) (index := ik) (n := 6) hown (hW _ hk) hins (hW _ hini) (g := F0 m pc ls rest) rfl (by rw [hb]; exact d0) (by omega) (by omega)
  generalize hT1 : (T.setVm vm₁).pushCell { cls := cX, slots := kX.instanceTypes.map defaultValue, vm := .none } = T1 at X₁ st1
  have hcellA : T1.heap[T.heap.size]? = some (freshCell cX kX) := by rw [← hT1]; exact State.heap_pushCell_size _ _
  have hnew : s.heap.size ≤ T.heap.size := X0.same.2.1
  have d3' : decode c.code (pc + 3) = .ok (.dup, 1) := by rw [hb]; exact d3
  have d4' : decode c.code (pc + 4) = .ok (.ldc is, 2) := by rw [hb]; exact d4
  have hcat : (Value.ref T.heap.size).category = 1 := rfl
  obtain ⟨U, hsteps, hrun, hend, hWU, hsame, ce, hce, hown9⟩ := X₁.ctorThrowS hx htr (own := own) (cls := X) (names := kNm) (ic := ic) hown hcls (by decide) atoms (fun x hx => nomatch hx) hfX hkX hcellA hnew (msg := .ref sa) rfl
    (g := { method := m, pc := pc + 6, locals := ls, stack := .ref sa :: .ref T.heap.size :: .ref T.heap.size :: rest, locked := none }) rfl hsize rfl rfl (rest := rest) rfl (by rw [hb]; exact d6) (by rw [hb]; exact d9) (fun x h => hout x h _) (by show 2 + 3 < _; omega) (by simp only [List.map_cons, List.sum_cons, hcat]; show 2 * 0 + _ + (13 * (2 + 1) + 42) ≤ _; omega) hlocks
  refine ⟨U, st1 _ ?_, .threw T.heap.size, hrun, hend, T.heap.size, ce, rfl, hce, hown9.vm, hown9.cls, hWU, hsame.mono (by omega) (by omega)⟩
  show Steps p.tables e below (T1.setTop { method := m, pc := pc + 3, locals := ls, stack := .ref T.heap.size :: rest, locked := none }) _
  jvm_step X₁.here [X₁.here.top, hx, d3', Value.category]
  exact X₁.ldcString hx (own := own) (text := tx) (index := is) (a := sa) hown hstr.1 hstr.2
    (g := { method := m, pc := pc + 4, locals := ls, stack := .ref T.heap.size :: .ref T.heap.size :: rest, locked := none }) rfl d4' _ hsteps
end XWT
