/-! Throws: a method that throws a new exception and changes nothing old; its caller; a catch. Own rows over the library's laws. -/
/-- what a throw of a new exception of the class E leaves: nothing old has changed -/
def xw_T (E : String) (mc ms : Nat) (st : State) (o : Outcome) (t : State) : Prop :=
  ∃ (q : Addr) (ce : Cell), o = .threw q ∧ t.heap[q]? = some ce ∧ ce.vm = .none ∧ st.vm.findClass E = some ce.cls ∧ st.WarmedH t.vm ∧ st.sameButNew ({ t with vm := st.vm } : State) [] mc ms
def xw_MQ (below : List Frame) (E : String) (s : State) (mc ms : Nat) : State → Prop := fun t => ∃ o, t.status = .running ∧ Ended t below o ∧ xw_T E mc ms s o t
/-- the contract of a road that throws -/
def xw_C (l : Launch) (y : MethodName) (ws : List Cond) (rm : Room) (D : va_G) (cl : List vw_C) (tys : List (ClassId × FieldType)) (z : kZ_T) (av : List Value) (sz : Nat) (w : fw_W) (mc ms : Nat) (E : String) : Prop :=
  MetFree l y (headSpec ws rm) (va_Pc av (fun U => U.heap.size = sz ∧ fw_P D cl w U.heap ∧ kK D cl tys z (fw_A w sz) U U.heap)) (fun _ _ _ _ _ => True) (fun _ st o t => xw_T E mc ms st o t)
/-- on the way: the exception q looks for a row of this frame's table -/
def xw_W (p : Program) (l : Launch) (e : Env) (R : Room) (s : State) (m : MethodId) (args : Array Value) (below : List Frame) (meth : Method) (c : Code) (H : Heap) (locs : List Loc) (cells slots : Nat) (Q : State → Prop) (g : JFrame) (q : Addr) : Prop :=
  ∀ T : State, T.heap = H → Stand p l e R s m args below meth c T locs cells slots → ∃ t, Steps p.tables e below ((T.setTop g).pushFrame (.throwing q)) t ∧ Q t
theorem xw_same {s U : State} {k n : Nat} (h : s.sameButNew ({ U with vm := s.vm } : State) [] k n) : s.heap.size ≤ U.heap.size ∧ ∀ q : Nat, q < s.heap.size → U.heap[q]? = s.heap[q]? := by
  obtain ⟨-, h2, -, -, -, h6⟩ := h
  refine ⟨h2, fun q hq => ?_⟩
  obtain ⟨c', e1, e2, e3, e4⟩ := h6 q _ (Array.getElem?_eq_getElem hq)
  have hs : c'.slots = (s.heap[q]).slots := Array.ext_getElem? fun i => e4 i (fun hm => nomatch hm)
  have h9 : c' = s.heap[q] := by rw [hs] at e2; exact e2
  have e5 : U.heap[q]? = some c' := e1
  rw [e5, h9, Array.getElem?_eq_getElem hq]
section XWA
variable {p : Program} {l : Launch} {e : Env} {R : Room} {s : State} {m : MethodId} {args : Array Value} {below : List Frame} {meth : Method} {c : Code} {H : Heap} {locs : List Loc} {cells slots : Nat} {Q : State → Prop}
variable {cc : ByteArray} {pc : Nat} {ls : Array Slot} {rest : List Value} {D : va_G} {cl : List vw_C} {A : Nat → Prop} {tys : List (ClassId × FieldType)} {z : kZ_T} {w w0 : fw_W} {n0 sz mc ms : Nat} {E : String}
/-- a throwing road's start -/
theorem xw_ofW {y : MethodName} {ws ws' : List Cond} {rm : Room} {av : List Value} {maxL : Nat} {ret : Option FieldType} (hy : plainName y.cls = true) (hw : ws = Cond.code y cc maxL ret :: ws') (hlen : (lg_sl av).length ≤ maxL)
    (body : ∀ (p : Program) (e : Env) (s : State) (m : MethodId) (args : Array Value) (below : List Frame) (meth : Method) (c : Code), p.tables.exec = Jvm.exec → c.code = cc → meth.sig.returnType = ret → (∀ w ∈ ws, w.before args s = true) → s.vm.findClass y.cls = some m.cls → meth.locks = false → c.maxLocals = maxL → (∀ (x : ExceptionTableEntry), x ∈ c.exceptionTable.toList → ∀ pc, covers x pc = false) →
      kK D cl tys z (fw_A w sz) s s.heap → ∀ (H : Heap) (ls : Array Slot), fw_H D cl (fw_A w sz) s.heap w sz H [] → lv_has ls maxL (lv_args 0 av) →
      W p l e rm s m args below meth c H [] 0 0 (xw_MQ below E s mc ms) (F0 m 0 ls [])) :
    xw_C l y ws rm D cl tys z av sz w mc ms E := by
  refine MetFree.of_bodyS (code := cc) (maxLocals := maxL) (ret := ret) hy ?_ ?_
  · intro args s m h hn
    obtain ⟨meth, c, h1, h2, h3, h4, h5, h6, -, -⟩ := Cond.code_spec hn (atoms_spec (ws := ws) h _ (by rw [hw]; exact List.mem_cons_self))
    exact ⟨meth, c, h1, h2, h3, h4, h5, h6⟩
  · intro p e s m args below meth c s₁ B hml hP _
    obtain ⟨rfl, hsz, hPw, hK⟩ := hP
    have hh0 : s₁.heap = s.heap := by rw [B.state]; rfl
    have hts := atoms_spec (ws := ws) B.pre
    have hemp := B.noHandlers (hts _ (by rw [hw]; exact List.mem_cons_self))
    have hl := lv_entry av (n := maxL) hlen
    have key := body p e s m av.toArray below meth c B.exec B.bytes B.returns hts (findClass_of_methodNamed B.named) B.notSynchronized hml
      (fun x hx => by rw [Array.isEmpty_iff.mp hemp] at hx; cases hx) hK s.heap _
      ⟨hPw, fun a h => Or.inl h, fun q h => Or.inr (by rw [← hsz]; exact h), hsz, va_S.rf⟩ hl
    rw [← lg_entry_eq] at key
    obtain ⟨t, a1, o, b1, b2, b3⟩ := key s₁ hh0 (Stand.of_body B)
    exact ⟨t, o, a1, b1, b2, b3⟩
/-- a call that throws, from the called frame on -/
theorem xw_go {y : MethodName} {ws : List Cond} {rm : Room} {Pc : Array Value → State → Prop} {bytes : ByteArray} {maxL len Wd : Nat} {ret : Option FieldType} {U : State} {ig : Instr} {mk : MethodId} {a : Array Value}
    (hM : MetFree l y (headSpec ws rm) Pc (fun _ _ _ _ _ => True) (fun _ st o t => xw_T E mc ms st o t)) (hblind : FrameBlind Pc) (hrc : rm.cells = mc) (hrs : rm.slots = ms) (hframes : rm.frames + 1 ≤ R.frames) (hlocals : Wd + (maxL + 11) + rm.locals ≤ R.locals)
    (hws : ∀ w ∈ ws, ∀ (a' : Array Value) (U : State), s.WarmedH U.vm → w.before a' U = true) (hcode : Cond.code y bytes maxL ret ∈ ws) (hinit : ∀ (a' : Array Value) (U : State), s.WarmedH U.vm → (Cond.initialized y.cls).before a' U = true)
    (X : Stand p l e R s m args below meth c U locs cells slots) {g : JFrame} (hg : g.method = m) (hsize : g.locals.size = c.maxLocals) (hdg : decode c.code g.pc = .ok (ig, len)) (hW : 2 * g.monitorRoom + (g.stack.map fun v => v.category).sum ≤ Wd) (hn : U.methodNamed? y = some mk) (hcells : cells + mc ≤ R.cells) (hslots : slots + ms ≤ R.slots) (hp : Pc a U) :
    ∃ (q : Addr) (ce : Cell) (T' : State), Stand p l e R s m args below meth c T' locs (cells + mc) (slots + ms) ∧ T'.heap[q]? = some ce ∧ ce.vm = .none ∧ U.vm.findClass E = some ce.cls ∧ (U.heap.size ≤ T'.heap.size ∧ ∀ q : Nat, q < U.heap.size → T'.heap[q]? = U.heap[q]?) ∧
      Steps p.tables e below (doInvoke e (U.setTop g) [] mk a).1 ((T'.setTop g).pushFrame (.throwing q)) := by
  have h2 : (Cond.code y bytes maxL ret).before a U = true := hws _ hcode _ _ X.warmed
  have h3 := hinit a U X.warmed
  obtain ⟨methY, cY, hmY, hcY, -, hlY, -⟩ := Cond.code_spec hn h2
  obtain ⟨kY, hkY, -⟩ := className_of_methodNamed hn
  have hinitY : kY.init = .initialized := Cond.initialized_spec (findClass_of_methodNamed hn) hkY h3
  have h : At U g.method c below := by rw [hg]; exact X.here
  have happ : (headSpec ws rm).appliesLoose y e.platform (U.calling g mk a) = true :=
    Spec.appliesLoose_calling (g := g) h hdg hn hkY hinitY
      (X.room_calling (g := g) (R' := (headSpec ws rm).room) hsize hmY hcY hframes (by rw [hlY]; show _ + _ + rm.locals ≤ _; omega) (by rw [show (headSpec ws rm).room.cells = mc from hrc]; exact hcells) (by rw [show (headSpec ws rm).room.slots = ms from hrs]; exact hslots)) (atoms_intro fun w hw => hws w hw _ _ X.warmed)
  obtain ⟨mid, hmid⟩ := h.above
  have hfr : (U.setTop g).frames = (.java g :: mid) ++ below := by rw [State.frames_setTop' g h.top, hmid]; rfl
  obtain ⟨o, s₂, hsteps, -, hend, hq⟩ := Steps.callFree hM p X.admits X.cas X.clock (acts := []) hfr happ (hblind _ _ _ _ hp) trivial
  have hq' : xw_T E mc ms (U.calling g mk a) o s₂ := hq
  obtain ⟨q, ce, rfl, hce, hcv, hcl, hW₂, hsame⟩ := hq'
  rw [State.frames_setTop' g h.top, X.tail] at hend
  have hk := xw_same hsame
  obtain ⟨T', X', hWT, hsm, rfl⟩ := X.outOfThrown hg hend hW₂ hsame
  have hh : ((T'.setTop g).pushFrame (.throwing q)).heap = T'.heap := Stand.throwing_heap T' g q
  rw [hh] at hce hk
  exact ⟨q, ce, T', by simpa using X', hce, hcv, hcl, hk, hsteps⟩
/-- a call of an object's method that throws -/
theorem xw_cV {y : MethodName} {bytes : ByteArray} {maxL nL n index : Nat} {ret : Option FieldType} {ws Ts : List Cond} {rm : Room} {own C : String} {b ci N : Nat} {fs : List Value} {T : u_T} {As st0 : List Value}
    (S : CallFix p m c cc nL s args Ts own) (hM : xw_C l y ws rm D cl tys z (.ref b :: As) n0 w mc ms E) (cw : CallW R s args own C index y bytes maxL ret ws rm mc ms n) (hK : kK D cl tys z A s s.heap) (hw : fw_H D cl A s.heap w n0 H locs) (hbb : w b = some (.inr (ci, fs))) (hc : cl[ci]? = some (C, T, N))
    (hn : As.length = n) (hsize : ls.size = nL) (hst : st0 = As.reverse ++ .ref b :: rest) (hroom : (rest.map fun v => v.category).sum ≤ 8) (hdg : decode cc pc = .ok (.invokevirtual index, 3)) (hf : cells + mc ≤ R.cells ∧ slots + ms ≤ R.slots)
    (kk : ∀ (q : Nat) (ce : Cell) (n1 : Nat) (H1 : Heap), n0 ≤ n1 → H1[q]? = some ce → ce.vm = .none → s.vm.findClass E = some ce.cls → fw_H D cl A s.heap w n1 H1 locs → xw_W p l e R s m args below meth c H1 locs (cells + mc) (slots + ms) Q (F0 m pc ls rest) q) :
    W p l e R s m args below meth c H locs cells slots Q (F0 m pc ls st0) := by
  obtain ⟨⟨hrc, hrs, hfr, hlo, hws, hcw, hcode, hini, hy, hlen, hl⟩, hin, hse⟩ := cw
  obtain ⟨hx, hb, hml, ho, -⟩ := S
  obtain ⟨hbl, ⟨cellB, hcB, hoB, hclB⟩, hPc⟩ := fw_recv (As := As) hK hw hbb hc
  intro T hT X
  obtain ⟨mk, methM, hnamed, hmethM, hstM, habM⟩ := Cond.instanceMethod_spec hin
  obtain ⟨methM', cM, hmethM', -, -, -, -, -, -, hsigM⟩ := Cond.code_spec hnamed hcode
  cases hmethM.symm.trans hmethM'
  obtain ⟨c2, r2, m2, q1, q2, q3, q4, kP, hkP, hkPi⟩ := Cond.selects_spec hse
  cases hclB.symm.trans q1
  cases (State.methodFound?_of_named hnamed hy).symm.trans q2
  cases hnamed.symm.trans q3
  have hselP : selectMethod e.platform s.vm cellB.cls mk = .method mk := by rw [Launch.admits_selectMethod X.admits]; exact q4
  obtain ⟨vm₁, X₁, hstep₁⟩ := X.invokevirtual hx ho hl hnamed hmethM hstM hkP hkPi hy (a := b) (cell := cellB) (by rw [hT]; exact hcB)
    (fun z h => by rw [h] at hoB; cases hoB) hselP hmethM habM hkP hkPi (g := F0 m pc ls st0) rfl (argsL := As) (rest := rest) (hn.trans (hlen _ hsigM)) hst (by rw [hb]; exact hdg)
  obtain ⟨q, ce, T', X', hce, hcv, hcl, hk, hsteps⟩ := xw_go hM hbl hrc hrs hfr hlo hws hcw (fun a' U hW => word_at hW (Or.inl (by first | rfl | simp [Cond.onTables, Cond.keeps, Cond.steady])) hini) X₁ (g := F0 m pc ls rest) rfl (hsize.trans hml.symm) (by rw [hb]; exact hdg) (lv_room hroom) (X₁.named hnamed) hf.1 hf.2 (hPc (T.setVm vm₁) hT X₁.warmed)
  have hT1 : (T.setVm vm₁).heap = H := hT
  rw [hT1, hw.2.2.2.1] at hk
  have hcl' : s.vm.findClass E = some ce.cls := by
    rw [X₁.warmed.alike.findClass] at hcl
    exact hcl
  have hS := hw.2.2.2.2
  have hz := hw.2.2.2.1
  obtain ⟨t, a1, b1⟩ := kk q ce T'.heap.size T'.heap hk.1 hce hcv hcl'
    ⟨fun a x hx => (hw.1 a x hx).kept (hk.2 a (hw.lt hx)), hw.2.1, hw.2.2.1, rfl, by have := hS.1; omega, fun q h1 h2 => (hk.2 q (by have := hS.1; omega)).trans (hS.2.1 q h1 h2), hS.2.2⟩ T' rfl X'
  refine ⟨t, hstep₁ _ (fun acts => ?_), b1⟩
  rw [doInvoke_state]
  exact hsteps.trans a1
/-- not caught: on to the caller -/
theorem xw_out {q : Addr} {ce : Cell} (hout : ∀ x ∈ c.exceptionTable.toList, covers x pc = false) (hlocks : meth.locks = false) (hcell : H[q]? = some ce) (hv : ce.vm = .none) (hcl : s.vm.findClass E = some ce.cls) :
    xw_W p l e R s m args below meth c H [] mc ms (xw_MQ below E s mc ms) (F0 m pc ls rest) q := by
  intro T hT X
  obtain ⟨st1, hrun, hend, hW, hsm⟩ := X.leaveThrown q (g := F0 m pc ls rest) rfl rfl rfl hout hlocks
  exact ⟨_, st1, .threw q, hrun, hend, q, ce, rfl, (by show T.heap[q]? = some ce; rw [hT]; exact hcell), hv, hcl, hW, hsm⟩
end XWA
/-! the search for a row that takes the exception, the row's class linked or not yet -/
section XWF
variable {e : Env} {d : Bool} {acts : List Action} {s S : State} {f : JFrame} {a : Addr}
theorem xw_link {Q : Handler → Pre} {E : CtlPost} {x : ExceptionTableEntry} {t : List ExceptionTableEntry} {k : ClassId} {cell : Cell} (hx : covers x f.pc = true) (h0 : x.catchType ≠ 0) (hl : S.vm.ClassLinks e.platform f.method.cls x.catchType k) (hcell : S.heap[a]? = some cell) (hobj : ∀ j, cell.vm ≠ .statics j)
    (h1 : ∃ j, S.vm.classes[cell.cls]? = some j) (h2 : ∃ j, S.vm.classes[k]? = some j) :
    wp (findHandler.go f a (x :: t)) Q E e d acts S ↔ if S.vm.assignable cell.cls k = true then Q (.found x.handlerPc) d acts (S.setVm (S.vm.noted f.method.cls x.catchType (.cls k))) else wp (findHandler.go f a t) Q E e d acts (S.setVm (S.vm.noted f.method.cls x.catchType (.cls k))) := by
  simp only [covers] at hx
  obtain ⟨ha, ht⟩ := (resolveClass_links e.toSetting hl).op (op := VmOp.resolveClass f.method.cls x.catchType) rfl
  have hal : S.vm.Alike (S.vm.noted f.method.cls x.catchType (.cls k)) := (Vm.Alike.refl S.vm).noted _ _ _
  obtain ⟨j1, h1⟩ := h1
  obtain ⟨j2, h2⟩ := h2
  obtain ⟨i1, g1, -⟩ := hal.2.2 _ _ h1
  obtain ⟨i2, g2, -⟩ := hal.2.2 _ _ h2
  have hfit : (S.vm.noted f.method.cls x.catchType (.cls k)).assignable cell.cls k = S.vm.assignable cell.cls k := hal.assignable ..
  cases hb : S.vm.assignable cell.cls k <;> rw [hb] at hfit <;>
    simp [findHandler.go, hx, h0, ha, ht, hcell, hobj, g1, g2, hfit, VmOp.dirties, VmOp.acts]
/-- what the search gives, and the tables that it leaves -/
def xw_F (e : Env) (S : State) (f : JFrame) (a : Addr) (h : Handler) (vm' : Vm) : Prop :=
  ∀ (Q : Handler → Pre) (E : CtlPost) (d : Bool) (acts : List Action), wp (findHandler f a) Q E e d acts S ↔ Q h d acts (S.setVm vm')
theorem xw_step {r : List Frame} {pc : Nat} {vm' : Vm} (hfind : xw_F e S f a (.found pc) vm') : (stepThrowing e S a (.java f :: r)).Is ((S.setVm vm').setFrames (.java { f with pc := pc, stack := [.ref a] } :: r)) [] := by
  simp only [stepThrowing, searchFrame, vmDo]
  generalize hr : Sem.go _ e false [] S = res
  obtain ⟨as, rfl, ha⟩ := Sem.eq_ok_of hr (a := Handler.found pc) (s' := S.setVm vm') (acts' := []) (by simp [hfind _ _ _ _])
  exact ⟨rfl, ha⟩
theorem xw_frames (u : State) (vm' : Vm) (F G : List Frame) : ((u.setFrames F).setVm vm').setFrames G = (u.setVm vm').setFrames G := by
  rw [show (u.setFrames F).setVm vm' = (u.setVm vm').setFrames F from rfl, State.setFrames_setFrames]
theorem xw_caught {tb : Tables} {target : State} {g : JFrame} {c : Code} {below : List Frame} (h : At s g.method c below) {pc : Nat} {vm' : Vm} (hfind : xw_F e ((s.setTop g).pushFrame (.throwing a)) g a (.found pc) vm')
    (hrest : Steps tb e below ((s.setVm vm').setTop { g with pc := pc, stack := [.ref a] }) target) : Steps tb e below ((s.setTop g).pushFrame (.throwing a)) target := by
  obtain ⟨hgo, hw⟩ := h.throwing a
  refine Steps.head hgo hw ?_
  rw [stepThread_throwing (frames_entered h.top _), (xw_step (S := (s.setTop g).pushFrame (.throwing a)) hfind).1]
  obtain ⟨g₀, hg⟩ := Option.isSome_iff_exists.mp h.top
  obtain ⟨r, hr⟩ := State.topJava?_eq_some.mp hg
  have hr' : (s.setVm vm').frames = .java g₀ :: r := hr
  rw [State.setTop_of_frames _ hr'] at hrest
  rw [hr, List.tail_cons, State.pushFrame, xw_frames, State.setTop_of_frames _ hr, xw_frames]
  exact hrest
end XWF
section XWG
variable {p : Program} {l : Launch} {e : Env} {R : Room} {s : State} {m : MethodId} {args : Array Value} {below : List Frame} {meth : Method} {c : Code} {H : Heap} {locs : List Loc} {cells slots : Nat} {Q : State → Prop} {ls : Array Slot} {rest : List Value} {pc : Nat}
/-- the first row takes it -/
theorem xw_catch1 {own name E : String} {ce : Cell} {q : Addr} {x : ExceptionTableEntry} {suf : List ExceptionTableEntry} (hown : s.vm.findClass own = some m.cls) (hsplit : c.exceptionTable.toList = x :: suf) (hx : covers x pc = true) (h0 : x.catchType ≠ 0)
    (hlink : (Cond.classLink own x.catchType name).before args s = true) (hcast : (Cond.castable E name).before args s = true) (hcell : H[q]? = some ce) (hv : ce.vm = .none) (hcl : s.vm.findClass E = some ce.cls)
    (kk : W p l e R s m args below meth c H locs cells slots Q (F0 m x.handlerPc ls [.ref q])) : xw_W p l e R s m args below meth c H locs cells slots Q (F0 m pc ls rest) q := by
  intro T hT X
  have hpl : e.platform.magicAccessors = ({} : Platform).magicAccessors := by rw [X.admits.platform]
  obtain ⟨c3, c4, hc3, hc4, hasg⟩ := Cond.castable_spec hcast
  cases Option.some.inj (hc3.symm.trans hcl)
  obtain ⟨c5, hc5, hcl5⟩ := Cond.classLink_spec hown hlink e.platform hpl
  cases Option.some.inj (hc4.symm.trans hc5)
  obtain ⟨dk, _, _, kt, hd, _, _, _, _, hkt, _, hopen⟩ := hcl5.here
  have hW' : s.WarmedH (T.vm.noted m.cls x.catchType (.cls c4)) := X.warmed.noted hd hopen (State.rightAt_cls hcl5)
  have hal := X.warmed.alike
  obtain ⟨kt', hkt', -⟩ := hal.2.2 _ _ hkt
  have hfit : T.vm.assignable ce.cls c4 = true := by rw [hal.assignable]; exact hasg
  obtain ⟨t, a1, b1⟩ := kk (T.setVm (T.vm.noted m.cls x.catchType (.cls c4))) hT (X.noted hW')
  refine ⟨t, xw_caught (g := F0 m pc ls rest) X.here (vm' := T.vm.noted m.cls x.catchType (.cls c4)) (fun Q E d acts => ?_) a1, b1⟩
  rw [Jvm.W.findHandler_eq X.method' X.code, hsplit]
  have h9 := xw_link (Q := Q) (E := E) (d := d) (acts := acts) (t := suf) (S := (T.setTop (F0 m pc ls rest)).pushFrame (.throwing q)) (f := F0 m pc ls rest) (a := q) (e := e) hx h0 (X.warmed.classLinks hcl5) (cell := ce) (by rw [← hT] at hcell; exact hcell) (fun j h => by rw [hv] at h; cases h)
    (Vm.classAt_of_assignable hfit ⟨kt', hkt'⟩) ⟨kt', hkt'⟩
  rw [h9]
  exact (if_pos hfit).to_iff
/-- the first row doesn't take it, the second does -/
theorem xw_catch2 {own name no E : String} {ce : Cell} {q : Addr} {y x : ExceptionTableEntry} {suf : List ExceptionTableEntry} (hown : s.vm.findClass own = some m.cls) (hsplit : c.exceptionTable.toList = y :: x :: suf) (hy : covers y pc = true) (hy0 : y.catchType ≠ 0) (hx : covers x pc = true) (h0 : x.catchType ≠ 0)
    (hlinkY : (Cond.classLink own y.catchType no).before args s = true) (hno : va_Nc E no s) (hlink : (Cond.classLink own x.catchType name).before args s = true) (hcast : (Cond.castable E name).before args s = true) (hcell : H[q]? = some ce) (hv : ce.vm = .none) (hcl : s.vm.findClass E = some ce.cls)
    (kk : W p l e R s m args below meth c H locs cells slots Q (F0 m x.handlerPc ls [.ref q])) : xw_W p l e R s m args below meth c H locs cells slots Q (F0 m pc ls rest) q := by
  intro T hT X
  have hpl : e.platform.magicAccessors = ({} : Platform).magicAccessors := by rw [X.admits.platform]
  obtain ⟨c3, c4, hc3, hc4, hasg⟩ := Cond.castable_spec hcast
  cases Option.some.inj (hc3.symm.trans hcl)
  obtain ⟨c5, hc5, hcl5⟩ := Cond.classLink_spec hown hlink e.platform hpl
  cases Option.some.inj (hc4.symm.trans hc5)
  obtain ⟨c6, hc6, hcl6⟩ := Cond.classLink_spec hown hlinkY e.platform hpl
  obtain ⟨a8, b8, n1, n2, n3⟩ := hno
  cases Option.some.inj (n1.symm.trans hcl)
  have hbc : b8 = c6 := Option.some.inj (n2.symm.trans hc6)
  subst hbc
  obtain ⟨dk, _, _, kt, hd, _, _, _, _, hkt, _, hopen⟩ := hcl5.here
  obtain ⟨dk6, _, _, kt6, hd6, _, _, _, _, hkt6, _, hopen6⟩ := hcl6.here
  have hWy : s.WarmedH (T.vm.noted m.cls y.catchType (.cls b8)) := X.warmed.noted hd6 hopen6 (State.rightAt_cls hcl6)
  have Xy := X.noted hWy
  have hW' : s.WarmedH ((T.vm.noted m.cls y.catchType (.cls b8)).noted m.cls x.catchType (.cls c4)) := hWy.noted hd hopen (State.rightAt_cls hcl5)
  have hal := X.warmed.alike
  have haly := hWy.alike
  obtain ⟨kt', hkt', -⟩ := hal.2.2 _ _ hkt
  obtain ⟨ktY, hktY, -⟩ := haly.2.2 _ _ hkt
  obtain ⟨kt6', hkt6', -⟩ := hal.2.2 _ _ hkt6
  have hfit0 : T.vm.assignable ce.cls c4 = true := by rw [hal.assignable]; exact hasg
  have hfit : (T.vm.noted m.cls y.catchType (.cls b8)).assignable ce.cls c4 = true := by rw [haly.assignable]; exact hasg
  have hnof : T.vm.assignable ce.cls b8 = false := by rw [hal.assignable]; exact n3
  obtain ⟨t, a1, b1⟩ := kk (T.setVm ((T.vm.noted m.cls y.catchType (.cls b8)).noted m.cls x.catchType (.cls c4))) hT (X.noted hW')
  refine ⟨t, xw_caught (g := F0 m pc ls rest) X.here (vm' := (T.vm.noted m.cls y.catchType (.cls b8)).noted m.cls x.catchType (.cls c4)) (fun Q E d acts => ?_) a1, b1⟩
  rw [Jvm.W.findHandler_eq X.method' X.code, hsplit]
  have hcT : T.heap[q]? = some ce := by rw [hT]; exact hcell
  have h8 := xw_link (Q := Q) (E := E) (d := d) (acts := acts) (t := x :: suf) (S := (T.setTop (F0 m pc ls rest)).pushFrame (.throwing q)) (f := F0 m pc ls rest) (a := q) (e := e) hy hy0 (X.warmed.classLinks hcl6) (cell := ce) hcT (fun j h => by rw [hv] at h; cases h)
    (Vm.classAt_of_assignable hfit0 ⟨kt', hkt'⟩) ⟨kt6', hkt6'⟩
  rw [h8, if_neg (by rw [show ((T.setTop (F0 m pc ls rest)).pushFrame (.throwing q)).vm.assignable ce.cls b8 = false from hnof]; decide)]
  have h9 := xw_link (Q := Q) (E := E) (d := d) (acts := acts) (t := suf) (S := ((T.setTop (F0 m pc ls rest)).pushFrame (.throwing q)).setVm (T.vm.noted m.cls y.catchType (.cls b8))) (f := F0 m pc ls rest) (a := q) (e := e) hx h0 (hWy.classLinks hcl5) (cell := ce) hcT (fun j h => by rw [hv] at h; cases h)
    (Vm.classAt_of_assignable hfit ⟨ktY, hktY⟩) ⟨ktY, hktY⟩
  refine h9.trans ?_
  exact (if_pos hfit).to_iff
end XWG
