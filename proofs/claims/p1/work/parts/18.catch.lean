/-! Methods with an exception table: contracts that leave the heap's size open; their start, their end, their call. -/
def fw_QL (D : va_G) (cl : List vw_C) (w0 : fw_W) (sz : Nat) (Q : Option Value → fw_W → Prop) : Array Value → State → Outcome → State → Prop := fun _ st oc t =>
  (∃ (v : Option Value) (w' : fw_W), oc = .returned v ∧ Q v w' ∧ (∀ a, fw_in w' a → fw_A w0 sz a) ∧ fw_P D cl w' t.heap) ∧ va_F (fw_A w0 sz) st t
def fw_CL (l : Launch) (y : MethodName) (ws : List Cond) (rm : Room) (D : va_G) (cl : List vw_C) (tys : List (ClassId × FieldType)) (z : kZ_T) (av : List Value) (sz : Nat) (w : fw_W) (mc ms : Nat) (Q : Option Value → fw_W → Prop) : Prop :=
  Met l y ws rm (va_Pc av (fun U => U.heap.size = sz ∧ fw_P D cl w U.heap ∧ kK D cl tys z (fw_A w sz) U U.heap)) (fw_QL D cl w sz Q) mc ms (fw_A w sz)
theorem xw_tab1 {L : List ExceptionTableEntry} {a b c d : Nat} (h : L.map (fun h => (h.startPc, h.endPc, h.handlerPc, h.catchType)) = [(a, b, c, d)]) : L = [⟨a, b, c, d⟩] := by
  match L, h with
  | [⟨a1, b1, c1, d1⟩], h => simp at h; obtain ⟨rfl, rfl, rfl, rfl⟩ := h; rfl
theorem xw_tab2 {L : List ExceptionTableEntry} {a b c d a' b' c' d' : Nat} (h : L.map (fun h => (h.startPc, h.endPc, h.handlerPc, h.catchType)) = [(a, b, c, d), (a', b', c', d')]) : L = [⟨a, b, c, d⟩, ⟨a', b', c', d'⟩] := by
  match L, h with
  | [⟨a1, b1, c1, d1⟩, ⟨a2, b2, c2, d2⟩], h => simp at h; obtain ⟨⟨rfl, rfl, rfl, rfl⟩, rfl, rfl, rfl, rfl⟩ := h; rfl
section FWL
variable {p : Program} {l : Launch} {e : Env} {R : Room} {s : State} {m : MethodId} {args : Array Value} {below : List Frame} {meth : Method} {c : Code} {H : Heap} {locs : List Loc} {cells slots : Nat} {Q : State → Prop}
variable {cc : ByteArray} {pc : Nat} {ls : Array Slot} {rest : List Value} {D : va_G} {cl : List vw_C} {A : Nat → Prop} {tys : List (ClassId × FieldType)} {z : kZ_T} {w w0 : fw_W} {n0 n1 sz mc ms : Nat}
theorem fw_ofWL {y : MethodName} {ws ws' : List Cond} {rm : Room} {av : List Value} {Qc : Option Value → fw_W → Prop} {maxL : Nat} {ret : Option FieldType} {hh : List (Nat × Nat × Nat × Nat)} (hy : plainName y.cls = true) (hw : ws = Cond.codeWith y cc maxL ret hh :: ws') (hlen : (lg_sl av).length ≤ maxL)
    (body : ∀ (p : Program) (e : Env) (s : State) (m : MethodId) (args : Array Value) (below : List Frame) (meth : Method) (c : Code), p.tables.exec = Jvm.exec → c.code = cc → meth.sig.returnType = ret → (∀ w ∈ ws, w.before args s = true) → s.vm.findClass y.cls = some m.cls → meth.locks = false → c.maxLocals = maxL →
      c.exceptionTable.toList.map (fun h => (h.startPc, h.endPc, h.handlerPc, h.catchType)) = hh →
      kK D cl tys z (fw_A w sz) s s.heap → ∀ (H : Heap) (ls : Array Slot), fw_H D cl (fw_A w sz) s.heap w sz H [] → lv_has ls maxL (lv_args 0 av) →
      W p l e rm s m args below meth c H [] 0 0 (MQ below (fw_QL D cl w sz Qc) args s mc ms (fw_A w sz)) (F0 m 0 ls [])) :
    fw_CL l y ws rm D cl tys z av sz w mc ms Qc := by
  refine va_MetW (cc := cc) (maxL := maxL) (ret := ret) (hh := hh) hy hw ?_
  intro p e s m args below meth c s₁ B hml hv
  obtain ⟨rfl, hsz, hP, hK⟩ := hv
  have hl := lv_entry av (n := maxL) hlen
  have hts := atoms_spec (ws := ws) B.pre
  obtain ⟨m9, meth9, c9, hn9, g1, g2, -, -, g5, -, -, -⟩ := Cond.codeWith_spec (hts _ (by rw [hw]; exact List.mem_cons_self))
  cases B.named.symm.trans hn9
  cases B.method.symm.trans g1
  cases (Stand.of_body B).code.symm.trans g2
  rw [lg_entry_eq]
  exact body p e s m _ below meth c B.exec B.bytes B.returns hts (findClass_of_methodNamed B.named) B.notSynchronized hml g5 hK s.heap _
    ⟨hP, fun a h => Or.inl h, fun q h => Or.inr (by rw [← hsz]; exact h), hsz, va_S.rf⟩ hl
theorem fw_iretL {Qc : Option Value → fw_W → Prop} {v : Int32} (hx : p.tables.exec = Jvm.exec) (hb : c.code = cc) (hr : meth.sig.returnType = some .int) (hlocks : meth.locks = false) (hw : fw_H D cl (fw_A w0 sz) s.heap w n1 H locs) (hdg : decode cc pc = .ok (.ireturn, 1)) (hq : Qc (some (.int v)) w) :
    W p l e R s m args below meth c H locs mc ms (MQ below (fw_QL D cl w0 sz Qc) args s mc ms (fw_A w0 sz)) (F0 m pc ls [.int v]) :=
  W.iret hx hb hr (fun t ht _ => ⟨⟨_, w, rfl, hq, hw.2.1, by rw [ht]; exact hw.1⟩, hw.2.2.2.2.F ht⟩) hw.2.2.2.2.2.2 hdg hlocks
theorem fw_callL {Qc : Option Value → fw_W → Prop} {st0 : List Value} {a : Array Value} (hr : va_Run p l e R s m args below meth c H locs cells slots mc ms (F0 m pc ls st0) rest (fw_QL D cl w n0 Qc a) (fw_A w n0)) (hw : fw_H D cl A s.heap w n0 H locs)
    (kk : ∀ (v : Option Value) (w' : fw_W) (n1 : Nat) (H1 : Heap) (locs1 : List Loc), Qc v w' → fw_H D cl A s.heap w' n1 H1 locs1 → W p l e R s m args below meth c H1 locs1 (cells + mc) (slots + ms) Q (F0 m (pc + 3) ls (v.toList ++ rest))) : W p l e R s m args below meth c H locs cells slots Q (F0 m pc ls st0) := by
  have hS := hw.2.2.2.2
  have hn := hw.2.2.2.1
  have hsub : ∀ q, fw_A w n0 q → A q := by
    intro q hq
    rcases hq with hq | hq
    · exact hw.2.1 q hq
    · exact hw.2.2.1 q (by have := hS.1; omega)
  intro T hT X
  obtain ⟨v, st₀, t, T', L, h0, X', hL, e1, e2, ⟨⟨v', w', hv, hq, hi, hP⟩, hF1, hF2⟩, st⟩ := hr T hT X
  cases hv
  rw [h0] at hF1 hF2
  obtain ⟨t2, a1, b1⟩ := kk v w' T'.heap.size T'.heap (locs ++ L) hq ⟨by rw [e1]; exact hP, fun a h => hsub a (hi a h), hw.2.2.1, rfl, Nat.le_trans hS.1 (by rw [e1]; exact hF1), fun q h1 h2 => by rw [e1, hF2 q (Nat.lt_of_lt_of_le h1 hS.1) (fun z => h2 (hsub q z))]; exact hS.2.1 q h1 h2, fun q hq => by
      rcases List.mem_append.mp hq with h | h
      · exact hS.2.2 q h
      · exact hsub _ (hL q h)⟩ T' rfl X'
  exact ⟨t2, st t2 a1, b1⟩
variable {y : MethodName} {bytes : ByteArray} {maxL nL n index : Nat} {ret : Option FieldType} {ws Ts : List Cond} {rm : Room} {own C : String} {b ci N : Nat} {fs : List Value} {T : u_T} {As st0 : List Value} {Qc : Option Value → fw_W → Prop} {hh : List (Nat × Nat × Nat × Nat)}
/-- what a call of a static method with an exception table wants of the words -/
def fw_wL (R : Room) (s : State) (args : Array Value) (own : String) (index : Nat) (y : MethodName) (bytes : ByteArray) (maxL : Nat) (ret : Option FieldType) (hh : List (Nat × Nat × Nat × Nat)) (ws : List Cond) (rm : Room) (mc ms n : Nat) : Prop :=
  rm.cells = mc ∧ rm.slots = ms ∧ rm.frames + 1 ≤ R.frames ∧ 8 + (maxL + 11) + rm.locals ≤ R.locals ∧ (∀ w ∈ ws, ∀ (a' : Array Value) (U : State), s.WarmedH U.vm → w.before a' U = true) ∧ Cond.codeWith y bytes maxL ret hh ∈ ws ∧
  (Cond.codeWith y bytes maxL ret hh).before args s = true ∧ (Cond.initialized y.cls).before args s = true ∧ (y.cls ≠ "java/lang/invoke/MethodHandle" ∧ y.cls ≠ "java/lang/invoke/VarHandle") ∧ (∀ sig, parseMethodDescriptor y.desc = some sig → n = sig.parameters.length) ∧ (Cond.methodLink own index y).before args s = true ∧ (Cond.static y).before args s = true
theorem fw_wLof (n : Nat) (ht : ∀ w ∈ kWs, w.before args s = true) (h1 : Cond.methodLink own index y ∈ kWs) (h2 : Cond.static y ∈ kWs) (h3 : Cond.initialized y.cls ∈ kWs) (h5 : Cond.codeWith y bytes maxL ret hh ∈ kWs) (hrc : rm.cells = mc) (hrs : rm.slots = ms)
    (hd : y.cls ≠ "java/lang/invoke/MethodHandle" ∧ y.cls ≠ "java/lang/invoke/VarHandle" ∧ (parseMethodDescriptor y.desc).map (fun d => d.parameters.length) = some n) (hR : rm.frames + 1 ≤ R.frames ∧ 8 + (maxL + 11) + rm.locals ≤ R.locals) :
    fw_wL R s args own index y bytes maxL ret hh (Cond.codeWith y bytes maxL ret hh :: kWs) rm mc ms n := by
  have hG : GoodIn kWs (Cond.codeWith y bytes maxL ret hh :: kWs) := by
    intro w hw
    refine kw_all ?_
    rcases List.mem_cons.mp hw with rfl | h
    · exact h5
    · exact h
  refine ⟨hrc, hrs, hR.1, hR.2, pay_in ht hG, List.mem_cons_self, ht _ h5, ht _ h3, ⟨hd.1, hd.2.1⟩, fun sig h => ?_, ht _ h1, ht _ h2⟩
  have h2 := hd.2.2
  rw [h] at h2
  exact (Option.some.inj h2).symm
theorem fw_cSL (S : CallFix p m c cc nL s args Ts own) (hM : fw_CL l y ws rm D cl tys z As n0 w mc ms Qc) (cw : fw_wL R s args own index y bytes maxL ret hh ws rm mc ms n) (hK : kK D cl tys z A s s.heap) (hw : fw_H D cl A s.heap w n0 H locs)
    (hn : As.length = n) (hsize : ls.size = nL) (hst : st0 = As.reverse ++ rest) (hroom : (rest.map fun v => v.category).sum ≤ 8) (hdg : decode cc pc = .ok (.invokestatic index, 3)) (hf : cells + mc ≤ R.cells ∧ slots + ms ≤ R.slots)
    (kk : ∀ (v : Option Value) (w' : fw_W) (n1 : Nat) (H1 : Heap) (locs1 : List Loc), Qc v w' → fw_H D cl A s.heap w' n1 H1 locs1 → W p l e R s m args below meth c H1 locs1 (cells + mc) (slots + ms) Q (F0 m (pc + 3) ls (v.toList ++ rest))) : W p l e R s m args below meth c H locs cells slots Q (F0 m pc ls st0) := by
  refine fw_callL (mc := mc) (ms := ms) (a := As.toArray) ?_ hw kk
  obtain ⟨hrc, hrs, hfr, hlo, hws, hcw, hcode, hini, hy, hlen, hl, hstt⟩ := cw
  obtain ⟨hx, hb, hml, ho, -⟩ := S
  have hp : PreS s H (va_Pc As (fun U => U.heap.size = n0 ∧ fw_P D cl w U.heap ∧ kK D cl tys z (fw_A w n0) U U.heap)) As := fw_preS hK hw
  have hB : Back l R p e below s args y 3 8 (PreOf R mc ms (va_Pc As (fun U => U.heap.size = n0 ∧ fw_P D cl w U.heap ∧ kK D cl tys z (fw_A w n0) U U.heap))) (PostOf (fw_QL D cl w n0 Qc) mc ms (fw_A w n0)) :=
    va_backW (bytes := bytes) (maxL := maxL) (ret := ret) (hh := hh) hM hp.1 hrc hrs hfr hlo hws hcw (fun a' U hW => word_at hW (Or.inl (by first | rfl | simp [Cond.onTables, Cond.keeps, Cond.steady])) hini)
  intro T hT X
  obtain ⟨mk, methM, cM, hnamed, hmethM, -, -, -, -, -, -, hsigM⟩ := Cond.codeWith_spec hcode
  have hstatic : methM.isStatic = true := Cond.static_spec hnamed hmethM hstt
  obtain ⟨kP, hkP, -⟩ := className_of_methodNamed hnamed
  have hinitP : kP.init = .initialized := Cond.initialized_spec (findClass_of_methodNamed hnamed) hkP hini
  obtain ⟨vm₁, X₁, hstep₁⟩ := X.invokestatic hx ho hl hnamed hmethM hstatic hkP hinitP hy (g := F0 m pc ls st0) rfl (argsL := As) (rest := rest) (hn.trans (hlen _ hsigM)) hst (by rw [hb]; exact hdg)
  obtain ⟨v, ⟨U', l2, c2, s2⟩, X', ⟨g', mk', t, L, e1, e2, hq, h1, hL, h2, h3⟩, hsteps⟩ := hB m meth c ⟨T.setVm vm₁, locs, cells, slots⟩ (F0 m pc ls rest) (.invokestatic index) mk As.toArray X₁ rfl (hsize.trans hml.symm) (by rw [hb]; exact hdg) (lv_room hroom) (X₁.named hnamed) ⟨hf.1, hf.2, hp.2 (T.setVm vm₁) hT X₁.warmed⟩
  dsimp only [Pt.U, Pt.locs, Pt.cells, Pt.slots] at X' e1 e2 h1 h2 h3 hsteps
  subst h1; subst h2; subst h3
  exact ⟨v, (T.setVm vm₁).calling g' mk' As.toArray, t, U', L, hT, X', hL, e1, e2, hq, fun target h => hstep₁ _ fun acts => by rw [doInvoke_state]; exact hsteps.trans h⟩
end FWL
theorem kz_c {tO tB tC : Nat} {sa : Nat → Nat} {A : Nat → Prop} {s : State} {args : Array Value} (h : kz tO tB tC sa A s s.heap) : (Cond.castable kIA kIA).before args s = true ∧ (Cond.castable kIS kIS).before args s = true ∧ (Cond.castable kIO kIO).before args s = true :=
  ⟨(kz_T h).words.1 _ (by simp [kTw]), (kz_T h).words.1 _ (by simp [kTw]), (kz_T h).words.1 _ (by simp [kTw])⟩
