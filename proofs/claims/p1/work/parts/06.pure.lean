/-! Methods that only read: their contracts leave heap and world as they are. -/
def fw_RQ (Q : Option Value → Prop) : Array Value → State → Outcome → State → Prop := fun _ st oc t => (∃ v : Option Value, oc = .returned v ∧ Q v) ∧ t.heap = st.heap
def fw_R (l : Launch) (y : MethodName) (ws : List Cond) (rm : Room) (D : va_G) (cl : List vw_C) (tys : List (ClassId × FieldType)) (z : kZ_T) (av : List Value) (sz : Nat) (w : fw_W) (Q : Option Value → Prop) : Prop :=
  Met l y ws rm (va_Pc av (fun U => U.heap.size = sz ∧ fw_P D cl w U.heap ∧ kK D cl tys z (fw_A w sz) U U.heap)) (fw_RQ Q) 0 0 (fun _ => False)
section FWR
variable {p : Program} {l : Launch} {e : Env} {R : Room} {s : State} {m : MethodId} {args : Array Value} {below : List Frame} {meth : Method} {c : Code} {H : Heap} {locs : List Loc} {cells slots : Nat} {Q : State → Prop}
variable {cc : ByteArray} {pc : Nat} {ls : Array Slot} {rest : List Value} {D : va_G} {cl : List vw_C} {A : Nat → Prop} {tys : List (ClassId × FieldType)} {z : kZ_T} {w w0 : fw_W} {n0 sz : Nat}
theorem fw_ofR {y : MethodName} {ws ws' : List Cond} {rm : Room} {av : List Value} {Qc : Option Value → Prop} {maxL : Nat} {ret : Option FieldType} (hy : plainName y.cls = true) (hw : ws = Cond.code y cc maxL ret :: ws') (hlen : (lg_sl av).length ≤ maxL)
    (body : ∀ (p : Program) (e : Env) (s : State) (m : MethodId) (args : Array Value) (below : List Frame) (meth : Method) (c : Code), p.tables.exec = Jvm.exec → c.code = cc → meth.sig.returnType = ret → (∀ w ∈ ws, w.before args s = true) → s.vm.findClass y.cls = some m.cls → meth.locks = false → c.maxLocals = maxL →
      kK D cl tys z (fw_A w sz) s s.heap → ∀ (H : Heap) (ls : Array Slot), H = s.heap → fw_H D cl (fw_A w sz) s.heap w sz H [] → lv_has ls maxL (lv_args 0 av) →
      W p l e rm s m args below meth c H [] 0 0 (MQ below (fw_RQ Qc) args s 0 0 (fun _ => False)) (F0 m 0 ls [])) :
    fw_R l y ws rm D cl tys z av sz w Qc := by
  refine Met.ofW (cc := cc) (maxL := maxL) (ret := ret) hy hw ?_
  intro p e s m args below meth c s₁ B hml hv
  obtain ⟨rfl, hsz, hP, hK⟩ := hv
  have hl := lv_entry av (n := maxL) hlen
  rw [lg_entry_eq]
  exact body p e s m _ below meth c B.exec B.bytes B.returns (atoms_spec (ws := ws) B.pre) (findClass_of_methodNamed B.named) B.notSynchronized hml hK s.heap _ rfl
    ⟨hP, fun a h => Or.inl h, fun q h => Or.inr (by rw [← hsz]; exact h), hsz, va_S.rf⟩ hl
theorem fw_endR {Qc : Option Value → Prop} {v : Option Value} (hH : H = s.heap) (hq : Qc v) : ∀ t : State, t.heap = H → s.WarmedH t.vm → fw_RQ Qc args s (.returned v) t := fun t ht _ => ⟨⟨v, rfl, hq⟩, by rw [ht, hH]⟩
theorem fw_iretR {Qc : Option Value → Prop} {v : Int32} (hx : p.tables.exec = Jvm.exec) (hb : c.code = cc) (hr : meth.sig.returnType = some .int) (hlocks : meth.locks = false) (hH : H = s.heap) (hdg : decode cc pc = .ok (.ireturn, 1)) (hq : Qc (some (.int v))) :
    W p l e R s m args below meth c H [] 0 0 (MQ below (fw_RQ Qc) args s 0 0 (fun _ => False)) (F0 m pc ls [.int v]) := W.iret hx hb hr (fw_endR hH hq) (fun _ h => nomatch h) hdg hlocks
theorem fw_zretR {Qc : Option Value → Prop} {v : Int32} (hx : p.tables.exec = Jvm.exec) (hb : c.code = cc) (hr : meth.sig.returnType = some .boolean) (hlocks : meth.locks = false) (hH : H = s.heap) (hdg : decode cc pc = .ok (.ireturn, 1)) (hn : narrow .boolean (.int v) = .int v) (hq : Qc (some (.int v))) :
    W p l e R s m args below meth c H [] 0 0 (MQ below (fw_RQ Qc) args s 0 0 (fun _ => False)) (F0 m pc ls [.int v]) := W.zret hx hb hr hn (fw_endR hH hq) (fun _ h => nomatch h) hdg hlocks
theorem fw_lretR {Qc : Option Value → Prop} {v : Int64} (hx : p.tables.exec = Jvm.exec) (hb : c.code = cc) (hr : meth.sig.returnType = some .long) (hlocks : meth.locks = false) (hH : H = s.heap) (hdg : decode cc pc = .ok (.lreturn, 1)) (hq : Qc (some (.long v))) :
    W p l e R s m args below meth c H [] 0 0 (MQ below (fw_RQ Qc) args s 0 0 (fun _ => False)) (F0 m pc ls [.long v]) := W.lret hx hb hr (fw_endR hH hq) (fun _ h => nomatch h) hdg hlocks
theorem fw_vretR {Qc : Option Value → Prop} (hx : p.tables.exec = Jvm.exec) (hb : c.code = cc) (hr : meth.sig.returnType = none) (hlocks : meth.locks = false) (hH : H = s.heap) (hdg : decode cc pc = .ok (.return_, 1)) (hq : Qc none) :
    W p l e R s m args below meth c H [] 0 0 (MQ below (fw_RQ Qc) args s 0 0 (fun _ => False)) (F0 m pc ls []) := W.vret hx hb hr (fw_endR hH hq) (fun _ h => nomatch h) hdg hlocks
theorem fw_aretR {Qc : Option Value → Prop} {v : Nat} {C : String} (hx : p.tables.exec = Jvm.exec) (hb : c.code = cc) (hr : meth.sig.returnType = some (.object C)) (hlocks : meth.locks = false) (hH : H = s.heap) (hdg : decode cc pc = .ok (.areturn, 1)) (hq : Qc (some (.ref v))) :
    W p l e R s m args below meth c H [] 0 0 (MQ below (fw_RQ Qc) args s 0 0 (fun _ => False)) (F0 m pc ls [.ref v]) := W.aret hx hb hr (Or.inl ⟨_, rfl⟩) (Or.inr ⟨_, rfl⟩) (fw_endR hH hq) (fun _ h => nomatch h) hdg hlocks
/-- behind a call that only reads -/
theorem fw_callR {Qc : Option Value → Prop} {st0 : List Value} {a : Array Value} (hr : va_Run p l e R s m args below meth c H locs cells slots 0 0 (F0 m pc ls st0) rest (fw_RQ Qc a) (fun _ => False))
    (kk : ∀ (v : Option Value), Qc v → W p l e R s m args below meth c H locs cells slots Q (F0 m (pc + 3) ls (v.toList ++ rest))) : W p l e R s m args below meth c H locs cells slots Q (F0 m pc ls st0) := by
  intro T hT X
  obtain ⟨v, st₀, t, T', L, h0, X', hL, e1, e2, ⟨⟨v', hv, hq⟩, hh⟩, st⟩ := hr T hT X
  cases hv
  obtain rfl : L = [] := by
    cases L with
    | nil => rfl
    | cons a b => exact (hL a List.mem_cons_self).elim
  obtain ⟨t2, a1, b1⟩ := kk v hq T' (by rw [e1, hh, h0]) (by simpa using X')
  exact ⟨t2, st t2 a1, b1⟩
variable {y : MethodName} {bytes : ByteArray} {maxL nL n index : Nat} {ret : Option FieldType} {ws Ts : List Cond} {rm : Room} {own C : String} {b ci N : Nat} {fs : List Value} {T : u_T} {As st0 : List Value} {Qc : Option Value → Prop}
theorem fw_cVR (S : CallFix p m c cc nL s args Ts own) (hM : fw_R l y ws rm D cl tys z (.ref b :: As) n0 w Qc) (cw : CallW R s args own C index y bytes maxL ret ws rm 0 0 n) (hK : kK D cl tys z A s s.heap) (hw : fw_H D cl A s.heap w n0 H locs) (hbb : w b = some (.inr (ci, fs))) (hc : cl[ci]? = some (C, T, N))
    (hn : As.length = n) (hsize : ls.size = nL) (hst : st0 = As.reverse ++ .ref b :: rest) (hroom : (rest.map fun v => v.category).sum ≤ 8) (hdg : decode cc pc = .ok (.invokevirtual index, 3)) (hf : cells + 0 ≤ R.cells ∧ slots + 0 ≤ R.slots)
    (kk : ∀ (v : Option Value), Qc v → W p l e R s m args below meth c H locs cells slots Q (F0 m (pc + 3) ls (v.toList ++ rest))) : W p l e R s m args below meth c H locs cells slots Q (F0 m pc ls st0) :=
  fw_callR (va_runV S hM cw (fw_recv hK hw hbb hc) rfl hn hsize hst (lv_room hroom) hdg hf) kk
theorem fw_cSR (S : CallFix p m c cc nL s args Ts own) (hM : fw_R l y ws rm D cl tys z As n0 w Qc) (cw : CallB R s args own index y bytes maxL ret ws rm 0 0 n ∧ (Cond.static y).before args s = true) (hK : kK D cl tys z A s s.heap) (hw : fw_H D cl A s.heap w n0 H locs)
    (hn : As.length = n) (hsize : ls.size = nL) (hst : st0 = As.reverse ++ rest) (hroom : (rest.map fun v => v.category).sum ≤ 8) (hdg : decode cc pc = .ok (.invokestatic index, 3)) (hf : cells + 0 ≤ R.cells ∧ slots + 0 ≤ R.slots)
    (kk : ∀ (v : Option Value), Qc v → W p l e R s m args below meth c H locs cells slots Q (F0 m (pc + 3) ls (v.toList ++ rest))) : W p l e R s m args below meth c H locs cells slots Q (F0 m pc ls st0) :=
  fw_callR (va_runS S hM cw (fw_preS hK hw) rfl hn hsize hst (lv_room hroom) hdg hf) kk
end FWR
