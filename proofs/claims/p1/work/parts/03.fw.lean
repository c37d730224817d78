/-! A world as a function of addresses: reads, writes, new cells; own rows over the kit's. -/
abbrev fw_W : Type := Nat → Option va_E
def fw_up (w : fw_W) (a : Nat) (e : va_E) : fw_W := fun q => if q = a then some e else w q
theorem fw_us (w : fw_W) (a : Nat) (e : va_E) : fw_up w a e a = some e := if_pos rfl
theorem fw_un {w : fw_W} {a q : Nat} {e : va_E} (h : q ≠ a) : fw_up w a e q = w q := if_neg h
theorem fw_up_same {w : fw_W} {a : Nat} {e : va_E} (h : w a = some e) : fw_up w a e = w := by
  funext q
  by_cases hq : q = a
  · subst hq; rw [fw_us, h]
  · rw [fw_un hq]
theorem fw_up_up (w : fw_W) (a : Nat) (e e2 : va_E) : fw_up (fw_up w a e) a e2 = fw_up w a e2 := by
  funext q
  by_cases hq : q = a
  · subst hq; rw [fw_us, fw_us]
  · rw [fw_un hq, fw_un hq, fw_un hq]
theorem fw_up_comm (w : fw_W) {a b : Nat} (h : a ≠ b) (e e2 : va_E) : fw_up (fw_up w a e) b e2 = fw_up (fw_up w b e2) a e := by
  funext q
  by_cases hq : q = a
  · subst hq; rw [fw_un h, fw_us, fw_us]
  · by_cases hb : q = b
    · subst hb; rw [fw_us, fw_un hq, fw_us]
    · rw [fw_un hb, fw_un hq, fw_un hq, fw_un hb]
/-- two cells of other kinds lie apart -/
theorem fw_ne {w : fw_W} {a b : Nat} {x y : va_E} (h1 : w a = some x) (h2 : w b = some y) (h : x ≠ y) : a ≠ b := fun e => h (by rw [e, h2] at h1; exact (Option.some.inj h1).symm)
theorem fw_neK {w : fw_W} {a b : Nat} {x : ClassId × vp_A} {y : Nat × List Value} (h1 : w a = some (.inl x)) (h2 : w b = some (.inr y)) : a ≠ b := fw_ne h1 h2 (fun h => nomatch h)
theorem fw_neK2 {w : fw_W} {a b : Nat} {x : ClassId × vp_A} {y : Nat × List Value} (h1 : w a = some (.inr y)) (h2 : w b = some (.inl x)) : a ≠ b := fw_ne h1 h2 (fun h => nomatch h)
theorem fw_neC {w : fw_W} {a b c d : Nat} {x y : List Value} (h1 : w a = some (.inr (c, x))) (h2 : w b = some (.inr (d, y))) (h : c ≠ d) : a ≠ b := fw_ne h1 h2 (fun e => h (by cases e; rfl))
/-- the heap holds the world -/
def fw_P (D : va_G) (cl : List vw_C) (w : fw_W) (H : Heap) : Prop := ∀ (a : Nat) (e : va_E), w a = some e → va_at D cl (a, e) H
def fw_in (w : fw_W) (a : Nat) : Prop := ∃ e, w a = some e
theorem fw_in_up {w : fw_W} {a : Nat} {e0 e : va_E} (h : w a = some e0) (q : Nat) : fw_in (fw_up w a e) q ↔ fw_in w q := by
  by_cases hq : q = a
  · subst hq; exact ⟨fun _ => ⟨_, h⟩, fun _ => ⟨_, fw_us w q e⟩⟩
  · constructor
    · rintro ⟨x, hx⟩; rw [fw_un hq] at hx; exact ⟨x, hx⟩
    · rintro ⟨x, hx⟩; exact ⟨x, by rw [fw_un hq]; exact hx⟩
/-- the heap H of n cells holds the world w, whose cells are A's; since H0 nothing outside A has changed; all that is new is A's -/
def fw_H (D : va_G) (cl : List vw_C) (A : Nat → Prop) (H0 : Heap) (w : fw_W) (n : Nat) (H : Heap) (locs : List Loc) : Prop := fw_P D cl w H ∧ (∀ a, fw_in w a → A a) ∧ (∀ q, H0.size ≤ q → A q) ∧ H.size = n ∧ va_S A H0 H locs
theorem fw_one {D : va_G} {cl : List vw_C} {w : fw_W} {H : Heap} (h : fw_P D cl w H) {a : Nat} {e : va_E} (he : w a = some e) : va_P D cl [(a, e)] H := by
  intro k q hk
  have hz : k < 1 := (List.getElem?_eq_some_iff.mp hk).1
  rw [show k = 0 by omega] at hk
  cases hk
  exact h a e he
theorem fw_two {D : va_G} {cl : List vw_C} {w : fw_W} {H : Heap} (h : fw_P D cl w H) {a b : Nat} {e f : va_E} (he : w a = some e) (hf : w b = some f) : va_P D cl [(a, e), (b, f)] H := by
  intro k q hk
  have hz : k < 2 := (List.getElem?_eq_some_iff.mp hk).1
  rcases (show k = 0 ∨ k = 1 by omega) with rfl | rfl
  · cases hk; exact h a e he
  · cases hk; exact h b f hf
theorem fw_H.lt {D : va_G} {cl : List vw_C} {A : Nat → Prop} {H0 H : Heap} {w : fw_W} {n : Nat} {locs : List Loc} (h : fw_H D cl A H0 w n H locs) {a : Nat} {e : va_E} (he : w a = some e) : a < n := by
  have h1 := (h.1 a e he).lt
  rw [h.2.2.2.1] at h1
  exact h1
/-- a cell is written -/
theorem fw_H.set {D : va_G} {cl : List vw_C} {A : Nat → Prop} {H0 H H1 : Heap} {w : fw_W} {n : Nat} {locs : List Loc} {a k : Nat} {e0 e : va_E} (h : fw_H D cl A H0 w n H locs) (ha : w a = some e0) (he : va_at D cl (a, e) H1) (z : H1.size = H.size) (oq : ∀ q : Nat, q ≠ a → H1[q]? = H[q]?) : fw_H D cl A H0 (fw_up w a e) n H1 (locs ++ [⟨a, k⟩]) := by
  refine ⟨fun q x hx => ?_, fun q hq => h.2.1 q ((fw_in_up ha q).mp hq), h.2.2.1, z.trans h.2.2.2.1, h.2.2.2.2.put z oq (h.2.1 a ⟨_, ha⟩)⟩
  by_cases hq : q = a
  · subst hq; rw [fw_us] at hx; cases hx; exact he
  · rw [fw_un hq] at hx
    exact (h.1 q x hx).kept (oq q hq)
/-- a cell is made -/
theorem fw_H.grow {D : va_G} {cl : List vw_C} {A : Nat → Prop} {H0 H H1 : Heap} {w : fw_W} {locs : List Loc} {n : Nat} {e : va_E} (h : fw_H D cl A H0 w n H locs) (he : va_at D cl (n, e) H1) (z : H1.size = n + 1) (oq : ∀ q : Nat, q < n → H1[q]? = H[q]?) : fw_H D cl A H0 (fw_up w n e) (n + 1) H1 locs := by
  have hn := h.2.2.2.1
  have hS := h.2.2.2.2
  have hA := h.2.2.1
  refine ⟨fun q x hx => ?_, fun q hq => ?_, hA, z, Nat.le_trans hS.1 (by omega), fun q h1 h2 => (oq q (by have := hS.1; omega)).trans (hS.2.1 q h1 h2), hS.2.2⟩
  · by_cases hq : q = n
    · subst hq; rw [fw_us] at hx; cases hx; exact he
    · rw [fw_un hq] at hx
      exact (h.1 q x hx).kept (oq q (h.lt hx))
  · by_cases hq2 : q = n
    · rw [hq2]; exact hA _ (by have := hS.1; omega)
    · obtain ⟨x, hx⟩ := hq
      rw [fw_un hq2] at hx
      exact h.2.1 q ⟨x, hx⟩
section FWL
variable {p : Program} {l : Launch} {e : Env} {R : Room} {s : State} {m : MethodId} {args : Array Value} {below : List Frame} {meth : Method} {c : Code} {H : Heap} {locs : List Loc} {cells slots : Nat} {Q : State → Prop}
variable {cc : ByteArray} {pc : Nat} {ls : Array Slot} {rest : List Value} {D : va_G} {cl : List vw_C} {A : Nat → Prop} {a : Nat} {tys : List (ClassId × FieldType)} {w : fw_W} {H0 : Heap} {nH : Nat}
theorem fw_get (hexec : p.tables.exec = Jvm.exec) (hb : c.code = cc) {own ref C : String} {T : u_T} {N ci index : Nat} {Ts : List Cond} (hts : ∀ w ∈ Ts, w.before args s = true) (hin : ∀ w ∈ u_ws C T N, w ∈ Ts) (hown : s.vm.findClass own = some m.cls) (hK : va_K D cl tys s) (hw : fw_H D cl A H0 w nH H locs) {fs : List Value} (he : w a = some (.inr (ci, fs))) (hc : cl[ci]? = some (C, T, N)) (k : Nat) (hk : k < N) (hlink : (Cond.fieldLink own index ref (T k).2.1 (T k).2.2.1).before args s = true) (hsame : ∀ x, s.fieldFound? (T k).1 (T k).2.1 (T k).2.2.1 = some x → s.fieldFound? ref (T k).2.1 (T k).2.2.1 = some x) {v : Value} (hv : fs[k]? = some v) (hdg : decode cc pc = .ok (.getfield index, 3))
    (kk : W p l e R s m args below meth c H locs cells slots Q (F0 m (pc + 3) ls (v :: rest))) : W p l e R s m args below meth c H locs cells slots Q (F0 m pc ls (.ref a :: rest)) :=
  va_get hexec hb hts hin hown hK (fw_one hw.1 he) 0 rfl hc k hk hlink hsame hv hdg kk
theorem fw_put (hexec : p.tables.exec = Jvm.exec) (hb : c.code = cc) {own ref C : String} {T : u_T} {N ci index : Nat} {Ts : List Cond} (hts : ∀ w ∈ Ts, w.before args s = true) (hin : ∀ w ∈ u_ws C T N, w ∈ Ts) (ty0 : Nat → FieldType) (hty : ∀ k, k < N → parseFieldDescriptor (T k).2.2.1 = some (ty0 k)) (hnm : ∀ a, a < N → ∀ b, b < N → a ≠ b → (T a).2.1 ≠ (T b).2.1) (hown : s.vm.findClass own = some m.cls) (hK : va_K D cl tys s) (hw : fw_H D cl A H0 w nH H locs) {fs : List Value} (he : w a = some (.inr (ci, fs))) (hc : cl[ci]? = some (C, T, N)) (k : Nat) (hk : k < N) (hlink : (Cond.fieldLink own index ref (T k).2.1 (T k).2.2.1).before args s = true) (hsame : ∀ x, s.fieldFound? (T k).1 (T k).2.1 (T k).2.2.1 = some x → s.fieldFound? ref (T k).2.1 (T k).2.2.1 = some x) (hfin : (T k).2.2.2 = false) {ty : FieldType} {v : Value} (hd : parseFieldDescriptor (T k).2.2.1 = some ty) (hn : narrow ty v = v) (hfit : fits ty v = true) (hl : k < fs.length)
    (hdg : decode cc pc = .ok (.putfield index, 3)) (kk : ∀ (H1 : Heap) (locs1 : List Loc), fw_H D cl A H0 (fw_up w a (.inr (ci, fs.set k v))) nH H1 locs1 → W p l e R s m args below meth c H1 locs1 cells slots Q (F0 m (pc + 3) ls rest)) : W p l e R s m args below meth c H locs cells slots Q (F0 m pc ls (v :: .ref a :: rest)) := by
  have hap := va_apart (own := own) hts hin ty0 hty hnm hK hc
  obtain ⟨r, h1, cell, q1, q2, q3, q4⟩ := hw.1 a _ he
  have hr : r = (C, T, N) := Option.some.inj (h1.symm.trans hc)
  subst hr
  obtain ⟨hS, hfc, kC, hkC, hkind⟩ := hK.1 ci _ hc
  obtain ⟨cf, kf, fi, f, hi, hsl⟩ := hS k hk
  have hlay := hts _ (hin _ (u_in_lay hk))
  unfold u_lay at hlay
  rw [if_neg (by rw [hfin]; decide)] at hlay
  have hst := (u_facts hfc hkC (u_lays hts hin hk) hi).1
  have h6 := u_store hfc hkC hkind hlay hi hd hn hfit
  refine W.putK hexec hb (f := f) ⟨hown, hlink, ⟨_, _, _, hsame _ hi⟩, hst⟩ (by rw [q2]; exact h6) q1 q3 (by rw [hsl]; exact k2_hasslot (q4 k hk)) rfl rfl hdg fun H' e1 e2 e3 => ?_
  rw [hsl] at e1 ⊢
  exact kk H' _ (hw.set he ⟨_, hc, t_OB.to (V := updV (vp_V fs) k v) ⟨_, e1, q2, q3, t_set q4 hap hk v⟩ (fun j _ => vp_updV_set hl v j)⟩ e2 e3)
theorem fw_putF (hexec : p.tables.exec = Jvm.exec) (hb : c.code = cc) {own ref C : String} {T : u_T} {N ci index : Nat} {Ts : List Cond} (hts : ∀ w ∈ Ts, w.before args s = true) (hin : ∀ w ∈ u_ws C T N, w ∈ Ts) (ty0 : Nat → FieldType) (hty : ∀ k, k < N → parseFieldDescriptor (T k).2.2.1 = some (ty0 k)) (hnm : ∀ a, a < N → ∀ b, b < N → a ≠ b → (T a).2.1 ≠ (T b).2.1) (hown : s.vm.findClass own = some m.cls) (hK : va_K D cl tys s) (hw : fw_H D cl A H0 w nH H locs) {fs : List Value} (he : w a = some (.inr (ci, fs))) (hc : cl[ci]? = some (C, T, N)) (k : Nat) (hk : k < N) (hlink : (Cond.fieldLink own index ref (T k).2.1 (T k).2.2.1).before args s = true) (hsame : ∀ x, s.fieldFound? (T k).1 (T k).2.1 (T k).2.2.1 = some x → s.fieldFound? ref (T k).2.1 (T k).2.2.1 = some x) (hfin : (T k).2.2.2 = true) (hin2 : meth.name = "<init>") (hdecl : (T k).1 = own) {ty : FieldType} {v : Value} (hd : parseFieldDescriptor (T k).2.2.1 = some ty) (hn : narrow ty v = v) (hfit : fits ty v = true) (hl : k < fs.length)
    (hdg : decode cc pc = .ok (.putfield index, 3)) (kk : ∀ (H1 : Heap) (locs1 : List Loc), fw_H D cl A H0 (fw_up w a (.inr (ci, fs.set k v))) nH H1 locs1 → W p l e R s m args below meth c H1 locs1 cells slots Q (F0 m (pc + 3) ls rest)) : W p l e R s m args below meth c H locs cells slots Q (F0 m pc ls (v :: .ref a :: rest)) := by
  have hap := va_apart (own := own) hts hin ty0 hty hnm hK hc
  obtain ⟨r, h1, cell, q1, q2, q3, q4⟩ := hw.1 a _ he
  have hr : r = (C, T, N) := Option.some.inj (h1.symm.trans hc)
  subst hr
  obtain ⟨hS, hfc, kC, hkC, hkind⟩ := hK.1 ci _ hc
  obtain ⟨cf, kf, fi, f, hi, hsl⟩ := hS k hk
  have hlay := hts _ (hin _ (u_in_lay hk))
  unfold u_lay at hlay
  rw [if_pos hfin] at hlay
  have hst := (u_facts hfc hkC (u_lays hts hin hk) hi).1
  have hcf : m.cls = cf := by
    obtain ⟨_, _, c', _, _, _, -, -, hf', -, -, -, hown2, -⟩ := Cond.laysFinal_spec hlay
    have e1 : c' = cf := by have := hi.symm.trans hf'; simp at this; exact this.1.symm
    rw [hdecl] at hown2
    rw [← e1]; exact Option.some.inj (hown.symm.trans hown2)
  have h6 := u_fits hfc hkC hkind (Or.inr hlay) hi hd hn hfit
  refine W.putFinK hexec hb hown hlink (hsame _ hi) hst hcf hin2 (by rw [q2]; exact h6) q1 q3 (by rw [hsl]; exact k2_hasslot (q4 k hk)) rfl rfl hdg fun H' e1 e2 e3 => ?_
  rw [hsl] at e1 ⊢
  exact kk H' _ (hw.set he ⟨_, hc, t_OB.to (V := updV (vp_V fs) k v) ⟨_, e1, q2, q3, t_set q4 hap hk v⟩ (fun j _ => vp_updV_set hl v j)⟩ e2 e3)
theorem fw_iald (hexec : p.tables.exec = Jvm.exec) (hb : c.code = cc) (hK : va_K D cl tys s) (hw : fw_H D cl A H0 w nH H locs) (t0 : Nat) {cA : ClassId} {n : Nat} {f : Nat → Int32} (ha : w a = some (.inl (cA, n, .inl f))) (ht : tys[t0]? = some (cA, .int)) {i : Int32} (hin : vp_in i n) (hdg : decode cc pc = .ok (.iaload, 1))
    (kk : W p l e R s m args below meth c H locs cells slots Q (F0 m (pc + 1) ls (.int (f i.toNatClampNeg) :: rest))) : W p l e R s m args below meth c H locs cells slots Q (F0 m pc ls (.int i :: .ref a :: rest)) :=
  va_iald hexec hb hK (fw_one hw.1 ha) 0 t0 rfl ht hin hdg kk
theorem fw_lald (hexec : p.tables.exec = Jvm.exec) (hb : c.code = cc) (hK : va_K D cl tys s) (hw : fw_H D cl A H0 w nH H locs) (t0 : Nat) {cA : ClassId} {n : Nat} {f : Nat → Int64} (ha : w a = some (.inl (cA, n, .inr (.inl f)))) (ht : tys[t0]? = some (cA, .long)) {i : Int32} (hin : vp_in i n) (hdg : decode cc pc = .ok (.laload, 1))
    (kk : W p l e R s m args below meth c H locs cells slots Q (F0 m (pc + 1) ls (.long (f i.toNatClampNeg) :: rest))) : W p l e R s m args below meth c H locs cells slots Q (F0 m pc ls (.int i :: .ref a :: rest)) :=
  va_lald hexec hb hK (fw_one hw.1 ha) 0 t0 rfl ht hin hdg kk
theorem fw_aald (hexec : p.tables.exec = Jvm.exec) (hb : c.code = cc) (hK : va_K D cl tys s) (hw : fw_H D cl A H0 w nH H locs) (t0 : Nat) {cA : ClassId} {C : String} {n : Nat} {f : Nat → Option Nat} (ha : w a = some (.inl (cA, n, .inr (.inr (.inr (.inr f)))))) (ht : tys[t0]? = some (cA, .object C)) {i : Int32} (hin : vp_in i n) (hdg : decode cc pc = .ok (.aaload, 1))
    (kk : W p l e R s m args below meth c H locs cells slots Q (F0 m (pc + 1) ls (va_rf (f i.toNatClampNeg) :: rest))) : W p l e R s m args below meth c H locs cells slots Q (F0 m pc ls (.int i :: .ref a :: rest)) :=
  va_aldq hexec hb hK (fw_one hw.1 ha) 0 t0 rfl ht hin hdg kk
theorem fw_alen (hexec : p.tables.exec = Jvm.exec) (hb : c.code = cc) (hK : va_K D cl tys s) (hw : fw_H D cl A H0 w nH H locs) (t0 : Nat) {cA : ClassId} {x : vp_A} (ha : w a = some (.inl (cA, x))) {ty : FieldType} (ht : tys[t0]? = some (cA, ty)) {v : Int32} (hv : Int32.ofNat x.1 = v) (hdg : decode cc pc = .ok (.arraylength, 1))
    (kk : W p l e R s m args below meth c H locs cells slots Q (F0 m (pc + 1) ls (.int v :: rest))) : W p l e R s m args below meth c H locs cells slots Q (F0 m pc ls (.ref a :: rest)) :=
  va_alen hexec hb hK (fw_one hw.1 ha) 0 t0 rfl ht hv hdg kk
theorem fw_iast (hexec : p.tables.exec = Jvm.exec) (hb : c.code = cc) (hK : va_K D cl tys s) (hw : fw_H D cl A H0 w nH H locs) (t0 : Nat) {cA : ClassId} {n : Nat} {f : Nat → Int32} (ha : w a = some (.inl (cA, n, .inl f))) (ht : tys[t0]? = some (cA, .int)) {i x : Int32} (hin : vp_in i n) (hdg : decode cc pc = .ok (.iastore, 1))
    (kk : ∀ (H1 : Heap) (locs1 : List Loc), fw_H D cl A H0 (fw_up w a (.inl (cA, n, .inl (va_up f i.toNatClampNeg x)))) nH H1 locs1 → W p l e R s m args below meth c H1 locs1 cells slots Q (F0 m (pc + 1) ls rest)) : W p l e R s m args below meth c H locs cells slots Q (F0 m pc ls (.int x :: .int i :: .ref a :: rest)) := by
  refine W.iast hexec hb (hw.1 a _ ha) ((hK.2 t0 _ ht).1 n (fun j => .int (f j))) (fun q => by cases q) (by show ¬ (i < 0 ∨ (arrV _ _ _).slots.size ≤ _); rw [arrV_size]; exact hin) rfl rfl hdg fun H1 e z oq => ?_
  refine kk H1 _ (hw.set ha ?_ z oq)
  show H1[a]? = some (vp_cell _ _)
  rw [e]
  rw [vp_cell_i, vp_cell_i, arrV_store]
  congr 2
  funext q
  by_cases hq : q = i.toNatClampNeg
  · subst hq; simp [updV, va_up]
  · simp [updV, va_up, hq]
theorem fw_last (hexec : p.tables.exec = Jvm.exec) (hb : c.code = cc) (hK : va_K D cl tys s) (hw : fw_H D cl A H0 w nH H locs) (t0 : Nat) {cA : ClassId} {n : Nat} {f : Nat → Int64} (ha : w a = some (.inl (cA, n, .inr (.inl f)))) (ht : tys[t0]? = some (cA, .long)) {i : Int32} {x : Int64} (hin : vp_in i n) (hdg : decode cc pc = .ok (.lastore, 1))
    (kk : ∀ (H1 : Heap) (locs1 : List Loc), fw_H D cl A H0 (fw_up w a (.inl (cA, n, .inr (.inl (va_up f i.toNatClampNeg x))))) nH H1 locs1 → W p l e R s m args below meth c H1 locs1 cells slots Q (F0 m (pc + 1) ls rest)) : W p l e R s m args below meth c H locs cells slots Q (F0 m pc ls (.long x :: .int i :: .ref a :: rest)) := by
  refine W.last hexec hb (hw.1 a _ ha) ((hK.2 t0 _ ht).1 n (fun j => .long (f j))) (fun q => by cases q) (by show ¬ (i < 0 ∨ (arrV _ _ _).slots.size ≤ _); rw [arrV_size]; exact hin) rfl rfl hdg fun H1 e z oq => ?_
  refine kk H1 _ (hw.set ha ?_ z oq)
  show H1[a]? = some (vp_cell _ _)
  rw [e]
  rw [vp_cell_l, vp_cell_l, arrV_store]
  congr 2
  funext q
  by_cases hq : q = i.toNatClampNeg
  · subst hq; simp [updV, va_up]
  · simp [updV, va_up, hq]
theorem fw_new {c0 : Code} (hexec : p.tables.exec = Jvm.exec) (hb : c0.code = cc) {own C : String} {T : u_T} {N ci index n : Nat} {Ts : List Cond} (hts : ∀ w ∈ Ts, w.before args s = true) (hin : ∀ w ∈ u_ws C T N, w ∈ Ts) (ty : Nat → FieldType) (hty : ∀ k, k < N → parseFieldDescriptor (T k).2.2.1 = some (ty k)) (hown : s.vm.findClass own = some m.cls) (hcl : (Cond.classLink own index C).before args s = true) (hinst : (Cond.instantiable C N).before args s = true) (hini : (Cond.initialized C).before args s = true)
    (hK : va_K D cl tys s) (hw : fw_H D cl A H0 w n H locs) (hc : cl[ci]? = some (C, T, N)) {fs : List Value} (hfs : ∀ j, j < N → defaultValue (ty j) = vp_V fs j) (hcells : cells + 1 ≤ R.cells) (hslots : slots + N ≤ R.slots) (hdg : decode cc pc = .ok (.new index, 3))
    (kk : ∀ (H1 : Heap), fw_H D cl A H0 (fw_up w n (.inr (ci, fs))) (n + 1) H1 locs →
      W p l e R s m args below meth c0 H1 locs (cells + 1) (slots + N) Q (F0 m (pc + 3) ls (.ref n :: rest))) : W p l e R s m args below meth c0 H locs cells slots Q (F0 m pc ls rest) := by
  have hKn := hK.1 ci _ hc
  refine W.newcK hexec hb hown hcl hinst hini rfl hdg hcells hslots hKn.2.1 hw.2.2.2.1 fun H1 kC hkC e1 z1 o1 => ?_
  exact kk H1 (hw.grow ⟨_, hc, (u_born ty hts hin hKn hkC e1 hty).to hfs⟩ z1 o1)
/-- a new array of numbers; its class is the one that the tables name -/
theorem fw_newa (hexec : p.tables.exec = Jvm.exec) (hb : c.code = cc) {atype : ArrayType} (harr : (Cond.arrayClass (newarray.typeOf atype)).before args s = true) {ty : FieldType} (hty : newarray.typeOf atype = ty) (hK : va_K D cl tys s) {h : Nat} (hw : fw_H D cl A H0 w h H locs)
    {cA : ClassId} (t0 : Nat) (ht : tys[t0]? = some (cA, ty)) (hRA : s.vm.findClass ("[" ++ ty.toString) = some cA) {n : Int32} {N' : Nat} {a0 : vp_A} (ha : vp_cell cA a0 = arrV cA N' (fun _ => defaultValue ty)) (hn : ¬ n < 0) (hN : n.toNatClampNeg = N') (hbytes : N' * componentBytes ty ≤ 536870912) (hcells : cells + 1 ≤ R.cells) (hslots : slots + N' ≤ R.slots) (hdg : decode cc pc = .ok (.newarray atype, 2))
    (kk : ∀ (H1 : Heap), fw_H D cl A H0 (fw_up w h (.inl (cA, a0))) (h + 1) H1 locs →
      W p l e R s m args below meth c H1 locs (cells + 1) (slots + N') Q (F0 m (pc + 2) ls (.ref h :: rest))) : W p l e R s m args below meth c H locs cells slots Q (F0 m pc ls (.int n :: rest)) := by
  subst hty
  refine va_newaK hexec hb harr rfl hdg rfl hn hN hbytes hcells hslots hw.2.2.2.1 fun H1 cB e1 z1 o1 hAr hNm => ?_
  have hcc : cB = cA := Option.some.inj (hNm.symm.trans hRA)
  subst hcc
  refine kk H1 (hw.grow ?_ z1 o1)
  show H1[h]? = some (vp_cell _ _)
  rw [ha]
  exact e1
end FWL
/-! contracts over function worlds -/
def fw_A (w : fw_W) (sz : Nat) : Nat → Prop := fun q => fw_in w q ∨ sz ≤ q
/-- what is said of statics, strings, links: a predicate that stays while nothing outside A changes and the tables grow warmer -/
abbrev kZ_T : Type := (Nat → Prop) → State → Heap → Prop
def kZs (z : kZ_T) : Prop := ∀ (A B : Nat → Prop) (U V : State) (H H1 : Heap), (∀ q, B q → A q) → (∀ a : Nat, a < H.size → ¬ A a → H1[a]? = H[a]?) → U.WarmedH V.vm → z A U H → z B V H1
/-- what holds all the time: the tables, and what statics hold outside A -/
def kK (D : va_G) (cl : List vw_C) (tys : List (ClassId × FieldType)) (z : kZ_T) (A : Nat → Prop) (U : State) (H : Heap) : Prop := va_K D cl tys U ∧ z A U H ∧ kZs z
def fw_Q (D : va_G) (cl : List vw_C) (w0 : fw_W) (sz mc : Nat) (Q : Option Value → fw_W → Prop) : Array Value → State → Outcome → State → Prop := fun _ st oc t =>
  (∃ (v : Option Value) (w' : fw_W), oc = .returned v ∧ Q v w' ∧ (∀ a, fw_in w' a → fw_A w0 sz a) ∧ fw_P D cl w' t.heap) ∧ t.heap.size = sz + mc ∧ va_F (fw_A w0 sz) st t
/-- a method's contract: from the world w on a heap of sz cells it returns, with a world and an answer that Q has; mc cells of ms slots are new; no cell that isn't w's has changed -/
def fw_C (l : Launch) (y : MethodName) (ws : List Cond) (rm : Room) (D : va_G) (cl : List vw_C) (tys : List (ClassId × FieldType)) (z : kZ_T) (av : List Value) (sz : Nat) (w : fw_W) (mc ms : Nat) (Q : Option Value → fw_W → Prop) : Prop :=
  Met l y ws rm (va_Pc av (fun U => U.heap.size = sz ∧ fw_P D cl w U.heap ∧ kK D cl tys z (fw_A w sz) U U.heap)) (fw_Q D cl w sz mc Q) mc ms (fw_A w sz)
theorem kK.call {D : va_G} {cl : List vw_C} {tys : List (ClassId × FieldType)} {z : kZ_T} {A : Nat → Prop} {s U : State} {w : fw_W} {n : Nat} {H : Heap} {locs : List Loc} (h : kK D cl tys z A s s.heap) (hw : fw_H D cl A s.heap w n H locs) (hU : U.heap = H) (hW : s.WarmedH U.vm) : kK D cl tys z (fw_A w n) U U.heap := by
  have hsub : ∀ q, fw_A w n q → A q := by
    intro q hq
    rcases hq with hq | hq
    · exact hw.2.1 q hq
    · exact hw.2.2.1 q (by have := hw.2.2.2.2.1; have := hw.2.2.2.1; omega)
  refine ⟨va_K.moved hW.alike h.1, ?_, h.2.2⟩
  rw [hU]
  exact h.2.2 A (fw_A w n) s U s.heap H hsub hw.2.2.2.2.2.1 hW h.2.1
theorem fw_blind {av : List Value} {D : va_G} {cl : List vw_C} {tys : List (ClassId × FieldType)} {z : kZ_T} {sz : Nat} {w : fw_W} : FrameBlind (va_Pc av (fun U => U.heap.size = sz ∧ fw_P D cl w U.heap ∧ kK D cl tys z (fw_A w sz) U U.heap)) := by
  intro a U g mk q
  obtain ⟨q0, q1, qP, qK, qZ, qs⟩ := q
  exact ⟨q0, q1, qP, va_K.moved (u := U) (U := U.calling g mk a) (Vm.Alike.refl U.vm) qK, qs _ _ U (U.calling g mk a) _ _ (fun _ h => h) (fun _ _ _ => rfl) (State.WarmedH.refl U) qZ, qs⟩
section FWC
variable {p : Program} {l : Launch} {e : Env} {R : Room} {s : State} {m : MethodId} {args : Array Value} {below : List Frame} {meth : Method} {c : Code} {H : Heap} {locs : List Loc} {cells slots : Nat} {Q : State → Prop}
variable {cc : ByteArray} {pc : Nat} {ls : Array Slot} {rest : List Value} {D : va_G} {cl : List vw_C} {A : Nat → Prop} {tys : List (ClassId × FieldType)} {z : kZ_T} {w w0 : fw_W} {n0 sz mc ms : Nat}
/-- a method's start -/
theorem fw_ofW {y : MethodName} {ws ws' : List Cond} {rm : Room} {av : List Value} {Qc : Option Value → fw_W → Prop} {maxL : Nat} {ret : Option FieldType} (hy : plainName y.cls = true) (hw : ws = Cond.code y cc maxL ret :: ws') (hlen : (lg_sl av).length ≤ maxL)
    (body : ∀ (p : Program) (e : Env) (s : State) (m : MethodId) (args : Array Value) (below : List Frame) (meth : Method) (c : Code), p.tables.exec = Jvm.exec → c.code = cc → meth.sig.returnType = ret → (∀ w ∈ ws, w.before args s = true) → s.vm.findClass y.cls = some m.cls → meth.locks = false → meth.name = y.name → c.maxLocals = maxL →
      kK D cl tys z (fw_A w sz) s s.heap → ∀ (H : Heap) (ls : Array Slot), fw_H D cl (fw_A w sz) s.heap w sz H [] → lv_has ls maxL (lv_args 0 av) →
      W p l e rm s m args below meth c H [] 0 0 (MQ below (fw_Q D cl w sz mc Qc) args s mc ms (fw_A w sz)) (F0 m 0 ls [])) :
    fw_C l y ws rm D cl tys z av sz w mc ms Qc := by
  refine Met.ofW (cc := cc) (maxL := maxL) (ret := ret) hy hw ?_
  intro p e s m args below meth c s₁ B hml hv
  obtain ⟨rfl, hsz, hP, hK⟩ := hv
  have hl := lv_entry av (n := maxL) hlen
  rw [lg_entry_eq]
  exact body p e s m _ below meth c B.exec B.bytes B.returns (atoms_spec (ws := ws) B.pre) (findClass_of_methodNamed B.named) B.notSynchronized (name_of_methodNamed B.named B.method).1 hml hK s.heap _
    ⟨hP, fun a h => Or.inl h, fun q h => Or.inr (by rw [← hsz]; exact h), hsz, va_S.rf⟩ hl
theorem fw_end {Qc : Option Value → fw_W → Prop} {v : Option Value} (hw : fw_H D cl (fw_A w0 sz) s.heap w (sz + mc) H locs) (hq : Qc v w) : ∀ t : State, t.heap = H → s.WarmedH t.vm → fw_Q D cl w0 sz mc Qc args s (.returned v) t := by
  intro t ht _
  refine ⟨⟨v, w, rfl, hq, hw.2.1, by rw [ht]; exact hw.1⟩, by rw [ht]; exact hw.2.2.2.1, hw.2.2.2.2.F ht⟩
theorem fw_iret {Qc : Option Value → fw_W → Prop} {v : Int32} (hx : p.tables.exec = Jvm.exec) (hb : c.code = cc) (hr : meth.sig.returnType = some .int) (hlocks : meth.locks = false) (hw : fw_H D cl (fw_A w0 sz) s.heap w (sz + mc) H locs) (hdg : decode cc pc = .ok (.ireturn, 1)) (hq : Qc (some (.int v)) w) :
    W p l e R s m args below meth c H locs mc ms (MQ below (fw_Q D cl w0 sz mc Qc) args s mc ms (fw_A w0 sz)) (F0 m pc ls [.int v]) :=
  W.iret hx hb hr (fw_end hw hq) hw.2.2.2.2.2.2 hdg hlocks
theorem fw_zret {Qc : Option Value → fw_W → Prop} {v : Int32} (hx : p.tables.exec = Jvm.exec) (hb : c.code = cc) (hr : meth.sig.returnType = some .boolean) (hlocks : meth.locks = false) (hw : fw_H D cl (fw_A w0 sz) s.heap w (sz + mc) H locs) (hdg : decode cc pc = .ok (.ireturn, 1)) (hn : narrow .boolean (.int v) = .int v) (hq : Qc (some (.int v)) w) :
    W p l e R s m args below meth c H locs mc ms (MQ below (fw_Q D cl w0 sz mc Qc) args s mc ms (fw_A w0 sz)) (F0 m pc ls [.int v]) :=
  W.zret hx hb hr hn (fw_end hw hq) hw.2.2.2.2.2.2 hdg hlocks
theorem fw_lret {Qc : Option Value → fw_W → Prop} {v : Int64} (hx : p.tables.exec = Jvm.exec) (hb : c.code = cc) (hr : meth.sig.returnType = some .long) (hlocks : meth.locks = false) (hw : fw_H D cl (fw_A w0 sz) s.heap w (sz + mc) H locs) (hdg : decode cc pc = .ok (.lreturn, 1)) (hq : Qc (some (.long v)) w) :
    W p l e R s m args below meth c H locs mc ms (MQ below (fw_Q D cl w0 sz mc Qc) args s mc ms (fw_A w0 sz)) (F0 m pc ls [.long v]) :=
  W.lret hx hb hr (fw_end hw hq) hw.2.2.2.2.2.2 hdg hlocks
theorem fw_vret {Qc : Option Value → fw_W → Prop} (hx : p.tables.exec = Jvm.exec) (hb : c.code = cc) (hr : meth.sig.returnType = none) (hlocks : meth.locks = false) (hw : fw_H D cl (fw_A w0 sz) s.heap w (sz + mc) H locs) (hdg : decode cc pc = .ok (.return_, 1)) (hq : Qc none w) :
    W p l e R s m args below meth c H locs mc ms (MQ below (fw_Q D cl w0 sz mc Qc) args s mc ms (fw_A w0 sz)) (F0 m pc ls []) :=
  W.vret hx hb hr (fw_end hw hq) hw.2.2.2.2.2.2 hdg hlocks
theorem fw_aret {Qc : Option Value → fw_W → Prop} {v : Nat} {C : String} (hx : p.tables.exec = Jvm.exec) (hb : c.code = cc) (hr : meth.sig.returnType = some (.object C)) (hlocks : meth.locks = false) (hw : fw_H D cl (fw_A w0 sz) s.heap w (sz + mc) H locs) (hdg : decode cc pc = .ok (.areturn, 1)) (hq : Qc (some (.ref v)) w) :
    W p l e R s m args below meth c H locs mc ms (MQ below (fw_Q D cl w0 sz mc Qc) args s mc ms (fw_A w0 sz)) (F0 m pc ls [.ref v]) :=
  W.aret hx hb hr (Or.inl ⟨_, rfl⟩) (Or.inr ⟨_, rfl⟩) (fw_end hw hq) hw.2.2.2.2.2.2 hdg hlocks
/-- behind a call -/
theorem fw_call {Qc : Option Value → fw_W → Prop} {st0 : List Value} {a : Array Value} (hr : va_Run p l e R s m args below meth c H locs cells slots mc ms (F0 m pc ls st0) rest (fw_Q D cl w n0 mc Qc a) (fw_A w n0)) (hw : fw_H D cl A s.heap w n0 H locs)
    (kk : ∀ (v : Option Value) (w' : fw_W) (H1 : Heap) (locs1 : List Loc), Qc v w' → fw_H D cl A s.heap w' (n0 + mc) H1 locs1 → W p l e R s m args below meth c H1 locs1 (cells + mc) (slots + ms) Q (F0 m (pc + 3) ls (v.toList ++ rest))) : W p l e R s m args below meth c H locs cells slots Q (F0 m pc ls st0) := by
  have hS := hw.2.2.2.2
  have hn := hw.2.2.2.1
  have hsub : ∀ q, fw_A w n0 q → A q := by
    intro q hq
    rcases hq with hq | hq
    · exact hw.2.1 q hq
    · exact hw.2.2.1 q (by have := hS.1; omega)
  intro T hT X
  obtain ⟨v, st₀, t, T', L, h0, X', hL, e1, e2, ⟨⟨v', w', hv, hq, hi, hP⟩, hz, hF1, hF2⟩, st⟩ := hr T hT X
  cases hv
  rw [h0] at hF1 hF2
  obtain ⟨t2, a1, b1⟩ := kk v w' T'.heap (locs ++ L) hq ⟨by rw [e1]; exact hP, fun a h => hsub a (hi a h), hw.2.2.1, by rw [e1]; exact hz, Nat.le_trans hS.1 (by rw [e1]; exact hF1), fun q h1 h2 => by rw [e1, hF2 q (Nat.lt_of_lt_of_le h1 hS.1) (fun z => h2 (hsub q z))]; exact hS.2.1 q h1 h2, fun q hq => by
      rcases List.mem_append.mp hq with h | h
      · exact hS.2.2 q h
      · exact hsub _ (hL q h)⟩ T' rfl X'
  exact ⟨t2, st t2 a1, b1⟩
variable {y : MethodName} {bytes : ByteArray} {maxL nL n index : Nat} {ret : Option FieldType} {ws Ts : List Cond} {rm : Room} {own C : String} {b ci N : Nat} {fs : List Value} {T : u_T} {As st0 : List Value} {Qc : Option Value → fw_W → Prop}
theorem fw_recv (hK : kK D cl tys z A s s.heap) (hw : fw_H D cl A s.heap w n0 H locs) (hbb : w b = some (.inr (ci, fs))) (hc : cl[ci]? = some (C, T, N)) : PreV s H C b (va_Pc (.ref b :: As) (fun U => U.heap.size = n0 ∧ fw_P D cl w U.heap ∧ kK D cl tys z (fw_A w n0) U U.heap)) As :=
  ⟨fw_blind, va_recv (q0 := 0) hK.1 (fw_one hw.1 hbb) hc rfl, fun U hU hW => ⟨rfl, by rw [hU]; exact hw.2.2.2.1, by rw [hU]; exact hw.1, hK.call hw hU hW⟩⟩
theorem fw_preS (hK : kK D cl tys z A s s.heap) (hw : fw_H D cl A s.heap w n0 H locs) : PreS s H (va_Pc As (fun U => U.heap.size = n0 ∧ fw_P D cl w U.heap ∧ kK D cl tys z (fw_A w n0) U U.heap)) As :=
  ⟨fw_blind, fun U hU hW => ⟨rfl, by rw [hU]; exact hw.2.2.2.1, by rw [hU]; exact hw.1, hK.call hw hU hW⟩⟩
/-- a call of an object's method -/
theorem fw_cV (S : CallFix p m c cc nL s args Ts own) (hM : fw_C l y ws rm D cl tys z (.ref b :: As) n0 w mc ms Qc) (cw : CallW R s args own C index y bytes maxL ret ws rm mc ms n) (hK : kK D cl tys z A s s.heap) (hw : fw_H D cl A s.heap w n0 H locs) (hbb : w b = some (.inr (ci, fs))) (hc : cl[ci]? = some (C, T, N))
    (hn : As.length = n) (hsize : ls.size = nL) (hst : st0 = As.reverse ++ .ref b :: rest) (hroom : (rest.map fun v => v.category).sum ≤ 8) (hdg : decode cc pc = .ok (.invokevirtual index, 3)) (hf : cells + mc ≤ R.cells ∧ slots + ms ≤ R.slots)
    (kk : ∀ (v : Option Value) (w' : fw_W) (H1 : Heap) (locs1 : List Loc), Qc v w' → fw_H D cl A s.heap w' (n0 + mc) H1 locs1 → W p l e R s m args below meth c H1 locs1 (cells + mc) (slots + ms) Q (F0 m (pc + 3) ls (v.toList ++ rest))) : W p l e R s m args below meth c H locs cells slots Q (F0 m pc ls st0) :=
  fw_call (va_runV S hM cw (fw_recv hK hw hbb hc) rfl hn hsize hst (lv_room hroom) hdg hf) hw kk
theorem fw_cS (S : CallFix p m c cc nL s args Ts own) (hM : fw_C l y ws rm D cl tys z As n0 w mc ms Qc) (cw : CallB R s args own index y bytes maxL ret ws rm mc ms n ∧ (Cond.static y).before args s = true) (hK : kK D cl tys z A s s.heap) (hw : fw_H D cl A s.heap w n0 H locs)
    (hn : As.length = n) (hsize : ls.size = nL) (hst : st0 = As.reverse ++ rest) (hroom : (rest.map fun v => v.category).sum ≤ 8) (hdg : decode cc pc = .ok (.invokestatic index, 3)) (hf : cells + mc ≤ R.cells ∧ slots + ms ≤ R.slots)
    (kk : ∀ (v : Option Value) (w' : fw_W) (H1 : Heap) (locs1 : List Loc), Qc v w' → fw_H D cl A s.heap w' (n0 + mc) H1 locs1 → W p l e R s m args below meth c H1 locs1 (cells + mc) (slots + ms) Q (F0 m (pc + 3) ls (v.toList ++ rest))) : W p l e R s m args below meth c H locs cells slots Q (F0 m pc ls st0) :=
  fw_call (va_runS S hM cw (fw_preS hK hw) rfl hn hsize hst (lv_room hroom) hdg hf) hw kk
theorem fw_cI (S : CallFix p m c cc nL s args Ts own) (hM : fw_C l y ws rm D cl tys z (.ref b :: As) n0 w mc ms Qc) (cw : CallB R s args own index y bytes maxL none ws rm mc ms n ∧ y.name = "<init>" ∧ (Cond.instanceMethod y).before args s = true) (hK : kK D cl tys z A s s.heap) (hw : fw_H D cl A s.heap w n0 H locs)
    (hn : As.length = n) (hsize : ls.size = nL) (hst : st0 = As.reverse ++ .ref b :: rest) (hroom : (rest.map fun v => v.category).sum ≤ 8) (hdg : decode cc pc = .ok (.invokespecial index, 3)) (hf : cells + mc ≤ R.cells ∧ slots + ms ≤ R.slots)
    (kk : ∀ (v : Option Value) (w' : fw_W) (H1 : Heap) (locs1 : List Loc), Qc v w' → fw_H D cl A s.heap w' (n0 + mc) H1 locs1 → W p l e R s m args below meth c H1 locs1 (cells + mc) (slots + ms) Q (F0 m (pc + 3) ls (v.toList ++ rest))) : W p l e R s m args below meth c H locs cells slots Q (F0 m pc ls st0) :=
  fw_call (va_runI S hM cw (fw_preS hK hw) rfl hn hsize hst (lv_room hroom) hdg hf) hw kk
end FWC
