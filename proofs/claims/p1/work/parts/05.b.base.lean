/-! Rows with small indices, calls by the one list of words, numbers. -/
abbrev kty (cI cL cQ : ClassId) : List (ClassId × FieldType) := [(cI, .int), (cL, .long), (cQ, .object "BigCalculator$Whole")]
theorem kw_all {w : Cond} (h : w ∈ kWs) : w ∈ kWs ∧ ((w.onTables && w.keeps) = true ∨ ∃ ty, w = .arrayClass ty) := kw_good w h
theorem kw_V {own C : String} {idx maxL : Nat} {y : MethodName} {bytes : ByteArray} {ret : Option FieldType} (h1 : Cond.methodLink own idx y ∈ kWs) (h2 : Cond.instanceMethod y ∈ kWs) (h3 : Cond.selects C y y ∈ kWs) (h4 : Cond.initialized C ∈ kWs) (h5 : Cond.code y bytes maxL ret ∈ kWs) : GoodIn kWs (wsV own idx C y (Cond.code y bytes maxL ret :: kWs)) := by
  intro w hw
  refine kw_all ?_
  simp only [wsV, List.mem_append, List.mem_cons, List.not_mem_nil, or_false] at hw
  rcases hw with (rfl | rfl | rfl | rfl) | (rfl | h) <;> assumption
theorem kw_S {own : String} {idx maxL : Nat} {y : MethodName} {bytes : ByteArray} {ret : Option FieldType} (h1 : Cond.methodLink own idx y ∈ kWs) (h2 : Cond.static y ∈ kWs) (h3 : Cond.initialized y.cls ∈ kWs) (h5 : Cond.code y bytes maxL ret ∈ kWs) : GoodIn kWs (va_wsS own idx y (Cond.code y bytes maxL ret :: kWs)) := by
  intro w hw
  refine kw_all ?_
  simp only [va_wsS, List.mem_append, List.mem_cons, List.not_mem_nil, or_false] at hw
  rcases hw with (rfl | rfl | rfl) | (rfl | h) <;> assumption
theorem kw_I {maxL : Nat} {y : MethodName} {bytes : ByteArray} {ret : Option FieldType} (h5 : Cond.code y bytes maxL ret ∈ kWs) : GoodIn kWs (Cond.code y bytes maxL ret :: kWs) := by
  intro w hw
  refine kw_all ?_
  rcases List.mem_cons.mp hw with rfl | h
  · exact h5
  · exact h
section FWN
variable {p : Program} {l : Launch} {e : Env} {R : Room} {s : State} {m : MethodId} {args : Array Value} {below : List Frame} {meth : Method} {c : Code} {H : Heap} {locs : List Loc} {cells slots : Nat} {Q : State → Prop}
variable {cc : ByteArray} {pc : Nat} {ls : Array Slot} {rest : List Value} {D : va_G} {cl : List vw_C} {A : Nat → Prop} {a : Nat} {tys : List (ClassId × FieldType)} {w : fw_W} {H0 : Heap} {nH : Nat}
theorem fw_laldN (hexec : p.tables.exec = Jvm.exec) (hb : c.code = cc) (hK : va_K D cl tys s) (hw : fw_H D cl A H0 w nH H locs) (t0 : Nat) {cA : ClassId} {n : Nat} {f : Nat → Int64} (ha : w a = some (.inl (cA, n, .inr (.inl f)))) (ht : tys[t0]? = some (cA, .long)) (j : Nat) (hj : j < n) (hn : n < 2 ^ 31) {x : Int64} (hx : f j = x) (hdg : decode cc pc = .ok (.laload, 1))
    (kk : W p l e R s m args below meth c H locs cells slots Q (F0 m (pc + 1) ls (.long x :: rest))) : W p l e R s m args below meth c H locs cells slots Q (F0 m pc ls (.int (nI j) :: .ref a :: rest)) := by
  refine fw_lald hexec hb hK hw t0 ha ht (vp_in_nI hj hn) hdg ?_
  rw [nI_clamp (Nat.lt_trans hj hn), hx]
  exact kk
theorem fw_lastN (hexec : p.tables.exec = Jvm.exec) (hb : c.code = cc) (hK : va_K D cl tys s) (hw : fw_H D cl A H0 w nH H locs) (t0 : Nat) {cA : ClassId} {n : Nat} {f f2 : Nat → Int64} (ha : w a = some (.inl (cA, n, .inr (.inl f)))) (ht : tys[t0]? = some (cA, .long)) (j : Nat) (hj : j < n) (hn : n < 2 ^ 31) {x : Int64} (hf : va_up f j x = f2) (hdg : decode cc pc = .ok (.lastore, 1))
    (kk : ∀ (H1 : Heap) (locs1 : List Loc), fw_H D cl A H0 (fw_up w a (.inl (cA, n, .inr (.inl f2)))) nH H1 locs1 → W p l e R s m args below meth c H1 locs1 cells slots Q (F0 m (pc + 1) ls rest)) : W p l e R s m args below meth c H locs cells slots Q (F0 m pc ls (.long x :: .int (nI j) :: .ref a :: rest)) := by
  refine fw_last hexec hb hK hw t0 ha ht (vp_in_nI hj hn) hdg (fun H1 locs1 h => ?_)
  rw [nI_clamp (Nat.lt_trans hj hn), hf] at h
  exact kk H1 locs1 h
theorem fw_ialdN (hexec : p.tables.exec = Jvm.exec) (hb : c.code = cc) (hK : va_K D cl tys s) (hw : fw_H D cl A H0 w nH H locs) (t0 : Nat) {cA : ClassId} {n : Nat} {f : Nat → Int32} (ha : w a = some (.inl (cA, n, .inl f))) (ht : tys[t0]? = some (cA, .int)) (j : Nat) (hj : j < n) (hn : n < 2 ^ 31) {x : Int32} (hx : f j = x) (hdg : decode cc pc = .ok (.iaload, 1))
    (kk : W p l e R s m args below meth c H locs cells slots Q (F0 m (pc + 1) ls (.int x :: rest))) : W p l e R s m args below meth c H locs cells slots Q (F0 m pc ls (.int (nI j) :: .ref a :: rest)) := by
  refine fw_iald hexec hb hK hw t0 ha ht (vp_in_nI hj hn) hdg ?_
  rw [nI_clamp (Nat.lt_trans hj hn), hx]
  exact kk
theorem fw_iastN (hexec : p.tables.exec = Jvm.exec) (hb : c.code = cc) (hK : va_K D cl tys s) (hw : fw_H D cl A H0 w nH H locs) (t0 : Nat) {cA : ClassId} {n : Nat} {f f2 : Nat → Int32} (ha : w a = some (.inl (cA, n, .inl f))) (ht : tys[t0]? = some (cA, .int)) (j : Nat) (hj : j < n) (hn : n < 2 ^ 31) {x : Int32} (hf : va_up f j x = f2) (hdg : decode cc pc = .ok (.iastore, 1))
    (kk : ∀ (H1 : Heap) (locs1 : List Loc), fw_H D cl A H0 (fw_up w a (.inl (cA, n, .inl f2))) nH H1 locs1 → W p l e R s m args below meth c H1 locs1 cells slots Q (F0 m (pc + 1) ls rest)) : W p l e R s m args below meth c H locs cells slots Q (F0 m pc ls (.int x :: .int (nI j) :: .ref a :: rest)) := by
  refine fw_iast hexec hb hK hw t0 ha ht (vp_in_nI hj hn) hdg (fun H1 locs1 h => ?_)
  rw [nI_clamp (Nat.lt_trans hj hn), hf] at h
  exact kk H1 locs1 h
end FWN
theorem lN_up (g : Nat → Nat) (k x : Nat) : va_up (fun i => lN (g i)) k (lN x) = fun i => lN (va_up g k x i) := by
  funext i
  by_cases h : i = k
  · subst h; simp [va_up]
  · simp [va_up, h]
theorem nI_up (g : Nat → Nat) (k x : Nat) : va_up (fun i => nI (g i)) k (nI x) = fun i => nI (va_up g k x i) := by
  funext i
  by_cases h : i = k
  · subst h; simp [va_up]
  · simp [va_up, h]
/-- a Natural at n: its limbs g, of which k count -/
def isN (cL : ClassId) (w : fw_W) (n : Nat) (g : Nat → Nat) (k : Nat) : Prop := w n = some (.inr (5, [.ref (n + 1), .int (nI k)])) ∧ w (n + 1) = some (.inl (cL, 50, .inr (.inl (fun i => lN (g i)))))
theorem lN_zero {n : Nat} (h : n < 2 ^ 64) (h0 : lN n = 0) : n = 0 := by
  have h1 := wb_tn h
  rw [h0] at h1
  exact h1.symm
abbrev nB : Nat := 4294967296
/-- a Natural at n with the value v, its limbs in order -/
def isV (cL : ClassId) (w : fw_W) (n v : Nat) : Prop := ∃ (g : Nat → Nat) (k : Nat), isN cL w n g k ∧ k ≤ 50 ∧ (∀ i, i < 50 → g i < 2 ^ 64) ∧ nk nB g k ∧ nv nB g k = v
theorem bl_lt {x : Nat} {g : Nat → Nat} (hx : x < 2 ^ 64) (hg : ∀ i, i < 50 → g i < 2 ^ 64) : ∀ i, i < 50 → va_up (va_up g 0 (x % 4294967296)) 1 (x / 4294967296) i < 2 ^ 64 := by
  intro i hi
  unfold va_up
  split
  · omega
  · split
    · omega
    · exact hg i hi
theorem bl_0 (g : Nat → Nat) (a b : Nat) : va_up (va_up g 0 a) 1 b 0 = a := rfl
theorem bl_1 (g : Nat → Nat) (a b : Nat) : va_up (va_up g 0 a) 1 b 1 = b := rfl
theorem bl_ok {x j : Nat} {g : Nat → Nat} (hx : x < 2 ^ 64) (hj : j ≤ 2) (hnz : 0 < j → va_up (va_up g 0 (x % 4294967296)) 1 (x / 4294967296) (j - 1) ≠ 0) : nk nB (va_up (va_up g 0 (x % 4294967296)) 1 (x / 4294967296)) j := by
  refine ⟨fun i hi => ?_, hnz⟩
  rcases (show i = 0 ∨ i = 1 by omega) with rfl | rfl
  · rw [bl_0]; show _ < 4294967296; omega
  · rw [bl_1]; show _ < 4294967296; omega
theorem bl_val {x j : Nat} {g : Nat → Nat} (hx : x < 2 ^ 64) (hj : j ≤ 2) (hz : ∀ i, j ≤ i → i < 2 → va_up (va_up g 0 (x % 4294967296)) 1 (x / 4294967296) i = 0) : nv nB (va_up (va_up g 0 (x % 4294967296)) 1 (x / 4294967296)) j = x := by
  rw [← nv_cut hj hz, nv_s, nv_s, nv_0, bl_0, bl_1]
  show 0 + x % 4294967296 * 1 + x / 4294967296 * (4294967296 ^ 1) = x
  omega
section FWQ
variable {p : Program} {l : Launch} {e : Env} {R : Room} {s : State} {m : MethodId} {args : Array Value} {below : List Frame} {meth : Method} {c : Code} {H : Heap} {locs : List Loc} {cells slots : Nat} {Q : State → Prop}
variable {cc : ByteArray} {pc : Nat} {ls : Array Slot} {rest : List Value} {D : va_G} {cl : List vw_C} {A : Nat → Prop} {a : Nat} {tys : List (ClassId × FieldType)} {w : fw_W} {H0 : Heap} {nH : Nat}
theorem fw_anew (hexec : p.tables.exec = Jvm.exec) (hb : c.code = cc) {own C : String} {index h : Nat} (hown : s.vm.findClass own = some m.cls) (hclink : (Cond.classLink own index C).before args s = true) (hover : va_AO C s) (hK : va_K D cl tys s) (hw : fw_H D cl A H0 w h H locs) {cA : ClassId} (t0 : Nat) (ht : tys[t0]? = some (cA, .object C))
    {n : Int32} {N' : Nat} (hn : ¬ n < 0) (hN : n.toNatClampNeg = N') (hbytes : N' * 4 ≤ 536870912) (hcells : cells + 1 ≤ R.cells) (hslots : slots + N' ≤ R.slots) (hdg : decode cc pc = .ok (.anewarray index, 3))
    (kk : ∀ (H1 : Heap), fw_H D cl A H0 (fw_up w h (.inl (cA, N', .inr (.inr (.inr (.inr (fun _ => none))))))) (h + 1) H1 locs →
      W p l e R s m args below meth c H1 locs (cells + 1) (slots + N') Q (F0 m (pc + 3) ls (.ref h :: rest))) : W p l e R s m args below meth c H locs cells slots Q (F0 m pc ls (.int n :: rest)) := by
  subst hN
  have hz := hw.2.2.2.1
  refine W.anew hexec hb hown hclink (va_AO.use hover) rfl hdg rfl hn hbytes hcells hslots fun cB kA comp f1 f2 f3 f4 => ?_
  obtain ⟨kA', comp', -, -, -, g4⟩ := (hK.2 t0 _ ht).2
  have hcc : cB = cA := Option.some.inj (f1.symm.trans g4)
  subst hcc
  generalize hH1 : H.push ({ cls := cB, slots := Array.replicate n.toNatClampNeg .null, vm := .none } : Cell) = H1
  have z1 : H1.size = h + 1 := by rw [← hH1, Array.size_push, hz]
  have e1 : H1[h]? = some (arrV cB n.toNatClampNeg (fun _ => .null)) := by rw [← hH1, ← hz, Array.getElem?_push_size, ← arrV_new]
  have o1 : ∀ q : Nat, q < h → H1[q]? = H[q]? := fun q hq => by rw [← hH1, Array.getElem?_push, if_neg (by omega)]
  have := kk H1 (hw.grow (show H1[h]? = some (vp_cell _ _) by rw [vp_cell_q]; exact e1) z1 o1)
  rw [← hz] at this
  exact this
theorem fw_aastN (hexec : p.tables.exec = Jvm.exec) (hb : c.code = cc) (hK : va_K D cl tys s) (hw : fw_H D cl A H0 w nH H locs) (t0 : Nat) {ci v : Nat} {cA : ClassId} {r : vw_C} {n : Nat} {vs : List Value} {f f2 : Nat → Option Nat} (ha : w a = some (.inl (cA, n, .inr (.inr (.inr (.inr f)))))) (ht : tys[t0]? = some (cA, .object r.1)) (hv : w v = some (.inr (ci, vs))) (hc : cl[ci]? = some r) (j : Nat) (hj : j < n) (hn : n < 2 ^ 31) (hf : va_up f j (some v) = f2) (hdg : decode cc pc = .ok (.aastore, 1))
    (kk : ∀ (H1 : Heap) (locs1 : List Loc), fw_H D cl A H0 (fw_up w a (.inl (cA, n, .inr (.inr (.inr (.inr f2)))))) nH H1 locs1 → W p l e R s m args below meth c H1 locs1 cells slots Q (F0 m (pc + 1) ls rest)) : W p l e R s m args below meth c H locs cells slots Q (F0 m pc ls (.ref v :: .int (nI j) :: .ref a :: rest)) := by
  subst hf
  have hin := vp_in_nI hj hn
  have hcl9 : (nI j).toNatClampNeg = j := nI_clamp (Nat.lt_trans hj hn)
  have h0 : ¬ nI j < 0 := fun q => hin (Or.inl q)
  obtain ⟨r', hr', cellV, g1, g2, g3, -⟩ := hw.1 v _ hv
  have hcls := (hK.1 ci r hc).2
  obtain ⟨kA, comp, k1, k2, k3, -⟩ := (hK.2 t0 _ ht).2
  have hcomp : comp = D.1 ci := Option.some.inj (k3.symm.trans hcls.1)
  subst hcomp
  obtain ⟨kC, hkC, -⟩ := hcls.2
  refine W.aast hexec hb (hw.1 a _ ha) (fun q h => by cases h) (fun h => by cases h) k1 k2 rfl hkC ⟨h0, by show _ < (arrV _ _ _).slots.size; rw [arrV_size, hcl9]; exact hj⟩ g1 (fun q h => by rw [g3] at h; cases h) (by rw [g2]; exact hkC) (by rw [g2]; exact va_assign hcls) rfl rfl hdg fun H1 e z oq => ?_
  refine kk H1 _ (hw.set ha ?_ z oq)
  show H1[a]? = some (vp_cell _ _)
  rw [e, hcl9]
  rw [vp_cell_q, vp_cell_q, arrV_store]
  congr 2
  funext q
  by_cases hq : q = j
  · subst hq
    simp [updV, va_up, va_rf]
  · simp [updV, va_up, hq]
theorem fw_aaldN (hexec : p.tables.exec = Jvm.exec) (hb : c.code = cc) (hK : va_K D cl tys s) (hw : fw_H D cl A H0 w nH H locs) (t0 : Nat) {cA : ClassId} {C : String} {n : Nat} {f : Nat → Option Nat} (ha : w a = some (.inl (cA, n, .inr (.inr (.inr (.inr f)))))) (ht : tys[t0]? = some (cA, .object C)) (j : Nat) (hj : j < n) (hn : n < 2 ^ 31) {x : Nat} (hf : f j = some x) (hdg : decode cc pc = .ok (.aaload, 1))
    (kk : W p l e R s m args below meth c H locs cells slots Q (F0 m (pc + 1) ls (.ref x :: rest))) : W p l e R s m args below meth c H locs cells slots Q (F0 m pc ls (.int (nI j) :: .ref a :: rest)) := by
  refine fw_aald hexec hb hK hw t0 ha ht (vp_in_nI hj hn) hdg ?_
  rw [nI_clamp (Nat.lt_trans hj hn), hf]
  exact kk
end FWQ
/-- a Whole at q: its Natural lies behind it -/
def isW (cL : ClassId) (w : fw_W) (q : Nat) (g : Nat → Nat) (k sg : Nat) : Prop := w q = some (.inr (8, [.ref (q + 1), .int (nI sg)])) ∧ isN cL w (q + 1) g k
theorem isN.kept {cL : ClassId} {w w' : fw_W} {n k : Nat} {g : Nat → Nat} (h : isN cL w n g k) (hk : ∀ a, n ≤ a → a < n + 2 → w' a = w a) : isN cL w' n g k := ⟨(hk n (by omega) (by omega)).trans h.1, (hk (n + 1) (by omega) (by omega)).trans h.2⟩
theorem isW.kept {cL : ClassId} {w w' : fw_W} {q k sg : Nat} {g : Nat → Nat} (h : isW cL w q g k sg) (hk : ∀ a, q ≤ a → a < q + 3 → w' a = w a) : isW cL w' q g k sg := ⟨(hk q (by omega) (by omega)).trans h.1, h.2.kept (fun a h1 h2 => hk a (by omega) (by omega))⟩
theorem isV.kept {cL : ClassId} {w w' : fw_W} {n v : Nat} (h : isV cL w n v) (hk : ∀ a, n ≤ a → a < n + 2 → w' a = w a) : isV cL w' n v := by
  obtain ⟨g, k, h1, h2⟩ := h
  exact ⟨g, k, h1.kept hk, h2⟩
/-- the Arithmetic made anew at n -/
def arI (cL : ClassId) (w : fw_W) (n : Nat) : Prop := w n = some (.inr (0, [.ref (n + 1), .ref (n + 8), .ref (n + 10), .ref (n + 12), .ref (n + 14)])) ∧ w (n + 1) = some (.inr (3, [.ref (n + 2), .ref (n + 4), .ref (n + 6)])) ∧ isV cL w (n + 8) 1 ∧ isN cL w (n + 2) (fun _ => 0) 0 ∧ isN cL w (n + 4) (fun _ => 0) 0 ∧ isN cL w (n + 6) (fun _ => 0) 0 ∧ isN cL w (n + 10) (fun _ => 0) 0 ∧ isN cL w (n + 12) (fun _ => 0) 0 ∧ isN cL w (n + 14) (fun _ => 0) 0
theorem arI.kept {cL : ClassId} {w w' : fw_W} {n : Nat} (h : arI cL w n) (hk : ∀ a, n ≤ a → a < n + 16 → w' a = w a) : arI cL w' n := by
  obtain ⟨h0, h1, h2, h3, h4, h5, h6, h7, h8⟩ := h
  exact ⟨(hk _ (by omega) (by omega)).trans h0, (hk _ (by omega) (by omega)).trans h1, h2.kept (fun a x y => hk a (by omega) (by omega)), h3.kept (fun a x y => hk a (by omega) (by omega)), h4.kept (fun a x y => hk a (by omega) (by omega)), h5.kept (fun a x y => hk a (by omega) (by omega)), h6.kept (fun a x y => hk a (by omega) (by omega)), h7.kept (fun a x y => hk a (by omega) (by omega)), h8.kept (fun a x y => hk a (by omega) (by omega))⟩
theorem fam_up (n i : Nat) : va_up (fun j => if j < i then some (n + 3 * j) else none) i (some (n + 3 * i)) = fun j => if j < i + 1 then some (n + 3 * j) else none := by
  funext j
  unfold va_up
  by_cases h : j = i
  · subst h; rw [if_pos rfl, if_pos (by omega)]
  · rw [if_neg h]
    show (if j < i then some (n + 3 * j) else none) = _
    by_cases h2 : j < i
    · rw [if_pos h2, if_pos (by omega)]
    · rw [if_neg h2, if_neg (by omega)]
theorem fam_0 (n : Nat) : (fun _ : Nat => (none : Option Nat)) = fun j => if j < 0 then some (n + 3 * j) else none := by
  funext j
  rw [if_neg (by omega)]
/-- ten or eight Wholes in a row from n on, each 0 -/
def isW0s (cL : ClassId) (w : fw_W) (n i : Nat) : Prop := ∀ j, j < i → isW cL w (n + 3 * j) (fun _ => 0) 0 0
theorem isW0s.kept {cL : ClassId} {w w' : fw_W} {n i : Nat} (h : isW0s cL w n i) (hk : ∀ a, n ≤ a → a < n + 3 * i → w' a = w a) : isW0s cL w' n i := fun j hj => (h j hj).kept (fun a h1 h2 => hk a (by omega) (by omega))
theorem isW0s.more {cL : ClassId} {w : fw_W} {n i : Nat} (h : isW0s cL w n i) (hi : isW cL w (n + 3 * i) (fun _ => 0) 0 0) : isW0s cL w n (i + 1) := fun j hj => by
  rcases Nat.lt_or_ge j i with h1 | h1
  · exact h j h1
  · rw [show j = i by omega]; exact hi
theorem isW0s.none {cL : ClassId} {w : fw_W} {n : Nat} : isW0s cL w n 0 := fun j hj => absurd hj (Nat.not_lt_zero j)
