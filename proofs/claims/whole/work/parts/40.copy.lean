/-! System.arraycopy of the first k longs of a row into another, in worlds that are functions. -/
theorem cp_0 (f g : Nat → Int64) {k : Nat} (hk : k < 2 ^ 31) : va_cpy f g (nI 0).toNatClampNeg (nI 0).toNatClampNeg (nI k).toNatClampNeg = fun i => if i < k then f i else g i := by
  funext i
  rw [nI_clamp hk, nI_clamp (by decide)]
  unfold va_cpy
  by_cases h : i < k
  · rw [if_pos ⟨Nat.zero_le _, by omega⟩, if_pos h, Nat.zero_add, Nat.sub_zero]
  · rw [if_neg (fun h2 => h (by omega)), if_neg h]
theorem fw_H.setL {D : va_G} {cl : List vw_C} {A : Nat → Prop} {H0 H H1 : Heap} {w : fw_W} {n : Nat} {locs L : List Loc} {a : Nat} {e0 e : va_E} (h : fw_H D cl A H0 w n H locs) (ha : w a = some e0) (he : va_at D cl (a, e) H1) (z : H1.size = H.size) (oq : ∀ q : Nat, q ≠ a → H1[q]? = H[q]?) (hL : ∀ l ∈ L, l.base = a) : fw_H D cl A H0 (fw_up w a e) n H1 (locs ++ L) := by
  obtain ⟨g1, g2, g3, g4, g5, g6, -⟩ := h.set (k := 0) ha he z oq
  refine ⟨g1, g2, g3, g4, g5, g6, fun l hl => ?_⟩
  rcases List.mem_append.mp hl with h1 | h1
  · exact h.2.2.2.2.2.2 l h1
  · rw [hL l h1]; exact h.2.1 a ⟨_, ha⟩
section FCP
variable {p : Program} {l : Launch} {e : Env} {R : Room} {s : State} {m : MethodId} {args : Array Value} {below : List Frame} {meth : Method} {c : Code} {H : Heap} {locs : List Loc} {cells slots : Nat} {Q : State → Prop}
variable {cc : ByteArray} {pc : Nat} {ls : Array Slot} {rest : List Value} {D : va_G} {cl : List vw_C} {A : Nat → Prop} {a a0 : Nat} {tys : List (ClassId × FieldType)} {w : fw_W} {H0 : Heap} {nH : Nat}
theorem fw_copyl (hexec : p.tables.exec = Jvm.exec) (hb : c.code = cc) (hml : c.maxLocals = ls.size) {own : String} {index : Nat} (hown : s.vm.findClass own = some m.cls) (hlink : (Cond.methodLink own index arraycopyName).before args s = true) (hnat : (Cond.native arraycopyName).before args s = true) (hstat : (Cond.static arraycopyName).before args s = true) (hini : (Cond.initialized "java/lang/System").before args s = true)
    (hK : va_K D cl tys s) (hw : fw_H D cl A H0 w nH H locs) (t0 : Nat) {cA : ClassId} {n0 n1 k : Nat} {f g : Nat → Int64} (ha0 : w a0 = some (.inl (cA, n0, .inr (.inl f)))) (ha1 : w a = some (.inl (cA, n1, .inr (.inl g)))) (ht : tys[t0]? = some (cA, .long)) (hk0 : k ≤ n0) (hk1 : k ≤ n1) (hk : k < 2 ^ 31)
    (hframes : 1 ≤ R.frames) (hlocals : (rest.map fun v => v.category).sum + (nativeFrameWords "java/lang/System" "arraycopy" 5 + 11) ≤ R.locals) (hdg : decode cc pc = .ok (.invokestatic index, 3))
    (kk : ∀ (H1 : Heap) (locs1 : List Loc), fw_H D cl A H0 (fw_up w a (.inl (cA, n1, .inr (.inl (fun i => if i < k then f i else g i))))) nH H1 locs1 → W p l e R s m args below meth c H1 locs1 cells slots Q (F0 m (pc + 3) ls rest)) : W p l e R s m args below meth c H locs cells slots Q (F0 m pc ls (.int (nI k) :: .int (nI 0) :: .ref a :: .int (nI 0) :: .ref a0 :: rest)) := by
  have hc0 : H[a0]? = some (vp_cell cA (n0, .inr (.inl f))) := hw.1 a0 _ ha0
  have hc1 : H[a]? = some (vp_cell cA (n1, .inr (.inl g))) := hw.1 a _ ha1
  have z0 : (nI 0).toInt = 0 := by decide
  have zk : (nI k).toInt = (k : Int) := nI_toInt hk
  have ck : (nI k).toNatClampNeg = k := nI_clamp hk
  have c00 : (nI 0).toNatClampNeg = 0 := by decide
  intro T hT X
  obtain ⟨-, k0, q0, cm0, hkk0⟩ := (hK.2 t0 _ ht).1 n0 (fun j => .long (f j))
  obtain ⟨-, k1, q1, cm1, hkk1⟩ := (hK.2 t0 _ ht).1 n1 (fun j => .long (g j))
  obtain ⟨vm', X', step⟩ := X.arraycopy hexec hown hlink hnat hstat hini (src := a0) (dst := a) (cs := vp_cell cA (n0, .inr (.inl f))) (cd := vp_cell cA (n1, .inr (.inl g))) (srcPos := nI 0) (destPos := nI 0) (n := nI k) (by rw [hT]; exact hc0) (by rw [hT]; exact hc1)
    (fun _ h => by cases h) (fun _ h => by cases h) (fun h => by cases h) (fun h => by cases h) q0 q1 hkk0 hkk1 (by simp [refKind]) (by decide) (by decide) (nI_pos hk)
    (by rw [z0, zk]; show ¬ _ > ((arrV cA n0 (fun j => .long (f j))).slots.size : Int); rw [arrV_size]; omega)
    (by rw [z0, zk]; show ¬ _ > ((arrV cA n1 (fun j => .long (g j))).slots.size : Int); rw [arrV_size]; omega)
    (fun vm₁ _ i hi => by
      have e : (vp_cell cA (n0, .inr (.inl f))).slots.getD ((nI 0).toNatClampNeg + i) .null = .long (f ((nI 0).toNatClampNeg + i)) := by
        show (arrV cA n0 (fun j => .long (f j))).slots.getD _ _ = _
        rw [Array.getD_eq_getD_getElem?, arrV_read _ _ (by rw [ck] at hi; rw [c00]; omega)]
        rfl
      refine ⟨?_, ?_⟩
      · rw [e]; rfl
      · rw [e]; exact trivial)
    (g := F0 m pc ls (.int (nI k) :: .int (nI 0) :: .ref a :: .int (nI 0) :: .ref a0 :: rest)) rfl (by rw [hml]) (rest := rest) rfl (by rw [hb]; exact hdg) hframes (by show 2 * 0 + _ + _ ≤ _; omega)
  have e1 : copied (vp_cell cA (n0, .inr (.inl f))) (vp_cell cA (n1, .inr (.inl g))) (nI 0) (nI 0) (nI k) = vp_cell cA (n1, .inr (.inl (fun i => if i < k then f i else g i))) := by
    rw [← cp_0 f g hk]
    exact va_copied (fun z => .long z) cA cA f g (by rw [c00, ck]; omega)
  rw [e1] at X' step
  have hl : a < H.size := (Array.getElem?_eq_some_iff.mp hc1).1
  have hheap : ((T.setVm vm').setCell a (vp_cell cA (n1, .inr (.inl (fun i => if i < k then f i else g i))))).heap = H.setIfInBounds a (vp_cell cA (n1, .inr (.inl (fun i => if i < k then f i else g i)))) := by rw [← hT]; rfl
  obtain ⟨t, a1, b1⟩ := kk _ _ (hw.setL ha1 (show (H.setIfInBounds a _)[a]? = some _ by simp [Array.getElem?_setIfInBounds, hl]) (by simp) (fun q hq => by simp [Array.getElem?_setIfInBounds, Ne.symm hq]) (fun q h => by
    obtain ⟨z, -, hz⟩ := List.mem_map.mp h
    rw [← hz])) _ hheap X'
  exact ⟨t, step t a1, b1⟩
end FCP
