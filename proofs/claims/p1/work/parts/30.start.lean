/-! At the law's entry: all that holds all the time. -/
section STA
variable {s : State} {args : Array Value} {A : Nat → Prop}
theorem k_cls (hW : ∀ w ∈ kWs, w.before args s = true) : ∀ ci : Nat, ∃ (cC : ClassId) (iS : Nat → Nat), ∀ q, kCl[ci]? = some q → u_Kn s q.1 q.2.1 q.2.2 cC iS := by
  have one : ∀ {q0 : vw_C}, (∃ (cC : ClassId) (iS : Nat → Nat), u_Kn s q0.1 q0.2.1 q0.2.2 cC iS) → ∃ (cC : ClassId) (iS : Nat → Nat), ∀ q, some q0 = some q → u_Kn s q.1 q.2.1 q.2.2 cC iS := by
    intro q0 h
    obtain ⟨cC, iS, h⟩ := h
    exact ⟨cC, iS, fun q hq => by cases hq; exact h⟩
  intro ci
  match ci with
  | 0 => exact one (q0 := (RAr, TAr, 5)) (u_known hW in_Ar (hW _ ins_Ar))
  | 1 => exact one (q0 := (RCo, TCo, 3)) (u_known hW in_Co (hW _ ins_Co))
  | 2 => exact one (q0 := (RDe, TDe, 1)) (u_known hW in_De (hW _ ins_De))
  | 3 => exact one (q0 := (RDi, TDi, 3)) (u_known hW in_Di (hW _ ins_Di))
  | 4 => exact one (q0 := (RMa, TMa, 7)) (u_known hW in_Ma (hW _ ins_Ma))
  | 5 => exact one (q0 := (RNa, TNa, 2)) (u_known hW in_Na (hW _ ins_Na))
  | 6 => exact one (q0 := (RTo, TTo, 3)) (u_known hW in_To (hW _ ins_To))
  | 7 => exact one (q0 := (RTr, TTr, 5)) (u_known hW in_Tr (hW _ ins_Tr))
  | 8 => exact one (q0 := (RWh, TWh, 2)) (u_known hW in_Wh (hW _ ins_Wh))
  | 9 => exact one (q0 := (RBc, TBc, 4)) (u_known hW in_Bc (hW _ ins_Bc))
  | 10 => exact one (q0 := (RMo, TMo, 20)) (u_known hW in_Mo (hW _ ins_Mo))
  | n + 11 => exact ⟨0, fun _ => 0, fun q hq => by cases hq⟩
theorem k_arr {ty : FieldType} (h : (Cond.arrayClass ty).before args s = true) : ∃ cA : ClassId, ArrOfT s cA ty ∧ s.vm.findClass ("[" ++ ty.toString) = some cA := by
  obtain ⟨cA, kA, comp, h1, h2, h3⟩ := Cond.arrayClass_spec h
  exact ⟨cA, fun n z => ⟨fun k h => (by cases h), kA, h2, comp, h3⟩, h1⟩
theorem k_arrO {C : String} (h : (Cond.arrayOver (.object C)).before args s = true) : ∃ cA : ClassId, ArrOfT s cA (.object C) ∧ va_RA s cA (.object C) := by
  obtain ⟨comp, cA, kA, h1, h2, h3, h4, h5⟩ := Cond.arrayOver_spec h
  exact ⟨cA, fun n z => ⟨fun k h => (by cases h), kA, h3, comp, h4⟩, kA, comp, h3, h4, h1, h5⟩
theorem k_K (hts : ∀ w ∈ lw_tbl, w.before args s = true) : ∃ (D : va_G) (cI cL cQ : ClassId), va_K D kCl (kty cI cL cQ) s := by
  have hW : ∀ w ∈ kWs, w.before args s = true := fun w h => hts w (kw_in h)
  have H := k_cls hW
  obtain ⟨cI, i1, i2⟩ := k_arr (hW _ ac_int)
  obtain ⟨cL, l1, l2⟩ := k_arr (hW _ ac_long)
  obtain ⟨cQ, q1, q2⟩ := k_arrO (C := "BigCalculator$Whole") (hts _ (by decide +kernel))
  refine ⟨(fun ci => (H ci).choose, fun ci => (H ci).choose_spec.choose), cI, cL, cQ, fun ci q hq => (H ci).choose_spec.choose_spec q hq, fun k q hk => ?_⟩
  match k with
  | 0 => cases hk; exact ⟨i1, i2⟩
  | 1 => cases hk; exact ⟨l1, l2⟩
  | 2 => cases hk; exact ⟨q1, q2⟩
  | n + 3 => cases hk
theorem k_St {n d : String} (h1 : (Cond.laysStatic Bundle.tN n d).before args s = true) (h2 : (Cond.isRef (.static Bundle.tN n d)).before args s = true) (hA : ∀ a : Nat, a < s.heap.size → ¬ A a) : kSt n d A s s.heap := by
  obtain ⟨c, k, i, f, a, cell, g1, g2, g3, g4, g5, g6, g7, g8, g9⟩ := Cond.laysStatic_spec h1
  have g10 : cell.slots[f.slot]? = some cell.slots[f.slot] := Array.getElem?_eq_getElem g8
  have hv : (Term.static Bundle.tN n d).eval args s none [] s = some cell.slots[f.slot] := by
    simp [Term.eval, State.fieldNamed?, g2, g3, g4, g5, g6, g10]
  refine ⟨c, k, i, f, a, cell, _, g1, g2, g3, g4, g5, g6, g7, g8, g9, g10, ?_, hA a (Array.getElem?_eq_some_iff.mp g5).1⟩
  simp [Cond.before, Cond.holds, Cond.value, hv] at h2
  generalize cell.slots[f.slot] = v at h2 ⊢
  cases v <;> simp_all [Value.isRef]
theorem k_Tb {n : String} {f : Nat → Nat} (h1 : (Cond.laysStatic "BigCalculator" n "[I").before args s = true) (h2 : (Cond.initialized "BigCalculator").before args s = true) (h3 : (Cond.arrayOf (.static "BigCalculator" n "[I") .int).before args s = true) (h4 : (Cond.eq (.length (.static "BigCalculator" n "[I")) (.int 15)).before args s = true)
    (h5 : ∀ j : Nat, j < 15 → (Cond.eq (.elem (.static "BigCalculator" n "[I") (.int (Int32.ofNat j))) (.int (nI (f j)))).before args s = true) (hA : ∀ a : Nat, a < s.heap.size → ¬ A a) : ∃ t : Nat, kTb n t f A s s.heap := by
  obtain ⟨t, ht, hT⟩ := va_Tof (N := 15) (f := fun j => .int (nI (f j))) (by decide) h3 (va_eqt h4) (fun j hj => va_eqt (h5 j hj)) hA
  exact ⟨t, va_Zof h1 h2 ht hA, hT⟩
theorem k_str {k : Nat} {tx : String} (h1 : (Cond.stringRef "BigCalculator" k tx).before args s = true) (h2 : (Cond.exactly (.string "BigCalculator" k) "java/lang/String").before args s = true) : ∃ a, vk_R "BigCalculator" k tx a s := by
  obtain ⟨a, c, cell, kk, q1, -⟩ := Cond.exactly_spec h2
  exact ⟨a, vk_R.of h1 q1⟩
set_option maxHeartbeats 4000000 in
set_option maxRecDepth 100000 in
theorem k_start (hts : ∀ w ∈ lw_tbl, w.before args s = true) (hg : (Jvm.Cond.and given_1 narrow_1).before args s = true) (hA : ∀ a : Nat, a < s.heap.size → ¬ A a) : ∃ (D : va_G) (cI cL cQ : ClassId) (tO tB tC : Nat) (sa : Nat → Nat), kK D kCl (kty cI cL cQ) (kz tO tB tC sa) A s s.heap := by
  have hs := flat_of_before _ hg
  obtain ⟨D, cI, cL, cQ, hK⟩ := k_K hts
  have hini : (Cond.initialized "BigCalculator").before args s = true := hts _ (kw_in ini_Bc)
  obtain ⟨tO, z1⟩ := k_Tb (n := "OPERANDS") (f := kOp) (hts _ (by decide +kernel)) hini (hs _ (by decide +kernel)) (hs _ (by decide +kernel)) (fun j hj => hs _ (by revert j; decide +kernel)) hA
  obtain ⟨tB, z2⟩ := k_Tb (n := "BINDING") (f := kBi) (hts _ (by decide +kernel)) hini (hs _ (by decide +kernel)) (hs _ (by decide +kernel)) (fun j hj => hs _ (by revert j; decide +kernel)) hA
  obtain ⟨tC, z3⟩ := k_Tb (n := "COMMAS") (f := kCm) (hts _ (by decide +kernel)) hini (hs _ (by decide +kernel)) (hs _ (by decide +kernel)) (fun j hj => hs _ (by revert j; decide +kernel)) hA
  obtain ⟨s0, y0⟩ := k_str (k := 43) (tx := "no such token") (hts _ (by decide +kernel)) (hs _ (by decide +kernel))
  obtain ⟨s1, y1⟩ := k_str (k := 95) (tx := "not 0 .. 10000 instructions") (hts _ (by decide +kernel)) (hs _ (by decide +kernel))
  obtain ⟨s2, y2⟩ := k_str (k := 110) (tx := "not limb 0 .. 23") (hts _ (by decide +kernel)) (hs _ (by decide +kernel))
  obtain ⟨s3, y3⟩ := k_str (k := 119) (tx := "a digit below 0") (hts _ (by decide +kernel)) (hs _ (by decide +kernel))
  obtain ⟨s4, y4⟩ := k_str (k := 153) (tx := "not variable 0 .. 7") (hts _ (by decide +kernel)) (hs _ (by decide +kernel))
  obtain ⟨s5, y5⟩ := k_str (k := 160) (tx := "no result") (hts _ (by decide +kernel)) (hs _ (by decide +kernel))
  obtain ⟨s6, y6⟩ := k_str (k := 163) (tx := "no code") (hts _ (by decide +kernel)) (hs _ (by decide +kernel))
  refine ⟨D, cI, cL, cQ, tO, tB, tC, fun i => [s0, s1, s2, s3, s4, s5, s6].getD i 0, hK, ⟨z1, z2, z3, ⟨va_Nw.of rfl (hts _ (by decide +kernel)), va_Nw.of rfl (hts _ (by decide +kernel)), va_Nw.of rfl (hts _ (by decide +kernel)), va_Nw.of rfl (hts _ (by decide +kernel))⟩, va_AO.of (hts _ (by decide +kernel)), ⟨fun w hw => ?_, k_St (hts _ (by decide +kernel)) (hs _ (by decide +kernel)) hA, k_St (hts _ (by decide +kernel)) (hs _ (by decide +kernel)) hA⟩, ⟨y0, y1, y2, y3, y4, y5, y6⟩, va_Nc.of (hs _ (by decide +kernel)), va_Nc.of (hs _ (by decide +kernel)), va_Nc.of (hs _ (by decide +kernel))⟩, kz_ok _ _ _ _⟩
  simp only [kTw, List.mem_cons, List.not_mem_nil, or_false] at hw
  rcases hw with rfl | rfl | rfl | rfl | rfl | rfl <;> exact va_Nw.of rfl (hts _ (by decide +kernel))
end STA
