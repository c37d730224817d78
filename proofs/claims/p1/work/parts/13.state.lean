/-! The state of the class, and of the reference, as predicates of a world. -/
theorem isV0 {cL : ClassId} {w : fw_W} {n : Nat} (h : isN cL w n (fun _ => 0) 0) : isV cL w n 0 := ⟨_, 0, h, by decide, fun _ _ => by show 0 < _; decide, ⟨fun i hi => absurd hi (Nat.not_lt_zero i), fun hi => absurd hi (Nat.lt_irrefl 0)⟩, rfl⟩
/-- the class's state at b. I: 0 tokens.size, 1 code.size, 2 depth, 3 expected, 4 next, 5 used, 6 most, 7 failure; J: kinds, values, operations, operands, waiting, commasDue; V: values of registers 0-9, variables 10-17, 18 quotient, 19 rest, 20 divisor, 21 one, 22 outcome, 23 product, 24 base, 25 left; G: signs of registers and variables -/
def bcS (cI cL cQ : ClassId) (w : fw_W) (b : Nat) (I : Nat → Nat) (J : Nat → Nat → Nat) (V G : Nat → Nat) : Prop :=
  (w b = some (.inr (9, [.ref (b + 1), .ref (b + 4), .ref (b + 10), .ref (b + 83)])) ∧ w (b + 1) = some (.inr (6, [.ref (b + 2), .ref (b + 3), .int (nI (I 0))])) ∧ w (b + 2) = some (.inl (cI, 120, .inl (fun i => nI (J 0 i)))) ∧ w (b + 3) = some (.inl (cI, 120, .inl (fun i => nI (J 1 i))))) ∧
  (w (b + 4) = some (.inr (7, [.ref (b + 5), .ref (b + 8), .ref (b + 9), .int (nI (I 2)), .int (nI (I 3))])) ∧ w (b + 5) = some (.inr (1, [.ref (b + 6), .ref (b + 7), .int (nI (I 1))])) ∧ w (b + 6) = some (.inl (cI, 120, .inl (fun i => nI (J 2 i)))) ∧ w (b + 7) = some (.inl (cI, 120, .inl (fun i => nI (J 3 i)))) ∧ w (b + 8) = some (.inl (cI, 120, .inl (fun i => nI (J 4 i)))) ∧ w (b + 9) = some (.inl (cI, 120, .inl (fun i => nI (J 5 i))))) ∧
  (w (b + 10) = some (.inr (4, [.ref (b + 11), .ref (b + 42), .int (nI (I 4)), .int (nI (I 5)), .int (nI (I 6)), .int (nI (I 7)), .ref (b + 67)])) ∧ w (b + 11) = some (.inl (cQ, 10, .inr (.inr (.inr (.inr (fun j => if j < 10 then some (b + 12 + 3 * j) else none)))))) ∧ w (b + 42) = some (.inl (cQ, 8, .inr (.inr (.inr (.inr (fun j => if j < 8 then some (b + 43 + 3 * j) else none)))))) ∧ w (b + 67) = some (.inr (0, [.ref (b + 68), .ref (b + 75), .ref (b + 77), .ref (b + 79), .ref (b + 81)])) ∧ w (b + 68) = some (.inr (3, [.ref (b + 69), .ref (b + 71), .ref (b + 73)])) ∧ w (b + 83) = some (.inr (2, [.ref (b + 84)]))) ∧
  (∀ i, i < 10 → w (b + 12 + 3 * i) = some (.inr (8, [.ref (b + 12 + 3 * i + 1), .int (nI (G i))])) ∧ isV cL w (b + 12 + 3 * i + 1) (V i)) ∧
  (∀ i, i < 8 → w (b + 43 + 3 * i) = some (.inr (8, [.ref (b + 43 + 3 * i + 1), .int (nI (G (10 + i)))])) ∧ isV cL w (b + 43 + 3 * i + 1) (V (10 + i))) ∧
  (∀ i, i < 7 → isV cL w (b + 69 + 2 * i) (V (18 + i))) ∧ isV cL w (b + 84) (V 25)
/-- the state of a new object -/
def bcV0 : Nat → Nat := fun i => if i = 21 then 1 else 0
/-- the reference's state at b. I: ints by the field's number; K: kinds, values, orders, numbers, pile, commas; S: signs; C: cells -/
def moF (b : Nat) (I : Nat → Nat) : List Value := [.int (nI (I 0)), .ref (b + 1), .ref (b + 2), .int (nI (I 3)), .ref (b + 3), .ref (b + 4), .int (nI (I 6)), .int (nI (I 7)), .ref (b + 5), .ref (b + 6), .int (nI (I 10)), .int (nI (I 11)), .int (nI (I 12)), .int (nI (I 13)), .ref (b + 7), .ref (b + 8), .int (nI (I 16)), .int (nI (I 17)), .int (nI (I 18)), .int (nI (I 19))]
def moS (cI cL : ClassId) (w : fw_W) (b : Nat) (I : Nat → Nat) (K : Nat → Nat → Nat) (S : Nat → Int32) (C : Nat → Nat) : Prop :=
  w b = some (.inr (10, moF b I)) ∧ w (b + 1) = some (.inl (cL, 1536, .inr (.inl (fun i => lN (C i))))) ∧ w (b + 2) = some (.inl (cI, 24, .inl S)) ∧ ∀ j, j < 6 → w (b + 3 + j) = some (.inl (cI, 120, .inl (fun i => nI (K j i))))
def moS0 : Nat → Int32 := fun i => if i = 23 then nI 1 else nI 0
def moC0 : Nat → Nat := fun i => if i = 1472 then 1 else 0
theorem moC0_up : va_up (fun _ => lN 0) 1472 (lN 1) = fun i => lN (moC0 i) := by
  funext i
  unfold va_up moC0
  split <;> rfl
theorem moS0_up : va_up (fun _ => nI 0) 23 (nI 1) = moS0 := by
  funext i
  unfold va_up moS0
  split <;> rfl
