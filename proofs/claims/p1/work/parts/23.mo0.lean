/-! The reference's state: changes. -/
theorem nI_mul (a b : Nat) : nI a * nI b = nI (a * b) := (Int32.ofNat_mul a b).symm
theorem moS.int {cI cL : ClassId} {w w' : fw_W} {b : Nat} {I I' : Nat → Nat} {K : Nat → Nat → Nat} {S : Nat → Int32} {C : Nat → Nat} (h : moS cI cL w b I K S C) (h1 : w' b = some (.inr (10, moF b I'))) (hk : ∀ q, q ≠ b → w' q = w q) : moS cI cL w' b I' K S C :=
  ⟨h1, (hk _ (by omega)).trans h.2.1, (hk _ (by omega)).trans h.2.2.1, fun j hj => (hk _ (by omega)).trans (h.2.2.2 j hj)⟩
theorem tk_eq (k v : Int32) : tk k v = (if k = 0 then !decide (v < 0) else if k = nI 1 then !decide (v < 0) && !decide (nI 8 ≤ v) else !decide (k ≤ nI 1) && (!decide (nI 14 ≤ k) && decide (v = 0))) := by
  unfold tk
  by_cases h0 : k = 0
  · subst h0
    rw [if_neg (by decide), if_pos (by decide), if_pos rfl, if_pos rfl]
  · by_cases h1 : k = nI 1
    · subst h1
      rw [if_neg (by decide), if_pos (by decide), if_neg (by decide), if_pos rfl, if_neg (by decide), if_pos rfl]
    · rw [if_neg h0, if_neg h1, if_neg h0, if_neg h1]
      have t0 : k.toInt ≠ 0 := fun h => h0 (Int32.toInt_inj.mp (by rw [h]; rfl))
      have t1 : k.toInt ≠ 1 := fun h => h1 (Int32.toInt_inj.mp (by rw [h]; rfl))
      have a0 : (k < 0) ↔ k.toInt < 0 := Int32.lt_iff_toInt_lt
      have a1 : (k ≤ nI 13) ↔ k.toInt ≤ 13 := Int32.le_iff_toInt_le
      have a2 : (k ≤ nI 1) ↔ k.toInt ≤ 1 := Int32.le_iff_toInt_le
      have a3 : (nI 14 ≤ k) ↔ 14 ≤ k.toInt := Int32.le_iff_toInt_le
      by_cases c1 : k < 0
      · rw [if_pos c1, decide_eq_true (a2.mpr (by have := a0.mp c1; omega))]; rfl
      · rw [if_neg c1]
        have c1' : ¬ k.toInt < 0 := fun h => c1 (a0.mpr h)
        by_cases c2 : k ≤ nI 13
        · have c2' := a1.mp c2
          rw [if_pos c2, show decide (k ≤ nI 1) = false from decide_eq_false (fun h => by have := a2.mp h; omega), show decide (nI 14 ≤ k) = false from decide_eq_false (fun h => by have := a3.mp h; omega)]; rfl
        · have c2' : ¬ k.toInt ≤ 13 := fun h => c2 (a1.mpr h)
          rw [if_neg c2, show decide (k ≤ nI 1) = false from decide_eq_false (fun h => by have := a2.mp h; omega), show decide (nI 14 ≤ k) = true from decide_eq_true (a3.mpr (by omega))]; rfl
/-- the cells of the place p, the first k of them cleared -/
def clr (C : Nat → Nat) (p k : Nat) : Nat → Nat := fun i => if 64 * p ≤ i ∧ i < 64 * p + k then 0 else C i
theorem clr_0 (C : Nat → Nat) (p : Nat) : clr C p 0 = C := by
  funext i
  unfold clr
  rw [if_neg (by omega)]
theorem clr_up (C : Nat → Nat) (p k : Nat) : va_up (fun i => lN (clr C p k i)) (64 * p + k) (lN 0) = fun i => lN (clr C p (k + 1) i) := by
  funext i
  unfold va_up clr
  by_cases h : i = 64 * p + k
  · rw [if_pos h, if_pos (by omega)]
  · rw [if_neg h]
    dsimp only
    by_cases h2 : 64 * p ≤ i ∧ i < 64 * p + k
    · rw [if_pos h2, if_pos (by omega)]
    · rw [if_neg h2, if_neg (by omega)]
/-- the sign of the long whose bits are y, as the reference has it -/
def sgI (y : Nat) : Int32 := if y < 2 ^ 63 then (if y = 0 then nI 0 else nI 1) else -1
/-- the cells behind set: the variable j has the magnitude m -/
def setC (C : Nat → Nat) (j m : Nat) : Nat → Nat := va_up (va_up (va_up (clr C (10 + j) 64) (64 * (10 + j)) (m % 16777216)) (64 * (10 + j) + 1) (m / 16777216 % 16777216)) (64 * (10 + j) + 2) (m / 281474976710656)
theorem va_upup {α : Type} (f : Nat → α) (k : Nat) (x y : α) : va_up (va_up f k x) k y = va_up f k y := by
  funext i
  unfold va_up
  split <;> rfl
theorem lmg_lt {y : Nat} (h : y < 2 ^ 64) : lmg y < 2 ^ 64 := by
  unfold lmg
  split <;> omega
theorem moS.cs {cI cL : ClassId} {w w' : fw_W} {b : Nat} {I : Nat → Nat} {K : Nat → Nat → Nat} {S S' : Nat → Int32} {C C' : Nat → Nat} (h : moS cI cL w b I K S C) (h1 : w' (b + 1) = some (.inl (cL, 1536, .inr (.inl (fun i => lN (C' i)))))) (h2 : w' (b + 2) = some (.inl (cI, 24, .inl S'))) (hk : ∀ q, q ≠ b + 1 → q ≠ b + 2 → w' q = w q) : moS cI cL w' b I K S' C' :=
  ⟨(hk _ (by omega) (by omega)).trans h.1, h1, h2, fun j hj => (hk _ (by omega) (by omega)).trans (h.2.2.2 j hj)⟩
