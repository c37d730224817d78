/-! Longs with their sign, and small numbers. -/
theorem lN_le0 {y : Nat} (h : y < 2 ^ 64) : lN 0 ≤ lN y ↔ y < 2 ^ 63 := by
  rw [Int64.le_iff_toInt_le, lN_ti h, lN_ti (by decide)]
  split <;> constructor <;> intro h1 <;> simp_all <;> omega
theorem lN_neg {y : Nat} (h : y ≤ 2 ^ 64) : -(lN y) = lN (2 ^ 64 - y) := by
  apply wb_inj
  rw [Int64.toBitVec_neg, wb_tb, wb_tb]
  apply BitVec.eq_of_toNat_eq
  rw [BitVec.toNat_neg, BitVec.toNat_ofNat, BitVec.toNat_ofNat]
  omega
/-- sign and magnitude of the long whose bits are y -/
def lsg (y : Nat) : Nat := if y < 2 ^ 63 then 0 else 1
def lmg (y : Nat) : Nat := if y < 2 ^ 63 then y else 2 ^ 64 - y
theorem nI_to0 {x : Int32} {n : Nat} (hn : n < 2 ^ 31) (h : ¬ x < 0) (h2 : ¬ nI n < x) : ∃ j, j ≤ n ∧ x = nI j := by
  obtain ⟨j, hj, rfl⟩ := nI_of h
  exact ⟨j, Classical.byContradiction fun h3 => h2 (nI_lt (by omega) hj), rfl⟩
theorem lN_le00 {y : Nat} (h : y < 2 ^ 63) (h2 : lN y ≤ lN 0) : y = 0 := by
  rw [Int64.le_iff_toInt_le, lN_ti (by omega), lN_ti (by decide), if_pos h] at h2
  simp at h2
  omega
