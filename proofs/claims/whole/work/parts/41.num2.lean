/-! Longs below 2^63 in order; the order of two naturals. -/
theorem lN_leN {a b : Nat} (ha : a < 2 ^ 63) (hb : b < 2 ^ 63) : lN a ≤ lN b ↔ a ≤ b := by
  rw [Int64.le_iff_toInt_le, lN_ti (by omega), lN_ti (by omega), if_pos ha, if_pos hb]
  omega
theorem lN_inj {a b : Nat} (ha : a < 2 ^ 64) (hb : b < 2 ^ 64) (h : lN a = lN b) : a = b := by
  have h1 := wb_tn ha
  rw [h, wb_tn hb] at h1
  exact h1.symm
def ordI (x y : Nat) : Int32 := if x < y then -1 else if x = y then nI 0 else nI 1
theorem ordI_lt {x y : Nat} (h : x < y) : ordI x y = -1 := if_pos h
theorem ordI_gt {x y : Nat} (h : y < x) : ordI x y = nI 1 := (if_neg (by omega)).trans (if_neg (by omega))
theorem ordI_eq {x y : Nat} (h : x = y) : ordI x y = nI 0 := (if_neg (by omega)).trans (if_pos h)
theorem nk_eq {b : Nat} {g h : Nat → Nat} {n : Nat} (e : ∀ i, i < n → h i = g i) (hk : nk b g n) : nk b h n :=
  ⟨fun i hi => by rw [e i hi]; exact hk.1 i hi, fun h0 => by rw [e _ (by omega)]; exact hk.2 h0⟩
theorem lN_if (g h : Nat → Nat) (k : Nat) : (fun i => if i < k then lN (g i) else lN (h i)) = fun i => lN ((fun i => if i < k then g i else h i) i) := by
  funext i
  dsimp only
  by_cases hi : i < k
  · rw [if_pos hi, if_pos hi]
  · rw [if_neg hi, if_neg hi]
