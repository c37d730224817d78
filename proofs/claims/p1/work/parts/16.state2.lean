/-! Changes of the class's state, group by group. -/
/-- a token: kind and value as the document says -/
def tk (k v : Int32) : Bool := if k < 0 then false else if k ≤ nI 13 then (if k = 0 then !decide (v < 0) else if k = nI 1 then !decide (v < 0) && !decide (nI 8 ≤ v) else decide (v = 0)) else false
section BCS
variable {cI cL cQ : ClassId} {w w' : fw_W} {b : Nat} {I I' : Nat → Nat} {J J' : Nat → Nat → Nat} {V V' G G' : Nat → Nat}
/-- tokens have changed -/
theorem bcS.g1 (h : bcS cI cL cQ w b I J V G) (h1 : w' (b + 1) = some (.inr (6, [.ref (b + 2), .ref (b + 3), .int (nI (I' 0))]))) (h2 : w' (b + 2) = some (.inl (cI, 120, .inl (fun i => nI (J' 0 i))))) (h3 : w' (b + 3) = some (.inl (cI, 120, .inl (fun i => nI (J' 1 i))))) (hk : ∀ q, q ≠ b + 1 → q ≠ b + 2 → q ≠ b + 3 → w' q = w q) (hI : ∀ i, 0 < i → I' i = I i) (hJ : ∀ i, 1 < i → J' i = J i) : bcS cI cL cQ w' b I' J' V G := by
  obtain ⟨⟨b0, b1, b2, b3⟩, ⟨c0, c1, c2, c3, c4, c5⟩, ⟨m0, m1, m2, m3, m4, m5⟩, hR, hV, hN, hD⟩ := h
  have k : ∀ q, b + 4 ≤ q → w' q = w q := fun q hq => hk q (by omega) (by omega) (by omega)
  rw [← hI 1 (by decide)] at c1
  rw [← hI 2 (by decide), ← hI 3 (by decide)] at c0
  rw [← hJ 2 (by decide)] at c2
  rw [← hJ 3 (by decide)] at c3
  rw [← hJ 4 (by decide)] at c4
  rw [← hJ 5 (by decide)] at c5
  rw [← hI 4 (by decide), ← hI 5 (by decide), ← hI 6 (by decide), ← hI 7 (by decide)] at m0
  exact ⟨⟨(hk b (by omega) (by omega) (by omega)).trans b0, h1, h2, h3⟩, ⟨(k _ (by omega)).trans c0, (k _ (by omega)).trans c1, (k _ (by omega)).trans c2, (k _ (by omega)).trans c3, (k _ (by omega)).trans c4, (k _ (by omega)).trans c5⟩, ⟨(k _ (by omega)).trans m0, (k _ (by omega)).trans m1, (k _ (by omega)).trans m2, (k _ (by omega)).trans m3, (k _ (by omega)).trans m4, (k _ (by omega)).trans m5⟩,
    fun i hi => ⟨(k _ (by omega)).trans (hR i hi).1, (hR i hi).2.kept (fun a h1 h2 => k a (by omega))⟩, fun i hi => ⟨(k _ (by omega)).trans (hV i hi).1, (hV i hi).2.kept (fun a h1 h2 => k a (by omega))⟩, fun i hi => (hN i hi).kept (fun a h1 h2 => k a (by omega)), hD.kept (fun a h1 h2 => k a (by omega))⟩
/-- the machine's ints have changed -/
theorem bcS.g3 (h : bcS cI cL cQ w b I J V G) (h1 : w' (b + 10) = some (.inr (4, [.ref (b + 11), .ref (b + 42), .int (nI (I' 4)), .int (nI (I' 5)), .int (nI (I' 6)), .int (nI (I' 7)), .ref (b + 67)]))) (hk : ∀ q, q ≠ b + 10 → w' q = w q) (hI : ∀ i, i < 4 → I' i = I i) : bcS cI cL cQ w' b I' J V G := by
  obtain ⟨⟨b0, b1, b2, b3⟩, ⟨c0, c1, c2, c3, c4, c5⟩, ⟨m0, m1, m2, m3, m4, m5⟩, hR, hV, hN, hD⟩ := h
  rw [← hI 0 (by decide)] at b1
  rw [← hI 1 (by decide)] at c1
  rw [← hI 2 (by decide), ← hI 3 (by decide)] at c0
  exact ⟨⟨(hk _ (by omega)).trans b0, (hk _ (by omega)).trans b1, (hk _ (by omega)).trans b2, (hk _ (by omega)).trans b3⟩, ⟨(hk _ (by omega)).trans c0, (hk _ (by omega)).trans c1, (hk _ (by omega)).trans c2, (hk _ (by omega)).trans c3, (hk _ (by omega)).trans c4, (hk _ (by omega)).trans c5⟩, ⟨h1, (hk _ (by omega)).trans m1, (hk _ (by omega)).trans m2, (hk _ (by omega)).trans m3, (hk _ (by omega)).trans m4, (hk _ (by omega)).trans m5⟩,
    fun i hi => ⟨(hk _ (by omega)).trans (hR i hi).1, (hR i hi).2.kept (fun a h1 h2 => hk a (by omega))⟩, fun i hi => ⟨(hk _ (by omega)).trans (hV i hi).1, (hV i hi).2.kept (fun a h1 h2 => hk a (by omega))⟩, fun i hi => (hN i hi).kept (fun a h1 h2 => hk a (by omega)), hD.kept (fun a h1 h2 => hk a (by omega))⟩
/-- the variable j has changed -/
theorem bcS.var (h : bcS cI cL cQ w b I J V G) {j x g : Nat} (hj : j < 8) (h1 : w' (b + 43 + 3 * j) = some (.inr (8, [.ref (b + 43 + 3 * j + 1), .int (nI g)]))) (h2 : isV cL w' (b + 43 + 3 * j + 1) x) (hk : ∀ q, q < b + 43 + 3 * j ∨ b + 43 + 3 * j + 3 ≤ q → w' q = w q) : bcS cI cL cQ w' b I J (va_up V (10 + j) x) (va_up G (10 + j) g) := by
  obtain ⟨⟨b0, b1, b2, b3⟩, ⟨c0, c1, c2, c3, c4, c5⟩, ⟨m0, m1, m2, m3, m4, m5⟩, hR, hV, hN, hD⟩ := h
  have un : ∀ (F : Nat → Nat) (i y : Nat), i ≠ 10 + j → va_up F (10 + j) y i = F i := fun F i y hi => if_neg hi
  refine ⟨⟨(hk _ (by omega)).trans b0, (hk _ (by omega)).trans b1, (hk _ (by omega)).trans b2, (hk _ (by omega)).trans b3⟩, ⟨(hk _ (by omega)).trans c0, (hk _ (by omega)).trans c1, (hk _ (by omega)).trans c2, (hk _ (by omega)).trans c3, (hk _ (by omega)).trans c4, (hk _ (by omega)).trans c5⟩, ⟨(hk _ (by omega)).trans m0, (hk _ (by omega)).trans m1, (hk _ (by omega)).trans m2, (hk _ (by omega)).trans m3, (hk _ (by omega)).trans m4, (hk _ (by omega)).trans m5⟩,
    fun i hi => ?_, fun i hi => ?_, fun i hi => ?_, ?_⟩
  · rw [un G i g (by omega), un V i x (by omega)]
    exact ⟨(hk _ (by omega)).trans (hR i hi).1, (hR i hi).2.kept (fun a h1 h2 => hk a (by omega))⟩
  · by_cases hij : i = j
    · subst hij
      rw [show va_up G (10 + i) g (10 + i) = g from if_pos rfl, show va_up V (10 + i) x (10 + i) = x from if_pos rfl]
      exact ⟨h1, h2⟩
    · rw [un G _ g (by omega), un V _ x (by omega)]
      exact ⟨(hk _ (by omega)).trans (hV i hi).1, (hV i hi).2.kept (fun a h1 h2 => hk a (by omega))⟩
  · rw [un V _ x (by omega)]
    exact (hN i hi).kept (fun a h1 h2 => hk a (by omega))
  · rw [un V 25 x (by omega)]
    exact hD.kept (fun a h1 h2 => hk a (by omega))
end BCS
