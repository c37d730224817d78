/-! Numbers as rows of limbs: pure rows. -/
/-- the value of the first n limbs at the base b -/
def nv (b : Nat) (g : Nat → Nat) : Nat → Nat
  | 0 => 0
  | n + 1 => nv b g n + g n * b ^ n
theorem nv_0 (b : Nat) (g : Nat → Nat) : nv b g 0 = 0 := rfl
theorem nv_s (b : Nat) (g : Nat → Nat) (n : Nat) : nv b g (n + 1) = nv b g n + g n * b ^ n := rfl
theorem nv_eq {b : Nat} {g h : Nat → Nat} {n : Nat} (e : ∀ i, i < n → g i = h i) : nv b g n = nv b h n := by
  induction n with
  | zero => rfl
  | succ n ih => rw [nv_s, nv_s, ih (fun i hi => e i (by omega)), e n (by omega)]
theorem nv_up {b : Nat} {g : Nat → Nat} {n k x : Nat} (h : n ≤ k) : nv b (va_up g k x) n = nv b g n := nv_eq (fun i hi => by show (if i = k then x else g i) = g i; rw [if_neg (by omega)])
theorem nv_lt {b : Nat} {g : Nat → Nat} {n : Nat} (h : ∀ i, i < n → g i < b) : nv b g n < b ^ n := by
  induction n with
  | zero => rw [nv_0]; simp
  | succ n ih =>
    have h1 := ih (fun i hi => h i (by omega))
    have h2 : g n + 1 ≤ b := h n (by omega)
    have h3 : (g n + 1) * b ^ n ≤ b * b ^ n := Nat.mul_le_mul_right _ h2
    rw [nv_s, Nat.pow_succ, Nat.mul_comm (b ^ n) b]
    rw [Nat.add_mul, Nat.one_mul] at h3
    omega
theorem nv_z {b : Nat} {g : Nat → Nat} {n : Nat} (h : g n = 0) : nv b g (n + 1) = nv b g n := by rw [nv_s, h, Nat.zero_mul, Nat.add_zero]
/-- limbs that are 0 at the top don't count -/
theorem nv_cut {b : Nat} {g : Nat → Nat} {n m : Nat} (h : n ≤ m) (hz : ∀ i, n ≤ i → i < m → g i = 0) : nv b g m = nv b g n := by
  induction m with
  | zero => rw [show n = 0 by omega]
  | succ m ih =>
    by_cases hm : n = m + 1
    · rw [hm]
    · rw [nv_z (hz m (by omega) (by omega)), ih (by omega) (fun i h1 h2 => hz i h1 (by omega))]
theorem nv_zero {b : Nat} {g : Nat → Nat} {n : Nat} (h : ∀ i, i < n → g i = 0) : nv b g n = 0 := by
  have := nv_cut (b := b) (g := g) (n := 0) (m := n) (Nat.zero_le _) (fun i _ h2 => h i h2)
  rw [this, nv_0]
theorem nv_top {b : Nat} {g : Nat → Nat} {n : Nat} (h : g n ≠ 0) : b ^ n ≤ nv b g (n + 1) := by
  rw [nv_s]
  have : 1 * b ^ n ≤ g n * b ^ n := Nat.mul_le_mul_right _ (by omega)
  omega
/-- a row of limbs is in order: each below the base, the top one not 0 -/
def nk (b : Nat) (g : Nat → Nat) (n : Nat) : Prop := (∀ i, i < n → g i < b) ∧ (0 < n → g (n - 1) ≠ 0)
theorem nk_less {b : Nat} {g h : Nat → Nat} {n m : Nat} (hg : nk b g n) (hh : nk b h m) (hb : 0 < b) (hnm : n < m) : nv b g n < nv b h m := by
  obtain ⟨k, rfl⟩ : ∃ k, m = k + 1 := ⟨m - 1, by omega⟩
  have h1 := nv_lt hg.1
  have h2 : b ^ k ≤ nv b h (k + 1) := nv_top (by have := hh.2 (by omega); simpa using this)
  have h3 : b ^ n ≤ b ^ k := Nat.pow_le_pow_right hb (by omega)
  omega
/-- the highest limb that differs decides -/
theorem nv_less {b : Nat} {g h : Nat → Nat} {n k : Nat} (hg : ∀ i, i < n → g i < b) (hk : k < n) (hlt : g k < h k) (he : ∀ i, k < i → i < n → g i = h i) : nv b g n < nv b h n := by
  induction n with
  | zero => omega
  | succ n ih =>
    rw [nv_s, nv_s]
    by_cases hkn : k = n
    · subst hkn
      have h1 := nv_lt (b := b) (g := g) (n := k) (fun i hi => hg i (by omega))
      have h2 : (g k + 1) * b ^ k ≤ h k * b ^ k := Nat.mul_le_mul_right _ hlt
      rw [Nat.add_mul, Nat.one_mul] at h2
      omega
    · have := ih (fun i hi => hg i (by omega)) (by omega) (fun i h1 h2 => he i h1 (by omega))
      rw [he n (by omega) (by omega)]
      omega
theorem nv_more {b : Nat} {g : Nat → Nat} {n k x : Nat} (hk : n = k) : nv b (va_up g k x) (n + 1) = nv b g n + x * b ^ n := by
  subst hk
  rw [nv_s, nv_up (Nat.le_refl n)]
  show _ + (if n = n then x else g n) * _ = _
  rw [if_pos rfl]
/-- one limb more of a sum: what is below the base stays, the rest is carried -/
theorem nv_carry {b : Nat} {g : Nat → Nat} {n t r : Nat} (h : nv b g n + r = t) (x : Nat) : nv b (va_up g n (x % b)) (n + 1) + x / b * b ^ (n + 1) + r = t + x * b ^ n := by
  rw [nv_more rfl, Nat.pow_succ]
  have h1 : x % b * b ^ n + x / b * (b ^ n * b) = x * b ^ n := by
    have h2 : x / b * (b ^ n * b) = (b * (x / b)) * b ^ n := by
      rw [Nat.mul_comm (b ^ n) b, ← Nat.mul_assoc, Nat.mul_comm (x / b) b]
    rw [h2, ← Nat.add_mul, Nat.mod_add_div]
  omega
/-- limbs behind the size count as 0 -/
def nl (g : Nat → Nat) (n i : Nat) : Nat := if i < n then g i else 0
theorem nl_in {g : Nat → Nat} {n i : Nat} (h : i < n) : nl g n i = g i := if_pos h
theorem nl_out {g : Nat → Nat} {n i : Nat} (h : n ≤ i) : nl g n i = 0 := if_neg (by omega)
theorem nl_lt {g : Nat → Nat} {n i b : Nat} (hb : 0 < b) (h : ∀ i, i < n → g i < b) : nl g n i < b := by
  by_cases hi : i < n
  · rw [nl_in hi]; exact h i hi
  · rw [nl_out (by omega)]; exact hb
theorem nv_nl {b : Nat} {g : Nat → Nat} {n m : Nat} (h : n ≤ m) : nv b (nl g n) m = nv b g n := by
  rw [nv_cut h (fun i h1 _ => nl_out h1)]
  exact nv_eq (fun i hi => nl_in hi)
/-- the root: from above Newton's steps fall, not below it, and what is too much falls to its half -/
theorem rt_step {a x s : Nat} (hs : s * s ≤ a) (ha : a < (s + 1) * (s + 1)) (hx : s < x) : s ≤ (x + a / x) / 2 ∧ (x + a / x) / 2 < x ∧ (x + a / x) / 2 - s ≤ (x - s) / 2 := by
  have hx0 : 0 < x := by omega
  have h1 : a / x < s + 1 := by
    rw [Nat.div_lt_iff_lt_mul hx0]
    exact Nat.lt_of_lt_of_le ha (Nat.mul_le_mul_left _ hx)
  have h2 : a < x * (a / x + 1) := by
    have := Nat.lt_mul_div_succ a hx0
    exact this
  have h3 : 2 * s ≤ x + a / x := by
    apply Nat.le_of_not_lt
    intro hlt
    generalize a / x = q at *
    obtain ⟨d, hd⟩ : ∃ d, 2 * s = x + q + 1 + d := ⟨2 * s - (x + q + 1), by omega⟩
    have h4 : (x + q + 1) * (x + q + 1) ≤ (2 * s) * (2 * s) := Nat.mul_self_le_mul_self (by omega)
    have h5 : 4 * (x * (q + 1)) ≤ (x + q + 1) * (x + q + 1) := by
      rcases Nat.le_total x (q + 1) with h | h
      · obtain ⟨k, hk⟩ := Nat.exists_eq_add_of_le h
        rw [Nat.add_assoc, hk]
        grind
      · obtain ⟨k, hk⟩ := Nat.exists_eq_add_of_le h
        rw [Nat.add_assoc]
        generalize q + 1 = r at *
        subst hk
        grind
    have h6 : (2 * s) * (2 * s) = 4 * (s * s) := by grind
    omega
  refine ⟨by omega, by omega, by omega⟩
theorem rt_uniq {a s t : Nat} (h1 : s * s ≤ a) (h2 : a < (s + 1) * (s + 1)) (h3 : t * t ≤ a) (h4 : a < (t + 1) * (t + 1)) : s = t := by
  apply Nat.le_antisymm
  · apply Nat.le_of_not_lt
    intro h
    have := Nat.mul_self_le_mul_self (show t + 1 ≤ s from h)
    omega
  · apply Nat.le_of_not_lt
    intro h
    have := Nat.mul_self_le_mul_self (show s + 1 ≤ t from h)
    omega
/-- Euclid: two steps at the most halve -/
theorem eu_half {a b : Nat} (hb : 0 < b) (h : b ≤ a) : 2 * (a % b) < a := by
  have h1 := Nat.mod_lt a hb
  have h2 := Nat.div_add_mod a b
  have h3 : 1 ≤ a / b := (Nat.one_le_div_iff hb).mpr h
  have h4 : b * 1 ≤ b * (a / b) := Nat.mul_le_mul_left _ h3
  omega
/-- long division: the estimate from two limbs of the divisor V2 and three of the dividend U3 -/
theorem kd_more {q V2 U3 v u k : Nat} (hv : V2 * k ≤ v) (hu : u < (U3 + 1) * k) (h : U3 < q * V2) : u < q * v := by
  have h1 : (U3 + 1) * k ≤ (q * V2) * k := Nat.mul_le_mul_right _ h
  have h2 : (q * V2) * k ≤ q * v := by rw [Nat.mul_assoc]; exact Nat.mul_le_mul_left _ hv
  omega
theorem kd_less {q V2 U3 v u k : Nat} (hv : v < (V2 + 1) * k) (hu : U3 * k ≤ u) (h : q * V2 ≤ U3) (hq : q ≤ V2 + 1) (h0 : 0 < q) : (q - 1) * v ≤ u := by
  obtain ⟨r, rfl⟩ : ∃ r, q = r + 1 := ⟨q - 1, by omega⟩
  rw [Nat.add_sub_cancel]
  have h1 : r * v ≤ r * ((V2 + 1) * k) := Nat.mul_le_mul_left _ (Nat.le_of_lt hv)
  have h2 : r * ((V2 + 1) * k) = (r * V2 + r) * k := by rw [← Nat.mul_assoc, Nat.mul_add, Nat.mul_one]
  have h3 : r * V2 + r ≤ U3 := by
    have : (r + 1) * V2 = r * V2 + V2 := by rw [Nat.add_mul, Nat.one_mul]
    omega
  have h4 : (r * V2 + r) * k ≤ U3 * k := Nat.mul_le_mul_right _ h3
  omega
/-- the estimate from one limb h of the divisor, at least half the base, and two of the dividend is at most 2 too much -/
theorem kd_first {b h v k u q0 : Nat} (hb : b ≤ 2 * h) (hv : h * k ≤ v) (hv2 : v < (h + 1) * k) (hq : q0 < b) (hu : q0 * h * k ≤ u) (h2 : 2 ≤ q0) : (q0 - 2) * v ≤ u := by
  obtain ⟨r, rfl⟩ : ∃ r, q0 = r + 2 := ⟨q0 - 2, by omega⟩
  rw [Nat.add_sub_cancel]
  have h1 : r * v ≤ r * ((h + 1) * k) := Nat.mul_le_mul_left _ (Nat.le_of_lt hv2)
  have h3 : r * ((h + 1) * k) = (r * h + r) * k := by rw [← Nat.mul_assoc, Nat.mul_add, Nat.mul_one]
  have h4 : r * h + r ≤ (r + 2) * h := by
    have : (r + 2) * h = r * h + 2 * h := by rw [Nat.add_mul]
    omega
  have h5 : (r * h + r) * k ≤ (r + 2) * h * k := Nat.mul_le_mul_right _ h4
  omega
