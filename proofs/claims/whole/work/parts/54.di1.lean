/-! Long division: rows of numbers. -/
/-- a window of limbs -/
def nw (b : Nat) (g : Nat → Nat) (a n : Nat) : Nat := nv b (fun i => g (a + i)) n
theorem nw_s (b : Nat) (g : Nat → Nat) (a n : Nat) : nw b g a (n + 1) = nw b g a n + g (a + n) * b ^ n := rfl
theorem nw_0 (b : Nat) (g : Nat → Nat) (a : Nat) : nw b g a 0 = 0 := rfl
theorem nw_split (b : Nat) (g : Nat → Nat) (a n : Nat) : nv b g (a + n) = nv b g a + nw b g a n * b ^ a := by
  induction n with
  | zero => rw [nw_0]; simp
  | succ n ih => rw [← Nat.add_assoc, nv_s, ih, nw_s, Nat.add_mul, Nat.pow_add, Nat.add_assoc]; congr 2; rw [Nat.mul_assoc, Nat.mul_comm (b ^ a)]
theorem nw_lt {b : Nat} {g : Nat → Nat} {a n : Nat} (h : ∀ i, i < n → g (a + i) < b) : nw b g a n < b ^ n := nv_lt h
theorem nw_eq {b : Nat} {g h : Nat → Nat} {a n : Nat} (e : ∀ i, i < n → g (a + i) = h (a + i)) : nw b g a n = nw b h a n := nv_eq e
theorem nw_up {b : Nat} {g : Nat → Nat} {a n x : Nat} : nw b (va_up g (a + n) x) a (n + 1) = nw b g a n + x * b ^ n := by
  rw [nw_s, nw_eq (h := g) (fun i hi => if_neg (by omega))]
  show _ + (if a + n = a + n then x else _) * _ = _
  rw [if_pos rfl]
theorem ke_two {b : Nat} (hb : 1 < b) {g : Nat → Nat} {c : Nat} (hg : ∀ i, i < c → g i < b) : (g (c + 1) * b + g c) * b ^ (c + 1) ≤ nv b g (c + 2) * b ∧ nv b g (c + 2) * b < (g (c + 1) * b + g c + 1) * b ^ (c + 1) := by
  have h1 := nv_lt hg
  have h2 : nv b g (c + 2) * b = nv b g c * b + (g (c + 1) * b + g c) * b ^ (c + 1) := by
    rw [nv_s, nv_s, Nat.pow_succ]; grind
  have h3 : nv b g c * b < b ^ (c + 1) := by rw [Nat.pow_succ]; exact Nat.mul_lt_mul_of_pos_right h1 (by omega)
  rw [h2, Nat.add_mul (_ + _) 1, Nat.one_mul]
  omega
theorem ke_three {b : Nat} (hb : 1 < b) {g : Nat → Nat} {c : Nat} (hg : ∀ i, i < c → g i < b) : ((g (c + 2) * b + g (c + 1)) * b + g c) * b ^ (c + 1) ≤ nv b g (c + 3) * b ∧ nv b g (c + 3) * b < ((g (c + 2) * b + g (c + 1)) * b + g c + 1) * b ^ (c + 1) := by
  have h1 := nv_lt hg
  have h2 : nv b g (c + 3) * b = nv b g c * b + ((g (c + 2) * b + g (c + 1)) * b + g c) * b ^ (c + 1) := by
    rw [nv_s, nv_s, nv_s, Nat.pow_succ, Nat.pow_succ]; grind
  have h3 : nv b g c * b < b ^ (c + 1) := by rw [Nat.pow_succ]; exact Nat.mul_lt_mul_of_pos_right h1 (by omega)
  rw [h2, Nat.add_mul (_ + _) 1, Nat.one_mul]
  omega
theorem ke_win {u V r b : Nat} (hr : r < b) : (u * b + r) / (V * b) = u / V := by
  have hb : 0 < b := by omega
  rw [Nat.mul_comm V b, ← Nat.div_div_eq_div_mul, Nat.mul_comm u b, Nat.mul_add_div hb, Nat.div_eq_of_lt hr, Nat.add_zero]
/-- what an estimate speaks of: divisor, dividend and scale -/
theorem ke_data {b : Nat} (hb : 1 < b) {gd gr : Nat → Nat} {kb a r0 v2 : Nat} (hkb : 0 < kb) (hd : ∀ i, i < kb → gd i < b) (hg : ∀ i, i < kb + 1 → gr (a + i) < b) (hr0 : r0 < b) (e0 : 2 ≤ kb → r0 = gr (a + kb - 2)) (e1 : kb < 2 → v2 = 0) (e2 : 2 ≤ kb → v2 = gd (kb - 2)) (hv : 0 < gd (kb - 1)) (hu : nw b gr a (kb + 1) < nv b gd kb * b) :
    ∃ V W k, 0 < k ∧ 0 < V ∧ W / V = nw b gr a (kb + 1) / nv b gd kb ∧ (gd (kb - 1) * b + v2) * k ≤ V ∧ V < (gd (kb - 1) * b + v2 + 1) * k ∧ ((gr (a + kb) * b + gr (a + kb - 1)) * b + r0) * k ≤ W ∧ W < ((gr (a + kb) * b + gr (a + kb - 1)) * b + r0 + 1) * k ∧ W < V * b := by
  have hB : 0 < b := by omega
  have key : ∀ r, r < b → nw b gr a (kb + 1) * b + r < nv b gd kb * b * b := fun r hr => by
    have h1 : (nw b gr a (kb + 1) + 1) * b ≤ nv b gd kb * b * b := Nat.mul_le_mul_right _ hu
    rw [Nat.add_mul, Nat.one_mul] at h1
    omega
  by_cases h2 : kb < 2
  · obtain rfl : kb = 1 := by omega
    refine ⟨nv b gd 1 * b, nw b gr a 2 * b + r0, 1, Nat.one_pos, ?_, ke_win hr0, ?_, ?_, ?_, ?_, key r0 hr0⟩
    · rw [nv_s, nv_0]; exact Nat.mul_pos (by simpa using hv) hB
    · rw [e1 h2, nv_s, nv_0]; simp
    · rw [e1 h2, nv_s, nv_0]; simp
    · rw [nw_s, nw_s, nw_0]; simp only [Nat.pow_zero, Nat.pow_one, Nat.mul_one, Nat.zero_add, Nat.add_zero, Nat.add_sub_cancel]; rw [Nat.add_comm (gr a)]; exact Nat.le_refl _
    · rw [nw_s, nw_s, nw_0]; simp only [Nat.pow_zero, Nat.pow_one, Nat.mul_one, Nat.zero_add, Nat.add_zero, Nat.add_sub_cancel]; rw [Nat.add_comm (gr a)]; omega
  · obtain ⟨c, rfl⟩ : ∃ c, kb = c + 2 := ⟨kb - 2, by omega⟩
    have t2 := ke_two hb (g := gd) (c := c) (fun i hi => hd i (by omega))
    have t3 := ke_three hb (g := fun i => gr (a + i)) (c := c) (fun i hi => hg i (by omega))
    have q2 : v2 = gd c := e2 (by omega)
    have q0 : r0 = gr (a + c) := (e0 (by omega)).trans (by rw [show a + (c + 2) - 2 = a + c by omega])
    have q1 : a + (c + 2) - 1 = a + (c + 1) := by omega
    refine ⟨nv b gd (c + 2) * b, nw b gr a (c + 3) * b + 0, b ^ (c + 1), Nat.pow_pos hB, ?_, ke_win hB, ?_, ?_, ?_, ?_, key 0 hB⟩
    · have h9 := nv_top (b := b) (g := gd) (n := c + 1) (Nat.ne_of_gt hv)
      have h8 : 0 < b ^ (c + 1) := Nat.pow_pos hB
      exact Nat.mul_pos (Nat.lt_of_lt_of_le h8 h9) hB
    · rw [q2]; exact t2.1
    · rw [q2]; exact t2.2
    · rw [q0, q1]; exact t3.1
    · rw [q0, q1]; exact t3.2
theorem ke_r2 {b : Nat} (hb : 1 < b) {V W k h v2 r2 r1 r0 : Nat} (hk : 0 < k) (hv2 : v2 < b) (hV : V < (h * b + v2 + 1) * k) (hW : ((r2 * b + r1) * b + r0) * k ≤ W) (hu : W < V * b) : r2 ≤ h := by
  apply Nat.le_of_not_lt; intro hlt
  have h1 : V * b < (h * b + v2 + 1) * k * b := Nat.mul_lt_mul_of_pos_right hV (by omega)
  have h2 : (h * b + v2 + 1) * k * b = (h * b + v2 + 1) * b * k := by grind
  have h3 : ((r2 * b + r1) * b + r0) * k < (h * b + v2 + 1) * b * k := by omega
  have h4 := Nat.lt_of_mul_lt_mul_right h3
  have h5 : (h * b + v2 + 1) * b ≤ (h * b + b) * b := Nat.mul_le_mul_right _ (by omega)
  have h6 : (h + 1) * b * b ≤ r2 * b * b := Nat.mul_le_mul_right _ (Nat.mul_le_mul_right _ hlt)
  have h7 : (h + 1) * b * b = (h * b + b) * b := by grind
  have h8 : (r2 * b + r1) * b = r2 * b * b + r1 * b := Nat.add_mul _ _ _
  omega
theorem ke_q0 {b : Nat} (hb : 1 < b) {V W k h v2 r2 r1 r0 : Nat} (hk : 0 < k) (hh : 0 < h) (hr0 : r0 < b) (hV : (h * b + v2) * k ≤ V) (hW : W < ((r2 * b + r1) * b + r0 + 1) * k) : W / V ≤ (r2 * b + r1) / h := by
  rw [Nat.le_div_iff_mul_le hh]
  have h1 := Nat.div_mul_le_self W V
  generalize W / V = q at *
  have h2 : q * (h * b * k) ≤ q * V := Nat.mul_le_mul_left _ (Nat.le_trans (Nat.mul_le_mul_right _ (by omega)) hV)
  have h3 : ((r2 * b + r1) * b + r0 + 1) * k ≤ ((r2 * b + r1 + 1) * b) * k := Nat.mul_le_mul_right _ (by rw [Nat.add_mul (_ + _) 1]; omega)
  have h4 : q * (h * b * k) = (q * h) * (b * k) := by grind
  have h5 : ((r2 * b + r1 + 1) * b) * k = (r2 * b + r1 + 1) * (b * k) := by grind
  have h6 := Nat.lt_of_mul_lt_mul_right (show (q * h) * (b * k) < (r2 * b + r1 + 1) * (b * k) by omega)
  omega
theorem ke_dec {b : Nat} (hb : 1 < b) {V W k h v2 r2 r1 r0 f left : Nat} (hV0 : 0 < V) (hV : (h * b + v2) * k ≤ V) (hW : W < ((r2 * b + r1) * b + r0 + 1) * k) (hl : left + f * h = r2 * b + r1) (hf : left * b + r0 < f * v2) : W / V ≤ f - 1 ∧ 0 < f := by
  have h1 : (r2 * b + r1) * b + r0 < f * (h * b + v2) := by
    rw [← hl, Nat.add_mul, Nat.mul_add, ← Nat.mul_assoc]; omega
  have h2 := kd_more hV hW h1
  have h3 := (Nat.div_lt_iff_lt_mul hV0).mpr h2
  generalize W / V = q at *
  omega
theorem ke_exit {b : Nat} (hb : 1 < b) {V W k h v2 r2 r1 r0 f left : Nat} (hk : 0 < k) (hV0 : 0 < V) (hh : b ≤ 2 * h) (hV : V < (h * b + v2 + 1) * k) (hW : ((r2 * b + r1) * b + r0) * k ≤ W) (hfb : f < b) (hl : left + f * h = r2 * b + r1) (hf : f * v2 ≤ left * b + r0) : f ≤ W / V + 1 := by
  by_cases h0 : f = 0
  · rw [h0]; exact Nat.zero_le _
  have h1 : f * (h * b + v2) ≤ (r2 * b + r1) * b + r0 := by
    rw [← hl, Nat.add_mul, Nat.mul_add, ← Nat.mul_assoc]; omega
  have h5 : b ≤ h * b := by
    have : 1 * b ≤ h * b := Nat.mul_le_mul_right _ (by omega)
    omega
  have h2 := kd_less hV hW h1 (by omega) (by omega)
  have h3 := (Nat.le_div_iff_mul_le hV0).mpr h2
  generalize W / V = q at *
  omega
theorem ke_exit3 {b : Nat} (hb : 1 < b) {V W k h v2 r2 r1 r0 f : Nat} (hk : 0 < k) (hV0 : 0 < V) (hh : b ≤ 2 * h) (hv2 : v2 < b) (hVl : (h * b + v2) * k ≤ V) (hV : V < (h * b + v2 + 1) * k) (hW : ((r2 * b + r1) * b + r0) * k ≤ W) (hfb : f + 2 < b) (hl : (f + 2) * h ≤ r2 * b + r1) : f ≤ W / V + 1 := by
  have h1 : (h * b + v2 + 1) * k ≤ (h + 1) * (b * k) := by
    rw [← Nat.mul_assoc, Nat.add_mul h 1]; exact Nat.mul_le_mul_right _ (by omega)
  have h2 : (f + 2) * h * (b * k) ≤ ((r2 * b + r1) * b + r0) * k := by
    rw [← Nat.mul_assoc]; exact Nat.mul_le_mul_right _ (Nat.le_trans (Nat.mul_le_mul_right _ hl) (Nat.le_add_right _ _))
  have h4 : h * (b * k) ≤ V := by
    rw [← Nat.mul_assoc]; exact Nat.le_trans (Nat.mul_le_mul_right _ (Nat.le_add_right _ _)) hVl
  have h3 := kd_first (h := h) (v := V) (k := b * k) (u := W) (q0 := f + 2) hh h4 (by omega) hfb (by omega) (by omega)
  rw [Nat.add_sub_cancel] at h3
  have := (Nat.le_div_iff_mul_le hV0).mpr h3
  generalize W / V = q at *
  omega
theorem ke_big {b : Nat} (hb : 1 < b) {v2 f left r0 : Nat} (hfb : f < b) (hv2 : v2 < b) (h : b ≤ left) : f * v2 ≤ left * b + r0 := by
  have h1 : f * v2 ≤ left * b := Nat.mul_le_mul (by omega) (by omega)
  omega
/-- a quotient out of halves -/
theorem qo_half {a d : Nat} (hd : 0 < d) : a / d = if d ≤ a - a / 2 / d * 2 * d then a / 2 / d * 2 + 1 else a / 2 / d * 2 := by
  have h1 : a / 2 / d = a / (2 * d) := Nat.div_div_eq_div_mul a 2 d
  rw [h1]
  have h2 := Nat.div_add_mod a (2 * d)
  have h3 := Nat.mod_lt a (show 0 < 2 * d by omega)
  generalize a / (2 * d) = e at *
  generalize a % (2 * d) = r at *
  have h4 : a - e * 2 * d = r := by rw [← h2, show 2 * d * e = e * 2 * d by grind]; omega
  have h5 : a = d * (e * 2) + r := by rw [← h2]; grind
  rw [h4]
  split
  · rw [h5, Nat.mul_add_div hd, show r / d = 1 from by rw [Nat.div_eq_iff hd]; omega]
  · rw [h5, Nat.mul_add_div hd, Nat.div_eq_of_lt (by omega)]; rfl
theorem qo_le {a d : Nat} (hd : 0 < d) : a / 2 / d * 2 * d ≤ a ∧ a - a / 2 / d * 2 * d < 2 * d := by
  have h1 : a / 2 / d = a / (2 * d) := Nat.div_div_eq_div_mul a 2 d
  rw [h1]
  have h2 := Nat.div_add_mod a (2 * d)
  have h3 := Nat.mod_lt a (show 0 < 2 * d by omega)
  generalize a / (2 * d) = e at *
  generalize a % (2 * d) = r at *
  have h4 : 2 * d * e = e * 2 * d := by grind
  omega
theorem nw_h (b : Nat) (g : Nat → Nat) (a n : Nat) : nw b g a (n + 1) = g a + nw b g (a + 1) n * b := by
  induction n with
  | zero => rw [nw_s, nw_0, nw_0]; simp
  | succ n ih => rw [nw_s, ih, nw_s, Nat.add_mul, Nat.pow_succ, show a + 1 + n = a + (n + 1) by omega, ← Nat.mul_assoc]; omega
/-- the limb of the quotient: not too much -/
theorem kf_le {u V P lo lo' r c f : Nat} (hV : 0 < V) (hVP : V < P) (hu : u = lo + r * P) (hs : lo' + f * V = lo + c * P) (h1 : u / V ≤ f) (hc : c ≤ r) : f = u / V ∧ lo' = u % V := by
  obtain ⟨e, rfl⟩ := Nat.exists_eq_add_of_le hc
  have h2 : u = lo' + f * V + e * P := by rw [hu, Nat.add_mul]; omega
  have h3 : f ≤ u / V := (Nat.le_div_iff_mul_le hV).mpr (by omega)
  have h4 : f = u / V := by omega
  refine ⟨h4, ?_⟩
  have h5 := Nat.div_add_mod u V
  have h6 := Nat.mod_lt u hV
  rw [← h4, Nat.mul_comm] at h5
  have h7 : lo' + e * P = u % V := by omega
  have h8 : e = 0 := by
    apply Classical.byContradiction; intro h9
    have : 1 * P ≤ e * P := Nat.mul_le_mul_right _ (by omega)
    omega
  rw [h8] at h7; omega
/-- one too much: the divisor is added back -/
theorem kf_gt {u V P lo lo' lo2 r c c2 f : Nat} (hV : 0 < V) (hVP : V < P) (hu : u = lo + r * P) (hs : lo' + f * V = lo + c * P) (hl : lo' < P) (h2 : f ≤ u / V + 1) (hc : r < c) (hl2 : lo2 < P) (hs2 : lo2 + c2 * P = lo' + V) : f = u / V + 1 ∧ lo2 = u % V := by
  obtain ⟨e, rfl⟩ : ∃ e, c = r + 1 + e := ⟨c - r - 1, by omega⟩
  have h3 : lo' + f * V = u + P + e * P := by rw [hs, hu, Nat.add_mul, Nat.add_mul]; omega
  have h4 : u < f * V := by omega
  have h5 : u / V < f := (Nat.div_lt_iff_lt_mul hV).mpr h4
  have h6 : f = u / V + 1 := by omega
  refine ⟨h6, ?_⟩
  have h7 := Nat.div_add_mod u V
  have h8 := Nat.mod_lt u hV
  rw [h6, Nat.add_mul, Nat.one_mul, Nat.mul_comm] at h3
  have h9 : lo' + V = u % V + P + e * P := by omega
  have e0 : e = 0 := by
    apply Classical.byContradiction; intro h
    have : 1 * P ≤ e * P := Nat.mul_le_mul_right _ (by omega)
    omega
  rw [e0] at h9
  rw [h9] at hs2
  have c0 : c2 = 1 := by
    rcases (show c2 = 0 ∨ c2 = 1 ∨ 2 ≤ c2 by omega) with h | h | h
    · rw [h] at hs2; omega
    · exact h
    · have : 2 * P ≤ c2 * P := Nat.mul_le_mul_right _ h
      omega
  rw [c0] at hs2; omega
/-- the divisor with its highest bit set -/
theorem kn_norm {g : Nat → Nat} {kb sh t y b : Nat} (hb : b = 2 ^ 32) (hg : ∀ i, i < kb + 2 → g i < b) (hv : nv b g (kb + 2) = y * 2 ^ sh) (ht : t * b ^ kb ≤ y) (ht2 : y < (t + 1) * b ^ kb) (ht0 : 0 < t) (htb : t < b) (hsh : sh = 32 - bl t) : g (kb + 1) = 0 ∧ nv b g (kb + 1) = y * 2 ^ sh ∧ b ≤ 2 * g kb ∧ y * 2 ^ sh < b ^ (kb + 1) ∧ 2 ^ 31 * b ^ kb ≤ y * 2 ^ sh := by
  have h1 := bt_lt t
  obtain ⟨h2, h3⟩ := bt_le (show t ≠ 0 by omega)
  have h4 : bl t ≤ 32 := bt_ub (by rw [← hb]; exact htb)
  have h5 : 2 ^ bl t * 2 ^ sh = b := by rw [← Nat.pow_add, hb]; congr 1; omega
  have h6 : 2 ^ (bl t - 1) * 2 ^ sh = 2 ^ 31 := by rw [← Nat.pow_add]; congr 1; omega
  have hP : 0 < b ^ kb := Nat.pow_pos (by rw [hb]; decide)
  have hlt : y * 2 ^ sh < b ^ (kb + 1) := by
    have e1 : y * 2 ^ sh < (t + 1) * b ^ kb * 2 ^ sh := Nat.mul_lt_mul_of_pos_right ht2 (Nat.pow_pos (by decide))
    have e2 : (t + 1) * b ^ kb * 2 ^ sh ≤ (2 ^ bl t) * b ^ kb * 2 ^ sh := Nat.mul_le_mul_right _ (Nat.mul_le_mul_right _ h1)
    have e3 : (2 ^ bl t) * b ^ kb * 2 ^ sh = b ^ (kb + 1) := by rw [Nat.pow_succ, Nat.mul_right_comm, h5, Nat.mul_comm]
    omega
  have hge : 2 ^ 31 * b ^ kb ≤ y * 2 ^ sh := by
    have e1 : t * b ^ kb * 2 ^ sh ≤ y * 2 ^ sh := Nat.mul_le_mul_right _ ht
    have e2 : 2 ^ (bl t - 1) * b ^ kb * 2 ^ sh ≤ t * b ^ kb * 2 ^ sh := Nat.mul_le_mul_right _ (Nat.mul_le_mul_right _ h2)
    have e3 : 2 ^ (bl t - 1) * b ^ kb * 2 ^ sh = 2 ^ 31 * b ^ kb := by rw [Nat.mul_right_comm, h6]
    omega
  have h7 : g (kb + 1) = 0 := by
    apply Classical.byContradiction; intro h
    have := nv_top (b := b) (g := g) (n := kb + 1) h
    rw [show kb + 1 + 1 = kb + 2 from rfl, hv] at this
    omega
  have h8 : nv b g (kb + 1) = y * 2 ^ sh := (nv_z h7).symm.trans hv
  refine ⟨h7, h8, ?_, hlt, hge⟩
  apply Nat.le_of_not_lt; intro hn
  have h9 := nv_lt (b := b) (g := g) (n := kb) (fun i hi => hg i (by omega))
  rw [nv_s] at h8
  have ha : (g kb + 1) * b ^ kb ≤ 2 ^ 31 * b ^ kb := Nat.mul_le_mul_right _ (by rw [hb] at hn; omega)
  rw [Nat.add_mul, Nat.one_mul] at ha
  omega
theorem kn_start {x y sh ka kb b : Nat} (hb : b = 2 ^ 32) (hx : x < b ^ ka) (hsh : sh ≤ 31) (hk : kb + 1 ≤ ka) (hV : 2 ^ 31 * b ^ kb ≤ y) : x * 2 ^ sh < y * b ^ (ka - kb) := by
  have h1 : x * 2 ^ sh < b ^ ka * 2 ^ sh := Nat.mul_lt_mul_of_pos_right hx (Nat.pow_pos (by decide))
  have h2 : b ^ ka * 2 ^ sh ≤ b ^ ka * 2 ^ 31 := Nat.mul_le_mul_left _ (Nat.pow_le_pow_right (by decide) hsh)
  have h3 : 2 ^ 31 * b ^ kb * b ^ (ka - kb) ≤ y * b ^ (ka - kb) := Nat.mul_le_mul_right _ hV
  have h4 : 2 ^ 31 * b ^ kb * b ^ (ka - kb) = b ^ ka * 2 ^ 31 := by rw [Nat.mul_assoc, ← Nat.pow_add, show kb + (ka - kb) = ka by omega, Nat.mul_comm]
  omega
/-- one limb of the quotient more -/
theorem kj_step {b V X u j lo Q : Nat} (hV : 0 < V) (hlo : lo < b ^ j) (h1 : Q * b ^ (j + 1) * V + (lo + u * b ^ j) = X) : (u / V + Q * b) * b ^ j * V + (lo + u % V * b ^ j) = X ∧ lo + u % V * b ^ j < V * b ^ j := by
  have h2 := Nat.div_add_mod u V
  have h3 := Nat.mod_lt u hV
  constructor
  · rw [← h1, Nat.pow_succ]
    have h4 : u * b ^ j = (V * (u / V) + u % V) * b ^ j := by rw [h2]
    rw [h4]; grind
  · have h5 : (u % V + 1) * b ^ j ≤ V * b ^ j := Nat.mul_le_mul_right _ h3
    rw [Nat.add_mul, Nat.one_mul] at h5
    omega
theorem kj_u {b V u j lo : Nat} (hb : 0 < b) (h : lo + u * b ^ j < V * b ^ (j + 1)) : u < V * b := by
  rw [Nat.pow_succ] at h
  have h2 : u * b ^ j < V * b * b ^ j := by
    have : V * (b ^ j * b) = V * b * b ^ j := by grind
    omega
  exact Nat.lt_of_mul_lt_mul_right h2
/-! BigCalculator.Divider. Written by wip/gen/divider1.py. -/
section DI1
variable {l : Launch} {D : va_G} {cI cL cQ : ClassId} {z : kZ_T} {sz : Nat} {w : fw_W}
set_option maxHeartbeats 4000000 in
set_option maxRecDepth 100000 in
theorem c_Na_limbAtM {n : Nat} : fw_R l yNa_limbAt (Cond.code yNa_limbAt cNa_limbAt 2 (some FieldType.long) :: kWs) ({ frames := 0, cells := 0, slots := 0, locals := 0 } : Room) D kCl (kty cI cL cQ) z [.ref n, .int (-1)] (sz) w (fun v => v = some (.long (lN 0))) := by
  refine fw_ofR (cc := cNa_limbAt) (maxL := 2) (ret := (some FieldType.long)) (by decide) rfl (Nat.le_of_ble_eq_true rfl) ?_
  intro p e s m args below meth c hx hb hr hts hown hlocks hml hK H ls hH hw hl
  have hW : ∀ w ∈ kWs, w.before args s = true := fun w h => hts w (List.mem_cons_of_mem _ h)
  have hown : s.vm.findClass RNa = some m.cls := hown
  have hl : lv_has ls 2 [(0, .ref n), (1, .int (-1))] := hl
  refine lv_iload_n (pc := 0) hx hb dNa_limbAt_0 rfl (lv_at hl 1 rfl) ?_
  refine lv_if_lt (pc := 1) (tgt := 21) hx hb dNa_limbAt_1 (by decide) (fun _ => ?_) (fun hc => absurd (show (-1 : Int32) < 0 by decide) hc)
  refine lv_lconst (pc := 21) (v := lN 0) hx hb dNa_limbAt_21 (by decide) ?_
  exact fw_lretR (pc := 22) hx hb hr hlocks hH dNa_limbAt_22 rfl

set_option maxHeartbeats 4000000 in
set_option maxRecDepth 100000 in
theorem c_Di_quotientOf {a dv : Nat} (ha : a < 2 ^ 64) (h0 : 0 < dv) (hd : dv < 2 ^ 32) : fw_R l yDi_quotientOf (Cond.code yDi_quotientOf cDi_quotientOf 6 (some FieldType.long) :: kWs) ({ frames := 0, cells := 0, slots := 0, locals := 0 } : Room) D kCl (kty cI cL cQ) z [.long (lN a), .long (lN dv)] (sz) w (fun v => v = some (.long (lN (a / dv)))) := by
  refine fw_ofR (cc := cDi_quotientOf) (maxL := 6) (ret := (some FieldType.long)) (by decide) rfl (Nat.le_of_ble_eq_true rfl) ?_
  intro p e s m args below meth c hx hb hr hts hown hlocks hml hK H ls hH hw hl
  have hW : ∀ w ∈ kWs, w.before args s = true := fun w h => hts w (List.mem_cons_of_mem _ h)
  have hown : s.vm.findClass RDi = some m.cls := hown
  have hl : lv_has ls 6 [(0, .long (lN a)), (2, .long (lN dv))] := hl
  refine lv_lload_n (pc := 0) hx hb dDi_quotientOf_0 rfl (lv_at hl 1 rfl) ?_
  refine lv_lconst (pc := 1) (v := lN 0) hx hb dDi_quotientOf_1 (by decide) ?_
  refine W.lcmp (pc := 2) hx hb dDi_quotientOf_2 ?_
  refine lv_if_gt (pc := 3) (tgt := 8) hx hb dDi_quotientOf_3 (by decide) (fun _ => ?_) (fun hc => absurd ((lg_cmp_gt _ _).mpr ((pk_lLT (by decide) (by omega)).mpr h0)) hc)
  refine lv_lload_n (pc := 8) hx hb dDi_quotientOf_8 rfl (lv_at hl 0 rfl) ?_
  refine lv_lconst (pc := 9) (v := lN 0) hx hb dDi_quotientOf_9 (by decide) ?_
  refine W.lcmp (pc := 10) hx hb dDi_quotientOf_10 ?_
  refine lv_if_lt (pc := 11) (tgt := 18) hx hb dDi_quotientOf_11 (by decide) (fun hc => ?_) (fun hc => ?_)
  · have hq := qo_le (a := a) h0
    refine lv_lload_n (pc := 18) hx hb dDi_quotientOf_18 rfl (lv_at hl 0 rfl) ?_
    refine lv_iconst (pc := 19) (v := (nI 1)) hx hb dDi_quotientOf_19 (by decide) ?_
    refine lv_lushr (pc := 20) (v := lN (a / 2)) hx hb dDi_quotientOf_20 (wb_shr (k := 1) ha (by decide)) ?_
    refine lv_lload_n (pc := 21) hx hb dDi_quotientOf_21 rfl (lv_at hl 1 rfl) ?_
    refine lv_ldiv (pc := 22) hx hb dDi_quotientOf_22 (fun h => by have := lN_zero (by omega) h; omega) ?_
    rw [show ((lN (a / 2) / lN dv) : Int64) = lN (a / 2 / dv) from (pk_lDiv (by omega) h0 (by omega))]
    refine lv_iconst (pc := 23) (v := (nI 1)) hx hb dDi_quotientOf_23 (by decide) ?_
    refine lv_lshl (pc := 24) (v := lN (a / 2 / dv * 2)) hx hb dDi_quotientOf_24 (wb_shl (a / 2 / dv) (k := 1) (by decide)) ?_
    refine lv_lstore (pc := 25) (lv' := [(4, .long (lN (a / 2 / dv * 2))), (0, .long (lN a)), (2, .long (lN dv))]) hx hb dDi_quotientOf_25 hl (by decide) rfl (fun ls hl => ?_)
    refine lv_lload_n (pc := 27) hx hb dDi_quotientOf_27 rfl (lv_at hl 1 rfl) ?_
    refine lv_lload (pc := 28) hx hb dDi_quotientOf_28 (lv_at hl 0 rfl) ?_
    refine lv_lload_n (pc := 30) hx hb dDi_quotientOf_30 rfl (lv_at hl 2 rfl) ?_
    refine lv_lmul (pc := 31) hx hb dDi_quotientOf_31 ?_
    rw [show ((lN (a / 2 / dv * 2) * lN dv) : Int64) = lN (a / 2 / dv * 2 * dv) from (lN_mul _ _)]
    refine lv_lsub (pc := 32) hx hb dDi_quotientOf_32 ?_
    rw [show ((lN a - lN (a / 2 / dv * 2 * dv)) : Int64) = lN (a - a / 2 / dv * 2 * dv) from (lN_sub hq.1)]
    refine lv_lload_n (pc := 33) hx hb dDi_quotientOf_33 rfl (lv_at hl 2 rfl) ?_
    refine W.lcmp (pc := 34) hx hb dDi_quotientOf_34 ?_
    refine lv_if_lt (pc := 35) (tgt := 45) hx hb dDi_quotientOf_35 (by decide) (fun hd2 => ?_) (fun hd2 => ?_)
    · have h9 := (pk_lLT (by omega) (by omega)).mp ((lg_cmp_lt _ _).mp hd2)
      refine lv_lload (pc := 45) hx hb dDi_quotientOf_45 (lv_at hl 0 rfl) ?_
      exact fw_lretR (pc := 47) hx hb hr hlocks hH dDi_quotientOf_47 (by rw [qo_half (a := a) h0, if_neg (by omega)])
    · have h9 : ¬ a - a / 2 / dv * 2 * dv < dv := fun h => hd2 ((lg_cmp_lt _ _).mpr ((pk_lLT (by omega) (by omega)).mpr h))
      refine lv_lload (pc := 38) hx hb dDi_quotientOf_38 (lv_at hl 0 rfl) ?_
      refine lv_lconst (pc := 40) (v := lN 1) hx hb dDi_quotientOf_40 (by decide) ?_
      refine lv_ladd (pc := 41) hx hb dDi_quotientOf_41 ?_
      rw [show ((lN (a / 2 / dv * 2) + (lN 1)) : Int64) = lN (a / 2 / dv * 2 + 1) from (lN_add _ _)]
      refine lv_goto (pc := 42) (tgt := 47) hx hb dDi_quotientOf_42 (by decide) ?_
      exact fw_lretR (pc := 47) hx hb hr hlocks hH dDi_quotientOf_47 (by rw [qo_half (a := a) h0, if_pos (by omega)])
  · have hs : a < 2 ^ 63 := (lN_le0 ha).mp (Int64.not_lt.mp (fun h => hc ((lg_cmp_lt _ _).mpr h)))
    refine lv_lload_n (pc := 14) hx hb dDi_quotientOf_14 rfl (lv_at hl 0 rfl) ?_
    refine lv_lload_n (pc := 15) hx hb dDi_quotientOf_15 rfl (lv_at hl 1 rfl) ?_
    refine lv_ldiv (pc := 16) hx hb dDi_quotientOf_16 (fun h => by have := lN_zero (by omega) h; omega) ?_
    rw [show ((lN a / lN dv) : Int64) = lN (a / dv) from (pk_lDiv hs h0 (by omega))]
    exact fw_lretR (pc := 17) hx hb hr hlocks hH dDi_quotientOf_17 rfl

set_option maxHeartbeats 4000000 in
set_option maxRecDepth 100000 in
theorem c_Di_subtract {d kb kr ta f : Nat} {gd gr : Nat → Nat} (hf : f < nB) (h : w d = some (.inr (3, [.ref (d + 1), .ref (d + 3), .ref (d + 5)]))) (hD : isN cL w (d + 5) gd kb) (hR : isN cL w (d + 3) gr kr) (hat : ta + kb < 50) (hgd : ∀ i, i < kb → gd i < nB) (hgr : ∀ i, i < kb + 1 → gr (ta + i) < nB) (hg64 : ∀ j, j < 50 → gr j < 2 ^ 64) : fw_C l yDi_subtract (Cond.code yDi_subtract cDi_subtract 14 (some FieldType.boolean) :: kWs) ({ frames := 0, cells := 0, slots := 0, locals := 0 } : Room) D kCl (kty cI cL cQ) z [.ref d, .long (lN f), .int (nI ta)] (sz) w 0 0 (fun v w' => ∃ c g', v = some (.int (nI (if gr (ta + kb) < c then 1 else 0))) ∧ nw nB g' ta kb + f * nv nB gd kb = nw nB gr ta kb + c * nB ^ kb ∧ isN cL w' (d + 3) g' kr ∧ (∀ i, i < kb → g' (ta + i) < nB) ∧ (∀ j, j < ta ∨ ta + kb ≤ j → g' j = gr j) ∧ (∀ j, j < 50 → g' j < 2 ^ 64) ∧ ∀ q, q ≠ d + 3 + 1 → w' q = w q) := by
  refine fw_ofW (cc := cDi_subtract) (maxL := 14) (ret := (some FieldType.boolean)) (by decide) rfl (Nat.le_of_ble_eq_true rfl) ?_
  intro p e s m args below meth c hx hb hr hts hown hlocks hname hml hK H ls hw hl
  have hW : ∀ w ∈ kWs, w.before args s = true := fun w h => hts w (List.mem_cons_of_mem _ h)
  have hown : s.vm.findClass RDi = some m.cls := hown
  have hl : lv_has ls 14 [(0, .ref d), (1, .long (lN f)), (3, .int (nI ta))] := hl
  obtain ⟨a0, a1⟩ := id hD
  obtain ⟨o0, o1⟩ := id hR
  have l3 : nB = 4294967296 := rfl
  have loop : ∀ (e0 i : Nat), i + e0 = kb → ∀ (w1 : fw_W) (H : Heap) (locs : List Loc) (ls : Array Slot) (cy bw : Nat) (g1 : Nat → Nat), fw_H D kCl (fw_A w (sz)) s.heap w1 (sz) H locs → lv_has ls 14 [(9, .int (nI i)), (7, .long (lN bw)), (5, .long (lN cy)), (4, .int (nI kb)), (0, .ref d), (1, .long (lN f)), (3, .int (nI ta))] → w1 (d + 3 + 1) = some (.inl (cL, 50, .inr (.inl (fun i => lN (g1 i))))) → (∀ q, q ≠ d + 3 + 1 → w1 q = w q) → (∀ j, j < 50 → g1 j < 2 ^ 64) → (∀ j, j < i → g1 (ta + j) < nB) → (∀ j, j < ta ∨ ta + i ≤ j → g1 j = gr j) → cy < nB → bw ≤ 1 → nw nB g1 ta i + f * nv nB gd i = nw nB gr ta i + (cy + bw) * nB ^ i → W p l e ({ frames := 0, cells := 0, slots := 0, locals := 0 } : Room) s m args below meth c H locs 0 0 (MQ below (fw_Q D kCl w (sz) 0 (fun v w' => ∃ c g', v = some (.int (nI (if gr (ta + kb) < c then 1 else 0))) ∧ nw nB g' ta kb + f * nv nB gd kb = nw nB gr ta kb + c * nB ^ kb ∧ isN cL w' (d + 3) g' kr ∧ (∀ i, i < kb → g' (ta + i) < nB) ∧ (∀ j, j < ta ∨ ta + kb ≤ j → g' j = gr j) ∧ (∀ j, j < 50 → g' j < 2 ^ 64) ∧ ∀ q, q ≠ d + 3 + 1 → w' q = w q)) args s 0 0 (fw_A w (sz))) (F0 m 18 ls []) := by
    intro e0
    induction e0 with
    | zero =>
      intro i hid w1 H locs ls cy bw g1 hw hl h2 ho hg hgb hsm hcy hbw hs
      have h : w1 d = some (.inr (3, [.ref (d + 1), .ref (d + 3), .ref (d + 5)])) := (ho _ (by omega)).trans h
      have a0 : w1 (d + 5) = some (.inr (5, [.ref (d + 5 + 1), .int (nI kb)])) := (ho _ (by omega)).trans a0
      have a1 : w1 (d + 5 + 1) = some (.inl (cL, 50, .inr (.inl (fun i => lN (gd i))))) := (ho _ (by omega)).trans a1
      have o0 : w1 (d + 3) = some (.inr (5, [.ref (d + 3 + 1), .int (nI kr)])) := (ho _ (by omega)).trans o0
      obtain rfl : i = kb := by omega
      refine lv_iload (pc := 18) hx hb dDi_subtract_18 (lv_at hl 0 rfl) ?_
      refine lv_iload (pc := 20) hx hb dDi_subtract_20 (lv_at hl 3 rfl) ?_
      refine lv_icmp_ge (pc := 22) (tgt := 111) hx hb dDi_subtract_22 (by decide) (fun _ => ?_) (fun hc => absurd (nI_le (Nat.le_refl i) (by omega)) hc)
      refine lv_aload_n (pc := 111) hx hb dDi_subtract_111 rfl (lv_at hl 4 rfl) ?_
      refine fw_get (pc := 112) (ci := 3) (v := .ref (d + 3)) (C := RDi) (T := TDi) (N := 3) hx hb hW in_Di hown hK.1 hw h rfl 1 (by decide) (hW _ lf_Di_18) (fun _ h => h) rfl dDi_subtract_112 ?_
      refine fw_get (pc := 115) (ci := 5) (v := .ref (d + 3 + 1)) (C := RNa) (T := TNa) (N := 2) hx hb hW in_Na hown hK.1 hw o0 rfl 0 (by decide) (hW _ lf_Di_63) (fun _ h => h) rfl dDi_subtract_115 ?_
      refine lv_iload_n (pc := 118) hx hb dDi_subtract_118 rfl (lv_at hl 6 rfl) ?_
      refine lv_iload (pc := 119) hx hb dDi_subtract_119 (lv_at hl 3 rfl) ?_
      refine lv_iadd (pc := 121) hx hb dDi_subtract_121 ?_
      rw [show ((nI ta + nI i) : Int32) = nI (ta + i) from (nI_add ta i)]
      refine fw_laldN (pc := 122) (x := lN (g1 (ta + i))) hx hb hK.1 hw 1 h2 rfl (ta + i) (show ta + i < 50 by omega) (by decide) rfl dDi_subtract_122 ?_
      have hr9 : g1 (ta + i) = gr (ta + i) := hsm _ (by omega)
      have hr8 := hgr i (by omega)
      rw [show (lN (g1 (ta + i)) : Int64) = lN (gr (ta + i)) from (by rw [hr9])]
      refine lv_lload (pc := 123) hx hb dDi_subtract_123 (lv_at hl 2 rfl) ?_
      refine lv_lload (pc := 125) hx hb dDi_subtract_125 (lv_at hl 1 rfl) ?_
      refine lv_ladd (pc := 127) hx hb dDi_subtract_127 ?_
      rw [show ((lN cy + lN bw) : Int64) = lN (cy + bw) from (lN_add _ _)]
      refine W.lcmp (pc := 128) hx hb dDi_subtract_128 ?_
      refine lv_if_ge (pc := 129) (tgt := 136) hx hb dDi_subtract_129 (by decide) (fun hc => ?_) (fun hc => ?_)
      · have h9 : cy + bw ≤ gr (ta + i) := (lN_leN (by omega) (by omega)).mp ((lg_cmp_ge _ _).mp hc)
        refine lv_iconst (pc := 136) (v := (nI 0)) hx hb dDi_subtract_136 (by decide) ?_
        exact fw_zret (pc := 137) hx hb hr hlocks hw dDi_subtract_137 (by rfl) ⟨cy + bw, g1, by rw [if_neg (by omega)], hs, ⟨o0, h2⟩, hgb, hsm, hg, ho⟩
      · have h9 : ¬ cy + bw ≤ gr (ta + i) := fun h => hc ((lg_cmp_ge _ _).mpr ((lN_leN (by omega) (by omega)).mpr h))
        refine lv_iconst (pc := 132) (v := (nI 1)) hx hb dDi_subtract_132 (by decide) ?_
        refine lv_goto (pc := 133) (tgt := 137) hx hb dDi_subtract_133 (by decide) ?_
        exact fw_zret (pc := 137) hx hb hr hlocks hw dDi_subtract_137 (by rfl) ⟨cy + bw, g1, by rw [if_pos (by omega)], hs, ⟨o0, h2⟩, hgb, hsm, hg, ho⟩
    | succ e0 ih =>
      intro i hid w1 H locs ls cy bw g1 hw hl h2 ho hg hgb hsm hcy hbw hs
      have h : w1 d = some (.inr (3, [.ref (d + 1), .ref (d + 3), .ref (d + 5)])) := (ho _ (by omega)).trans h
      have a0 : w1 (d + 5) = some (.inr (5, [.ref (d + 5 + 1), .int (nI kb)])) := (ho _ (by omega)).trans a0
      have a1 : w1 (d + 5 + 1) = some (.inl (cL, 50, .inr (.inl (fun i => lN (gd i))))) := (ho _ (by omega)).trans a1
      have o0 : w1 (d + 3) = some (.inr (5, [.ref (d + 3 + 1), .int (nI kr)])) := (ho _ (by omega)).trans o0
      refine lv_iload (pc := 18) hx hb dDi_subtract_18 (lv_at hl 0 rfl) ?_
      refine lv_iload (pc := 20) hx hb dDi_subtract_20 (lv_at hl 3 rfl) ?_
      refine lv_icmp_ge (pc := 22) (tgt := 111) hx hb dDi_subtract_22 (by decide) (fun hc => absurd hc (nI_ge (show i < kb by omega) (by omega))) (fun _ => ?_)
      refine lv_lload_n (pc := 25) hx hb dDi_subtract_25 rfl (lv_at hl 5 rfl) ?_
      refine lv_aload_n (pc := 26) hx hb dDi_subtract_26 rfl (lv_at hl 4 rfl) ?_
      refine fw_get (pc := 27) (ci := 3) (v := .ref (d + 5)) (C := RDi) (T := TDi) (N := 3) hx hb hW in_Di hown hK.1 hw h rfl 2 (by decide) (hW _ lf_Di_21) (fun _ h => h) rfl dDi_subtract_27 ?_
      refine fw_get (pc := 30) (ci := 5) (v := .ref (d + 5 + 1)) (C := RNa) (T := TNa) (N := 2) hx hb hW in_Na hown hK.1 hw a0 rfl 0 (by decide) (hW _ lf_Di_63) (fun _ h => h) rfl dDi_subtract_30 ?_
      refine lv_iload (pc := 33) hx hb dDi_subtract_33 (lv_at hl 0 rfl) ?_
      refine fw_laldN (pc := 35) (x := lN (gd (i))) hx hb hK.1 hw 1 a1 rfl (i) (show i < 50 by omega) (by decide) rfl dDi_subtract_35 ?_
      have lg : gd i < nB := hgd i (by omega)
      refine lv_lmul (pc := 36) hx hb dDi_subtract_36 ?_
      rw [show ((lN f * lN (gd (i))) : Int64) = lN (f * gd i) from (lN_mul _ _)]
      refine lv_lload (pc := 37) hx hb dDi_subtract_37 (lv_at hl 2 rfl) ?_
      refine lv_ladd (pc := 39) hx hb dDi_subtract_39 ?_
      rw [show ((lN (f * gd i) + lN cy) : Int64) = lN (f * gd i + cy) from (lN_add _ _)]
      obtain ⟨tm, htm⟩ : ∃ tm, tm = f * gd i + cy := ⟨_, rfl⟩
      rw [show (lN (f * gd i + cy) : Int64) = lN tm from (by rw [htm])]
      have hfm : f * gd i ≤ 4294967295 * 4294967295 := Nat.mul_le_mul (by omega) (by omega)
      have ht64 : tm < 2 ^ 64 := by omega
      refine lv_lstore (pc := 40) (lv' := [(10, .long (lN tm)), (9, .int (nI i)), (7, .long (lN bw)), (5, .long (lN cy)), (4, .int (nI kb)), (0, .ref d), (1, .long (lN f)), (3, .int (nI ta))]) hx hb dDi_subtract_40 hl (by decide) rfl (fun ls hl => ?_)
      refine lv_lload (pc := 42) hx hb dDi_subtract_42 (lv_at hl 0 rfl) ?_
      refine lv_bipush (pc := 44) (v := (nI 32)) hx hb dDi_subtract_44 (by decide) ?_
      refine lv_lushr (pc := 46) (v := lN (tm / 4294967296)) hx hb dDi_subtract_46 (wb_shr (k := 32) ht64 (by decide)) ?_
      refine lv_lstore (pc := 47) (lv' := [(5, .long (lN (tm / 4294967296))), (10, .long (lN tm)), (9, .int (nI i)), (7, .long (lN bw)), (4, .int (nI kb)), (0, .ref d), (1, .long (lN f)), (3, .int (nI ta))]) hx hb dDi_subtract_47 hl (by decide) rfl (fun ls hl => ?_)
      refine lv_aload_n (pc := 49) hx hb dDi_subtract_49 rfl (lv_at hl 5 rfl) ?_
      refine fw_get (pc := 50) (ci := 3) (v := .ref (d + 3)) (C := RDi) (T := TDi) (N := 3) hx hb hW in_Di hown hK.1 hw h rfl 1 (by decide) (hW _ lf_Di_18) (fun _ h => h) rfl dDi_subtract_50 ?_
      refine fw_get (pc := 53) (ci := 5) (v := .ref (d + 3 + 1)) (C := RNa) (T := TNa) (N := 2) hx hb hW in_Na hown hK.1 hw o0 rfl 0 (by decide) (hW _ lf_Di_63) (fun _ h => h) rfl dDi_subtract_53 ?_
      refine lv_iload_n (pc := 56) hx hb dDi_subtract_56 rfl (lv_at hl 7 rfl) ?_
      refine lv_iload (pc := 57) hx hb dDi_subtract_57 (lv_at hl 2 rfl) ?_
      refine lv_iadd (pc := 59) hx hb dDi_subtract_59 ?_
      rw [show ((nI ta + nI i) : Int32) = nI (ta + i) from (nI_add ta i)]
      refine fw_laldN (pc := 60) (x := lN (g1 (ta + i))) hx hb hK.1 hw 1 h2 rfl (ta + i) (show ta + i < 50 by omega) (by decide) rfl dDi_subtract_60 ?_
      have hr9 : g1 (ta + i) = gr (ta + i) := hsm _ (by omega)
      have hr8 := hgr i (by omega)
      rw [show (lN (g1 (ta + i)) : Int64) = lN (gr (ta + i)) from (by rw [hr9])]
      refine lv_lload (pc := 61) hx hb dDi_subtract_61 (lv_at hl 1 rfl) ?_
      refine lv_ldc2 (pc := 63) (v := lN 4294967295) hx hb hown (hW _ kl_Di_73) dDi_subtract_63 ?_
      refine lv_land (pc := 66) hx hb dDi_subtract_66 ?_
      rw [show ((lN tm &&& (lN 4294967295)) : Int64) = lN (tm % 4294967296) from (g_mask (s := 32) (p := 4294967296) (by decide) (by decide) ht64)]
      obtain ⟨dd, hdd⟩ : ∃ dd, dd = (gr (ta + i) + 2 ^ 64 - tm % 4294967296 - bw) % 2 ^ 64 := ⟨_, rfl⟩
      refine lv_lsub (pc := 67) hx hb dDi_subtract_67 ?_
      refine lv_lload (pc := 68) hx hb dDi_subtract_68 (lv_at hl 3 rfl) ?_
      refine lv_lsub (pc := 70) hx hb dDi_subtract_70 ?_
      rw [show (((lN (gr (ta + i)) - lN (tm % 4294967296)) - lN bw) : Int64) = lN dd from (by rw [lN_subW (by omega), lN_sub (by omega), wb_mod, hdd])]
      have hd64 : dd < 2 ^ 64 := by omega
      refine lv_lstore (pc := 71) (lv' := [(12, .long (lN dd)), (5, .long (lN (tm / 4294967296))), (10, .long (lN tm)), (9, .int (nI i)), (7, .long (lN bw)), (4, .int (nI kb)), (0, .ref d), (1, .long (lN f)), (3, .int (nI ta))]) hx hb dDi_subtract_71 hl (by decide) rfl (fun ls hl => ?_)
      refine lv_aload_n (pc := 73) hx hb dDi_subtract_73 rfl (lv_at hl 6 rfl) ?_
      refine fw_get (pc := 74) (ci := 3) (v := .ref (d + 3)) (C := RDi) (T := TDi) (N := 3) hx hb hW in_Di hown hK.1 hw h rfl 1 (by decide) (hW _ lf_Di_18) (fun _ h => h) rfl dDi_subtract_74 ?_
      refine fw_get (pc := 77) (ci := 5) (v := .ref (d + 3 + 1)) (C := RNa) (T := TNa) (N := 2) hx hb hW in_Na hown hK.1 hw o0 rfl 0 (by decide) (hW _ lf_Di_63) (fun _ h => h) rfl dDi_subtract_77 ?_
      refine lv_iload_n (pc := 80) hx hb dDi_subtract_80 rfl (lv_at hl 8 rfl) ?_
      refine lv_iload (pc := 81) hx hb dDi_subtract_81 (lv_at hl 3 rfl) ?_
      refine lv_iadd (pc := 83) hx hb dDi_subtract_83 ?_
      rw [show ((nI ta + nI i) : Int32) = nI (ta + i) from (nI_add ta i)]
      refine lv_lload (pc := 84) hx hb dDi_subtract_84 (lv_at hl 0 rfl) ?_
      refine lv_ldc2 (pc := 86) (v := lN 4294967295) hx hb hown (hW _ kl_Di_73) dDi_subtract_86 ?_
      refine lv_land (pc := 89) hx hb dDi_subtract_89 ?_
      rw [show ((lN dd &&& (lN 4294967295)) : Int64) = lN (dd % 4294967296) from (g_mask (s := 32) (p := 4294967296) (by decide) (by decide) hd64)]
      refine fw_lastN (pc := 90) (f2 := fun j => lN (va_up g1 (ta + i) (dd % 4294967296) j)) hx hb hK.1 hw 1 h2 rfl (ta + i) (show ta + i < 50 by omega) (by decide) (lN_up _ _ _) dDi_subtract_90 (fun H locs hw => ?_)
      obtain ⟨w2, e2⟩ : ∃ w_, w_ = fw_up w1 (d + 3 + 1) (.inl (cL, 50, .inr (.inl (fun j => lN (va_up g1 (ta + i) (dd % 4294967296) j))))) := ⟨_, rfl⟩
      have hw : fw_H D kCl (fw_A w (sz)) s.heap w2 (sz) H locs := by rw [e2]; exact hw
      have h_ : w2 (d) = some (.inr (3, [.ref (d + 1), .ref (d + 3), .ref (d + 5)])) := by rw [e2, fw_un (fw_neK2 h h2)]; exact h
      have a0_ : w2 (d + 5) = some (.inr (5, [.ref (d + 5 + 1), .int (nI kb)])) := by rw [e2, fw_un (fw_neK2 a0 h2)]; exact a0
      have a1_ : w2 (d + 5 + 1) = some (.inl (cL, 50, .inr (.inl (fun i => lN (gd i))))) := by rw [e2, fw_un (by omega)]; exact a1
      have o0_ : w2 (d + 3) = some (.inr (5, [.ref (d + 3 + 1), .int (nI kr)])) := by rw [e2, fw_un (fw_neK2 o0 h2)]; exact o0
      have h2_ : w2 (d + 3 + 1) = some (.inl (cL, 50, .inr (.inl (fun j => lN (va_up g1 (ta + i) (dd % 4294967296) j))))) := by rw [e2]; exact fw_us _ _ _
      have h := h_
      have a0 := a0_
      have a1 := a1_
      have o0 := o0_
      have h2 := h2_
      refine lv_lload (pc := 91) hx hb dDi_subtract_91 (lv_at hl 0 rfl) ?_
      refine lv_lconst (pc := 93) (v := lN 0) hx hb dDi_subtract_93 (by decide) ?_
      refine W.lcmp (pc := 94) hx hb dDi_subtract_94 ?_
      refine lv_if_ge (pc := 95) (tgt := 102) hx hb dDi_subtract_95 (by decide) (fun hc => ?_) (fun hc => ?_)
      · have hds : dd < 2 ^ 63 := (lN_le0 hd64).mp ((lg_cmp_ge _ _).mp hc)
        have hlm : dd % 4294967296 + tm + bw = gr (ta + i) + (tm / 4294967296 + 0) * 4294967296 := by omega
        refine lv_lconst (pc := 102) (v := lN 0) hx hb dDi_subtract_102 (by decide) ?_
        refine lv_lstore (pc := 103) (lv' := [(7, .long (lN 0)), (12, .long (lN dd)), (5, .long (lN (tm / 4294967296))), (10, .long (lN tm)), (9, .int (nI i)), (4, .int (nI kb)), (0, .ref d), (1, .long (lN f)), (3, .int (nI ta))]) hx hb dDi_subtract_103 hl (by decide) rfl (fun ls hl => ?_)
        refine lv_iinc (pc := 105) (lv' := [(9, .int (nI (i + 1))), (7, .long (lN 0)), (12, .long (lN dd)), (5, .long (lN (tm / 4294967296))), (10, .long (lN tm)), (4, .int (nI kb)), (0, .ref d), (1, .long (lN f)), (3, .int (nI ta))]) hx hb dDi_subtract_105 hl (k := 4) rfl ((nI_add i 1)) (by decide) rfl (fun ls hl => ?_)
        refine lv_goto (pc := 108) (tgt := 18) hx hb dDi_subtract_108 (by decide) ?_
        refine ih (i + 1) (by omega) _ H locs ls (tm / 4294967296) 0 (va_up g1 (ta + i) (dd % 4294967296)) hw (lv_sub hl [0, 1, 3, 5, 6, 7, 8] rfl) h2 (fun q hq => by rw [e2, fw_un hq, ho q hq]) (fun j hj => by (unfold va_up; split; omega; exact hg j hj)) (fun j hj => by (unfold va_up; split; exact Nat.mod_lt _ (by decide); exact hgb j (by omega))) (fun j hj => by (unfold va_up; rw [if_neg (by omega)]; exact hsm j (by omega))) (by omega) (by decide) ?_
        rw [nw_up, nv_s nB gd i, nw_s nB gr ta i, Nat.mul_add, Nat.pow_succ]
        have hp : (dd % 4294967296) * nB ^ i + f * (gd i * nB ^ i) + cy * nB ^ i + bw * nB ^ i = gr (ta + i) * nB ^ i + (tm / 4294967296 + 0) * (nB ^ i * nB) := by
          rw [← Nat.mul_assoc f, ← Nat.add_mul, ← Nat.add_mul, ← Nat.add_mul, show dd % 4294967296 + f * gd i + cy + bw = gr (ta + i) + (tm / 4294967296 + 0) * 4294967296 by omega, Nat.add_mul (gr (ta + i))]
          congr 1; rw [Nat.mul_assoc, Nat.mul_comm 4294967296]
        rw [Nat.add_mul cy] at hs
        omega
      · have hds : ¬ dd < 2 ^ 63 := fun h => hc ((lg_cmp_ge _ _).mpr ((lN_le0 hd64).mpr h))
        have hlm : dd % 4294967296 + tm + bw = gr (ta + i) + (tm / 4294967296 + 1) * 4294967296 := by omega
        refine lv_lconst (pc := 98) (v := lN 1) hx hb dDi_subtract_98 (by decide) ?_
        refine lv_goto (pc := 99) (tgt := 103) hx hb dDi_subtract_99 (by decide) ?_
        refine lv_lstore (pc := 103) (lv' := [(7, .long (lN 1)), (12, .long (lN dd)), (5, .long (lN (tm / 4294967296))), (10, .long (lN tm)), (9, .int (nI i)), (4, .int (nI kb)), (0, .ref d), (1, .long (lN f)), (3, .int (nI ta))]) hx hb dDi_subtract_103 hl (by decide) rfl (fun ls hl => ?_)
        refine lv_iinc (pc := 105) (lv' := [(9, .int (nI (i + 1))), (7, .long (lN 1)), (12, .long (lN dd)), (5, .long (lN (tm / 4294967296))), (10, .long (lN tm)), (4, .int (nI kb)), (0, .ref d), (1, .long (lN f)), (3, .int (nI ta))]) hx hb dDi_subtract_105 hl (k := 4) rfl ((nI_add i 1)) (by decide) rfl (fun ls hl => ?_)
        refine lv_goto (pc := 108) (tgt := 18) hx hb dDi_subtract_108 (by decide) ?_
        refine ih (i + 1) (by omega) _ H locs ls (tm / 4294967296) 1 (va_up g1 (ta + i) (dd % 4294967296)) hw (lv_sub hl [0, 1, 3, 5, 6, 7, 8] rfl) h2 (fun q hq => by rw [e2, fw_un hq, ho q hq]) (fun j hj => by (unfold va_up; split; omega; exact hg j hj)) (fun j hj => by (unfold va_up; split; exact Nat.mod_lt _ (by decide); exact hgb j (by omega))) (fun j hj => by (unfold va_up; rw [if_neg (by omega)]; exact hsm j (by omega))) (by omega) (by decide) ?_
        rw [nw_up, nv_s nB gd i, nw_s nB gr ta i, Nat.mul_add, Nat.pow_succ]
        have hp : (dd % 4294967296) * nB ^ i + f * (gd i * nB ^ i) + cy * nB ^ i + bw * nB ^ i = gr (ta + i) * nB ^ i + (tm / 4294967296 + 1) * (nB ^ i * nB) := by
          rw [← Nat.mul_assoc f, ← Nat.add_mul, ← Nat.add_mul, ← Nat.add_mul, show dd % 4294967296 + f * gd i + cy + bw = gr (ta + i) + (tm / 4294967296 + 1) * 4294967296 by omega, Nat.add_mul (gr (ta + i))]
          congr 1; rw [Nat.mul_assoc, Nat.mul_comm 4294967296]
        rw [Nat.add_mul cy] at hs
        omega
  refine lv_aload_n (pc := 0) hx hb dDi_subtract_0 rfl (lv_at hl 0 rfl) ?_
  refine fw_get (pc := 1) (ci := 3) (v := .ref (d + 5)) (C := RDi) (T := TDi) (N := 3) hx hb hW in_Di hown hK.1 hw h rfl 2 (by decide) (hW _ lf_Di_21) (fun _ h => h) rfl dDi_subtract_1 ?_
  refine fw_get (pc := 4) (ci := 5) (v := .int (nI kb)) (C := RNa) (T := TNa) (N := 2) hx hb hW in_Na hown hK.1 hw a0 rfl 1 (by decide) (hW _ lf_Di_32) (fun _ h => h) rfl dDi_subtract_4 ?_
  refine lv_istore (pc := 7) (lv' := [(4, .int (nI kb)), (0, .ref d), (1, .long (lN f)), (3, .int (nI ta))]) hx hb dDi_subtract_7 hl (by decide) rfl (fun ls hl => ?_)
  refine lv_lconst (pc := 9) (v := lN 0) hx hb dDi_subtract_9 (by decide) ?_
  refine lv_lstore (pc := 10) (lv' := [(5, .long (lN 0)), (4, .int (nI kb)), (0, .ref d), (1, .long (lN f)), (3, .int (nI ta))]) hx hb dDi_subtract_10 hl (by decide) rfl (fun ls hl => ?_)
  refine lv_lconst (pc := 12) (v := lN 0) hx hb dDi_subtract_12 (by decide) ?_
  refine lv_lstore (pc := 13) (lv' := [(7, .long (lN 0)), (5, .long (lN 0)), (4, .int (nI kb)), (0, .ref d), (1, .long (lN f)), (3, .int (nI ta))]) hx hb dDi_subtract_13 hl (by decide) rfl (fun ls hl => ?_)
  refine lv_iconst (pc := 15) (v := (nI 0)) hx hb dDi_subtract_15 (by decide) ?_
  refine lv_istore (pc := 16) (lv' := [(9, .int (nI 0)), (7, .long (lN 0)), (5, .long (lN 0)), (4, .int (nI kb)), (0, .ref d), (1, .long (lN f)), (3, .int (nI ta))]) hx hb dDi_subtract_16 hl (by decide) rfl (fun ls hl => ?_)
  exact loop kb 0 (by omega) w H [] ls 0 0 gr hw (lv_sub hl [0, 1, 2, 3, 4, 5, 6] rfl) o1 (fun q _ => rfl) hg64 (fun j hj => absurd hj (by omega)) (fun j _ => rfl) (by decide) (by decide) (by rw [nw_0, nv_0]; simp)

set_option maxHeartbeats 4000000 in
set_option maxRecDepth 100000 in
theorem c_Di_addBack {d kb kr ta : Nat} {gd gr : Nat → Nat} (h : w d = some (.inr (3, [.ref (d + 1), .ref (d + 3), .ref (d + 5)]))) (hD : isN cL w (d + 5) gd kb) (hR : isN cL w (d + 3) gr kr) (hat : ta + kb < 50) (hgd : ∀ i, i < kb → gd i < nB) (hgr : ∀ i, i < kb + 1 → gr (ta + i) < nB) (hg64 : ∀ j, j < 50 → gr j < 2 ^ 64) : fw_C l yDi_addBack (Cond.code yDi_addBack cDi_addBack 8 none :: kWs) ({ frames := 0, cells := 0, slots := 0, locals := 0 } : Room) D kCl (kty cI cL cQ) z [.ref d, .int (nI ta)] (sz) w 0 0 (fun v w' => v = none ∧ ∃ c g', nw nB g' ta kb + c * nB ^ kb = nw nB gr ta kb + nv nB gd kb ∧ isN cL w' (d + 3) g' kr ∧ (∀ i, i < kb → g' (ta + i) < nB) ∧ (∀ j, j < ta ∨ ta + kb ≤ j → g' j = gr j) ∧ (∀ j, j < 50 → g' j < 2 ^ 64) ∧ ∀ q, q ≠ d + 3 + 1 → w' q = w q) := by
  refine fw_ofW (cc := cDi_addBack) (maxL := 8) (ret := none) (by decide) rfl (Nat.le_of_ble_eq_true rfl) ?_
  intro p e s m args below meth c hx hb hr hts hown hlocks hname hml hK H ls hw hl
  have hW : ∀ w ∈ kWs, w.before args s = true := fun w h => hts w (List.mem_cons_of_mem _ h)
  have hown : s.vm.findClass RDi = some m.cls := hown
  have hl : lv_has ls 8 [(0, .ref d), (1, .int (nI ta))] := hl
  obtain ⟨a0, a1⟩ := id hD
  obtain ⟨o0, o1⟩ := id hR
  have l3 : nB = 4294967296 := rfl
  have loop : ∀ (e0 i : Nat), i + e0 = kb → ∀ (w1 : fw_W) (H : Heap) (locs : List Loc) (ls : Array Slot) (cy : Nat) (g1 : Nat → Nat), fw_H D kCl (fw_A w (sz)) s.heap w1 (sz) H locs → lv_has ls 8 [(5, .int (nI i)), (3, .long (lN cy)), (2, .int (nI kb)), (0, .ref d), (1, .int (nI ta))] → w1 (d + 3 + 1) = some (.inl (cL, 50, .inr (.inl (fun i => lN (g1 i))))) → (∀ q, q ≠ d + 3 + 1 → w1 q = w q) → (∀ j, j < 50 → g1 j < 2 ^ 64) → (∀ j, j < i → g1 (ta + j) < nB) → (∀ j, j < ta ∨ ta + i ≤ j → g1 j = gr j) → cy ≤ 1 → nw nB g1 ta i + cy * nB ^ i = nw nB gr ta i + nv nB gd i → W p l e ({ frames := 0, cells := 0, slots := 0, locals := 0 } : Room) s m args below meth c H locs 0 0 (MQ below (fw_Q D kCl w (sz) 0 (fun v w' => v = none ∧ ∃ c g', nw nB g' ta kb + c * nB ^ kb = nw nB gr ta kb + nv nB gd kb ∧ isN cL w' (d + 3) g' kr ∧ (∀ i, i < kb → g' (ta + i) < nB) ∧ (∀ j, j < ta ∨ ta + kb ≤ j → g' j = gr j) ∧ (∀ j, j < 50 → g' j < 2 ^ 64) ∧ ∀ q, q ≠ d + 3 + 1 → w' q = w q)) args s 0 0 (fw_A w (sz))) (F0 m 13 ls []) := by
    intro e0
    induction e0 with
    | zero =>
      intro i hid w1 H locs ls cy g1 hw hl h2 ho hg hgb hsm hcy hs
      have h : w1 d = some (.inr (3, [.ref (d + 1), .ref (d + 3), .ref (d + 5)])) := (ho _ (by omega)).trans h
      have a0 : w1 (d + 5) = some (.inr (5, [.ref (d + 5 + 1), .int (nI kb)])) := (ho _ (by omega)).trans a0
      have a1 : w1 (d + 5 + 1) = some (.inl (cL, 50, .inr (.inl (fun i => lN (gd i))))) := (ho _ (by omega)).trans a1
      have o0 : w1 (d + 3) = some (.inr (5, [.ref (d + 3 + 1), .int (nI kr)])) := (ho _ (by omega)).trans o0
      obtain rfl : i = kb := by omega
      refine lv_iload (pc := 13) hx hb dDi_addBack_13 (lv_at hl 0 rfl) ?_
      refine lv_iload_n (pc := 15) hx hb dDi_addBack_15 rfl (lv_at hl 2 rfl) ?_
      refine lv_icmp_ge (pc := 16) (tgt := 76) hx hb dDi_addBack_16 (by decide) (fun _ => ?_) (fun hc => absurd (nI_le (Nat.le_refl i) (by omega)) hc)
      exact fw_vret (pc := 76) hx hb hr hlocks hw dDi_addBack_76 ⟨rfl, cy, g1, hs, ⟨o0, h2⟩, hgb, hsm, hg, ho⟩
    | succ e0 ih =>
      intro i hid w1 H locs ls cy g1 hw hl h2 ho hg hgb hsm hcy hs
      have h : w1 d = some (.inr (3, [.ref (d + 1), .ref (d + 3), .ref (d + 5)])) := (ho _ (by omega)).trans h
      have a0 : w1 (d + 5) = some (.inr (5, [.ref (d + 5 + 1), .int (nI kb)])) := (ho _ (by omega)).trans a0
      have a1 : w1 (d + 5 + 1) = some (.inl (cL, 50, .inr (.inl (fun i => lN (gd i))))) := (ho _ (by omega)).trans a1
      have o0 : w1 (d + 3) = some (.inr (5, [.ref (d + 3 + 1), .int (nI kr)])) := (ho _ (by omega)).trans o0
      refine lv_iload (pc := 13) hx hb dDi_addBack_13 (lv_at hl 0 rfl) ?_
      refine lv_iload_n (pc := 15) hx hb dDi_addBack_15 rfl (lv_at hl 2 rfl) ?_
      refine lv_icmp_ge (pc := 16) (tgt := 76) hx hb dDi_addBack_16 (by decide) (fun hc => absurd hc (nI_ge (show i < kb by omega) (by omega))) (fun _ => ?_)
      refine lv_aload_n (pc := 19) hx hb dDi_addBack_19 rfl (lv_at hl 3 rfl) ?_
      refine fw_get (pc := 20) (ci := 3) (v := .ref (d + 3)) (C := RDi) (T := TDi) (N := 3) hx hb hW in_Di hown hK.1 hw h rfl 1 (by decide) (hW _ lf_Di_18) (fun _ h => h) rfl dDi_addBack_20 ?_
      refine fw_get (pc := 23) (ci := 5) (v := .ref (d + 3 + 1)) (C := RNa) (T := TNa) (N := 2) hx hb hW in_Na hown hK.1 hw o0 rfl 0 (by decide) (hW _ lf_Di_63) (fun _ h => h) rfl dDi_addBack_23 ?_
      refine lv_iload_n (pc := 26) hx hb dDi_addBack_26 rfl (lv_at hl 4 rfl) ?_
      refine lv_iload (pc := 27) hx hb dDi_addBack_27 (lv_at hl 0 rfl) ?_
      refine lv_iadd (pc := 29) hx hb dDi_addBack_29 ?_
      rw [show ((nI ta + nI i) : Int32) = nI (ta + i) from (nI_add ta i)]
      refine fw_laldN (pc := 30) (x := lN (g1 (ta + i))) hx hb hK.1 hw 1 h2 rfl (ta + i) (show ta + i < 50 by omega) (by decide) rfl dDi_addBack_30 ?_
      have hr9 : g1 (ta + i) = gr (ta + i) := hsm _ (by omega)
      have hr8 := hgr i (by omega)
      rw [show (lN (g1 (ta + i)) : Int64) = lN (gr (ta + i)) from (by rw [hr9])]
      refine lv_aload_n (pc := 31) hx hb dDi_addBack_31 rfl (lv_at hl 3 rfl) ?_
      refine fw_get (pc := 32) (ci := 3) (v := .ref (d + 5)) (C := RDi) (T := TDi) (N := 3) hx hb hW in_Di hown hK.1 hw h rfl 2 (by decide) (hW _ lf_Di_21) (fun _ h => h) rfl dDi_addBack_32 ?_
      refine fw_get (pc := 35) (ci := 5) (v := .ref (d + 5 + 1)) (C := RNa) (T := TNa) (N := 2) hx hb hW in_Na hown hK.1 hw a0 rfl 0 (by decide) (hW _ lf_Di_63) (fun _ h => h) rfl dDi_addBack_35 ?_
      refine lv_iload (pc := 38) hx hb dDi_addBack_38 (lv_at hl 0 rfl) ?_
      refine fw_laldN (pc := 40) (x := lN (gd (i))) hx hb hK.1 hw 1 a1 rfl (i) (show i < 50 by omega) (by decide) rfl dDi_addBack_40 ?_
      have lg : gd i < nB := hgd i (by omega)
      refine lv_ladd (pc := 41) hx hb dDi_addBack_41 ?_
      rw [show ((lN (gr (ta + i)) + lN (gd (i))) : Int64) = lN (gr (ta + i) + gd i) from (lN_add _ _)]
      refine lv_lload_n (pc := 42) hx hb dDi_addBack_42 rfl (lv_at hl 1 rfl) ?_
      refine lv_ladd (pc := 43) hx hb dDi_addBack_43 ?_
      rw [show ((lN (gr (ta + i) + gd i) + lN cy) : Int64) = lN (gr (ta + i) + gd i + cy) from (lN_add _ _)]
      obtain ⟨sm, hsm2⟩ : ∃ sm, sm = gr (ta + i) + gd i + cy := ⟨_, rfl⟩
      rw [show (lN (gr (ta + i) + gd i + cy) : Int64) = lN sm from (by rw [hsm2])]
      have hs64 : sm < 2 ^ 64 := by omega
      refine lv_lstore (pc := 44) (lv' := [(6, .long (lN sm)), (5, .int (nI i)), (3, .long (lN cy)), (2, .int (nI kb)), (0, .ref d), (1, .int (nI ta))]) hx hb dDi_addBack_44 hl (by decide) rfl (fun ls hl => ?_)
      refine lv_aload_n (pc := 46) hx hb dDi_addBack_46 rfl (lv_at hl 4 rfl) ?_
      refine fw_get (pc := 47) (ci := 3) (v := .ref (d + 3)) (C := RDi) (T := TDi) (N := 3) hx hb hW in_Di hown hK.1 hw h rfl 1 (by decide) (hW _ lf_Di_18) (fun _ h => h) rfl dDi_addBack_47 ?_
      refine fw_get (pc := 50) (ci := 5) (v := .ref (d + 3 + 1)) (C := RNa) (T := TNa) (N := 2) hx hb hW in_Na hown hK.1 hw o0 rfl 0 (by decide) (hW _ lf_Di_63) (fun _ h => h) rfl dDi_addBack_50 ?_
      refine lv_iload_n (pc := 53) hx hb dDi_addBack_53 rfl (lv_at hl 5 rfl) ?_
      refine lv_iload (pc := 54) hx hb dDi_addBack_54 (lv_at hl 1 rfl) ?_
      refine lv_iadd (pc := 56) hx hb dDi_addBack_56 ?_
      rw [show ((nI ta + nI i) : Int32) = nI (ta + i) from (nI_add ta i)]
      refine lv_lload (pc := 57) hx hb dDi_addBack_57 (lv_at hl 0 rfl) ?_
      refine lv_ldc2 (pc := 59) (v := lN 4294967295) hx hb hown (hW _ kl_Di_73) dDi_addBack_59 ?_
      refine lv_land (pc := 62) hx hb dDi_addBack_62 ?_
      rw [show ((lN sm &&& (lN 4294967295)) : Int64) = lN (sm % 4294967296) from (g_mask (s := 32) (p := 4294967296) (by decide) (by decide) hs64)]
      refine fw_lastN (pc := 63) (f2 := fun j => lN (va_up g1 (ta + i) (sm % 4294967296) j)) hx hb hK.1 hw 1 h2 rfl (ta + i) (show ta + i < 50 by omega) (by decide) (lN_up _ _ _) dDi_addBack_63 (fun H locs hw => ?_)
      obtain ⟨w2, e2⟩ : ∃ w_, w_ = fw_up w1 (d + 3 + 1) (.inl (cL, 50, .inr (.inl (fun j => lN (va_up g1 (ta + i) (sm % 4294967296) j))))) := ⟨_, rfl⟩
      have hw : fw_H D kCl (fw_A w (sz)) s.heap w2 (sz) H locs := by rw [e2]; exact hw
      have h_ : w2 (d) = some (.inr (3, [.ref (d + 1), .ref (d + 3), .ref (d + 5)])) := by rw [e2, fw_un (fw_neK2 h h2)]; exact h
      have a0_ : w2 (d + 5) = some (.inr (5, [.ref (d + 5 + 1), .int (nI kb)])) := by rw [e2, fw_un (fw_neK2 a0 h2)]; exact a0
      have a1_ : w2 (d + 5 + 1) = some (.inl (cL, 50, .inr (.inl (fun i => lN (gd i))))) := by rw [e2, fw_un (by omega)]; exact a1
      have o0_ : w2 (d + 3) = some (.inr (5, [.ref (d + 3 + 1), .int (nI kr)])) := by rw [e2, fw_un (fw_neK2 o0 h2)]; exact o0
      have h2_ : w2 (d + 3 + 1) = some (.inl (cL, 50, .inr (.inl (fun j => lN (va_up g1 (ta + i) (sm % 4294967296) j))))) := by rw [e2]; exact fw_us _ _ _
      have h := h_
      have a0 := a0_
      have a1 := a1_
      have o0 := o0_
      have h2 := h2_
      refine lv_lload (pc := 64) hx hb dDi_addBack_64 (lv_at hl 0 rfl) ?_
      refine lv_bipush (pc := 66) (v := (nI 32)) hx hb dDi_addBack_66 (by decide) ?_
      refine lv_lushr (pc := 68) (v := lN (sm / 4294967296)) hx hb dDi_addBack_68 (wb_shr (k := 32) hs64 (by decide)) ?_
      refine lv_lstore_n (pc := 69) (lv' := [(3, .long (lN (sm / 4294967296))), (6, .long (lN sm)), (5, .int (nI i)), (2, .int (nI kb)), (0, .ref d), (1, .int (nI ta))]) hx hb dDi_addBack_69 rfl hl (by decide) rfl (fun ls hl => ?_)
      refine lv_iinc (pc := 70) (lv' := [(5, .int (nI (i + 1))), (3, .long (lN (sm / 4294967296))), (6, .long (lN sm)), (2, .int (nI kb)), (0, .ref d), (1, .int (nI ta))]) hx hb dDi_addBack_70 hl (k := 2) rfl ((nI_add i 1)) (by decide) rfl (fun ls hl => ?_)
      refine lv_goto (pc := 73) (tgt := 13) hx hb dDi_addBack_73 (by decide) ?_
      refine ih (i + 1) (by omega) _ H locs ls (sm / 4294967296) (va_up g1 (ta + i) (sm % 4294967296)) hw (lv_sub hl [0, 1, 3, 4, 5] rfl) h2 (fun q hq => by rw [e2, fw_un hq, ho q hq]) (fun j hj => by (unfold va_up; split; omega; exact hg j hj)) (fun j hj => by (unfold va_up; split; exact Nat.mod_lt _ (by decide); exact hgb j (by omega))) (fun j hj => by (unfold va_up; rw [if_neg (by omega)]; exact hsm j (by omega))) (by omega) ?_
      rw [nw_up, nv_s nB gd i, nw_s nB gr ta i, Nat.pow_succ]
      have hp : (sm % 4294967296) * nB ^ i + sm / 4294967296 * (nB ^ i * nB) = gr (ta + i) * nB ^ i + gd i * nB ^ i + cy * nB ^ i := by
        rw [← Nat.add_mul, ← Nat.add_mul, ← hsm2, Nat.mul_comm (nB ^ i) nB, ← Nat.mul_assoc, ← Nat.add_mul]; congr 1; exact Nat.mod_add_div' sm nB
      omega
  refine lv_aload_n (pc := 0) hx hb dDi_addBack_0 rfl (lv_at hl 0 rfl) ?_
  refine fw_get (pc := 1) (ci := 3) (v := .ref (d + 5)) (C := RDi) (T := TDi) (N := 3) hx hb hW in_Di hown hK.1 hw h rfl 2 (by decide) (hW _ lf_Di_21) (fun _ h => h) rfl dDi_addBack_1 ?_
  refine fw_get (pc := 4) (ci := 5) (v := .int (nI kb)) (C := RNa) (T := TNa) (N := 2) hx hb hW in_Na hown hK.1 hw a0 rfl 1 (by decide) (hW _ lf_Di_32) (fun _ h => h) rfl dDi_addBack_4 ?_
  refine lv_istore_n (pc := 7) (lv' := [(2, .int (nI kb)), (0, .ref d), (1, .int (nI ta))]) hx hb dDi_addBack_7 rfl hl (by decide) rfl (fun ls hl => ?_)
  refine lv_lconst (pc := 8) (v := lN 0) hx hb dDi_addBack_8 (by decide) ?_
  refine lv_lstore_n (pc := 9) (lv' := [(3, .long (lN 0)), (2, .int (nI kb)), (0, .ref d), (1, .int (nI ta))]) hx hb dDi_addBack_9 rfl hl (by decide) rfl (fun ls hl => ?_)
  refine lv_iconst (pc := 10) (v := (nI 0)) hx hb dDi_addBack_10 (by decide) ?_
  refine lv_istore (pc := 11) (lv' := [(5, .int (nI 0)), (3, .long (lN 0)), (2, .int (nI kb)), (0, .ref d), (1, .int (nI ta))]) hx hb dDi_addBack_11 hl (by decide) rfl (fun ls hl => ?_)
  exact loop kb 0 (by omega) w H [] ls 0 gr hw (lv_sub hl [0, 1, 2, 3, 4] rfl) o1 (fun q _ => rfl) hg64 (fun j hj => absurd hj (by omega)) (fun j _ => rfl) (by decide) (by rw [nw_0, nv_0]; simp)
end DI1
