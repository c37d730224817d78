/-! The reference's cells as numbers of places. -/
abbrev nM : Nat := 16777216
/-- the reference's cells out of the values of its places -/
def mC (X : Nat → Nat) : Nat → Nat := fun i => X (i / 64) / nM ^ (i % 64) % nM
theorem mC_at (X : Nat → Nat) {p i : Nat} (hi : i < 64) : mC X (64 * p + i) = X p / nM ^ i % nM := by
  unfold mC
  rw [show (64 * p + i) / 64 = p by omega, show (64 * p + i) % 64 = i by omega]
theorem mC_lt (X : Nat → Nat) (i : Nat) : mC X i < nM := Nat.mod_lt _ (by decide)
theorem dg_next {b x n : Nat} : x % b ^ n + x / b ^ n % b * b ^ n = x % b ^ (n + 1) := by
  rw [Nat.pow_succ, Nat.mod_mul, Nat.mul_comm (x / b ^ n % b)]
theorem mC_nw (X : Nat → Nat) (p : Nat) {n : Nat} (hn : n ≤ 64) : nw nM (mC X) (64 * p) n = X p % nM ^ n := by
  induction n with
  | zero => rw [nw_0, Nat.pow_zero, Nat.mod_one]
  | succ n ih => rw [nw_s, ih (by omega), mC_at X (by omega), dg_next]
theorem nw_limb {b : Nat} {g : Nat → Nat} {a n m : Nat} (hb : 0 < b) (hg : ∀ i, i < n → g (a + i) < b) (hm : m < n) : g (a + m) = nw b g a n / b ^ m % b := by
  have h := nv_limb (b := b) (g := fun i => g (a + i)) (k := n) (m := m) hb hg
  rw [nl_in hm] at h
  exact h
/-- a place is written -/
theorem mC_of {C X : Nat → Nat} {a v : Nat} (h1 : ∀ i, i < 64 → C (64 * a + i) < nM) (h2 : nw nM C (64 * a) 64 = v) (h3 : ∀ j, j < 64 * a ∨ 64 * a + 64 ≤ j → C j = mC X j) : C = mC (va_up X a v) := by
  funext j
  by_cases hj : j < 64 * a ∨ 64 * a + 64 ≤ j
  · rw [h3 j hj]
    unfold mC va_up
    rw [if_neg (show ¬ j / 64 = a by omega)]
  · obtain ⟨i, rfl, hi⟩ : ∃ i, j = 64 * a + i ∧ i < 64 := ⟨j - 64 * a, by omega, by omega⟩
    rw [mC_at _ hi, nw_limb (b := nM) (by decide) h1 hi, h2]
    show _ = (if a = a then v else X a) / _ % _
    rw [if_pos rfl]
theorem mC_zero {C X : Nat → Nat} {a : Nat} (h1 : ∀ i, i < 64 → C (64 * a + i) = 0) (h3 : ∀ j, j < 64 * a ∨ 64 * a + 64 ≤ j → C j = mC X j) : C = mC (va_up X a 0) :=
  mC_of (fun i hi => by rw [h1 i hi]; decide) (nv_zero h1) h3
/-- how many limbs a number has -/
def ml (x n : Nat) : Prop := x < nM ^ n ∧ (0 < n → nM ^ (n - 1) ≤ x)
theorem ml_uniq {x n m : Nat} (h1 : ml x n) (h2 : ml x m) : n = m := by
  have key : ∀ a b, ml x a → ml x b → ¬ a < b := fun a b ha hb hlt => by
    have h3 := hb.2 (by omega)
    have h4 : nM ^ a ≤ nM ^ (b - 1) := Nat.pow_le_pow_right (by decide) (by omega)
    have h5 := ha.1
    exact absurd (Nat.lt_of_lt_of_le h5 (Nat.le_trans h4 h3)) (Nat.lt_irrefl _)
  have := key n m h1 h2; have := key m n h2 h1; omega
/-- limbs above n are 0 : then the number is below -/
theorem mC_below {X : Nat → Nat} {p n : Nat} (hX : X p < nM ^ 64) (hn : n ≤ 64) (h : ∀ i, n ≤ i → i < 64 → mC X (64 * p + i) = 0) : X p < nM ^ n := by
  have h1 := mC_nw X p (Nat.le_refl 64)
  rw [Nat.mod_eq_of_lt hX] at h1
  have h2 : nw nM (mC X) (64 * p) 64 = nw nM (mC X) (64 * p) n := nv_cut hn (fun i a b => h i a b)
  rw [← h1, h2]
  exact nw_lt (fun i _ => mC_lt X _)
theorem mC_ge {X : Nat → Nat} {p n : Nat} (hn : n < 64) (h : mC X (64 * p + n) ≠ 0) : nM ^ n ≤ X p := by
  apply Nat.le_of_not_lt; intro h2
  apply h
  rw [mC_at X hn, Nat.div_eq_of_lt h2, Nat.zero_mod]
theorem ls_ti {u v : Nat} (hu : u < 2 ^ 62) (hv : v < 2 ^ 62) : (lN u - lN v).toInt = (u : Int) - v := by
  rw [lN_subW (by omega), wb_mod, lN_ti (Nat.mod_lt _ (by decide))]
  split <;> omega
theorem ls_lt {u v : Nat} (hu : u < 2 ^ 62) (hv : v < 2 ^ 62) : lN u - lN v < lN 0 ↔ u < v := by
  rw [Int64.lt_iff_toInt_lt, ls_ti hu hv, show (lN 0).toInt = 0 from rfl]; omega
theorem ls_gt {u v : Nat} (hu : u < 2 ^ 62) (hv : v < 2 ^ 62) : lN 0 < lN u - lN v ↔ v < u := by
  rw [Int64.lt_iff_toInt_lt, ls_ti hu hv, show (lN 0).toInt = 0 from rfl]; omega
theorem ls_eq {u v : Nat} (hu : u < 2 ^ 62) (hv : v < 2 ^ 62) : lN u - lN v = lN 0 ↔ u = v := by
  rw [← Int64.toInt_inj, ls_ti hu hv, show (lN 0).toInt = 0 from rfl]; omega
theorem sb_c {A P c : Nat} (hP : P + c ≤ 2 ^ 64) : lN A - lN P + lN (2 ^ 64 - c) = lN A - lN (P + c) := by
  rw [lN_subW (by omega), lN_subW hP, lN_add, wb_mod, wb_mod (A + 2 ^ 64 - (P + c))]
  congr 1
  omega
theorem sar_i (x : Int64) (D : Int64) (d : Nat) (hD : (D.toBitVec.smod 64).toNat = d) : (x >>> D).toInt = x.toInt >>> d := by
  show (BitVec.sshiftRight' x.toBitVec (D.toBitVec.smod 64)).toInt = _
  rw [BitVec.sshiftRight', BitVec.toInt_sshiftRight, hD]; rfl
/-- a difference, masked and shifted with its sign -/
theorem df_mask {A T c : Nat} (hA : A < 16777216) (hT : T < 2 ^ 60) (hc : c = (T + 16777216 - 1 - A) / 16777216) : lN A - lN T &&& lN 16777215 = lN (A + c * 16777216 - T) ∧ A + c * 16777216 - T < 16777216 ∧ T ≤ A + c * 16777216 := by
  have h1 : T ≤ A + c * 16777216 ∧ A + c * 16777216 - T < 16777216 := by rw [hc]; omega
  refine ⟨?_, h1.2, h1.1⟩
  rw [lN_subW (by omega), wb_mod]
  have := g_mask (s := 24) (p := 16777216) (by decide) (by decide) (Nat.mod_lt (A + 2 ^ 64 - T) (show 0 < 2 ^ 64 by decide))
  rw [show (16777216 : Nat) - 1 = 16777215 from rfl] at this
  rw [this]
  congr 1
  omega
theorem df_shr {A T c : Nat} (hA : A < 16777216) (hT : T < 2 ^ 60) (hc : c = (T + 16777216 - 1 - A) / 16777216) : (lN A - lN T) >>> ((nI 24).toInt64 &&& 63) = lN (2 ^ 64 - c) := by
  apply Int64.toInt_inj.mp
  rw [sar_i _ _ 24 (by decide), ls_ti (by omega) (by omega), Int.shiftRight_eq_div_pow, wb_mod, lN_ti (Nat.mod_lt _ (by decide))]
  split <;> omega
theorem nw_split2 (b : Nat) (g : Nat → Nat) (a m n : Nat) : nw b g a (m + n) = nw b g a m + nw b g (a + m) n * b ^ m := by
  have h := nw_split b (fun i => g (a + i)) m n
  have e : nw b (fun i => g (a + i)) m n = nw b g (a + m) n := nv_eq (fun i _ => by rw [Nat.add_assoc])
  rw [e] at h
  exact h
theorem mC_hi {X : Nat → Nat} {p h : Nat} (hX : X p < nM ^ 64) (hh : h ≤ 64) : nw nM (mC X) (64 * p + h) (64 - h) = X p / nM ^ h := by
  have h1 := mC_nw X p (Nat.le_refl 64)
  rw [Nat.mod_eq_of_lt hX] at h1
  have h2 := nw_split2 nM (mC X) (64 * p) h (64 - h)
  rw [show h + (64 - h) = 64 by omega, h1, mC_nw X p hh] at h2
  have h3 := Nat.mod_add_div (X p) (nM ^ h)
  have h4 : nM ^ h * (X p / nM ^ h) = nw nM (mC X) (64 * p + h) (64 - h) * nM ^ h := by omega
  rw [Nat.mul_comm] at h4
  exact (Nat.eq_of_mul_eq_mul_right (Nat.pow_pos (by decide)) h4).symm
theorem ad_end {x y s c P : Nat} (h : s + c * P = x + y) (hs : s < P) : s = (x + y) % P := by
  rw [← h, Nat.add_mul_mod_self_right, Nat.mod_eq_of_lt hs]
theorem tk_end {Xa Xb t h s cy b : Nat} (hb : 0 < b) (hh : h ≤ 64) (hX : Xa < b ^ 64) (hs : s + t * (Xb % b ^ (64 - h)) = Xa / b ^ h + cy * b ^ (64 - h)) (hl : s < b ^ (64 - h)) (hle : t * Xb * b ^ h ≤ Xa) : Xa % b ^ h + s * b ^ h = Xa - t * Xb * b ^ h := by
  have hP : 0 < b ^ h := Nat.pow_pos hb
  have h1 : t * Xb ≤ Xa / b ^ h := (Nat.le_div_iff_mul_le hP).mpr hle
  have h2 : Xa / b ^ h < b ^ (64 - h) := by
    rw [Nat.div_lt_iff_lt_mul hP, ← Nat.pow_add, show 64 - h + h = 64 by omega]; exact hX
  have h3 : t * (Xb % b ^ (64 - h)) = t * Xb := by
    by_cases h0 : t = 0
    · rw [h0, Nat.zero_mul, Nat.zero_mul]
    · have : Xb ≤ t * Xb := Nat.le_mul_of_pos_left _ (by omega)
      rw [Nat.mod_eq_of_lt (by omega)]
  rw [h3] at hs
  have h4 : cy = 0 := by
    apply Classical.byContradiction; intro h0
    have : 1 * b ^ (64 - h) ≤ cy * b ^ (64 - h) := Nat.mul_le_mul_right _ (by omega)
    omega
  rw [h4] at hs
  have h5 : s = Xa / b ^ h - t * Xb := by omega
  have h6 := Nat.mod_add_div Xa (b ^ h)
  rw [Nat.mul_comm] at h6
  rw [h5, Nat.sub_mul]
  have h7 : t * Xb * b ^ h ≤ Xa / b ^ h * b ^ h := Nat.mul_le_mul_right _ h1
  omega
theorem mC_lt24 {X : Nat → Nat} (i : Nat) : mC X i < 16777216 := mC_lt X i
/-- the block of c, its first k cells taken from the block of a -/
def cpy (C : Nat → Nat) (a c k : Nat) : Nat → Nat := fun j => if 64 * c ≤ j ∧ j < 64 * c + k then C (64 * a + (j - 64 * c)) else C j
theorem cpy_0 (C : Nat → Nat) (a c : Nat) : cpy C a c 0 = C := by
  funext j; unfold cpy; rw [if_neg (by omega)]
theorem cpy_s (C : Nat → Nat) (a c k : Nat) : va_up (cpy C a c k) (64 * c + k) (C (64 * a + k)) = cpy C a c (k + 1) := by
  funext j
  unfold va_up cpy
  by_cases h : j = 64 * c + k
  · rw [if_pos h, if_pos (by omega), h, show 64 * c + k - 64 * c = k by omega]
  · rw [if_neg h]
    by_cases h2 : 64 * c ≤ j ∧ j < 64 * c + k
    · rw [if_pos h2, if_pos (by omega)]
    · rw [if_neg h2, if_neg (by omega)]
theorem cpy_a {C : Nat → Nat} {a c k i : Nat} (h : a ≠ c) (hi : i < 64) (hk : k ≤ 64) : cpy C a c k (64 * a + i) = C (64 * a + i) := by
  unfold cpy; rw [if_neg (by omega)]
theorem cpy_all {X : Nat → Nat} {a c : Nat} (hX : X a < nM ^ 64) : cpy (mC X) a c 64 = mC (va_up X c (X a)) := by
  have e : ∀ i, i < 64 → cpy (mC X) a c 64 (64 * c + i) = mC X (64 * a + i) := fun i hi => by
    unfold cpy; rw [if_pos (by omega), show 64 * c + i - 64 * c = i by omega]
  refine mC_of (fun i hi => by rw [e i hi]; exact mC_lt X _) ?_ (fun j hj => by unfold cpy; rw [if_neg (by omega)])
  have h1 := mC_nw X a (Nat.le_refl 64)
  rw [Nat.mod_eq_of_lt hX] at h1
  rw [← h1]
  exact nv_eq e
theorem clr_all (X : Nat → Nat) (a : Nat) : clr (mC X) a 64 = mC (va_up X a 0) :=
  mC_zero (fun i hi => by unfold clr; rw [if_pos (by omega)]) (fun j hj => by unfold clr; rw [if_neg (by omega)])
theorem mC_val {X : Nat → Nat} {p : Nat} (hX : X p < nM ^ 64) : nw nM (mC X) (64 * p) 64 = X p := by
  have h1 := mC_nw X p (Nat.le_refl 64)
  rwa [Nat.mod_eq_of_lt hX] at h1
theorem ml_great {x n : Nat} (h : ml x n) : 32 < n ↔ ¬ x < 2 ^ 768 := by
  have e : (2 : Nat) ^ 768 = nM ^ 32 := by decide +kernel
  rw [e]
  constructor
  · intro h1 h2
    have h3 := h.2 (by omega)
    have h4 : nM ^ 32 ≤ nM ^ (n - 1) := Nat.pow_le_pow_right (by decide) (by omega)
    exact absurd h2 (Nat.not_lt.mpr (Nat.le_trans h4 h3))
  · intro h1
    apply Classical.byContradiction; intro h2
    have h4 : nM ^ n ≤ nM ^ 32 := Nat.pow_le_pow_right (by decide) (by omega)
    exact h1 (Nat.lt_of_lt_of_le h.1 h4)
theorem shD {k : Nat} (hk : k < 64) : (((nI k).toInt64 &&& 63).toBitVec.smod 64).toNat = k := by rw [wb_c k hk]; rw [wb_tb, wb_sm k hk, BitVec.toNat_ofNat, Nat.mod_eq_of_lt (by omega)]
theorem mbit (x k : Nat) : x / nM ^ (k / 24) % nM / 2 ^ (k % 24) % 2 = x / 2 ^ k % 2 := by
  rw [show nM = 2 ^ 24 from rfl, bit_mod (Nat.mod_lt _ (by decide)), ← Nat.pow_mul, Nat.div_div_eq_div_mul, ← Nat.pow_add, Nat.div_add_mod]
/-! The reference's methods, third part. Written by wip/gen/model3.py. -/
section MO3
variable {l : Launch} {D : va_G} {cI cL cQ : ClassId} {z : kZ_T} {sz : Nat} {w : fw_W}
set_option maxHeartbeats 4000000 in
set_option maxRecDepth 100000 in
theorem c_Mo_copy {b : Nat} {I : Nat → Nat} {K : Nat → Nat → Nat} {S : Nat → Int32} {X : Nat → Nat} (hS : moS cI cL w b I K S (mC X)) (hX : ∀ p, X p < nM ^ 64) {pa pc9 : Nat} (ha : pa < 24) (hc : pc9 < 24) (hne : pa ≠ pc9) : fw_C l yMo_copy (Cond.code yMo_copy cMo_copy 4 none :: kWs) ({ frames := 0, cells := 0, slots := 0, locals := 0 } : Room) D kCl (kty cI cL cQ) z [.ref b, .int (nI pa), .int (nI pc9)] (sz) w 0 0 (fun v w' => v = none ∧ moS cI cL w' b (I) K (va_up S pc9 (S pa)) (mC (va_up X pc9 (X pa))) ∧ ∀ q, q < b ∨ b + 9 ≤ q → w' q = w q) := by
  refine fw_ofW (cc := cMo_copy) (maxL := 4) (ret := none) (by decide) rfl (Nat.le_of_ble_eq_true rfl) ?_
  intro p e s m args below meth c hx hb hr hts hown hlocks hname hml hK H ls hw hl
  have hW : ∀ w ∈ kWs, w.before args s = true := fun w h => hts w (List.mem_cons_of_mem _ h)
  have hown : s.vm.findClass RMo = some m.cls := hown
  have hl : lv_has ls 4 [(0, .ref b), (1, .int (nI pa)), (2, .int (nI pc9))] := hl
  have b0 : w b = some (.inr (10, [.int (nI (I 0)), .ref (b + 1), .ref (b + 2), .int (nI (I 3)), .ref (b + 3), .ref (b + 4), .int (nI (I 6)), .int (nI (I 7)), .ref (b + 5), .ref (b + 6), .int (nI (I 10)), .int (nI (I 11)), .int (nI (I 12)), .int (nI (I 13)), .ref (b + 7), .ref (b + 8), .int (nI (I 16)), .int (nI (I 17)), .int (nI (I 18)), .int (nI (I 19))])) := hS.1
  have b1 : w (b + 1) = some (.inl (cL, 1536, .inr (.inl (fun i => lN (mC X i))))) := hS.2.1
  have b2 : w (b + 2) = some (.inl (cI, 24, .inl (S))) := hS.2.2.1
  have b09 := b0
  have b29 := b2
  have loop : ∀ (e0 k : Nat), k + e0 = 64 → ∀ (w1 : fw_W) (H : Heap) (locs : List Loc) (ls : Array Slot), fw_H D kCl (fw_A w (sz)) s.heap w1 (sz) H locs → lv_has ls 4 [(3, .int (nI k)), (0, .ref b), (1, .int (nI pa)), (2, .int (nI pc9))] → w1 (b + 1) = some (.inl (cL, 1536, .inr (.inl (fun i => lN (cpy (mC X) pa pc9 k i))))) → (∀ q, q ≠ b + 1 → w1 q = w q) → W p l e ({ frames := 0, cells := 0, slots := 0, locals := 0 } : Room) s m args below meth c H locs 0 0 (MQ below (fw_Q D kCl w (sz) 0 (fun v w' => v = none ∧ moS cI cL w' b (I) K (va_up S pc9 (S pa)) (mC (va_up X pc9 (X pa))) ∧ ∀ q, q < b ∨ b + 9 ≤ q → w' q = w q)) args s 0 0 (fw_A w (sz))) (F0 m 2 ls []) := by
    intro e0
    induction e0 with
    | zero =>
      intro k hke w1 H locs ls hw hl b1 ho
      have b0 : w1 b = some (.inr (10, [.int (nI (I 0)), .ref (b + 1), .ref (b + 2), .int (nI (I 3)), .ref (b + 3), .ref (b + 4), .int (nI (I 6)), .int (nI (I 7)), .ref (b + 5), .ref (b + 6), .int (nI (I 10)), .int (nI (I 11)), .int (nI (I 12)), .int (nI (I 13)), .ref (b + 7), .ref (b + 8), .int (nI (I 16)), .int (nI (I 17)), .int (nI (I 18)), .int (nI (I 19))])) := (ho _ (by omega)).trans b09
      have b2 : w1 (b + 2) = some (.inl (cI, 24, .inl (S))) := (ho _ (by omega)).trans b29
      refine lv_iload_n (pc := 2) hx hb dMo_copy_2 rfl (lv_at hl 0 rfl) ?_
      refine lv_bipush (pc := 3) (v := (nI 64)) hx hb dMo_copy_3 (by decide) ?_
      refine lv_icmp_ge (pc := 5) (tgt := 36) hx hb dMo_copy_5 (by decide) (fun _ => ?_) (fun hc => absurd (nI_le (show 64 ≤ k by omega) (by omega)) hc)
      refine lv_aload_n (pc := 36) hx hb dMo_copy_36 rfl (lv_at hl 1 rfl) ?_
      refine fw_get (pc := 37) (ci := 10) (v := .ref (b + 2)) (C := RMo) (T := TMo) (N := 20) hx hb hW in_Mo hown hK.1 hw b0 rfl 2 (by decide) (hW _ lf_Mo_13) (fun _ h => h) rfl dMo_copy_37 ?_
      refine lv_iload_n (pc := 40) hx hb dMo_copy_40 rfl (lv_at hl 3 rfl) ?_
      refine lv_aload_n (pc := 41) hx hb dMo_copy_41 rfl (lv_at hl 1 rfl) ?_
      refine fw_get (pc := 42) (ci := 10) (v := .ref (b + 2)) (C := RMo) (T := TMo) (N := 20) hx hb hW in_Mo hown hK.1 hw b0 rfl 2 (by decide) (hW _ lf_Mo_13) (fun _ h => h) rfl dMo_copy_42 ?_
      refine lv_iload_n (pc := 45) hx hb dMo_copy_45 rfl (lv_at hl 2 rfl) ?_
      refine fw_ialdN (pc := 46) (x := S pa) hx hb hK.1 hw 0 b2 rfl (pa) ha (by decide) rfl dMo_copy_46 ?_
      refine fw_iastN (pc := 47) (f2 := va_up S pc9 (S pa)) hx hb hK.1 hw 0 b2 rfl (pc9) hc (by decide) (rfl) dMo_copy_47 (fun H locs hw => ?_)
      obtain ⟨w2, e2⟩ : ∃ w_, w_ = fw_up w1 (b + 2) (.inl (cI, 24, .inl (va_up S pc9 (S pa)))) := ⟨_, rfl⟩
      have hw : fw_H D kCl (fw_A w (sz)) s.heap w2 (sz) H locs := by rw [e2]; exact hw
      have b0_ : w2 (b) = some (.inr (10, [.int (nI (I 0)), .ref (b + 1), .ref (b + 2), .int (nI (I 3)), .ref (b + 3), .ref (b + 4), .int (nI (I 6)), .int (nI (I 7)), .ref (b + 5), .ref (b + 6), .int (nI (I 10)), .int (nI (I 11)), .int (nI (I 12)), .int (nI (I 13)), .ref (b + 7), .ref (b + 8), .int (nI (I 16)), .int (nI (I 17)), .int (nI (I 18)), .int (nI (I 19))])) := by rw [e2, fw_un (by omega)]; exact b0
      have b1_ : w2 (b + 1) = some (.inl (cL, 1536, .inr (.inl (fun i => lN (cpy (mC X) pa pc9 k i))))) := by rw [e2, fw_un (by omega)]; exact b1
      have b2_ : w2 (b + 2) = some (.inl (cI, 24, .inl (va_up S pc9 (S pa)))) := by rw [e2]; exact fw_us _ _ _
      have b0 := b0_
      have b1 := b1_
      have b2 := b2_
      rw [show k = 64 by omega, cpy_all (hX pa)] at b1
      exact fw_vret (pc := 48) hx hb hr hlocks hw dMo_copy_48 ⟨rfl, moS.cs hS b1 b2 (fun q h1 h2 => by rw [e2, fw_un h2, ho q h1]), fun q hq => by rw [e2, fw_un (by omega), ho q (by omega)]⟩
    | succ e0 ih =>
      intro k hke w1 H locs ls hw hl b1 ho
      have b0 : w1 b = some (.inr (10, [.int (nI (I 0)), .ref (b + 1), .ref (b + 2), .int (nI (I 3)), .ref (b + 3), .ref (b + 4), .int (nI (I 6)), .int (nI (I 7)), .ref (b + 5), .ref (b + 6), .int (nI (I 10)), .int (nI (I 11)), .int (nI (I 12)), .int (nI (I 13)), .ref (b + 7), .ref (b + 8), .int (nI (I 16)), .int (nI (I 17)), .int (nI (I 18)), .int (nI (I 19))])) := (ho _ (by omega)).trans b09
      have b2 : w1 (b + 2) = some (.inl (cI, 24, .inl (S))) := (ho _ (by omega)).trans b29
      refine lv_iload_n (pc := 2) hx hb dMo_copy_2 rfl (lv_at hl 0 rfl) ?_
      refine lv_bipush (pc := 3) (v := (nI 64)) hx hb dMo_copy_3 (by decide) ?_
      refine lv_icmp_ge (pc := 5) (tgt := 36) hx hb dMo_copy_5 (by decide) (fun hc => absurd hc (nI_ge (show k < 64 by omega) (by decide))) (fun _ => ?_)
      refine lv_aload_n (pc := 8) hx hb dMo_copy_8 rfl (lv_at hl 1 rfl) ?_
      refine fw_get (pc := 9) (ci := 10) (v := .ref (b + 1)) (C := RMo) (T := TMo) (N := 20) hx hb hW in_Mo hown hK.1 hw b0 rfl 1 (by decide) (hW _ lf_Mo_7) (fun _ h => h) rfl dMo_copy_9 ?_
      refine lv_bipush (pc := 12) (v := (nI 64)) hx hb dMo_copy_12 (by decide) ?_
      refine lv_iload_n (pc := 14) hx hb dMo_copy_14 rfl (lv_at hl 3 rfl) ?_
      refine lv_imul (pc := 15) hx hb dMo_copy_15 ?_
      rw [show (((nI 64) * nI pc9) : Int32) = nI (64 * pc9) from (nI_mul 64 pc9)]
      refine lv_iload_n (pc := 16) hx hb dMo_copy_16 rfl (lv_at hl 0 rfl) ?_
      refine lv_iadd (pc := 17) hx hb dMo_copy_17 ?_
      rw [show ((nI (64 * pc9) + nI k) : Int32) = nI (64 * pc9 + k) from (nI_add (64 * pc9) k)]
      refine lv_aload_n (pc := 18) hx hb dMo_copy_18 rfl (lv_at hl 1 rfl) ?_
      refine fw_get (pc := 19) (ci := 10) (v := .ref (b + 1)) (C := RMo) (T := TMo) (N := 20) hx hb hW in_Mo hown hK.1 hw b0 rfl 1 (by decide) (hW _ lf_Mo_7) (fun _ h => h) rfl dMo_copy_19 ?_
      refine lv_bipush (pc := 22) (v := (nI 64)) hx hb dMo_copy_22 (by decide) ?_
      refine lv_iload_n (pc := 24) hx hb dMo_copy_24 rfl (lv_at hl 2 rfl) ?_
      refine lv_imul (pc := 25) hx hb dMo_copy_25 ?_
      rw [show (((nI 64) * nI pa) : Int32) = nI (64 * pa) from (nI_mul 64 pa)]
      refine lv_iload_n (pc := 26) hx hb dMo_copy_26 rfl (lv_at hl 0 rfl) ?_
      refine lv_iadd (pc := 27) hx hb dMo_copy_27 ?_
      rw [show ((nI (64 * pa) + nI k) : Int32) = nI (64 * pa + k) from (nI_add (64 * pa) k)]
      refine fw_laldN (pc := 28) (x := lN (cpy (mC X) pa pc9 k (64 * pa + k))) hx hb hK.1 hw 1 b1 rfl (64 * pa + k) (by omega) (by decide) rfl dMo_copy_28 ?_
      rw [show (lN (cpy (mC X) pa pc9 k (64 * pa + k)) : Int64) = lN (mC X (64 * pa + k)) from (by rw [cpy_a hne (by omega) (by omega)])]
      refine fw_lastN (pc := 29) (f2 := fun i => lN (cpy (mC X) pa pc9 (k + 1) i)) hx hb hK.1 hw 1 b1 rfl (64 * pc9 + k) (by omega) (by decide) (by rw [lN_up, cpy_s]) dMo_copy_29 (fun H locs hw => ?_)
      obtain ⟨w2, e2⟩ : ∃ w_, w_ = fw_up w1 (b + 1) (.inl (cL, 1536, .inr (.inl (fun i => lN (cpy (mC X) pa pc9 (k + 1) i))))) := ⟨_, rfl⟩
      have hw : fw_H D kCl (fw_A w (sz)) s.heap w2 (sz) H locs := by rw [e2]; exact hw
      have b0_ : w2 (b) = some (.inr (10, [.int (nI (I 0)), .ref (b + 1), .ref (b + 2), .int (nI (I 3)), .ref (b + 3), .ref (b + 4), .int (nI (I 6)), .int (nI (I 7)), .ref (b + 5), .ref (b + 6), .int (nI (I 10)), .int (nI (I 11)), .int (nI (I 12)), .int (nI (I 13)), .ref (b + 7), .ref (b + 8), .int (nI (I 16)), .int (nI (I 17)), .int (nI (I 18)), .int (nI (I 19))])) := by rw [e2, fw_un (by omega)]; exact b0
      have b2_ : w2 (b + 2) = some (.inl (cI, 24, .inl (S))) := by rw [e2, fw_un (by omega)]; exact b2
      have b1_ : w2 (b + 1) = some (.inl (cL, 1536, .inr (.inl (fun i => lN (cpy (mC X) pa pc9 (k + 1) i))))) := by rw [e2]; exact fw_us _ _ _
      have b0 := b0_
      have b1 := b1_
      have b2 := b2_
      refine lv_iinc (pc := 30) (lv' := [(3, .int (nI (k + 1))), (0, .ref b), (1, .int (nI pa)), (2, .int (nI pc9))]) hx hb dMo_copy_30 hl (k := 0) rfl ((nI_add k 1)) (by decide) rfl (fun ls hl => ?_)
      refine lv_goto (pc := 33) (tgt := 2) hx hb dMo_copy_33 (by decide) ?_
      exact ih (k + 1) (by omega) _ H locs ls hw (lv_sub hl [0, 1, 2, 3] rfl) b1 (fun q hq => by rw [e2, fw_un hq, ho q hq])
  refine lv_iconst (pc := 0) (v := (nI 0)) hx hb dMo_copy_0 (by decide) ?_
  refine lv_istore_n (pc := 1) (lv' := [(3, .int (nI 0)), (0, .ref b), (1, .int (nI pa)), (2, .int (nI pc9))]) hx hb dMo_copy_1 rfl hl (by decide) rfl (fun ls hl => ?_)
  exact loop 64 0 (by decide) w H [] ls hw (lv_sub hl [0, 1, 2, 3] rfl) (by rw [cpy_0]; exact b1) (fun q _ => rfl)

set_option maxHeartbeats 4000000 in
set_option maxRecDepth 100000 in
theorem c_Mo_limbs {b : Nat} {I : Nat → Nat} {K : Nat → Nat → Nat} {S : Nat → Int32} {X : Nat → Nat} (hS : moS cI cL w b I K S (mC X)) (hX : ∀ p, X p < nM ^ 64) {p0 : Nat} (hp : p0 < 24) : fw_R l yMo_limbs (Cond.code yMo_limbs cMo_limbs 3 (some FieldType.int) :: kWs) ({ frames := 0, cells := 0, slots := 0, locals := 0 } : Room) D kCl (kty cI cL cQ) z [.ref b, .int (nI p0)] (sz) w (fun v => ∃ n, v = some (.int (nI n)) ∧ n ≤ 64 ∧ ml (X p0) n) := by
  refine fw_ofR (cc := cMo_limbs) (maxL := 3) (ret := (some FieldType.int)) (by decide) rfl (Nat.le_of_ble_eq_true rfl) ?_
  intro p e s m args below meth c hx hb hr hts hown hlocks hml hK H ls hH hw hl
  have hW : ∀ w ∈ kWs, w.before args s = true := fun w h => hts w (List.mem_cons_of_mem _ h)
  have hown : s.vm.findClass RMo = some m.cls := hown
  have hl : lv_has ls 3 [(0, .ref b), (1, .int (nI p0))] := hl
  have b0 : w b = some (.inr (10, [.int (nI (I 0)), .ref (b + 1), .ref (b + 2), .int (nI (I 3)), .ref (b + 3), .ref (b + 4), .int (nI (I 6)), .int (nI (I 7)), .ref (b + 5), .ref (b + 6), .int (nI (I 10)), .int (nI (I 11)), .int (nI (I 12)), .int (nI (I 13)), .ref (b + 7), .ref (b + 8), .int (nI (I 16)), .int (nI (I 17)), .int (nI (I 18)), .int (nI (I 19))])) := hS.1
  have b1 : w (b + 1) = some (.inl (cL, 1536, .inr (.inl (fun i => lN (mC X i))))) := hS.2.1
  have b2 : w (b + 2) = some (.inl (cI, 24, .inl (S))) := hS.2.2.1
  have b09 := b0
  have b29 := b2
  have loop : ∀ (n : Nat), n ≤ 64 → (∀ i, n ≤ i → i < 64 → mC X (64 * p0 + i) = 0) → ∀ (ls : Array Slot), lv_has ls 3 [(2, .int (nI n)), (0, .ref b), (1, .int (nI p0))] → W p l e ({ frames := 0, cells := 0, slots := 0, locals := 0 } : Room) s m args below meth c H [] 0 0 (MQ below (fw_RQ (fun v => ∃ n, v = some (.int (nI n)) ∧ n ≤ 64 ∧ ml (X p0) n)) args s 0 0 (fun _ => False)) (F0 m 3 ls []) := by
    intro n
    induction n with
    | zero =>
      intro hn hz ls hl
      refine lv_iload_n (pc := 3) hx hb dMo_limbs_3 rfl (lv_at hl 0 rfl) ?_
      refine lv_if_le (pc := 4) (tgt := 31) hx hb dMo_limbs_4 (by decide) (fun _ => ?_) (fun hc => absurd (show nI 0 ≤ 0 by decide) hc)
      refine lv_iload_n (pc := 31) hx hb dMo_limbs_31 rfl (lv_at hl 0 rfl) ?_
      exact fw_iretR (pc := 32) hx hb hr hlocks hH dMo_limbs_32 ⟨0, rfl, by decide, mC_below (hX p0) (by decide) hz, fun h => absurd h (by decide)⟩
    | succ n ih =>
      intro hn hz ls hl
      refine lv_iload_n (pc := 3) hx hb dMo_limbs_3 rfl (lv_at hl 0 rfl) ?_
      refine lv_if_le (pc := 4) (tgt := 31) hx hb dMo_limbs_4 (by decide) (fun hc => absurd hc (nI_nle (by omega) (by omega))) (fun _ => ?_)
      refine lv_aload_n (pc := 7) hx hb dMo_limbs_7 rfl (lv_at hl 1 rfl) ?_
      refine fw_get (pc := 8) (ci := 10) (v := .ref (b + 1)) (C := RMo) (T := TMo) (N := 20) hx hb hW in_Mo hown hK.1 hw b0 rfl 1 (by decide) (hW _ lf_Mo_7) (fun _ h => h) rfl dMo_limbs_8 ?_
      refine lv_bipush (pc := 11) (v := (nI 64)) hx hb dMo_limbs_11 (by decide) ?_
      refine lv_iload_n (pc := 13) hx hb dMo_limbs_13 rfl (lv_at hl 2 rfl) ?_
      refine lv_imul (pc := 14) hx hb dMo_limbs_14 ?_
      rw [show (((nI 64) * nI p0) : Int32) = nI (64 * p0) from (nI_mul 64 p0)]
      refine lv_iload_n (pc := 15) hx hb dMo_limbs_15 rfl (lv_at hl 0 rfl) ?_
      refine lv_iadd (pc := 16) hx hb dMo_limbs_16 ?_
      rw [show ((nI (64 * p0) + nI (n + 1)) : Int32) = nI (64 * p0 + (n + 1)) from (nI_add (64 * p0) (n + 1))]
      refine lv_iconst (pc := 17) (v := (nI 1)) hx hb dMo_limbs_17 (by decide) ?_
      refine lv_isub (pc := 18) hx hb dMo_limbs_18 ?_
      rw [show ((nI (64 * p0 + (n + 1)) - (nI 1)) : Int32) = nI (64 * p0 + n) from (by rw [nI_subL (by omega)]; congr 1)]
      refine fw_laldN (pc := 19) (x := lN (mC X (64 * p0 + n))) hx hb hK.1 hw 1 b1 rfl (64 * p0 + n) (by omega) (by decide) rfl dMo_limbs_19 ?_
      have hl24 := mC_lt24 (X := X) (64 * p0 + n)
      refine lv_lconst (pc := 20) (v := lN 0) hx hb dMo_limbs_20 (by decide) ?_
      refine W.lcmp (pc := 21) hx hb dMo_limbs_21 ?_
      refine lv_if_ne (pc := 22) (tgt := 31) hx hb dMo_limbs_22 (by decide) (fun hc => ?_) (fun hc => ?_)
      · have hne : mC X (64 * p0 + n) ≠ 0 := fun h9 => hc ((lg_cmp_eq _ _).mpr (by rw [h9]))
        refine lv_iload_n (pc := 31) hx hb dMo_limbs_31 rfl (lv_at hl 0 rfl) ?_
        exact fw_iretR (pc := 32) hx hb hr hlocks hH dMo_limbs_32 ⟨n + 1, rfl, hn, mC_below (hX p0) hn (fun i h1 h2 => hz i h1 h2), fun _ => mC_ge (by omega) hne⟩
      · have heq : mC X (64 * p0 + n) = 0 := lN_inj (by omega) (by decide) ((lg_cmp_eq _ _).mp hc)
        refine lv_iinc (pc := 25) (lv' := [(2, .int (nI n)), (0, .ref b), (1, .int (nI p0))]) hx hb dMo_limbs_25 hl (k := 0) rfl ((by rw [show Int32.ofInt (-1) = -(nI 1) by decide, ← Int32.sub_eq_add_neg]; exact nI_pred n)) (by decide) rfl (fun ls hl => ?_)
        refine lv_goto (pc := 28) (tgt := 3) hx hb dMo_limbs_28 (by decide) ?_
        exact ih (by omega) (fun i h1 h2 => by (rcases Nat.eq_or_lt_of_le h1 with rfl | h3); exact heq; exact hz i h3 h2) ls (lv_sub hl [0, 1, 2] rfl)
  refine lv_bipush (pc := 0) (v := (nI 64)) hx hb dMo_limbs_0 (by decide) ?_
  refine lv_istore_n (pc := 2) (lv' := [(2, .int (nI 64)), (0, .ref b), (1, .int (nI p0))]) hx hb dMo_limbs_2 rfl hl (by decide) rfl (fun ls hl => ?_)
  exact loop 64 (Nat.le_refl 64) (fun i h1 h2 => absurd h2 (by omega)) ls (lv_sub hl [0, 1, 2] rfl)

set_option maxHeartbeats 4000000 in
set_option maxRecDepth 100000 in
theorem c_Mo_isGreat {b : Nat} {I : Nat → Nat} {K : Nat → Nat → Nat} {S : Nat → Int32} {X : Nat → Nat} (hS : moS cI cL w b I K S (mC X)) (hX : ∀ p, X p < nM ^ 64) {p0 : Nat} (hp : p0 < 24) : fw_R l yMo_isGreat (Cond.code yMo_isGreat cMo_isGreat 2 (some FieldType.boolean) :: kWs) ({ frames := 1, cells := 0, slots := 0, locals := 22 } : Room) D kCl (kty cI cL cQ) z [.ref b, .int (nI p0)] (sz) w (fun v => v = some (.int (nI (if X p0 < 2 ^ 768 then 0 else 1)))) := by
  refine fw_ofR (cc := cMo_isGreat) (maxL := 2) (ret := (some FieldType.boolean)) (by decide) rfl (Nat.le_of_ble_eq_true rfl) ?_
  intro p e s m args below meth c hx hb hr hts hown hlocks hml hK H ls hH hw hl
  have hW : ∀ w ∈ kWs, w.before args s = true := fun w h => hts w (List.mem_cons_of_mem _ h)
  have hown : s.vm.findClass RMo = some m.cls := hown
  have hl : lv_has ls 2 [(0, .ref b), (1, .int (nI p0))] := hl
  have b0 : w b = some (.inr (10, [.int (nI (I 0)), .ref (b + 1), .ref (b + 2), .int (nI (I 3)), .ref (b + 3), .ref (b + 4), .int (nI (I 6)), .int (nI (I 7)), .ref (b + 5), .ref (b + 6), .int (nI (I 10)), .int (nI (I 11)), .int (nI (I 12)), .int (nI (I 13)), .ref (b + 7), .ref (b + 8), .int (nI (I 16)), .int (nI (I 17)), .int (nI (I 18)), .int (nI (I 19))])) := hS.1
  have b1 : w (b + 1) = some (.inl (cL, 1536, .inr (.inl (fun i => lN (mC X i))))) := hS.2.1
  have b2 : w (b + 2) = some (.inl (cI, 24, .inl (S))) := hS.2.2.1
  have b09 := b0
  have b29 := b2
  refine lv_aload_n (pc := 0) hx hb dMo_isGreat_0 rfl (lv_at hl 0 rfl) ?_
  refine lv_iload_n (pc := 1) hx hb dMo_isGreat_1 rfl (lv_at hl 1 rfl) ?_
  refine fw_cVR (pc := 2) (As := [.int (nI p0)]) (rest := []) ⟨hx, hb, hml, hown, hW⟩ (c_Mo_limbs hS hX hp) (cwV 1 hW (kw_V lm_Mo_128 im_Mo_limbs se_Mo_limbs ini_Mo cd_Mo_limbs) rfl rfl rfl (by decide +kernel) ⟨Nat.le_of_ble_eq_true rfl, Nat.le_of_ble_eq_true rfl⟩) hK hw b0 rfl rfl hl.1 rfl (Nat.le_of_ble_eq_true rfl) dMo_isGreat_2 ⟨Nat.le_of_ble_eq_true rfl, Nat.le_of_ble_eq_true rfl⟩ (fun v hq => ?_)
  obtain ⟨n, rfl, hn, hml2⟩ := hq
  refine W.eq (g2 := F0 m 5 ls [.int (nI n)]) rfl ?_
  have hgr := ml_great hml2
  refine lv_bipush (pc := 5) (v := (nI 32)) hx hb dMo_isGreat_5 (by decide) ?_
  refine lv_icmp_le (pc := 7) (tgt := 14) hx hb dMo_isGreat_7 (by decide) (fun hc => ?_) (fun hc => ?_)
  · have h9 : ¬ 32 < n := fun h8 => absurd hc (nI_ge h8 (by omega))
    refine lv_iconst (pc := 14) (v := (nI 0)) hx hb dMo_isGreat_14 (by decide) ?_
    exact fw_zretR (pc := 15) hx hb hr hlocks hH dMo_isGreat_15 (by rfl) (by rw [if_pos (Classical.byContradiction fun h8 => h9 (hgr.mpr h8))])
  · have h9 : 32 < n := Classical.byContradiction fun h8 => hc (nI_le (show n ≤ 32 by omega) (by decide))
    refine lv_iconst (pc := 10) (v := (nI 1)) hx hb dMo_isGreat_10 (by decide) ?_
    refine lv_goto (pc := 11) (tgt := 15) hx hb dMo_isGreat_11 (by decide) ?_
    exact fw_zretR (pc := 15) hx hb hr hlocks hH dMo_isGreat_15 (by rfl) (by rw [if_neg (hgr.mp h9)])

set_option maxHeartbeats 4000000 in
set_option maxRecDepth 100000 in
theorem c_Mo_bit {b : Nat} {I : Nat → Nat} {K : Nat → Nat → Nat} {S : Nat → Int32} {X : Nat → Nat} (hS : moS cI cL w b I K S (mC X)) (hX : ∀ p, X p < nM ^ 64) {p0 k : Nat} (hp : p0 < 24) (hk : k < 1536) : fw_R l yMo_bit (Cond.code yMo_bit cMo_bit 3 (some FieldType.int) :: kWs) ({ frames := 0, cells := 0, slots := 0, locals := 0 } : Room) D kCl (kty cI cL cQ) z [.ref b, .int (nI p0), .int (nI k)] (sz) w (fun v => v = some (.int (nI (X p0 / 2 ^ k % 2)))) := by
  refine fw_ofR (cc := cMo_bit) (maxL := 3) (ret := (some FieldType.int)) (by decide) rfl (Nat.le_of_ble_eq_true rfl) ?_
  intro p e s m args below meth c hx hb hr hts hown hlocks hml hK H ls hH hw hl
  have hW : ∀ w ∈ kWs, w.before args s = true := fun w h => hts w (List.mem_cons_of_mem _ h)
  have hown : s.vm.findClass RMo = some m.cls := hown
  have hl : lv_has ls 3 [(0, .ref b), (1, .int (nI p0)), (2, .int (nI k))] := hl
  have b0 : w b = some (.inr (10, [.int (nI (I 0)), .ref (b + 1), .ref (b + 2), .int (nI (I 3)), .ref (b + 3), .ref (b + 4), .int (nI (I 6)), .int (nI (I 7)), .ref (b + 5), .ref (b + 6), .int (nI (I 10)), .int (nI (I 11)), .int (nI (I 12)), .int (nI (I 13)), .ref (b + 7), .ref (b + 8), .int (nI (I 16)), .int (nI (I 17)), .int (nI (I 18)), .int (nI (I 19))])) := hS.1
  have b1 : w (b + 1) = some (.inl (cL, 1536, .inr (.inl (fun i => lN (mC X i))))) := hS.2.1
  have b2 : w (b + 2) = some (.inl (cI, 24, .inl (S))) := hS.2.2.1
  have b09 := b0
  have b29 := b2
  refine lv_aload_n (pc := 0) hx hb dMo_bit_0 rfl (lv_at hl 0 rfl) ?_
  refine fw_get (pc := 1) (ci := 10) (v := .ref (b + 1)) (C := RMo) (T := TMo) (N := 20) hx hb hW in_Mo hown hK.1 hw b0 rfl 1 (by decide) (hW _ lf_Mo_7) (fun _ h => h) rfl dMo_bit_1 ?_
  refine lv_bipush (pc := 4) (v := (nI 64)) hx hb dMo_bit_4 (by decide) ?_
  refine lv_iload_n (pc := 6) hx hb dMo_bit_6 rfl (lv_at hl 1 rfl) ?_
  refine lv_imul (pc := 7) hx hb dMo_bit_7 ?_
  rw [show (((nI 64) * nI p0) : Int32) = nI (64 * p0) from (nI_mul 64 p0)]
  refine lv_iload_n (pc := 8) hx hb dMo_bit_8 rfl (lv_at hl 2 rfl) ?_
  refine lv_bipush (pc := 9) (v := (nI 24)) hx hb dMo_bit_9 (by decide) ?_
  refine lv_idiv (pc := 11) hx hb dMo_bit_11 (by decide) ?_
  rw [show ((nI k / (nI 24)) : Int32) = nI (k / 24) from (pk_div (by omega) (by decide) (by decide))]
  refine lv_iadd (pc := 12) hx hb dMo_bit_12 ?_
  rw [show ((nI (64 * p0) + nI (k / 24)) : Int32) = nI (64 * p0 + k / 24) from (nI_add (64 * p0) (k / 24))]
  refine fw_laldN (pc := 13) (x := lN (mC X (64 * p0 + k / 24))) hx hb hK.1 hw 1 b1 rfl (64 * p0 + k / 24) (by omega) (by decide) rfl dMo_bit_13 ?_
  obtain ⟨C, hC⟩ : ∃ C, C = mC X (64 * p0 + k / 24) := ⟨_, rfl⟩
  have hl24 : C < 16777216 := by rw [hC]; exact mC_lt24 _
  rw [show (lN (mC X (64 * p0 + k / 24)) : Int64) = lN C from (by rw [hC])]
  refine lv_iload_n (pc := 14) hx hb dMo_bit_14 rfl (lv_at hl 2 rfl) ?_
  refine lv_bipush (pc := 15) (v := (nI 24)) hx hb dMo_bit_15 (by decide) ?_
  refine lv_irem (pc := 17) hx hb dMo_bit_17 (by decide) ?_
  rw [show ((nI k - nI k / (nI 24) * (nI 24)) : Int32) = nI (k % 24) from (pk_rem (by omega) (by decide) (by decide))]
  refine lv_lshr (pc := 18) (v := lN (C / 2 ^ (k % 24))) hx hb dMo_bit_18 (pf_shr (shD (by omega)) (by omega)) ?_
  have hd9 : C / 2 ^ (k % 24) ≤ C := Nat.div_le_self _ _
  refine lv_lconst (pc := 19) (v := lN 1) hx hb dMo_bit_19 (by decide) ?_
  refine lv_land (pc := 20) hx hb dMo_bit_20 ?_
  rw [show ((lN (C / 2 ^ (k % 24)) &&& (lN 1)) : Int64) = lN (C / 2 ^ (k % 24) % 2) from (wb_a1 (by omega))]
  refine lv_l2i (pc := 21) (v := nI (C / 2 ^ (k % 24) % 2)) hx hb dMo_bit_21 (lN_i _) ?_
  exact fw_iretR (pc := 22) hx hb hr hlocks hH dMo_bit_22 (by rw [hC, mC_at X (by omega), mbit])

set_option maxHeartbeats 4000000 in
set_option maxRecDepth 100000 in
theorem c_Mo_bits {b : Nat} {I : Nat → Nat} {K : Nat → Nat → Nat} {S : Nat → Int32} {X : Nat → Nat} (hS : moS cI cL w b I K S (mC X)) (hX : ∀ p, X p < nM ^ 64) {p0 : Nat} (hp : p0 < 24) : fw_R l yMo_bits (Cond.code yMo_bits cMo_bits 3 (some FieldType.int) :: kWs) ({ frames := 1, cells := 0, slots := 0, locals := 22 } : Room) D kCl (kty cI cL cQ) z [.ref b, .int (nI p0)] (sz) w (fun v => v = some (.int (nI (bl (X p0))))) := by
  refine fw_ofR (cc := cMo_bits) (maxL := 3) (ret := (some FieldType.int)) (by decide) rfl (Nat.le_of_ble_eq_true rfl) ?_
  intro p e s m args below meth c hx hb hr hts hown hlocks hml hK H ls hH hw hl
  have hW : ∀ w ∈ kWs, w.before args s = true := fun w h => hts w (List.mem_cons_of_mem _ h)
  have hown : s.vm.findClass RMo = some m.cls := hown
  have hl : lv_has ls 3 [(0, .ref b), (1, .int (nI p0))] := hl
  have b0 : w b = some (.inr (10, [.int (nI (I 0)), .ref (b + 1), .ref (b + 2), .int (nI (I 3)), .ref (b + 3), .ref (b + 4), .int (nI (I 6)), .int (nI (I 7)), .ref (b + 5), .ref (b + 6), .int (nI (I 10)), .int (nI (I 11)), .int (nI (I 12)), .int (nI (I 13)), .ref (b + 7), .ref (b + 8), .int (nI (I 16)), .int (nI (I 17)), .int (nI (I 18)), .int (nI (I 19))])) := hS.1
  have b1 : w (b + 1) = some (.inl (cL, 1536, .inr (.inl (fun i => lN (mC X i))))) := hS.2.1
  have b2 : w (b + 2) = some (.inl (cI, 24, .inl (S))) := hS.2.2.1
  have b09 := b0
  have b29 := b2
  have loop : ∀ (n : Nat), n ≤ 1536 → X p0 < 2 ^ n → ∀ (ls : Array Slot), lv_has ls 3 [(2, .int (nI n)), (0, .ref b), (1, .int (nI p0))] → W p l e ({ frames := 1, cells := 0, slots := 0, locals := 22 } : Room) s m args below meth c H [] 0 0 (MQ below (fw_RQ (fun v => v = some (.int (nI (bl (X p0)))))) args s 0 0 (fun _ => False)) (F0 m 9 ls []) := by
    intro n
    induction n with
    | zero =>
      intro hn hlt ls hl
      refine lv_iload_n (pc := 9) hx hb dMo_bits_9 rfl (lv_at hl 0 rfl) ?_
      refine lv_if_le (pc := 10) (tgt := 30) hx hb dMo_bits_10 (by decide) (fun _ => ?_) (fun hc => absurd (show nI 0 ≤ 0 by decide) hc)
      refine lv_iload_n (pc := 30) hx hb dMo_bits_30 rfl (lv_at hl 0 rfl) ?_
      exact fw_iretR (pc := 31) hx hb hr hlocks hH dMo_bits_31 (by rw [show X p0 = 0 by rw [Nat.pow_zero] at hlt; omega]; rfl)
    | succ n ih =>
      intro hn hlt ls hl
      refine lv_iload_n (pc := 9) hx hb dMo_bits_9 rfl (lv_at hl 0 rfl) ?_
      refine lv_if_le (pc := 10) (tgt := 30) hx hb dMo_bits_10 (by decide) (fun hc => absurd hc (nI_nle (by omega) (by omega))) (fun _ => ?_)
      refine lv_aload_n (pc := 13) hx hb dMo_bits_13 rfl (lv_at hl 1 rfl) ?_
      refine lv_iload_n (pc := 14) hx hb dMo_bits_14 rfl (lv_at hl 2 rfl) ?_
      refine lv_iload_n (pc := 15) hx hb dMo_bits_15 rfl (lv_at hl 0 rfl) ?_
      refine lv_iconst (pc := 16) (v := (nI 1)) hx hb dMo_bits_16 (by decide) ?_
      refine lv_isub (pc := 17) hx hb dMo_bits_17 ?_
      rw [show ((nI (n + 1) - (nI 1)) : Int32) = nI n from (nI_pred n)]
      refine fw_cVR (pc := 18) (As := [.int (nI p0), .int (nI n)]) (rest := []) ⟨hx, hb, hml, hown, hW⟩ (c_Mo_bit hS hX hp (by omega)) (cwV 2 hW (kw_V lm_Mo_139 im_Mo_bit se_Mo_bit ini_Mo cd_Mo_bit) rfl rfl rfl (by decide +kernel) ⟨Nat.le_of_ble_eq_true rfl, Nat.le_of_ble_eq_true rfl⟩) hK hw b0 rfl rfl hl.1 rfl (Nat.le_of_ble_eq_true rfl) dMo_bits_18 ⟨Nat.le_of_ble_eq_true rfl, Nat.le_of_ble_eq_true rfl⟩ (fun v hq => ?_)
      subst hq
      refine W.eq (g2 := F0 m 21 ls [.int (nI (X p0 / 2 ^ n % 2))]) rfl ?_
      have hdv : X p0 / 2 ^ n < 2 := by rw [Nat.div_lt_iff_lt_mul (Nat.pow_pos (by decide)), Nat.mul_comm, ← Nat.pow_succ]; exact hlt
      rcases (show X p0 / 2 ^ n = 0 ∨ X p0 / 2 ^ n = 1 by (generalize X p0 / 2 ^ n = dq at hdv ⊢); omega) with h0 | h0
      · rw [show (nI (X p0 / 2 ^ n % 2) : Int32) = nI 0 from (by rw [h0])]
        refine lv_if_ne (pc := 21) (tgt := 30) hx hb dMo_bits_21 (by decide) (fun hc => absurd hc (fun h => h (by decide))) (fun _ => ?_)
        refine lv_iinc (pc := 24) (lv' := [(2, .int (nI n)), (0, .ref b), (1, .int (nI p0))]) hx hb dMo_bits_24 hl (k := 0) rfl ((by rw [show Int32.ofInt (-1) = -(nI 1) by decide, ← Int32.sub_eq_add_neg]; exact nI_pred n)) (by decide) rfl (fun ls hl => ?_)
        refine lv_goto (pc := 27) (tgt := 9) hx hb dMo_bits_27 (by decide) ?_
        exact ih (by omega) (Classical.byContradiction fun h9 => by have := Nat.div_pos (Nat.le_of_not_lt h9) (show 0 < 2 ^ n from Nat.pow_pos (by decide)); omega) ls (lv_sub hl [0, 1, 2] rfl)
      · rw [show (nI (X p0 / 2 ^ n % 2) : Int32) = nI 1 from (by rw [h0])]
        refine lv_if_ne (pc := 21) (tgt := 30) hx hb dMo_bits_21 (by decide) (fun _ => ?_) (fun hc => absurd hc (show ¬ nI 1 = 0 by decide))
        refine lv_iload_n (pc := 30) hx hb dMo_bits_30 rfl (lv_at hl 0 rfl) ?_
        exact fw_iretR (pc := 31) hx hb hr hlocks hH dMo_bits_31 (by rw [bt_uniq (Classical.byContradiction fun h9 => by rw [Nat.div_eq_of_lt (Nat.lt_of_not_le h9)] at h0; omega) hlt])
  refine lv_bipush (pc := 0) (v := (nI 24)) hx hb dMo_bits_0 (by decide) ?_
  refine lv_aload_n (pc := 2) hx hb dMo_bits_2 rfl (lv_at hl 0 rfl) ?_
  refine lv_iload_n (pc := 3) hx hb dMo_bits_3 rfl (lv_at hl 1 rfl) ?_
  refine fw_cVR (pc := 4) (As := [.int (nI p0)]) (rest := [.int (nI 24)]) ⟨hx, hb, hml, hown, hW⟩ (c_Mo_limbs hS hX hp) (cwV 1 hW (kw_V lm_Mo_128 im_Mo_limbs se_Mo_limbs ini_Mo cd_Mo_limbs) rfl rfl rfl (by decide +kernel) ⟨Nat.le_of_ble_eq_true rfl, Nat.le_of_ble_eq_true rfl⟩) hK hw b0 rfl rfl hl.1 rfl (Nat.le_of_ble_eq_true rfl) dMo_bits_4 ⟨Nat.le_of_ble_eq_true rfl, Nat.le_of_ble_eq_true rfl⟩ (fun v hq => ?_)
  obtain ⟨n, rfl, hn, hml2⟩ := hq
  refine W.eq (g2 := F0 m 7 ls [.int (nI n), .int (nI 24)]) rfl ?_
  refine lv_imul (pc := 7) hx hb dMo_bits_7 ?_
  rw [show (((nI 24) * nI n) : Int32) = nI (24 * n) from (nI_mul 24 n)]
  refine lv_istore_n (pc := 8) (lv' := [(2, .int (nI (24 * n))), (0, .ref b), (1, .int (nI p0))]) hx hb dMo_bits_8 rfl hl (by decide) rfl (fun ls hl => ?_)
  exact loop (24 * n) (by omega) (by rw [Nat.pow_mul]; exact hml2.1) ls (lv_sub hl [0, 1, 2] rfl)

set_option maxHeartbeats 4000000 in
set_option maxRecDepth 100000 in
theorem c_Mo_order {b : Nat} {I : Nat → Nat} {K : Nat → Nat → Nat} {S : Nat → Int32} {X : Nat → Nat} (hS : moS cI cL w b I K S (mC X)) (hX : ∀ p, X p < nM ^ 64) {pa pb : Nat} (ha : pa < 24) (hb2 : pb < 24) : fw_R l yMo_order (Cond.code yMo_order cMo_order 6 (some FieldType.int) :: kWs) ({ frames := 0, cells := 0, slots := 0, locals := 0 } : Room) D kCl (kty cI cL cQ) z [.ref b, .int (nI pa), .int (nI pb)] (sz) w (fun v => v = some (.int (ordI (X pa) (X pb)))) := by
  refine fw_ofR (cc := cMo_order) (maxL := 6) (ret := (some FieldType.int)) (by decide) rfl (Nat.le_of_ble_eq_true rfl) ?_
  intro p e s m args below meth c hx hb hr hts hown hlocks hml hK H ls hH hw hl
  have hW : ∀ w ∈ kWs, w.before args s = true := fun w h => hts w (List.mem_cons_of_mem _ h)
  have hown : s.vm.findClass RMo = some m.cls := hown
  have hl : lv_has ls 6 [(0, .ref b), (1, .int (nI pa)), (2, .int (nI pb))] := hl
  have b0 : w b = some (.inr (10, [.int (nI (I 0)), .ref (b + 1), .ref (b + 2), .int (nI (I 3)), .ref (b + 3), .ref (b + 4), .int (nI (I 6)), .int (nI (I 7)), .ref (b + 5), .ref (b + 6), .int (nI (I 10)), .int (nI (I 11)), .int (nI (I 12)), .int (nI (I 13)), .ref (b + 7), .ref (b + 8), .int (nI (I 16)), .int (nI (I 17)), .int (nI (I 18)), .int (nI (I 19))])) := hS.1
  have b1 : w (b + 1) = some (.inl (cL, 1536, .inr (.inl (fun i => lN (mC X i))))) := hS.2.1
  have b2 : w (b + 2) = some (.inl (cI, 24, .inl (S))) := hS.2.2.1
  have b09 := b0
  have b29 := b2
  have vA := mC_val (hX pa)
  have vB := mC_val (hX pb)
  have fin9 : ∀ (k : Nat), k < 64 → (∀ i, k < i → i < 64 → mC X (64 * pa + i) = mC X (64 * pb + i)) → (k = 0 ∨ mC X (64 * pa + k) ≠ mC X (64 * pb + k)) → ∀ (ls : Array Slot), lv_has ls 6 [(3, .int (nI k)), (0, .ref b), (1, .int (nI pa)), (2, .int (nI pb))] → W p l e ({ frames := 0, cells := 0, slots := 0, locals := 0 } : Room) s m args below meth c H [] 0 0 (MQ below (fw_RQ (fun v => v = some (.int (ordI (X pa) (X pb))))) args s 0 0 (fun _ => False)) (F0 m 39 ls []) := by
    intro k hk heq hor ls hl
    have la := mC_lt24 (X := X) (64 * pa + k)
    have lb := mC_lt24 (X := X) (64 * pb + k)
    refine lv_aload_n (pc := 39) hx hb dMo_order_39 rfl (lv_at hl 1 rfl) ?_
    refine fw_get (pc := 40) (ci := 10) (v := .ref (b + 1)) (C := RMo) (T := TMo) (N := 20) hx hb hW in_Mo hown hK.1 hw b0 rfl 1 (by decide) (hW _ lf_Mo_7) (fun _ h => h) rfl dMo_order_40 ?_
    refine lv_bipush (pc := 43) (v := (nI 64)) hx hb dMo_order_43 (by decide) ?_
    refine lv_iload_n (pc := 45) hx hb dMo_order_45 rfl (lv_at hl 2 rfl) ?_
    refine lv_imul (pc := 46) hx hb dMo_order_46 ?_
    rw [show (((nI 64) * nI pa) : Int32) = nI (64 * pa) from (nI_mul 64 pa)]
    refine lv_iload_n (pc := 47) hx hb dMo_order_47 rfl (lv_at hl 0 rfl) ?_
    refine lv_iadd (pc := 48) hx hb dMo_order_48 ?_
    rw [show ((nI (64 * pa) + nI k) : Int32) = nI (64 * pa + k) from (nI_add (64 * pa) k)]
    refine fw_laldN (pc := 49) (x := lN (mC X (64 * pa + k))) hx hb hK.1 hw 1 b1 rfl (64 * pa + k) (by omega) (by decide) rfl dMo_order_49 ?_
    refine lv_aload_n (pc := 50) hx hb dMo_order_50 rfl (lv_at hl 1 rfl) ?_
    refine fw_get (pc := 51) (ci := 10) (v := .ref (b + 1)) (C := RMo) (T := TMo) (N := 20) hx hb hW in_Mo hown hK.1 hw b0 rfl 1 (by decide) (hW _ lf_Mo_7) (fun _ h => h) rfl dMo_order_51 ?_
    refine lv_bipush (pc := 54) (v := (nI 64)) hx hb dMo_order_54 (by decide) ?_
    refine lv_iload_n (pc := 56) hx hb dMo_order_56 rfl (lv_at hl 3 rfl) ?_
    refine lv_imul (pc := 57) hx hb dMo_order_57 ?_
    rw [show (((nI 64) * nI pb) : Int32) = nI (64 * pb) from (nI_mul 64 pb)]
    refine lv_iload_n (pc := 58) hx hb dMo_order_58 rfl (lv_at hl 0 rfl) ?_
    refine lv_iadd (pc := 59) hx hb dMo_order_59 ?_
    rw [show ((nI (64 * pb) + nI k) : Int32) = nI (64 * pb + k) from (nI_add (64 * pb) k)]
    refine fw_laldN (pc := 60) (x := lN (mC X (64 * pb + k))) hx hb hK.1 hw 1 b1 rfl (64 * pb + k) (by omega) (by decide) rfl dMo_order_60 ?_
    refine lv_lsub (pc := 61) hx hb dMo_order_61 ?_
    refine lv_lstore (pc := 62) (lv' := [(4, .long ((lN (mC X (64 * pa + k)) - lN (mC X (64 * pb + k))))), (3, .int (nI k)), (0, .ref b), (1, .int (nI pa)), (2, .int (nI pb))]) hx hb dMo_order_62 hl (by decide) rfl (fun ls hl => ?_)
    refine lv_lload (pc := 64) hx hb dMo_order_64 (lv_at hl 0 rfl) ?_
    refine lv_lconst (pc := 66) (v := lN 0) hx hb dMo_order_66 (by decide) ?_
    refine W.lcmp (pc := 67) hx hb dMo_order_67 ?_
    refine lv_if_ge (pc := 68) (tgt := 75) hx hb dMo_order_68 (by decide) (fun hc => ?_) (fun hc => ?_)
    · have hge : ¬ mC X (64 * pa + k) < mC X (64 * pb + k) := fun h9 => absurd ((ls_lt (by omega) (by omega)).mpr h9) (Int64.not_lt.mpr ((lg_cmp_ge _ _).mp hc))
      refine lv_lload (pc := 75) hx hb dMo_order_75 (lv_at hl 0 rfl) ?_
      refine lv_lconst (pc := 77) (v := lN 0) hx hb dMo_order_77 (by decide) ?_
      refine W.lcmp (pc := 78) hx hb dMo_order_78 ?_
      refine lv_if_le (pc := 79) (tgt := 86) hx hb dMo_order_79 (by decide) (fun hd => ?_) (fun hd => ?_)
      · have hle : ¬ mC X (64 * pb + k) < mC X (64 * pa + k) := fun h9 => absurd ((ls_gt (by omega) (by omega)).mpr h9) (Int64.not_lt.mpr ((lg_cmp_le _ _).mp hd))
        have hk0 : k = 0 := hor.resolve_right (fun h9 => h9 (by omega))
        refine lv_iconst (pc := 86) (v := (nI 0)) hx hb dMo_order_86 (by decide) ?_
        exact fw_iretR (pc := 87) hx hb hr hlocks hH dMo_order_87 (by rw [ordI_eq (by rw [← vA, ← vB]; exact nv_eq (fun i hi => by (rcases Nat.eq_zero_or_pos i with h9 | h9); subst h9; rw [hk0] at hge hle; exact (show mC X (64 * pa + 0) = mC X (64 * pb + 0) by omega); exact heq i (by omega) hi))])
      · have hgt : mC X (64 * pb + k) < mC X (64 * pa + k) := (ls_gt (by omega) (by omega)).mp (Int64.not_le.mp (fun h9 => hd ((lg_cmp_le _ _).mpr h9)))
        refine lv_iconst (pc := 82) (v := (nI 1)) hx hb dMo_order_82 (by decide) ?_
        refine lv_goto (pc := 83) (tgt := 87) hx hb dMo_order_83 (by decide) ?_
        exact fw_iretR (pc := 87) hx hb hr hlocks hH dMo_order_87 (by rw [ordI_gt (by rw [← vA, ← vB]; exact nv_less (b := nM) (fun i _ => mC_lt X _) hk hgt (fun i h1 h2 => (heq i h1 h2).symm))])
    · have hlt : mC X (64 * pa + k) < mC X (64 * pb + k) := (ls_lt (by omega) (by omega)).mp (Int64.not_le.mp (fun h9 => hc ((lg_cmp_ge _ _).mpr h9)))
      refine lv_iconst (pc := 71) (v := (-1)) hx hb dMo_order_71 (by decide) ?_
      refine lv_goto (pc := 72) (tgt := 87) hx hb dMo_order_72 (by decide) ?_
      exact fw_iretR (pc := 87) hx hb hr hlocks hH dMo_order_87 (by rw [ordI_lt (by rw [← vA, ← vB]; exact nv_less (b := nM) (fun i _ => mC_lt X _) hk hlt (fun i h1 h2 => heq i h1 h2))])
  have loop : ∀ (k : Nat), k < 64 → (∀ i, k < i → i < 64 → mC X (64 * pa + i) = mC X (64 * pb + i)) → ∀ (ls : Array Slot), lv_has ls 6 [(3, .int (nI k)), (0, .ref b), (1, .int (nI pa)), (2, .int (nI pb))] → W p l e ({ frames := 0, cells := 0, slots := 0, locals := 0 } : Room) s m args below meth c H [] 0 0 (MQ below (fw_RQ (fun v => v = some (.int (ordI (X pa) (X pb))))) args s 0 0 (fun _ => False)) (F0 m 3 ls []) := by
    intro k
    induction k with
    | zero =>
      intro hk heq ls hl
      refine lv_iload_n (pc := 3) hx hb dMo_order_3 rfl (lv_at hl 0 rfl) ?_
      refine lv_if_le (pc := 4) (tgt := 39) hx hb dMo_order_4 (by decide) (fun _ => ?_) (fun hc => absurd (show nI 0 ≤ 0 by decide) hc)
      exact fin9 0 hk heq (Or.inl rfl) ls hl
    | succ k ih =>
      intro hk heq ls hl
      refine lv_iload_n (pc := 3) hx hb dMo_order_3 rfl (lv_at hl 0 rfl) ?_
      refine lv_if_le (pc := 4) (tgt := 39) hx hb dMo_order_4 (by decide) (fun hc => absurd hc (nI_nle (by omega) (by omega))) (fun _ => ?_)
      have la := mC_lt24 (X := X) (64 * pa + (k + 1))
      have lb := mC_lt24 (X := X) (64 * pb + (k + 1))
      refine lv_aload_n (pc := 7) hx hb dMo_order_7 rfl (lv_at hl 1 rfl) ?_
      refine fw_get (pc := 8) (ci := 10) (v := .ref (b + 1)) (C := RMo) (T := TMo) (N := 20) hx hb hW in_Mo hown hK.1 hw b0 rfl 1 (by decide) (hW _ lf_Mo_7) (fun _ h => h) rfl dMo_order_8 ?_
      refine lv_bipush (pc := 11) (v := (nI 64)) hx hb dMo_order_11 (by decide) ?_
      refine lv_iload_n (pc := 13) hx hb dMo_order_13 rfl (lv_at hl 2 rfl) ?_
      refine lv_imul (pc := 14) hx hb dMo_order_14 ?_
      rw [show (((nI 64) * nI pa) : Int32) = nI (64 * pa) from (nI_mul 64 pa)]
      refine lv_iload_n (pc := 15) hx hb dMo_order_15 rfl (lv_at hl 0 rfl) ?_
      refine lv_iadd (pc := 16) hx hb dMo_order_16 ?_
      rw [show ((nI (64 * pa) + nI (k + 1)) : Int32) = nI (64 * pa + (k + 1)) from (nI_add (64 * pa) (k + 1))]
      refine fw_laldN (pc := 17) (x := lN (mC X (64 * pa + (k + 1)))) hx hb hK.1 hw 1 b1 rfl (64 * pa + (k + 1)) (by omega) (by decide) rfl dMo_order_17 ?_
      refine lv_aload_n (pc := 18) hx hb dMo_order_18 rfl (lv_at hl 1 rfl) ?_
      refine fw_get (pc := 19) (ci := 10) (v := .ref (b + 1)) (C := RMo) (T := TMo) (N := 20) hx hb hW in_Mo hown hK.1 hw b0 rfl 1 (by decide) (hW _ lf_Mo_7) (fun _ h => h) rfl dMo_order_19 ?_
      refine lv_bipush (pc := 22) (v := (nI 64)) hx hb dMo_order_22 (by decide) ?_
      refine lv_iload_n (pc := 24) hx hb dMo_order_24 rfl (lv_at hl 3 rfl) ?_
      refine lv_imul (pc := 25) hx hb dMo_order_25 ?_
      rw [show (((nI 64) * nI pb) : Int32) = nI (64 * pb) from (nI_mul 64 pb)]
      refine lv_iload_n (pc := 26) hx hb dMo_order_26 rfl (lv_at hl 0 rfl) ?_
      refine lv_iadd (pc := 27) hx hb dMo_order_27 ?_
      rw [show ((nI (64 * pb) + nI (k + 1)) : Int32) = nI (64 * pb + (k + 1)) from (nI_add (64 * pb) (k + 1))]
      refine fw_laldN (pc := 28) (x := lN (mC X (64 * pb + (k + 1)))) hx hb hK.1 hw 1 b1 rfl (64 * pb + (k + 1)) (by omega) (by decide) rfl dMo_order_28 ?_
      refine W.lcmp (pc := 29) hx hb dMo_order_29 ?_
      refine lv_if_ne (pc := 30) (tgt := 39) hx hb dMo_order_30 (by decide) (fun hc => ?_) (fun hc => ?_)
      · exact fin9 (k + 1) hk heq (Or.inr (fun h9 => hc ((lg_cmp_eq _ _).mpr (by rw [h9])))) ls hl
      · have he9 : mC X (64 * pa + (k + 1)) = mC X (64 * pb + (k + 1)) := lN_inj (by omega) (by omega) ((lg_cmp_eq _ _).mp hc)
        refine lv_iinc (pc := 33) (lv' := [(3, .int (nI k)), (0, .ref b), (1, .int (nI pa)), (2, .int (nI pb))]) hx hb dMo_order_33 hl (k := 0) rfl ((by rw [show Int32.ofInt (-1) = -(nI 1) by decide, ← Int32.sub_eq_add_neg]; exact nI_pred k)) (by decide) rfl (fun ls hl => ?_)
        refine lv_goto (pc := 36) (tgt := 3) hx hb dMo_order_36 (by decide) ?_
        exact ih (by omega) (fun i h1 h2 => by (rcases Nat.eq_or_lt_of_le (show k + 1 ≤ i from h1) with rfl | h3); exact he9; exact heq i h3 h2) ls (lv_sub hl [0, 1, 2, 3] rfl)
  refine lv_bipush (pc := 0) (v := (nI 63)) hx hb dMo_order_0 (by decide) ?_
  refine lv_istore_n (pc := 2) (lv' := [(3, .int (nI 63)), (0, .ref b), (1, .int (nI pa)), (2, .int (nI pb))]) hx hb dMo_order_2 rfl hl (by decide) rfl (fun ls hl => ?_)
  exact loop 63 (by decide) (fun i h1 h2 => absurd h2 (by omega)) ls (lv_sub hl [0, 1, 2, 3] rfl)
end MO3
