theorem kt_step {b D N r gj lo j X : Nat} (h : N * b ^ (j + 1) * D + r * b ^ (j + 1) + (lo + gj * b ^ j) = X) : ((r * b + gj) / D + N * b) * b ^ j * D + (r * b + gj) % D * b ^ j + lo = X := by
  have h2 := Nat.div_add_mod (r * b + gj) D
  rw [← h, Nat.pow_succ]
  have h3 : (r * b + gj) * b ^ j = (D * ((r * b + gj) / D) + (r * b + gj) % D) * b ^ j := by rw [h2]
  generalize (r * b + gj) / D = q at *
  generalize (r * b + gj) % D = s at *
  have h4 : (r * b + gj) * b ^ j = r * (b ^ j * b) + gj * b ^ j := by grind
  have h5 : (D * q + s) * b ^ j = q * b ^ j * D + s * b ^ j := by grind
  have h6 : (q + N * b) * b ^ j * D = q * b ^ j * D + N * (b ^ j * b) * D := by grind
  omega
theorem kt_lt {b D r gj : Nat} (hr : r < D) (hg : gj < b) : (r * b + gj) / D < b := by
  rw [Nat.div_lt_iff_lt_mul (by omega)]
  have : (r + 1) * b ≤ D * b := Nat.mul_le_mul_right _ hr
  rw [Nat.add_mul, Nat.one_mul] at this
  rw [Nat.mul_comm b D]; omega
theorem kt_end {D Q R X : Nat} (h : Q * D + R = X) (hR : R < D) : Q = X / D ∧ R = X % D := by
  have h1 := (Nat.div_mod_unique (show 0 < D by omega)).mpr ⟨(by rw [Nat.mul_comm D, Nat.add_comm]; exact h : R + D * Q = X), hR⟩
  exact ⟨h1.1.symm, h1.2.symm⟩
theorem dg_div (x a b : Nat) : x / 10 ^ a / 10 ^ b = x / 10 ^ (a + b) := by rw [Nat.div_div_eq_div_mul, ← Nat.pow_add]
theorem dg_mod {A s : Nat} (hs : s < 9) : A % 1000000000 / 10 ^ s % 10 = A / 10 ^ s % 10 := by
  have h1 : 1000000000 = 10 ^ s * 10 ^ (9 - s) := by rw [← Nat.pow_add, show s + (9 - s) = 9 by omega]
  rw [h1, Nat.mod_mul_right_div_self]
  apply Nat.mod_mod_of_dvd
  exact ⟨10 ^ (9 - s - 1), by rw [← Nat.pow_succ']; congr 1; omega⟩
theorem dg_all {x i : Nat} : x / 10 ^ (9 * (i / 9)) % 1000000000 / 10 ^ (i % 9) % 10 = x / 10 ^ i % 10 := by
  rw [dg_mod (Nat.mod_lt _ (by decide)), dg_div, Nat.div_add_mod]
/-- n is how many decimal digits x has -/
def isDl (x n : Nat) : Prop := 0 < n ∧ x < 10 ^ n ∧ (n = 1 ∨ 10 ^ (n - 1) ≤ x)
theorem isDl_uniq {x n m : Nat} (h1 : isDl x n) (h2 : isDl x m) : n = m := by
  have key : ∀ a b, isDl x a → isDl x b → ¬ a < b := fun a b ha hb hlt => by
    obtain ⟨a1, a2, a3⟩ := ha; obtain ⟨b1, b2, b3⟩ := hb
    rcases b3 with h | h
    · omega
    · have : 10 ^ a ≤ 10 ^ (b - 1) := Nat.pow_le_pow_right (by decide) (by omega)
      omega
  have := key n m h1 h2; have := key m n h2 h1; omega
theorem dl_pos {x k : Nat} (h : x / 10 ^ k ≠ 0) : 10 ^ k ≤ x := by
  apply Nat.le_of_not_lt; intro h2; exact h (Nat.div_eq_of_lt h2)
theorem dl_end {x t i : Nat} (hi : 0 < i) (h1 : x / 10 ^ (9 * t) < 10 ^ i) (h2 : i = 1 ∨ 10 ^ (i - 1) ≤ x / 10 ^ (9 * t)) (h3 : t = 0 ∨ 10 ^ (9 * t) ≤ x) : isDl x (9 * t + i) := by
  refine ⟨by omega, ?_, ?_⟩
  · rw [Nat.pow_add]
    have := (Nat.div_lt_iff_lt_mul (show 0 < 10 ^ (9 * t) from Nat.pow_pos (by decide))).mp h1
    rw [Nat.mul_comm]; exact this
  · rcases h2 with h | h
    · subst h
      rcases h3 with h | h
      · left; omega
      · right; exact h
    · right
      have := (Nat.le_div_iff_mul_le (show 0 < 10 ^ (9 * t) from Nat.pow_pos (by decide))).mp h
      rw [show 9 * t + i - 1 = i - 1 + 9 * t by omega, Nat.pow_add]; exact this
theorem p768 : 2 ^ 768 < 10 ^ 232 := by decide +kernel
theorem p768b {x i : Nat} (h : x < 2 ^ 768) (hi : 232 ≤ i) : x / 10 ^ i % 10 = 0 := by
  rw [Nat.div_eq_of_lt (Nat.lt_of_lt_of_le (Nat.lt_trans h p768) (Nat.pow_le_pow_right (by decide) hi))]
theorem dl_lt {G i : Nat} (hi : 0 < i) (h : G / 10 ^ (i - 1) < 10) : G < 10 ^ i := by
  obtain ⟨j, rfl⟩ : ∃ j, i = j + 1 := ⟨i - 1, by omega⟩
  rw [Nat.add_sub_cancel, Nat.div_lt_iff_lt_mul (Nat.pow_pos (by decide))] at h
  rw [Nat.pow_succ, Nat.mul_comm]; exact h
theorem dl_ge {G i : Nat} (hi : 0 < i) (h : 10 ≤ G / 10 ^ (i - 1)) : 10 ^ i ≤ G := by
  obtain ⟨j, rfl⟩ : ∃ j, i = j + 1 := ⟨i - 1, by omega⟩
  rw [Nat.add_sub_cancel, Nat.le_div_iff_mul_le (Nat.pow_pos (by decide))] at h
  rw [Nat.pow_succ, Nat.mul_comm]; exact h
/-! BigCalculator.Decimal. Written by wip/gen/decimal1.py. -/
section DE1
variable {l : Launch} {D : va_G} {cI cL cQ : ClassId} {z : kZ_T} {sz : Nat} {w : fw_W}
set_option maxHeartbeats 4000000 in
set_option maxRecDepth 100000 in
theorem c_De_takeGroup {dp x : Nat} (h : w dp = some (.inr (2, [.ref (dp + 1)]))) (hv : isV cL w (dp + 1) x) : fw_C l yDe_takeGroup (Cond.code yDe_takeGroup cDe_takeGroup 6 (some FieldType.long) :: kWs) ({ frames := 1, cells := 0, slots := 0, locals := 21 } : Room) D kCl (kty cI cL cQ) z [.ref dp] (sz) w 0 0 (fun v w' => v = some (.long (lN (x % 1000000000))) ∧ isV cL w' (dp + 1) (x / 1000000000) ∧ ∀ q, q ≠ dp + 1 → q ≠ dp + 1 + 1 → w' q = w q) := by
  refine fw_ofW (cc := cDe_takeGroup) (maxL := 6) (ret := (some FieldType.long)) (by decide) rfl (Nat.le_of_ble_eq_true rfl) ?_
  intro p e s m args below meth c hx hb hr hts hown hlocks hname hml hK H ls hw hl
  have hW : ∀ w ∈ kWs, w.before args s = true := fun w h => hts w (List.mem_cons_of_mem _ h)
  have hown : s.vm.findClass RDe = some m.cls := hown
  have hl : lv_has ls 6 [(0, .ref dp)] := hl
  obtain ⟨g, k, ⟨o0, o1⟩, ok, og, on, ov⟩ := id hv
  have l3 : nB = 4294967296 := rfl
  have h9 := h
  have o9 := o0
  have loop : ∀ (i : Nat), i ≤ k → ∀ (w1 : fw_W) (H : Heap) (locs : List Loc) (ls : Array Slot) (rr : Nat) (g1 : Nat → Nat), fw_H D kCl (fw_A w (sz)) s.heap w1 (sz) H locs → lv_has ls 6 [(3, .int (nI i - nI 1)), (1, .long (lN rr)), (0, .ref dp)] → w1 (dp + 1 + 1) = some (.inl (cL, 50, .inr (.inl (fun i => lN (g1 i))))) → (∀ q, q ≠ dp + 1 + 1 → w1 q = w q) → (∀ j, j < 50 → g1 j < 2 ^ 64) → (∀ j, j < k → g1 j < nB) → rr < 1000000000 → nw nB g1 i (k - i) * nB ^ i * 1000000000 + rr * nB ^ i + nv nB g1 i = x → W p l e ({ frames := 1, cells := 0, slots := 0, locals := 21 } : Room) s m args below meth c H locs 0 0 (MQ below (fw_Q D kCl w (sz) 0 (fun v w' => v = some (.long (lN (x % 1000000000))) ∧ isV cL w' (dp + 1) (x / 1000000000) ∧ ∀ q, q ≠ dp + 1 → q ≠ dp + 1 + 1 → w' q = w q)) args s 0 0 (fw_A w (sz))) (F0 m 12 ls []) := by
    intro i
    induction i with
    | zero =>
      intro hik w1 H locs ls rr g1 hw hl h2 ho hg hgb hrr hs
      have h : w1 dp = some (.inr (2, [.ref (dp + 1)])) := (ho _ (by omega)).trans h9
      have o0 : w1 (dp + 1) = some (.inr (5, [.ref (dp + 1 + 1), .int (nI k)])) := (ho _ (by omega)).trans o9
      refine lv_iload_n (pc := 12) hx hb dDe_takeGroup_12 rfl (lv_at hl 0 rfl) ?_
      refine lv_if_lt (pc := 13) (tgt := 60) hx hb dDe_takeGroup_13 (by decide) (fun _ => ?_) (fun hc => absurd (show nI 0 - nI 1 < 0 by decide) hc)
      refine lv_aload_n (pc := 60) hx hb dDe_takeGroup_60 rfl (lv_at hl 2 rfl) ?_
      refine fw_get (pc := 61) (ci := 2) (v := .ref (dp + 1)) (C := RDe) (T := TDe) (N := 1) hx hb hW in_De hown hK.1 hw h rfl 0 (by decide) (hW _ lf_De_12) (fun _ h => h) rfl dDe_takeGroup_61 ?_
      refine lv_aload_n (pc := 64) hx hb dDe_takeGroup_64 rfl (lv_at hl 2 rfl) ?_
      refine fw_get (pc := 65) (ci := 2) (v := .ref (dp + 1)) (C := RDe) (T := TDe) (N := 1) hx hb hW in_De hown hK.1 hw h rfl 0 (by decide) (hW _ lf_De_12) (fun _ h => h) rfl dDe_takeGroup_65 ?_
      refine fw_get (pc := 68) (ci := 5) (v := .int (nI k)) (C := RNa) (T := TNa) (N := 2) hx hb hW in_Na hown hK.1 hw o0 rfl 1 (by decide) (hW _ lf_De_32) (fun _ h => h) rfl dDe_takeGroup_68 ?_
      refine fw_cV (pc := 71) (As := [.int (nI k)]) (rest := []) ⟨hx, hb, hml, hown, hW⟩ (c_Na_trim (k := k) (by omega) hg o0 h2) (cwV 1 hW (kw_V lm_De_42 im_Na_trim se_Na_trim ini_Na cd_Na_trim) rfl rfl rfl (by decide +kernel) ⟨Nat.le_of_ble_eq_true rfl, Nat.le_of_ble_eq_true rfl⟩) hK hw o0 rfl rfl hl.1 rfl (Nat.le_of_ble_eq_true rfl) dDe_takeGroup_71 ⟨Nat.le_of_ble_eq_true rfl, Nat.le_of_ble_eq_true rfl⟩ (fun v w2 H locs hq hw => ?_)
      obtain ⟨rfl, j, hj, hz, hnz, f1, hto⟩ := hq
      refine W.eq (g2 := F0 m 74 ls []) rfl ?_
      refine lv_lload_n (pc := 74) hx hb dDe_takeGroup_74 rfl (lv_at hl 1 rfl) ?_
      rw [Nat.pow_zero, Nat.mul_one, Nat.mul_one, Nat.sub_zero, nv_0, Nat.add_zero] at hs
      have hend := kt_end hs hrr
      have hw0 : nw nB g1 0 k = nv nB g1 k := nv_eq (fun i _ => by rw [Nat.zero_add])
      exact fw_lret (pc := 75) hx hb hr hlocks hw dDe_takeGroup_75 ⟨by rw [hend.2], ⟨_, j, ⟨f1, (hto _ (by omega)).trans h2⟩, by omega, hg, ⟨fun q hq => hgb q (by omega), hnz⟩, by rw [← hend.1, hw0]; exact (nv_cut hj hz).symm⟩, fun q h1 h3 => by rw [hto q h1, ho q h3]⟩
    | succ i ih =>
      intro hik w1 H locs ls rr g1 hw hl h2 ho hg hgb hrr hs
      have h : w1 dp = some (.inr (2, [.ref (dp + 1)])) := (ho _ (by omega)).trans h9
      have o0 : w1 (dp + 1) = some (.inr (5, [.ref (dp + 1 + 1), .int (nI k)])) := (ho _ (by omega)).trans o9
      rw [show nI (i + 1) - nI 1 = nI i from nI_pred i] at hl
      refine lv_iload_n (pc := 12) hx hb dDe_takeGroup_12 rfl (lv_at hl 0 rfl) ?_
      refine lv_if_lt (pc := 13) (tgt := 60) hx hb dDe_takeGroup_13 (by decide) (fun hc => absurd hc (nI_pos (by omega))) (fun _ => ?_)
      refine lv_lload_n (pc := 16) hx hb dDe_takeGroup_16 rfl (lv_at hl 1 rfl) ?_
      refine lv_bipush (pc := 17) (v := (nI 32)) hx hb dDe_takeGroup_17 (by decide) ?_
      refine lv_lshl (pc := 19) (v := lN (rr * 4294967296)) hx hb dDe_takeGroup_19 (wb_shl rr (k := 32) (by decide)) ?_
      refine lv_aload_n (pc := 20) hx hb dDe_takeGroup_20 rfl (lv_at hl 2 rfl) ?_
      refine fw_get (pc := 21) (ci := 2) (v := .ref (dp + 1)) (C := RDe) (T := TDe) (N := 1) hx hb hW in_De hown hK.1 hw h rfl 0 (by decide) (hW _ lf_De_12) (fun _ h => h) rfl dDe_takeGroup_21 ?_
      refine fw_get (pc := 24) (ci := 5) (v := .ref (dp + 1 + 1)) (C := RNa) (T := TNa) (N := 2) hx hb hW in_Na hown hK.1 hw o0 rfl 0 (by decide) (hW _ lf_De_36) (fun _ h => h) rfl dDe_takeGroup_24 ?_
      refine lv_iload_n (pc := 27) hx hb dDe_takeGroup_27 rfl (lv_at hl 0 rfl) ?_
      refine fw_laldN (pc := 28) (x := lN (g1 (i))) hx hb hK.1 hw 1 h2 rfl (i) (show i < 50 by omega) (by decide) rfl dDe_takeGroup_28 ?_
      have lg : g1 i < nB := hgb i (by omega)
      refine lv_lor (pc := 29) hx hb dDe_takeGroup_29 ?_
      obtain ⟨bo, hbo⟩ : ∃ bo, bo = rr * nB + g1 i := ⟨_, rfl⟩
      rw [show ((lN (rr * 4294967296) ||| lN (g1 (i))) : Int64) = lN bo from (by rw [hbo]; exact g_or (k := 32) (by decide) lg (by omega))]
      have hbo2 : bo = rr * 4294967296 + g1 i := hbo
      have hb63 : bo < 2 ^ 63 := by omega
      refine lv_lstore (pc := 30) (lv' := [(4, .long (lN bo)), (3, .int (nI i)), (1, .long (lN rr)), (0, .ref dp)]) hx hb dDe_takeGroup_30 hl (by decide) rfl (fun ls hl => ?_)
      refine lv_aload_n (pc := 32) hx hb dDe_takeGroup_32 rfl (lv_at hl 3 rfl) ?_
      refine fw_get (pc := 33) (ci := 2) (v := .ref (dp + 1)) (C := RDe) (T := TDe) (N := 1) hx hb hW in_De hown hK.1 hw h rfl 0 (by decide) (hW _ lf_De_12) (fun _ h => h) rfl dDe_takeGroup_33 ?_
      refine fw_get (pc := 36) (ci := 5) (v := .ref (dp + 1 + 1)) (C := RNa) (T := TNa) (N := 2) hx hb hW in_Na hown hK.1 hw o0 rfl 0 (by decide) (hW _ lf_De_36) (fun _ h => h) rfl dDe_takeGroup_36 ?_
      refine lv_iload_n (pc := 39) hx hb dDe_takeGroup_39 rfl (lv_at hl 1 rfl) ?_
      refine lv_lload (pc := 40) hx hb dDe_takeGroup_40 (lv_at hl 0 rfl) ?_
      refine lv_ldc2 (pc := 42) (v := lN 1000000000) hx hb hown (hW _ kl_De_40) dDe_takeGroup_42 ?_
      refine lv_ldiv (pc := 45) hx hb dDe_takeGroup_45 (by decide) ?_
      rw [show ((lN bo / (lN 1000000000)) : Int64) = lN (bo / 1000000000) from (pk_lDiv hb63 (by decide) (by decide))]
      have hqb : bo / 1000000000 < nB := by rw [hbo]; exact kt_lt hrr lg
      refine fw_lastN (pc := 46) (f2 := fun j => lN (va_up g1 i (bo / 1000000000) j)) hx hb hK.1 hw 1 h2 rfl (i) (show i < 50 by omega) (by decide) (lN_up _ _ _) dDe_takeGroup_46 (fun H locs hw => ?_)
      obtain ⟨w2, e2⟩ : ∃ w_, w_ = fw_up w1 (dp + 1 + 1) (.inl (cL, 50, .inr (.inl (fun j => lN (va_up g1 i (bo / 1000000000) j))))) := ⟨_, rfl⟩
      have hw : fw_H D kCl (fw_A w (sz)) s.heap w2 (sz) H locs := by rw [e2]; exact hw
      have h_ : w2 (dp) = some (.inr (2, [.ref (dp + 1)])) := by rw [e2, fw_un (fw_neK2 h h2)]; exact h
      have o0_ : w2 (dp + 1) = some (.inr (5, [.ref (dp + 1 + 1), .int (nI k)])) := by rw [e2, fw_un (fw_neK2 o0 h2)]; exact o0
      have h2_ : w2 (dp + 1 + 1) = some (.inl (cL, 50, .inr (.inl (fun j => lN (va_up g1 i (bo / 1000000000) j))))) := by rw [e2]; exact fw_us _ _ _
      have h := h_
      have o0 := o0_
      have h2 := h2_
      refine lv_lload (pc := 47) hx hb dDe_takeGroup_47 (lv_at hl 0 rfl) ?_
      refine lv_ldc2 (pc := 49) (v := lN 1000000000) hx hb hown (hW _ kl_De_40) dDe_takeGroup_49 ?_
      refine lv_lrem (pc := 52) hx hb dDe_takeGroup_52 (by decide) ?_
      rw [show ((lN bo - lN bo / (lN 1000000000) * (lN 1000000000)) : Int64) = lN (bo % 1000000000) from (pk_lRem hb63 (by decide) (by decide))]
      refine lv_lstore_n (pc := 53) (lv' := [(1, .long (lN (bo % 1000000000))), (4, .long (lN bo)), (3, .int (nI i)), (0, .ref dp)]) hx hb dDe_takeGroup_53 rfl hl (by decide) rfl (fun ls hl => ?_)
      refine lv_iinc (pc := 54) (lv' := [(3, .int (nI i - nI 1)), (1, .long (lN (bo % 1000000000))), (4, .long (lN bo)), (0, .ref dp)]) hx hb dDe_takeGroup_54 hl (k := 2) rfl ((by rw [Int32.sub_eq_add_neg]; rfl)) (by decide) rfl (fun ls hl => ?_)
      refine lv_goto (pc := 57) (tgt := 12) hx hb dDe_takeGroup_57 (by decide) ?_
      refine ih (by omega) _ H locs ls (bo % 1000000000) (va_up g1 i (bo / 1000000000)) hw (lv_sub hl [0, 1, 3] rfl) h2 (fun q hq => by rw [e2, fw_un hq, ho q hq]) (fun j hj => by (unfold va_up; split; exact Nat.lt_of_lt_of_le hqb (by decide); exact hg j hj)) (fun j hj => by (unfold va_up; split; exact hqb; exact hgb j hj)) (Nat.mod_lt _ (by decide)) ?_
      rw [show k - i = k - (i + 1) + 1 by omega, nw_h, nw_eq (h := g1) (fun j hj => if_neg (by omega)), show va_up g1 i (bo / 1000000000) i = bo / 1000000000 from if_pos rfl, nv_up (Nat.le_refl i), hbo]
      rw [nv_s] at hs
      exact kt_step hs
  refine lv_lconst (pc := 0) (v := lN 0) hx hb dDe_takeGroup_0 (by decide) ?_
  refine lv_lstore_n (pc := 1) (lv' := [(1, .long (lN 0)), (0, .ref dp)]) hx hb dDe_takeGroup_1 rfl hl (by decide) rfl (fun ls hl => ?_)
  refine lv_aload_n (pc := 2) hx hb dDe_takeGroup_2 rfl (lv_at hl 1 rfl) ?_
  refine fw_get (pc := 3) (ci := 2) (v := .ref (dp + 1)) (C := RDe) (T := TDe) (N := 1) hx hb hW in_De hown hK.1 hw h rfl 0 (by decide) (hW _ lf_De_12) (fun _ h => h) rfl dDe_takeGroup_3 ?_
  refine fw_get (pc := 6) (ci := 5) (v := .int (nI k)) (C := RNa) (T := TNa) (N := 2) hx hb hW in_Na hown hK.1 hw o0 rfl 1 (by decide) (hW _ lf_De_32) (fun _ h => h) rfl dDe_takeGroup_6 ?_
  refine lv_iconst (pc := 9) (v := (nI 1)) hx hb dDe_takeGroup_9 (by decide) ?_
  refine lv_isub (pc := 10) hx hb dDe_takeGroup_10 ?_
  refine lv_istore_n (pc := 11) (lv' := [(3, .int ((nI k - (nI 1)))), (1, .long (lN 0)), (0, .ref dp)]) hx hb dDe_takeGroup_11 rfl hl (by decide) rfl (fun ls hl => ?_)
  exact loop k (Nat.le_refl k) w H [] ls 0 g hw (lv_sub hl [0, 1, 2] rfl) o1 (fun q _ => rfl) og on.1 (by decide) (by rw [Nat.sub_self, nw_0, ov]; simp)

set_option maxHeartbeats 4000000 in
set_option maxRecDepth 100000 in
theorem c_De_digitAt {dp n x i e0 : Nat} (h : w dp = some (.inr (2, [.ref (dp + 1)]))) (hl0 : isV cL w (dp + 1) e0) (hv : isV cL w n x) (hap : n + 1 < dp ∨ dp + 2 < n) (hx7 : x < 2 ^ 768) (hi : i < 2 ^ 31) : fw_C l yDe_digitAt (Cond.code yDe_digitAt cDe_digitAt 6 (some FieldType.int) :: kWs) ({ frames := 2, cells := 0, slots := 0, locals := 46 } : Room) D kCl (kty cI cL cQ) z [.ref dp, .ref n, .int (nI i)] (sz) w 0 0 (fun v w' => v = some (.int (nI (x / 10 ^ i % 10))) ∧ (∃ e4, isV cL w' (dp + 1) e4) ∧ ∀ q, q ≠ dp + 1 → q ≠ dp + 1 + 1 → w' q = w q) := by
  refine fw_ofW (cc := cDe_digitAt) (maxL := 6) (ret := (some FieldType.int)) (by decide) rfl (Nat.le_of_ble_eq_true rfl) ?_
  intro p e s m args below meth c hx hb hr hts hown hlocks hname hml hK H ls hw hl
  have hW : ∀ w ∈ kWs, w.before args s = true := fun w h => hts w (List.mem_cons_of_mem _ h)
  have hown : s.vm.findClass RDe = some m.cls := hown
  have hl : lv_has ls 6 [(0, .ref dp), (1, .ref n), (2, .int (nI i))] := hl
  have n0 : ∃ kk : Nat, w (dp + 1) = some (.inr (5, [.ref (dp + 1 + 1), .int (nI kk)])) := by obtain ⟨g, k, ⟨a, _⟩, _⟩ := hl0; exact ⟨k, a⟩
  obtain ⟨k, n0⟩ := n0
  have h9 := h
  have two : ∀ (w1 : fw_W) (H : Heap) (locs : List Loc), fw_H D kCl (fw_A w (sz)) s.heap w1 (sz) H locs → (∃ e4, isV cL w1 (dp + 1) e4) → (∀ q, q ≠ dp + 1 → q ≠ dp + 1 + 1 → w1 q = w q) → ∀ (e9 t gp : Nat), t + e9 = i % 9 → gp < 1000000000 → gp = x / 10 ^ (9 * (i / 9)) % 1000000000 / 10 ^ t → ∀ (ls : Array Slot), lv_has ls 6 [(5, .int (nI t)), (3, .long (lN gp)), (0, .ref dp), (1, .ref n), (2, .int (nI i))] → W p l e ({ frames := 2, cells := 0, slots := 0, locals := 46 } : Room) s m args below meth c H locs 0 0 (MQ below (fw_Q D kCl w (sz) 0 (fun v w' => v = some (.int (nI (x / 10 ^ i % 10))) ∧ (∃ e4, isV cL w' (dp + 1) e4) ∧ ∀ q, q ≠ dp + 1 → q ≠ dp + 1 + 1 → w' q = w q)) args s 0 0 (fw_A w (sz))) (F0 m 50 ls []) := by
    intro w1 H locs hw hV4 ho e9
    induction e9 with
    | zero =>
      intro t gp hte hgp hgv ls hl
      refine lv_iload (pc := 50) hx hb dDe_digitAt_50 (lv_at hl 0 rfl) ?_
      refine lv_iload_n (pc := 52) hx hb dDe_digitAt_52 rfl (lv_at hl 4 rfl) ?_
      refine lv_bipush (pc := 53) (v := (nI 9)) hx hb dDe_digitAt_53 (by decide) ?_
      refine lv_irem (pc := 55) hx hb dDe_digitAt_55 (by decide) ?_
      rw [show ((nI i - nI i / (nI 9) * (nI 9)) : Int32) = nI (i % 9) from (pk_rem hi (by decide) (by decide))]
      refine lv_icmp_ge (pc := 56) (tgt := 71) hx hb dDe_digitAt_56 (by decide) (fun _ => ?_) (fun hc => absurd (nI_le (show i % 9 ≤ t by omega) (by omega)) hc)
      refine lv_lload_n (pc := 71) hx hb dDe_digitAt_71 rfl (lv_at hl 1 rfl) ?_
      refine lv_ldc2 (pc := 72) (v := lN 10) hx hb hown (hW _ kl_De_26) dDe_digitAt_72 ?_
      refine lv_lrem (pc := 75) hx hb dDe_digitAt_75 (by decide) ?_
      rw [show ((lN gp - lN gp / (lN 10) * (lN 10)) : Int64) = lN (gp % 10) from (pk_lRem (by omega) (by decide) (by decide))]
      refine lv_l2i (pc := 76) (v := nI (gp % 10)) hx hb dDe_digitAt_76 (lN_i _) ?_
      exact fw_iret (pc := 77) hx hb hr hlocks hw dDe_digitAt_77 ⟨by rw [hgv, show t = i % 9 by omega, dg_all], hV4, ho⟩
    | succ e9 ih =>
      intro t gp hte hgp hgv ls hl
      refine lv_iload (pc := 50) hx hb dDe_digitAt_50 (lv_at hl 0 rfl) ?_
      refine lv_iload_n (pc := 52) hx hb dDe_digitAt_52 rfl (lv_at hl 4 rfl) ?_
      refine lv_bipush (pc := 53) (v := (nI 9)) hx hb dDe_digitAt_53 (by decide) ?_
      refine lv_irem (pc := 55) hx hb dDe_digitAt_55 (by decide) ?_
      rw [show ((nI i - nI i / (nI 9) * (nI 9)) : Int32) = nI (i % 9) from (pk_rem hi (by decide) (by decide))]
      refine lv_icmp_ge (pc := 56) (tgt := 71) hx hb dDe_digitAt_56 (by decide) (fun hc => absurd hc (nI_ge (show t < i % 9 by omega) (by omega))) (fun _ => ?_)
      refine lv_lload_n (pc := 59) hx hb dDe_digitAt_59 rfl (lv_at hl 1 rfl) ?_
      refine lv_ldc2 (pc := 60) (v := lN 10) hx hb hown (hW _ kl_De_26) dDe_digitAt_60 ?_
      refine lv_ldiv (pc := 63) hx hb dDe_digitAt_63 (by decide) ?_
      rw [show ((lN gp / (lN 10)) : Int64) = lN (gp / 10) from (pk_lDiv (by omega) (by decide) (by decide))]
      refine lv_lstore_n (pc := 64) (lv' := [(3, .long (lN (gp / 10))), (5, .int (nI t)), (0, .ref dp), (1, .ref n), (2, .int (nI i))]) hx hb dDe_digitAt_64 rfl hl (by decide) rfl (fun ls hl => ?_)
      refine lv_iinc (pc := 65) (lv' := [(5, .int (nI (t + 1))), (3, .long (lN (gp / 10))), (0, .ref dp), (1, .ref n), (2, .int (nI i))]) hx hb dDe_digitAt_65 hl (k := 1) rfl ((nI_add t 1)) (by decide) rfl (fun ls hl => ?_)
      refine lv_goto (pc := 68) (tgt := 50) hx hb dDe_digitAt_68 (by decide) ?_
      exact ih (t + 1) (gp / 10) (by omega) (by omega) (by rw [hgv, Nat.div_div_eq_div_mul, Nat.pow_succ]) ls (lv_sub hl [0, 1, 2, 3, 4] rfl)
  have one : ∀ (e9 t : Nat), t + e9 = i / 9 → ∀ (w1 : fw_W) (H : Heap) (locs : List Loc) (ls : Array Slot), fw_H D kCl (fw_A w (sz)) s.heap w1 (sz) H locs → isV cL w1 (dp + 1) (x / 10 ^ (9 * t)) → (∀ q, q ≠ dp + 1 → q ≠ dp + 1 + 1 → w1 q = w q) → lv_has ls 6 [(3, .int (nI t)), (0, .ref dp), (1, .ref n), (2, .int (nI i))] → W p l e ({ frames := 2, cells := 0, slots := 0, locals := 46 } : Room) s m args below meth c H locs 0 0 (MQ below (fw_Q D kCl w (sz) 0 (fun v w' => v = some (.int (nI (x / 10 ^ i % 10))) ∧ (∃ e4, isV cL w' (dp + 1) e4) ∧ ∀ q, q ≠ dp + 1 → q ≠ dp + 1 + 1 → w' q = w q)) args s 0 0 (fw_A w (sz))) (F0 m 23 ls []) := by
    intro e9
    induction e9 with
    | zero =>
      intro t hte w1 H locs ls hw hV1 ho hl
      have h : w1 dp = some (.inr (2, [.ref (dp + 1)])) := (ho _ (by omega) (by omega)).trans h9
      refine lv_iload_n (pc := 23) hx hb dDe_digitAt_23 rfl (lv_at hl 0 rfl) ?_
      refine lv_iload_n (pc := 24) hx hb dDe_digitAt_24 rfl (lv_at hl 3 rfl) ?_
      refine lv_bipush (pc := 25) (v := (nI 9)) hx hb dDe_digitAt_25 (by decide) ?_
      refine lv_idiv (pc := 27) hx hb dDe_digitAt_27 (by decide) ?_
      rw [show ((nI i / (nI 9)) : Int32) = nI (i / 9) from (pk_div hi (by decide) (by decide))]
      refine lv_icmp_ge (pc := 28) (tgt := 42) hx hb dDe_digitAt_28 (by decide) (fun _ => ?_) (fun hc => absurd (nI_le (show i / 9 ≤ t by omega) (by omega)) hc)
      refine lv_aload_n (pc := 42) hx hb dDe_digitAt_42 rfl (lv_at hl 1 rfl) ?_
      refine fw_cV (pc := 43) (As := []) (rest := []) ⟨hx, hb, hml, hown, hW⟩ (c_De_takeGroup h hV1) (cwV 0 hW (kw_V lm_De_22 im_De_takeGroup se_De_takeGroup ini_De cd_De_takeGroup) rfl rfl rfl (by decide +kernel) ⟨Nat.le_of_ble_eq_true rfl, Nat.le_of_ble_eq_true rfl⟩) hK hw h rfl rfl hl.1 rfl (Nat.le_of_ble_eq_true rfl) dDe_digitAt_43 ⟨Nat.le_of_ble_eq_true rfl, Nat.le_of_ble_eq_true rfl⟩ (fun v w3 H locs hq hw => ?_)
      obtain ⟨rfl, hV2, to2⟩ := hq
      refine W.eq (g2 := F0 m 46 ls [.long (lN (x / 10 ^ (9 * t) % 1000000000))]) rfl ?_
      refine lv_lstore_n (pc := 46) (lv' := [(3, .long (lN (x / 10 ^ (9 * t) % 1000000000))), (0, .ref dp), (1, .ref n), (2, .int (nI i))]) hx hb dDe_digitAt_46 rfl hl (by decide) rfl (fun ls hl => ?_)
      refine lv_iconst (pc := 47) (v := (nI 0)) hx hb dDe_digitAt_47 (by decide) ?_
      refine lv_istore (pc := 48) (lv' := [(5, .int (nI 0)), (3, .long (lN (x / 10 ^ (9 * t) % 1000000000))), (0, .ref dp), (1, .ref n), (2, .int (nI i))]) hx hb dDe_digitAt_48 hl (by decide) rfl (fun ls hl => ?_)
      exact two _ H locs hw ⟨_, hV2⟩ (fun q h1 h2 => (to2 q h1 h2).trans (ho q h1 h2)) (i % 9) 0 _ (by omega) (Nat.mod_lt _ (by decide)) (by rw [show t = i / 9 by omega, Nat.pow_zero, Nat.div_one]) ls (lv_sub hl [0, 1, 2, 3, 4] rfl)
    | succ e9 ih =>
      intro t hte w1 H locs ls hw hV1 ho hl
      have h : w1 dp = some (.inr (2, [.ref (dp + 1)])) := (ho _ (by omega) (by omega)).trans h9
      refine lv_iload_n (pc := 23) hx hb dDe_digitAt_23 rfl (lv_at hl 0 rfl) ?_
      refine lv_iload_n (pc := 24) hx hb dDe_digitAt_24 rfl (lv_at hl 3 rfl) ?_
      refine lv_bipush (pc := 25) (v := (nI 9)) hx hb dDe_digitAt_25 (by decide) ?_
      refine lv_idiv (pc := 27) hx hb dDe_digitAt_27 (by decide) ?_
      rw [show ((nI i / (nI 9)) : Int32) = nI (i / 9) from (pk_div hi (by decide) (by decide))]
      refine lv_icmp_ge (pc := 28) (tgt := 42) hx hb dDe_digitAt_28 (by decide) (fun hc => absurd hc (nI_ge (show t < i / 9 by omega) (by omega))) (fun _ => ?_)
      refine lv_aload_n (pc := 31) hx hb dDe_digitAt_31 rfl (lv_at hl 1 rfl) ?_
      refine fw_cV (pc := 32) (As := []) (rest := []) ⟨hx, hb, hml, hown, hW⟩ (c_De_takeGroup h hV1) (cwV 0 hW (kw_V lm_De_22 im_De_takeGroup se_De_takeGroup ini_De cd_De_takeGroup) rfl rfl rfl (by decide +kernel) ⟨Nat.le_of_ble_eq_true rfl, Nat.le_of_ble_eq_true rfl⟩) hK hw h rfl rfl hl.1 rfl (Nat.le_of_ble_eq_true rfl) dDe_digitAt_32 ⟨Nat.le_of_ble_eq_true rfl, Nat.le_of_ble_eq_true rfl⟩ (fun v w3 H locs hq hw => ?_)
      obtain ⟨rfl, hV2, to2⟩ := hq
      refine W.eq (g2 := F0 m 35 ls [.long (lN (x / 10 ^ (9 * t) % 1000000000))]) rfl ?_
      refine lv_pop2_2 (pc := 35) hx hb dDe_digitAt_35 rfl ?_
      refine lv_iinc (pc := 36) (lv' := [(3, .int (nI (t + 1))), (0, .ref dp), (1, .ref n), (2, .int (nI i))]) hx hb dDe_digitAt_36 hl (k := 0) rfl ((nI_add t 1)) (by decide) rfl (fun ls hl => ?_)
      refine lv_goto (pc := 39) (tgt := 23) hx hb dDe_digitAt_39 (by decide) ?_
      exact ih (t + 1) (by omega) _ H locs ls hw (by rw [show 9 * (t + 1) = 9 * t + 9 by omega, ← dg_div]; exact hV2) (fun q h1 h2 => (to2 q h1 h2).trans (ho q h1 h2)) (lv_sub hl [0, 1, 2, 3] rfl)
  refine lv_iload_n (pc := 0) hx hb dDe_digitAt_0 rfl (lv_at hl 2 rfl) ?_
  refine lv_if_lt (pc := 1) (tgt := 11) hx hb dDe_digitAt_1 (by decide) (fun hc => absurd hc (nI_pos hi)) (fun _ => ?_)
  refine lv_iload_n (pc := 4) hx hb dDe_digitAt_4 rfl (lv_at hl 2 rfl) ?_
  refine lv_sipush (pc := 5) (v := (nI 232)) hx hb dDe_digitAt_5 (by decide) ?_
  refine lv_icmp_lt (pc := 8) (tgt := 13) hx hb dDe_digitAt_8 (by decide) (fun hc => ?_) (fun hc => ?_)
  · refine lv_aload_n (pc := 13) hx hb dDe_digitAt_13 rfl (lv_at hl 0 rfl) ?_
    refine fw_get (pc := 14) (ci := 2) (v := .ref (dp + 1)) (C := RDe) (T := TDe) (N := 1) hx hb hW in_De hown hK.1 hw h rfl 0 (by decide) (hW _ lf_De_12) (fun _ h => h) rfl dDe_digitAt_14 ?_
    refine lv_aload_n (pc := 17) hx hb dDe_digitAt_17 rfl (lv_at hl 1 rfl) ?_
    refine fw_cV (pc := 18) (As := [.ref n]) (rest := []) ⟨hx, hb, hml, hown, hW⟩ (c_Na_become (by omega) hl0 hv) (cwV 1 hW (kw_V lm_De_18 im_Na_become se_Na_become ini_Na cd_Na_become) rfl rfl rfl (by decide +kernel) ⟨Nat.le_of_ble_eq_true rfl, Nat.le_of_ble_eq_true rfl⟩) hK hw n0 rfl rfl hl.1 rfl (Nat.le_of_ble_eq_true rfl) dDe_digitAt_18 ⟨Nat.le_of_ble_eq_true rfl, Nat.le_of_ble_eq_true rfl⟩ (fun v w30 H locs hq hw => ?_)
    obtain ⟨rfl, hV, co⟩ := hq
    refine W.eq (g2 := F0 m 21 ls []) rfl ?_
    refine lv_iconst (pc := 21) (v := (nI 0)) hx hb dDe_digitAt_21 (by decide) ?_
    refine lv_istore_n (pc := 22) (lv' := [(3, .int (nI 0)), (0, .ref dp), (1, .ref n), (2, .int (nI i))]) hx hb dDe_digitAt_22 rfl hl (by decide) rfl (fun ls hl => ?_)
    exact one (i / 9) 0 (by omega) _ H locs ls hw (by rw [Nat.mul_zero, Nat.pow_zero, Nat.div_one]; exact hV) co (lv_sub hl [0, 1, 2, 3] rfl)
  · have h232 : 232 ≤ i := Nat.le_of_not_lt (fun h8 => hc ((nI_ltI hi (by decide)).mpr h8))
    refine lv_iconst (pc := 11) (v := (nI 0)) hx hb dDe_digitAt_11 (by decide) ?_
    exact fw_iret (pc := 12) hx hb hr hlocks hw dDe_digitAt_12 ⟨by rw [p768b hx7 h232], ⟨_, hl0⟩, fun q _ _ => rfl⟩

set_option maxHeartbeats 4000000 in
set_option maxRecDepth 100000 in
theorem c_De_length {dp n x e0 : Nat} (h : w dp = some (.inr (2, [.ref (dp + 1)]))) (hl0 : isV cL w (dp + 1) e0) (hv : isV cL w n x) (hap : n + 1 < dp ∨ dp + 2 < n) (hx7 : x < 2 ^ 768) : fw_C l yDe_length (Cond.code yDe_length cDe_length 7 (some FieldType.int) :: kWs) ({ frames := 2, cells := 0, slots := 0, locals := 46 } : Room) D kCl (kty cI cL cQ) z [.ref dp, .ref n] (sz) w 0 0 (fun v w' => (∃ c, v = some (.int (nI c)) ∧ isDl x c ∧ c < 2 ^ 31) ∧ (∃ e4, isV cL w' (dp + 1) e4) ∧ ∀ q, q ≠ dp + 1 → q ≠ dp + 1 + 1 → w' q = w q) := by
  refine fw_ofW (cc := cDe_length) (maxL := 7) (ret := (some FieldType.int)) (by decide) rfl (Nat.le_of_ble_eq_true rfl) ?_
  intro p e s m args below meth c hx hb hr hts hown hlocks hname hml hK H ls hw hl
  have hW : ∀ w ∈ kWs, w.before args s = true := fun w h => hts w (List.mem_cons_of_mem _ h)
  have hown : s.vm.findClass RDe = some m.cls := hown
  have hl : lv_has ls 7 [(0, .ref dp), (1, .ref n)] := hl
  have n0 : ∃ kk : Nat, w (dp + 1) = some (.inr (5, [.ref (dp + 1 + 1), .int (nI kk)])) := by obtain ⟨g, k, ⟨a, _⟩, _⟩ := hl0; exact ⟨k, a⟩
  obtain ⟨k, n0⟩ := n0
  have h9 := h
  have two : ∀ (w1 : fw_W) (H : Heap) (locs : List Loc), fw_H D kCl (fw_A w (sz)) s.heap w1 (sz) H locs → (∃ e4, isV cL w1 (dp + 1) e4) → (∀ q, q ≠ dp + 1 → q ≠ dp + 1 + 1 → w1 q = w q) → ∀ (t : Nat), t < 232 → (t = 0 ∨ 10 ^ (9 * t) ≤ x) → x / 10 ^ (9 * t) < 1000000000 → ∀ (e9 i gp : Nat), i + e9 = 9 → 0 < i → gp = x / 10 ^ (9 * t) / 10 ^ (i - 1) → (i = 1 ∨ 10 ^ (i - 1) ≤ x / 10 ^ (9 * t)) → ∀ (ls : Array Slot), lv_has ls 7 [(6, .int (nI i)), (5, .int (nI i)), (3, .long (lN gp)), (2, .int (nI (9 * t))), (0, .ref dp), (1, .ref n)] → W p l e ({ frames := 2, cells := 0, slots := 0, locals := 46 } : Room) s m args below meth c H locs 0 0 (MQ below (fw_Q D kCl w (sz) 0 (fun v w' => (∃ c, v = some (.int (nI c)) ∧ isDl x c ∧ c < 2 ^ 31) ∧ (∃ e4, isV cL w' (dp + 1) e4) ∧ ∀ q, q ≠ dp + 1 → q ≠ dp + 1 + 1 → w' q = w q)) args s 0 0 (fw_A w (sz))) (F0 m 56 ls []) := by
    intro w1 H locs hw hV4 ho t ht ht2 htl e9
    induction e9 with
    | zero =>
      intro i gp hie hi0 hgv hi2 ls hl
      have hgl : gp < 1000000000 := by rw [hgv]; exact Nat.lt_of_le_of_lt (Nat.div_le_self _ _) htl
      refine lv_iload (pc := 56) hx hb dDe_length_56 (lv_at hl 0 rfl) ?_
      refine lv_bipush (pc := 58) (v := (nI 9)) hx hb dDe_length_58 (by decide) ?_
      refine lv_icmp_ge (pc := 60) (tgt := 86) hx hb dDe_length_60 (by decide) (fun _ => ?_) (fun hc => absurd (nI_le (show 9 ≤ i by omega) (by omega)) hc)
      refine lv_iload_n (pc := 86) hx hb dDe_length_86 rfl (lv_at hl 3 rfl) ?_
      refine lv_iload (pc := 87) hx hb dDe_length_87 (lv_at hl 1 rfl) ?_
      refine lv_iadd (pc := 89) hx hb dDe_length_89 ?_
      rw [show ((nI (9 * t) + nI i) : Int32) = nI (9 * t + i) from (nI_add _ _)]
      exact fw_iret (pc := 90) hx hb hr hlocks hw dDe_length_90 ⟨⟨9 * t + i, rfl, dl_end hi0 (by rw [show i = 9 by omega]; exact htl) hi2 ht2, by omega⟩, hV4, ho⟩
    | succ e9 ih =>
      intro i gp hie hi0 hgv hi2 ls hl
      have hgl : gp < 1000000000 := by rw [hgv]; exact Nat.lt_of_le_of_lt (Nat.div_le_self _ _) htl
      refine lv_iload (pc := 56) hx hb dDe_length_56 (lv_at hl 0 rfl) ?_
      refine lv_bipush (pc := 58) (v := (nI 9)) hx hb dDe_length_58 (by decide) ?_
      refine lv_icmp_ge (pc := 60) (tgt := 86) hx hb dDe_length_60 (by decide) (fun hc => absurd hc (nI_ge (show i < 9 by omega) (by decide))) (fun _ => ?_)
      refine lv_lload_n (pc := 63) hx hb dDe_length_63 rfl (lv_at hl 2 rfl) ?_
      refine lv_ldc2 (pc := 64) (v := lN 10) hx hb hown (hW _ kl_De_26) dDe_length_64 ?_
      refine W.lcmp (pc := 67) hx hb dDe_length_67 ?_
      refine lv_if_lt (pc := 68) (tgt := 86) hx hb dDe_length_68 (by decide) (fun hc => ?_) (fun hc => ?_)
      · have hg10 : gp < 10 := (pk_lLT (by omega) (by decide)).mp ((lg_cmp_lt _ _).mp hc)
        refine lv_iload_n (pc := 86) hx hb dDe_length_86 rfl (lv_at hl 3 rfl) ?_
        refine lv_iload (pc := 87) hx hb dDe_length_87 (lv_at hl 1 rfl) ?_
        refine lv_iadd (pc := 89) hx hb dDe_length_89 ?_
        rw [show ((nI (9 * t) + nI i) : Int32) = nI (9 * t + i) from (nI_add _ _)]
        exact fw_iret (pc := 90) hx hb hr hlocks hw dDe_length_90 ⟨⟨9 * t + i, rfl, dl_end hi0 (by rw [hgv] at hg10; exact dl_lt hi0 hg10) hi2 ht2, by omega⟩, hV4, ho⟩
      · have hg10 : 10 ≤ gp := Nat.le_of_not_lt (fun h8 => hc ((lg_cmp_lt _ _).mpr ((pk_lLT (by omega) (by decide)).mpr h8)))
        refine lv_lload_n (pc := 71) hx hb dDe_length_71 rfl (lv_at hl 2 rfl) ?_
        refine lv_ldc2 (pc := 72) (v := lN 10) hx hb hown (hW _ kl_De_26) dDe_length_72 ?_
        refine lv_ldiv (pc := 75) hx hb dDe_length_75 (by decide) ?_
        rw [show ((lN gp / (lN 10)) : Int64) = lN (gp / 10) from (pk_lDiv (by omega) (by decide) (by decide))]
        refine lv_lstore_n (pc := 76) (lv' := [(3, .long (lN (gp / 10))), (6, .int (nI i)), (5, .int (nI i)), (2, .int (nI (9 * t))), (0, .ref dp), (1, .ref n)]) hx hb dDe_length_76 rfl hl (by decide) rfl (fun ls hl => ?_)
        refine lv_iinc (pc := 77) (lv' := [(5, .int (nI (i + 1))), (3, .long (lN (gp / 10))), (6, .int (nI i)), (2, .int (nI (9 * t))), (0, .ref dp), (1, .ref n)]) hx hb dDe_length_77 hl (k := 2) rfl ((nI_add i 1)) (by decide) rfl (fun ls hl => ?_)
        refine lv_iinc (pc := 80) (lv' := [(6, .int (nI (i + 1))), (5, .int (nI (i + 1))), (3, .long (lN (gp / 10))), (2, .int (nI (9 * t))), (0, .ref dp), (1, .ref n)]) hx hb dDe_length_80 hl (k := 2) rfl ((nI_add i 1)) (by decide) rfl (fun ls hl => ?_)
        refine lv_goto (pc := 83) (tgt := 56) hx hb dDe_length_83 (by decide) ?_
        have hg11 : 10 ^ i ≤ x / 10 ^ (9 * t) := by rw [hgv] at hg10; exact dl_ge hi0 hg10
        exact ih (i + 1) (gp / 10) (by omega) (by omega) (by rw [hgv, Nat.div_div_eq_div_mul, ← Nat.pow_succ, Nat.add_sub_cancel, show (i - 1).succ = i by omega]) (Or.inr hg11) ls (lv_sub hl [0, 1, 2, 3, 4, 5] rfl)
  have one : ∀ (e9 t : Nat), t + e9 = 232 → ∀ (w1 : fw_W) (H : Heap) (locs : List Loc) (ls : Array Slot), fw_H D kCl (fw_A w (sz)) s.heap w1 (sz) H locs → isV cL w1 (dp + 1) (x / 10 ^ (9 * t) / 1000000000) → (∀ q, q ≠ dp + 1 → q ≠ dp + 1 + 1 → w1 q = w q) → (t = 0 ∨ 10 ^ (9 * t) ≤ x) → lv_has ls 7 [(5, .int (nI t)), (3, .long (lN (x / 10 ^ (9 * t) % 1000000000))), (2, .int (nI (9 * t))), (0, .ref dp), (1, .ref n)] → W p l e ({ frames := 2, cells := 0, slots := 0, locals := 46 } : Room) s m args below meth c H locs 0 0 (MQ below (fw_Q D kCl w (sz) 0 (fun v w' => (∃ c, v = some (.int (nI c)) ∧ isDl x c ∧ c < 2 ^ 31) ∧ (∃ e4, isV cL w' (dp + 1) e4) ∧ ∀ q, q ≠ dp + 1 → q ≠ dp + 1 + 1 → w' q = w q)) args s 0 0 (fw_A w (sz))) (F0 m 18 ls []) := by
    intro e9
    induction e9 with
    | zero =>
      intro t hte w1 H locs ls hw hV1 ho ht2 hl
      have h : w1 dp = some (.inr (2, [.ref (dp + 1)])) := (ho _ (by omega) (by omega)).trans h9
      exfalso
      rcases ht2 with h8 | h8
      · omega
      · have h7 : 10 ^ 232 ≤ 10 ^ (9 * t) := Nat.pow_le_pow_right (by decide) (by omega)
        exact absurd hx7 (Nat.not_lt.mpr (Nat.le_trans (Nat.le_of_lt p768) (Nat.le_trans h7 h8)))
    | succ e9 ih =>
      intro t hte w1 H locs ls hw hV1 ho ht2 hl
      have h : w1 dp = some (.inr (2, [.ref (dp + 1)])) := (ho _ (by omega) (by omega)).trans h9
      obtain ⟨g, k, ⟨n0, n1⟩, nk_, ng, nn, nv_⟩ := id hV1
      have hkz := nk_zero nn nv_
      refine lv_iload (pc := 18) hx hb dDe_length_18 (lv_at hl 0 rfl) ?_
      refine lv_sipush (pc := 20) (v := (nI 232)) hx hb dDe_length_20 (by decide) ?_
      refine lv_icmp_ge (pc := 23) (tgt := 50) hx hb dDe_length_23 (by decide) (fun hc => absurd hc (nI_ge (show t < 232 by omega) (by decide))) (fun _ => ?_)
      refine lv_aload_n (pc := 26) hx hb dDe_length_26 rfl (lv_at hl 3 rfl) ?_
      refine fw_get (pc := 27) (ci := 2) (v := .ref (dp + 1)) (C := RDe) (T := TDe) (N := 1) hx hb hW in_De hown hK.1 hw h rfl 0 (by decide) (hW _ lf_De_12) (fun _ h => h) rfl dDe_length_27 ?_
      by_cases hk0 : k = 0
      · refine fw_cVR (pc := 30) (As := []) (rest := []) ⟨hx, hb, hml, hown, hW⟩ (c_Na_isZero (by omega) n0) (cwV 0 hW (kw_V lm_De_28 im_Na_isZero se_Na_isZero ini_Na cd_Na_isZero) rfl rfl rfl (by decide +kernel) ⟨Nat.le_of_ble_eq_true rfl, Nat.le_of_ble_eq_true rfl⟩) hK hw n0 rfl rfl hl.1 rfl (Nat.le_of_ble_eq_true rfl) dDe_length_30 ⟨Nat.le_of_ble_eq_true rfl, Nat.le_of_ble_eq_true rfl⟩ (fun v hq => ?_)
        rw [if_pos hk0] at hq
        subst hq
        refine W.eq (g2 := F0 m 33 ls [.int (nI 1)]) rfl ?_
        refine lv_if_ne (pc := 33) (tgt := 50) hx hb dDe_length_33 (by decide) (fun _ => ?_) (fun hc => absurd hc (show ¬ nI 1 = 0 by decide))
        have htl : x / 10 ^ (9 * t) < 1000000000 := Classical.byContradiction fun h8 => by have h7 := hkz.mp hk0; have h6 := Nat.div_pos (Nat.le_of_not_lt h8) (show 0 < 1000000000 by decide); omega
        refine lv_iconst (pc := 50) (v := (nI 1)) hx hb dDe_length_50 (by decide) ?_
        refine lv_istore (pc := 51) (lv' := [(5, .int (nI 1)), (3, .long (lN (x / 10 ^ (9 * t) % 1000000000))), (2, .int (nI (9 * t))), (0, .ref dp), (1, .ref n)]) hx hb dDe_length_51 hl (by decide) rfl (fun ls hl => ?_)
        refine lv_iconst (pc := 53) (v := (nI 1)) hx hb dDe_length_53 (by decide) ?_
        refine lv_istore (pc := 54) (lv' := [(6, .int (nI 1)), (5, .int (nI 1)), (3, .long (lN (x / 10 ^ (9 * t) % 1000000000))), (2, .int (nI (9 * t))), (0, .ref dp), (1, .ref n)]) hx hb dDe_length_54 hl (by decide) rfl (fun ls hl => ?_)
        exact two w1 H locs hw ⟨_, hV1⟩ ho t (by omega) ht2 htl 8 1 _ (by decide) (by decide) (by rw [Nat.sub_self, Nat.pow_zero, Nat.div_one, Nat.mod_eq_of_lt htl]) (Or.inl rfl) ls (lv_sub hl [0, 1, 2, 3, 4, 5] rfl)
      · refine fw_cVR (pc := 30) (As := []) (rest := []) ⟨hx, hb, hml, hown, hW⟩ (c_Na_isZero (by omega) n0) (cwV 0 hW (kw_V lm_De_28 im_Na_isZero se_Na_isZero ini_Na cd_Na_isZero) rfl rfl rfl (by decide +kernel) ⟨Nat.le_of_ble_eq_true rfl, Nat.le_of_ble_eq_true rfl⟩) hK hw n0 rfl rfl hl.1 rfl (Nat.le_of_ble_eq_true rfl) dDe_length_30 ⟨Nat.le_of_ble_eq_true rfl, Nat.le_of_ble_eq_true rfl⟩ (fun v hq => ?_)
        rw [if_neg hk0] at hq
        subst hq
        refine W.eq (g2 := F0 m 33 ls [.int (nI 0)]) rfl ?_
        refine lv_if_ne (pc := 33) (tgt := 50) hx hb dDe_length_33 (by decide) (fun hc => absurd hc (fun h => h (by decide))) (fun _ => ?_)
        refine lv_iinc (pc := 36) (lv' := [(2, .int (nI (9 * (t + 1)))), (5, .int (nI t)), (3, .long (lN (x / 10 ^ (9 * t) % 1000000000))), (0, .ref dp), (1, .ref n)]) hx hb dDe_length_36 hl (k := 2) rfl ((nI_add (9 * t) 9)) (by decide) rfl (fun ls hl => ?_)
        refine lv_aload_n (pc := 39) hx hb dDe_length_39 rfl (lv_at hl 3 rfl) ?_
        rw [show 1000000000 = 10 ^ 9 from rfl, dg_div, show 9 * t + 9 = 9 * (t + 1) by omega] at hV1 hkz
        refine fw_cV (pc := 40) (As := []) (rest := []) ⟨hx, hb, hml, hown, hW⟩ (c_De_takeGroup h hV1) (cwV 0 hW (kw_V lm_De_22 im_De_takeGroup se_De_takeGroup ini_De cd_De_takeGroup) rfl rfl rfl (by decide +kernel) ⟨Nat.le_of_ble_eq_true rfl, Nat.le_of_ble_eq_true rfl⟩) hK hw h rfl rfl hl.1 rfl (Nat.le_of_ble_eq_true rfl) dDe_length_40 ⟨Nat.le_of_ble_eq_true rfl, Nat.le_of_ble_eq_true rfl⟩ (fun v w3 H locs hq hw => ?_)
        obtain ⟨rfl, hV2, to2⟩ := hq
        refine W.eq (g2 := F0 m 43 ls [.long (lN (x / 10 ^ (9 * (t + 1)) % 1000000000))]) rfl ?_
        refine lv_lstore_n (pc := 43) (lv' := [(3, .long (lN (x / 10 ^ (9 * (t + 1)) % 1000000000))), (2, .int (nI (9 * (t + 1)))), (5, .int (nI t)), (0, .ref dp), (1, .ref n)]) hx hb dDe_length_43 rfl hl (by decide) rfl (fun ls hl => ?_)
        refine lv_iinc (pc := 44) (lv' := [(5, .int (nI (t + 1))), (3, .long (lN (x / 10 ^ (9 * (t + 1)) % 1000000000))), (2, .int (nI (9 * (t + 1)))), (0, .ref dp), (1, .ref n)]) hx hb dDe_length_44 hl (k := 2) rfl ((nI_add t 1)) (by decide) rfl (fun ls hl => ?_)
        refine lv_goto (pc := 47) (tgt := 18) hx hb dDe_length_47 (by decide) ?_
        exact ih (t + 1) (by omega) _ H locs ls hw hV2 (fun q h1 h2 => (to2 q h1 h2).trans (ho q h1 h2)) (Or.inr (dl_pos (fun h8 => hk0 (hkz.mpr h8)))) (lv_sub hl [0, 1, 2, 3, 4] rfl)
  refine lv_aload_n (pc := 0) hx hb dDe_length_0 rfl (lv_at hl 0 rfl) ?_
  refine fw_get (pc := 1) (ci := 2) (v := .ref (dp + 1)) (C := RDe) (T := TDe) (N := 1) hx hb hW in_De hown hK.1 hw h rfl 0 (by decide) (hW _ lf_De_12) (fun _ h => h) rfl dDe_length_1 ?_
  refine lv_aload_n (pc := 4) hx hb dDe_length_4 rfl (lv_at hl 1 rfl) ?_
  refine fw_cV (pc := 5) (As := [.ref n]) (rest := []) ⟨hx, hb, hml, hown, hW⟩ (c_Na_become (by omega) hl0 hv) (cwV 1 hW (kw_V lm_De_18 im_Na_become se_Na_become ini_Na cd_Na_become) rfl rfl rfl (by decide +kernel) ⟨Nat.le_of_ble_eq_true rfl, Nat.le_of_ble_eq_true rfl⟩) hK hw n0 rfl rfl hl.1 rfl (Nat.le_of_ble_eq_true rfl) dDe_length_5 ⟨Nat.le_of_ble_eq_true rfl, Nat.le_of_ble_eq_true rfl⟩ (fun v w30 H locs hq hw => ?_)
  obtain ⟨rfl, hV, co⟩ := hq
  have h_ : w30 (dp) = some (.inr (2, [.ref (dp + 1)])) := (co _ (by omega) (by omega)).trans h
  have h := h_
  refine W.eq (g2 := F0 m 8 ls []) rfl ?_
  refine lv_iconst (pc := 8) (v := (nI 0)) hx hb dDe_length_8 (by decide) ?_
  refine lv_istore_n (pc := 9) (lv' := [(2, .int (nI 0)), (0, .ref dp), (1, .ref n)]) hx hb dDe_length_9 rfl hl (by decide) rfl (fun ls hl => ?_)
  refine lv_aload_n (pc := 10) hx hb dDe_length_10 rfl (lv_at hl 1 rfl) ?_
  refine fw_cV (pc := 11) (As := []) (rest := []) ⟨hx, hb, hml, hown, hW⟩ (c_De_takeGroup h hV) (cwV 0 hW (kw_V lm_De_22 im_De_takeGroup se_De_takeGroup ini_De cd_De_takeGroup) rfl rfl rfl (by decide +kernel) ⟨Nat.le_of_ble_eq_true rfl, Nat.le_of_ble_eq_true rfl⟩) hK hw h rfl rfl hl.1 rfl (Nat.le_of_ble_eq_true rfl) dDe_length_11 ⟨Nat.le_of_ble_eq_true rfl, Nat.le_of_ble_eq_true rfl⟩ (fun v w31 H locs hq hw => ?_)
  obtain ⟨rfl, hV2, to2⟩ := hq
  refine W.eq (g2 := F0 m 14 ls [.long (lN (x % 1000000000))]) rfl ?_
  rw [show (lN (x % 1000000000) : Int64) = lN (x / 10 ^ (9 * 0) % 1000000000) from (by rw [Nat.mul_zero, Nat.pow_zero, Nat.div_one])]
  refine lv_lstore_n (pc := 14) (lv' := [(3, .long (lN (x / 10 ^ (9 * 0) % 1000000000))), (2, .int (nI 0)), (0, .ref dp), (1, .ref n)]) hx hb dDe_length_14 rfl hl (by decide) rfl (fun ls hl => ?_)
  refine lv_iconst (pc := 15) (v := (nI 0)) hx hb dDe_length_15 (by decide) ?_
  refine lv_istore (pc := 16) (lv' := [(5, .int (nI 0)), (3, .long (lN (x / 10 ^ (9 * 0) % 1000000000))), (2, .int (nI 0)), (0, .ref dp), (1, .ref n)]) hx hb dDe_length_16 hl (by decide) rfl (fun ls hl => ?_)
  exact one 232 0 (by decide) _ H locs ls hw (by rw [Nat.mul_zero, Nat.pow_zero, Nat.div_one]; exact hV2) (fun q h1 h2 => (to2 q h1 h2).trans (co q h1 h2)) (Or.inl rfl) (lv_sub hl [0, 1, 2, 3, 4] rfl)
end DE1
