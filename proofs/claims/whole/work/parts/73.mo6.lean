/-- the sign as the reference has it -/
def sg32 (a : Int) : Int32 := if a < 0 then -1 else if a = 0 then nI 0 else nI 1
theorem sg32_n {a : Int} (h : a < 0) : sg32 a = -1 := if_pos h
theorem sg32_z {a : Int} (h : a = 0) : sg32 a = nI 0 := (if_neg (by omega)).trans (if_pos h)
theorem sg32_p {a : Int} (h : 0 < a) : sg32 a = nI 1 := (if_neg (by omega)).trans (if_neg (by omega))
theorem sg_m1 (a : Int) : nI 1 * sg32 a = sg32 a := by
  rcases Int.lt_trichotomy a 0 with h | h | h
  · rw [sg32_n h]; decide
  · rw [sg32_z h]; decide
  · rw [sg32_p h]; decide
theorem sg_m2 (a : Int) : (-1) * sg32 a = sg32 (-a) := by
  rcases Int.lt_trichotomy a 0 with h | h | h
  · rw [sg32_n h, sg32_p (by omega)]; decide
  · rw [sg32_z h, sg32_z (by omega)]; decide
  · rw [sg32_p h, sg32_n (by omega)]; decide
theorem sg_mul (a b : Int) : sg32 a * sg32 b = sg32 (a * b) := by
  rcases Int.lt_trichotomy a 0 with h | h | h <;> rcases Int.lt_trichotomy b 0 with h2 | h2 | h2
  · rw [sg32_n h, sg32_n h2, sg32_p (Int.mul_pos_of_neg_of_neg h h2)]; decide
  · rw [sg32_n h, sg32_z h2, sg32_z (by rw [h2, Int.mul_zero])]; decide
  · rw [sg32_n h, sg32_p h2, sg32_n (Int.mul_neg_of_neg_of_pos h h2)]; decide
  · rw [sg32_z h, sg32_n h2, sg32_z (by rw [h, Int.zero_mul])]; decide
  · rw [sg32_z h, sg32_z h2, sg32_z (by rw [h, Int.zero_mul])]; decide
  · rw [sg32_z h, sg32_p h2, sg32_z (by rw [h, Int.zero_mul])]; decide
  · rw [sg32_p h, sg32_n h2, sg32_n (Int.mul_neg_of_pos_of_neg h h2)]; decide
  · rw [sg32_p h, sg32_z h2, sg32_z (by rw [h2, Int.mul_zero])]; decide
  · rw [sg32_p h, sg32_p h2, sg32_p (Int.mul_pos h h2)]; decide
/-! The reference's methods, sixth part. Written by wip/gen/model6.py. -/
section MO6
variable {l : Launch} {D : va_G} {cI cL cQ : ClassId} {z : kZ_T} {sz : Nat} {w : fw_W}
set_option maxHeartbeats 4000000 in
set_option maxRecDepth 100000 in
theorem c_Mo_sumP {b : Nat} {I : Nat → Nat} {K : Nat → Nat → Nat} {S : Nat → Int32} {X : Nat → Nat} (hS : moS cI cL w b I K S (mC X)) (hX : ∀ p, X p < nM ^ 64) {x9 : Nat} {a9 b9 : Int} (hx9 : x9 + 2 ≤ 10) (h1x : X 23 = 1) (h1s : S 23 = nI 1) (rx : X (x9) = Int.natAbs a9 ∧ S (x9) = sg32 a9) (a97 : Int.natAbs a9 < 2 ^ 768) (ry : X (x9 + 1) = Int.natAbs b9 ∧ S (x9 + 1) = sg32 b9) (b97 : Int.natAbs b9 < 2 ^ 768) : fw_C l yMo_sum (Cond.code yMo_sum cMo_sum 5 (some FieldType.int) :: kWs) ({ frames := 2, cells := 0, slots := 0, locals := 43 } : Room) D kCl (kty cI cL cQ) z [.ref b, .int (nI x9), .int (nI (x9 + 1)), .int (nI 1)] (sz) w 0 0 (fun v w' => v = some (.int (nI (sFit (a9 + b9) a9).1)) ∧ (∃ S2 X2, moS cI cL w' b I K S2 (mC X2) ∧ (∀ p, X2 p < nM ^ 64) ∧ ((sFit (a9 + b9) a9).1 = 0 → X2 x9 = Int.natAbs (sFit (a9 + b9) a9).2 ∧ S2 x9 = sg32 (sFit (a9 + b9) a9).2) ∧ ∀ p, p ≠ x9 → p < 18 ∨ 22 < p → X2 p = X p ∧ S2 p = S p) ∧ ∀ q, q < b ∨ b + 9 ≤ q → w' q = w q) := by
  refine fw_ofW (cc := cMo_sum) (maxL := 5) (ret := (some FieldType.int)) (by decide) rfl (Nat.le_of_ble_eq_true rfl) ?_
  intro p e s m args below meth c hx hb hr hts hown hlocks hname hml hK H ls hw hl
  have hW : ∀ w ∈ kWs, w.before args s = true := fun w h => hts w (List.mem_cons_of_mem _ h)
  have hown : s.vm.findClass RMo = some m.cls := hown
  have hl : lv_has ls 5 [(0, .ref b), (1, .int (nI x9)), (2, .int (nI (x9 + 1))), (3, .int (nI 1))] := hl
  have b0 : w b = some (.inr (10, [.int (nI (I 0)), .ref (b + 1), .ref (b + 2), .int (nI (I 3)), .ref (b + 3), .ref (b + 4), .int (nI (I 6)), .int (nI (I 7)), .ref (b + 5), .ref (b + 6), .int (nI (I 10)), .int (nI (I 11)), .int (nI (I 12)), .int (nI (I 13)), .ref (b + 7), .ref (b + 8), .int (nI (I 16)), .int (nI (I 17)), .int (nI (I 18)), .int (nI (I 19))])) := hS.1
  have b1 : w (b + 1) = some (.inl (cL, 1536, .inr (.inl (fun i => lN (mC X i))))) := hS.2.1
  have b2 : w (b + 2) = some (.inl (cI, 24, .inl (S))) := hS.2.2.1
  have b09 := b0
  have b29 := b2
  obtain ⟨hxx, hsx⟩ := rx
  obtain ⟨hxy, hsy⟩ := ry
  have hxO := h1x
  have hsO := h1s
  have hXb := hX
  have hfr : ∀ p, p ≠ x9 → p < 18 ∨ 22 < p → X p = X p ∧ S p = S p := fun p _ _ => ⟨rfl, rfl⟩
  have hoF : ∀ q, q < b ∨ b + 9 ≤ q → w q = w q := fun q _ => rfl
  have p64 : 2 ^ 768 < nM ^ 64 := by decide +kernel
  obtain ⟨c9, hc9⟩ : ∃ c9, c9 = b9 := ⟨_, rfl⟩
  have hcn : Int.natAbs b9 = Int.natAbs c9 := by omega
  have c97 : Int.natAbs c9 < 2 ^ 768 := by rw [← hcn]; exact b97
  rw [hcn] at hxy
  rw [← hc9]
  refine lv_aload_n (pc := 0) hx hb dMo_sum_0 rfl (lv_at hl 0 rfl) ?_
  refine lv_iload_n (pc := 1) hx hb dMo_sum_1 rfl (lv_at hl 2 rfl) ?_
  refine lv_bipush (pc := 2) (v := (nI 18)) hx hb dMo_sum_2 (by decide) ?_
  refine fw_cV (pc := 4) (As := [.int (nI (x9 + 1)), .int (nI 18)]) (rest := []) ⟨hx, hb, hml, hown, hW⟩ (c_Mo_copy (pa := x9 + 1) (pc9 := 18) hS hXb (by omega) (by omega) (by omega)) (cwV 2 hW (kw_V lm_Mo_143 im_Mo_copy se_Mo_copy ini_Mo cd_Mo_copy) rfl rfl rfl (by decide +kernel) ⟨Nat.le_of_ble_eq_true rfl, Nat.le_of_ble_eq_true rfl⟩) hK hw b0 rfl rfl hl.1 rfl (Nat.le_of_ble_eq_true rfl) dMo_sum_4 ⟨Nat.le_of_ble_eq_true rfl, Nat.le_of_ble_eq_true rfl⟩ (fun v w201 H locs hq hw => ?_)
  obtain ⟨rfl, hS, hn9⟩ := hq
  have hoF : ∀ q, q < b ∨ b + 9 ≤ q → w201 q = w q := fun q h9 => (hn9 q h9).trans (hoF q h9)
  have hB9 : Int.natAbs c9 < nM ^ 64 := by rw [← hxy]; exact hXb _
  obtain ⟨X1, eX1⟩ : ∃ X_, X_ = va_up X (18) (X (x9 + 1)) := ⟨_, rfl⟩
  rw [← eX1] at hS
  have hv9 : X (x9 + 1) = Int.natAbs c9 := hxy
  have hxx : X1 (x9) = Int.natAbs a9 := by rw [eX1, up_o (by omega)]; exact hxx
  have hxy : X1 (x9 + 1) = Int.natAbs c9 := by rw [eX1, up_o (by omega)]; exact hxy
  have hxO : X1 (23) = 1 := by rw [eX1, up_o (by omega)]; exact hxO
  have hxA : X1 (18) = Int.natAbs c9 := by rw [eX1]; exact up_s.trans hv9
  have hXb : ∀ p, X1 p < nM ^ 64 := fun p => by (rw [eX1]; unfold va_up; split; (rw [hv9]; exact hB9); exact hXb p)
  have hfr : ∀ p, p ≠ x9 → p < 18 ∨ 22 < p → X1 p = X p ∧ S p = S p := fun p h1 h2 => by rw [eX1, up_o (by omega)]; exact hfr p h1 h2
  obtain ⟨S2, eS2⟩ : ∃ S_, S_ = va_up S (18) (S (x9 + 1)) := ⟨_, rfl⟩
  rw [← eS2] at hS
  have hv9 : (S (x9 + 1) : Int32) = sg32 b9 := hsy
  have hsx : S2 (x9) = sg32 a9 := by rw [eS2, up_o (by omega)]; exact hsx
  have hsy : S2 (x9 + 1) = sg32 b9 := by rw [eS2, up_o (by omega)]; exact hsy
  have hsO : S2 (23) = nI 1 := by rw [eS2, up_o (by omega)]; exact hsO
  have hsA : S2 (18) = sg32 b9 := by rw [eS2]; exact up_s.trans hv9
  have hfr : ∀ p, p ≠ x9 → p < 18 ∨ 22 < p → X1 p = X p ∧ S2 p = S p := fun p h1 h2 => by rw [eS2, up_o (by omega)]; exact hfr p h1 h2
  have b0 : w201 b = some (.inr (10, [.int (nI (I 0)), .ref (b + 1), .ref (b + 2), .int (nI (I 3)), .ref (b + 3), .ref (b + 4), .int (nI (I 6)), .int (nI (I 7)), .ref (b + 5), .ref (b + 6), .int (nI (I 10)), .int (nI (I 11)), .int (nI (I 12)), .int (nI (I 13)), .ref (b + 7), .ref (b + 8), .int (nI (I 16)), .int (nI (I 17)), .int (nI (I 18)), .int (nI (I 19))])) := hS.1
  have b1 : w201 (b + 1) = some (.inl (cL, 1536, .inr (.inl (fun i => lN (mC X1 i))))) := hS.2.1
  have b2 : w201 (b + 2) = some (.inl (cI, 24, .inl (S2))) := hS.2.2.1
  refine W.eq (g2 := F0 m 7 ls []) rfl ?_
  refine lv_aload_n (pc := 7) hx hb dMo_sum_7 rfl (lv_at hl 0 rfl) ?_
  refine fw_get (pc := 8) (ci := 10) (v := .ref (b + 2)) (C := RMo) (T := TMo) (N := 20) hx hb hW in_Mo hown hK.1 hw b0 rfl 2 (by decide) (hW _ lf_Mo_13) (fun _ h => h) rfl dMo_sum_8 ?_
  refine lv_bipush (pc := 11) (v := (nI 18)) hx hb dMo_sum_11 (by decide) ?_
  refine lv_iload_n (pc := 13) hx hb dMo_sum_13 rfl (lv_at hl 3 rfl) ?_
  refine lv_aload_n (pc := 14) hx hb dMo_sum_14 rfl (lv_at hl 0 rfl) ?_
  refine fw_get (pc := 15) (ci := 10) (v := .ref (b + 2)) (C := RMo) (T := TMo) (N := 20) hx hb hW in_Mo hown hK.1 hw b0 rfl 2 (by decide) (hW _ lf_Mo_13) (fun _ h => h) rfl dMo_sum_15 ?_
  refine lv_iload_n (pc := 18) hx hb dMo_sum_18 rfl (lv_at hl 2 rfl) ?_
  refine fw_ialdN (pc := 19) (x := S2 (x9 + 1)) hx hb hK.1 hw 0 b2 rfl (x9 + 1) (by omega) (by decide) rfl dMo_sum_19 ?_
  rw [show (S2 (x9 + 1) : Int32) = sg32 b9 from hsy]
  refine lv_imul (pc := 20) hx hb dMo_sum_20 ?_
  rw [show ((nI 1 * sg32 b9) : Int32) = sg32 c9 from (by rw [hc9]; exact sg_m1 b9)]
  refine fw_iastN (pc := 21) (f2 := va_up S2 (18) (sg32 c9)) hx hb hK.1 hw 0 b2 rfl (18) (by omega) (by decide) (rfl) dMo_sum_21 (fun H locs hw => ?_)
  obtain ⟨w202, e202⟩ : ∃ w_, w_ = fw_up w201 (b + 2) (.inl (cI, 24, .inl (va_up S2 (18) (sg32 c9)))) := ⟨_, rfl⟩
  have hw : fw_H D kCl (fw_A w (sz)) s.heap w202 (sz) H locs := by rw [e202]; exact hw
  have b0_ : w202 (b) = some (.inr (10, [.int (nI (I 0)), .ref (b + 1), .ref (b + 2), .int (nI (I 3)), .ref (b + 3), .ref (b + 4), .int (nI (I 6)), .int (nI (I 7)), .ref (b + 5), .ref (b + 6), .int (nI (I 10)), .int (nI (I 11)), .int (nI (I 12)), .int (nI (I 13)), .ref (b + 7), .ref (b + 8), .int (nI (I 16)), .int (nI (I 17)), .int (nI (I 18)), .int (nI (I 19))])) := by rw [e202, fw_un (by omega)]; exact b0
  have b1_ : w202 (b + 1) = some (.inl (cL, 1536, .inr (.inl (fun i => lN (mC X1 i))))) := by rw [e202, fw_un (by omega)]; exact b1
  have b2_ : w202 (b + 2) = some (.inl (cI, 24, .inl (va_up S2 (18) (sg32 c9)))) := by rw [e202]; exact fw_us _ _ _
  have b0 := b0_
  have b1 := b1_
  have b2 := b2_
  have hS : moS cI cL w202 b I K (va_up S2 (18) (sg32 c9)) (mC X1) := moS.cs hS b1 b2 (fun q h1 h2 => by rw [e202, fw_un h2])
  have hoF : ∀ q, q < b ∨ b + 9 ≤ q → w202 q = w q := fun q h9 => by rw [e202, fw_un (by omega)]; exact hoF q h9
  obtain ⟨S3, eS3⟩ : ∃ S_, S_ = va_up S2 (18) (sg32 c9) := ⟨_, rfl⟩
  rw [← eS3] at hS
  have hv9 : (sg32 c9 : Int32) = sg32 c9 := rfl
  have hsx : S3 (x9) = sg32 a9 := by rw [eS3, up_o (by omega)]; exact hsx
  have hsy : S3 (x9 + 1) = sg32 b9 := by rw [eS3, up_o (by omega)]; exact hsy
  have hsO : S3 (23) = nI 1 := by rw [eS3, up_o (by omega)]; exact hsO
  have hsA : S3 (18) = sg32 c9 := by rw [eS3]; exact up_s.trans hv9
  have hfr : ∀ p, p ≠ x9 → p < 18 ∨ 22 < p → X1 p = X p ∧ S3 p = S p := fun p h1 h2 => by rw [eS3, up_o (by omega)]; exact hfr p h1 h2
  have b0 : w202 b = some (.inr (10, [.int (nI (I 0)), .ref (b + 1), .ref (b + 2), .int (nI (I 3)), .ref (b + 3), .ref (b + 4), .int (nI (I 6)), .int (nI (I 7)), .ref (b + 5), .ref (b + 6), .int (nI (I 10)), .int (nI (I 11)), .int (nI (I 12)), .int (nI (I 13)), .ref (b + 7), .ref (b + 8), .int (nI (I 16)), .int (nI (I 17)), .int (nI (I 18)), .int (nI (I 19))])) := hS.1
  have b1 : w202 (b + 1) = some (.inl (cL, 1536, .inr (.inl (fun i => lN (mC X1 i))))) := hS.2.1
  have b2 : w202 (b + 2) = some (.inl (cI, 24, .inl (S3))) := hS.2.2.1
  refine lv_aload_n (pc := 22) hx hb dMo_sum_22 rfl (lv_at hl 0 rfl) ?_
  refine fw_get (pc := 23) (ci := 10) (v := .ref (b + 2)) (C := RMo) (T := TMo) (N := 20) hx hb hW in_Mo hown hK.1 hw b0 rfl 2 (by decide) (hW _ lf_Mo_13) (fun _ h => h) rfl dMo_sum_23 ?_
  refine lv_iload_n (pc := 26) hx hb dMo_sum_26 rfl (lv_at hl 1 rfl) ?_
  refine fw_ialdN (pc := 27) (x := S3 (x9)) hx hb hK.1 hw 0 b2 rfl (x9) (by omega) (by decide) rfl dMo_sum_27 ?_
  rw [show (S3 (x9) : Int32) = sg32 a9 from hsx]
  rcases Int.lt_trichotomy a9 0 with ha90 | ha90 | ha90
  · rw [sg32_n ha90] at hsx
    rw [show (sg32 a9 : Int32) = (-1) from (sg32_n ha90)]
    refine lv_if_ne (pc := 28) (tgt := 41) hx hb dMo_sum_28 (by decide) (fun _ => ?_) (fun hc => absurd hc (by decide))
    refine lv_aload_n (pc := 41) hx hb dMo_sum_41 rfl (lv_at hl 0 rfl) ?_
    refine fw_get (pc := 42) (ci := 10) (v := .ref (b + 2)) (C := RMo) (T := TMo) (N := 20) hx hb hW in_Mo hown hK.1 hw b0 rfl 2 (by decide) (hW _ lf_Mo_13) (fun _ h => h) rfl dMo_sum_42 ?_
    refine lv_bipush (pc := 45) (v := (nI 18)) hx hb dMo_sum_45 (by decide) ?_
    refine fw_ialdN (pc := 47) (x := S3 (18)) hx hb hK.1 hw 0 b2 rfl (18) (by omega) (by decide) rfl dMo_sum_47 ?_
    rw [show (S3 (18) : Int32) = sg32 c9 from hsA]
    refine lv_aload_n (pc := 48) hx hb dMo_sum_48 rfl (lv_at hl 0 rfl) ?_
    refine fw_get (pc := 49) (ci := 10) (v := .ref (b + 2)) (C := RMo) (T := TMo) (N := 20) hx hb hW in_Mo hown hK.1 hw b0 rfl 2 (by decide) (hW _ lf_Mo_13) (fun _ h => h) rfl dMo_sum_49 ?_
    refine lv_iload_n (pc := 52) hx hb dMo_sum_52 rfl (lv_at hl 1 rfl) ?_
    refine fw_ialdN (pc := 53) (x := S3 (x9)) hx hb hK.1 hw 0 b2 rfl (x9) (by omega) (by decide) rfl dMo_sum_53 ?_
    rw [show (S3 (x9) : Int32) = (-1) from hsx]
    rcases Int.lt_trichotomy c9 0 with hc90 | hc90 | hc90
    · rw [sg32_n hc90]
      rw [sg32_n hc90] at hsA
      refine lv_icmp_ne (pc := 54) (tgt := 67) hx hb dMo_sum_54 (by decide) (fun hc => absurd hc (fun h => h rfl)) (fun _ => ?_)
      refine lv_aload_n (pc := 57) hx hb dMo_sum_57 rfl (lv_at hl 0 rfl) ?_
      refine lv_iload_n (pc := 58) hx hb dMo_sum_58 rfl (lv_at hl 1 rfl) ?_
      refine lv_bipush (pc := 59) (v := (nI 18)) hx hb dMo_sum_59 (by decide) ?_
      refine fw_cV (pc := 61) (As := [.int (nI x9), .int (nI 18)]) (rest := []) ⟨hx, hb, hml, hown, hW⟩ (c_Mo_addTo (pa := x9) (pb := 18) hS hXb (by omega) (by omega) (by omega)) (cwV 2 hW (kw_V lm_Mo_146 im_Mo_addTo se_Mo_addTo ini_Mo cd_Mo_addTo) rfl rfl rfl (by decide +kernel) ⟨Nat.le_of_ble_eq_true rfl, Nat.le_of_ble_eq_true rfl⟩) hK hw b0 rfl rfl hl.1 rfl (Nat.le_of_ble_eq_true rfl) dMo_sum_61 ⟨Nat.le_of_ble_eq_true rfl, Nat.le_of_ble_eq_true rfl⟩ (fun v w203 H locs hq hw => ?_)
      obtain ⟨rfl, hS, hn9⟩ := hq
      have hoF : ∀ q, q < b ∨ b + 9 ≤ q → w203 q = w q := fun q h9 => (hn9 q h9).trans (hoF q h9)
      have hB9 : Int.natAbs (a9 + c9) < nM ^ 64 := Nat.lt_trans (show Int.natAbs (a9 + c9) < 2 ^ 769 by omega) (by decide +kernel)
      obtain ⟨X4, eX4⟩ : ∃ X_, X_ = va_up X1 (x9) ((X1 (x9) + X1 (18)) % nM ^ 64) := ⟨_, rfl⟩
      rw [← eX4] at hS
      have hv9 : (X1 (x9) + X1 (18)) % nM ^ 64 = Int.natAbs (a9 + c9) := (by rw [hxx, hxA, show Int.natAbs a9 + Int.natAbs c9 = Int.natAbs (a9 + c9) by omega, Nat.mod_eq_of_lt hB9])
      have hxy : X4 (x9 + 1) = Int.natAbs c9 := by rw [eX4, up_o (by omega)]; exact hxy
      have hxO : X4 (23) = 1 := by rw [eX4, up_o (by omega)]; exact hxO
      have hxA : X4 (18) = Int.natAbs c9 := by rw [eX4, up_o (by omega)]; exact hxA
      have hxx : X4 (x9) = Int.natAbs (a9 + c9) := by rw [eX4]; exact up_s.trans hv9
      have hXb : ∀ p, X4 p < nM ^ 64 := fun p => by (rw [eX4]; unfold va_up; split; (rw [hv9]; exact hB9); exact hXb p)
      have hfr : ∀ p, p ≠ x9 → p < 18 ∨ 22 < p → X4 p = X p ∧ S3 p = S p := fun p h1 h2 => by rw [eX4, up_o (by omega)]; exact hfr p h1 h2
      have b0 : w203 b = some (.inr (10, [.int (nI (I 0)), .ref (b + 1), .ref (b + 2), .int (nI (I 3)), .ref (b + 3), .ref (b + 4), .int (nI (I 6)), .int (nI (I 7)), .ref (b + 5), .ref (b + 6), .int (nI (I 10)), .int (nI (I 11)), .int (nI (I 12)), .int (nI (I 13)), .ref (b + 7), .ref (b + 8), .int (nI (I 16)), .int (nI (I 17)), .int (nI (I 18)), .int (nI (I 19))])) := hS.1
      have b1 : w203 (b + 1) = some (.inl (cL, 1536, .inr (.inl (fun i => lN (mC X4 i))))) := hS.2.1
      have b2 : w203 (b + 2) = some (.inl (cI, 24, .inl (S3))) := hS.2.2.1
      refine W.eq (g2 := F0 m 64 ls []) rfl ?_
      refine lv_goto (pc := 64) (tgt := 140) hx hb dMo_sum_64 (by decide) ?_
      rw [show (-1) = sg32 (a9 + c9) from (sg32_n (by omega)).symm] at hsx
      refine lv_aload_n (pc := 140) hx hb dMo_sum_140 rfl (lv_at hl 0 rfl) ?_
      refine lv_iload_n (pc := 141) hx hb dMo_sum_141 rfl (lv_at hl 1 rfl) ?_
      refine fw_cVR (pc := 142) (As := [.int (nI x9)]) (rest := []) ⟨hx, hb, hml, hown, hW⟩ (c_Mo_isGreat hS hXb (by omega)) (cwV 1 hW (kw_V lm_Mo_152 im_Mo_isGreat se_Mo_isGreat ini_Mo cd_Mo_isGreat) rfl rfl rfl (by decide +kernel) ⟨Nat.le_of_ble_eq_true rfl, Nat.le_of_ble_eq_true rfl⟩) hK hw b0 rfl rfl hl.1 rfl (Nat.le_of_ble_eq_true rfl) dMo_sum_142 ⟨Nat.le_of_ble_eq_true rfl, Nat.le_of_ble_eq_true rfl⟩ (fun v hq => ?_)
      have hxr : X4 x9 = Int.natAbs (a9 + c9) := hxx
      rw [hxr] at hq
      by_cases hg9 : Int.natAbs (a9 + c9) < 2 ^ 768
      · subst hq
        rw [if_pos hg9]
        refine W.eq (g2 := F0 m 145 ls [.int (nI 0)]) rfl ?_
        refine lv_if_eq (pc := 145) (tgt := 153) hx hb dMo_sum_145 (by decide) (fun _ => ?_) (fun hc => absurd (show nI 0 = 0 by decide) hc)
        refine lv_iconst (pc := 153) (v := (nI 0)) hx hb dMo_sum_153 (by decide) ?_
        have hsp : sFit (a9 + c9) a9 = (0, (a9 + c9)) := (rfl : sFit (a9 + c9) a9 = sFit (a9 + c9) a9).trans (if_pos hg9)
        exact fw_iret (pc := 154) hx hb hr hlocks hw dMo_sum_154 ⟨by rw [hsp], ⟨_, _, hS, hXb, fun _ => by rw [hsp]; exact ⟨hxr, hsx⟩, hfr⟩, hoF⟩
      · subst hq
        rw [if_neg hg9]
        refine W.eq (g2 := F0 m 145 ls [.int (nI 1)]) rfl ?_
        refine lv_if_eq (pc := 145) (tgt := 153) hx hb dMo_sum_145 (by decide) (fun hc => absurd hc (show ¬ nI 1 = 0 by decide)) (fun _ => ?_)
        refine lv_bipush (pc := 148) (v := (nI 6)) hx hb dMo_sum_148 (by decide) ?_
        refine lv_goto (pc := 150) (tgt := 154) hx hb dMo_sum_150 (by decide) ?_
        have hsp : (sFit (a9 + c9) a9).1 = 6 := by rw [(rfl : sFit (a9 + c9) a9 = sFit (a9 + c9) a9), sFit_1, if_neg hg9]
        exact fw_iret (pc := 154) hx hb hr hlocks hw dMo_sum_154 ⟨by rw [hsp], ⟨_, _, hS, hXb, fun h9 => absurd h9 (by rw [hsp]; decide), hfr⟩, hoF⟩
    · rw [sg32_z hc90]
      rw [sg32_z hc90] at hsA
      refine lv_icmp_ne (pc := 54) (tgt := 67) hx hb dMo_sum_54 (by decide) (fun _ => ?_) (fun hc => absurd hc (by decide))
      refine lv_aload_n (pc := 67) hx hb dMo_sum_67 rfl (lv_at hl 0 rfl) ?_
      refine fw_get (pc := 68) (ci := 10) (v := .ref (b + 2)) (C := RMo) (T := TMo) (N := 20) hx hb hW in_Mo hown hK.1 hw b0 rfl 2 (by decide) (hW _ lf_Mo_13) (fun _ h => h) rfl dMo_sum_68 ?_
      refine lv_bipush (pc := 71) (v := (nI 18)) hx hb dMo_sum_71 (by decide) ?_
      refine fw_ialdN (pc := 73) (x := S3 (18)) hx hb hK.1 hw 0 b2 rfl (18) (by omega) (by decide) rfl dMo_sum_73 ?_
      rw [show (S3 (18) : Int32) = nI 0 from hsA]
      refine lv_if_eq (pc := 74) (tgt := 140) hx hb dMo_sum_74 (by decide) (fun _ => ?_) (fun hc => absurd (show nI 0 = 0 by decide) hc)
      have hr9 : a9 + c9 = a9 := by omega
      rw [show (-1) = sg32 (a9 + c9) from (sg32_n (by omega)).symm] at hsx
      refine lv_aload_n (pc := 140) hx hb dMo_sum_140 rfl (lv_at hl 0 rfl) ?_
      refine lv_iload_n (pc := 141) hx hb dMo_sum_141 rfl (lv_at hl 1 rfl) ?_
      refine fw_cVR (pc := 142) (As := [.int (nI x9)]) (rest := []) ⟨hx, hb, hml, hown, hW⟩ (c_Mo_isGreat hS hXb (by omega)) (cwV 1 hW (kw_V lm_Mo_152 im_Mo_isGreat se_Mo_isGreat ini_Mo cd_Mo_isGreat) rfl rfl rfl (by decide +kernel) ⟨Nat.le_of_ble_eq_true rfl, Nat.le_of_ble_eq_true rfl⟩) hK hw b0 rfl rfl hl.1 rfl (Nat.le_of_ble_eq_true rfl) dMo_sum_142 ⟨Nat.le_of_ble_eq_true rfl, Nat.le_of_ble_eq_true rfl⟩ (fun v hq => ?_)
      have hxr : X1 x9 = Int.natAbs (a9 + c9) := (by rw [hr9]; exact hxx)
      rw [hxr] at hq
      by_cases hg9 : Int.natAbs (a9 + c9) < 2 ^ 768
      · subst hq
        rw [if_pos hg9]
        refine W.eq (g2 := F0 m 145 ls [.int (nI 0)]) rfl ?_
        refine lv_if_eq (pc := 145) (tgt := 153) hx hb dMo_sum_145 (by decide) (fun _ => ?_) (fun hc => absurd (show nI 0 = 0 by decide) hc)
        refine lv_iconst (pc := 153) (v := (nI 0)) hx hb dMo_sum_153 (by decide) ?_
        have hsp : sFit (a9 + c9) a9 = (0, (a9 + c9)) := (rfl : sFit (a9 + c9) a9 = sFit (a9 + c9) a9).trans (if_pos hg9)
        exact fw_iret (pc := 154) hx hb hr hlocks hw dMo_sum_154 ⟨by rw [hsp], ⟨_, _, hS, hXb, fun _ => by rw [hsp]; exact ⟨hxr, hsx⟩, hfr⟩, hoF⟩
      · subst hq
        rw [if_neg hg9]
        refine W.eq (g2 := F0 m 145 ls [.int (nI 1)]) rfl ?_
        refine lv_if_eq (pc := 145) (tgt := 153) hx hb dMo_sum_145 (by decide) (fun hc => absurd hc (show ¬ nI 1 = 0 by decide)) (fun _ => ?_)
        refine lv_bipush (pc := 148) (v := (nI 6)) hx hb dMo_sum_148 (by decide) ?_
        refine lv_goto (pc := 150) (tgt := 154) hx hb dMo_sum_150 (by decide) ?_
        have hsp : (sFit (a9 + c9) a9).1 = 6 := by rw [(rfl : sFit (a9 + c9) a9 = sFit (a9 + c9) a9), sFit_1, if_neg hg9]
        exact fw_iret (pc := 154) hx hb hr hlocks hw dMo_sum_154 ⟨by rw [hsp], ⟨_, _, hS, hXb, fun h9 => absurd h9 (by rw [hsp]; decide), hfr⟩, hoF⟩
    · rw [sg32_p hc90]
      rw [sg32_p hc90] at hsA
      refine lv_icmp_ne (pc := 54) (tgt := 67) hx hb dMo_sum_54 (by decide) (fun _ => ?_) (fun hc => absurd hc (by decide))
      refine lv_aload_n (pc := 67) hx hb dMo_sum_67 rfl (lv_at hl 0 rfl) ?_
      refine fw_get (pc := 68) (ci := 10) (v := .ref (b + 2)) (C := RMo) (T := TMo) (N := 20) hx hb hW in_Mo hown hK.1 hw b0 rfl 2 (by decide) (hW _ lf_Mo_13) (fun _ h => h) rfl dMo_sum_68 ?_
      refine lv_bipush (pc := 71) (v := (nI 18)) hx hb dMo_sum_71 (by decide) ?_
      refine fw_ialdN (pc := 73) (x := S3 (18)) hx hb hK.1 hw 0 b2 rfl (18) (by omega) (by decide) rfl dMo_sum_73 ?_
      rw [show (S3 (18) : Int32) = nI 1 from hsA]
      refine lv_if_eq (pc := 74) (tgt := 140) hx hb dMo_sum_74 (by decide) (fun hc => absurd hc (by decide)) (fun _ => ?_)
      refine lv_aload_n (pc := 77) hx hb dMo_sum_77 rfl (lv_at hl 0 rfl) ?_
      refine lv_iload_n (pc := 78) hx hb dMo_sum_78 rfl (lv_at hl 1 rfl) ?_
      refine lv_bipush (pc := 79) (v := (nI 18)) hx hb dMo_sum_79 (by decide) ?_
      refine fw_cVR (pc := 81) (As := [.int (nI x9), .int (nI 18)]) (rest := []) ⟨hx, hb, hml, hown, hW⟩ (c_Mo_order (pa := x9) (pb := 18) hS hXb (by omega) (by omega)) (cwV 2 hW (kw_V lm_Mo_149 im_Mo_order se_Mo_order ini_Mo cd_Mo_order) rfl rfl rfl (by decide +kernel) ⟨Nat.le_of_ble_eq_true rfl, Nat.le_of_ble_eq_true rfl⟩) hK hw b0 rfl rfl hl.1 rfl (Nat.le_of_ble_eq_true rfl) dMo_sum_81 ⟨Nat.le_of_ble_eq_true rfl, Nat.le_of_ble_eq_true rfl⟩ (fun v hq => ?_)
      rw [hxx, hxA] at hq
      subst hq
      refine W.eq (g2 := F0 m 84 ls [.int (ordI (Int.natAbs a9) (Int.natAbs c9))]) rfl ?_
      refine lv_istore (pc := 84) (lv' := [(4, .int (ordI (Int.natAbs a9) (Int.natAbs c9))), (0, .ref b), (1, .int (nI x9)), (2, .int (nI (x9 + 1))), (3, .int (nI 1))]) hx hb dMo_sum_84 hl (by decide) rfl (fun ls hl => ?_)
      refine lv_iload (pc := 86) hx hb dMo_sum_86 (lv_at hl 0 rfl) ?_
      refine lv_if_lt (pc := 88) (tgt := 124) hx hb dMo_sum_88 (by decide) (fun hlt => ?_) (fun hlt => ?_)
      · have hl9 : Int.natAbs a9 < Int.natAbs c9 := Nat.lt_of_not_le (fun h9 => absurd ((ordI_ge0 _ _).mpr h9) (Int32.not_le.mpr hlt))
        refine lv_aload_n (pc := 124) hx hb dMo_sum_124 rfl (lv_at hl 1 rfl) ?_
        refine lv_bipush (pc := 125) (v := (nI 18)) hx hb dMo_sum_125 (by decide) ?_
        refine lv_iload_n (pc := 127) hx hb dMo_sum_127 rfl (lv_at hl 2 rfl) ?_
        refine lv_lconst (pc := 128) (v := lN 1) hx hb dMo_sum_128 (by decide) ?_
        refine lv_iconst (pc := 129) (v := (nI 0)) hx hb dMo_sum_129 (by decide) ?_
        refine fw_cV (pc := 130) (As := [.int (nI 18), .int (nI x9), .long (lN 1), .int (nI 0)]) (rest := []) ⟨hx, hb, hml, hown, hW⟩ (c_Mo_takeFrom (pa := 18) (pb := x9) (t9 := 1) (h9 := 0) hS hXb (by omega) (by omega) (by omega) (by decide) (by decide) (by rw [hxx, hxA, Nat.pow_zero]; omega)) (cwV 4 hW (kw_V lm_Mo_135 im_Mo_takeFrom se_Mo_takeFrom ini_Mo cd_Mo_takeFrom) rfl rfl rfl (by decide +kernel) ⟨Nat.le_of_ble_eq_true rfl, Nat.le_of_ble_eq_true rfl⟩) hK hw b0 rfl rfl hl.1 rfl (Nat.le_of_ble_eq_true rfl) dMo_sum_130 ⟨Nat.le_of_ble_eq_true rfl, Nat.le_of_ble_eq_true rfl⟩ (fun v w204 H locs hq hw => ?_)
        obtain ⟨rfl, hS, hn9⟩ := hq
        have hoF : ∀ q, q < b ∨ b + 9 ≤ q → w204 q = w q := fun q h9 => (hn9 q h9).trans (hoF q h9)
        have hB9 : Int.natAbs (a9 + c9) < nM ^ 64 := Nat.lt_trans (show Int.natAbs (a9 + c9) < 2 ^ 768 by omega) p64
        obtain ⟨X5, eX5⟩ : ∃ X_, X_ = va_up X1 (18) (X1 18 - 1 * X1 (x9) * nM ^ 0) := ⟨_, rfl⟩
        rw [← eX5] at hS
        have hv9 : X1 18 - 1 * X1 (x9) * nM ^ 0 = Int.natAbs (a9 + c9) := (by rw [hxx, hxA, Nat.pow_zero]; omega)
        have hxx : X5 (x9) = Int.natAbs a9 := by rw [eX5, up_o (by omega)]; exact hxx
        have hxy : X5 (x9 + 1) = Int.natAbs c9 := by rw [eX5, up_o (by omega)]; exact hxy
        have hxO : X5 (23) = 1 := by rw [eX5, up_o (by omega)]; exact hxO
        have hxA : X5 (18) = Int.natAbs (a9 + c9) := by rw [eX5]; exact up_s.trans hv9
        have hXb : ∀ p, X5 p < nM ^ 64 := fun p => by (rw [eX5]; unfold va_up; split; (rw [hv9]; exact hB9); exact hXb p)
        have hfr : ∀ p, p ≠ x9 → p < 18 ∨ 22 < p → X5 p = X p ∧ S3 p = S p := fun p h1 h2 => by rw [eX5, up_o (by omega)]; exact hfr p h1 h2
        have b0 : w204 b = some (.inr (10, [.int (nI (I 0)), .ref (b + 1), .ref (b + 2), .int (nI (I 3)), .ref (b + 3), .ref (b + 4), .int (nI (I 6)), .int (nI (I 7)), .ref (b + 5), .ref (b + 6), .int (nI (I 10)), .int (nI (I 11)), .int (nI (I 12)), .int (nI (I 13)), .ref (b + 7), .ref (b + 8), .int (nI (I 16)), .int (nI (I 17)), .int (nI (I 18)), .int (nI (I 19))])) := hS.1
        have b1 : w204 (b + 1) = some (.inl (cL, 1536, .inr (.inl (fun i => lN (mC X5 i))))) := hS.2.1
        have b2 : w204 (b + 2) = some (.inl (cI, 24, .inl (S3))) := hS.2.2.1
        refine W.eq (g2 := F0 m 133 ls []) rfl ?_
        refine lv_aload_n (pc := 133) hx hb dMo_sum_133 rfl (lv_at hl 1 rfl) ?_
        refine lv_bipush (pc := 134) (v := (nI 18)) hx hb dMo_sum_134 (by decide) ?_
        refine lv_iload_n (pc := 136) hx hb dMo_sum_136 rfl (lv_at hl 2 rfl) ?_
        refine fw_cV (pc := 137) (As := [.int (nI 18), .int (nI x9)]) (rest := []) ⟨hx, hb, hml, hown, hW⟩ (c_Mo_copy (pa := 18) (pc9 := x9) hS hXb (by omega) (by omega) (by omega)) (cwV 2 hW (kw_V lm_Mo_143 im_Mo_copy se_Mo_copy ini_Mo cd_Mo_copy) rfl rfl rfl (by decide +kernel) ⟨Nat.le_of_ble_eq_true rfl, Nat.le_of_ble_eq_true rfl⟩) hK hw b0 rfl rfl hl.1 rfl (Nat.le_of_ble_eq_true rfl) dMo_sum_137 ⟨Nat.le_of_ble_eq_true rfl, Nat.le_of_ble_eq_true rfl⟩ (fun v w205 H locs hq hw => ?_)
        obtain ⟨rfl, hS, hn9⟩ := hq
        have hoF : ∀ q, q < b ∨ b + 9 ≤ q → w205 q = w q := fun q h9 => (hn9 q h9).trans (hoF q h9)
        have hB9 : Int.natAbs (a9 + c9) < nM ^ 64 := by rw [← hxA]; exact hXb _
        obtain ⟨X6, eX6⟩ : ∃ X_, X_ = va_up X5 (x9) (X5 (18)) := ⟨_, rfl⟩
        rw [← eX6] at hS
        have hv9 : X5 (18) = Int.natAbs (a9 + c9) := hxA
        have hxy : X6 (x9 + 1) = Int.natAbs c9 := by rw [eX6, up_o (by omega)]; exact hxy
        have hxO : X6 (23) = 1 := by rw [eX6, up_o (by omega)]; exact hxO
        have hxA : X6 (18) = Int.natAbs (a9 + c9) := by rw [eX6, up_o (by omega)]; exact hxA
        have hxx : X6 (x9) = Int.natAbs (a9 + c9) := by rw [eX6]; exact up_s.trans hv9
        have hXb : ∀ p, X6 p < nM ^ 64 := fun p => by (rw [eX6]; unfold va_up; split; (rw [hv9]; exact hB9); exact hXb p)
        have hfr : ∀ p, p ≠ x9 → p < 18 ∨ 22 < p → X6 p = X p ∧ S3 p = S p := fun p h1 h2 => by rw [eX6, up_o (by omega)]; exact hfr p h1 h2
        obtain ⟨S7, eS7⟩ : ∃ S_, S_ = va_up S3 (x9) (S3 (18)) := ⟨_, rfl⟩
        rw [← eS7] at hS
        have hv9 : (S3 (18) : Int32) = nI 1 := hsA
        have hsy : S7 (x9 + 1) = sg32 b9 := by rw [eS7, up_o (by omega)]; exact hsy
        have hsO : S7 (23) = nI 1 := by rw [eS7, up_o (by omega)]; exact hsO
        have hsA : S7 (18) = nI 1 := by rw [eS7, up_o (by omega)]; exact hsA
        have hsx : S7 (x9) = nI 1 := by rw [eS7]; exact up_s.trans hv9
        have hfr : ∀ p, p ≠ x9 → p < 18 ∨ 22 < p → X6 p = X p ∧ S7 p = S p := fun p h1 h2 => by rw [eS7, up_o (by omega)]; exact hfr p h1 h2
        have b0 : w205 b = some (.inr (10, [.int (nI (I 0)), .ref (b + 1), .ref (b + 2), .int (nI (I 3)), .ref (b + 3), .ref (b + 4), .int (nI (I 6)), .int (nI (I 7)), .ref (b + 5), .ref (b + 6), .int (nI (I 10)), .int (nI (I 11)), .int (nI (I 12)), .int (nI (I 13)), .ref (b + 7), .ref (b + 8), .int (nI (I 16)), .int (nI (I 17)), .int (nI (I 18)), .int (nI (I 19))])) := hS.1
        have b1 : w205 (b + 1) = some (.inl (cL, 1536, .inr (.inl (fun i => lN (mC X6 i))))) := hS.2.1
        have b2 : w205 (b + 2) = some (.inl (cI, 24, .inl (S7))) := hS.2.2.1
        refine W.eq (g2 := F0 m 140 ls []) rfl ?_
        rw [show nI 1 = sg32 (a9 + c9) from (sg32_p (by omega)).symm] at hsx
        refine lv_aload_n (pc := 140) hx hb dMo_sum_140 rfl (lv_at hl 1 rfl) ?_
        refine lv_iload_n (pc := 141) hx hb dMo_sum_141 rfl (lv_at hl 2 rfl) ?_
        refine fw_cVR (pc := 142) (As := [.int (nI x9)]) (rest := []) ⟨hx, hb, hml, hown, hW⟩ (c_Mo_isGreat hS hXb (by omega)) (cwV 1 hW (kw_V lm_Mo_152 im_Mo_isGreat se_Mo_isGreat ini_Mo cd_Mo_isGreat) rfl rfl rfl (by decide +kernel) ⟨Nat.le_of_ble_eq_true rfl, Nat.le_of_ble_eq_true rfl⟩) hK hw b0 rfl rfl hl.1 rfl (Nat.le_of_ble_eq_true rfl) dMo_sum_142 ⟨Nat.le_of_ble_eq_true rfl, Nat.le_of_ble_eq_true rfl⟩ (fun v hq => ?_)
        have hxr : X6 x9 = Int.natAbs (a9 + c9) := hxx
        rw [hxr] at hq
        by_cases hg9 : Int.natAbs (a9 + c9) < 2 ^ 768
        · subst hq
          rw [if_pos hg9]
          refine W.eq (g2 := F0 m 145 ls [.int (nI 0)]) rfl ?_
          refine lv_if_eq (pc := 145) (tgt := 153) hx hb dMo_sum_145 (by decide) (fun _ => ?_) (fun hc => absurd (show nI 0 = 0 by decide) hc)
          refine lv_iconst (pc := 153) (v := (nI 0)) hx hb dMo_sum_153 (by decide) ?_
          have hsp : sFit (a9 + c9) a9 = (0, (a9 + c9)) := (rfl : sFit (a9 + c9) a9 = sFit (a9 + c9) a9).trans (if_pos hg9)
          exact fw_iret (pc := 154) hx hb hr hlocks hw dMo_sum_154 ⟨by rw [hsp], ⟨_, _, hS, hXb, fun _ => by rw [hsp]; exact ⟨hxr, hsx⟩, hfr⟩, hoF⟩
        · subst hq
          rw [if_neg hg9]
          refine W.eq (g2 := F0 m 145 ls [.int (nI 1)]) rfl ?_
          refine lv_if_eq (pc := 145) (tgt := 153) hx hb dMo_sum_145 (by decide) (fun hc => absurd hc (show ¬ nI 1 = 0 by decide)) (fun _ => ?_)
          refine lv_bipush (pc := 148) (v := (nI 6)) hx hb dMo_sum_148 (by decide) ?_
          refine lv_goto (pc := 150) (tgt := 154) hx hb dMo_sum_150 (by decide) ?_
          have hsp : (sFit (a9 + c9) a9).1 = 6 := by rw [(rfl : sFit (a9 + c9) a9 = sFit (a9 + c9) a9), sFit_1, if_neg hg9]
          exact fw_iret (pc := 154) hx hb hr hlocks hw dMo_sum_154 ⟨by rw [hsp], ⟨_, _, hS, hXb, fun h9 => absurd h9 (by rw [hsp]; decide), hfr⟩, hoF⟩
      · have hl9 : Int.natAbs c9 ≤ Int.natAbs a9 := (ordI_ge0 _ _).mp (Int32.not_lt.mp hlt)
        refine lv_aload_n (pc := 91) hx hb dMo_sum_91 rfl (lv_at hl 1 rfl) ?_
        refine lv_iload_n (pc := 92) hx hb dMo_sum_92 rfl (lv_at hl 2 rfl) ?_
        refine lv_bipush (pc := 93) (v := (nI 18)) hx hb dMo_sum_93 (by decide) ?_
        refine lv_lconst (pc := 95) (v := lN 1) hx hb dMo_sum_95 (by decide) ?_
        refine lv_iconst (pc := 96) (v := (nI 0)) hx hb dMo_sum_96 (by decide) ?_
        refine fw_cV (pc := 97) (As := [.int (nI x9), .int (nI 18), .long (lN 1), .int (nI 0)]) (rest := []) ⟨hx, hb, hml, hown, hW⟩ (c_Mo_takeFrom (pa := x9) (pb := 18) (t9 := 1) (h9 := 0) hS hXb (by omega) (by omega) (by omega) (by decide) (by decide) (by rw [hxx, hxA, Nat.pow_zero]; omega)) (cwV 4 hW (kw_V lm_Mo_135 im_Mo_takeFrom se_Mo_takeFrom ini_Mo cd_Mo_takeFrom) rfl rfl rfl (by decide +kernel) ⟨Nat.le_of_ble_eq_true rfl, Nat.le_of_ble_eq_true rfl⟩) hK hw b0 rfl rfl hl.1 rfl (Nat.le_of_ble_eq_true rfl) dMo_sum_97 ⟨Nat.le_of_ble_eq_true rfl, Nat.le_of_ble_eq_true rfl⟩ (fun v w204 H locs hq hw => ?_)
        obtain ⟨rfl, hS, hn9⟩ := hq
        have hoF : ∀ q, q < b ∨ b + 9 ≤ q → w204 q = w q := fun q h9 => (hn9 q h9).trans (hoF q h9)
        have hB9 : Int.natAbs (a9 + c9) < nM ^ 64 := Nat.lt_trans (show Int.natAbs (a9 + c9) < 2 ^ 768 by omega) p64
        obtain ⟨X8, eX8⟩ : ∃ X_, X_ = va_up X1 (x9) (X1 (x9) - 1 * X1 18 * nM ^ 0) := ⟨_, rfl⟩
        rw [← eX8] at hS
        have hv9 : X1 (x9) - 1 * X1 18 * nM ^ 0 = Int.natAbs (a9 + c9) := (by rw [hxx, hxA, Nat.pow_zero]; omega)
        have hxy : X8 (x9 + 1) = Int.natAbs c9 := by rw [eX8, up_o (by omega)]; exact hxy
        have hxO : X8 (23) = 1 := by rw [eX8, up_o (by omega)]; exact hxO
        have hxA : X8 (18) = Int.natAbs c9 := by rw [eX8, up_o (by omega)]; exact hxA
        have hxx : X8 (x9) = Int.natAbs (a9 + c9) := by rw [eX8]; exact up_s.trans hv9
        have hXb : ∀ p, X8 p < nM ^ 64 := fun p => by (rw [eX8]; unfold va_up; split; (rw [hv9]; exact hB9); exact hXb p)
        have hfr : ∀ p, p ≠ x9 → p < 18 ∨ 22 < p → X8 p = X p ∧ S3 p = S p := fun p h1 h2 => by rw [eX8, up_o (by omega)]; exact hfr p h1 h2
        have b0 : w204 b = some (.inr (10, [.int (nI (I 0)), .ref (b + 1), .ref (b + 2), .int (nI (I 3)), .ref (b + 3), .ref (b + 4), .int (nI (I 6)), .int (nI (I 7)), .ref (b + 5), .ref (b + 6), .int (nI (I 10)), .int (nI (I 11)), .int (nI (I 12)), .int (nI (I 13)), .ref (b + 7), .ref (b + 8), .int (nI (I 16)), .int (nI (I 17)), .int (nI (I 18)), .int (nI (I 19))])) := hS.1
        have b1 : w204 (b + 1) = some (.inl (cL, 1536, .inr (.inl (fun i => lN (mC X8 i))))) := hS.2.1
        have b2 : w204 (b + 2) = some (.inl (cI, 24, .inl (S3))) := hS.2.2.1
        refine W.eq (g2 := F0 m 100 ls []) rfl ?_
        refine lv_aload_n (pc := 100) hx hb dMo_sum_100 rfl (lv_at hl 1 rfl) ?_
        refine fw_get (pc := 101) (ci := 10) (v := .ref (b + 2)) (C := RMo) (T := TMo) (N := 20) hx hb hW in_Mo hown hK.1 hw b0 rfl 2 (by decide) (hW _ lf_Mo_13) (fun _ h => h) rfl dMo_sum_101 ?_
        refine lv_iload_n (pc := 104) hx hb dMo_sum_104 rfl (lv_at hl 2 rfl) ?_
        refine lv_iload (pc := 105) hx hb dMo_sum_105 (lv_at hl 0 rfl) ?_
        rcases Nat.eq_or_lt_of_le hl9 with he9 | he9
        · rw [show (ordI (Int.natAbs a9) (Int.natAbs c9) : Int32) = nI 0 from (ordI_eq he9.symm)]
          refine lv_if_ne (pc := 107) (tgt := 114) hx hb dMo_sum_107 (by decide) (fun hc => absurd hc (fun h => h (by decide))) (fun _ => ?_)
          refine lv_iconst (pc := 110) (v := (nI 0)) hx hb dMo_sum_110 (by decide) ?_
          refine lv_goto (pc := 111) (tgt := 120) hx hb dMo_sum_111 (by decide) ?_
          refine fw_iastN (pc := 120) (f2 := va_up S3 (x9) (nI 0)) hx hb hK.1 hw 0 b2 rfl (x9) (by omega) (by decide) (rfl) dMo_sum_120 (fun H locs hw => ?_)
          obtain ⟨w205, e205⟩ : ∃ w_, w_ = fw_up w204 (b + 2) (.inl (cI, 24, .inl (va_up S3 (x9) (nI 0)))) := ⟨_, rfl⟩
          have hw : fw_H D kCl (fw_A w (sz)) s.heap w205 (sz) H locs := by rw [e205]; exact hw
          have b0_ : w205 (b) = some (.inr (10, [.int (nI (I 0)), .ref (b + 1), .ref (b + 2), .int (nI (I 3)), .ref (b + 3), .ref (b + 4), .int (nI (I 6)), .int (nI (I 7)), .ref (b + 5), .ref (b + 6), .int (nI (I 10)), .int (nI (I 11)), .int (nI (I 12)), .int (nI (I 13)), .ref (b + 7), .ref (b + 8), .int (nI (I 16)), .int (nI (I 17)), .int (nI (I 18)), .int (nI (I 19))])) := by rw [e205, fw_un (by omega)]; exact b0
          have b1_ : w205 (b + 1) = some (.inl (cL, 1536, .inr (.inl (fun i => lN (mC X8 i))))) := by rw [e205, fw_un (by omega)]; exact b1
          have b2_ : w205 (b + 2) = some (.inl (cI, 24, .inl (va_up S3 (x9) (nI 0)))) := by rw [e205]; exact fw_us _ _ _
          have b0 := b0_
          have b1 := b1_
          have b2 := b2_
          have hS : moS cI cL w205 b I K (va_up S3 (x9) (nI 0)) (mC X8) := moS.cs hS b1 b2 (fun q h1 h2 => by rw [e205, fw_un h2])
          have hoF : ∀ q, q < b ∨ b + 9 ≤ q → w205 q = w q := fun q h9 => by rw [e205, fw_un (by omega)]; exact hoF q h9
          obtain ⟨S9, eS9⟩ : ∃ S_, S_ = va_up S3 (x9) (nI 0) := ⟨_, rfl⟩
          rw [← eS9] at hS
          have hv9 : (nI 0 : Int32) = nI 0 := rfl
          have hsy : S9 (x9 + 1) = sg32 b9 := by rw [eS9, up_o (by omega)]; exact hsy
          have hsO : S9 (23) = nI 1 := by rw [eS9, up_o (by omega)]; exact hsO
          have hsA : S9 (18) = nI 1 := by rw [eS9, up_o (by omega)]; exact hsA
          have hsx : S9 (x9) = nI 0 := by rw [eS9]; exact up_s.trans hv9
          have hfr : ∀ p, p ≠ x9 → p < 18 ∨ 22 < p → X8 p = X p ∧ S9 p = S p := fun p h1 h2 => by rw [eS9, up_o (by omega)]; exact hfr p h1 h2
          have b0 : w205 b = some (.inr (10, [.int (nI (I 0)), .ref (b + 1), .ref (b + 2), .int (nI (I 3)), .ref (b + 3), .ref (b + 4), .int (nI (I 6)), .int (nI (I 7)), .ref (b + 5), .ref (b + 6), .int (nI (I 10)), .int (nI (I 11)), .int (nI (I 12)), .int (nI (I 13)), .ref (b + 7), .ref (b + 8), .int (nI (I 16)), .int (nI (I 17)), .int (nI (I 18)), .int (nI (I 19))])) := hS.1
          have b1 : w205 (b + 1) = some (.inl (cL, 1536, .inr (.inl (fun i => lN (mC X8 i))))) := hS.2.1
          have b2 : w205 (b + 2) = some (.inl (cI, 24, .inl (S9))) := hS.2.2.1
          refine lv_goto (pc := 121) (tgt := 140) hx hb dMo_sum_121 (by decide) ?_
          rw [show nI 0 = sg32 (a9 + c9) from (sg32_z (by omega)).symm] at hsx
          refine lv_aload_n (pc := 140) hx hb dMo_sum_140 rfl (lv_at hl 1 rfl) ?_
          refine lv_iload_n (pc := 141) hx hb dMo_sum_141 rfl (lv_at hl 2 rfl) ?_
          refine fw_cVR (pc := 142) (As := [.int (nI x9)]) (rest := []) ⟨hx, hb, hml, hown, hW⟩ (c_Mo_isGreat hS hXb (by omega)) (cwV 1 hW (kw_V lm_Mo_152 im_Mo_isGreat se_Mo_isGreat ini_Mo cd_Mo_isGreat) rfl rfl rfl (by decide +kernel) ⟨Nat.le_of_ble_eq_true rfl, Nat.le_of_ble_eq_true rfl⟩) hK hw b0 rfl rfl hl.1 rfl (Nat.le_of_ble_eq_true rfl) dMo_sum_142 ⟨Nat.le_of_ble_eq_true rfl, Nat.le_of_ble_eq_true rfl⟩ (fun v hq => ?_)
          have hxr : X8 x9 = Int.natAbs (a9 + c9) := hxx
          rw [hxr] at hq
          by_cases hg9 : Int.natAbs (a9 + c9) < 2 ^ 768
          · subst hq
            rw [if_pos hg9]
            refine W.eq (g2 := F0 m 145 ls [.int (nI 0)]) rfl ?_
            refine lv_if_eq (pc := 145) (tgt := 153) hx hb dMo_sum_145 (by decide) (fun _ => ?_) (fun hc => absurd (show nI 0 = 0 by decide) hc)
            refine lv_iconst (pc := 153) (v := (nI 0)) hx hb dMo_sum_153 (by decide) ?_
            have hsp : sFit (a9 + c9) a9 = (0, (a9 + c9)) := (rfl : sFit (a9 + c9) a9 = sFit (a9 + c9) a9).trans (if_pos hg9)
            exact fw_iret (pc := 154) hx hb hr hlocks hw dMo_sum_154 ⟨by rw [hsp], ⟨_, _, hS, hXb, fun _ => by rw [hsp]; exact ⟨hxr, hsx⟩, hfr⟩, hoF⟩
          · subst hq
            rw [if_neg hg9]
            refine W.eq (g2 := F0 m 145 ls [.int (nI 1)]) rfl ?_
            refine lv_if_eq (pc := 145) (tgt := 153) hx hb dMo_sum_145 (by decide) (fun hc => absurd hc (show ¬ nI 1 = 0 by decide)) (fun _ => ?_)
            refine lv_bipush (pc := 148) (v := (nI 6)) hx hb dMo_sum_148 (by decide) ?_
            refine lv_goto (pc := 150) (tgt := 154) hx hb dMo_sum_150 (by decide) ?_
            have hsp : (sFit (a9 + c9) a9).1 = 6 := by rw [(rfl : sFit (a9 + c9) a9 = sFit (a9 + c9) a9), sFit_1, if_neg hg9]
            exact fw_iret (pc := 154) hx hb hr hlocks hw dMo_sum_154 ⟨by rw [hsp], ⟨_, _, hS, hXb, fun h9 => absurd h9 (by rw [hsp]; decide), hfr⟩, hoF⟩
        · rw [show (ordI (Int.natAbs a9) (Int.natAbs c9) : Int32) = nI 1 from (ordI_gt he9)]
          refine lv_if_ne (pc := 107) (tgt := 114) hx hb dMo_sum_107 (by decide) (fun _ => ?_) (fun hc => absurd hc (by decide))
          refine lv_aload_n (pc := 114) hx hb dMo_sum_114 rfl (lv_at hl 1 rfl) ?_
          refine fw_get (pc := 115) (ci := 10) (v := .ref (b + 2)) (C := RMo) (T := TMo) (N := 20) hx hb hW in_Mo hown hK.1 hw b0 rfl 2 (by decide) (hW _ lf_Mo_13) (fun _ h => h) rfl dMo_sum_115 ?_
          refine lv_iload_n (pc := 118) hx hb dMo_sum_118 rfl (lv_at hl 2 rfl) ?_
          refine fw_ialdN (pc := 119) (x := S3 (x9)) hx hb hK.1 hw 0 b2 rfl (x9) (by omega) (by decide) rfl dMo_sum_119 ?_
          rw [show (S3 (x9) : Int32) = (-1) from hsx]
          refine fw_iastN (pc := 120) (f2 := va_up S3 (x9) ((-1))) hx hb hK.1 hw 0 b2 rfl (x9) (by omega) (by decide) (rfl) dMo_sum_120 (fun H locs hw => ?_)
          obtain ⟨w205, e205⟩ : ∃ w_, w_ = fw_up w204 (b + 2) (.inl (cI, 24, .inl (va_up S3 (x9) ((-1))))) := ⟨_, rfl⟩
          have hw : fw_H D kCl (fw_A w (sz)) s.heap w205 (sz) H locs := by rw [e205]; exact hw
          have b0_ : w205 (b) = some (.inr (10, [.int (nI (I 0)), .ref (b + 1), .ref (b + 2), .int (nI (I 3)), .ref (b + 3), .ref (b + 4), .int (nI (I 6)), .int (nI (I 7)), .ref (b + 5), .ref (b + 6), .int (nI (I 10)), .int (nI (I 11)), .int (nI (I 12)), .int (nI (I 13)), .ref (b + 7), .ref (b + 8), .int (nI (I 16)), .int (nI (I 17)), .int (nI (I 18)), .int (nI (I 19))])) := by rw [e205, fw_un (by omega)]; exact b0
          have b1_ : w205 (b + 1) = some (.inl (cL, 1536, .inr (.inl (fun i => lN (mC X8 i))))) := by rw [e205, fw_un (by omega)]; exact b1
          have b2_ : w205 (b + 2) = some (.inl (cI, 24, .inl (va_up S3 (x9) ((-1))))) := by rw [e205]; exact fw_us _ _ _
          have b0 := b0_
          have b1 := b1_
          have b2 := b2_
          have hS : moS cI cL w205 b I K (va_up S3 (x9) ((-1))) (mC X8) := moS.cs hS b1 b2 (fun q h1 h2 => by rw [e205, fw_un h2])
          have hoF : ∀ q, q < b ∨ b + 9 ≤ q → w205 q = w q := fun q h9 => by rw [e205, fw_un (by omega)]; exact hoF q h9
          obtain ⟨S10, eS10⟩ : ∃ S_, S_ = va_up S3 (x9) ((-1)) := ⟨_, rfl⟩
          rw [← eS10] at hS
          have hv9 : ((-1) : Int32) = (-1) := rfl
          have hsy : S10 (x9 + 1) = sg32 b9 := by rw [eS10, up_o (by omega)]; exact hsy
          have hsO : S10 (23) = nI 1 := by rw [eS10, up_o (by omega)]; exact hsO
          have hsA : S10 (18) = nI 1 := by rw [eS10, up_o (by omega)]; exact hsA
          have hsx : S10 (x9) = (-1) := by rw [eS10]; exact up_s.trans hv9
          have hfr : ∀ p, p ≠ x9 → p < 18 ∨ 22 < p → X8 p = X p ∧ S10 p = S p := fun p h1 h2 => by rw [eS10, up_o (by omega)]; exact hfr p h1 h2
          have b0 : w205 b = some (.inr (10, [.int (nI (I 0)), .ref (b + 1), .ref (b + 2), .int (nI (I 3)), .ref (b + 3), .ref (b + 4), .int (nI (I 6)), .int (nI (I 7)), .ref (b + 5), .ref (b + 6), .int (nI (I 10)), .int (nI (I 11)), .int (nI (I 12)), .int (nI (I 13)), .ref (b + 7), .ref (b + 8), .int (nI (I 16)), .int (nI (I 17)), .int (nI (I 18)), .int (nI (I 19))])) := hS.1
          have b1 : w205 (b + 1) = some (.inl (cL, 1536, .inr (.inl (fun i => lN (mC X8 i))))) := hS.2.1
          have b2 : w205 (b + 2) = some (.inl (cI, 24, .inl (S10))) := hS.2.2.1
          refine lv_goto (pc := 121) (tgt := 140) hx hb dMo_sum_121 (by decide) ?_
          rw [show (-1) = sg32 (a9 + c9) from (sg32_n (by omega)).symm] at hsx
          refine lv_aload_n (pc := 140) hx hb dMo_sum_140 rfl (lv_at hl 1 rfl) ?_
          refine lv_iload_n (pc := 141) hx hb dMo_sum_141 rfl (lv_at hl 2 rfl) ?_
          refine fw_cVR (pc := 142) (As := [.int (nI x9)]) (rest := []) ⟨hx, hb, hml, hown, hW⟩ (c_Mo_isGreat hS hXb (by omega)) (cwV 1 hW (kw_V lm_Mo_152 im_Mo_isGreat se_Mo_isGreat ini_Mo cd_Mo_isGreat) rfl rfl rfl (by decide +kernel) ⟨Nat.le_of_ble_eq_true rfl, Nat.le_of_ble_eq_true rfl⟩) hK hw b0 rfl rfl hl.1 rfl (Nat.le_of_ble_eq_true rfl) dMo_sum_142 ⟨Nat.le_of_ble_eq_true rfl, Nat.le_of_ble_eq_true rfl⟩ (fun v hq => ?_)
          have hxr : X8 x9 = Int.natAbs (a9 + c9) := hxx
          rw [hxr] at hq
          by_cases hg9 : Int.natAbs (a9 + c9) < 2 ^ 768
          · subst hq
            rw [if_pos hg9]
            refine W.eq (g2 := F0 m 145 ls [.int (nI 0)]) rfl ?_
            refine lv_if_eq (pc := 145) (tgt := 153) hx hb dMo_sum_145 (by decide) (fun _ => ?_) (fun hc => absurd (show nI 0 = 0 by decide) hc)
            refine lv_iconst (pc := 153) (v := (nI 0)) hx hb dMo_sum_153 (by decide) ?_
            have hsp : sFit (a9 + c9) a9 = (0, (a9 + c9)) := (rfl : sFit (a9 + c9) a9 = sFit (a9 + c9) a9).trans (if_pos hg9)
            exact fw_iret (pc := 154) hx hb hr hlocks hw dMo_sum_154 ⟨by rw [hsp], ⟨_, _, hS, hXb, fun _ => by rw [hsp]; exact ⟨hxr, hsx⟩, hfr⟩, hoF⟩
          · subst hq
            rw [if_neg hg9]
            refine W.eq (g2 := F0 m 145 ls [.int (nI 1)]) rfl ?_
            refine lv_if_eq (pc := 145) (tgt := 153) hx hb dMo_sum_145 (by decide) (fun hc => absurd hc (show ¬ nI 1 = 0 by decide)) (fun _ => ?_)
            refine lv_bipush (pc := 148) (v := (nI 6)) hx hb dMo_sum_148 (by decide) ?_
            refine lv_goto (pc := 150) (tgt := 154) hx hb dMo_sum_150 (by decide) ?_
            have hsp : (sFit (a9 + c9) a9).1 = 6 := by rw [(rfl : sFit (a9 + c9) a9 = sFit (a9 + c9) a9), sFit_1, if_neg hg9]
            exact fw_iret (pc := 154) hx hb hr hlocks hw dMo_sum_154 ⟨by rw [hsp], ⟨_, _, hS, hXb, fun h9 => absurd h9 (by rw [hsp]; decide), hfr⟩, hoF⟩
  · rw [sg32_z ha90] at hsx
    rw [show (sg32 a9 : Int32) = nI 0 from (sg32_z ha90)]
    refine lv_if_ne (pc := 28) (tgt := 41) hx hb dMo_sum_28 (by decide) (fun hc => absurd hc (fun h => h (by decide))) (fun _ => ?_)
    refine lv_aload_n (pc := 31) hx hb dMo_sum_31 rfl (lv_at hl 0 rfl) ?_
    refine lv_bipush (pc := 32) (v := (nI 18)) hx hb dMo_sum_32 (by decide) ?_
    refine lv_iload_n (pc := 34) hx hb dMo_sum_34 rfl (lv_at hl 1 rfl) ?_
    refine fw_cV (pc := 35) (As := [.int (nI 18), .int (nI x9)]) (rest := []) ⟨hx, hb, hml, hown, hW⟩ (c_Mo_copy (pa := 18) (pc9 := x9) hS hXb (by omega) (by omega) (by omega)) (cwV 2 hW (kw_V lm_Mo_143 im_Mo_copy se_Mo_copy ini_Mo cd_Mo_copy) rfl rfl rfl (by decide +kernel) ⟨Nat.le_of_ble_eq_true rfl, Nat.le_of_ble_eq_true rfl⟩) hK hw b0 rfl rfl hl.1 rfl (Nat.le_of_ble_eq_true rfl) dMo_sum_35 ⟨Nat.le_of_ble_eq_true rfl, Nat.le_of_ble_eq_true rfl⟩ (fun v w206 H locs hq hw => ?_)
    obtain ⟨rfl, hS, hn9⟩ := hq
    have hoF : ∀ q, q < b ∨ b + 9 ≤ q → w206 q = w q := fun q h9 => (hn9 q h9).trans (hoF q h9)
    have hB9 : Int.natAbs c9 < nM ^ 64 := by rw [← hxA]; exact hXb _
    obtain ⟨X11, eX11⟩ : ∃ X_, X_ = va_up X1 (x9) (X1 (18)) := ⟨_, rfl⟩
    rw [← eX11] at hS
    have hv9 : X1 (18) = Int.natAbs c9 := hxA
    have hxy : X11 (x9 + 1) = Int.natAbs c9 := by rw [eX11, up_o (by omega)]; exact hxy
    have hxO : X11 (23) = 1 := by rw [eX11, up_o (by omega)]; exact hxO
    have hxA : X11 (18) = Int.natAbs c9 := by rw [eX11, up_o (by omega)]; exact hxA
    have hxx : X11 (x9) = Int.natAbs c9 := by rw [eX11]; exact up_s.trans hv9
    have hXb : ∀ p, X11 p < nM ^ 64 := fun p => by (rw [eX11]; unfold va_up; split; (rw [hv9]; exact hB9); exact hXb p)
    have hfr : ∀ p, p ≠ x9 → p < 18 ∨ 22 < p → X11 p = X p ∧ S3 p = S p := fun p h1 h2 => by rw [eX11, up_o (by omega)]; exact hfr p h1 h2
    obtain ⟨S12, eS12⟩ : ∃ S_, S_ = va_up S3 (x9) (S3 (18)) := ⟨_, rfl⟩
    rw [← eS12] at hS
    have hv9 : (S3 (18) : Int32) = sg32 c9 := hsA
    have hsy : S12 (x9 + 1) = sg32 b9 := by rw [eS12, up_o (by omega)]; exact hsy
    have hsO : S12 (23) = nI 1 := by rw [eS12, up_o (by omega)]; exact hsO
    have hsA : S12 (18) = sg32 c9 := by rw [eS12, up_o (by omega)]; exact hsA
    have hsx : S12 (x9) = sg32 c9 := by rw [eS12]; exact up_s.trans hv9
    have hfr : ∀ p, p ≠ x9 → p < 18 ∨ 22 < p → X11 p = X p ∧ S12 p = S p := fun p h1 h2 => by rw [eS12, up_o (by omega)]; exact hfr p h1 h2
    have b0 : w206 b = some (.inr (10, [.int (nI (I 0)), .ref (b + 1), .ref (b + 2), .int (nI (I 3)), .ref (b + 3), .ref (b + 4), .int (nI (I 6)), .int (nI (I 7)), .ref (b + 5), .ref (b + 6), .int (nI (I 10)), .int (nI (I 11)), .int (nI (I 12)), .int (nI (I 13)), .ref (b + 7), .ref (b + 8), .int (nI (I 16)), .int (nI (I 17)), .int (nI (I 18)), .int (nI (I 19))])) := hS.1
    have b1 : w206 (b + 1) = some (.inl (cL, 1536, .inr (.inl (fun i => lN (mC X11 i))))) := hS.2.1
    have b2 : w206 (b + 2) = some (.inl (cI, 24, .inl (S12))) := hS.2.2.1
    refine W.eq (g2 := F0 m 38 ls []) rfl ?_
    refine lv_goto (pc := 38) (tgt := 140) hx hb dMo_sum_38 (by decide) ?_
    have hr9 : a9 + c9 = c9 := by omega
    rw [← hr9] at hxx hsx
    refine lv_aload_n (pc := 140) hx hb dMo_sum_140 rfl (lv_at hl 0 rfl) ?_
    refine lv_iload_n (pc := 141) hx hb dMo_sum_141 rfl (lv_at hl 1 rfl) ?_
    refine fw_cVR (pc := 142) (As := [.int (nI x9)]) (rest := []) ⟨hx, hb, hml, hown, hW⟩ (c_Mo_isGreat hS hXb (by omega)) (cwV 1 hW (kw_V lm_Mo_152 im_Mo_isGreat se_Mo_isGreat ini_Mo cd_Mo_isGreat) rfl rfl rfl (by decide +kernel) ⟨Nat.le_of_ble_eq_true rfl, Nat.le_of_ble_eq_true rfl⟩) hK hw b0 rfl rfl hl.1 rfl (Nat.le_of_ble_eq_true rfl) dMo_sum_142 ⟨Nat.le_of_ble_eq_true rfl, Nat.le_of_ble_eq_true rfl⟩ (fun v hq => ?_)
    have hxr : X11 x9 = Int.natAbs (a9 + c9) := hxx
    rw [hxr] at hq
    by_cases hg9 : Int.natAbs (a9 + c9) < 2 ^ 768
    · subst hq
      rw [if_pos hg9]
      refine W.eq (g2 := F0 m 145 ls [.int (nI 0)]) rfl ?_
      refine lv_if_eq (pc := 145) (tgt := 153) hx hb dMo_sum_145 (by decide) (fun _ => ?_) (fun hc => absurd (show nI 0 = 0 by decide) hc)
      refine lv_iconst (pc := 153) (v := (nI 0)) hx hb dMo_sum_153 (by decide) ?_
      have hsp : sFit (a9 + c9) a9 = (0, (a9 + c9)) := (rfl : sFit (a9 + c9) a9 = sFit (a9 + c9) a9).trans (if_pos hg9)
      exact fw_iret (pc := 154) hx hb hr hlocks hw dMo_sum_154 ⟨by rw [hsp], ⟨_, _, hS, hXb, fun _ => by rw [hsp]; exact ⟨hxr, hsx⟩, hfr⟩, hoF⟩
    · subst hq
      rw [if_neg hg9]
      refine W.eq (g2 := F0 m 145 ls [.int (nI 1)]) rfl ?_
      refine lv_if_eq (pc := 145) (tgt := 153) hx hb dMo_sum_145 (by decide) (fun hc => absurd hc (show ¬ nI 1 = 0 by decide)) (fun _ => ?_)
      refine lv_bipush (pc := 148) (v := (nI 6)) hx hb dMo_sum_148 (by decide) ?_
      refine lv_goto (pc := 150) (tgt := 154) hx hb dMo_sum_150 (by decide) ?_
      have hsp : (sFit (a9 + c9) a9).1 = 6 := by rw [(rfl : sFit (a9 + c9) a9 = sFit (a9 + c9) a9), sFit_1, if_neg hg9]
      exact fw_iret (pc := 154) hx hb hr hlocks hw dMo_sum_154 ⟨by rw [hsp], ⟨_, _, hS, hXb, fun h9 => absurd h9 (by rw [hsp]; decide), hfr⟩, hoF⟩
  · rw [sg32_p ha90] at hsx
    rw [show (sg32 a9 : Int32) = nI 1 from (sg32_p ha90)]
    refine lv_if_ne (pc := 28) (tgt := 41) hx hb dMo_sum_28 (by decide) (fun _ => ?_) (fun hc => absurd hc (by decide))
    refine lv_aload_n (pc := 41) hx hb dMo_sum_41 rfl (lv_at hl 0 rfl) ?_
    refine fw_get (pc := 42) (ci := 10) (v := .ref (b + 2)) (C := RMo) (T := TMo) (N := 20) hx hb hW in_Mo hown hK.1 hw b0 rfl 2 (by decide) (hW _ lf_Mo_13) (fun _ h => h) rfl dMo_sum_42 ?_
    refine lv_bipush (pc := 45) (v := (nI 18)) hx hb dMo_sum_45 (by decide) ?_
    refine fw_ialdN (pc := 47) (x := S3 (18)) hx hb hK.1 hw 0 b2 rfl (18) (by omega) (by decide) rfl dMo_sum_47 ?_
    rw [show (S3 (18) : Int32) = sg32 c9 from hsA]
    refine lv_aload_n (pc := 48) hx hb dMo_sum_48 rfl (lv_at hl 0 rfl) ?_
    refine fw_get (pc := 49) (ci := 10) (v := .ref (b + 2)) (C := RMo) (T := TMo) (N := 20) hx hb hW in_Mo hown hK.1 hw b0 rfl 2 (by decide) (hW _ lf_Mo_13) (fun _ h => h) rfl dMo_sum_49 ?_
    refine lv_iload_n (pc := 52) hx hb dMo_sum_52 rfl (lv_at hl 1 rfl) ?_
    refine fw_ialdN (pc := 53) (x := S3 (x9)) hx hb hK.1 hw 0 b2 rfl (x9) (by omega) (by decide) rfl dMo_sum_53 ?_
    rw [show (S3 (x9) : Int32) = nI 1 from hsx]
    rcases Int.lt_trichotomy c9 0 with hc90 | hc90 | hc90
    · rw [sg32_n hc90]
      rw [sg32_n hc90] at hsA
      refine lv_icmp_ne (pc := 54) (tgt := 67) hx hb dMo_sum_54 (by decide) (fun _ => ?_) (fun hc => absurd hc (by decide))
      refine lv_aload_n (pc := 67) hx hb dMo_sum_67 rfl (lv_at hl 0 rfl) ?_
      refine fw_get (pc := 68) (ci := 10) (v := .ref (b + 2)) (C := RMo) (T := TMo) (N := 20) hx hb hW in_Mo hown hK.1 hw b0 rfl 2 (by decide) (hW _ lf_Mo_13) (fun _ h => h) rfl dMo_sum_68 ?_
      refine lv_bipush (pc := 71) (v := (nI 18)) hx hb dMo_sum_71 (by decide) ?_
      refine fw_ialdN (pc := 73) (x := S3 (18)) hx hb hK.1 hw 0 b2 rfl (18) (by omega) (by decide) rfl dMo_sum_73 ?_
      rw [show (S3 (18) : Int32) = (-1) from hsA]
      refine lv_if_eq (pc := 74) (tgt := 140) hx hb dMo_sum_74 (by decide) (fun hc => absurd hc (by decide)) (fun _ => ?_)
      refine lv_aload_n (pc := 77) hx hb dMo_sum_77 rfl (lv_at hl 0 rfl) ?_
      refine lv_iload_n (pc := 78) hx hb dMo_sum_78 rfl (lv_at hl 1 rfl) ?_
      refine lv_bipush (pc := 79) (v := (nI 18)) hx hb dMo_sum_79 (by decide) ?_
      refine fw_cVR (pc := 81) (As := [.int (nI x9), .int (nI 18)]) (rest := []) ⟨hx, hb, hml, hown, hW⟩ (c_Mo_order (pa := x9) (pb := 18) hS hXb (by omega) (by omega)) (cwV 2 hW (kw_V lm_Mo_149 im_Mo_order se_Mo_order ini_Mo cd_Mo_order) rfl rfl rfl (by decide +kernel) ⟨Nat.le_of_ble_eq_true rfl, Nat.le_of_ble_eq_true rfl⟩) hK hw b0 rfl rfl hl.1 rfl (Nat.le_of_ble_eq_true rfl) dMo_sum_81 ⟨Nat.le_of_ble_eq_true rfl, Nat.le_of_ble_eq_true rfl⟩ (fun v hq => ?_)
      rw [hxx, hxA] at hq
      subst hq
      refine W.eq (g2 := F0 m 84 ls [.int (ordI (Int.natAbs a9) (Int.natAbs c9))]) rfl ?_
      refine lv_istore (pc := 84) (lv' := [(4, .int (ordI (Int.natAbs a9) (Int.natAbs c9))), (0, .ref b), (1, .int (nI x9)), (2, .int (nI (x9 + 1))), (3, .int (nI 1))]) hx hb dMo_sum_84 hl (by decide) rfl (fun ls hl => ?_)
      refine lv_iload (pc := 86) hx hb dMo_sum_86 (lv_at hl 0 rfl) ?_
      refine lv_if_lt (pc := 88) (tgt := 124) hx hb dMo_sum_88 (by decide) (fun hlt => ?_) (fun hlt => ?_)
      · have hl9 : Int.natAbs a9 < Int.natAbs c9 := Nat.lt_of_not_le (fun h9 => absurd ((ordI_ge0 _ _).mpr h9) (Int32.not_le.mpr hlt))
        refine lv_aload_n (pc := 124) hx hb dMo_sum_124 rfl (lv_at hl 1 rfl) ?_
        refine lv_bipush (pc := 125) (v := (nI 18)) hx hb dMo_sum_125 (by decide) ?_
        refine lv_iload_n (pc := 127) hx hb dMo_sum_127 rfl (lv_at hl 2 rfl) ?_
        refine lv_lconst (pc := 128) (v := lN 1) hx hb dMo_sum_128 (by decide) ?_
        refine lv_iconst (pc := 129) (v := (nI 0)) hx hb dMo_sum_129 (by decide) ?_
        refine fw_cV (pc := 130) (As := [.int (nI 18), .int (nI x9), .long (lN 1), .int (nI 0)]) (rest := []) ⟨hx, hb, hml, hown, hW⟩ (c_Mo_takeFrom (pa := 18) (pb := x9) (t9 := 1) (h9 := 0) hS hXb (by omega) (by omega) (by omega) (by decide) (by decide) (by rw [hxx, hxA, Nat.pow_zero]; omega)) (cwV 4 hW (kw_V lm_Mo_135 im_Mo_takeFrom se_Mo_takeFrom ini_Mo cd_Mo_takeFrom) rfl rfl rfl (by decide +kernel) ⟨Nat.le_of_ble_eq_true rfl, Nat.le_of_ble_eq_true rfl⟩) hK hw b0 rfl rfl hl.1 rfl (Nat.le_of_ble_eq_true rfl) dMo_sum_130 ⟨Nat.le_of_ble_eq_true rfl, Nat.le_of_ble_eq_true rfl⟩ (fun v w207 H locs hq hw => ?_)
        obtain ⟨rfl, hS, hn9⟩ := hq
        have hoF : ∀ q, q < b ∨ b + 9 ≤ q → w207 q = w q := fun q h9 => (hn9 q h9).trans (hoF q h9)
        have hB9 : Int.natAbs (a9 + c9) < nM ^ 64 := Nat.lt_trans (show Int.natAbs (a9 + c9) < 2 ^ 768 by omega) p64
        obtain ⟨X13, eX13⟩ : ∃ X_, X_ = va_up X1 (18) (X1 18 - 1 * X1 (x9) * nM ^ 0) := ⟨_, rfl⟩
        rw [← eX13] at hS
        have hv9 : X1 18 - 1 * X1 (x9) * nM ^ 0 = Int.natAbs (a9 + c9) := (by rw [hxx, hxA, Nat.pow_zero]; omega)
        have hxx : X13 (x9) = Int.natAbs a9 := by rw [eX13, up_o (by omega)]; exact hxx
        have hxy : X13 (x9 + 1) = Int.natAbs c9 := by rw [eX13, up_o (by omega)]; exact hxy
        have hxO : X13 (23) = 1 := by rw [eX13, up_o (by omega)]; exact hxO
        have hxA : X13 (18) = Int.natAbs (a9 + c9) := by rw [eX13]; exact up_s.trans hv9
        have hXb : ∀ p, X13 p < nM ^ 64 := fun p => by (rw [eX13]; unfold va_up; split; (rw [hv9]; exact hB9); exact hXb p)
        have hfr : ∀ p, p ≠ x9 → p < 18 ∨ 22 < p → X13 p = X p ∧ S3 p = S p := fun p h1 h2 => by rw [eX13, up_o (by omega)]; exact hfr p h1 h2
        have b0 : w207 b = some (.inr (10, [.int (nI (I 0)), .ref (b + 1), .ref (b + 2), .int (nI (I 3)), .ref (b + 3), .ref (b + 4), .int (nI (I 6)), .int (nI (I 7)), .ref (b + 5), .ref (b + 6), .int (nI (I 10)), .int (nI (I 11)), .int (nI (I 12)), .int (nI (I 13)), .ref (b + 7), .ref (b + 8), .int (nI (I 16)), .int (nI (I 17)), .int (nI (I 18)), .int (nI (I 19))])) := hS.1
        have b1 : w207 (b + 1) = some (.inl (cL, 1536, .inr (.inl (fun i => lN (mC X13 i))))) := hS.2.1
        have b2 : w207 (b + 2) = some (.inl (cI, 24, .inl (S3))) := hS.2.2.1
        refine W.eq (g2 := F0 m 133 ls []) rfl ?_
        refine lv_aload_n (pc := 133) hx hb dMo_sum_133 rfl (lv_at hl 1 rfl) ?_
        refine lv_bipush (pc := 134) (v := (nI 18)) hx hb dMo_sum_134 (by decide) ?_
        refine lv_iload_n (pc := 136) hx hb dMo_sum_136 rfl (lv_at hl 2 rfl) ?_
        refine fw_cV (pc := 137) (As := [.int (nI 18), .int (nI x9)]) (rest := []) ⟨hx, hb, hml, hown, hW⟩ (c_Mo_copy (pa := 18) (pc9 := x9) hS hXb (by omega) (by omega) (by omega)) (cwV 2 hW (kw_V lm_Mo_143 im_Mo_copy se_Mo_copy ini_Mo cd_Mo_copy) rfl rfl rfl (by decide +kernel) ⟨Nat.le_of_ble_eq_true rfl, Nat.le_of_ble_eq_true rfl⟩) hK hw b0 rfl rfl hl.1 rfl (Nat.le_of_ble_eq_true rfl) dMo_sum_137 ⟨Nat.le_of_ble_eq_true rfl, Nat.le_of_ble_eq_true rfl⟩ (fun v w208 H locs hq hw => ?_)
        obtain ⟨rfl, hS, hn9⟩ := hq
        have hoF : ∀ q, q < b ∨ b + 9 ≤ q → w208 q = w q := fun q h9 => (hn9 q h9).trans (hoF q h9)
        have hB9 : Int.natAbs (a9 + c9) < nM ^ 64 := by rw [← hxA]; exact hXb _
        obtain ⟨X14, eX14⟩ : ∃ X_, X_ = va_up X13 (x9) (X13 (18)) := ⟨_, rfl⟩
        rw [← eX14] at hS
        have hv9 : X13 (18) = Int.natAbs (a9 + c9) := hxA
        have hxy : X14 (x9 + 1) = Int.natAbs c9 := by rw [eX14, up_o (by omega)]; exact hxy
        have hxO : X14 (23) = 1 := by rw [eX14, up_o (by omega)]; exact hxO
        have hxA : X14 (18) = Int.natAbs (a9 + c9) := by rw [eX14, up_o (by omega)]; exact hxA
        have hxx : X14 (x9) = Int.natAbs (a9 + c9) := by rw [eX14]; exact up_s.trans hv9
        have hXb : ∀ p, X14 p < nM ^ 64 := fun p => by (rw [eX14]; unfold va_up; split; (rw [hv9]; exact hB9); exact hXb p)
        have hfr : ∀ p, p ≠ x9 → p < 18 ∨ 22 < p → X14 p = X p ∧ S3 p = S p := fun p h1 h2 => by rw [eX14, up_o (by omega)]; exact hfr p h1 h2
        obtain ⟨S15, eS15⟩ : ∃ S_, S_ = va_up S3 (x9) (S3 (18)) := ⟨_, rfl⟩
        rw [← eS15] at hS
        have hv9 : (S3 (18) : Int32) = (-1) := hsA
        have hsy : S15 (x9 + 1) = sg32 b9 := by rw [eS15, up_o (by omega)]; exact hsy
        have hsO : S15 (23) = nI 1 := by rw [eS15, up_o (by omega)]; exact hsO
        have hsA : S15 (18) = (-1) := by rw [eS15, up_o (by omega)]; exact hsA
        have hsx : S15 (x9) = (-1) := by rw [eS15]; exact up_s.trans hv9
        have hfr : ∀ p, p ≠ x9 → p < 18 ∨ 22 < p → X14 p = X p ∧ S15 p = S p := fun p h1 h2 => by rw [eS15, up_o (by omega)]; exact hfr p h1 h2
        have b0 : w208 b = some (.inr (10, [.int (nI (I 0)), .ref (b + 1), .ref (b + 2), .int (nI (I 3)), .ref (b + 3), .ref (b + 4), .int (nI (I 6)), .int (nI (I 7)), .ref (b + 5), .ref (b + 6), .int (nI (I 10)), .int (nI (I 11)), .int (nI (I 12)), .int (nI (I 13)), .ref (b + 7), .ref (b + 8), .int (nI (I 16)), .int (nI (I 17)), .int (nI (I 18)), .int (nI (I 19))])) := hS.1
        have b1 : w208 (b + 1) = some (.inl (cL, 1536, .inr (.inl (fun i => lN (mC X14 i))))) := hS.2.1
        have b2 : w208 (b + 2) = some (.inl (cI, 24, .inl (S15))) := hS.2.2.1
        refine W.eq (g2 := F0 m 140 ls []) rfl ?_
        rw [show (-1) = sg32 (a9 + c9) from (sg32_n (by omega)).symm] at hsx
        refine lv_aload_n (pc := 140) hx hb dMo_sum_140 rfl (lv_at hl 1 rfl) ?_
        refine lv_iload_n (pc := 141) hx hb dMo_sum_141 rfl (lv_at hl 2 rfl) ?_
        refine fw_cVR (pc := 142) (As := [.int (nI x9)]) (rest := []) ⟨hx, hb, hml, hown, hW⟩ (c_Mo_isGreat hS hXb (by omega)) (cwV 1 hW (kw_V lm_Mo_152 im_Mo_isGreat se_Mo_isGreat ini_Mo cd_Mo_isGreat) rfl rfl rfl (by decide +kernel) ⟨Nat.le_of_ble_eq_true rfl, Nat.le_of_ble_eq_true rfl⟩) hK hw b0 rfl rfl hl.1 rfl (Nat.le_of_ble_eq_true rfl) dMo_sum_142 ⟨Nat.le_of_ble_eq_true rfl, Nat.le_of_ble_eq_true rfl⟩ (fun v hq => ?_)
        have hxr : X14 x9 = Int.natAbs (a9 + c9) := hxx
        rw [hxr] at hq
        by_cases hg9 : Int.natAbs (a9 + c9) < 2 ^ 768
        · subst hq
          rw [if_pos hg9]
          refine W.eq (g2 := F0 m 145 ls [.int (nI 0)]) rfl ?_
          refine lv_if_eq (pc := 145) (tgt := 153) hx hb dMo_sum_145 (by decide) (fun _ => ?_) (fun hc => absurd (show nI 0 = 0 by decide) hc)
          refine lv_iconst (pc := 153) (v := (nI 0)) hx hb dMo_sum_153 (by decide) ?_
          have hsp : sFit (a9 + c9) a9 = (0, (a9 + c9)) := (rfl : sFit (a9 + c9) a9 = sFit (a9 + c9) a9).trans (if_pos hg9)
          exact fw_iret (pc := 154) hx hb hr hlocks hw dMo_sum_154 ⟨by rw [hsp], ⟨_, _, hS, hXb, fun _ => by rw [hsp]; exact ⟨hxr, hsx⟩, hfr⟩, hoF⟩
        · subst hq
          rw [if_neg hg9]
          refine W.eq (g2 := F0 m 145 ls [.int (nI 1)]) rfl ?_
          refine lv_if_eq (pc := 145) (tgt := 153) hx hb dMo_sum_145 (by decide) (fun hc => absurd hc (show ¬ nI 1 = 0 by decide)) (fun _ => ?_)
          refine lv_bipush (pc := 148) (v := (nI 6)) hx hb dMo_sum_148 (by decide) ?_
          refine lv_goto (pc := 150) (tgt := 154) hx hb dMo_sum_150 (by decide) ?_
          have hsp : (sFit (a9 + c9) a9).1 = 6 := by rw [(rfl : sFit (a9 + c9) a9 = sFit (a9 + c9) a9), sFit_1, if_neg hg9]
          exact fw_iret (pc := 154) hx hb hr hlocks hw dMo_sum_154 ⟨by rw [hsp], ⟨_, _, hS, hXb, fun h9 => absurd h9 (by rw [hsp]; decide), hfr⟩, hoF⟩
      · have hl9 : Int.natAbs c9 ≤ Int.natAbs a9 := (ordI_ge0 _ _).mp (Int32.not_lt.mp hlt)
        refine lv_aload_n (pc := 91) hx hb dMo_sum_91 rfl (lv_at hl 1 rfl) ?_
        refine lv_iload_n (pc := 92) hx hb dMo_sum_92 rfl (lv_at hl 2 rfl) ?_
        refine lv_bipush (pc := 93) (v := (nI 18)) hx hb dMo_sum_93 (by decide) ?_
        refine lv_lconst (pc := 95) (v := lN 1) hx hb dMo_sum_95 (by decide) ?_
        refine lv_iconst (pc := 96) (v := (nI 0)) hx hb dMo_sum_96 (by decide) ?_
        refine fw_cV (pc := 97) (As := [.int (nI x9), .int (nI 18), .long (lN 1), .int (nI 0)]) (rest := []) ⟨hx, hb, hml, hown, hW⟩ (c_Mo_takeFrom (pa := x9) (pb := 18) (t9 := 1) (h9 := 0) hS hXb (by omega) (by omega) (by omega) (by decide) (by decide) (by rw [hxx, hxA, Nat.pow_zero]; omega)) (cwV 4 hW (kw_V lm_Mo_135 im_Mo_takeFrom se_Mo_takeFrom ini_Mo cd_Mo_takeFrom) rfl rfl rfl (by decide +kernel) ⟨Nat.le_of_ble_eq_true rfl, Nat.le_of_ble_eq_true rfl⟩) hK hw b0 rfl rfl hl.1 rfl (Nat.le_of_ble_eq_true rfl) dMo_sum_97 ⟨Nat.le_of_ble_eq_true rfl, Nat.le_of_ble_eq_true rfl⟩ (fun v w207 H locs hq hw => ?_)
        obtain ⟨rfl, hS, hn9⟩ := hq
        have hoF : ∀ q, q < b ∨ b + 9 ≤ q → w207 q = w q := fun q h9 => (hn9 q h9).trans (hoF q h9)
        have hB9 : Int.natAbs (a9 + c9) < nM ^ 64 := Nat.lt_trans (show Int.natAbs (a9 + c9) < 2 ^ 768 by omega) p64
        obtain ⟨X16, eX16⟩ : ∃ X_, X_ = va_up X1 (x9) (X1 (x9) - 1 * X1 18 * nM ^ 0) := ⟨_, rfl⟩
        rw [← eX16] at hS
        have hv9 : X1 (x9) - 1 * X1 18 * nM ^ 0 = Int.natAbs (a9 + c9) := (by rw [hxx, hxA, Nat.pow_zero]; omega)
        have hxy : X16 (x9 + 1) = Int.natAbs c9 := by rw [eX16, up_o (by omega)]; exact hxy
        have hxO : X16 (23) = 1 := by rw [eX16, up_o (by omega)]; exact hxO
        have hxA : X16 (18) = Int.natAbs c9 := by rw [eX16, up_o (by omega)]; exact hxA
        have hxx : X16 (x9) = Int.natAbs (a9 + c9) := by rw [eX16]; exact up_s.trans hv9
        have hXb : ∀ p, X16 p < nM ^ 64 := fun p => by (rw [eX16]; unfold va_up; split; (rw [hv9]; exact hB9); exact hXb p)
        have hfr : ∀ p, p ≠ x9 → p < 18 ∨ 22 < p → X16 p = X p ∧ S3 p = S p := fun p h1 h2 => by rw [eX16, up_o (by omega)]; exact hfr p h1 h2
        have b0 : w207 b = some (.inr (10, [.int (nI (I 0)), .ref (b + 1), .ref (b + 2), .int (nI (I 3)), .ref (b + 3), .ref (b + 4), .int (nI (I 6)), .int (nI (I 7)), .ref (b + 5), .ref (b + 6), .int (nI (I 10)), .int (nI (I 11)), .int (nI (I 12)), .int (nI (I 13)), .ref (b + 7), .ref (b + 8), .int (nI (I 16)), .int (nI (I 17)), .int (nI (I 18)), .int (nI (I 19))])) := hS.1
        have b1 : w207 (b + 1) = some (.inl (cL, 1536, .inr (.inl (fun i => lN (mC X16 i))))) := hS.2.1
        have b2 : w207 (b + 2) = some (.inl (cI, 24, .inl (S3))) := hS.2.2.1
        refine W.eq (g2 := F0 m 100 ls []) rfl ?_
        refine lv_aload_n (pc := 100) hx hb dMo_sum_100 rfl (lv_at hl 1 rfl) ?_
        refine fw_get (pc := 101) (ci := 10) (v := .ref (b + 2)) (C := RMo) (T := TMo) (N := 20) hx hb hW in_Mo hown hK.1 hw b0 rfl 2 (by decide) (hW _ lf_Mo_13) (fun _ h => h) rfl dMo_sum_101 ?_
        refine lv_iload_n (pc := 104) hx hb dMo_sum_104 rfl (lv_at hl 2 rfl) ?_
        refine lv_iload (pc := 105) hx hb dMo_sum_105 (lv_at hl 0 rfl) ?_
        rcases Nat.eq_or_lt_of_le hl9 with he9 | he9
        · rw [show (ordI (Int.natAbs a9) (Int.natAbs c9) : Int32) = nI 0 from (ordI_eq he9.symm)]
          refine lv_if_ne (pc := 107) (tgt := 114) hx hb dMo_sum_107 (by decide) (fun hc => absurd hc (fun h => h (by decide))) (fun _ => ?_)
          refine lv_iconst (pc := 110) (v := (nI 0)) hx hb dMo_sum_110 (by decide) ?_
          refine lv_goto (pc := 111) (tgt := 120) hx hb dMo_sum_111 (by decide) ?_
          refine fw_iastN (pc := 120) (f2 := va_up S3 (x9) (nI 0)) hx hb hK.1 hw 0 b2 rfl (x9) (by omega) (by decide) (rfl) dMo_sum_120 (fun H locs hw => ?_)
          obtain ⟨w208, e208⟩ : ∃ w_, w_ = fw_up w207 (b + 2) (.inl (cI, 24, .inl (va_up S3 (x9) (nI 0)))) := ⟨_, rfl⟩
          have hw : fw_H D kCl (fw_A w (sz)) s.heap w208 (sz) H locs := by rw [e208]; exact hw
          have b0_ : w208 (b) = some (.inr (10, [.int (nI (I 0)), .ref (b + 1), .ref (b + 2), .int (nI (I 3)), .ref (b + 3), .ref (b + 4), .int (nI (I 6)), .int (nI (I 7)), .ref (b + 5), .ref (b + 6), .int (nI (I 10)), .int (nI (I 11)), .int (nI (I 12)), .int (nI (I 13)), .ref (b + 7), .ref (b + 8), .int (nI (I 16)), .int (nI (I 17)), .int (nI (I 18)), .int (nI (I 19))])) := by rw [e208, fw_un (by omega)]; exact b0
          have b1_ : w208 (b + 1) = some (.inl (cL, 1536, .inr (.inl (fun i => lN (mC X16 i))))) := by rw [e208, fw_un (by omega)]; exact b1
          have b2_ : w208 (b + 2) = some (.inl (cI, 24, .inl (va_up S3 (x9) (nI 0)))) := by rw [e208]; exact fw_us _ _ _
          have b0 := b0_
          have b1 := b1_
          have b2 := b2_
          have hS : moS cI cL w208 b I K (va_up S3 (x9) (nI 0)) (mC X16) := moS.cs hS b1 b2 (fun q h1 h2 => by rw [e208, fw_un h2])
          have hoF : ∀ q, q < b ∨ b + 9 ≤ q → w208 q = w q := fun q h9 => by rw [e208, fw_un (by omega)]; exact hoF q h9
          obtain ⟨S17, eS17⟩ : ∃ S_, S_ = va_up S3 (x9) (nI 0) := ⟨_, rfl⟩
          rw [← eS17] at hS
          have hv9 : (nI 0 : Int32) = nI 0 := rfl
          have hsy : S17 (x9 + 1) = sg32 b9 := by rw [eS17, up_o (by omega)]; exact hsy
          have hsO : S17 (23) = nI 1 := by rw [eS17, up_o (by omega)]; exact hsO
          have hsA : S17 (18) = (-1) := by rw [eS17, up_o (by omega)]; exact hsA
          have hsx : S17 (x9) = nI 0 := by rw [eS17]; exact up_s.trans hv9
          have hfr : ∀ p, p ≠ x9 → p < 18 ∨ 22 < p → X16 p = X p ∧ S17 p = S p := fun p h1 h2 => by rw [eS17, up_o (by omega)]; exact hfr p h1 h2
          have b0 : w208 b = some (.inr (10, [.int (nI (I 0)), .ref (b + 1), .ref (b + 2), .int (nI (I 3)), .ref (b + 3), .ref (b + 4), .int (nI (I 6)), .int (nI (I 7)), .ref (b + 5), .ref (b + 6), .int (nI (I 10)), .int (nI (I 11)), .int (nI (I 12)), .int (nI (I 13)), .ref (b + 7), .ref (b + 8), .int (nI (I 16)), .int (nI (I 17)), .int (nI (I 18)), .int (nI (I 19))])) := hS.1
          have b1 : w208 (b + 1) = some (.inl (cL, 1536, .inr (.inl (fun i => lN (mC X16 i))))) := hS.2.1
          have b2 : w208 (b + 2) = some (.inl (cI, 24, .inl (S17))) := hS.2.2.1
          refine lv_goto (pc := 121) (tgt := 140) hx hb dMo_sum_121 (by decide) ?_
          rw [show nI 0 = sg32 (a9 + c9) from (sg32_z (by omega)).symm] at hsx
          refine lv_aload_n (pc := 140) hx hb dMo_sum_140 rfl (lv_at hl 1 rfl) ?_
          refine lv_iload_n (pc := 141) hx hb dMo_sum_141 rfl (lv_at hl 2 rfl) ?_
          refine fw_cVR (pc := 142) (As := [.int (nI x9)]) (rest := []) ⟨hx, hb, hml, hown, hW⟩ (c_Mo_isGreat hS hXb (by omega)) (cwV 1 hW (kw_V lm_Mo_152 im_Mo_isGreat se_Mo_isGreat ini_Mo cd_Mo_isGreat) rfl rfl rfl (by decide +kernel) ⟨Nat.le_of_ble_eq_true rfl, Nat.le_of_ble_eq_true rfl⟩) hK hw b0 rfl rfl hl.1 rfl (Nat.le_of_ble_eq_true rfl) dMo_sum_142 ⟨Nat.le_of_ble_eq_true rfl, Nat.le_of_ble_eq_true rfl⟩ (fun v hq => ?_)
          have hxr : X16 x9 = Int.natAbs (a9 + c9) := hxx
          rw [hxr] at hq
          by_cases hg9 : Int.natAbs (a9 + c9) < 2 ^ 768
          · subst hq
            rw [if_pos hg9]
            refine W.eq (g2 := F0 m 145 ls [.int (nI 0)]) rfl ?_
            refine lv_if_eq (pc := 145) (tgt := 153) hx hb dMo_sum_145 (by decide) (fun _ => ?_) (fun hc => absurd (show nI 0 = 0 by decide) hc)
            refine lv_iconst (pc := 153) (v := (nI 0)) hx hb dMo_sum_153 (by decide) ?_
            have hsp : sFit (a9 + c9) a9 = (0, (a9 + c9)) := (rfl : sFit (a9 + c9) a9 = sFit (a9 + c9) a9).trans (if_pos hg9)
            exact fw_iret (pc := 154) hx hb hr hlocks hw dMo_sum_154 ⟨by rw [hsp], ⟨_, _, hS, hXb, fun _ => by rw [hsp]; exact ⟨hxr, hsx⟩, hfr⟩, hoF⟩
          · subst hq
            rw [if_neg hg9]
            refine W.eq (g2 := F0 m 145 ls [.int (nI 1)]) rfl ?_
            refine lv_if_eq (pc := 145) (tgt := 153) hx hb dMo_sum_145 (by decide) (fun hc => absurd hc (show ¬ nI 1 = 0 by decide)) (fun _ => ?_)
            refine lv_bipush (pc := 148) (v := (nI 6)) hx hb dMo_sum_148 (by decide) ?_
            refine lv_goto (pc := 150) (tgt := 154) hx hb dMo_sum_150 (by decide) ?_
            have hsp : (sFit (a9 + c9) a9).1 = 6 := by rw [(rfl : sFit (a9 + c9) a9 = sFit (a9 + c9) a9), sFit_1, if_neg hg9]
            exact fw_iret (pc := 154) hx hb hr hlocks hw dMo_sum_154 ⟨by rw [hsp], ⟨_, _, hS, hXb, fun h9 => absurd h9 (by rw [hsp]; decide), hfr⟩, hoF⟩
        · rw [show (ordI (Int.natAbs a9) (Int.natAbs c9) : Int32) = nI 1 from (ordI_gt he9)]
          refine lv_if_ne (pc := 107) (tgt := 114) hx hb dMo_sum_107 (by decide) (fun _ => ?_) (fun hc => absurd hc (by decide))
          refine lv_aload_n (pc := 114) hx hb dMo_sum_114 rfl (lv_at hl 1 rfl) ?_
          refine fw_get (pc := 115) (ci := 10) (v := .ref (b + 2)) (C := RMo) (T := TMo) (N := 20) hx hb hW in_Mo hown hK.1 hw b0 rfl 2 (by decide) (hW _ lf_Mo_13) (fun _ h => h) rfl dMo_sum_115 ?_
          refine lv_iload_n (pc := 118) hx hb dMo_sum_118 rfl (lv_at hl 2 rfl) ?_
          refine fw_ialdN (pc := 119) (x := S3 (x9)) hx hb hK.1 hw 0 b2 rfl (x9) (by omega) (by decide) rfl dMo_sum_119 ?_
          rw [show (S3 (x9) : Int32) = nI 1 from hsx]
          refine fw_iastN (pc := 120) (f2 := va_up S3 (x9) (nI 1)) hx hb hK.1 hw 0 b2 rfl (x9) (by omega) (by decide) (rfl) dMo_sum_120 (fun H locs hw => ?_)
          obtain ⟨w208, e208⟩ : ∃ w_, w_ = fw_up w207 (b + 2) (.inl (cI, 24, .inl (va_up S3 (x9) (nI 1)))) := ⟨_, rfl⟩
          have hw : fw_H D kCl (fw_A w (sz)) s.heap w208 (sz) H locs := by rw [e208]; exact hw
          have b0_ : w208 (b) = some (.inr (10, [.int (nI (I 0)), .ref (b + 1), .ref (b + 2), .int (nI (I 3)), .ref (b + 3), .ref (b + 4), .int (nI (I 6)), .int (nI (I 7)), .ref (b + 5), .ref (b + 6), .int (nI (I 10)), .int (nI (I 11)), .int (nI (I 12)), .int (nI (I 13)), .ref (b + 7), .ref (b + 8), .int (nI (I 16)), .int (nI (I 17)), .int (nI (I 18)), .int (nI (I 19))])) := by rw [e208, fw_un (by omega)]; exact b0
          have b1_ : w208 (b + 1) = some (.inl (cL, 1536, .inr (.inl (fun i => lN (mC X16 i))))) := by rw [e208, fw_un (by omega)]; exact b1
          have b2_ : w208 (b + 2) = some (.inl (cI, 24, .inl (va_up S3 (x9) (nI 1)))) := by rw [e208]; exact fw_us _ _ _
          have b0 := b0_
          have b1 := b1_
          have b2 := b2_
          have hS : moS cI cL w208 b I K (va_up S3 (x9) (nI 1)) (mC X16) := moS.cs hS b1 b2 (fun q h1 h2 => by rw [e208, fw_un h2])
          have hoF : ∀ q, q < b ∨ b + 9 ≤ q → w208 q = w q := fun q h9 => by rw [e208, fw_un (by omega)]; exact hoF q h9
          obtain ⟨S18, eS18⟩ : ∃ S_, S_ = va_up S3 (x9) (nI 1) := ⟨_, rfl⟩
          rw [← eS18] at hS
          have hv9 : (nI 1 : Int32) = nI 1 := rfl
          have hsy : S18 (x9 + 1) = sg32 b9 := by rw [eS18, up_o (by omega)]; exact hsy
          have hsO : S18 (23) = nI 1 := by rw [eS18, up_o (by omega)]; exact hsO
          have hsA : S18 (18) = (-1) := by rw [eS18, up_o (by omega)]; exact hsA
          have hsx : S18 (x9) = nI 1 := by rw [eS18]; exact up_s.trans hv9
          have hfr : ∀ p, p ≠ x9 → p < 18 ∨ 22 < p → X16 p = X p ∧ S18 p = S p := fun p h1 h2 => by rw [eS18, up_o (by omega)]; exact hfr p h1 h2
          have b0 : w208 b = some (.inr (10, [.int (nI (I 0)), .ref (b + 1), .ref (b + 2), .int (nI (I 3)), .ref (b + 3), .ref (b + 4), .int (nI (I 6)), .int (nI (I 7)), .ref (b + 5), .ref (b + 6), .int (nI (I 10)), .int (nI (I 11)), .int (nI (I 12)), .int (nI (I 13)), .ref (b + 7), .ref (b + 8), .int (nI (I 16)), .int (nI (I 17)), .int (nI (I 18)), .int (nI (I 19))])) := hS.1
          have b1 : w208 (b + 1) = some (.inl (cL, 1536, .inr (.inl (fun i => lN (mC X16 i))))) := hS.2.1
          have b2 : w208 (b + 2) = some (.inl (cI, 24, .inl (S18))) := hS.2.2.1
          refine lv_goto (pc := 121) (tgt := 140) hx hb dMo_sum_121 (by decide) ?_
          rw [show nI 1 = sg32 (a9 + c9) from (sg32_p (by omega)).symm] at hsx
          refine lv_aload_n (pc := 140) hx hb dMo_sum_140 rfl (lv_at hl 1 rfl) ?_
          refine lv_iload_n (pc := 141) hx hb dMo_sum_141 rfl (lv_at hl 2 rfl) ?_
          refine fw_cVR (pc := 142) (As := [.int (nI x9)]) (rest := []) ⟨hx, hb, hml, hown, hW⟩ (c_Mo_isGreat hS hXb (by omega)) (cwV 1 hW (kw_V lm_Mo_152 im_Mo_isGreat se_Mo_isGreat ini_Mo cd_Mo_isGreat) rfl rfl rfl (by decide +kernel) ⟨Nat.le_of_ble_eq_true rfl, Nat.le_of_ble_eq_true rfl⟩) hK hw b0 rfl rfl hl.1 rfl (Nat.le_of_ble_eq_true rfl) dMo_sum_142 ⟨Nat.le_of_ble_eq_true rfl, Nat.le_of_ble_eq_true rfl⟩ (fun v hq => ?_)
          have hxr : X16 x9 = Int.natAbs (a9 + c9) := hxx
          rw [hxr] at hq
          by_cases hg9 : Int.natAbs (a9 + c9) < 2 ^ 768
          · subst hq
            rw [if_pos hg9]
            refine W.eq (g2 := F0 m 145 ls [.int (nI 0)]) rfl ?_
            refine lv_if_eq (pc := 145) (tgt := 153) hx hb dMo_sum_145 (by decide) (fun _ => ?_) (fun hc => absurd (show nI 0 = 0 by decide) hc)
            refine lv_iconst (pc := 153) (v := (nI 0)) hx hb dMo_sum_153 (by decide) ?_
            have hsp : sFit (a9 + c9) a9 = (0, (a9 + c9)) := (rfl : sFit (a9 + c9) a9 = sFit (a9 + c9) a9).trans (if_pos hg9)
            exact fw_iret (pc := 154) hx hb hr hlocks hw dMo_sum_154 ⟨by rw [hsp], ⟨_, _, hS, hXb, fun _ => by rw [hsp]; exact ⟨hxr, hsx⟩, hfr⟩, hoF⟩
          · subst hq
            rw [if_neg hg9]
            refine W.eq (g2 := F0 m 145 ls [.int (nI 1)]) rfl ?_
            refine lv_if_eq (pc := 145) (tgt := 153) hx hb dMo_sum_145 (by decide) (fun hc => absurd hc (show ¬ nI 1 = 0 by decide)) (fun _ => ?_)
            refine lv_bipush (pc := 148) (v := (nI 6)) hx hb dMo_sum_148 (by decide) ?_
            refine lv_goto (pc := 150) (tgt := 154) hx hb dMo_sum_150 (by decide) ?_
            have hsp : (sFit (a9 + c9) a9).1 = 6 := by rw [(rfl : sFit (a9 + c9) a9 = sFit (a9 + c9) a9), sFit_1, if_neg hg9]
            exact fw_iret (pc := 154) hx hb hr hlocks hw dMo_sum_154 ⟨by rw [hsp], ⟨_, _, hS, hXb, fun h9 => absurd h9 (by rw [hsp]; decide), hfr⟩, hoF⟩
    · rw [sg32_z hc90]
      rw [sg32_z hc90] at hsA
      refine lv_icmp_ne (pc := 54) (tgt := 67) hx hb dMo_sum_54 (by decide) (fun _ => ?_) (fun hc => absurd hc (by decide))
      refine lv_aload_n (pc := 67) hx hb dMo_sum_67 rfl (lv_at hl 0 rfl) ?_
      refine fw_get (pc := 68) (ci := 10) (v := .ref (b + 2)) (C := RMo) (T := TMo) (N := 20) hx hb hW in_Mo hown hK.1 hw b0 rfl 2 (by decide) (hW _ lf_Mo_13) (fun _ h => h) rfl dMo_sum_68 ?_
      refine lv_bipush (pc := 71) (v := (nI 18)) hx hb dMo_sum_71 (by decide) ?_
      refine fw_ialdN (pc := 73) (x := S3 (18)) hx hb hK.1 hw 0 b2 rfl (18) (by omega) (by decide) rfl dMo_sum_73 ?_
      rw [show (S3 (18) : Int32) = nI 0 from hsA]
      refine lv_if_eq (pc := 74) (tgt := 140) hx hb dMo_sum_74 (by decide) (fun _ => ?_) (fun hc => absurd (show nI 0 = 0 by decide) hc)
      have hr9 : a9 + c9 = a9 := by omega
      rw [show nI 1 = sg32 (a9 + c9) from (sg32_p (by omega)).symm] at hsx
      refine lv_aload_n (pc := 140) hx hb dMo_sum_140 rfl (lv_at hl 0 rfl) ?_
      refine lv_iload_n (pc := 141) hx hb dMo_sum_141 rfl (lv_at hl 1 rfl) ?_
      refine fw_cVR (pc := 142) (As := [.int (nI x9)]) (rest := []) ⟨hx, hb, hml, hown, hW⟩ (c_Mo_isGreat hS hXb (by omega)) (cwV 1 hW (kw_V lm_Mo_152 im_Mo_isGreat se_Mo_isGreat ini_Mo cd_Mo_isGreat) rfl rfl rfl (by decide +kernel) ⟨Nat.le_of_ble_eq_true rfl, Nat.le_of_ble_eq_true rfl⟩) hK hw b0 rfl rfl hl.1 rfl (Nat.le_of_ble_eq_true rfl) dMo_sum_142 ⟨Nat.le_of_ble_eq_true rfl, Nat.le_of_ble_eq_true rfl⟩ (fun v hq => ?_)
      have hxr : X1 x9 = Int.natAbs (a9 + c9) := (by rw [hr9]; exact hxx)
      rw [hxr] at hq
      by_cases hg9 : Int.natAbs (a9 + c9) < 2 ^ 768
      · subst hq
        rw [if_pos hg9]
        refine W.eq (g2 := F0 m 145 ls [.int (nI 0)]) rfl ?_
        refine lv_if_eq (pc := 145) (tgt := 153) hx hb dMo_sum_145 (by decide) (fun _ => ?_) (fun hc => absurd (show nI 0 = 0 by decide) hc)
        refine lv_iconst (pc := 153) (v := (nI 0)) hx hb dMo_sum_153 (by decide) ?_
        have hsp : sFit (a9 + c9) a9 = (0, (a9 + c9)) := (rfl : sFit (a9 + c9) a9 = sFit (a9 + c9) a9).trans (if_pos hg9)
        exact fw_iret (pc := 154) hx hb hr hlocks hw dMo_sum_154 ⟨by rw [hsp], ⟨_, _, hS, hXb, fun _ => by rw [hsp]; exact ⟨hxr, hsx⟩, hfr⟩, hoF⟩
      · subst hq
        rw [if_neg hg9]
        refine W.eq (g2 := F0 m 145 ls [.int (nI 1)]) rfl ?_
        refine lv_if_eq (pc := 145) (tgt := 153) hx hb dMo_sum_145 (by decide) (fun hc => absurd hc (show ¬ nI 1 = 0 by decide)) (fun _ => ?_)
        refine lv_bipush (pc := 148) (v := (nI 6)) hx hb dMo_sum_148 (by decide) ?_
        refine lv_goto (pc := 150) (tgt := 154) hx hb dMo_sum_150 (by decide) ?_
        have hsp : (sFit (a9 + c9) a9).1 = 6 := by rw [(rfl : sFit (a9 + c9) a9 = sFit (a9 + c9) a9), sFit_1, if_neg hg9]
        exact fw_iret (pc := 154) hx hb hr hlocks hw dMo_sum_154 ⟨by rw [hsp], ⟨_, _, hS, hXb, fun h9 => absurd h9 (by rw [hsp]; decide), hfr⟩, hoF⟩
    · rw [sg32_p hc90]
      rw [sg32_p hc90] at hsA
      refine lv_icmp_ne (pc := 54) (tgt := 67) hx hb dMo_sum_54 (by decide) (fun hc => absurd hc (fun h => h rfl)) (fun _ => ?_)
      refine lv_aload_n (pc := 57) hx hb dMo_sum_57 rfl (lv_at hl 0 rfl) ?_
      refine lv_iload_n (pc := 58) hx hb dMo_sum_58 rfl (lv_at hl 1 rfl) ?_
      refine lv_bipush (pc := 59) (v := (nI 18)) hx hb dMo_sum_59 (by decide) ?_
      refine fw_cV (pc := 61) (As := [.int (nI x9), .int (nI 18)]) (rest := []) ⟨hx, hb, hml, hown, hW⟩ (c_Mo_addTo (pa := x9) (pb := 18) hS hXb (by omega) (by omega) (by omega)) (cwV 2 hW (kw_V lm_Mo_146 im_Mo_addTo se_Mo_addTo ini_Mo cd_Mo_addTo) rfl rfl rfl (by decide +kernel) ⟨Nat.le_of_ble_eq_true rfl, Nat.le_of_ble_eq_true rfl⟩) hK hw b0 rfl rfl hl.1 rfl (Nat.le_of_ble_eq_true rfl) dMo_sum_61 ⟨Nat.le_of_ble_eq_true rfl, Nat.le_of_ble_eq_true rfl⟩ (fun v w209 H locs hq hw => ?_)
      obtain ⟨rfl, hS, hn9⟩ := hq
      have hoF : ∀ q, q < b ∨ b + 9 ≤ q → w209 q = w q := fun q h9 => (hn9 q h9).trans (hoF q h9)
      have hB9 : Int.natAbs (a9 + c9) < nM ^ 64 := Nat.lt_trans (show Int.natAbs (a9 + c9) < 2 ^ 769 by omega) (by decide +kernel)
      obtain ⟨X19, eX19⟩ : ∃ X_, X_ = va_up X1 (x9) ((X1 (x9) + X1 (18)) % nM ^ 64) := ⟨_, rfl⟩
      rw [← eX19] at hS
      have hv9 : (X1 (x9) + X1 (18)) % nM ^ 64 = Int.natAbs (a9 + c9) := (by rw [hxx, hxA, show Int.natAbs a9 + Int.natAbs c9 = Int.natAbs (a9 + c9) by omega, Nat.mod_eq_of_lt hB9])
      have hxy : X19 (x9 + 1) = Int.natAbs c9 := by rw [eX19, up_o (by omega)]; exact hxy
      have hxO : X19 (23) = 1 := by rw [eX19, up_o (by omega)]; exact hxO
      have hxA : X19 (18) = Int.natAbs c9 := by rw [eX19, up_o (by omega)]; exact hxA
      have hxx : X19 (x9) = Int.natAbs (a9 + c9) := by rw [eX19]; exact up_s.trans hv9
      have hXb : ∀ p, X19 p < nM ^ 64 := fun p => by (rw [eX19]; unfold va_up; split; (rw [hv9]; exact hB9); exact hXb p)
      have hfr : ∀ p, p ≠ x9 → p < 18 ∨ 22 < p → X19 p = X p ∧ S3 p = S p := fun p h1 h2 => by rw [eX19, up_o (by omega)]; exact hfr p h1 h2
      have b0 : w209 b = some (.inr (10, [.int (nI (I 0)), .ref (b + 1), .ref (b + 2), .int (nI (I 3)), .ref (b + 3), .ref (b + 4), .int (nI (I 6)), .int (nI (I 7)), .ref (b + 5), .ref (b + 6), .int (nI (I 10)), .int (nI (I 11)), .int (nI (I 12)), .int (nI (I 13)), .ref (b + 7), .ref (b + 8), .int (nI (I 16)), .int (nI (I 17)), .int (nI (I 18)), .int (nI (I 19))])) := hS.1
      have b1 : w209 (b + 1) = some (.inl (cL, 1536, .inr (.inl (fun i => lN (mC X19 i))))) := hS.2.1
      have b2 : w209 (b + 2) = some (.inl (cI, 24, .inl (S3))) := hS.2.2.1
      refine W.eq (g2 := F0 m 64 ls []) rfl ?_
      refine lv_goto (pc := 64) (tgt := 140) hx hb dMo_sum_64 (by decide) ?_
      rw [show nI 1 = sg32 (a9 + c9) from (sg32_p (by omega)).symm] at hsx
      refine lv_aload_n (pc := 140) hx hb dMo_sum_140 rfl (lv_at hl 0 rfl) ?_
      refine lv_iload_n (pc := 141) hx hb dMo_sum_141 rfl (lv_at hl 1 rfl) ?_
      refine fw_cVR (pc := 142) (As := [.int (nI x9)]) (rest := []) ⟨hx, hb, hml, hown, hW⟩ (c_Mo_isGreat hS hXb (by omega)) (cwV 1 hW (kw_V lm_Mo_152 im_Mo_isGreat se_Mo_isGreat ini_Mo cd_Mo_isGreat) rfl rfl rfl (by decide +kernel) ⟨Nat.le_of_ble_eq_true rfl, Nat.le_of_ble_eq_true rfl⟩) hK hw b0 rfl rfl hl.1 rfl (Nat.le_of_ble_eq_true rfl) dMo_sum_142 ⟨Nat.le_of_ble_eq_true rfl, Nat.le_of_ble_eq_true rfl⟩ (fun v hq => ?_)
      have hxr : X19 x9 = Int.natAbs (a9 + c9) := hxx
      rw [hxr] at hq
      by_cases hg9 : Int.natAbs (a9 + c9) < 2 ^ 768
      · subst hq
        rw [if_pos hg9]
        refine W.eq (g2 := F0 m 145 ls [.int (nI 0)]) rfl ?_
        refine lv_if_eq (pc := 145) (tgt := 153) hx hb dMo_sum_145 (by decide) (fun _ => ?_) (fun hc => absurd (show nI 0 = 0 by decide) hc)
        refine lv_iconst (pc := 153) (v := (nI 0)) hx hb dMo_sum_153 (by decide) ?_
        have hsp : sFit (a9 + c9) a9 = (0, (a9 + c9)) := (rfl : sFit (a9 + c9) a9 = sFit (a9 + c9) a9).trans (if_pos hg9)
        exact fw_iret (pc := 154) hx hb hr hlocks hw dMo_sum_154 ⟨by rw [hsp], ⟨_, _, hS, hXb, fun _ => by rw [hsp]; exact ⟨hxr, hsx⟩, hfr⟩, hoF⟩
      · subst hq
        rw [if_neg hg9]
        refine W.eq (g2 := F0 m 145 ls [.int (nI 1)]) rfl ?_
        refine lv_if_eq (pc := 145) (tgt := 153) hx hb dMo_sum_145 (by decide) (fun hc => absurd hc (show ¬ nI 1 = 0 by decide)) (fun _ => ?_)
        refine lv_bipush (pc := 148) (v := (nI 6)) hx hb dMo_sum_148 (by decide) ?_
        refine lv_goto (pc := 150) (tgt := 154) hx hb dMo_sum_150 (by decide) ?_
        have hsp : (sFit (a9 + c9) a9).1 = 6 := by rw [(rfl : sFit (a9 + c9) a9 = sFit (a9 + c9) a9), sFit_1, if_neg hg9]
        exact fw_iret (pc := 154) hx hb hr hlocks hw dMo_sum_154 ⟨by rw [hsp], ⟨_, _, hS, hXb, fun h9 => absurd h9 (by rw [hsp]; decide), hfr⟩, hoF⟩

set_option maxHeartbeats 4000000 in
set_option maxRecDepth 100000 in
theorem c_Mo_sumM {b : Nat} {I : Nat → Nat} {K : Nat → Nat → Nat} {S : Nat → Int32} {X : Nat → Nat} (hS : moS cI cL w b I K S (mC X)) (hX : ∀ p, X p < nM ^ 64) {x9 : Nat} {a9 b9 : Int} (hx9 : x9 + 2 ≤ 10) (h1x : X 23 = 1) (h1s : S 23 = nI 1) (rx : X (x9) = Int.natAbs a9 ∧ S (x9) = sg32 a9) (a97 : Int.natAbs a9 < 2 ^ 768) (ry : X (x9 + 1) = Int.natAbs b9 ∧ S (x9 + 1) = sg32 b9) (b97 : Int.natAbs b9 < 2 ^ 768) : fw_C l yMo_sum (Cond.code yMo_sum cMo_sum 5 (some FieldType.int) :: kWs) ({ frames := 2, cells := 0, slots := 0, locals := 43 } : Room) D kCl (kty cI cL cQ) z [.ref b, .int (nI x9), .int (nI (x9 + 1)), .int (-1)] (sz) w 0 0 (fun v w' => v = some (.int (nI (sFit (a9 + (-b9)) a9).1)) ∧ (∃ S2 X2, moS cI cL w' b I K S2 (mC X2) ∧ (∀ p, X2 p < nM ^ 64) ∧ ((sFit (a9 + (-b9)) a9).1 = 0 → X2 x9 = Int.natAbs (sFit (a9 + (-b9)) a9).2 ∧ S2 x9 = sg32 (sFit (a9 + (-b9)) a9).2) ∧ ∀ p, p ≠ x9 → p < 18 ∨ 22 < p → X2 p = X p ∧ S2 p = S p) ∧ ∀ q, q < b ∨ b + 9 ≤ q → w' q = w q) := by
  refine fw_ofW (cc := cMo_sum) (maxL := 5) (ret := (some FieldType.int)) (by decide) rfl (Nat.le_of_ble_eq_true rfl) ?_
  intro p e s m args below meth c hx hb hr hts hown hlocks hname hml hK H ls hw hl
  have hW : ∀ w ∈ kWs, w.before args s = true := fun w h => hts w (List.mem_cons_of_mem _ h)
  have hown : s.vm.findClass RMo = some m.cls := hown
  have hl : lv_has ls 5 [(0, .ref b), (1, .int (nI x9)), (2, .int (nI (x9 + 1))), (3, .int (-1))] := hl
  have b0 : w b = some (.inr (10, [.int (nI (I 0)), .ref (b + 1), .ref (b + 2), .int (nI (I 3)), .ref (b + 3), .ref (b + 4), .int (nI (I 6)), .int (nI (I 7)), .ref (b + 5), .ref (b + 6), .int (nI (I 10)), .int (nI (I 11)), .int (nI (I 12)), .int (nI (I 13)), .ref (b + 7), .ref (b + 8), .int (nI (I 16)), .int (nI (I 17)), .int (nI (I 18)), .int (nI (I 19))])) := hS.1
  have b1 : w (b + 1) = some (.inl (cL, 1536, .inr (.inl (fun i => lN (mC X i))))) := hS.2.1
  have b2 : w (b + 2) = some (.inl (cI, 24, .inl (S))) := hS.2.2.1
  have b09 := b0
  have b29 := b2
  obtain ⟨hxx, hsx⟩ := rx
  obtain ⟨hxy, hsy⟩ := ry
  have hxO := h1x
  have hsO := h1s
  have hXb := hX
  have hfr : ∀ p, p ≠ x9 → p < 18 ∨ 22 < p → X p = X p ∧ S p = S p := fun p _ _ => ⟨rfl, rfl⟩
  have hoF : ∀ q, q < b ∨ b + 9 ≤ q → w q = w q := fun q _ => rfl
  have p64 : 2 ^ 768 < nM ^ 64 := by decide +kernel
  obtain ⟨c9, hc9⟩ : ∃ c9, c9 = (-b9) := ⟨_, rfl⟩
  have hcn : Int.natAbs b9 = Int.natAbs c9 := by omega
  have c97 : Int.natAbs c9 < 2 ^ 768 := by rw [← hcn]; exact b97
  rw [hcn] at hxy
  rw [← hc9]
  refine lv_aload_n (pc := 0) hx hb dMo_sum_0 rfl (lv_at hl 0 rfl) ?_
  refine lv_iload_n (pc := 1) hx hb dMo_sum_1 rfl (lv_at hl 2 rfl) ?_
  refine lv_bipush (pc := 2) (v := (nI 18)) hx hb dMo_sum_2 (by decide) ?_
  refine fw_cV (pc := 4) (As := [.int (nI (x9 + 1)), .int (nI 18)]) (rest := []) ⟨hx, hb, hml, hown, hW⟩ (c_Mo_copy (pa := x9 + 1) (pc9 := 18) hS hXb (by omega) (by omega) (by omega)) (cwV 2 hW (kw_V lm_Mo_143 im_Mo_copy se_Mo_copy ini_Mo cd_Mo_copy) rfl rfl rfl (by decide +kernel) ⟨Nat.le_of_ble_eq_true rfl, Nat.le_of_ble_eq_true rfl⟩) hK hw b0 rfl rfl hl.1 rfl (Nat.le_of_ble_eq_true rfl) dMo_sum_4 ⟨Nat.le_of_ble_eq_true rfl, Nat.le_of_ble_eq_true rfl⟩ (fun v w201 H locs hq hw => ?_)
  obtain ⟨rfl, hS, hn9⟩ := hq
  have hoF : ∀ q, q < b ∨ b + 9 ≤ q → w201 q = w q := fun q h9 => (hn9 q h9).trans (hoF q h9)
  have hB9 : Int.natAbs c9 < nM ^ 64 := by rw [← hxy]; exact hXb _
  obtain ⟨X20, eX20⟩ : ∃ X_, X_ = va_up X (18) (X (x9 + 1)) := ⟨_, rfl⟩
  rw [← eX20] at hS
  have hv9 : X (x9 + 1) = Int.natAbs c9 := hxy
  have hxx : X20 (x9) = Int.natAbs a9 := by rw [eX20, up_o (by omega)]; exact hxx
  have hxy : X20 (x9 + 1) = Int.natAbs c9 := by rw [eX20, up_o (by omega)]; exact hxy
  have hxO : X20 (23) = 1 := by rw [eX20, up_o (by omega)]; exact hxO
  have hxA : X20 (18) = Int.natAbs c9 := by rw [eX20]; exact up_s.trans hv9
  have hXb : ∀ p, X20 p < nM ^ 64 := fun p => by (rw [eX20]; unfold va_up; split; (rw [hv9]; exact hB9); exact hXb p)
  have hfr : ∀ p, p ≠ x9 → p < 18 ∨ 22 < p → X20 p = X p ∧ S p = S p := fun p h1 h2 => by rw [eX20, up_o (by omega)]; exact hfr p h1 h2
  obtain ⟨S21, eS21⟩ : ∃ S_, S_ = va_up S (18) (S (x9 + 1)) := ⟨_, rfl⟩
  rw [← eS21] at hS
  have hv9 : (S (x9 + 1) : Int32) = sg32 b9 := hsy
  have hsx : S21 (x9) = sg32 a9 := by rw [eS21, up_o (by omega)]; exact hsx
  have hsy : S21 (x9 + 1) = sg32 b9 := by rw [eS21, up_o (by omega)]; exact hsy
  have hsO : S21 (23) = nI 1 := by rw [eS21, up_o (by omega)]; exact hsO
  have hsA : S21 (18) = sg32 b9 := by rw [eS21]; exact up_s.trans hv9
  have hfr : ∀ p, p ≠ x9 → p < 18 ∨ 22 < p → X20 p = X p ∧ S21 p = S p := fun p h1 h2 => by rw [eS21, up_o (by omega)]; exact hfr p h1 h2
  have b0 : w201 b = some (.inr (10, [.int (nI (I 0)), .ref (b + 1), .ref (b + 2), .int (nI (I 3)), .ref (b + 3), .ref (b + 4), .int (nI (I 6)), .int (nI (I 7)), .ref (b + 5), .ref (b + 6), .int (nI (I 10)), .int (nI (I 11)), .int (nI (I 12)), .int (nI (I 13)), .ref (b + 7), .ref (b + 8), .int (nI (I 16)), .int (nI (I 17)), .int (nI (I 18)), .int (nI (I 19))])) := hS.1
  have b1 : w201 (b + 1) = some (.inl (cL, 1536, .inr (.inl (fun i => lN (mC X20 i))))) := hS.2.1
  have b2 : w201 (b + 2) = some (.inl (cI, 24, .inl (S21))) := hS.2.2.1
  refine W.eq (g2 := F0 m 7 ls []) rfl ?_
  refine lv_aload_n (pc := 7) hx hb dMo_sum_7 rfl (lv_at hl 0 rfl) ?_
  refine fw_get (pc := 8) (ci := 10) (v := .ref (b + 2)) (C := RMo) (T := TMo) (N := 20) hx hb hW in_Mo hown hK.1 hw b0 rfl 2 (by decide) (hW _ lf_Mo_13) (fun _ h => h) rfl dMo_sum_8 ?_
  refine lv_bipush (pc := 11) (v := (nI 18)) hx hb dMo_sum_11 (by decide) ?_
  refine lv_iload_n (pc := 13) hx hb dMo_sum_13 rfl (lv_at hl 3 rfl) ?_
  refine lv_aload_n (pc := 14) hx hb dMo_sum_14 rfl (lv_at hl 0 rfl) ?_
  refine fw_get (pc := 15) (ci := 10) (v := .ref (b + 2)) (C := RMo) (T := TMo) (N := 20) hx hb hW in_Mo hown hK.1 hw b0 rfl 2 (by decide) (hW _ lf_Mo_13) (fun _ h => h) rfl dMo_sum_15 ?_
  refine lv_iload_n (pc := 18) hx hb dMo_sum_18 rfl (lv_at hl 2 rfl) ?_
  refine fw_ialdN (pc := 19) (x := S21 (x9 + 1)) hx hb hK.1 hw 0 b2 rfl (x9 + 1) (by omega) (by decide) rfl dMo_sum_19 ?_
  rw [show (S21 (x9 + 1) : Int32) = sg32 b9 from hsy]
  refine lv_imul (pc := 20) hx hb dMo_sum_20 ?_
  rw [show (((-1) * sg32 b9) : Int32) = sg32 c9 from (by rw [hc9]; exact sg_m2 b9)]
  refine fw_iastN (pc := 21) (f2 := va_up S21 (18) (sg32 c9)) hx hb hK.1 hw 0 b2 rfl (18) (by omega) (by decide) (rfl) dMo_sum_21 (fun H locs hw => ?_)
  obtain ⟨w202, e202⟩ : ∃ w_, w_ = fw_up w201 (b + 2) (.inl (cI, 24, .inl (va_up S21 (18) (sg32 c9)))) := ⟨_, rfl⟩
  have hw : fw_H D kCl (fw_A w (sz)) s.heap w202 (sz) H locs := by rw [e202]; exact hw
  have b0_ : w202 (b) = some (.inr (10, [.int (nI (I 0)), .ref (b + 1), .ref (b + 2), .int (nI (I 3)), .ref (b + 3), .ref (b + 4), .int (nI (I 6)), .int (nI (I 7)), .ref (b + 5), .ref (b + 6), .int (nI (I 10)), .int (nI (I 11)), .int (nI (I 12)), .int (nI (I 13)), .ref (b + 7), .ref (b + 8), .int (nI (I 16)), .int (nI (I 17)), .int (nI (I 18)), .int (nI (I 19))])) := by rw [e202, fw_un (by omega)]; exact b0
  have b1_ : w202 (b + 1) = some (.inl (cL, 1536, .inr (.inl (fun i => lN (mC X20 i))))) := by rw [e202, fw_un (by omega)]; exact b1
  have b2_ : w202 (b + 2) = some (.inl (cI, 24, .inl (va_up S21 (18) (sg32 c9)))) := by rw [e202]; exact fw_us _ _ _
  have b0 := b0_
  have b1 := b1_
  have b2 := b2_
  have hS : moS cI cL w202 b I K (va_up S21 (18) (sg32 c9)) (mC X20) := moS.cs hS b1 b2 (fun q h1 h2 => by rw [e202, fw_un h2])
  have hoF : ∀ q, q < b ∨ b + 9 ≤ q → w202 q = w q := fun q h9 => by rw [e202, fw_un (by omega)]; exact hoF q h9
  obtain ⟨S22, eS22⟩ : ∃ S_, S_ = va_up S21 (18) (sg32 c9) := ⟨_, rfl⟩
  rw [← eS22] at hS
  have hv9 : (sg32 c9 : Int32) = sg32 c9 := rfl
  have hsx : S22 (x9) = sg32 a9 := by rw [eS22, up_o (by omega)]; exact hsx
  have hsy : S22 (x9 + 1) = sg32 b9 := by rw [eS22, up_o (by omega)]; exact hsy
  have hsO : S22 (23) = nI 1 := by rw [eS22, up_o (by omega)]; exact hsO
  have hsA : S22 (18) = sg32 c9 := by rw [eS22]; exact up_s.trans hv9
  have hfr : ∀ p, p ≠ x9 → p < 18 ∨ 22 < p → X20 p = X p ∧ S22 p = S p := fun p h1 h2 => by rw [eS22, up_o (by omega)]; exact hfr p h1 h2
  have b0 : w202 b = some (.inr (10, [.int (nI (I 0)), .ref (b + 1), .ref (b + 2), .int (nI (I 3)), .ref (b + 3), .ref (b + 4), .int (nI (I 6)), .int (nI (I 7)), .ref (b + 5), .ref (b + 6), .int (nI (I 10)), .int (nI (I 11)), .int (nI (I 12)), .int (nI (I 13)), .ref (b + 7), .ref (b + 8), .int (nI (I 16)), .int (nI (I 17)), .int (nI (I 18)), .int (nI (I 19))])) := hS.1
  have b1 : w202 (b + 1) = some (.inl (cL, 1536, .inr (.inl (fun i => lN (mC X20 i))))) := hS.2.1
  have b2 : w202 (b + 2) = some (.inl (cI, 24, .inl (S22))) := hS.2.2.1
  refine lv_aload_n (pc := 22) hx hb dMo_sum_22 rfl (lv_at hl 0 rfl) ?_
  refine fw_get (pc := 23) (ci := 10) (v := .ref (b + 2)) (C := RMo) (T := TMo) (N := 20) hx hb hW in_Mo hown hK.1 hw b0 rfl 2 (by decide) (hW _ lf_Mo_13) (fun _ h => h) rfl dMo_sum_23 ?_
  refine lv_iload_n (pc := 26) hx hb dMo_sum_26 rfl (lv_at hl 1 rfl) ?_
  refine fw_ialdN (pc := 27) (x := S22 (x9)) hx hb hK.1 hw 0 b2 rfl (x9) (by omega) (by decide) rfl dMo_sum_27 ?_
  rw [show (S22 (x9) : Int32) = sg32 a9 from hsx]
  rcases Int.lt_trichotomy a9 0 with ha90 | ha90 | ha90
  · rw [sg32_n ha90] at hsx
    rw [show (sg32 a9 : Int32) = (-1) from (sg32_n ha90)]
    refine lv_if_ne (pc := 28) (tgt := 41) hx hb dMo_sum_28 (by decide) (fun _ => ?_) (fun hc => absurd hc (by decide))
    refine lv_aload_n (pc := 41) hx hb dMo_sum_41 rfl (lv_at hl 0 rfl) ?_
    refine fw_get (pc := 42) (ci := 10) (v := .ref (b + 2)) (C := RMo) (T := TMo) (N := 20) hx hb hW in_Mo hown hK.1 hw b0 rfl 2 (by decide) (hW _ lf_Mo_13) (fun _ h => h) rfl dMo_sum_42 ?_
    refine lv_bipush (pc := 45) (v := (nI 18)) hx hb dMo_sum_45 (by decide) ?_
    refine fw_ialdN (pc := 47) (x := S22 (18)) hx hb hK.1 hw 0 b2 rfl (18) (by omega) (by decide) rfl dMo_sum_47 ?_
    rw [show (S22 (18) : Int32) = sg32 c9 from hsA]
    refine lv_aload_n (pc := 48) hx hb dMo_sum_48 rfl (lv_at hl 0 rfl) ?_
    refine fw_get (pc := 49) (ci := 10) (v := .ref (b + 2)) (C := RMo) (T := TMo) (N := 20) hx hb hW in_Mo hown hK.1 hw b0 rfl 2 (by decide) (hW _ lf_Mo_13) (fun _ h => h) rfl dMo_sum_49 ?_
    refine lv_iload_n (pc := 52) hx hb dMo_sum_52 rfl (lv_at hl 1 rfl) ?_
    refine fw_ialdN (pc := 53) (x := S22 (x9)) hx hb hK.1 hw 0 b2 rfl (x9) (by omega) (by decide) rfl dMo_sum_53 ?_
    rw [show (S22 (x9) : Int32) = (-1) from hsx]
    rcases Int.lt_trichotomy c9 0 with hc90 | hc90 | hc90
    · rw [sg32_n hc90]
      rw [sg32_n hc90] at hsA
      refine lv_icmp_ne (pc := 54) (tgt := 67) hx hb dMo_sum_54 (by decide) (fun hc => absurd hc (fun h => h rfl)) (fun _ => ?_)
      refine lv_aload_n (pc := 57) hx hb dMo_sum_57 rfl (lv_at hl 0 rfl) ?_
      refine lv_iload_n (pc := 58) hx hb dMo_sum_58 rfl (lv_at hl 1 rfl) ?_
      refine lv_bipush (pc := 59) (v := (nI 18)) hx hb dMo_sum_59 (by decide) ?_
      refine fw_cV (pc := 61) (As := [.int (nI x9), .int (nI 18)]) (rest := []) ⟨hx, hb, hml, hown, hW⟩ (c_Mo_addTo (pa := x9) (pb := 18) hS hXb (by omega) (by omega) (by omega)) (cwV 2 hW (kw_V lm_Mo_146 im_Mo_addTo se_Mo_addTo ini_Mo cd_Mo_addTo) rfl rfl rfl (by decide +kernel) ⟨Nat.le_of_ble_eq_true rfl, Nat.le_of_ble_eq_true rfl⟩) hK hw b0 rfl rfl hl.1 rfl (Nat.le_of_ble_eq_true rfl) dMo_sum_61 ⟨Nat.le_of_ble_eq_true rfl, Nat.le_of_ble_eq_true rfl⟩ (fun v w203 H locs hq hw => ?_)
      obtain ⟨rfl, hS, hn9⟩ := hq
      have hoF : ∀ q, q < b ∨ b + 9 ≤ q → w203 q = w q := fun q h9 => (hn9 q h9).trans (hoF q h9)
      have hB9 : Int.natAbs (a9 + c9) < nM ^ 64 := Nat.lt_trans (show Int.natAbs (a9 + c9) < 2 ^ 769 by omega) (by decide +kernel)
      obtain ⟨X23, eX23⟩ : ∃ X_, X_ = va_up X20 (x9) ((X20 (x9) + X20 (18)) % nM ^ 64) := ⟨_, rfl⟩
      rw [← eX23] at hS
      have hv9 : (X20 (x9) + X20 (18)) % nM ^ 64 = Int.natAbs (a9 + c9) := (by rw [hxx, hxA, show Int.natAbs a9 + Int.natAbs c9 = Int.natAbs (a9 + c9) by omega, Nat.mod_eq_of_lt hB9])
      have hxy : X23 (x9 + 1) = Int.natAbs c9 := by rw [eX23, up_o (by omega)]; exact hxy
      have hxO : X23 (23) = 1 := by rw [eX23, up_o (by omega)]; exact hxO
      have hxA : X23 (18) = Int.natAbs c9 := by rw [eX23, up_o (by omega)]; exact hxA
      have hxx : X23 (x9) = Int.natAbs (a9 + c9) := by rw [eX23]; exact up_s.trans hv9
      have hXb : ∀ p, X23 p < nM ^ 64 := fun p => by (rw [eX23]; unfold va_up; split; (rw [hv9]; exact hB9); exact hXb p)
      have hfr : ∀ p, p ≠ x9 → p < 18 ∨ 22 < p → X23 p = X p ∧ S22 p = S p := fun p h1 h2 => by rw [eX23, up_o (by omega)]; exact hfr p h1 h2
      have b0 : w203 b = some (.inr (10, [.int (nI (I 0)), .ref (b + 1), .ref (b + 2), .int (nI (I 3)), .ref (b + 3), .ref (b + 4), .int (nI (I 6)), .int (nI (I 7)), .ref (b + 5), .ref (b + 6), .int (nI (I 10)), .int (nI (I 11)), .int (nI (I 12)), .int (nI (I 13)), .ref (b + 7), .ref (b + 8), .int (nI (I 16)), .int (nI (I 17)), .int (nI (I 18)), .int (nI (I 19))])) := hS.1
      have b1 : w203 (b + 1) = some (.inl (cL, 1536, .inr (.inl (fun i => lN (mC X23 i))))) := hS.2.1
      have b2 : w203 (b + 2) = some (.inl (cI, 24, .inl (S22))) := hS.2.2.1
      refine W.eq (g2 := F0 m 64 ls []) rfl ?_
      refine lv_goto (pc := 64) (tgt := 140) hx hb dMo_sum_64 (by decide) ?_
      rw [show (-1) = sg32 (a9 + c9) from (sg32_n (by omega)).symm] at hsx
      refine lv_aload_n (pc := 140) hx hb dMo_sum_140 rfl (lv_at hl 0 rfl) ?_
      refine lv_iload_n (pc := 141) hx hb dMo_sum_141 rfl (lv_at hl 1 rfl) ?_
      refine fw_cVR (pc := 142) (As := [.int (nI x9)]) (rest := []) ⟨hx, hb, hml, hown, hW⟩ (c_Mo_isGreat hS hXb (by omega)) (cwV 1 hW (kw_V lm_Mo_152 im_Mo_isGreat se_Mo_isGreat ini_Mo cd_Mo_isGreat) rfl rfl rfl (by decide +kernel) ⟨Nat.le_of_ble_eq_true rfl, Nat.le_of_ble_eq_true rfl⟩) hK hw b0 rfl rfl hl.1 rfl (Nat.le_of_ble_eq_true rfl) dMo_sum_142 ⟨Nat.le_of_ble_eq_true rfl, Nat.le_of_ble_eq_true rfl⟩ (fun v hq => ?_)
      have hxr : X23 x9 = Int.natAbs (a9 + c9) := hxx
      rw [hxr] at hq
      by_cases hg9 : Int.natAbs (a9 + c9) < 2 ^ 768
      · subst hq
        rw [if_pos hg9]
        refine W.eq (g2 := F0 m 145 ls [.int (nI 0)]) rfl ?_
        refine lv_if_eq (pc := 145) (tgt := 153) hx hb dMo_sum_145 (by decide) (fun _ => ?_) (fun hc => absurd (show nI 0 = 0 by decide) hc)
        refine lv_iconst (pc := 153) (v := (nI 0)) hx hb dMo_sum_153 (by decide) ?_
        have hsp : sFit (a9 + c9) a9 = (0, (a9 + c9)) := (rfl : sFit (a9 + c9) a9 = sFit (a9 + c9) a9).trans (if_pos hg9)
        exact fw_iret (pc := 154) hx hb hr hlocks hw dMo_sum_154 ⟨by rw [hsp], ⟨_, _, hS, hXb, fun _ => by rw [hsp]; exact ⟨hxr, hsx⟩, hfr⟩, hoF⟩
      · subst hq
        rw [if_neg hg9]
        refine W.eq (g2 := F0 m 145 ls [.int (nI 1)]) rfl ?_
        refine lv_if_eq (pc := 145) (tgt := 153) hx hb dMo_sum_145 (by decide) (fun hc => absurd hc (show ¬ nI 1 = 0 by decide)) (fun _ => ?_)
        refine lv_bipush (pc := 148) (v := (nI 6)) hx hb dMo_sum_148 (by decide) ?_
        refine lv_goto (pc := 150) (tgt := 154) hx hb dMo_sum_150 (by decide) ?_
        have hsp : (sFit (a9 + c9) a9).1 = 6 := by rw [(rfl : sFit (a9 + c9) a9 = sFit (a9 + c9) a9), sFit_1, if_neg hg9]
        exact fw_iret (pc := 154) hx hb hr hlocks hw dMo_sum_154 ⟨by rw [hsp], ⟨_, _, hS, hXb, fun h9 => absurd h9 (by rw [hsp]; decide), hfr⟩, hoF⟩
    · rw [sg32_z hc90]
      rw [sg32_z hc90] at hsA
      refine lv_icmp_ne (pc := 54) (tgt := 67) hx hb dMo_sum_54 (by decide) (fun _ => ?_) (fun hc => absurd hc (by decide))
      refine lv_aload_n (pc := 67) hx hb dMo_sum_67 rfl (lv_at hl 0 rfl) ?_
      refine fw_get (pc := 68) (ci := 10) (v := .ref (b + 2)) (C := RMo) (T := TMo) (N := 20) hx hb hW in_Mo hown hK.1 hw b0 rfl 2 (by decide) (hW _ lf_Mo_13) (fun _ h => h) rfl dMo_sum_68 ?_
      refine lv_bipush (pc := 71) (v := (nI 18)) hx hb dMo_sum_71 (by decide) ?_
      refine fw_ialdN (pc := 73) (x := S22 (18)) hx hb hK.1 hw 0 b2 rfl (18) (by omega) (by decide) rfl dMo_sum_73 ?_
      rw [show (S22 (18) : Int32) = nI 0 from hsA]
      refine lv_if_eq (pc := 74) (tgt := 140) hx hb dMo_sum_74 (by decide) (fun _ => ?_) (fun hc => absurd (show nI 0 = 0 by decide) hc)
      have hr9 : a9 + c9 = a9 := by omega
      rw [show (-1) = sg32 (a9 + c9) from (sg32_n (by omega)).symm] at hsx
      refine lv_aload_n (pc := 140) hx hb dMo_sum_140 rfl (lv_at hl 0 rfl) ?_
      refine lv_iload_n (pc := 141) hx hb dMo_sum_141 rfl (lv_at hl 1 rfl) ?_
      refine fw_cVR (pc := 142) (As := [.int (nI x9)]) (rest := []) ⟨hx, hb, hml, hown, hW⟩ (c_Mo_isGreat hS hXb (by omega)) (cwV 1 hW (kw_V lm_Mo_152 im_Mo_isGreat se_Mo_isGreat ini_Mo cd_Mo_isGreat) rfl rfl rfl (by decide +kernel) ⟨Nat.le_of_ble_eq_true rfl, Nat.le_of_ble_eq_true rfl⟩) hK hw b0 rfl rfl hl.1 rfl (Nat.le_of_ble_eq_true rfl) dMo_sum_142 ⟨Nat.le_of_ble_eq_true rfl, Nat.le_of_ble_eq_true rfl⟩ (fun v hq => ?_)
      have hxr : X20 x9 = Int.natAbs (a9 + c9) := (by rw [hr9]; exact hxx)
      rw [hxr] at hq
      by_cases hg9 : Int.natAbs (a9 + c9) < 2 ^ 768
      · subst hq
        rw [if_pos hg9]
        refine W.eq (g2 := F0 m 145 ls [.int (nI 0)]) rfl ?_
        refine lv_if_eq (pc := 145) (tgt := 153) hx hb dMo_sum_145 (by decide) (fun _ => ?_) (fun hc => absurd (show nI 0 = 0 by decide) hc)
        refine lv_iconst (pc := 153) (v := (nI 0)) hx hb dMo_sum_153 (by decide) ?_
        have hsp : sFit (a9 + c9) a9 = (0, (a9 + c9)) := (rfl : sFit (a9 + c9) a9 = sFit (a9 + c9) a9).trans (if_pos hg9)
        exact fw_iret (pc := 154) hx hb hr hlocks hw dMo_sum_154 ⟨by rw [hsp], ⟨_, _, hS, hXb, fun _ => by rw [hsp]; exact ⟨hxr, hsx⟩, hfr⟩, hoF⟩
      · subst hq
        rw [if_neg hg9]
        refine W.eq (g2 := F0 m 145 ls [.int (nI 1)]) rfl ?_
        refine lv_if_eq (pc := 145) (tgt := 153) hx hb dMo_sum_145 (by decide) (fun hc => absurd hc (show ¬ nI 1 = 0 by decide)) (fun _ => ?_)
        refine lv_bipush (pc := 148) (v := (nI 6)) hx hb dMo_sum_148 (by decide) ?_
        refine lv_goto (pc := 150) (tgt := 154) hx hb dMo_sum_150 (by decide) ?_
        have hsp : (sFit (a9 + c9) a9).1 = 6 := by rw [(rfl : sFit (a9 + c9) a9 = sFit (a9 + c9) a9), sFit_1, if_neg hg9]
        exact fw_iret (pc := 154) hx hb hr hlocks hw dMo_sum_154 ⟨by rw [hsp], ⟨_, _, hS, hXb, fun h9 => absurd h9 (by rw [hsp]; decide), hfr⟩, hoF⟩
    · rw [sg32_p hc90]
      rw [sg32_p hc90] at hsA
      refine lv_icmp_ne (pc := 54) (tgt := 67) hx hb dMo_sum_54 (by decide) (fun _ => ?_) (fun hc => absurd hc (by decide))
      refine lv_aload_n (pc := 67) hx hb dMo_sum_67 rfl (lv_at hl 0 rfl) ?_
      refine fw_get (pc := 68) (ci := 10) (v := .ref (b + 2)) (C := RMo) (T := TMo) (N := 20) hx hb hW in_Mo hown hK.1 hw b0 rfl 2 (by decide) (hW _ lf_Mo_13) (fun _ h => h) rfl dMo_sum_68 ?_
      refine lv_bipush (pc := 71) (v := (nI 18)) hx hb dMo_sum_71 (by decide) ?_
      refine fw_ialdN (pc := 73) (x := S22 (18)) hx hb hK.1 hw 0 b2 rfl (18) (by omega) (by decide) rfl dMo_sum_73 ?_
      rw [show (S22 (18) : Int32) = nI 1 from hsA]
      refine lv_if_eq (pc := 74) (tgt := 140) hx hb dMo_sum_74 (by decide) (fun hc => absurd hc (by decide)) (fun _ => ?_)
      refine lv_aload_n (pc := 77) hx hb dMo_sum_77 rfl (lv_at hl 0 rfl) ?_
      refine lv_iload_n (pc := 78) hx hb dMo_sum_78 rfl (lv_at hl 1 rfl) ?_
      refine lv_bipush (pc := 79) (v := (nI 18)) hx hb dMo_sum_79 (by decide) ?_
      refine fw_cVR (pc := 81) (As := [.int (nI x9), .int (nI 18)]) (rest := []) ⟨hx, hb, hml, hown, hW⟩ (c_Mo_order (pa := x9) (pb := 18) hS hXb (by omega) (by omega)) (cwV 2 hW (kw_V lm_Mo_149 im_Mo_order se_Mo_order ini_Mo cd_Mo_order) rfl rfl rfl (by decide +kernel) ⟨Nat.le_of_ble_eq_true rfl, Nat.le_of_ble_eq_true rfl⟩) hK hw b0 rfl rfl hl.1 rfl (Nat.le_of_ble_eq_true rfl) dMo_sum_81 ⟨Nat.le_of_ble_eq_true rfl, Nat.le_of_ble_eq_true rfl⟩ (fun v hq => ?_)
      rw [hxx, hxA] at hq
      subst hq
      refine W.eq (g2 := F0 m 84 ls [.int (ordI (Int.natAbs a9) (Int.natAbs c9))]) rfl ?_
      refine lv_istore (pc := 84) (lv' := [(4, .int (ordI (Int.natAbs a9) (Int.natAbs c9))), (0, .ref b), (1, .int (nI x9)), (2, .int (nI (x9 + 1))), (3, .int (-1))]) hx hb dMo_sum_84 hl (by decide) rfl (fun ls hl => ?_)
      refine lv_iload (pc := 86) hx hb dMo_sum_86 (lv_at hl 0 rfl) ?_
      refine lv_if_lt (pc := 88) (tgt := 124) hx hb dMo_sum_88 (by decide) (fun hlt => ?_) (fun hlt => ?_)
      · have hl9 : Int.natAbs a9 < Int.natAbs c9 := Nat.lt_of_not_le (fun h9 => absurd ((ordI_ge0 _ _).mpr h9) (Int32.not_le.mpr hlt))
        refine lv_aload_n (pc := 124) hx hb dMo_sum_124 rfl (lv_at hl 1 rfl) ?_
        refine lv_bipush (pc := 125) (v := (nI 18)) hx hb dMo_sum_125 (by decide) ?_
        refine lv_iload_n (pc := 127) hx hb dMo_sum_127 rfl (lv_at hl 2 rfl) ?_
        refine lv_lconst (pc := 128) (v := lN 1) hx hb dMo_sum_128 (by decide) ?_
        refine lv_iconst (pc := 129) (v := (nI 0)) hx hb dMo_sum_129 (by decide) ?_
        refine fw_cV (pc := 130) (As := [.int (nI 18), .int (nI x9), .long (lN 1), .int (nI 0)]) (rest := []) ⟨hx, hb, hml, hown, hW⟩ (c_Mo_takeFrom (pa := 18) (pb := x9) (t9 := 1) (h9 := 0) hS hXb (by omega) (by omega) (by omega) (by decide) (by decide) (by rw [hxx, hxA, Nat.pow_zero]; omega)) (cwV 4 hW (kw_V lm_Mo_135 im_Mo_takeFrom se_Mo_takeFrom ini_Mo cd_Mo_takeFrom) rfl rfl rfl (by decide +kernel) ⟨Nat.le_of_ble_eq_true rfl, Nat.le_of_ble_eq_true rfl⟩) hK hw b0 rfl rfl hl.1 rfl (Nat.le_of_ble_eq_true rfl) dMo_sum_130 ⟨Nat.le_of_ble_eq_true rfl, Nat.le_of_ble_eq_true rfl⟩ (fun v w204 H locs hq hw => ?_)
        obtain ⟨rfl, hS, hn9⟩ := hq
        have hoF : ∀ q, q < b ∨ b + 9 ≤ q → w204 q = w q := fun q h9 => (hn9 q h9).trans (hoF q h9)
        have hB9 : Int.natAbs (a9 + c9) < nM ^ 64 := Nat.lt_trans (show Int.natAbs (a9 + c9) < 2 ^ 768 by omega) p64
        obtain ⟨X24, eX24⟩ : ∃ X_, X_ = va_up X20 (18) (X20 18 - 1 * X20 (x9) * nM ^ 0) := ⟨_, rfl⟩
        rw [← eX24] at hS
        have hv9 : X20 18 - 1 * X20 (x9) * nM ^ 0 = Int.natAbs (a9 + c9) := (by rw [hxx, hxA, Nat.pow_zero]; omega)
        have hxx : X24 (x9) = Int.natAbs a9 := by rw [eX24, up_o (by omega)]; exact hxx
        have hxy : X24 (x9 + 1) = Int.natAbs c9 := by rw [eX24, up_o (by omega)]; exact hxy
        have hxO : X24 (23) = 1 := by rw [eX24, up_o (by omega)]; exact hxO
        have hxA : X24 (18) = Int.natAbs (a9 + c9) := by rw [eX24]; exact up_s.trans hv9
        have hXb : ∀ p, X24 p < nM ^ 64 := fun p => by (rw [eX24]; unfold va_up; split; (rw [hv9]; exact hB9); exact hXb p)
        have hfr : ∀ p, p ≠ x9 → p < 18 ∨ 22 < p → X24 p = X p ∧ S22 p = S p := fun p h1 h2 => by rw [eX24, up_o (by omega)]; exact hfr p h1 h2
        have b0 : w204 b = some (.inr (10, [.int (nI (I 0)), .ref (b + 1), .ref (b + 2), .int (nI (I 3)), .ref (b + 3), .ref (b + 4), .int (nI (I 6)), .int (nI (I 7)), .ref (b + 5), .ref (b + 6), .int (nI (I 10)), .int (nI (I 11)), .int (nI (I 12)), .int (nI (I 13)), .ref (b + 7), .ref (b + 8), .int (nI (I 16)), .int (nI (I 17)), .int (nI (I 18)), .int (nI (I 19))])) := hS.1
        have b1 : w204 (b + 1) = some (.inl (cL, 1536, .inr (.inl (fun i => lN (mC X24 i))))) := hS.2.1
        have b2 : w204 (b + 2) = some (.inl (cI, 24, .inl (S22))) := hS.2.2.1
        refine W.eq (g2 := F0 m 133 ls []) rfl ?_
        refine lv_aload_n (pc := 133) hx hb dMo_sum_133 rfl (lv_at hl 1 rfl) ?_
        refine lv_bipush (pc := 134) (v := (nI 18)) hx hb dMo_sum_134 (by decide) ?_
        refine lv_iload_n (pc := 136) hx hb dMo_sum_136 rfl (lv_at hl 2 rfl) ?_
        refine fw_cV (pc := 137) (As := [.int (nI 18), .int (nI x9)]) (rest := []) ⟨hx, hb, hml, hown, hW⟩ (c_Mo_copy (pa := 18) (pc9 := x9) hS hXb (by omega) (by omega) (by omega)) (cwV 2 hW (kw_V lm_Mo_143 im_Mo_copy se_Mo_copy ini_Mo cd_Mo_copy) rfl rfl rfl (by decide +kernel) ⟨Nat.le_of_ble_eq_true rfl, Nat.le_of_ble_eq_true rfl⟩) hK hw b0 rfl rfl hl.1 rfl (Nat.le_of_ble_eq_true rfl) dMo_sum_137 ⟨Nat.le_of_ble_eq_true rfl, Nat.le_of_ble_eq_true rfl⟩ (fun v w205 H locs hq hw => ?_)
        obtain ⟨rfl, hS, hn9⟩ := hq
        have hoF : ∀ q, q < b ∨ b + 9 ≤ q → w205 q = w q := fun q h9 => (hn9 q h9).trans (hoF q h9)
        have hB9 : Int.natAbs (a9 + c9) < nM ^ 64 := by rw [← hxA]; exact hXb _
        obtain ⟨X25, eX25⟩ : ∃ X_, X_ = va_up X24 (x9) (X24 (18)) := ⟨_, rfl⟩
        rw [← eX25] at hS
        have hv9 : X24 (18) = Int.natAbs (a9 + c9) := hxA
        have hxy : X25 (x9 + 1) = Int.natAbs c9 := by rw [eX25, up_o (by omega)]; exact hxy
        have hxO : X25 (23) = 1 := by rw [eX25, up_o (by omega)]; exact hxO
        have hxA : X25 (18) = Int.natAbs (a9 + c9) := by rw [eX25, up_o (by omega)]; exact hxA
        have hxx : X25 (x9) = Int.natAbs (a9 + c9) := by rw [eX25]; exact up_s.trans hv9
        have hXb : ∀ p, X25 p < nM ^ 64 := fun p => by (rw [eX25]; unfold va_up; split; (rw [hv9]; exact hB9); exact hXb p)
        have hfr : ∀ p, p ≠ x9 → p < 18 ∨ 22 < p → X25 p = X p ∧ S22 p = S p := fun p h1 h2 => by rw [eX25, up_o (by omega)]; exact hfr p h1 h2
        obtain ⟨S26, eS26⟩ : ∃ S_, S_ = va_up S22 (x9) (S22 (18)) := ⟨_, rfl⟩
        rw [← eS26] at hS
        have hv9 : (S22 (18) : Int32) = nI 1 := hsA
        have hsy : S26 (x9 + 1) = sg32 b9 := by rw [eS26, up_o (by omega)]; exact hsy
        have hsO : S26 (23) = nI 1 := by rw [eS26, up_o (by omega)]; exact hsO
        have hsA : S26 (18) = nI 1 := by rw [eS26, up_o (by omega)]; exact hsA
        have hsx : S26 (x9) = nI 1 := by rw [eS26]; exact up_s.trans hv9
        have hfr : ∀ p, p ≠ x9 → p < 18 ∨ 22 < p → X25 p = X p ∧ S26 p = S p := fun p h1 h2 => by rw [eS26, up_o (by omega)]; exact hfr p h1 h2
        have b0 : w205 b = some (.inr (10, [.int (nI (I 0)), .ref (b + 1), .ref (b + 2), .int (nI (I 3)), .ref (b + 3), .ref (b + 4), .int (nI (I 6)), .int (nI (I 7)), .ref (b + 5), .ref (b + 6), .int (nI (I 10)), .int (nI (I 11)), .int (nI (I 12)), .int (nI (I 13)), .ref (b + 7), .ref (b + 8), .int (nI (I 16)), .int (nI (I 17)), .int (nI (I 18)), .int (nI (I 19))])) := hS.1
        have b1 : w205 (b + 1) = some (.inl (cL, 1536, .inr (.inl (fun i => lN (mC X25 i))))) := hS.2.1
        have b2 : w205 (b + 2) = some (.inl (cI, 24, .inl (S26))) := hS.2.2.1
        refine W.eq (g2 := F0 m 140 ls []) rfl ?_
        rw [show nI 1 = sg32 (a9 + c9) from (sg32_p (by omega)).symm] at hsx
        refine lv_aload_n (pc := 140) hx hb dMo_sum_140 rfl (lv_at hl 1 rfl) ?_
        refine lv_iload_n (pc := 141) hx hb dMo_sum_141 rfl (lv_at hl 2 rfl) ?_
        refine fw_cVR (pc := 142) (As := [.int (nI x9)]) (rest := []) ⟨hx, hb, hml, hown, hW⟩ (c_Mo_isGreat hS hXb (by omega)) (cwV 1 hW (kw_V lm_Mo_152 im_Mo_isGreat se_Mo_isGreat ini_Mo cd_Mo_isGreat) rfl rfl rfl (by decide +kernel) ⟨Nat.le_of_ble_eq_true rfl, Nat.le_of_ble_eq_true rfl⟩) hK hw b0 rfl rfl hl.1 rfl (Nat.le_of_ble_eq_true rfl) dMo_sum_142 ⟨Nat.le_of_ble_eq_true rfl, Nat.le_of_ble_eq_true rfl⟩ (fun v hq => ?_)
        have hxr : X25 x9 = Int.natAbs (a9 + c9) := hxx
        rw [hxr] at hq
        by_cases hg9 : Int.natAbs (a9 + c9) < 2 ^ 768
        · subst hq
          rw [if_pos hg9]
          refine W.eq (g2 := F0 m 145 ls [.int (nI 0)]) rfl ?_
          refine lv_if_eq (pc := 145) (tgt := 153) hx hb dMo_sum_145 (by decide) (fun _ => ?_) (fun hc => absurd (show nI 0 = 0 by decide) hc)
          refine lv_iconst (pc := 153) (v := (nI 0)) hx hb dMo_sum_153 (by decide) ?_
          have hsp : sFit (a9 + c9) a9 = (0, (a9 + c9)) := (rfl : sFit (a9 + c9) a9 = sFit (a9 + c9) a9).trans (if_pos hg9)
          exact fw_iret (pc := 154) hx hb hr hlocks hw dMo_sum_154 ⟨by rw [hsp], ⟨_, _, hS, hXb, fun _ => by rw [hsp]; exact ⟨hxr, hsx⟩, hfr⟩, hoF⟩
        · subst hq
          rw [if_neg hg9]
          refine W.eq (g2 := F0 m 145 ls [.int (nI 1)]) rfl ?_
          refine lv_if_eq (pc := 145) (tgt := 153) hx hb dMo_sum_145 (by decide) (fun hc => absurd hc (show ¬ nI 1 = 0 by decide)) (fun _ => ?_)
          refine lv_bipush (pc := 148) (v := (nI 6)) hx hb dMo_sum_148 (by decide) ?_
          refine lv_goto (pc := 150) (tgt := 154) hx hb dMo_sum_150 (by decide) ?_
          have hsp : (sFit (a9 + c9) a9).1 = 6 := by rw [(rfl : sFit (a9 + c9) a9 = sFit (a9 + c9) a9), sFit_1, if_neg hg9]
          exact fw_iret (pc := 154) hx hb hr hlocks hw dMo_sum_154 ⟨by rw [hsp], ⟨_, _, hS, hXb, fun h9 => absurd h9 (by rw [hsp]; decide), hfr⟩, hoF⟩
      · have hl9 : Int.natAbs c9 ≤ Int.natAbs a9 := (ordI_ge0 _ _).mp (Int32.not_lt.mp hlt)
        refine lv_aload_n (pc := 91) hx hb dMo_sum_91 rfl (lv_at hl 1 rfl) ?_
        refine lv_iload_n (pc := 92) hx hb dMo_sum_92 rfl (lv_at hl 2 rfl) ?_
        refine lv_bipush (pc := 93) (v := (nI 18)) hx hb dMo_sum_93 (by decide) ?_
        refine lv_lconst (pc := 95) (v := lN 1) hx hb dMo_sum_95 (by decide) ?_
        refine lv_iconst (pc := 96) (v := (nI 0)) hx hb dMo_sum_96 (by decide) ?_
        refine fw_cV (pc := 97) (As := [.int (nI x9), .int (nI 18), .long (lN 1), .int (nI 0)]) (rest := []) ⟨hx, hb, hml, hown, hW⟩ (c_Mo_takeFrom (pa := x9) (pb := 18) (t9 := 1) (h9 := 0) hS hXb (by omega) (by omega) (by omega) (by decide) (by decide) (by rw [hxx, hxA, Nat.pow_zero]; omega)) (cwV 4 hW (kw_V lm_Mo_135 im_Mo_takeFrom se_Mo_takeFrom ini_Mo cd_Mo_takeFrom) rfl rfl rfl (by decide +kernel) ⟨Nat.le_of_ble_eq_true rfl, Nat.le_of_ble_eq_true rfl⟩) hK hw b0 rfl rfl hl.1 rfl (Nat.le_of_ble_eq_true rfl) dMo_sum_97 ⟨Nat.le_of_ble_eq_true rfl, Nat.le_of_ble_eq_true rfl⟩ (fun v w204 H locs hq hw => ?_)
        obtain ⟨rfl, hS, hn9⟩ := hq
        have hoF : ∀ q, q < b ∨ b + 9 ≤ q → w204 q = w q := fun q h9 => (hn9 q h9).trans (hoF q h9)
        have hB9 : Int.natAbs (a9 + c9) < nM ^ 64 := Nat.lt_trans (show Int.natAbs (a9 + c9) < 2 ^ 768 by omega) p64
        obtain ⟨X27, eX27⟩ : ∃ X_, X_ = va_up X20 (x9) (X20 (x9) - 1 * X20 18 * nM ^ 0) := ⟨_, rfl⟩
        rw [← eX27] at hS
        have hv9 : X20 (x9) - 1 * X20 18 * nM ^ 0 = Int.natAbs (a9 + c9) := (by rw [hxx, hxA, Nat.pow_zero]; omega)
        have hxy : X27 (x9 + 1) = Int.natAbs c9 := by rw [eX27, up_o (by omega)]; exact hxy
        have hxO : X27 (23) = 1 := by rw [eX27, up_o (by omega)]; exact hxO
        have hxA : X27 (18) = Int.natAbs c9 := by rw [eX27, up_o (by omega)]; exact hxA
        have hxx : X27 (x9) = Int.natAbs (a9 + c9) := by rw [eX27]; exact up_s.trans hv9
        have hXb : ∀ p, X27 p < nM ^ 64 := fun p => by (rw [eX27]; unfold va_up; split; (rw [hv9]; exact hB9); exact hXb p)
        have hfr : ∀ p, p ≠ x9 → p < 18 ∨ 22 < p → X27 p = X p ∧ S22 p = S p := fun p h1 h2 => by rw [eX27, up_o (by omega)]; exact hfr p h1 h2
        have b0 : w204 b = some (.inr (10, [.int (nI (I 0)), .ref (b + 1), .ref (b + 2), .int (nI (I 3)), .ref (b + 3), .ref (b + 4), .int (nI (I 6)), .int (nI (I 7)), .ref (b + 5), .ref (b + 6), .int (nI (I 10)), .int (nI (I 11)), .int (nI (I 12)), .int (nI (I 13)), .ref (b + 7), .ref (b + 8), .int (nI (I 16)), .int (nI (I 17)), .int (nI (I 18)), .int (nI (I 19))])) := hS.1
        have b1 : w204 (b + 1) = some (.inl (cL, 1536, .inr (.inl (fun i => lN (mC X27 i))))) := hS.2.1
        have b2 : w204 (b + 2) = some (.inl (cI, 24, .inl (S22))) := hS.2.2.1
        refine W.eq (g2 := F0 m 100 ls []) rfl ?_
        refine lv_aload_n (pc := 100) hx hb dMo_sum_100 rfl (lv_at hl 1 rfl) ?_
        refine fw_get (pc := 101) (ci := 10) (v := .ref (b + 2)) (C := RMo) (T := TMo) (N := 20) hx hb hW in_Mo hown hK.1 hw b0 rfl 2 (by decide) (hW _ lf_Mo_13) (fun _ h => h) rfl dMo_sum_101 ?_
        refine lv_iload_n (pc := 104) hx hb dMo_sum_104 rfl (lv_at hl 2 rfl) ?_
        refine lv_iload (pc := 105) hx hb dMo_sum_105 (lv_at hl 0 rfl) ?_
        rcases Nat.eq_or_lt_of_le hl9 with he9 | he9
        · rw [show (ordI (Int.natAbs a9) (Int.natAbs c9) : Int32) = nI 0 from (ordI_eq he9.symm)]
          refine lv_if_ne (pc := 107) (tgt := 114) hx hb dMo_sum_107 (by decide) (fun hc => absurd hc (fun h => h (by decide))) (fun _ => ?_)
          refine lv_iconst (pc := 110) (v := (nI 0)) hx hb dMo_sum_110 (by decide) ?_
          refine lv_goto (pc := 111) (tgt := 120) hx hb dMo_sum_111 (by decide) ?_
          refine fw_iastN (pc := 120) (f2 := va_up S22 (x9) (nI 0)) hx hb hK.1 hw 0 b2 rfl (x9) (by omega) (by decide) (rfl) dMo_sum_120 (fun H locs hw => ?_)
          obtain ⟨w205, e205⟩ : ∃ w_, w_ = fw_up w204 (b + 2) (.inl (cI, 24, .inl (va_up S22 (x9) (nI 0)))) := ⟨_, rfl⟩
          have hw : fw_H D kCl (fw_A w (sz)) s.heap w205 (sz) H locs := by rw [e205]; exact hw
          have b0_ : w205 (b) = some (.inr (10, [.int (nI (I 0)), .ref (b + 1), .ref (b + 2), .int (nI (I 3)), .ref (b + 3), .ref (b + 4), .int (nI (I 6)), .int (nI (I 7)), .ref (b + 5), .ref (b + 6), .int (nI (I 10)), .int (nI (I 11)), .int (nI (I 12)), .int (nI (I 13)), .ref (b + 7), .ref (b + 8), .int (nI (I 16)), .int (nI (I 17)), .int (nI (I 18)), .int (nI (I 19))])) := by rw [e205, fw_un (by omega)]; exact b0
          have b1_ : w205 (b + 1) = some (.inl (cL, 1536, .inr (.inl (fun i => lN (mC X27 i))))) := by rw [e205, fw_un (by omega)]; exact b1
          have b2_ : w205 (b + 2) = some (.inl (cI, 24, .inl (va_up S22 (x9) (nI 0)))) := by rw [e205]; exact fw_us _ _ _
          have b0 := b0_
          have b1 := b1_
          have b2 := b2_
          have hS : moS cI cL w205 b I K (va_up S22 (x9) (nI 0)) (mC X27) := moS.cs hS b1 b2 (fun q h1 h2 => by rw [e205, fw_un h2])
          have hoF : ∀ q, q < b ∨ b + 9 ≤ q → w205 q = w q := fun q h9 => by rw [e205, fw_un (by omega)]; exact hoF q h9
          obtain ⟨S28, eS28⟩ : ∃ S_, S_ = va_up S22 (x9) (nI 0) := ⟨_, rfl⟩
          rw [← eS28] at hS
          have hv9 : (nI 0 : Int32) = nI 0 := rfl
          have hsy : S28 (x9 + 1) = sg32 b9 := by rw [eS28, up_o (by omega)]; exact hsy
          have hsO : S28 (23) = nI 1 := by rw [eS28, up_o (by omega)]; exact hsO
          have hsA : S28 (18) = nI 1 := by rw [eS28, up_o (by omega)]; exact hsA
          have hsx : S28 (x9) = nI 0 := by rw [eS28]; exact up_s.trans hv9
          have hfr : ∀ p, p ≠ x9 → p < 18 ∨ 22 < p → X27 p = X p ∧ S28 p = S p := fun p h1 h2 => by rw [eS28, up_o (by omega)]; exact hfr p h1 h2
          have b0 : w205 b = some (.inr (10, [.int (nI (I 0)), .ref (b + 1), .ref (b + 2), .int (nI (I 3)), .ref (b + 3), .ref (b + 4), .int (nI (I 6)), .int (nI (I 7)), .ref (b + 5), .ref (b + 6), .int (nI (I 10)), .int (nI (I 11)), .int (nI (I 12)), .int (nI (I 13)), .ref (b + 7), .ref (b + 8), .int (nI (I 16)), .int (nI (I 17)), .int (nI (I 18)), .int (nI (I 19))])) := hS.1
          have b1 : w205 (b + 1) = some (.inl (cL, 1536, .inr (.inl (fun i => lN (mC X27 i))))) := hS.2.1
          have b2 : w205 (b + 2) = some (.inl (cI, 24, .inl (S28))) := hS.2.2.1
          refine lv_goto (pc := 121) (tgt := 140) hx hb dMo_sum_121 (by decide) ?_
          rw [show nI 0 = sg32 (a9 + c9) from (sg32_z (by omega)).symm] at hsx
          refine lv_aload_n (pc := 140) hx hb dMo_sum_140 rfl (lv_at hl 1 rfl) ?_
          refine lv_iload_n (pc := 141) hx hb dMo_sum_141 rfl (lv_at hl 2 rfl) ?_
          refine fw_cVR (pc := 142) (As := [.int (nI x9)]) (rest := []) ⟨hx, hb, hml, hown, hW⟩ (c_Mo_isGreat hS hXb (by omega)) (cwV 1 hW (kw_V lm_Mo_152 im_Mo_isGreat se_Mo_isGreat ini_Mo cd_Mo_isGreat) rfl rfl rfl (by decide +kernel) ⟨Nat.le_of_ble_eq_true rfl, Nat.le_of_ble_eq_true rfl⟩) hK hw b0 rfl rfl hl.1 rfl (Nat.le_of_ble_eq_true rfl) dMo_sum_142 ⟨Nat.le_of_ble_eq_true rfl, Nat.le_of_ble_eq_true rfl⟩ (fun v hq => ?_)
          have hxr : X27 x9 = Int.natAbs (a9 + c9) := hxx
          rw [hxr] at hq
          by_cases hg9 : Int.natAbs (a9 + c9) < 2 ^ 768
          · subst hq
            rw [if_pos hg9]
            refine W.eq (g2 := F0 m 145 ls [.int (nI 0)]) rfl ?_
            refine lv_if_eq (pc := 145) (tgt := 153) hx hb dMo_sum_145 (by decide) (fun _ => ?_) (fun hc => absurd (show nI 0 = 0 by decide) hc)
            refine lv_iconst (pc := 153) (v := (nI 0)) hx hb dMo_sum_153 (by decide) ?_
            have hsp : sFit (a9 + c9) a9 = (0, (a9 + c9)) := (rfl : sFit (a9 + c9) a9 = sFit (a9 + c9) a9).trans (if_pos hg9)
            exact fw_iret (pc := 154) hx hb hr hlocks hw dMo_sum_154 ⟨by rw [hsp], ⟨_, _, hS, hXb, fun _ => by rw [hsp]; exact ⟨hxr, hsx⟩, hfr⟩, hoF⟩
          · subst hq
            rw [if_neg hg9]
            refine W.eq (g2 := F0 m 145 ls [.int (nI 1)]) rfl ?_
            refine lv_if_eq (pc := 145) (tgt := 153) hx hb dMo_sum_145 (by decide) (fun hc => absurd hc (show ¬ nI 1 = 0 by decide)) (fun _ => ?_)
            refine lv_bipush (pc := 148) (v := (nI 6)) hx hb dMo_sum_148 (by decide) ?_
            refine lv_goto (pc := 150) (tgt := 154) hx hb dMo_sum_150 (by decide) ?_
            have hsp : (sFit (a9 + c9) a9).1 = 6 := by rw [(rfl : sFit (a9 + c9) a9 = sFit (a9 + c9) a9), sFit_1, if_neg hg9]
            exact fw_iret (pc := 154) hx hb hr hlocks hw dMo_sum_154 ⟨by rw [hsp], ⟨_, _, hS, hXb, fun h9 => absurd h9 (by rw [hsp]; decide), hfr⟩, hoF⟩
        · rw [show (ordI (Int.natAbs a9) (Int.natAbs c9) : Int32) = nI 1 from (ordI_gt he9)]
          refine lv_if_ne (pc := 107) (tgt := 114) hx hb dMo_sum_107 (by decide) (fun _ => ?_) (fun hc => absurd hc (by decide))
          refine lv_aload_n (pc := 114) hx hb dMo_sum_114 rfl (lv_at hl 1 rfl) ?_
          refine fw_get (pc := 115) (ci := 10) (v := .ref (b + 2)) (C := RMo) (T := TMo) (N := 20) hx hb hW in_Mo hown hK.1 hw b0 rfl 2 (by decide) (hW _ lf_Mo_13) (fun _ h => h) rfl dMo_sum_115 ?_
          refine lv_iload_n (pc := 118) hx hb dMo_sum_118 rfl (lv_at hl 2 rfl) ?_
          refine fw_ialdN (pc := 119) (x := S22 (x9)) hx hb hK.1 hw 0 b2 rfl (x9) (by omega) (by decide) rfl dMo_sum_119 ?_
          rw [show (S22 (x9) : Int32) = (-1) from hsx]
          refine fw_iastN (pc := 120) (f2 := va_up S22 (x9) ((-1))) hx hb hK.1 hw 0 b2 rfl (x9) (by omega) (by decide) (rfl) dMo_sum_120 (fun H locs hw => ?_)
          obtain ⟨w205, e205⟩ : ∃ w_, w_ = fw_up w204 (b + 2) (.inl (cI, 24, .inl (va_up S22 (x9) ((-1))))) := ⟨_, rfl⟩
          have hw : fw_H D kCl (fw_A w (sz)) s.heap w205 (sz) H locs := by rw [e205]; exact hw
          have b0_ : w205 (b) = some (.inr (10, [.int (nI (I 0)), .ref (b + 1), .ref (b + 2), .int (nI (I 3)), .ref (b + 3), .ref (b + 4), .int (nI (I 6)), .int (nI (I 7)), .ref (b + 5), .ref (b + 6), .int (nI (I 10)), .int (nI (I 11)), .int (nI (I 12)), .int (nI (I 13)), .ref (b + 7), .ref (b + 8), .int (nI (I 16)), .int (nI (I 17)), .int (nI (I 18)), .int (nI (I 19))])) := by rw [e205, fw_un (by omega)]; exact b0
          have b1_ : w205 (b + 1) = some (.inl (cL, 1536, .inr (.inl (fun i => lN (mC X27 i))))) := by rw [e205, fw_un (by omega)]; exact b1
          have b2_ : w205 (b + 2) = some (.inl (cI, 24, .inl (va_up S22 (x9) ((-1))))) := by rw [e205]; exact fw_us _ _ _
          have b0 := b0_
          have b1 := b1_
          have b2 := b2_
          have hS : moS cI cL w205 b I K (va_up S22 (x9) ((-1))) (mC X27) := moS.cs hS b1 b2 (fun q h1 h2 => by rw [e205, fw_un h2])
          have hoF : ∀ q, q < b ∨ b + 9 ≤ q → w205 q = w q := fun q h9 => by rw [e205, fw_un (by omega)]; exact hoF q h9
          obtain ⟨S29, eS29⟩ : ∃ S_, S_ = va_up S22 (x9) ((-1)) := ⟨_, rfl⟩
          rw [← eS29] at hS
          have hv9 : ((-1) : Int32) = (-1) := rfl
          have hsy : S29 (x9 + 1) = sg32 b9 := by rw [eS29, up_o (by omega)]; exact hsy
          have hsO : S29 (23) = nI 1 := by rw [eS29, up_o (by omega)]; exact hsO
          have hsA : S29 (18) = nI 1 := by rw [eS29, up_o (by omega)]; exact hsA
          have hsx : S29 (x9) = (-1) := by rw [eS29]; exact up_s.trans hv9
          have hfr : ∀ p, p ≠ x9 → p < 18 ∨ 22 < p → X27 p = X p ∧ S29 p = S p := fun p h1 h2 => by rw [eS29, up_o (by omega)]; exact hfr p h1 h2
          have b0 : w205 b = some (.inr (10, [.int (nI (I 0)), .ref (b + 1), .ref (b + 2), .int (nI (I 3)), .ref (b + 3), .ref (b + 4), .int (nI (I 6)), .int (nI (I 7)), .ref (b + 5), .ref (b + 6), .int (nI (I 10)), .int (nI (I 11)), .int (nI (I 12)), .int (nI (I 13)), .ref (b + 7), .ref (b + 8), .int (nI (I 16)), .int (nI (I 17)), .int (nI (I 18)), .int (nI (I 19))])) := hS.1
          have b1 : w205 (b + 1) = some (.inl (cL, 1536, .inr (.inl (fun i => lN (mC X27 i))))) := hS.2.1
          have b2 : w205 (b + 2) = some (.inl (cI, 24, .inl (S29))) := hS.2.2.1
          refine lv_goto (pc := 121) (tgt := 140) hx hb dMo_sum_121 (by decide) ?_
          rw [show (-1) = sg32 (a9 + c9) from (sg32_n (by omega)).symm] at hsx
          refine lv_aload_n (pc := 140) hx hb dMo_sum_140 rfl (lv_at hl 1 rfl) ?_
          refine lv_iload_n (pc := 141) hx hb dMo_sum_141 rfl (lv_at hl 2 rfl) ?_
          refine fw_cVR (pc := 142) (As := [.int (nI x9)]) (rest := []) ⟨hx, hb, hml, hown, hW⟩ (c_Mo_isGreat hS hXb (by omega)) (cwV 1 hW (kw_V lm_Mo_152 im_Mo_isGreat se_Mo_isGreat ini_Mo cd_Mo_isGreat) rfl rfl rfl (by decide +kernel) ⟨Nat.le_of_ble_eq_true rfl, Nat.le_of_ble_eq_true rfl⟩) hK hw b0 rfl rfl hl.1 rfl (Nat.le_of_ble_eq_true rfl) dMo_sum_142 ⟨Nat.le_of_ble_eq_true rfl, Nat.le_of_ble_eq_true rfl⟩ (fun v hq => ?_)
          have hxr : X27 x9 = Int.natAbs (a9 + c9) := hxx
          rw [hxr] at hq
          by_cases hg9 : Int.natAbs (a9 + c9) < 2 ^ 768
          · subst hq
            rw [if_pos hg9]
            refine W.eq (g2 := F0 m 145 ls [.int (nI 0)]) rfl ?_
            refine lv_if_eq (pc := 145) (tgt := 153) hx hb dMo_sum_145 (by decide) (fun _ => ?_) (fun hc => absurd (show nI 0 = 0 by decide) hc)
            refine lv_iconst (pc := 153) (v := (nI 0)) hx hb dMo_sum_153 (by decide) ?_
            have hsp : sFit (a9 + c9) a9 = (0, (a9 + c9)) := (rfl : sFit (a9 + c9) a9 = sFit (a9 + c9) a9).trans (if_pos hg9)
            exact fw_iret (pc := 154) hx hb hr hlocks hw dMo_sum_154 ⟨by rw [hsp], ⟨_, _, hS, hXb, fun _ => by rw [hsp]; exact ⟨hxr, hsx⟩, hfr⟩, hoF⟩
          · subst hq
            rw [if_neg hg9]
            refine W.eq (g2 := F0 m 145 ls [.int (nI 1)]) rfl ?_
            refine lv_if_eq (pc := 145) (tgt := 153) hx hb dMo_sum_145 (by decide) (fun hc => absurd hc (show ¬ nI 1 = 0 by decide)) (fun _ => ?_)
            refine lv_bipush (pc := 148) (v := (nI 6)) hx hb dMo_sum_148 (by decide) ?_
            refine lv_goto (pc := 150) (tgt := 154) hx hb dMo_sum_150 (by decide) ?_
            have hsp : (sFit (a9 + c9) a9).1 = 6 := by rw [(rfl : sFit (a9 + c9) a9 = sFit (a9 + c9) a9), sFit_1, if_neg hg9]
            exact fw_iret (pc := 154) hx hb hr hlocks hw dMo_sum_154 ⟨by rw [hsp], ⟨_, _, hS, hXb, fun h9 => absurd h9 (by rw [hsp]; decide), hfr⟩, hoF⟩
  · rw [sg32_z ha90] at hsx
    rw [show (sg32 a9 : Int32) = nI 0 from (sg32_z ha90)]
    refine lv_if_ne (pc := 28) (tgt := 41) hx hb dMo_sum_28 (by decide) (fun hc => absurd hc (fun h => h (by decide))) (fun _ => ?_)
    refine lv_aload_n (pc := 31) hx hb dMo_sum_31 rfl (lv_at hl 0 rfl) ?_
    refine lv_bipush (pc := 32) (v := (nI 18)) hx hb dMo_sum_32 (by decide) ?_
    refine lv_iload_n (pc := 34) hx hb dMo_sum_34 rfl (lv_at hl 1 rfl) ?_
    refine fw_cV (pc := 35) (As := [.int (nI 18), .int (nI x9)]) (rest := []) ⟨hx, hb, hml, hown, hW⟩ (c_Mo_copy (pa := 18) (pc9 := x9) hS hXb (by omega) (by omega) (by omega)) (cwV 2 hW (kw_V lm_Mo_143 im_Mo_copy se_Mo_copy ini_Mo cd_Mo_copy) rfl rfl rfl (by decide +kernel) ⟨Nat.le_of_ble_eq_true rfl, Nat.le_of_ble_eq_true rfl⟩) hK hw b0 rfl rfl hl.1 rfl (Nat.le_of_ble_eq_true rfl) dMo_sum_35 ⟨Nat.le_of_ble_eq_true rfl, Nat.le_of_ble_eq_true rfl⟩ (fun v w206 H locs hq hw => ?_)
    obtain ⟨rfl, hS, hn9⟩ := hq
    have hoF : ∀ q, q < b ∨ b + 9 ≤ q → w206 q = w q := fun q h9 => (hn9 q h9).trans (hoF q h9)
    have hB9 : Int.natAbs c9 < nM ^ 64 := by rw [← hxA]; exact hXb _
    obtain ⟨X30, eX30⟩ : ∃ X_, X_ = va_up X20 (x9) (X20 (18)) := ⟨_, rfl⟩
    rw [← eX30] at hS
    have hv9 : X20 (18) = Int.natAbs c9 := hxA
    have hxy : X30 (x9 + 1) = Int.natAbs c9 := by rw [eX30, up_o (by omega)]; exact hxy
    have hxO : X30 (23) = 1 := by rw [eX30, up_o (by omega)]; exact hxO
    have hxA : X30 (18) = Int.natAbs c9 := by rw [eX30, up_o (by omega)]; exact hxA
    have hxx : X30 (x9) = Int.natAbs c9 := by rw [eX30]; exact up_s.trans hv9
    have hXb : ∀ p, X30 p < nM ^ 64 := fun p => by (rw [eX30]; unfold va_up; split; (rw [hv9]; exact hB9); exact hXb p)
    have hfr : ∀ p, p ≠ x9 → p < 18 ∨ 22 < p → X30 p = X p ∧ S22 p = S p := fun p h1 h2 => by rw [eX30, up_o (by omega)]; exact hfr p h1 h2
    obtain ⟨S31, eS31⟩ : ∃ S_, S_ = va_up S22 (x9) (S22 (18)) := ⟨_, rfl⟩
    rw [← eS31] at hS
    have hv9 : (S22 (18) : Int32) = sg32 c9 := hsA
    have hsy : S31 (x9 + 1) = sg32 b9 := by rw [eS31, up_o (by omega)]; exact hsy
    have hsO : S31 (23) = nI 1 := by rw [eS31, up_o (by omega)]; exact hsO
    have hsA : S31 (18) = sg32 c9 := by rw [eS31, up_o (by omega)]; exact hsA
    have hsx : S31 (x9) = sg32 c9 := by rw [eS31]; exact up_s.trans hv9
    have hfr : ∀ p, p ≠ x9 → p < 18 ∨ 22 < p → X30 p = X p ∧ S31 p = S p := fun p h1 h2 => by rw [eS31, up_o (by omega)]; exact hfr p h1 h2
    have b0 : w206 b = some (.inr (10, [.int (nI (I 0)), .ref (b + 1), .ref (b + 2), .int (nI (I 3)), .ref (b + 3), .ref (b + 4), .int (nI (I 6)), .int (nI (I 7)), .ref (b + 5), .ref (b + 6), .int (nI (I 10)), .int (nI (I 11)), .int (nI (I 12)), .int (nI (I 13)), .ref (b + 7), .ref (b + 8), .int (nI (I 16)), .int (nI (I 17)), .int (nI (I 18)), .int (nI (I 19))])) := hS.1
    have b1 : w206 (b + 1) = some (.inl (cL, 1536, .inr (.inl (fun i => lN (mC X30 i))))) := hS.2.1
    have b2 : w206 (b + 2) = some (.inl (cI, 24, .inl (S31))) := hS.2.2.1
    refine W.eq (g2 := F0 m 38 ls []) rfl ?_
    refine lv_goto (pc := 38) (tgt := 140) hx hb dMo_sum_38 (by decide) ?_
    have hr9 : a9 + c9 = c9 := by omega
    rw [← hr9] at hxx hsx
    refine lv_aload_n (pc := 140) hx hb dMo_sum_140 rfl (lv_at hl 0 rfl) ?_
    refine lv_iload_n (pc := 141) hx hb dMo_sum_141 rfl (lv_at hl 1 rfl) ?_
    refine fw_cVR (pc := 142) (As := [.int (nI x9)]) (rest := []) ⟨hx, hb, hml, hown, hW⟩ (c_Mo_isGreat hS hXb (by omega)) (cwV 1 hW (kw_V lm_Mo_152 im_Mo_isGreat se_Mo_isGreat ini_Mo cd_Mo_isGreat) rfl rfl rfl (by decide +kernel) ⟨Nat.le_of_ble_eq_true rfl, Nat.le_of_ble_eq_true rfl⟩) hK hw b0 rfl rfl hl.1 rfl (Nat.le_of_ble_eq_true rfl) dMo_sum_142 ⟨Nat.le_of_ble_eq_true rfl, Nat.le_of_ble_eq_true rfl⟩ (fun v hq => ?_)
    have hxr : X30 x9 = Int.natAbs (a9 + c9) := hxx
    rw [hxr] at hq
    by_cases hg9 : Int.natAbs (a9 + c9) < 2 ^ 768
    · subst hq
      rw [if_pos hg9]
      refine W.eq (g2 := F0 m 145 ls [.int (nI 0)]) rfl ?_
      refine lv_if_eq (pc := 145) (tgt := 153) hx hb dMo_sum_145 (by decide) (fun _ => ?_) (fun hc => absurd (show nI 0 = 0 by decide) hc)
      refine lv_iconst (pc := 153) (v := (nI 0)) hx hb dMo_sum_153 (by decide) ?_
      have hsp : sFit (a9 + c9) a9 = (0, (a9 + c9)) := (rfl : sFit (a9 + c9) a9 = sFit (a9 + c9) a9).trans (if_pos hg9)
      exact fw_iret (pc := 154) hx hb hr hlocks hw dMo_sum_154 ⟨by rw [hsp], ⟨_, _, hS, hXb, fun _ => by rw [hsp]; exact ⟨hxr, hsx⟩, hfr⟩, hoF⟩
    · subst hq
      rw [if_neg hg9]
      refine W.eq (g2 := F0 m 145 ls [.int (nI 1)]) rfl ?_
      refine lv_if_eq (pc := 145) (tgt := 153) hx hb dMo_sum_145 (by decide) (fun hc => absurd hc (show ¬ nI 1 = 0 by decide)) (fun _ => ?_)
      refine lv_bipush (pc := 148) (v := (nI 6)) hx hb dMo_sum_148 (by decide) ?_
      refine lv_goto (pc := 150) (tgt := 154) hx hb dMo_sum_150 (by decide) ?_
      have hsp : (sFit (a9 + c9) a9).1 = 6 := by rw [(rfl : sFit (a9 + c9) a9 = sFit (a9 + c9) a9), sFit_1, if_neg hg9]
      exact fw_iret (pc := 154) hx hb hr hlocks hw dMo_sum_154 ⟨by rw [hsp], ⟨_, _, hS, hXb, fun h9 => absurd h9 (by rw [hsp]; decide), hfr⟩, hoF⟩
  · rw [sg32_p ha90] at hsx
    rw [show (sg32 a9 : Int32) = nI 1 from (sg32_p ha90)]
    refine lv_if_ne (pc := 28) (tgt := 41) hx hb dMo_sum_28 (by decide) (fun _ => ?_) (fun hc => absurd hc (by decide))
    refine lv_aload_n (pc := 41) hx hb dMo_sum_41 rfl (lv_at hl 0 rfl) ?_
    refine fw_get (pc := 42) (ci := 10) (v := .ref (b + 2)) (C := RMo) (T := TMo) (N := 20) hx hb hW in_Mo hown hK.1 hw b0 rfl 2 (by decide) (hW _ lf_Mo_13) (fun _ h => h) rfl dMo_sum_42 ?_
    refine lv_bipush (pc := 45) (v := (nI 18)) hx hb dMo_sum_45 (by decide) ?_
    refine fw_ialdN (pc := 47) (x := S22 (18)) hx hb hK.1 hw 0 b2 rfl (18) (by omega) (by decide) rfl dMo_sum_47 ?_
    rw [show (S22 (18) : Int32) = sg32 c9 from hsA]
    refine lv_aload_n (pc := 48) hx hb dMo_sum_48 rfl (lv_at hl 0 rfl) ?_
    refine fw_get (pc := 49) (ci := 10) (v := .ref (b + 2)) (C := RMo) (T := TMo) (N := 20) hx hb hW in_Mo hown hK.1 hw b0 rfl 2 (by decide) (hW _ lf_Mo_13) (fun _ h => h) rfl dMo_sum_49 ?_
    refine lv_iload_n (pc := 52) hx hb dMo_sum_52 rfl (lv_at hl 1 rfl) ?_
    refine fw_ialdN (pc := 53) (x := S22 (x9)) hx hb hK.1 hw 0 b2 rfl (x9) (by omega) (by decide) rfl dMo_sum_53 ?_
    rw [show (S22 (x9) : Int32) = nI 1 from hsx]
    rcases Int.lt_trichotomy c9 0 with hc90 | hc90 | hc90
    · rw [sg32_n hc90]
      rw [sg32_n hc90] at hsA
      refine lv_icmp_ne (pc := 54) (tgt := 67) hx hb dMo_sum_54 (by decide) (fun _ => ?_) (fun hc => absurd hc (by decide))
      refine lv_aload_n (pc := 67) hx hb dMo_sum_67 rfl (lv_at hl 0 rfl) ?_
      refine fw_get (pc := 68) (ci := 10) (v := .ref (b + 2)) (C := RMo) (T := TMo) (N := 20) hx hb hW in_Mo hown hK.1 hw b0 rfl 2 (by decide) (hW _ lf_Mo_13) (fun _ h => h) rfl dMo_sum_68 ?_
      refine lv_bipush (pc := 71) (v := (nI 18)) hx hb dMo_sum_71 (by decide) ?_
      refine fw_ialdN (pc := 73) (x := S22 (18)) hx hb hK.1 hw 0 b2 rfl (18) (by omega) (by decide) rfl dMo_sum_73 ?_
      rw [show (S22 (18) : Int32) = (-1) from hsA]
      refine lv_if_eq (pc := 74) (tgt := 140) hx hb dMo_sum_74 (by decide) (fun hc => absurd hc (by decide)) (fun _ => ?_)
      refine lv_aload_n (pc := 77) hx hb dMo_sum_77 rfl (lv_at hl 0 rfl) ?_
      refine lv_iload_n (pc := 78) hx hb dMo_sum_78 rfl (lv_at hl 1 rfl) ?_
      refine lv_bipush (pc := 79) (v := (nI 18)) hx hb dMo_sum_79 (by decide) ?_
      refine fw_cVR (pc := 81) (As := [.int (nI x9), .int (nI 18)]) (rest := []) ⟨hx, hb, hml, hown, hW⟩ (c_Mo_order (pa := x9) (pb := 18) hS hXb (by omega) (by omega)) (cwV 2 hW (kw_V lm_Mo_149 im_Mo_order se_Mo_order ini_Mo cd_Mo_order) rfl rfl rfl (by decide +kernel) ⟨Nat.le_of_ble_eq_true rfl, Nat.le_of_ble_eq_true rfl⟩) hK hw b0 rfl rfl hl.1 rfl (Nat.le_of_ble_eq_true rfl) dMo_sum_81 ⟨Nat.le_of_ble_eq_true rfl, Nat.le_of_ble_eq_true rfl⟩ (fun v hq => ?_)
      rw [hxx, hxA] at hq
      subst hq
      refine W.eq (g2 := F0 m 84 ls [.int (ordI (Int.natAbs a9) (Int.natAbs c9))]) rfl ?_
      refine lv_istore (pc := 84) (lv' := [(4, .int (ordI (Int.natAbs a9) (Int.natAbs c9))), (0, .ref b), (1, .int (nI x9)), (2, .int (nI (x9 + 1))), (3, .int (-1))]) hx hb dMo_sum_84 hl (by decide) rfl (fun ls hl => ?_)
      refine lv_iload (pc := 86) hx hb dMo_sum_86 (lv_at hl 0 rfl) ?_
      refine lv_if_lt (pc := 88) (tgt := 124) hx hb dMo_sum_88 (by decide) (fun hlt => ?_) (fun hlt => ?_)
      · have hl9 : Int.natAbs a9 < Int.natAbs c9 := Nat.lt_of_not_le (fun h9 => absurd ((ordI_ge0 _ _).mpr h9) (Int32.not_le.mpr hlt))
        refine lv_aload_n (pc := 124) hx hb dMo_sum_124 rfl (lv_at hl 1 rfl) ?_
        refine lv_bipush (pc := 125) (v := (nI 18)) hx hb dMo_sum_125 (by decide) ?_
        refine lv_iload_n (pc := 127) hx hb dMo_sum_127 rfl (lv_at hl 2 rfl) ?_
        refine lv_lconst (pc := 128) (v := lN 1) hx hb dMo_sum_128 (by decide) ?_
        refine lv_iconst (pc := 129) (v := (nI 0)) hx hb dMo_sum_129 (by decide) ?_
        refine fw_cV (pc := 130) (As := [.int (nI 18), .int (nI x9), .long (lN 1), .int (nI 0)]) (rest := []) ⟨hx, hb, hml, hown, hW⟩ (c_Mo_takeFrom (pa := 18) (pb := x9) (t9 := 1) (h9 := 0) hS hXb (by omega) (by omega) (by omega) (by decide) (by decide) (by rw [hxx, hxA, Nat.pow_zero]; omega)) (cwV 4 hW (kw_V lm_Mo_135 im_Mo_takeFrom se_Mo_takeFrom ini_Mo cd_Mo_takeFrom) rfl rfl rfl (by decide +kernel) ⟨Nat.le_of_ble_eq_true rfl, Nat.le_of_ble_eq_true rfl⟩) hK hw b0 rfl rfl hl.1 rfl (Nat.le_of_ble_eq_true rfl) dMo_sum_130 ⟨Nat.le_of_ble_eq_true rfl, Nat.le_of_ble_eq_true rfl⟩ (fun v w207 H locs hq hw => ?_)
        obtain ⟨rfl, hS, hn9⟩ := hq
        have hoF : ∀ q, q < b ∨ b + 9 ≤ q → w207 q = w q := fun q h9 => (hn9 q h9).trans (hoF q h9)
        have hB9 : Int.natAbs (a9 + c9) < nM ^ 64 := Nat.lt_trans (show Int.natAbs (a9 + c9) < 2 ^ 768 by omega) p64
        obtain ⟨X32, eX32⟩ : ∃ X_, X_ = va_up X20 (18) (X20 18 - 1 * X20 (x9) * nM ^ 0) := ⟨_, rfl⟩
        rw [← eX32] at hS
        have hv9 : X20 18 - 1 * X20 (x9) * nM ^ 0 = Int.natAbs (a9 + c9) := (by rw [hxx, hxA, Nat.pow_zero]; omega)
        have hxx : X32 (x9) = Int.natAbs a9 := by rw [eX32, up_o (by omega)]; exact hxx
        have hxy : X32 (x9 + 1) = Int.natAbs c9 := by rw [eX32, up_o (by omega)]; exact hxy
        have hxO : X32 (23) = 1 := by rw [eX32, up_o (by omega)]; exact hxO
        have hxA : X32 (18) = Int.natAbs (a9 + c9) := by rw [eX32]; exact up_s.trans hv9
        have hXb : ∀ p, X32 p < nM ^ 64 := fun p => by (rw [eX32]; unfold va_up; split; (rw [hv9]; exact hB9); exact hXb p)
        have hfr : ∀ p, p ≠ x9 → p < 18 ∨ 22 < p → X32 p = X p ∧ S22 p = S p := fun p h1 h2 => by rw [eX32, up_o (by omega)]; exact hfr p h1 h2
        have b0 : w207 b = some (.inr (10, [.int (nI (I 0)), .ref (b + 1), .ref (b + 2), .int (nI (I 3)), .ref (b + 3), .ref (b + 4), .int (nI (I 6)), .int (nI (I 7)), .ref (b + 5), .ref (b + 6), .int (nI (I 10)), .int (nI (I 11)), .int (nI (I 12)), .int (nI (I 13)), .ref (b + 7), .ref (b + 8), .int (nI (I 16)), .int (nI (I 17)), .int (nI (I 18)), .int (nI (I 19))])) := hS.1
        have b1 : w207 (b + 1) = some (.inl (cL, 1536, .inr (.inl (fun i => lN (mC X32 i))))) := hS.2.1
        have b2 : w207 (b + 2) = some (.inl (cI, 24, .inl (S22))) := hS.2.2.1
        refine W.eq (g2 := F0 m 133 ls []) rfl ?_
        refine lv_aload_n (pc := 133) hx hb dMo_sum_133 rfl (lv_at hl 1 rfl) ?_
        refine lv_bipush (pc := 134) (v := (nI 18)) hx hb dMo_sum_134 (by decide) ?_
        refine lv_iload_n (pc := 136) hx hb dMo_sum_136 rfl (lv_at hl 2 rfl) ?_
        refine fw_cV (pc := 137) (As := [.int (nI 18), .int (nI x9)]) (rest := []) ⟨hx, hb, hml, hown, hW⟩ (c_Mo_copy (pa := 18) (pc9 := x9) hS hXb (by omega) (by omega) (by omega)) (cwV 2 hW (kw_V lm_Mo_143 im_Mo_copy se_Mo_copy ini_Mo cd_Mo_copy) rfl rfl rfl (by decide +kernel) ⟨Nat.le_of_ble_eq_true rfl, Nat.le_of_ble_eq_true rfl⟩) hK hw b0 rfl rfl hl.1 rfl (Nat.le_of_ble_eq_true rfl) dMo_sum_137 ⟨Nat.le_of_ble_eq_true rfl, Nat.le_of_ble_eq_true rfl⟩ (fun v w208 H locs hq hw => ?_)
        obtain ⟨rfl, hS, hn9⟩ := hq
        have hoF : ∀ q, q < b ∨ b + 9 ≤ q → w208 q = w q := fun q h9 => (hn9 q h9).trans (hoF q h9)
        have hB9 : Int.natAbs (a9 + c9) < nM ^ 64 := by rw [← hxA]; exact hXb _
        obtain ⟨X33, eX33⟩ : ∃ X_, X_ = va_up X32 (x9) (X32 (18)) := ⟨_, rfl⟩
        rw [← eX33] at hS
        have hv9 : X32 (18) = Int.natAbs (a9 + c9) := hxA
        have hxy : X33 (x9 + 1) = Int.natAbs c9 := by rw [eX33, up_o (by omega)]; exact hxy
        have hxO : X33 (23) = 1 := by rw [eX33, up_o (by omega)]; exact hxO
        have hxA : X33 (18) = Int.natAbs (a9 + c9) := by rw [eX33, up_o (by omega)]; exact hxA
        have hxx : X33 (x9) = Int.natAbs (a9 + c9) := by rw [eX33]; exact up_s.trans hv9
        have hXb : ∀ p, X33 p < nM ^ 64 := fun p => by (rw [eX33]; unfold va_up; split; (rw [hv9]; exact hB9); exact hXb p)
        have hfr : ∀ p, p ≠ x9 → p < 18 ∨ 22 < p → X33 p = X p ∧ S22 p = S p := fun p h1 h2 => by rw [eX33, up_o (by omega)]; exact hfr p h1 h2
        obtain ⟨S34, eS34⟩ : ∃ S_, S_ = va_up S22 (x9) (S22 (18)) := ⟨_, rfl⟩
        rw [← eS34] at hS
        have hv9 : (S22 (18) : Int32) = (-1) := hsA
        have hsy : S34 (x9 + 1) = sg32 b9 := by rw [eS34, up_o (by omega)]; exact hsy
        have hsO : S34 (23) = nI 1 := by rw [eS34, up_o (by omega)]; exact hsO
        have hsA : S34 (18) = (-1) := by rw [eS34, up_o (by omega)]; exact hsA
        have hsx : S34 (x9) = (-1) := by rw [eS34]; exact up_s.trans hv9
        have hfr : ∀ p, p ≠ x9 → p < 18 ∨ 22 < p → X33 p = X p ∧ S34 p = S p := fun p h1 h2 => by rw [eS34, up_o (by omega)]; exact hfr p h1 h2
        have b0 : w208 b = some (.inr (10, [.int (nI (I 0)), .ref (b + 1), .ref (b + 2), .int (nI (I 3)), .ref (b + 3), .ref (b + 4), .int (nI (I 6)), .int (nI (I 7)), .ref (b + 5), .ref (b + 6), .int (nI (I 10)), .int (nI (I 11)), .int (nI (I 12)), .int (nI (I 13)), .ref (b + 7), .ref (b + 8), .int (nI (I 16)), .int (nI (I 17)), .int (nI (I 18)), .int (nI (I 19))])) := hS.1
        have b1 : w208 (b + 1) = some (.inl (cL, 1536, .inr (.inl (fun i => lN (mC X33 i))))) := hS.2.1
        have b2 : w208 (b + 2) = some (.inl (cI, 24, .inl (S34))) := hS.2.2.1
        refine W.eq (g2 := F0 m 140 ls []) rfl ?_
        rw [show (-1) = sg32 (a9 + c9) from (sg32_n (by omega)).symm] at hsx
        refine lv_aload_n (pc := 140) hx hb dMo_sum_140 rfl (lv_at hl 1 rfl) ?_
        refine lv_iload_n (pc := 141) hx hb dMo_sum_141 rfl (lv_at hl 2 rfl) ?_
        refine fw_cVR (pc := 142) (As := [.int (nI x9)]) (rest := []) ⟨hx, hb, hml, hown, hW⟩ (c_Mo_isGreat hS hXb (by omega)) (cwV 1 hW (kw_V lm_Mo_152 im_Mo_isGreat se_Mo_isGreat ini_Mo cd_Mo_isGreat) rfl rfl rfl (by decide +kernel) ⟨Nat.le_of_ble_eq_true rfl, Nat.le_of_ble_eq_true rfl⟩) hK hw b0 rfl rfl hl.1 rfl (Nat.le_of_ble_eq_true rfl) dMo_sum_142 ⟨Nat.le_of_ble_eq_true rfl, Nat.le_of_ble_eq_true rfl⟩ (fun v hq => ?_)
        have hxr : X33 x9 = Int.natAbs (a9 + c9) := hxx
        rw [hxr] at hq
        by_cases hg9 : Int.natAbs (a9 + c9) < 2 ^ 768
        · subst hq
          rw [if_pos hg9]
          refine W.eq (g2 := F0 m 145 ls [.int (nI 0)]) rfl ?_
          refine lv_if_eq (pc := 145) (tgt := 153) hx hb dMo_sum_145 (by decide) (fun _ => ?_) (fun hc => absurd (show nI 0 = 0 by decide) hc)
          refine lv_iconst (pc := 153) (v := (nI 0)) hx hb dMo_sum_153 (by decide) ?_
          have hsp : sFit (a9 + c9) a9 = (0, (a9 + c9)) := (rfl : sFit (a9 + c9) a9 = sFit (a9 + c9) a9).trans (if_pos hg9)
          exact fw_iret (pc := 154) hx hb hr hlocks hw dMo_sum_154 ⟨by rw [hsp], ⟨_, _, hS, hXb, fun _ => by rw [hsp]; exact ⟨hxr, hsx⟩, hfr⟩, hoF⟩
        · subst hq
          rw [if_neg hg9]
          refine W.eq (g2 := F0 m 145 ls [.int (nI 1)]) rfl ?_
          refine lv_if_eq (pc := 145) (tgt := 153) hx hb dMo_sum_145 (by decide) (fun hc => absurd hc (show ¬ nI 1 = 0 by decide)) (fun _ => ?_)
          refine lv_bipush (pc := 148) (v := (nI 6)) hx hb dMo_sum_148 (by decide) ?_
          refine lv_goto (pc := 150) (tgt := 154) hx hb dMo_sum_150 (by decide) ?_
          have hsp : (sFit (a9 + c9) a9).1 = 6 := by rw [(rfl : sFit (a9 + c9) a9 = sFit (a9 + c9) a9), sFit_1, if_neg hg9]
          exact fw_iret (pc := 154) hx hb hr hlocks hw dMo_sum_154 ⟨by rw [hsp], ⟨_, _, hS, hXb, fun h9 => absurd h9 (by rw [hsp]; decide), hfr⟩, hoF⟩
      · have hl9 : Int.natAbs c9 ≤ Int.natAbs a9 := (ordI_ge0 _ _).mp (Int32.not_lt.mp hlt)
        refine lv_aload_n (pc := 91) hx hb dMo_sum_91 rfl (lv_at hl 1 rfl) ?_
        refine lv_iload_n (pc := 92) hx hb dMo_sum_92 rfl (lv_at hl 2 rfl) ?_
        refine lv_bipush (pc := 93) (v := (nI 18)) hx hb dMo_sum_93 (by decide) ?_
        refine lv_lconst (pc := 95) (v := lN 1) hx hb dMo_sum_95 (by decide) ?_
        refine lv_iconst (pc := 96) (v := (nI 0)) hx hb dMo_sum_96 (by decide) ?_
        refine fw_cV (pc := 97) (As := [.int (nI x9), .int (nI 18), .long (lN 1), .int (nI 0)]) (rest := []) ⟨hx, hb, hml, hown, hW⟩ (c_Mo_takeFrom (pa := x9) (pb := 18) (t9 := 1) (h9 := 0) hS hXb (by omega) (by omega) (by omega) (by decide) (by decide) (by rw [hxx, hxA, Nat.pow_zero]; omega)) (cwV 4 hW (kw_V lm_Mo_135 im_Mo_takeFrom se_Mo_takeFrom ini_Mo cd_Mo_takeFrom) rfl rfl rfl (by decide +kernel) ⟨Nat.le_of_ble_eq_true rfl, Nat.le_of_ble_eq_true rfl⟩) hK hw b0 rfl rfl hl.1 rfl (Nat.le_of_ble_eq_true rfl) dMo_sum_97 ⟨Nat.le_of_ble_eq_true rfl, Nat.le_of_ble_eq_true rfl⟩ (fun v w207 H locs hq hw => ?_)
        obtain ⟨rfl, hS, hn9⟩ := hq
        have hoF : ∀ q, q < b ∨ b + 9 ≤ q → w207 q = w q := fun q h9 => (hn9 q h9).trans (hoF q h9)
        have hB9 : Int.natAbs (a9 + c9) < nM ^ 64 := Nat.lt_trans (show Int.natAbs (a9 + c9) < 2 ^ 768 by omega) p64
        obtain ⟨X35, eX35⟩ : ∃ X_, X_ = va_up X20 (x9) (X20 (x9) - 1 * X20 18 * nM ^ 0) := ⟨_, rfl⟩
        rw [← eX35] at hS
        have hv9 : X20 (x9) - 1 * X20 18 * nM ^ 0 = Int.natAbs (a9 + c9) := (by rw [hxx, hxA, Nat.pow_zero]; omega)
        have hxy : X35 (x9 + 1) = Int.natAbs c9 := by rw [eX35, up_o (by omega)]; exact hxy
        have hxO : X35 (23) = 1 := by rw [eX35, up_o (by omega)]; exact hxO
        have hxA : X35 (18) = Int.natAbs c9 := by rw [eX35, up_o (by omega)]; exact hxA
        have hxx : X35 (x9) = Int.natAbs (a9 + c9) := by rw [eX35]; exact up_s.trans hv9
        have hXb : ∀ p, X35 p < nM ^ 64 := fun p => by (rw [eX35]; unfold va_up; split; (rw [hv9]; exact hB9); exact hXb p)
        have hfr : ∀ p, p ≠ x9 → p < 18 ∨ 22 < p → X35 p = X p ∧ S22 p = S p := fun p h1 h2 => by rw [eX35, up_o (by omega)]; exact hfr p h1 h2
        have b0 : w207 b = some (.inr (10, [.int (nI (I 0)), .ref (b + 1), .ref (b + 2), .int (nI (I 3)), .ref (b + 3), .ref (b + 4), .int (nI (I 6)), .int (nI (I 7)), .ref (b + 5), .ref (b + 6), .int (nI (I 10)), .int (nI (I 11)), .int (nI (I 12)), .int (nI (I 13)), .ref (b + 7), .ref (b + 8), .int (nI (I 16)), .int (nI (I 17)), .int (nI (I 18)), .int (nI (I 19))])) := hS.1
        have b1 : w207 (b + 1) = some (.inl (cL, 1536, .inr (.inl (fun i => lN (mC X35 i))))) := hS.2.1
        have b2 : w207 (b + 2) = some (.inl (cI, 24, .inl (S22))) := hS.2.2.1
        refine W.eq (g2 := F0 m 100 ls []) rfl ?_
        refine lv_aload_n (pc := 100) hx hb dMo_sum_100 rfl (lv_at hl 1 rfl) ?_
        refine fw_get (pc := 101) (ci := 10) (v := .ref (b + 2)) (C := RMo) (T := TMo) (N := 20) hx hb hW in_Mo hown hK.1 hw b0 rfl 2 (by decide) (hW _ lf_Mo_13) (fun _ h => h) rfl dMo_sum_101 ?_
        refine lv_iload_n (pc := 104) hx hb dMo_sum_104 rfl (lv_at hl 2 rfl) ?_
        refine lv_iload (pc := 105) hx hb dMo_sum_105 (lv_at hl 0 rfl) ?_
        rcases Nat.eq_or_lt_of_le hl9 with he9 | he9
        · rw [show (ordI (Int.natAbs a9) (Int.natAbs c9) : Int32) = nI 0 from (ordI_eq he9.symm)]
          refine lv_if_ne (pc := 107) (tgt := 114) hx hb dMo_sum_107 (by decide) (fun hc => absurd hc (fun h => h (by decide))) (fun _ => ?_)
          refine lv_iconst (pc := 110) (v := (nI 0)) hx hb dMo_sum_110 (by decide) ?_
          refine lv_goto (pc := 111) (tgt := 120) hx hb dMo_sum_111 (by decide) ?_
          refine fw_iastN (pc := 120) (f2 := va_up S22 (x9) (nI 0)) hx hb hK.1 hw 0 b2 rfl (x9) (by omega) (by decide) (rfl) dMo_sum_120 (fun H locs hw => ?_)
          obtain ⟨w208, e208⟩ : ∃ w_, w_ = fw_up w207 (b + 2) (.inl (cI, 24, .inl (va_up S22 (x9) (nI 0)))) := ⟨_, rfl⟩
          have hw : fw_H D kCl (fw_A w (sz)) s.heap w208 (sz) H locs := by rw [e208]; exact hw
          have b0_ : w208 (b) = some (.inr (10, [.int (nI (I 0)), .ref (b + 1), .ref (b + 2), .int (nI (I 3)), .ref (b + 3), .ref (b + 4), .int (nI (I 6)), .int (nI (I 7)), .ref (b + 5), .ref (b + 6), .int (nI (I 10)), .int (nI (I 11)), .int (nI (I 12)), .int (nI (I 13)), .ref (b + 7), .ref (b + 8), .int (nI (I 16)), .int (nI (I 17)), .int (nI (I 18)), .int (nI (I 19))])) := by rw [e208, fw_un (by omega)]; exact b0
          have b1_ : w208 (b + 1) = some (.inl (cL, 1536, .inr (.inl (fun i => lN (mC X35 i))))) := by rw [e208, fw_un (by omega)]; exact b1
          have b2_ : w208 (b + 2) = some (.inl (cI, 24, .inl (va_up S22 (x9) (nI 0)))) := by rw [e208]; exact fw_us _ _ _
          have b0 := b0_
          have b1 := b1_
          have b2 := b2_
          have hS : moS cI cL w208 b I K (va_up S22 (x9) (nI 0)) (mC X35) := moS.cs hS b1 b2 (fun q h1 h2 => by rw [e208, fw_un h2])
          have hoF : ∀ q, q < b ∨ b + 9 ≤ q → w208 q = w q := fun q h9 => by rw [e208, fw_un (by omega)]; exact hoF q h9
          obtain ⟨S36, eS36⟩ : ∃ S_, S_ = va_up S22 (x9) (nI 0) := ⟨_, rfl⟩
          rw [← eS36] at hS
          have hv9 : (nI 0 : Int32) = nI 0 := rfl
          have hsy : S36 (x9 + 1) = sg32 b9 := by rw [eS36, up_o (by omega)]; exact hsy
          have hsO : S36 (23) = nI 1 := by rw [eS36, up_o (by omega)]; exact hsO
          have hsA : S36 (18) = (-1) := by rw [eS36, up_o (by omega)]; exact hsA
          have hsx : S36 (x9) = nI 0 := by rw [eS36]; exact up_s.trans hv9
          have hfr : ∀ p, p ≠ x9 → p < 18 ∨ 22 < p → X35 p = X p ∧ S36 p = S p := fun p h1 h2 => by rw [eS36, up_o (by omega)]; exact hfr p h1 h2
          have b0 : w208 b = some (.inr (10, [.int (nI (I 0)), .ref (b + 1), .ref (b + 2), .int (nI (I 3)), .ref (b + 3), .ref (b + 4), .int (nI (I 6)), .int (nI (I 7)), .ref (b + 5), .ref (b + 6), .int (nI (I 10)), .int (nI (I 11)), .int (nI (I 12)), .int (nI (I 13)), .ref (b + 7), .ref (b + 8), .int (nI (I 16)), .int (nI (I 17)), .int (nI (I 18)), .int (nI (I 19))])) := hS.1
          have b1 : w208 (b + 1) = some (.inl (cL, 1536, .inr (.inl (fun i => lN (mC X35 i))))) := hS.2.1
          have b2 : w208 (b + 2) = some (.inl (cI, 24, .inl (S36))) := hS.2.2.1
          refine lv_goto (pc := 121) (tgt := 140) hx hb dMo_sum_121 (by decide) ?_
          rw [show nI 0 = sg32 (a9 + c9) from (sg32_z (by omega)).symm] at hsx
          refine lv_aload_n (pc := 140) hx hb dMo_sum_140 rfl (lv_at hl 1 rfl) ?_
          refine lv_iload_n (pc := 141) hx hb dMo_sum_141 rfl (lv_at hl 2 rfl) ?_
          refine fw_cVR (pc := 142) (As := [.int (nI x9)]) (rest := []) ⟨hx, hb, hml, hown, hW⟩ (c_Mo_isGreat hS hXb (by omega)) (cwV 1 hW (kw_V lm_Mo_152 im_Mo_isGreat se_Mo_isGreat ini_Mo cd_Mo_isGreat) rfl rfl rfl (by decide +kernel) ⟨Nat.le_of_ble_eq_true rfl, Nat.le_of_ble_eq_true rfl⟩) hK hw b0 rfl rfl hl.1 rfl (Nat.le_of_ble_eq_true rfl) dMo_sum_142 ⟨Nat.le_of_ble_eq_true rfl, Nat.le_of_ble_eq_true rfl⟩ (fun v hq => ?_)
          have hxr : X35 x9 = Int.natAbs (a9 + c9) := hxx
          rw [hxr] at hq
          by_cases hg9 : Int.natAbs (a9 + c9) < 2 ^ 768
          · subst hq
            rw [if_pos hg9]
            refine W.eq (g2 := F0 m 145 ls [.int (nI 0)]) rfl ?_
            refine lv_if_eq (pc := 145) (tgt := 153) hx hb dMo_sum_145 (by decide) (fun _ => ?_) (fun hc => absurd (show nI 0 = 0 by decide) hc)
            refine lv_iconst (pc := 153) (v := (nI 0)) hx hb dMo_sum_153 (by decide) ?_
            have hsp : sFit (a9 + c9) a9 = (0, (a9 + c9)) := (rfl : sFit (a9 + c9) a9 = sFit (a9 + c9) a9).trans (if_pos hg9)
            exact fw_iret (pc := 154) hx hb hr hlocks hw dMo_sum_154 ⟨by rw [hsp], ⟨_, _, hS, hXb, fun _ => by rw [hsp]; exact ⟨hxr, hsx⟩, hfr⟩, hoF⟩
          · subst hq
            rw [if_neg hg9]
            refine W.eq (g2 := F0 m 145 ls [.int (nI 1)]) rfl ?_
            refine lv_if_eq (pc := 145) (tgt := 153) hx hb dMo_sum_145 (by decide) (fun hc => absurd hc (show ¬ nI 1 = 0 by decide)) (fun _ => ?_)
            refine lv_bipush (pc := 148) (v := (nI 6)) hx hb dMo_sum_148 (by decide) ?_
            refine lv_goto (pc := 150) (tgt := 154) hx hb dMo_sum_150 (by decide) ?_
            have hsp : (sFit (a9 + c9) a9).1 = 6 := by rw [(rfl : sFit (a9 + c9) a9 = sFit (a9 + c9) a9), sFit_1, if_neg hg9]
            exact fw_iret (pc := 154) hx hb hr hlocks hw dMo_sum_154 ⟨by rw [hsp], ⟨_, _, hS, hXb, fun h9 => absurd h9 (by rw [hsp]; decide), hfr⟩, hoF⟩
        · rw [show (ordI (Int.natAbs a9) (Int.natAbs c9) : Int32) = nI 1 from (ordI_gt he9)]
          refine lv_if_ne (pc := 107) (tgt := 114) hx hb dMo_sum_107 (by decide) (fun _ => ?_) (fun hc => absurd hc (by decide))
          refine lv_aload_n (pc := 114) hx hb dMo_sum_114 rfl (lv_at hl 1 rfl) ?_
          refine fw_get (pc := 115) (ci := 10) (v := .ref (b + 2)) (C := RMo) (T := TMo) (N := 20) hx hb hW in_Mo hown hK.1 hw b0 rfl 2 (by decide) (hW _ lf_Mo_13) (fun _ h => h) rfl dMo_sum_115 ?_
          refine lv_iload_n (pc := 118) hx hb dMo_sum_118 rfl (lv_at hl 2 rfl) ?_
          refine fw_ialdN (pc := 119) (x := S22 (x9)) hx hb hK.1 hw 0 b2 rfl (x9) (by omega) (by decide) rfl dMo_sum_119 ?_
          rw [show (S22 (x9) : Int32) = nI 1 from hsx]
          refine fw_iastN (pc := 120) (f2 := va_up S22 (x9) (nI 1)) hx hb hK.1 hw 0 b2 rfl (x9) (by omega) (by decide) (rfl) dMo_sum_120 (fun H locs hw => ?_)
          obtain ⟨w208, e208⟩ : ∃ w_, w_ = fw_up w207 (b + 2) (.inl (cI, 24, .inl (va_up S22 (x9) (nI 1)))) := ⟨_, rfl⟩
          have hw : fw_H D kCl (fw_A w (sz)) s.heap w208 (sz) H locs := by rw [e208]; exact hw
          have b0_ : w208 (b) = some (.inr (10, [.int (nI (I 0)), .ref (b + 1), .ref (b + 2), .int (nI (I 3)), .ref (b + 3), .ref (b + 4), .int (nI (I 6)), .int (nI (I 7)), .ref (b + 5), .ref (b + 6), .int (nI (I 10)), .int (nI (I 11)), .int (nI (I 12)), .int (nI (I 13)), .ref (b + 7), .ref (b + 8), .int (nI (I 16)), .int (nI (I 17)), .int (nI (I 18)), .int (nI (I 19))])) := by rw [e208, fw_un (by omega)]; exact b0
          have b1_ : w208 (b + 1) = some (.inl (cL, 1536, .inr (.inl (fun i => lN (mC X35 i))))) := by rw [e208, fw_un (by omega)]; exact b1
          have b2_ : w208 (b + 2) = some (.inl (cI, 24, .inl (va_up S22 (x9) (nI 1)))) := by rw [e208]; exact fw_us _ _ _
          have b0 := b0_
          have b1 := b1_
          have b2 := b2_
          have hS : moS cI cL w208 b I K (va_up S22 (x9) (nI 1)) (mC X35) := moS.cs hS b1 b2 (fun q h1 h2 => by rw [e208, fw_un h2])
          have hoF : ∀ q, q < b ∨ b + 9 ≤ q → w208 q = w q := fun q h9 => by rw [e208, fw_un (by omega)]; exact hoF q h9
          obtain ⟨S37, eS37⟩ : ∃ S_, S_ = va_up S22 (x9) (nI 1) := ⟨_, rfl⟩
          rw [← eS37] at hS
          have hv9 : (nI 1 : Int32) = nI 1 := rfl
          have hsy : S37 (x9 + 1) = sg32 b9 := by rw [eS37, up_o (by omega)]; exact hsy
          have hsO : S37 (23) = nI 1 := by rw [eS37, up_o (by omega)]; exact hsO
          have hsA : S37 (18) = (-1) := by rw [eS37, up_o (by omega)]; exact hsA
          have hsx : S37 (x9) = nI 1 := by rw [eS37]; exact up_s.trans hv9
          have hfr : ∀ p, p ≠ x9 → p < 18 ∨ 22 < p → X35 p = X p ∧ S37 p = S p := fun p h1 h2 => by rw [eS37, up_o (by omega)]; exact hfr p h1 h2
          have b0 : w208 b = some (.inr (10, [.int (nI (I 0)), .ref (b + 1), .ref (b + 2), .int (nI (I 3)), .ref (b + 3), .ref (b + 4), .int (nI (I 6)), .int (nI (I 7)), .ref (b + 5), .ref (b + 6), .int (nI (I 10)), .int (nI (I 11)), .int (nI (I 12)), .int (nI (I 13)), .ref (b + 7), .ref (b + 8), .int (nI (I 16)), .int (nI (I 17)), .int (nI (I 18)), .int (nI (I 19))])) := hS.1
          have b1 : w208 (b + 1) = some (.inl (cL, 1536, .inr (.inl (fun i => lN (mC X35 i))))) := hS.2.1
          have b2 : w208 (b + 2) = some (.inl (cI, 24, .inl (S37))) := hS.2.2.1
          refine lv_goto (pc := 121) (tgt := 140) hx hb dMo_sum_121 (by decide) ?_
          rw [show nI 1 = sg32 (a9 + c9) from (sg32_p (by omega)).symm] at hsx
          refine lv_aload_n (pc := 140) hx hb dMo_sum_140 rfl (lv_at hl 1 rfl) ?_
          refine lv_iload_n (pc := 141) hx hb dMo_sum_141 rfl (lv_at hl 2 rfl) ?_
          refine fw_cVR (pc := 142) (As := [.int (nI x9)]) (rest := []) ⟨hx, hb, hml, hown, hW⟩ (c_Mo_isGreat hS hXb (by omega)) (cwV 1 hW (kw_V lm_Mo_152 im_Mo_isGreat se_Mo_isGreat ini_Mo cd_Mo_isGreat) rfl rfl rfl (by decide +kernel) ⟨Nat.le_of_ble_eq_true rfl, Nat.le_of_ble_eq_true rfl⟩) hK hw b0 rfl rfl hl.1 rfl (Nat.le_of_ble_eq_true rfl) dMo_sum_142 ⟨Nat.le_of_ble_eq_true rfl, Nat.le_of_ble_eq_true rfl⟩ (fun v hq => ?_)
          have hxr : X35 x9 = Int.natAbs (a9 + c9) := hxx
          rw [hxr] at hq
          by_cases hg9 : Int.natAbs (a9 + c9) < 2 ^ 768
          · subst hq
            rw [if_pos hg9]
            refine W.eq (g2 := F0 m 145 ls [.int (nI 0)]) rfl ?_
            refine lv_if_eq (pc := 145) (tgt := 153) hx hb dMo_sum_145 (by decide) (fun _ => ?_) (fun hc => absurd (show nI 0 = 0 by decide) hc)
            refine lv_iconst (pc := 153) (v := (nI 0)) hx hb dMo_sum_153 (by decide) ?_
            have hsp : sFit (a9 + c9) a9 = (0, (a9 + c9)) := (rfl : sFit (a9 + c9) a9 = sFit (a9 + c9) a9).trans (if_pos hg9)
            exact fw_iret (pc := 154) hx hb hr hlocks hw dMo_sum_154 ⟨by rw [hsp], ⟨_, _, hS, hXb, fun _ => by rw [hsp]; exact ⟨hxr, hsx⟩, hfr⟩, hoF⟩
          · subst hq
            rw [if_neg hg9]
            refine W.eq (g2 := F0 m 145 ls [.int (nI 1)]) rfl ?_
            refine lv_if_eq (pc := 145) (tgt := 153) hx hb dMo_sum_145 (by decide) (fun hc => absurd hc (show ¬ nI 1 = 0 by decide)) (fun _ => ?_)
            refine lv_bipush (pc := 148) (v := (nI 6)) hx hb dMo_sum_148 (by decide) ?_
            refine lv_goto (pc := 150) (tgt := 154) hx hb dMo_sum_150 (by decide) ?_
            have hsp : (sFit (a9 + c9) a9).1 = 6 := by rw [(rfl : sFit (a9 + c9) a9 = sFit (a9 + c9) a9), sFit_1, if_neg hg9]
            exact fw_iret (pc := 154) hx hb hr hlocks hw dMo_sum_154 ⟨by rw [hsp], ⟨_, _, hS, hXb, fun h9 => absurd h9 (by rw [hsp]; decide), hfr⟩, hoF⟩
    · rw [sg32_z hc90]
      rw [sg32_z hc90] at hsA
      refine lv_icmp_ne (pc := 54) (tgt := 67) hx hb dMo_sum_54 (by decide) (fun _ => ?_) (fun hc => absurd hc (by decide))
      refine lv_aload_n (pc := 67) hx hb dMo_sum_67 rfl (lv_at hl 0 rfl) ?_
      refine fw_get (pc := 68) (ci := 10) (v := .ref (b + 2)) (C := RMo) (T := TMo) (N := 20) hx hb hW in_Mo hown hK.1 hw b0 rfl 2 (by decide) (hW _ lf_Mo_13) (fun _ h => h) rfl dMo_sum_68 ?_
      refine lv_bipush (pc := 71) (v := (nI 18)) hx hb dMo_sum_71 (by decide) ?_
      refine fw_ialdN (pc := 73) (x := S22 (18)) hx hb hK.1 hw 0 b2 rfl (18) (by omega) (by decide) rfl dMo_sum_73 ?_
      rw [show (S22 (18) : Int32) = nI 0 from hsA]
      refine lv_if_eq (pc := 74) (tgt := 140) hx hb dMo_sum_74 (by decide) (fun _ => ?_) (fun hc => absurd (show nI 0 = 0 by decide) hc)
      have hr9 : a9 + c9 = a9 := by omega
      rw [show nI 1 = sg32 (a9 + c9) from (sg32_p (by omega)).symm] at hsx
      refine lv_aload_n (pc := 140) hx hb dMo_sum_140 rfl (lv_at hl 0 rfl) ?_
      refine lv_iload_n (pc := 141) hx hb dMo_sum_141 rfl (lv_at hl 1 rfl) ?_
      refine fw_cVR (pc := 142) (As := [.int (nI x9)]) (rest := []) ⟨hx, hb, hml, hown, hW⟩ (c_Mo_isGreat hS hXb (by omega)) (cwV 1 hW (kw_V lm_Mo_152 im_Mo_isGreat se_Mo_isGreat ini_Mo cd_Mo_isGreat) rfl rfl rfl (by decide +kernel) ⟨Nat.le_of_ble_eq_true rfl, Nat.le_of_ble_eq_true rfl⟩) hK hw b0 rfl rfl hl.1 rfl (Nat.le_of_ble_eq_true rfl) dMo_sum_142 ⟨Nat.le_of_ble_eq_true rfl, Nat.le_of_ble_eq_true rfl⟩ (fun v hq => ?_)
      have hxr : X20 x9 = Int.natAbs (a9 + c9) := (by rw [hr9]; exact hxx)
      rw [hxr] at hq
      by_cases hg9 : Int.natAbs (a9 + c9) < 2 ^ 768
      · subst hq
        rw [if_pos hg9]
        refine W.eq (g2 := F0 m 145 ls [.int (nI 0)]) rfl ?_
        refine lv_if_eq (pc := 145) (tgt := 153) hx hb dMo_sum_145 (by decide) (fun _ => ?_) (fun hc => absurd (show nI 0 = 0 by decide) hc)
        refine lv_iconst (pc := 153) (v := (nI 0)) hx hb dMo_sum_153 (by decide) ?_
        have hsp : sFit (a9 + c9) a9 = (0, (a9 + c9)) := (rfl : sFit (a9 + c9) a9 = sFit (a9 + c9) a9).trans (if_pos hg9)
        exact fw_iret (pc := 154) hx hb hr hlocks hw dMo_sum_154 ⟨by rw [hsp], ⟨_, _, hS, hXb, fun _ => by rw [hsp]; exact ⟨hxr, hsx⟩, hfr⟩, hoF⟩
      · subst hq
        rw [if_neg hg9]
        refine W.eq (g2 := F0 m 145 ls [.int (nI 1)]) rfl ?_
        refine lv_if_eq (pc := 145) (tgt := 153) hx hb dMo_sum_145 (by decide) (fun hc => absurd hc (show ¬ nI 1 = 0 by decide)) (fun _ => ?_)
        refine lv_bipush (pc := 148) (v := (nI 6)) hx hb dMo_sum_148 (by decide) ?_
        refine lv_goto (pc := 150) (tgt := 154) hx hb dMo_sum_150 (by decide) ?_
        have hsp : (sFit (a9 + c9) a9).1 = 6 := by rw [(rfl : sFit (a9 + c9) a9 = sFit (a9 + c9) a9), sFit_1, if_neg hg9]
        exact fw_iret (pc := 154) hx hb hr hlocks hw dMo_sum_154 ⟨by rw [hsp], ⟨_, _, hS, hXb, fun h9 => absurd h9 (by rw [hsp]; decide), hfr⟩, hoF⟩
    · rw [sg32_p hc90]
      rw [sg32_p hc90] at hsA
      refine lv_icmp_ne (pc := 54) (tgt := 67) hx hb dMo_sum_54 (by decide) (fun hc => absurd hc (fun h => h rfl)) (fun _ => ?_)
      refine lv_aload_n (pc := 57) hx hb dMo_sum_57 rfl (lv_at hl 0 rfl) ?_
      refine lv_iload_n (pc := 58) hx hb dMo_sum_58 rfl (lv_at hl 1 rfl) ?_
      refine lv_bipush (pc := 59) (v := (nI 18)) hx hb dMo_sum_59 (by decide) ?_
      refine fw_cV (pc := 61) (As := [.int (nI x9), .int (nI 18)]) (rest := []) ⟨hx, hb, hml, hown, hW⟩ (c_Mo_addTo (pa := x9) (pb := 18) hS hXb (by omega) (by omega) (by omega)) (cwV 2 hW (kw_V lm_Mo_146 im_Mo_addTo se_Mo_addTo ini_Mo cd_Mo_addTo) rfl rfl rfl (by decide +kernel) ⟨Nat.le_of_ble_eq_true rfl, Nat.le_of_ble_eq_true rfl⟩) hK hw b0 rfl rfl hl.1 rfl (Nat.le_of_ble_eq_true rfl) dMo_sum_61 ⟨Nat.le_of_ble_eq_true rfl, Nat.le_of_ble_eq_true rfl⟩ (fun v w209 H locs hq hw => ?_)
      obtain ⟨rfl, hS, hn9⟩ := hq
      have hoF : ∀ q, q < b ∨ b + 9 ≤ q → w209 q = w q := fun q h9 => (hn9 q h9).trans (hoF q h9)
      have hB9 : Int.natAbs (a9 + c9) < nM ^ 64 := Nat.lt_trans (show Int.natAbs (a9 + c9) < 2 ^ 769 by omega) (by decide +kernel)
      obtain ⟨X38, eX38⟩ : ∃ X_, X_ = va_up X20 (x9) ((X20 (x9) + X20 (18)) % nM ^ 64) := ⟨_, rfl⟩
      rw [← eX38] at hS
      have hv9 : (X20 (x9) + X20 (18)) % nM ^ 64 = Int.natAbs (a9 + c9) := (by rw [hxx, hxA, show Int.natAbs a9 + Int.natAbs c9 = Int.natAbs (a9 + c9) by omega, Nat.mod_eq_of_lt hB9])
      have hxy : X38 (x9 + 1) = Int.natAbs c9 := by rw [eX38, up_o (by omega)]; exact hxy
      have hxO : X38 (23) = 1 := by rw [eX38, up_o (by omega)]; exact hxO
      have hxA : X38 (18) = Int.natAbs c9 := by rw [eX38, up_o (by omega)]; exact hxA
      have hxx : X38 (x9) = Int.natAbs (a9 + c9) := by rw [eX38]; exact up_s.trans hv9
      have hXb : ∀ p, X38 p < nM ^ 64 := fun p => by (rw [eX38]; unfold va_up; split; (rw [hv9]; exact hB9); exact hXb p)
      have hfr : ∀ p, p ≠ x9 → p < 18 ∨ 22 < p → X38 p = X p ∧ S22 p = S p := fun p h1 h2 => by rw [eX38, up_o (by omega)]; exact hfr p h1 h2
      have b0 : w209 b = some (.inr (10, [.int (nI (I 0)), .ref (b + 1), .ref (b + 2), .int (nI (I 3)), .ref (b + 3), .ref (b + 4), .int (nI (I 6)), .int (nI (I 7)), .ref (b + 5), .ref (b + 6), .int (nI (I 10)), .int (nI (I 11)), .int (nI (I 12)), .int (nI (I 13)), .ref (b + 7), .ref (b + 8), .int (nI (I 16)), .int (nI (I 17)), .int (nI (I 18)), .int (nI (I 19))])) := hS.1
      have b1 : w209 (b + 1) = some (.inl (cL, 1536, .inr (.inl (fun i => lN (mC X38 i))))) := hS.2.1
      have b2 : w209 (b + 2) = some (.inl (cI, 24, .inl (S22))) := hS.2.2.1
      refine W.eq (g2 := F0 m 64 ls []) rfl ?_
      refine lv_goto (pc := 64) (tgt := 140) hx hb dMo_sum_64 (by decide) ?_
      rw [show nI 1 = sg32 (a9 + c9) from (sg32_p (by omega)).symm] at hsx
      refine lv_aload_n (pc := 140) hx hb dMo_sum_140 rfl (lv_at hl 0 rfl) ?_
      refine lv_iload_n (pc := 141) hx hb dMo_sum_141 rfl (lv_at hl 1 rfl) ?_
      refine fw_cVR (pc := 142) (As := [.int (nI x9)]) (rest := []) ⟨hx, hb, hml, hown, hW⟩ (c_Mo_isGreat hS hXb (by omega)) (cwV 1 hW (kw_V lm_Mo_152 im_Mo_isGreat se_Mo_isGreat ini_Mo cd_Mo_isGreat) rfl rfl rfl (by decide +kernel) ⟨Nat.le_of_ble_eq_true rfl, Nat.le_of_ble_eq_true rfl⟩) hK hw b0 rfl rfl hl.1 rfl (Nat.le_of_ble_eq_true rfl) dMo_sum_142 ⟨Nat.le_of_ble_eq_true rfl, Nat.le_of_ble_eq_true rfl⟩ (fun v hq => ?_)
      have hxr : X38 x9 = Int.natAbs (a9 + c9) := hxx
      rw [hxr] at hq
      by_cases hg9 : Int.natAbs (a9 + c9) < 2 ^ 768
      · subst hq
        rw [if_pos hg9]
        refine W.eq (g2 := F0 m 145 ls [.int (nI 0)]) rfl ?_
        refine lv_if_eq (pc := 145) (tgt := 153) hx hb dMo_sum_145 (by decide) (fun _ => ?_) (fun hc => absurd (show nI 0 = 0 by decide) hc)
        refine lv_iconst (pc := 153) (v := (nI 0)) hx hb dMo_sum_153 (by decide) ?_
        have hsp : sFit (a9 + c9) a9 = (0, (a9 + c9)) := (rfl : sFit (a9 + c9) a9 = sFit (a9 + c9) a9).trans (if_pos hg9)
        exact fw_iret (pc := 154) hx hb hr hlocks hw dMo_sum_154 ⟨by rw [hsp], ⟨_, _, hS, hXb, fun _ => by rw [hsp]; exact ⟨hxr, hsx⟩, hfr⟩, hoF⟩
      · subst hq
        rw [if_neg hg9]
        refine W.eq (g2 := F0 m 145 ls [.int (nI 1)]) rfl ?_
        refine lv_if_eq (pc := 145) (tgt := 153) hx hb dMo_sum_145 (by decide) (fun hc => absurd hc (show ¬ nI 1 = 0 by decide)) (fun _ => ?_)
        refine lv_bipush (pc := 148) (v := (nI 6)) hx hb dMo_sum_148 (by decide) ?_
        refine lv_goto (pc := 150) (tgt := 154) hx hb dMo_sum_150 (by decide) ?_
        have hsp : (sFit (a9 + c9) a9).1 = 6 := by rw [(rfl : sFit (a9 + c9) a9 = sFit (a9 + c9) a9), sFit_1, if_neg hg9]
        exact fw_iret (pc := 154) hx hb hr hlocks hw dMo_sum_154 ⟨by rw [hsp], ⟨_, _, hS, hXb, fun h9 => absurd h9 (by rw [hsp]; decide), hfr⟩, hoF⟩

set_option maxHeartbeats 4000000 in
set_option maxRecDepth 100000 in
theorem c_Mo_product {b : Nat} {I : Nat → Nat} {K : Nat → Nat → Nat} {S : Nat → Int32} {X : Nat → Nat} (hS : moS cI cL w b I K S (mC X)) (hX : ∀ p, X p < nM ^ 64) {x9 : Nat} {a9 b9 : Int} (hx9 : x9 + 2 ≤ 10) (h1x : X 23 = 1) (h1s : S 23 = nI 1) (rx : X (x9) = Int.natAbs a9 ∧ S (x9) = sg32 a9) (a97 : Int.natAbs a9 < 2 ^ 768) (ry : X (x9 + 1) = Int.natAbs b9 ∧ S (x9 + 1) = sg32 b9) (b97 : Int.natAbs b9 < 2 ^ 768) : fw_C l yMo_product (Cond.code yMo_product cMo_product 4 (some FieldType.int) :: kWs) ({ frames := 2, cells := 0, slots := 0, locals := 55 } : Room) D kCl (kty cI cL cQ) z [.ref b, .int (nI x9), .int (nI (x9 + 1))] (sz) w 0 0 (fun v w' => v = some (.int (nI (sFit (a9 * b9) a9).1)) ∧ (∃ S2 X2, moS cI cL w' b I K S2 (mC X2) ∧ (∀ p, X2 p < nM ^ 64) ∧ ((sFit (a9 * b9) a9).1 = 0 → X2 x9 = Int.natAbs (sFit (a9 * b9) a9).2 ∧ S2 x9 = sg32 (sFit (a9 * b9) a9).2) ∧ ∀ p, p ≠ x9 → p < 18 ∨ 22 < p → X2 p = X p ∧ S2 p = S p) ∧ ∀ q, q < b ∨ b + 9 ≤ q → w' q = w q) := by
  refine fw_ofW (cc := cMo_product) (maxL := 4) (ret := (some FieldType.int)) (by decide) rfl (Nat.le_of_ble_eq_true rfl) ?_
  intro p e s m args below meth c hx hb hr hts hown hlocks hname hml hK H ls hw hl
  have hW : ∀ w ∈ kWs, w.before args s = true := fun w h => hts w (List.mem_cons_of_mem _ h)
  have hown : s.vm.findClass RMo = some m.cls := hown
  have hl : lv_has ls 4 [(0, .ref b), (1, .int (nI x9)), (2, .int (nI (x9 + 1)))] := hl
  have b0 : w b = some (.inr (10, [.int (nI (I 0)), .ref (b + 1), .ref (b + 2), .int (nI (I 3)), .ref (b + 3), .ref (b + 4), .int (nI (I 6)), .int (nI (I 7)), .ref (b + 5), .ref (b + 6), .int (nI (I 10)), .int (nI (I 11)), .int (nI (I 12)), .int (nI (I 13)), .ref (b + 7), .ref (b + 8), .int (nI (I 16)), .int (nI (I 17)), .int (nI (I 18)), .int (nI (I 19))])) := hS.1
  have b1 : w (b + 1) = some (.inl (cL, 1536, .inr (.inl (fun i => lN (mC X i))))) := hS.2.1
  have b2 : w (b + 2) = some (.inl (cI, 24, .inl (S))) := hS.2.2.1
  have b09 := b0
  have b29 := b2
  obtain ⟨hxx, hsx⟩ := rx
  obtain ⟨hxy, hsy⟩ := ry
  have hxO := h1x
  have hsO := h1s
  have hXb := hX
  have hfr : ∀ p, p ≠ x9 → p < 18 ∨ 22 < p → X p = X p ∧ S p = S p := fun p _ _ => ⟨rfl, rfl⟩
  have hoF : ∀ q, q < b ∨ b + 9 ≤ q → w q = w q := fun q _ => rfl
  have p64 : 2 ^ 768 < nM ^ 64 := by decide +kernel
  have q32 : (2 : Nat) ^ 768 = nM ^ 32 := by decide +kernel
  refine lv_aload_n (pc := 0) hx hb dMo_product_0 rfl (lv_at hl 0 rfl) ?_
  refine fw_get (pc := 1) (ci := 10) (v := .ref (b + 2)) (C := RMo) (T := TMo) (N := 20) hx hb hW in_Mo hown hK.1 hw b0 rfl 2 (by decide) (hW _ lf_Mo_13) (fun _ h => h) rfl dMo_product_1 ?_
  refine lv_iload_n (pc := 4) hx hb dMo_product_4 rfl (lv_at hl 1 rfl) ?_
  refine fw_ialdN (pc := 5) (x := S (x9)) hx hb hK.1 hw 0 b2 rfl (x9) (by omega) (by decide) rfl dMo_product_5 ?_
  rw [show (S (x9) : Int32) = sg32 a9 from hsx]
  refine lv_aload_n (pc := 6) hx hb dMo_product_6 rfl (lv_at hl 0 rfl) ?_
  refine fw_get (pc := 7) (ci := 10) (v := .ref (b + 2)) (C := RMo) (T := TMo) (N := 20) hx hb hW in_Mo hown hK.1 hw b0 rfl 2 (by decide) (hW _ lf_Mo_13) (fun _ h => h) rfl dMo_product_7 ?_
  refine lv_iload_n (pc := 10) hx hb dMo_product_10 rfl (lv_at hl 2 rfl) ?_
  refine fw_ialdN (pc := 11) (x := S (x9 + 1)) hx hb hK.1 hw 0 b2 rfl (x9 + 1) (by omega) (by decide) rfl dMo_product_11 ?_
  rw [show (S (x9 + 1) : Int32) = sg32 b9 from hsy]
  refine lv_imul (pc := 12) hx hb dMo_product_12 ?_
  rw [show ((sg32 a9 * sg32 b9) : Int32) = sg32 (a9 * b9) from (sg_mul a9 b9)]
  refine lv_istore_n (pc := 13) (lv' := [(3, .int (sg32 (a9 * b9))), (0, .ref b), (1, .int (nI x9)), (2, .int (nI (x9 + 1)))]) hx hb dMo_product_13 rfl hl (by decide) rfl (fun ls hl => ?_)
  refine lv_aload_n (pc := 14) hx hb dMo_product_14 rfl (lv_at hl 1 rfl) ?_
  refine lv_iload_n (pc := 15) hx hb dMo_product_15 rfl (lv_at hl 2 rfl) ?_
  refine lv_iload_n (pc := 16) hx hb dMo_product_16 rfl (lv_at hl 3 rfl) ?_
  refine lv_bipush (pc := 17) (v := (nI 21)) hx hb dMo_product_17 (by decide) ?_
  refine fw_cV (pc := 19) (As := [.int (nI x9), .int (nI (x9 + 1)), .int (nI 21)]) (rest := []) ⟨hx, hb, hml, hown, hW⟩ (c_Mo_multiply (pa := x9) (pb := x9 + 1) (pt := 21) hS hXb (by omega) (by omega) (by decide) (by omega) (by omega) (by rw [hxx, ← q32]; exact a97) (by rw [hxy, ← q32]; exact b97)) (cwV 3 hW (kw_V lm_Mo_155 im_Mo_multiply se_Mo_multiply ini_Mo cd_Mo_multiply) rfl rfl rfl (by decide +kernel) ⟨Nat.le_of_ble_eq_true rfl, Nat.le_of_ble_eq_true rfl⟩) hK hw b0 rfl rfl hl.1 rfl (Nat.le_of_ble_eq_true rfl) dMo_product_19 ⟨Nat.le_of_ble_eq_true rfl, Nat.le_of_ble_eq_true rfl⟩ (fun v w201 H locs hq hw => ?_)
  obtain ⟨rfl, hS, hn9⟩ := hq
  have hoF : ∀ q, q < b ∨ b + 9 ≤ q → w201 q = w q := fun q h9 => (hn9 q h9).trans (hoF q h9)
  have hB9 : Int.natAbs (a9 * b9) < nM ^ 64 := by rw [Int.natAbs_mul]; exact Nat.lt_of_le_of_lt (Nat.mul_le_mul (Nat.le_sub_one_of_lt a97) (Nat.le_sub_one_of_lt b97)) (by decide +kernel)
  obtain ⟨X39, eX39⟩ : ∃ X_, X_ = va_up X (21) (X (x9) * X (x9 + 1)) := ⟨_, rfl⟩
  rw [← eX39] at hS
  have hv9 : X (x9) * X (x9 + 1) = Int.natAbs (a9 * b9) := (by rw [hxx, hxy, Int.natAbs_mul])
  have hxx : X39 (x9) = Int.natAbs a9 := by rw [eX39, up_o (by omega)]; exact hxx
  have hxy : X39 (x9 + 1) = Int.natAbs b9 := by rw [eX39, up_o (by omega)]; exact hxy
  have hxO : X39 (23) = 1 := by rw [eX39, up_o (by omega)]; exact hxO
  have hxP : X39 (21) = Int.natAbs (a9 * b9) := by rw [eX39]; exact up_s.trans hv9
  have hXb : ∀ p, X39 p < nM ^ 64 := fun p => by (rw [eX39]; unfold va_up; split; (rw [hv9]; exact hB9); exact hXb p)
  have hfr : ∀ p, p ≠ x9 → p < 18 ∨ 22 < p → X39 p = X p ∧ S p = S p := fun p h1 h2 => by rw [eX39, up_o (by omega)]; exact hfr p h1 h2
  obtain ⟨S40, eS40⟩ : ∃ S_, S_ = va_up S (21) (nI 0) := ⟨_, rfl⟩
  rw [← eS40] at hS
  have hv9 : (nI 0 : Int32) = nI 0 := rfl
  have hsx : S40 (x9) = sg32 a9 := by rw [eS40, up_o (by omega)]; exact hsx
  have hsy : S40 (x9 + 1) = sg32 b9 := by rw [eS40, up_o (by omega)]; exact hsy
  have hsO : S40 (23) = nI 1 := by rw [eS40, up_o (by omega)]; exact hsO
  have hsP : S40 (21) = nI 0 := by rw [eS40]; exact up_s.trans hv9
  have hfr : ∀ p, p ≠ x9 → p < 18 ∨ 22 < p → X39 p = X p ∧ S40 p = S p := fun p h1 h2 => by rw [eS40, up_o (by omega)]; exact hfr p h1 h2
  have b0 : w201 b = some (.inr (10, [.int (nI (I 0)), .ref (b + 1), .ref (b + 2), .int (nI (I 3)), .ref (b + 3), .ref (b + 4), .int (nI (I 6)), .int (nI (I 7)), .ref (b + 5), .ref (b + 6), .int (nI (I 10)), .int (nI (I 11)), .int (nI (I 12)), .int (nI (I 13)), .ref (b + 7), .ref (b + 8), .int (nI (I 16)), .int (nI (I 17)), .int (nI (I 18)), .int (nI (I 19))])) := hS.1
  have b1 : w201 (b + 1) = some (.inl (cL, 1536, .inr (.inl (fun i => lN (mC X39 i))))) := hS.2.1
  have b2 : w201 (b + 2) = some (.inl (cI, 24, .inl (S40))) := hS.2.2.1
  refine W.eq (g2 := F0 m 22 ls []) rfl ?_
  refine lv_aload_n (pc := 22) hx hb dMo_product_22 rfl (lv_at hl 1 rfl) ?_
  refine lv_bipush (pc := 23) (v := (nI 21)) hx hb dMo_product_23 (by decide) ?_
  refine lv_iload_n (pc := 25) hx hb dMo_product_25 rfl (lv_at hl 2 rfl) ?_
  refine fw_cV (pc := 26) (As := [.int (nI 21), .int (nI x9)]) (rest := []) ⟨hx, hb, hml, hown, hW⟩ (c_Mo_copy (pa := 21) (pc9 := x9) hS hXb (by omega) (by omega) (by omega)) (cwV 2 hW (kw_V lm_Mo_143 im_Mo_copy se_Mo_copy ini_Mo cd_Mo_copy) rfl rfl rfl (by decide +kernel) ⟨Nat.le_of_ble_eq_true rfl, Nat.le_of_ble_eq_true rfl⟩) hK hw b0 rfl rfl hl.1 rfl (Nat.le_of_ble_eq_true rfl) dMo_product_26 ⟨Nat.le_of_ble_eq_true rfl, Nat.le_of_ble_eq_true rfl⟩ (fun v w202 H locs hq hw => ?_)
  obtain ⟨rfl, hS, hn9⟩ := hq
  have hoF : ∀ q, q < b ∨ b + 9 ≤ q → w202 q = w q := fun q h9 => (hn9 q h9).trans (hoF q h9)
  have hB9 : Int.natAbs (a9 * b9) < nM ^ 64 := by rw [← hxP]; exact hXb _
  obtain ⟨X41, eX41⟩ : ∃ X_, X_ = va_up X39 (x9) (X39 (21)) := ⟨_, rfl⟩
  rw [← eX41] at hS
  have hv9 : X39 (21) = Int.natAbs (a9 * b9) := hxP
  have hxy : X41 (x9 + 1) = Int.natAbs b9 := by rw [eX41, up_o (by omega)]; exact hxy
  have hxO : X41 (23) = 1 := by rw [eX41, up_o (by omega)]; exact hxO
  have hxP : X41 (21) = Int.natAbs (a9 * b9) := by rw [eX41, up_o (by omega)]; exact hxP
  have hxx : X41 (x9) = Int.natAbs (a9 * b9) := by rw [eX41]; exact up_s.trans hv9
  have hXb : ∀ p, X41 p < nM ^ 64 := fun p => by (rw [eX41]; unfold va_up; split; (rw [hv9]; exact hB9); exact hXb p)
  have hfr : ∀ p, p ≠ x9 → p < 18 ∨ 22 < p → X41 p = X p ∧ S40 p = S p := fun p h1 h2 => by rw [eX41, up_o (by omega)]; exact hfr p h1 h2
  obtain ⟨S42, eS42⟩ : ∃ S_, S_ = va_up S40 (x9) (S40 (21)) := ⟨_, rfl⟩
  rw [← eS42] at hS
  have hv9 : (S40 (21) : Int32) = nI 0 := hsP
  have hsy : S42 (x9 + 1) = sg32 b9 := by rw [eS42, up_o (by omega)]; exact hsy
  have hsO : S42 (23) = nI 1 := by rw [eS42, up_o (by omega)]; exact hsO
  have hsP : S42 (21) = nI 0 := by rw [eS42, up_o (by omega)]; exact hsP
  have hsx : S42 (x9) = nI 0 := by rw [eS42]; exact up_s.trans hv9
  have hfr : ∀ p, p ≠ x9 → p < 18 ∨ 22 < p → X41 p = X p ∧ S42 p = S p := fun p h1 h2 => by rw [eS42, up_o (by omega)]; exact hfr p h1 h2
  have b0 : w202 b = some (.inr (10, [.int (nI (I 0)), .ref (b + 1), .ref (b + 2), .int (nI (I 3)), .ref (b + 3), .ref (b + 4), .int (nI (I 6)), .int (nI (I 7)), .ref (b + 5), .ref (b + 6), .int (nI (I 10)), .int (nI (I 11)), .int (nI (I 12)), .int (nI (I 13)), .ref (b + 7), .ref (b + 8), .int (nI (I 16)), .int (nI (I 17)), .int (nI (I 18)), .int (nI (I 19))])) := hS.1
  have b1 : w202 (b + 1) = some (.inl (cL, 1536, .inr (.inl (fun i => lN (mC X41 i))))) := hS.2.1
  have b2 : w202 (b + 2) = some (.inl (cI, 24, .inl (S42))) := hS.2.2.1
  refine W.eq (g2 := F0 m 29 ls []) rfl ?_
  refine lv_aload_n (pc := 29) hx hb dMo_product_29 rfl (lv_at hl 1 rfl) ?_
  refine fw_get (pc := 30) (ci := 10) (v := .ref (b + 2)) (C := RMo) (T := TMo) (N := 20) hx hb hW in_Mo hown hK.1 hw b0 rfl 2 (by decide) (hW _ lf_Mo_13) (fun _ h => h) rfl dMo_product_30 ?_
  refine lv_iload_n (pc := 33) hx hb dMo_product_33 rfl (lv_at hl 2 rfl) ?_
  refine lv_iload_n (pc := 34) hx hb dMo_product_34 rfl (lv_at hl 0 rfl) ?_
  refine fw_iastN (pc := 35) (f2 := va_up S42 (x9) (sg32 (a9 * b9))) hx hb hK.1 hw 0 b2 rfl (x9) (by omega) (by decide) (rfl) dMo_product_35 (fun H locs hw => ?_)
  obtain ⟨w203, e203⟩ : ∃ w_, w_ = fw_up w202 (b + 2) (.inl (cI, 24, .inl (va_up S42 (x9) (sg32 (a9 * b9))))) := ⟨_, rfl⟩
  have hw : fw_H D kCl (fw_A w (sz)) s.heap w203 (sz) H locs := by rw [e203]; exact hw
  have b0_ : w203 (b) = some (.inr (10, [.int (nI (I 0)), .ref (b + 1), .ref (b + 2), .int (nI (I 3)), .ref (b + 3), .ref (b + 4), .int (nI (I 6)), .int (nI (I 7)), .ref (b + 5), .ref (b + 6), .int (nI (I 10)), .int (nI (I 11)), .int (nI (I 12)), .int (nI (I 13)), .ref (b + 7), .ref (b + 8), .int (nI (I 16)), .int (nI (I 17)), .int (nI (I 18)), .int (nI (I 19))])) := by rw [e203, fw_un (by omega)]; exact b0
  have b1_ : w203 (b + 1) = some (.inl (cL, 1536, .inr (.inl (fun i => lN (mC X41 i))))) := by rw [e203, fw_un (by omega)]; exact b1
  have b2_ : w203 (b + 2) = some (.inl (cI, 24, .inl (va_up S42 (x9) (sg32 (a9 * b9))))) := by rw [e203]; exact fw_us _ _ _
  have b0 := b0_
  have b1 := b1_
  have b2 := b2_
  have hS : moS cI cL w203 b I K (va_up S42 (x9) (sg32 (a9 * b9))) (mC X41) := moS.cs hS b1 b2 (fun q h1 h2 => by rw [e203, fw_un h2])
  have hoF : ∀ q, q < b ∨ b + 9 ≤ q → w203 q = w q := fun q h9 => by rw [e203, fw_un (by omega)]; exact hoF q h9
  obtain ⟨S43, eS43⟩ : ∃ S_, S_ = va_up S42 (x9) (sg32 (a9 * b9)) := ⟨_, rfl⟩
  rw [← eS43] at hS
  have hv9 : (sg32 (a9 * b9) : Int32) = sg32 (a9 * b9) := rfl
  have hsy : S43 (x9 + 1) = sg32 b9 := by rw [eS43, up_o (by omega)]; exact hsy
  have hsO : S43 (23) = nI 1 := by rw [eS43, up_o (by omega)]; exact hsO
  have hsP : S43 (21) = nI 0 := by rw [eS43, up_o (by omega)]; exact hsP
  have hsx : S43 (x9) = sg32 (a9 * b9) := by rw [eS43]; exact up_s.trans hv9
  have hfr : ∀ p, p ≠ x9 → p < 18 ∨ 22 < p → X41 p = X p ∧ S43 p = S p := fun p h1 h2 => by rw [eS43, up_o (by omega)]; exact hfr p h1 h2
  have b0 : w203 b = some (.inr (10, [.int (nI (I 0)), .ref (b + 1), .ref (b + 2), .int (nI (I 3)), .ref (b + 3), .ref (b + 4), .int (nI (I 6)), .int (nI (I 7)), .ref (b + 5), .ref (b + 6), .int (nI (I 10)), .int (nI (I 11)), .int (nI (I 12)), .int (nI (I 13)), .ref (b + 7), .ref (b + 8), .int (nI (I 16)), .int (nI (I 17)), .int (nI (I 18)), .int (nI (I 19))])) := hS.1
  have b1 : w203 (b + 1) = some (.inl (cL, 1536, .inr (.inl (fun i => lN (mC X41 i))))) := hS.2.1
  have b2 : w203 (b + 2) = some (.inl (cI, 24, .inl (S43))) := hS.2.2.1
  refine lv_aload_n (pc := 36) hx hb dMo_product_36 rfl (lv_at hl 1 rfl) ?_
  refine lv_iload_n (pc := 37) hx hb dMo_product_37 rfl (lv_at hl 2 rfl) ?_
  refine fw_cVR (pc := 38) (As := [.int (nI x9)]) (rest := []) ⟨hx, hb, hml, hown, hW⟩ (c_Mo_isGreat hS hXb (by omega)) (cwV 1 hW (kw_V lm_Mo_152 im_Mo_isGreat se_Mo_isGreat ini_Mo cd_Mo_isGreat) rfl rfl rfl (by decide +kernel) ⟨Nat.le_of_ble_eq_true rfl, Nat.le_of_ble_eq_true rfl⟩) hK hw b0 rfl rfl hl.1 rfl (Nat.le_of_ble_eq_true rfl) dMo_product_38 ⟨Nat.le_of_ble_eq_true rfl, Nat.le_of_ble_eq_true rfl⟩ (fun v hq => ?_)
  have hxr : X41 x9 = Int.natAbs (a9 * b9) := hxx
  rw [hxr] at hq
  by_cases hg9 : Int.natAbs (a9 * b9) < 2 ^ 768
  · subst hq
    rw [if_pos hg9]
    refine W.eq (g2 := F0 m 41 ls [.int (nI 0)]) rfl ?_
    refine lv_if_eq (pc := 41) (tgt := 49) hx hb dMo_product_41 (by decide) (fun _ => ?_) (fun hc => absurd (show nI 0 = 0 by decide) hc)
    refine lv_iconst (pc := 49) (v := (nI 0)) hx hb dMo_product_49 (by decide) ?_
    have hsp : sFit (a9 * b9) a9 = (0, (a9 * b9)) := (rfl : sFit (a9 * b9) a9 = sFit (a9 * b9) a9).trans (if_pos hg9)
    exact fw_iret (pc := 50) hx hb hr hlocks hw dMo_product_50 ⟨by rw [hsp], ⟨_, _, hS, hXb, fun _ => by rw [hsp]; exact ⟨hxr, hsx⟩, hfr⟩, hoF⟩
  · subst hq
    rw [if_neg hg9]
    refine W.eq (g2 := F0 m 41 ls [.int (nI 1)]) rfl ?_
    refine lv_if_eq (pc := 41) (tgt := 49) hx hb dMo_product_41 (by decide) (fun hc => absurd hc (show ¬ nI 1 = 0 by decide)) (fun _ => ?_)
    refine lv_bipush (pc := 44) (v := (nI 6)) hx hb dMo_product_44 (by decide) ?_
    refine lv_goto (pc := 46) (tgt := 50) hx hb dMo_product_46 (by decide) ?_
    have hsp : (sFit (a9 * b9) a9).1 = 6 := by rw [(rfl : sFit (a9 * b9) a9 = sFit (a9 * b9) a9), sFit_1, if_neg hg9]
    exact fw_iret (pc := 50) hx hb hr hlocks hw dMo_product_50 ⟨by rw [hsp], ⟨_, _, hS, hXb, fun h9 => absurd h9 (by rw [hsp]; decide), hfr⟩, hoF⟩
end MO6
