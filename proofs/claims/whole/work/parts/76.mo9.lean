theorem mC_one {X : Nat → Nat} {p v : Nat} (h0 : X p = 0) (hv : v < nM) : va_up (mC X) (64 * p) v = mC (va_up X p v) := by
  have hX : X p < nM ^ 64 := by rw [h0]; exact Nat.pow_pos (by decide)
  have hd : mC X (64 * p + 0) = 0 := by rw [mC_at X (by decide), h0, Nat.zero_div, Nat.zero_mod]
  have h := mC_cell (X := X) (p := p) (k := 0) (q := v) (by decide) hX (by rw [hd, Nat.zero_add]; exact hv)
  rw [hd, h0, Nat.zero_add, Nat.zero_add, Nat.pow_zero, Nat.mul_one] at h
  exact h
/-! The reference's methods, ninth part. Written by wip/gen/model9.py. -/
section MO9
variable {l : Launch} {D : va_G} {cI cL cQ : ClassId} {z : kZ_T} {sz : Nat} {w : fw_W}
set_option maxHeartbeats 4000000 in
set_option maxRecDepth 100000 in
theorem c_Mo_power {b : Nat} {I : Nat → Nat} {K : Nat → Nat → Nat} {S : Nat → Int32} {X : Nat → Nat} (hS : moS cI cL w b I K S (mC X)) (hX : ∀ p, X p < nM ^ 64) {x9 : Nat} {a9 b9 : Int} (hx9 : x9 + 2 ≤ 10) (h1x : X 23 = 1) (h1s : S 23 = nI 1) (rx : X (x9) = Int.natAbs a9 ∧ S (x9) = sg32 a9) (a97 : Int.natAbs a9 < 2 ^ 768) (ry : X (x9 + 1) = Int.natAbs b9 ∧ S (x9 + 1) = sg32 b9) (b97 : Int.natAbs b9 < 2 ^ 768) : fw_C l yMo_power (Cond.code yMo_power cMo_power 7 (some FieldType.int) :: kWs) ({ frames := 2, cells := 0, slots := 0, locals := 55 } : Room) D kCl (kty cI cL cQ) z [.ref b, .int (nI x9), .int (nI (x9 + 1))] (sz) w 0 0 (fun v w' => v = some (.int (nI (sPow a9 b9).1)) ∧ (∃ S2 X2, moS cI cL w' b I K S2 (mC X2) ∧ (∀ p, X2 p < nM ^ 64) ∧ ((sPow a9 b9).1 = 0 → X2 x9 = Int.natAbs (sPow a9 b9).2 ∧ S2 x9 = sg32 (sPow a9 b9).2) ∧ ∀ p, p ≠ x9 → p < 18 ∨ 22 < p → X2 p = X p ∧ S2 p = S p) ∧ ∀ q, q < b ∨ b + 9 ≤ q → w' q = w q) := by
  refine fw_ofW (cc := cMo_power) (maxL := 7) (ret := (some FieldType.int)) (by decide) rfl (Nat.le_of_ble_eq_true rfl) ?_
  intro p e s m args below meth c hx hb hr hts hown hlocks hname hml hK H ls hw hl
  have hW : ∀ w ∈ kWs, w.before args s = true := fun w h => hts w (List.mem_cons_of_mem _ h)
  have hown : s.vm.findClass RMo = some m.cls := hown
  have hl : lv_has ls 7 [(0, .ref b), (1, .int (nI x9)), (2, .int (nI (x9 + 1)))] := hl
  have b0 : w b = some (.inr (10, [.int (nI (I 0)), .ref (b + 1), .ref (b + 2), .int (nI (I 3)), .ref (b + 3), .ref (b + 4), .int (nI (I 6)), .int (nI (I 7)), .ref (b + 5), .ref (b + 6), .int (nI (I 10)), .int (nI (I 11)), .int (nI (I 12)), .int (nI (I 13)), .ref (b + 7), .ref (b + 8), .int (nI (I 16)), .int (nI (I 17)), .int (nI (I 18)), .int (nI (I 19))])) := hS.1
  have b1 : w (b + 1) = some (.inl (cL, 1536, .inr (.inl (fun i => lN (mC X i))))) := hS.2.1
  have b2 : w (b + 2) = some (.inl (cI, 24, .inl (S))) := hS.2.2.1
  have b09 := b0
  have b29 := b2
  obtain ⟨hxx, hsx⟩ := rx
  obtain ⟨hxy, hsy⟩ := ry
  have hxO := h1x
  have hsO := h1s
  have hXb := hX
  have hfr : ∀ p, p ≠ x9 → p < 18 ∨ 22 < p → X p = X p ∧ S p = S p := fun p _ _ => ⟨rfl, rfl⟩
  have hoF : ∀ q, q < b ∨ b + 9 ≤ q → w q = w q := fun q _ => rfl
  have p64 : 2 ^ 768 < nM ^ 64 := by decide +kernel
  refine lv_aload_n (pc := 0) hx hb dMo_power_0 rfl (lv_at hl 0 rfl) ?_
  refine fw_get (pc := 1) (ci := 10) (v := .ref (b + 2)) (C := RMo) (T := TMo) (N := 20) hx hb hW in_Mo hown hK.1 hw b0 rfl 2 (by decide) (hW _ lf_Mo_13) (fun _ h => h) rfl dMo_power_1 ?_
  refine lv_iload_n (pc := 4) hx hb dMo_power_4 rfl (lv_at hl 2 rfl) ?_
  refine fw_ialdN (pc := 5) (x := S (x9 + 1)) hx hb hK.1 hw 0 b2 rfl (x9 + 1) (by omega) (by decide) rfl dMo_power_5 ?_
  rw [show (S (x9 + 1) : Int32) = sg32 b9 from hsy]
  rcases (show b9 < 0 ∨ 0 ≤ b9 by omega) with hb90 | hb90
  · rw [show (sg32 b9 : Int32) = (-1) from (sg32_n hb90)]
    refine lv_if_ge (pc := 6) (tgt := 11) hx hb dMo_power_6 (by decide) (fun hc => absurd hc (by decide)) (fun _ => ?_)
    refine lv_iconst (pc := 9) (v := (nI 3)) hx hb dMo_power_9 (by decide) ?_
    have hsp : sPow a9 b9 = (3, a9) := if_pos hb90
    exact fw_iret (pc := 10) hx hb hr hlocks hw dMo_power_10 ⟨by rw [hsp], ⟨_, _, hS, hXb, fun h9 => absurd h9 (by rw [hsp]; show ¬ (3 : Nat) = 0; decide), hfr⟩, hoF⟩
  · have hsg0 : 0 ≤ sg32 b9 := by (unfold sg32; rw [if_neg (by omega)]; split <;> decide)
    refine lv_if_ge (pc := 6) (tgt := 11) hx hb dMo_power_6 (by decide) (fun _ => ?_) (fun hc => absurd hsg0 hc)
    obtain ⟨Y, hY⟩ : ∃ Y, Y = Int.natAbs b9 := ⟨_, rfl⟩
    rw [← hY] at hxy b97
    obtain ⟨A, hA⟩ : ∃ A, A = Int.natAbs a9 := ⟨_, rfl⟩
    rw [← hA] at hxx a97
    have hsp0 : sPow a9 b9 = sFit (a9 ^ Y) a9 := by unfold sPow; rw [if_neg (by omega), hY]
    have hpa : Int.natAbs (a9 ^ Y) = A ^ Y := by rw [hA]; exact Int.natAbs_pow a9 Y
    have q32 : (2 : Nat) ^ 768 = nM ^ 32 := by decide +kernel
    refine lv_aload_n (pc := 11) hx hb dMo_power_11 rfl (lv_at hl 0 rfl) ?_
    refine lv_iload_n (pc := 12) hx hb dMo_power_12 rfl (lv_at hl 2 rfl) ?_
    refine lv_iconst (pc := 13) (v := (nI 0)) hx hb dMo_power_13 (by decide) ?_
    refine fw_cVR (pc := 14) (As := [.int (nI (x9 + 1)), .int (nI 0)]) (rest := []) ⟨hx, hb, hml, hown, hW⟩ (c_Mo_bit (p0 := x9 + 1) (k := 0) hS hXb (by omega) (by decide)) (cwV 2 hW (kw_V lm_Mo_139 im_Mo_bit se_Mo_bit ini_Mo cd_Mo_bit) rfl rfl rfl (by decide +kernel) ⟨Nat.le_of_ble_eq_true rfl, Nat.le_of_ble_eq_true rfl⟩) hK hw b0 rfl rfl hl.1 rfl (Nat.le_of_ble_eq_true rfl) dMo_power_14 ⟨Nat.le_of_ble_eq_true rfl, Nat.le_of_ble_eq_true rfl⟩ (fun v hq => ?_)
    rw [hxy, Nat.pow_zero, Nat.div_one] at hq
    subst hq
    refine W.eq (g2 := F0 m 17 ls [.int (nI (Y % 2))]) rfl ?_
    rcases (show Y % 2 = 0 ∨ Y % 2 = 1 by omega) with hp2 | hp2
    · rw [show (nI (Y % 2) : Int32) = nI 0 from (by rw [hp2])]
      refine lv_iconst (pc := 17) (v := (nI 1)) hx hb dMo_power_17 (by decide) ?_
      refine lv_icmp_ne (pc := 18) (tgt := 25) hx hb dMo_power_18 (by decide) (fun _ => ?_) (fun hc => absurd hc (by decide))
      refine lv_iconst (pc := 25) (v := (nI 0)) hx hb dMo_power_25 (by decide) ?_
      refine lv_istore_n (pc := 26) (lv' := [(3, .int (nI 0)), (0, .ref b), (1, .int (nI x9)), (2, .int (nI (x9 + 1)))]) hx hb dMo_power_26 rfl hl (by decide) rfl (fun ls hl => ?_)
      refine lv_aload_n (pc := 27) hx hb dMo_power_27 rfl (lv_at hl 1 rfl) ?_
      refine fw_get (pc := 28) (ci := 10) (v := .ref (b + 2)) (C := RMo) (T := TMo) (N := 20) hx hb hW in_Mo hown hK.1 hw b0 rfl 2 (by decide) (hW _ lf_Mo_13) (fun _ h => h) rfl dMo_power_28 ?_
      refine lv_iload_n (pc := 31) hx hb dMo_power_31 rfl (lv_at hl 2 rfl) ?_
      refine fw_ialdN (pc := 32) (x := S (x9)) hx hb hK.1 hw 0 b2 rfl (x9) (by omega) (by decide) rfl dMo_power_32 ?_
      rw [show (S (x9) : Int32) = sg32 a9 from hsx]
      rcases Int.lt_trichotomy a9 0 with ha90 | ha90 | ha90
      · rw [show (sg32 a9 : Int32) = (-1) from (sg32_n ha90)]
        refine lv_if_eq (pc := 33) (tgt := 46) hx hb dMo_power_33 (by decide) (fun hc => absurd hc (by decide)) (fun _ => ?_)
        refine lv_aload_n (pc := 36) hx hb dMo_power_36 rfl (lv_at hl 1 rfl) ?_
        refine lv_iload_n (pc := 37) hx hb dMo_power_37 rfl (lv_at hl 2 rfl) ?_
        refine lv_bipush (pc := 38) (v := (nI 23)) hx hb dMo_power_38 (by decide) ?_
        refine fw_cVR (pc := 40) (As := [.int (nI x9), .int (nI 23)]) (rest := []) ⟨hx, hb, hml, hown, hW⟩ (c_Mo_order (pa := x9) (pb := 23) hS hXb (by omega) (by decide)) (cwV 2 hW (kw_V lm_Mo_149 im_Mo_order se_Mo_order ini_Mo cd_Mo_order) rfl rfl rfl (by decide +kernel) ⟨Nat.le_of_ble_eq_true rfl, Nat.le_of_ble_eq_true rfl⟩) hK hw b0 rfl rfl hl.1 rfl (Nat.le_of_ble_eq_true rfl) dMo_power_40 ⟨Nat.le_of_ble_eq_true rfl, Nat.le_of_ble_eq_true rfl⟩ (fun v hq => ?_)
        rw [hxx, hxO] at hq
        subst hq
        refine W.eq (g2 := F0 m 43 ls [.int (ordI A 1)]) rfl ?_
        rcases (show A = 1 ∨ 1 < A by omega) with hA1 | hA1
        · rw [show (ordI A 1 : Int32) = nI 0 from (ordI_eq hA1)]
          refine lv_if_ne (pc := 43) (tgt := 118) hx hb dMo_power_43 (by decide) (fun hc => absurd hc (fun h => h (by decide))) (fun _ => ?_)
          refine lv_aload_n (pc := 46) hx hb dMo_power_46 rfl (lv_at hl 1 rfl) ?_
          refine fw_get (pc := 47) (ci := 10) (v := .ref (b + 2)) (C := RMo) (T := TMo) (N := 20) hx hb hW in_Mo hown hK.1 hw b0 rfl 2 (by decide) (hW _ lf_Mo_13) (fun _ h => h) rfl dMo_power_47 ?_
          refine lv_iload_n (pc := 50) hx hb dMo_power_50 rfl (lv_at hl 3 rfl) ?_
          refine fw_ialdN (pc := 51) (x := S (x9 + 1)) hx hb hK.1 hw 0 b2 rfl (x9 + 1) (by omega) (by decide) rfl dMo_power_51 ?_
          rw [show (S (x9 + 1) : Int32) = sg32 b9 from hsy]
          rcases (show b9 = 0 ∨ 0 < b9 by omega) with hb0 | hb0
          · rw [show (sg32 b9 : Int32) = nI 0 from (sg32_z hb0)]
            refine lv_if_ne (pc := 52) (tgt := 59) hx hb dMo_power_52 (by decide) (fun hc => absurd hc (fun h => h (by decide))) (fun _ => ?_)
            have hY0 : Y = 0 := by omega
            refine lv_iconst (pc := 55) (v := (nI 1)) hx hb dMo_power_55 (by decide) ?_
            refine lv_goto (pc := 56) (tgt := 82) hx hb dMo_power_56 (by decide) ?_
            refine lv_istore (pc := 82) (lv' := [(4, .int (nI 1)), (3, .int (nI 0)), (0, .ref b), (1, .int (nI x9)), (2, .int (nI (x9 + 1)))]) hx hb dMo_power_82 hl (by decide) rfl (fun ls hl => ?_)
            refine lv_aload_n (pc := 84) hx hb dMo_power_84 rfl (lv_at hl 2 rfl) ?_
            refine lv_iload_n (pc := 85) hx hb dMo_power_85 rfl (lv_at hl 3 rfl) ?_
            refine fw_cV (pc := 86) (As := [.int (nI x9)]) (rest := []) ⟨hx, hb, hml, hown, hW⟩ (c_Mo_clear (p0 := x9) hS (by omega)) (cwV 1 hW (kw_V lm_Mo_125 im_Mo_clear se_Mo_clear ini_Mo cd_Mo_clear) rfl rfl rfl (by decide +kernel) ⟨Nat.le_of_ble_eq_true rfl, Nat.le_of_ble_eq_true rfl⟩) hK hw b0 rfl rfl hl.1 rfl (Nat.le_of_ble_eq_true rfl) dMo_power_86 ⟨Nat.le_of_ble_eq_true rfl, Nat.le_of_ble_eq_true rfl⟩ (fun v w201 H locs hq hw => ?_)
            obtain ⟨rfl, hS, hn9⟩ := hq
            rw [clr_all] at hS
            have hoF : ∀ q, q < b ∨ b + 9 ≤ q → w201 q = w q := fun q h9 => (hn9 q (by omega) (by omega)).trans (hoF q h9)
            obtain ⟨X1, eX1⟩ : ∃ X_, X_ = va_up X (x9) (0) := ⟨_, rfl⟩
            rw [← eX1] at hS
            have hv9 : 0 = 0 := rfl
            have hxy : X1 (x9 + 1) = Y := by rw [eX1, up_o (by omega)]; exact hxy
            have hxO : X1 (23) = 1 := by rw [eX1, up_o (by omega)]; exact hxO
            have hxx : X1 (x9) = 0 := by rw [eX1]; exact up_s.trans hv9
            have hXb : ∀ p, X1 p < nM ^ 64 := fun p => by (rw [eX1]; unfold va_up; split; (rw [hv9]; exact Nat.pow_pos (by decide)); exact hXb p)
            have hfr : ∀ p, p ≠ x9 → p < 18 ∨ 22 < p → X1 p = X p ∧ S p = S p := fun p h1 h2 => by rw [eX1, up_o (by omega)]; exact hfr p h1 h2
            obtain ⟨S2, eS2⟩ : ∃ S_, S_ = va_up S (x9) (nI 0) := ⟨_, rfl⟩
            rw [← eS2] at hS
            have hv9 : (nI 0 : Int32) = nI 0 := rfl
            have hsy : S2 (x9 + 1) = sg32 b9 := by rw [eS2, up_o (by omega)]; exact hsy
            have hsO : S2 (23) = nI 1 := by rw [eS2, up_o (by omega)]; exact hsO
            have hsx : S2 (x9) = nI 0 := by rw [eS2]; exact up_s.trans hv9
            have hfr : ∀ p, p ≠ x9 → p < 18 ∨ 22 < p → X1 p = X p ∧ S2 p = S p := fun p h1 h2 => by rw [eS2, up_o (by omega)]; exact hfr p h1 h2
            have b0 : w201 b = some (.inr (10, [.int (nI (I 0)), .ref (b + 1), .ref (b + 2), .int (nI (I 3)), .ref (b + 3), .ref (b + 4), .int (nI (I 6)), .int (nI (I 7)), .ref (b + 5), .ref (b + 6), .int (nI (I 10)), .int (nI (I 11)), .int (nI (I 12)), .int (nI (I 13)), .ref (b + 7), .ref (b + 8), .int (nI (I 16)), .int (nI (I 17)), .int (nI (I 18)), .int (nI (I 19))])) := hS.1
            have b1 : w201 (b + 1) = some (.inl (cL, 1536, .inr (.inl (fun i => lN (mC X1 i))))) := hS.2.1
            have b2 : w201 (b + 2) = some (.inl (cI, 24, .inl (S2))) := hS.2.2.1
            refine W.eq (g2 := F0 m 89 ls []) rfl ?_
            refine lv_aload_n (pc := 89) hx hb dMo_power_89 rfl (lv_at hl 2 rfl) ?_
            refine fw_get (pc := 90) (ci := 10) (v := .ref (b + 1)) (C := RMo) (T := TMo) (N := 20) hx hb hW in_Mo hown hK.1 hw b0 rfl 1 (by decide) (hW _ lf_Mo_7) (fun _ h => h) rfl dMo_power_90 ?_
            refine lv_bipush (pc := 93) (v := (nI 64)) hx hb dMo_power_93 (by decide) ?_
            refine lv_iload_n (pc := 95) hx hb dMo_power_95 rfl (lv_at hl 3 rfl) ?_
            refine lv_imul (pc := 96) hx hb dMo_power_96 ?_
            rw [show (((nI 64) * nI x9) : Int32) = nI (64 * x9) from (nI_mul 64 x9)]
            refine lv_iload (pc := 97) hx hb dMo_power_97 (lv_at hl 0 rfl) ?_
            refine lv_if_ne (pc := 99) (tgt := 106) hx hb dMo_power_99 (by decide) (fun _ => ?_) (fun hc => absurd hc (by decide))
            refine lv_lconst (pc := 106) (v := lN 1) hx hb dMo_power_106 (by decide) ?_
            refine fw_lastN (pc := 107) (f2 := fun i => lN (mC (va_up X1 (x9) (1)) i)) hx hb hK.1 hw 1 b1 rfl (64 * x9) (by omega) (by decide) (by rw [lN_up, mC_one hxx (by decide)]) dMo_power_107 (fun H locs hw => ?_)
            obtain ⟨w202, e202⟩ : ∃ w_, w_ = fw_up w201 (b + 1) (.inl (cL, 1536, .inr (.inl (fun i => lN (mC (va_up X1 (x9) (1)) i))))) := ⟨_, rfl⟩
            have hw : fw_H D kCl (fw_A w (sz)) s.heap w202 (sz) H locs := by rw [e202]; exact hw
            have b0_ : w202 (b) = some (.inr (10, [.int (nI (I 0)), .ref (b + 1), .ref (b + 2), .int (nI (I 3)), .ref (b + 3), .ref (b + 4), .int (nI (I 6)), .int (nI (I 7)), .ref (b + 5), .ref (b + 6), .int (nI (I 10)), .int (nI (I 11)), .int (nI (I 12)), .int (nI (I 13)), .ref (b + 7), .ref (b + 8), .int (nI (I 16)), .int (nI (I 17)), .int (nI (I 18)), .int (nI (I 19))])) := by rw [e202, fw_un (by omega)]; exact b0
            have b2_ : w202 (b + 2) = some (.inl (cI, 24, .inl (S2))) := by rw [e202, fw_un (by omega)]; exact b2
            have b1_ : w202 (b + 1) = some (.inl (cL, 1536, .inr (.inl (fun i => lN (mC (va_up X1 (x9) (1)) i))))) := by rw [e202]; exact fw_us _ _ _
            have b0 := b0_
            have b1 := b1_
            have b2 := b2_
            have hS : moS cI cL w202 b I K S2 (mC (va_up X1 (x9) (1))) := moS.cs hS b1 b2 (fun q h1 h2 => by rw [e202, fw_un h1])
            have hoF : ∀ q, q < b ∨ b + 9 ≤ q → w202 q = w q := fun q h9 => by rw [e202, fw_un (by omega)]; exact hoF q h9
            obtain ⟨X3, eX3⟩ : ∃ X_, X_ = va_up X1 (x9) (1) := ⟨_, rfl⟩
            rw [← eX3] at hS
            have hv9 : 1 = 1 := rfl
            have hxy : X3 (x9 + 1) = Y := by rw [eX3, up_o (by omega)]; exact hxy
            have hxO : X3 (23) = 1 := by rw [eX3, up_o (by omega)]; exact hxO
            have hxx : X3 (x9) = 1 := by rw [eX3]; exact up_s.trans hv9
            have hXb : ∀ p, X3 p < nM ^ 64 := fun p => by (rw [eX3]; unfold va_up; split; (rw [hv9]; exact Nat.lt_trans (by decide +kernel) p64); exact hXb p)
            have hfr : ∀ p, p ≠ x9 → p < 18 ∨ 22 < p → X3 p = X p ∧ S2 p = S p := fun p h1 h2 => by rw [eX3, up_o (by omega)]; exact hfr p h1 h2
            have b0 : w202 b = some (.inr (10, [.int (nI (I 0)), .ref (b + 1), .ref (b + 2), .int (nI (I 3)), .ref (b + 3), .ref (b + 4), .int (nI (I 6)), .int (nI (I 7)), .ref (b + 5), .ref (b + 6), .int (nI (I 10)), .int (nI (I 11)), .int (nI (I 12)), .int (nI (I 13)), .ref (b + 7), .ref (b + 8), .int (nI (I 16)), .int (nI (I 17)), .int (nI (I 18)), .int (nI (I 19))])) := hS.1
            have b1 : w202 (b + 1) = some (.inl (cL, 1536, .inr (.inl (fun i => lN (mC X3 i))))) := hS.2.1
            have b2 : w202 (b + 2) = some (.inl (cI, 24, .inl (S2))) := hS.2.2.1
            refine lv_aload_n (pc := 108) hx hb dMo_power_108 rfl (lv_at hl 2 rfl) ?_
            refine fw_get (pc := 109) (ci := 10) (v := .ref (b + 2)) (C := RMo) (T := TMo) (N := 20) hx hb hW in_Mo hown hK.1 hw b0 rfl 2 (by decide) (hW _ lf_Mo_13) (fun _ h => h) rfl dMo_power_109 ?_
            refine lv_iload_n (pc := 112) hx hb dMo_power_112 rfl (lv_at hl 3 rfl) ?_
            refine lv_iload (pc := 113) hx hb dMo_power_113 (lv_at hl 0 rfl) ?_
            refine fw_iastN (pc := 115) (f2 := va_up S2 (x9) (nI 1)) hx hb hK.1 hw 0 b2 rfl (x9) (by omega) (by decide) (rfl) dMo_power_115 (fun H locs hw => ?_)
            obtain ⟨w203, e203⟩ : ∃ w_, w_ = fw_up w202 (b + 2) (.inl (cI, 24, .inl (va_up S2 (x9) (nI 1)))) := ⟨_, rfl⟩
            have hw : fw_H D kCl (fw_A w (sz)) s.heap w203 (sz) H locs := by rw [e203]; exact hw
            have b0_ : w203 (b) = some (.inr (10, [.int (nI (I 0)), .ref (b + 1), .ref (b + 2), .int (nI (I 3)), .ref (b + 3), .ref (b + 4), .int (nI (I 6)), .int (nI (I 7)), .ref (b + 5), .ref (b + 6), .int (nI (I 10)), .int (nI (I 11)), .int (nI (I 12)), .int (nI (I 13)), .ref (b + 7), .ref (b + 8), .int (nI (I 16)), .int (nI (I 17)), .int (nI (I 18)), .int (nI (I 19))])) := by rw [e203, fw_un (by omega)]; exact b0
            have b1_ : w203 (b + 1) = some (.inl (cL, 1536, .inr (.inl (fun i => lN (mC X3 i))))) := by rw [e203, fw_un (by omega)]; exact b1
            have b2_ : w203 (b + 2) = some (.inl (cI, 24, .inl (va_up S2 (x9) (nI 1)))) := by rw [e203]; exact fw_us _ _ _
            have b0 := b0_
            have b1 := b1_
            have b2 := b2_
            have hS : moS cI cL w203 b I K (va_up S2 (x9) (nI 1)) (mC X3) := moS.cs hS b1 b2 (fun q h1 h2 => by rw [e203, fw_un h2])
            have hoF : ∀ q, q < b ∨ b + 9 ≤ q → w203 q = w q := fun q h9 => by rw [e203, fw_un (by omega)]; exact hoF q h9
            obtain ⟨S4, eS4⟩ : ∃ S_, S_ = va_up S2 (x9) (nI 1) := ⟨_, rfl⟩
            rw [← eS4] at hS
            have hv9 : (nI 1 : Int32) = nI 1 := rfl
            have hsy : S4 (x9 + 1) = sg32 b9 := by rw [eS4, up_o (by omega)]; exact hsy
            have hsO : S4 (23) = nI 1 := by rw [eS4, up_o (by omega)]; exact hsO
            have hsx : S4 (x9) = nI 1 := by rw [eS4]; exact up_s.trans hv9
            have hfr : ∀ p, p ≠ x9 → p < 18 ∨ 22 < p → X3 p = X p ∧ S4 p = S p := fun p h1 h2 => by rw [eS4, up_o (by omega)]; exact hfr p h1 h2
            have b0 : w203 b = some (.inr (10, [.int (nI (I 0)), .ref (b + 1), .ref (b + 2), .int (nI (I 3)), .ref (b + 3), .ref (b + 4), .int (nI (I 6)), .int (nI (I 7)), .ref (b + 5), .ref (b + 6), .int (nI (I 10)), .int (nI (I 11)), .int (nI (I 12)), .int (nI (I 13)), .ref (b + 7), .ref (b + 8), .int (nI (I 16)), .int (nI (I 17)), .int (nI (I 18)), .int (nI (I 19))])) := hS.1
            have b1 : w203 (b + 1) = some (.inl (cL, 1536, .inr (.inl (fun i => lN (mC X3 i))))) := hS.2.1
            have b2 : w203 (b + 2) = some (.inl (cI, 24, .inl (S4))) := hS.2.2.1
            refine lv_iconst (pc := 116) (v := (nI 0)) hx hb dMo_power_116 (by decide) ?_
            have hsp : sPow a9 b9 = (0, 1) := by rw [hsp0, show a9 ^ Y = 1 from (by rw [hY0, Int.pow_zero])]; exact if_pos (by decide +kernel)
            exact fw_iret (pc := 117) hx hb hr hlocks hw dMo_power_117 ⟨by rw [hsp], ⟨_, _, hS, hXb, fun _ => by rw [hsp]; exact ⟨hxx, hsx.trans (by decide)⟩, hfr⟩, hoF⟩
          · rw [show (sg32 b9 : Int32) = nI 1 from (sg32_p hb0)]
            refine lv_if_ne (pc := 52) (tgt := 59) hx hb dMo_power_52 (by decide) (fun _ => ?_) (fun hc => absurd hc (by decide))
            refine lv_aload_n (pc := 59) hx hb dMo_power_59 rfl (lv_at hl 1 rfl) ?_
            refine fw_get (pc := 60) (ci := 10) (v := .ref (b + 2)) (C := RMo) (T := TMo) (N := 20) hx hb hW in_Mo hown hK.1 hw b0 rfl 2 (by decide) (hW _ lf_Mo_13) (fun _ h => h) rfl dMo_power_60 ?_
            refine lv_iload_n (pc := 63) hx hb dMo_power_63 rfl (lv_at hl 2 rfl) ?_
            refine fw_ialdN (pc := 64) (x := S (x9)) hx hb hK.1 hw 0 b2 rfl (x9) (by omega) (by decide) rfl dMo_power_64 ?_
            rw [show (S (x9) : Int32) = sg32 a9 from hsx]
            rw [show (sg32 a9 : Int32) = (-1) from (sg32_n ha90)]
            refine lv_if_ge (pc := 65) (tgt := 76) hx hb dMo_power_65 (by decide) (fun hc => absurd hc (by decide)) (fun _ => ?_)
            refine lv_iload_n (pc := 68) hx hb dMo_power_68 rfl (lv_at hl 0 rfl) ?_
            refine lv_if_ne (pc := 69) (tgt := 76) hx hb dMo_power_69 (by decide) (fun hc => absurd hc (fun h => h (by decide))) (fun _ => ?_)
            refine lv_iconst (pc := 72) (v := (nI 1)) hx hb dMo_power_72 (by decide) ?_
            refine lv_goto (pc := 73) (tgt := 82) hx hb dMo_power_73 (by decide) ?_
            refine lv_istore (pc := 82) (lv' := [(4, .int (nI 1)), (3, .int (nI 0)), (0, .ref b), (1, .int (nI x9)), (2, .int (nI (x9 + 1)))]) hx hb dMo_power_82 hl (by decide) rfl (fun ls hl => ?_)
            refine lv_aload_n (pc := 84) hx hb dMo_power_84 rfl (lv_at hl 2 rfl) ?_
            refine lv_iload_n (pc := 85) hx hb dMo_power_85 rfl (lv_at hl 3 rfl) ?_
            refine fw_cV (pc := 86) (As := [.int (nI x9)]) (rest := []) ⟨hx, hb, hml, hown, hW⟩ (c_Mo_clear (p0 := x9) hS (by omega)) (cwV 1 hW (kw_V lm_Mo_125 im_Mo_clear se_Mo_clear ini_Mo cd_Mo_clear) rfl rfl rfl (by decide +kernel) ⟨Nat.le_of_ble_eq_true rfl, Nat.le_of_ble_eq_true rfl⟩) hK hw b0 rfl rfl hl.1 rfl (Nat.le_of_ble_eq_true rfl) dMo_power_86 ⟨Nat.le_of_ble_eq_true rfl, Nat.le_of_ble_eq_true rfl⟩ (fun v w201 H locs hq hw => ?_)
            obtain ⟨rfl, hS, hn9⟩ := hq
            rw [clr_all] at hS
            have hoF : ∀ q, q < b ∨ b + 9 ≤ q → w201 q = w q := fun q h9 => (hn9 q (by omega) (by omega)).trans (hoF q h9)
            obtain ⟨X5, eX5⟩ : ∃ X_, X_ = va_up X (x9) (0) := ⟨_, rfl⟩
            rw [← eX5] at hS
            have hv9 : 0 = 0 := rfl
            have hxy : X5 (x9 + 1) = Y := by rw [eX5, up_o (by omega)]; exact hxy
            have hxO : X5 (23) = 1 := by rw [eX5, up_o (by omega)]; exact hxO
            have hxx : X5 (x9) = 0 := by rw [eX5]; exact up_s.trans hv9
            have hXb : ∀ p, X5 p < nM ^ 64 := fun p => by (rw [eX5]; unfold va_up; split; (rw [hv9]; exact Nat.pow_pos (by decide)); exact hXb p)
            have hfr : ∀ p, p ≠ x9 → p < 18 ∨ 22 < p → X5 p = X p ∧ S p = S p := fun p h1 h2 => by rw [eX5, up_o (by omega)]; exact hfr p h1 h2
            obtain ⟨S6, eS6⟩ : ∃ S_, S_ = va_up S (x9) (nI 0) := ⟨_, rfl⟩
            rw [← eS6] at hS
            have hv9 : (nI 0 : Int32) = nI 0 := rfl
            have hsy : S6 (x9 + 1) = sg32 b9 := by rw [eS6, up_o (by omega)]; exact hsy
            have hsO : S6 (23) = nI 1 := by rw [eS6, up_o (by omega)]; exact hsO
            have hsx : S6 (x9) = nI 0 := by rw [eS6]; exact up_s.trans hv9
            have hfr : ∀ p, p ≠ x9 → p < 18 ∨ 22 < p → X5 p = X p ∧ S6 p = S p := fun p h1 h2 => by rw [eS6, up_o (by omega)]; exact hfr p h1 h2
            have b0 : w201 b = some (.inr (10, [.int (nI (I 0)), .ref (b + 1), .ref (b + 2), .int (nI (I 3)), .ref (b + 3), .ref (b + 4), .int (nI (I 6)), .int (nI (I 7)), .ref (b + 5), .ref (b + 6), .int (nI (I 10)), .int (nI (I 11)), .int (nI (I 12)), .int (nI (I 13)), .ref (b + 7), .ref (b + 8), .int (nI (I 16)), .int (nI (I 17)), .int (nI (I 18)), .int (nI (I 19))])) := hS.1
            have b1 : w201 (b + 1) = some (.inl (cL, 1536, .inr (.inl (fun i => lN (mC X5 i))))) := hS.2.1
            have b2 : w201 (b + 2) = some (.inl (cI, 24, .inl (S6))) := hS.2.2.1
            refine W.eq (g2 := F0 m 89 ls []) rfl ?_
            refine lv_aload_n (pc := 89) hx hb dMo_power_89 rfl (lv_at hl 2 rfl) ?_
            refine fw_get (pc := 90) (ci := 10) (v := .ref (b + 1)) (C := RMo) (T := TMo) (N := 20) hx hb hW in_Mo hown hK.1 hw b0 rfl 1 (by decide) (hW _ lf_Mo_7) (fun _ h => h) rfl dMo_power_90 ?_
            refine lv_bipush (pc := 93) (v := (nI 64)) hx hb dMo_power_93 (by decide) ?_
            refine lv_iload_n (pc := 95) hx hb dMo_power_95 rfl (lv_at hl 3 rfl) ?_
            refine lv_imul (pc := 96) hx hb dMo_power_96 ?_
            rw [show (((nI 64) * nI x9) : Int32) = nI (64 * x9) from (nI_mul 64 x9)]
            refine lv_iload (pc := 97) hx hb dMo_power_97 (lv_at hl 0 rfl) ?_
            refine lv_if_ne (pc := 99) (tgt := 106) hx hb dMo_power_99 (by decide) (fun _ => ?_) (fun hc => absurd hc (by decide))
            refine lv_lconst (pc := 106) (v := lN 1) hx hb dMo_power_106 (by decide) ?_
            refine fw_lastN (pc := 107) (f2 := fun i => lN (mC (va_up X5 (x9) (1)) i)) hx hb hK.1 hw 1 b1 rfl (64 * x9) (by omega) (by decide) (by rw [lN_up, mC_one hxx (by decide)]) dMo_power_107 (fun H locs hw => ?_)
            obtain ⟨w202, e202⟩ : ∃ w_, w_ = fw_up w201 (b + 1) (.inl (cL, 1536, .inr (.inl (fun i => lN (mC (va_up X5 (x9) (1)) i))))) := ⟨_, rfl⟩
            have hw : fw_H D kCl (fw_A w (sz)) s.heap w202 (sz) H locs := by rw [e202]; exact hw
            have b0_ : w202 (b) = some (.inr (10, [.int (nI (I 0)), .ref (b + 1), .ref (b + 2), .int (nI (I 3)), .ref (b + 3), .ref (b + 4), .int (nI (I 6)), .int (nI (I 7)), .ref (b + 5), .ref (b + 6), .int (nI (I 10)), .int (nI (I 11)), .int (nI (I 12)), .int (nI (I 13)), .ref (b + 7), .ref (b + 8), .int (nI (I 16)), .int (nI (I 17)), .int (nI (I 18)), .int (nI (I 19))])) := by rw [e202, fw_un (by omega)]; exact b0
            have b2_ : w202 (b + 2) = some (.inl (cI, 24, .inl (S6))) := by rw [e202, fw_un (by omega)]; exact b2
            have b1_ : w202 (b + 1) = some (.inl (cL, 1536, .inr (.inl (fun i => lN (mC (va_up X5 (x9) (1)) i))))) := by rw [e202]; exact fw_us _ _ _
            have b0 := b0_
            have b1 := b1_
            have b2 := b2_
            have hS : moS cI cL w202 b I K S6 (mC (va_up X5 (x9) (1))) := moS.cs hS b1 b2 (fun q h1 h2 => by rw [e202, fw_un h1])
            have hoF : ∀ q, q < b ∨ b + 9 ≤ q → w202 q = w q := fun q h9 => by rw [e202, fw_un (by omega)]; exact hoF q h9
            obtain ⟨X7, eX7⟩ : ∃ X_, X_ = va_up X5 (x9) (1) := ⟨_, rfl⟩
            rw [← eX7] at hS
            have hv9 : 1 = 1 := rfl
            have hxy : X7 (x9 + 1) = Y := by rw [eX7, up_o (by omega)]; exact hxy
            have hxO : X7 (23) = 1 := by rw [eX7, up_o (by omega)]; exact hxO
            have hxx : X7 (x9) = 1 := by rw [eX7]; exact up_s.trans hv9
            have hXb : ∀ p, X7 p < nM ^ 64 := fun p => by (rw [eX7]; unfold va_up; split; (rw [hv9]; exact Nat.lt_trans (by decide +kernel) p64); exact hXb p)
            have hfr : ∀ p, p ≠ x9 → p < 18 ∨ 22 < p → X7 p = X p ∧ S6 p = S p := fun p h1 h2 => by rw [eX7, up_o (by omega)]; exact hfr p h1 h2
            have b0 : w202 b = some (.inr (10, [.int (nI (I 0)), .ref (b + 1), .ref (b + 2), .int (nI (I 3)), .ref (b + 3), .ref (b + 4), .int (nI (I 6)), .int (nI (I 7)), .ref (b + 5), .ref (b + 6), .int (nI (I 10)), .int (nI (I 11)), .int (nI (I 12)), .int (nI (I 13)), .ref (b + 7), .ref (b + 8), .int (nI (I 16)), .int (nI (I 17)), .int (nI (I 18)), .int (nI (I 19))])) := hS.1
            have b1 : w202 (b + 1) = some (.inl (cL, 1536, .inr (.inl (fun i => lN (mC X7 i))))) := hS.2.1
            have b2 : w202 (b + 2) = some (.inl (cI, 24, .inl (S6))) := hS.2.2.1
            refine lv_aload_n (pc := 108) hx hb dMo_power_108 rfl (lv_at hl 2 rfl) ?_
            refine fw_get (pc := 109) (ci := 10) (v := .ref (b + 2)) (C := RMo) (T := TMo) (N := 20) hx hb hW in_Mo hown hK.1 hw b0 rfl 2 (by decide) (hW _ lf_Mo_13) (fun _ h => h) rfl dMo_power_109 ?_
            refine lv_iload_n (pc := 112) hx hb dMo_power_112 rfl (lv_at hl 3 rfl) ?_
            refine lv_iload (pc := 113) hx hb dMo_power_113 (lv_at hl 0 rfl) ?_
            refine fw_iastN (pc := 115) (f2 := va_up S6 (x9) (nI 1)) hx hb hK.1 hw 0 b2 rfl (x9) (by omega) (by decide) (rfl) dMo_power_115 (fun H locs hw => ?_)
            obtain ⟨w203, e203⟩ : ∃ w_, w_ = fw_up w202 (b + 2) (.inl (cI, 24, .inl (va_up S6 (x9) (nI 1)))) := ⟨_, rfl⟩
            have hw : fw_H D kCl (fw_A w (sz)) s.heap w203 (sz) H locs := by rw [e203]; exact hw
            have b0_ : w203 (b) = some (.inr (10, [.int (nI (I 0)), .ref (b + 1), .ref (b + 2), .int (nI (I 3)), .ref (b + 3), .ref (b + 4), .int (nI (I 6)), .int (nI (I 7)), .ref (b + 5), .ref (b + 6), .int (nI (I 10)), .int (nI (I 11)), .int (nI (I 12)), .int (nI (I 13)), .ref (b + 7), .ref (b + 8), .int (nI (I 16)), .int (nI (I 17)), .int (nI (I 18)), .int (nI (I 19))])) := by rw [e203, fw_un (by omega)]; exact b0
            have b1_ : w203 (b + 1) = some (.inl (cL, 1536, .inr (.inl (fun i => lN (mC X7 i))))) := by rw [e203, fw_un (by omega)]; exact b1
            have b2_ : w203 (b + 2) = some (.inl (cI, 24, .inl (va_up S6 (x9) (nI 1)))) := by rw [e203]; exact fw_us _ _ _
            have b0 := b0_
            have b1 := b1_
            have b2 := b2_
            have hS : moS cI cL w203 b I K (va_up S6 (x9) (nI 1)) (mC X7) := moS.cs hS b1 b2 (fun q h1 h2 => by rw [e203, fw_un h2])
            have hoF : ∀ q, q < b ∨ b + 9 ≤ q → w203 q = w q := fun q h9 => by rw [e203, fw_un (by omega)]; exact hoF q h9
            obtain ⟨S8, eS8⟩ : ∃ S_, S_ = va_up S6 (x9) (nI 1) := ⟨_, rfl⟩
            rw [← eS8] at hS
            have hv9 : (nI 1 : Int32) = nI 1 := rfl
            have hsy : S8 (x9 + 1) = sg32 b9 := by rw [eS8, up_o (by omega)]; exact hsy
            have hsO : S8 (23) = nI 1 := by rw [eS8, up_o (by omega)]; exact hsO
            have hsx : S8 (x9) = nI 1 := by rw [eS8]; exact up_s.trans hv9
            have hfr : ∀ p, p ≠ x9 → p < 18 ∨ 22 < p → X7 p = X p ∧ S8 p = S p := fun p h1 h2 => by rw [eS8, up_o (by omega)]; exact hfr p h1 h2
            have b0 : w203 b = some (.inr (10, [.int (nI (I 0)), .ref (b + 1), .ref (b + 2), .int (nI (I 3)), .ref (b + 3), .ref (b + 4), .int (nI (I 6)), .int (nI (I 7)), .ref (b + 5), .ref (b + 6), .int (nI (I 10)), .int (nI (I 11)), .int (nI (I 12)), .int (nI (I 13)), .ref (b + 7), .ref (b + 8), .int (nI (I 16)), .int (nI (I 17)), .int (nI (I 18)), .int (nI (I 19))])) := hS.1
            have b1 : w203 (b + 1) = some (.inl (cL, 1536, .inr (.inl (fun i => lN (mC X7 i))))) := hS.2.1
            have b2 : w203 (b + 2) = some (.inl (cI, 24, .inl (S8))) := hS.2.2.1
            refine lv_iconst (pc := 116) (v := (nI 0)) hx hb dMo_power_116 (by decide) ?_
            have hsp : sPow a9 b9 = (0, 1) := by rw [hsp0, show a9 ^ Y = 1 from (by have h9 := wv_pow 1 1 Y (by decide); rw [show wv 1 1 = a9 from by (rw [wv_1]; omega), Nat.one_pow] at h9; rw [h9, if_neg (fun h8 => by have := h8.2; omega)]; rfl)]; exact if_pos (by decide +kernel)
            exact fw_iret (pc := 117) hx hb hr hlocks hw dMo_power_117 ⟨by rw [hsp], ⟨_, _, hS, hXb, fun _ => by rw [hsp]; exact ⟨hxx, hsx.trans (by decide)⟩, hfr⟩, hoF⟩
        · rw [show (ordI A 1 : Int32) = nI 1 from (ordI_gt hA1)]
          refine lv_if_ne (pc := 43) (tgt := 118) hx hb dMo_power_43 (by decide) (fun _ => ?_) (fun hc => absurd hc (by decide))
          have hbig : 768 ≤ Y → 2 ^ 768 ≤ A ^ Y := fun h9 => Nat.le_trans (Nat.pow_le_pow_left (show 2 ≤ A from hA1) 768) (Nat.pow_le_pow_right (by omega) h9)
          have hsix : 2 ^ 768 ≤ A ^ Y → sPow a9 b9 = (6, a9) := fun h9 => by rw [hsp0]; unfold sFit; rw [hpa, if_neg (by omega)]
          refine lv_aload_n (pc := 118) hx hb dMo_power_118 rfl (lv_at hl 1 rfl) ?_
          refine lv_iload_n (pc := 119) hx hb dMo_power_119 rfl (lv_at hl 3 rfl) ?_
          refine fw_cVR (pc := 120) (As := [.int (nI (x9 + 1))]) (rest := []) ⟨hx, hb, hml, hown, hW⟩ (c_Mo_bits (p0 := x9 + 1) hS hXb (by omega)) (cwV 1 hW (kw_V lm_Mo_162 im_Mo_bits se_Mo_bits ini_Mo cd_Mo_bits) rfl rfl rfl (by decide +kernel) ⟨Nat.le_of_ble_eq_true rfl, Nat.le_of_ble_eq_true rfl⟩) hK hw b0 rfl rfl hl.1 rfl (Nat.le_of_ble_eq_true rfl) dMo_power_120 ⟨Nat.le_of_ble_eq_true rfl, Nat.le_of_ble_eq_true rfl⟩ (fun v hq => ?_)
          rw [hxy] at hq
          have hbl9 := bt_ub b97
          subst hq
          refine W.eq (g2 := F0 m 123 ls [.int (nI (bl Y))]) rfl ?_
          refine lv_bipush (pc := 123) (v := (nI 10)) hx hb dMo_power_123 (by decide) ?_
          rcases (show 10 < bl Y ∨ bl Y ≤ 10 by omega) with hbl | hbl
          · refine lv_icmp_gt (pc := 125) (tgt := 144) hx hb dMo_power_125 (by decide) (fun _ => ?_) (fun hc => absurd ((nI_ltI (by decide) (by omega)).mpr hbl) hc)
            refine lv_bipush (pc := 144) (v := (nI 6)) hx hb dMo_power_144 (by decide) ?_
            have hsp : sPow a9 b9 = (6, a9) := hsix (hbig (by have h9 := (bt_le (show Y ≠ 0 from fun h8 => by rw [h8] at hbl; exact absurd hbl (by decide))).1; have h8 : 2 ^ 10 ≤ 2 ^ (bl Y - 1) := Nat.pow_le_pow_right (by decide) (by omega); omega))
            exact fw_iret (pc := 146) hx hb hr hlocks hw dMo_power_146 ⟨by rw [hsp], ⟨_, _, hS, hXb, fun h9 => absurd h9 (by rw [hsp]; show ¬ (6 : Nat) = 0; decide), hfr⟩, hoF⟩
          · refine lv_icmp_gt (pc := 125) (tgt := 144) hx hb dMo_power_125 (by decide) (fun hc => absurd hc (nI_nlt hbl (by decide))) (fun _ => ?_)
            have hY10 : Y < 1024 := by have h9 := bt_lt Y; have h8 : 2 ^ bl Y ≤ 2 ^ 10 := Nat.pow_le_pow_right (by decide) hbl; omega
            have hc0 : mC X (64 * (x9 + 1)) = Y := by have h9 := mC_at X (p := x9 + 1) (i := 0) (by decide); rw [Nat.add_zero, hxy, Nat.pow_zero, Nat.div_one] at h9; rw [h9]; exact Nat.mod_eq_of_lt (Nat.lt_trans hY10 (by decide))
            refine lv_aload_n (pc := 128) hx hb dMo_power_128 rfl (lv_at hl 1 rfl) ?_
            refine fw_get (pc := 129) (ci := 10) (v := .ref (b + 1)) (C := RMo) (T := TMo) (N := 20) hx hb hW in_Mo hown hK.1 hw b0 rfl 1 (by decide) (hW _ lf_Mo_7) (fun _ h => h) rfl dMo_power_129 ?_
            refine lv_bipush (pc := 132) (v := (nI 64)) hx hb dMo_power_132 (by decide) ?_
            refine lv_iload_n (pc := 134) hx hb dMo_power_134 rfl (lv_at hl 3 rfl) ?_
            refine lv_imul (pc := 135) hx hb dMo_power_135 ?_
            rw [show (((nI 64) * nI (x9 + 1)) : Int32) = nI (64 * (x9 + 1)) from (nI_mul 64 (x9 + 1))]
            refine fw_laldN (pc := 136) (x := lN (mC X (64 * (x9 + 1)))) hx hb hK.1 hw 1 b1 rfl (64 * (x9 + 1)) (by omega) (by decide) rfl dMo_power_136 ?_
            rw [show (lN (mC X (64 * (x9 + 1))) : Int64) = lN Y from (by rw [hc0])]
            refine lv_ldc2 (pc := 137) (v := lN 767) hx hb hown (hW _ kl_Mo_165) dMo_power_137 ?_
            refine W.lcmp (pc := 140) hx hb dMo_power_140 ?_
            rcases (show Y ≤ 767 ∨ 767 < Y by omega) with hY7 | hY7
            · refine lv_if_le (pc := 141) (tgt := 147) hx hb dMo_power_141 (by decide) (fun _ => ?_) (fun hc => absurd ((lg_cmp_le _ _).mpr ((pk_lLE (by omega) (by decide)).mpr hY7)) hc)
              refine lv_iload_n (pc := 147) hx hb dMo_power_147 rfl (lv_at hl 0 rfl) ?_
              refine lv_if_eq (pc := 148) (tgt := 160) hx hb dMo_power_148 (by decide) (fun _ => ?_) (fun hc => absurd (show nI 0 = 0 by decide) hc)
              refine lv_iconst (pc := 160) (v := (nI 1)) hx hb dMo_power_160 (by decide) ?_
              refine lv_istore (pc := 161) (lv' := [(4, .int (nI 1)), (3, .int (nI 0)), (0, .ref b), (1, .int (nI x9)), (2, .int (nI (x9 + 1)))]) hx hb dMo_power_161 hl (by decide) rfl (fun ls hl => ?_)
              refine lv_aload_n (pc := 163) hx hb dMo_power_163 rfl (lv_at hl 2 rfl) ?_
              refine fw_get (pc := 164) (ci := 10) (v := .ref (b + 1)) (C := RMo) (T := TMo) (N := 20) hx hb hW in_Mo hown hK.1 hw b0 rfl 1 (by decide) (hW _ lf_Mo_7) (fun _ h => h) rfl dMo_power_164 ?_
              refine lv_bipush (pc := 167) (v := (nI 64)) hx hb dMo_power_167 (by decide) ?_
              refine lv_iload_n (pc := 169) hx hb dMo_power_169 rfl (lv_at hl 4 rfl) ?_
              refine lv_imul (pc := 170) hx hb dMo_power_170 ?_
              have hsr : sg32 (a9 ^ Y) = nI 1 := by have h9 := wv_pow 1 A Y (by decide); rw [show wv 1 A = a9 from by (rw [wv_1, hA]; omega)] at h9; rw [h9]; rw [if_neg (fun h8 => by have := h8.2; omega)]; exact sgw_0 (Nat.pow_pos (by omega))
              rw [show (((nI 64) * nI (x9 + 1)) : Int32) = nI (64 * (x9 + 1)) from (nI_mul 64 (x9 + 1))]
              refine fw_laldN (pc := 171) (x := lN (mC X (64 * (x9 + 1)))) hx hb hK.1 hw 1 b1 rfl (64 * (x9 + 1)) (by omega) (by decide) rfl dMo_power_171 ?_
              rw [show (lN (mC X (64 * (x9 + 1))) : Int64) = lN Y from (by rw [hc0])]
              refine lv_l2i (pc := 172) (v := nI Y) hx hb dMo_power_172 (lN_i Y) ?_
              refine lv_istore (pc := 173) (lv' := [(5, .int (nI Y)), (4, .int (nI 1)), (3, .int (nI 0)), (0, .ref b), (1, .int (nI x9)), (2, .int (nI (x9 + 1)))]) hx hb dMo_power_173 hl (by decide) rfl (fun ls hl => ?_)
              refine lv_aload_n (pc := 175) hx hb dMo_power_175 rfl (lv_at hl 3 rfl) ?_
              refine lv_iload_n (pc := 176) hx hb dMo_power_176 rfl (lv_at hl 4 rfl) ?_
              refine lv_bipush (pc := 177) (v := (nI 19)) hx hb dMo_power_177 (by decide) ?_
              have loop : ∀ (e0 i : Nat), i + e0 = Y → A ^ i < nM ^ 64 → ∀ (w1 : fw_W) (H : Heap) (locs : List Loc) (ls : Array Slot) (S1 : Nat → Int32) (X1 : Nat → Nat), fw_H D kCl (fw_A w (sz)) s.heap w1 (sz) H locs → lv_has ls 7 [(6, .int (nI i)), (5, .int (nI Y)), (4, .int (nI 1)), (3, .int (nI 0)), (0, .ref b), (1, .int (nI x9)), (2, .int (nI (x9 + 1)))] → moS cI cL w1 b I K S1 (mC X1) → (∀ p, X1 p < nM ^ 64) → X1 x9 = A ^ i → X1 19 = A → (∀ p, p ≠ x9 → p < 18 ∨ 22 < p → X1 p = X p ∧ S1 p = S p) → (∀ q, q < b ∨ b + 9 ≤ q → w1 q = w q) → W p l e ({ frames := 2, cells := 0, slots := 0, locals := 55 } : Room) s m args below meth c H locs 0 0 (MQ below (fw_Q D kCl w (sz) 0 (fun v w' => v = some (.int (nI (sPow a9 b9).1)) ∧ (∃ S2 X2, moS cI cL w' b I K S2 (mC X2) ∧ (∀ p, X2 p < nM ^ 64) ∧ ((sPow a9 b9).1 = 0 → X2 x9 = Int.natAbs (sPow a9 b9).2 ∧ S2 x9 = sg32 (sPow a9 b9).2) ∧ ∀ p, p ≠ x9 → p < 18 ∨ 22 < p → X2 p = X p ∧ S2 p = S p) ∧ ∀ q, q < b ∨ b + 9 ≤ q → w' q = w q)) args s 0 0 (fw_A w (sz))) (F0 m 192 ls []) := by
                intro e0
                induction e0 with
                | zero =>
                  intro i hie hAi w1 H locs ls S1 X1 hw hl hS hXb hxx hxB hfr hoF
                  have b0 : w1 b = some (.inr (10, [.int (nI (I 0)), .ref (b + 1), .ref (b + 2), .int (nI (I 3)), .ref (b + 3), .ref (b + 4), .int (nI (I 6)), .int (nI (I 7)), .ref (b + 5), .ref (b + 6), .int (nI (I 10)), .int (nI (I 11)), .int (nI (I 12)), .int (nI (I 13)), .ref (b + 7), .ref (b + 8), .int (nI (I 16)), .int (nI (I 17)), .int (nI (I 18)), .int (nI (I 19))])) := hS.1
                  have b1 : w1 (b + 1) = some (.inl (cL, 1536, .inr (.inl (fun i => lN (mC X1 i))))) := hS.2.1
                  have b2 : w1 (b + 2) = some (.inl (cI, 24, .inl (S1))) := hS.2.2.1
                  refine lv_iload (pc := 192) hx hb dMo_power_192 (lv_at hl 0 rfl) ?_
                  refine lv_iload (pc := 194) hx hb dMo_power_194 (lv_at hl 1 rfl) ?_
                  refine lv_icmp_ge (pc := 196) (tgt := 229) hx hb dMo_power_196 (by decide) (fun _ => ?_) (fun hc => absurd (nI_le (show Y ≤ i by omega) (by omega)) hc)
                  refine lv_aload_n (pc := 229) hx hb dMo_power_229 rfl (lv_at hl 4 rfl) ?_
                  refine fw_get (pc := 230) (ci := 10) (v := .ref (b + 2)) (C := RMo) (T := TMo) (N := 20) hx hb hW in_Mo hown hK.1 hw b0 rfl 2 (by decide) (hW _ lf_Mo_13) (fun _ h => h) rfl dMo_power_230 ?_
                  refine lv_iload_n (pc := 233) hx hb dMo_power_233 rfl (lv_at hl 5 rfl) ?_
                  refine lv_iload (pc := 234) hx hb dMo_power_234 (lv_at hl 2 rfl) ?_
                  refine fw_iastN (pc := 236) (f2 := va_up S1 (x9) (nI 1)) hx hb hK.1 hw 0 b2 rfl (x9) (by omega) (by decide) (rfl) dMo_power_236 (fun H locs hw => ?_)
                  obtain ⟨w501, e501⟩ : ∃ w_, w_ = fw_up w1 (b + 2) (.inl (cI, 24, .inl (va_up S1 (x9) (nI 1)))) := ⟨_, rfl⟩
                  have hw : fw_H D kCl (fw_A w (sz)) s.heap w501 (sz) H locs := by rw [e501]; exact hw
                  have b0_ : w501 (b) = some (.inr (10, [.int (nI (I 0)), .ref (b + 1), .ref (b + 2), .int (nI (I 3)), .ref (b + 3), .ref (b + 4), .int (nI (I 6)), .int (nI (I 7)), .ref (b + 5), .ref (b + 6), .int (nI (I 10)), .int (nI (I 11)), .int (nI (I 12)), .int (nI (I 13)), .ref (b + 7), .ref (b + 8), .int (nI (I 16)), .int (nI (I 17)), .int (nI (I 18)), .int (nI (I 19))])) := by rw [e501, fw_un (by omega)]; exact b0
                  have b1_ : w501 (b + 1) = some (.inl (cL, 1536, .inr (.inl (fun i => lN (mC X1 i))))) := by rw [e501, fw_un (by omega)]; exact b1
                  have b2_ : w501 (b + 2) = some (.inl (cI, 24, .inl (va_up S1 (x9) (nI 1)))) := by rw [e501]; exact fw_us _ _ _
                  have b0 := b0_
                  have b1 := b1_
                  have b2 := b2_
                  have hS : moS cI cL w501 b I K (va_up S1 (x9) (nI 1)) (mC X1) := moS.cs hS b1 b2 (fun q h1 h2 => by rw [e501, fw_un h2])
                  have hoF : ∀ q, q < b ∨ b + 9 ≤ q → w501 q = w q := fun q h9 => by rw [e501, fw_un (by omega)]; exact hoF q h9
                  obtain ⟨S9, eS9⟩ : ∃ S_, S_ = va_up S1 (x9) (nI 1) := ⟨_, rfl⟩
                  rw [← eS9] at hS
                  have hv9 : (nI 1 : Int32) = nI 1 := rfl
                  have hsx : S9 (x9) = nI 1 := by rw [eS9]; exact up_s.trans hv9
                  have hfr : ∀ p, p ≠ x9 → p < 18 ∨ 22 < p → X1 p = X p ∧ S9 p = S p := fun p h1 h2 => by rw [eS9, up_o (by omega)]; exact hfr p h1 h2
                  have b0 : w501 b = some (.inr (10, [.int (nI (I 0)), .ref (b + 1), .ref (b + 2), .int (nI (I 3)), .ref (b + 3), .ref (b + 4), .int (nI (I 6)), .int (nI (I 7)), .ref (b + 5), .ref (b + 6), .int (nI (I 10)), .int (nI (I 11)), .int (nI (I 12)), .int (nI (I 13)), .ref (b + 7), .ref (b + 8), .int (nI (I 16)), .int (nI (I 17)), .int (nI (I 18)), .int (nI (I 19))])) := hS.1
                  have b1 : w501 (b + 1) = some (.inl (cL, 1536, .inr (.inl (fun i => lN (mC X1 i))))) := hS.2.1
                  have b2 : w501 (b + 2) = some (.inl (cI, 24, .inl (S9))) := hS.2.2.1
                  refine lv_aload_n (pc := 237) hx hb dMo_power_237 rfl (lv_at hl 4 rfl) ?_
                  refine lv_iload_n (pc := 238) hx hb dMo_power_238 rfl (lv_at hl 5 rfl) ?_
                  have hiY : i = Y := by omega
                  rw [hiY, ← hpa] at hxx
                  rw [← hsr] at hsx
                  refine fw_cVR (pc := 239) (As := [.int (nI x9)]) (rest := []) ⟨hx, hb, hml, hown, hW⟩ (c_Mo_isGreat hS hXb (by omega)) (cwV 1 hW (kw_V lm_Mo_152 im_Mo_isGreat se_Mo_isGreat ini_Mo cd_Mo_isGreat) rfl rfl rfl (by decide +kernel) ⟨Nat.le_of_ble_eq_true rfl, Nat.le_of_ble_eq_true rfl⟩) hK hw b0 rfl rfl hl.1 rfl (Nat.le_of_ble_eq_true rfl) dMo_power_239 ⟨Nat.le_of_ble_eq_true rfl, Nat.le_of_ble_eq_true rfl⟩ (fun v hq => ?_)
                  have hxr : X1 x9 = Int.natAbs (a9 ^ Y) := hxx
                  rw [hxr] at hq
                  by_cases hg9 : Int.natAbs (a9 ^ Y) < 2 ^ 768
                  · subst hq
                    rw [if_pos hg9]
                    refine W.eq (g2 := F0 m 242 ls [.int (nI 0)]) rfl ?_
                    refine lv_if_eq (pc := 242) (tgt := 250) hx hb dMo_power_242 (by decide) (fun _ => ?_) (fun hc => absurd (show nI 0 = 0 by decide) hc)
                    refine lv_iconst (pc := 250) (v := (nI 0)) hx hb dMo_power_250 (by decide) ?_
                    have hsp : sPow a9 b9 = (0, (a9 ^ Y)) := hsp0.trans (if_pos hg9)
                    exact fw_iret (pc := 251) hx hb hr hlocks hw dMo_power_251 ⟨by rw [hsp], ⟨_, _, hS, hXb, fun _ => by rw [hsp]; exact ⟨hxr, hsx⟩, hfr⟩, hoF⟩
                  · subst hq
                    rw [if_neg hg9]
                    refine W.eq (g2 := F0 m 242 ls [.int (nI 1)]) rfl ?_
                    refine lv_if_eq (pc := 242) (tgt := 250) hx hb dMo_power_242 (by decide) (fun hc => absurd hc (show ¬ nI 1 = 0 by decide)) (fun _ => ?_)
                    refine lv_bipush (pc := 245) (v := (nI 6)) hx hb dMo_power_245 (by decide) ?_
                    refine lv_goto (pc := 247) (tgt := 251) hx hb dMo_power_247 (by decide) ?_
                    have hsp : (sPow a9 b9).1 = 6 := by rw [hsp0, sFit_1, if_neg hg9]
                    exact fw_iret (pc := 251) hx hb hr hlocks hw dMo_power_251 ⟨by rw [hsp], ⟨_, _, hS, hXb, fun h9 => absurd h9 (by rw [hsp]; decide), hfr⟩, hoF⟩
                | succ e0 ih =>
                  intro i hie hAi w1 H locs ls S1 X1 hw hl hS hXb hxx hxB hfr hoF
                  have b0 : w1 b = some (.inr (10, [.int (nI (I 0)), .ref (b + 1), .ref (b + 2), .int (nI (I 3)), .ref (b + 3), .ref (b + 4), .int (nI (I 6)), .int (nI (I 7)), .ref (b + 5), .ref (b + 6), .int (nI (I 10)), .int (nI (I 11)), .int (nI (I 12)), .int (nI (I 13)), .ref (b + 7), .ref (b + 8), .int (nI (I 16)), .int (nI (I 17)), .int (nI (I 18)), .int (nI (I 19))])) := hS.1
                  have b1 : w1 (b + 1) = some (.inl (cL, 1536, .inr (.inl (fun i => lN (mC X1 i))))) := hS.2.1
                  have b2 : w1 (b + 2) = some (.inl (cI, 24, .inl (S1))) := hS.2.2.1
                  refine lv_iload (pc := 192) hx hb dMo_power_192 (lv_at hl 0 rfl) ?_
                  refine lv_iload (pc := 194) hx hb dMo_power_194 (lv_at hl 1 rfl) ?_
                  refine lv_icmp_ge (pc := 196) (tgt := 229) hx hb dMo_power_196 (by decide) (fun hc => absurd hc (nI_ge (show i < Y by omega) (by omega))) (fun _ => ?_)
                  refine lv_aload_n (pc := 199) hx hb dMo_power_199 rfl (lv_at hl 4 rfl) ?_
                  refine lv_iload_n (pc := 200) hx hb dMo_power_200 rfl (lv_at hl 5 rfl) ?_
                  refine fw_cVR (pc := 201) (As := [.int (nI x9)]) (rest := []) ⟨hx, hb, hml, hown, hW⟩ (c_Mo_isGreat (p0 := x9) hS hXb (by omega)) (cwV 1 hW (kw_V lm_Mo_152 im_Mo_isGreat se_Mo_isGreat ini_Mo cd_Mo_isGreat) rfl rfl rfl (by decide +kernel) ⟨Nat.le_of_ble_eq_true rfl, Nat.le_of_ble_eq_true rfl⟩) hK hw b0 rfl rfl hl.1 rfl (Nat.le_of_ble_eq_true rfl) dMo_power_201 ⟨Nat.le_of_ble_eq_true rfl, Nat.le_of_ble_eq_true rfl⟩ (fun v hq => ?_)
                  rw [hxx] at hq
                  by_cases hg8 : A ^ i < 2 ^ 768
                  · subst hq
                    rw [if_pos hg8]
                    refine W.eq (g2 := F0 m 204 ls [.int (nI 0)]) rfl ?_
                    refine lv_if_ne (pc := 204) (tgt := 229) hx hb dMo_power_204 (by decide) (fun hc => absurd hc (fun h => h (by decide))) (fun _ => ?_)
                    refine lv_aload_n (pc := 207) hx hb dMo_power_207 rfl (lv_at hl 4 rfl) ?_
                    refine lv_iload_n (pc := 208) hx hb dMo_power_208 rfl (lv_at hl 5 rfl) ?_
                    refine lv_bipush (pc := 209) (v := (nI 19)) hx hb dMo_power_209 (by decide) ?_
                    refine lv_bipush (pc := 211) (v := (nI 21)) hx hb dMo_power_211 (by decide) ?_
                    refine fw_cV (pc := 213) (As := [.int (nI x9), .int (nI 19), .int (nI 21)]) (rest := []) ⟨hx, hb, hml, hown, hW⟩ (c_Mo_multiply (pa := x9) (pb := 19) (pt := 21) hS hXb (by omega) (by decide) (by decide) (by omega) (by decide) (by rw [hxx, ← q32]; exact hg8) (by rw [hxB, ← q32]; exact a97)) (cwV 3 hW (kw_V lm_Mo_155 im_Mo_multiply se_Mo_multiply ini_Mo cd_Mo_multiply) rfl rfl rfl (by decide +kernel) ⟨Nat.le_of_ble_eq_true rfl, Nat.le_of_ble_eq_true rfl⟩) hK hw b0 rfl rfl hl.1 rfl (Nat.le_of_ble_eq_true rfl) dMo_power_213 ⟨Nat.le_of_ble_eq_true rfl, Nat.le_of_ble_eq_true rfl⟩ (fun v w501 H locs hq hw => ?_)
                    obtain ⟨rfl, hS, hn9⟩ := hq
                    have hoF : ∀ q, q < b ∨ b + 9 ≤ q → w501 q = w q := fun q h9 => (hn9 q h9).trans (hoF q h9)
                    have hB9 : A ^ (i + 1) < nM ^ 64 := by rw [Nat.pow_succ]; exact Nat.lt_of_le_of_lt (Nat.mul_le_mul (Nat.le_sub_one_of_lt hg8) (Nat.le_sub_one_of_lt a97)) (by decide +kernel)
                    obtain ⟨X10, eX10⟩ : ∃ X_, X_ = va_up X1 (21) (X1 (x9) * X1 (19)) := ⟨_, rfl⟩
                    rw [← eX10] at hS
                    have hv9 : X1 (x9) * X1 (19) = A ^ (i + 1) := (by rw [hxx, hxB, Nat.pow_succ])
                    have hxx : X10 (x9) = A ^ i := by rw [eX10, up_o (by omega)]; exact hxx
                    have hxB : X10 (19) = A := by rw [eX10, up_o (by omega)]; exact hxB
                    have hxP : X10 (21) = A ^ (i + 1) := by rw [eX10]; exact up_s.trans hv9
                    have hXb : ∀ p, X10 p < nM ^ 64 := fun p => by (rw [eX10]; unfold va_up; split; (rw [hv9]; exact hB9); exact hXb p)
                    have hfr : ∀ p, p ≠ x9 → p < 18 ∨ 22 < p → X10 p = X p ∧ S1 p = S p := fun p h1 h2 => by rw [eX10, up_o (by omega)]; exact hfr p h1 h2
                    obtain ⟨S11, eS11⟩ : ∃ S_, S_ = va_up S1 (21) (nI 0) := ⟨_, rfl⟩
                    rw [← eS11] at hS
                    have hv9 : (nI 0 : Int32) = nI 0 := rfl
                    have hsP : S11 (21) = nI 0 := by rw [eS11]; exact up_s.trans hv9
                    have hfr : ∀ p, p ≠ x9 → p < 18 ∨ 22 < p → X10 p = X p ∧ S11 p = S p := fun p h1 h2 => by rw [eS11, up_o (by omega)]; exact hfr p h1 h2
                    have b0 : w501 b = some (.inr (10, [.int (nI (I 0)), .ref (b + 1), .ref (b + 2), .int (nI (I 3)), .ref (b + 3), .ref (b + 4), .int (nI (I 6)), .int (nI (I 7)), .ref (b + 5), .ref (b + 6), .int (nI (I 10)), .int (nI (I 11)), .int (nI (I 12)), .int (nI (I 13)), .ref (b + 7), .ref (b + 8), .int (nI (I 16)), .int (nI (I 17)), .int (nI (I 18)), .int (nI (I 19))])) := hS.1
                    have b1 : w501 (b + 1) = some (.inl (cL, 1536, .inr (.inl (fun i => lN (mC X10 i))))) := hS.2.1
                    have b2 : w501 (b + 2) = some (.inl (cI, 24, .inl (S11))) := hS.2.2.1
                    refine W.eq (g2 := F0 m 216 ls []) rfl ?_
                    refine lv_aload_n (pc := 216) hx hb dMo_power_216 rfl (lv_at hl 4 rfl) ?_
                    refine lv_bipush (pc := 217) (v := (nI 21)) hx hb dMo_power_217 (by decide) ?_
                    refine lv_iload_n (pc := 219) hx hb dMo_power_219 rfl (lv_at hl 5 rfl) ?_
                    refine fw_cV (pc := 220) (As := [.int (nI 21), .int (nI x9)]) (rest := []) ⟨hx, hb, hml, hown, hW⟩ (c_Mo_copy (pa := 21) (pc9 := x9) hS hXb (by omega) (by omega) (by omega)) (cwV 2 hW (kw_V lm_Mo_143 im_Mo_copy se_Mo_copy ini_Mo cd_Mo_copy) rfl rfl rfl (by decide +kernel) ⟨Nat.le_of_ble_eq_true rfl, Nat.le_of_ble_eq_true rfl⟩) hK hw b0 rfl rfl hl.1 rfl (Nat.le_of_ble_eq_true rfl) dMo_power_220 ⟨Nat.le_of_ble_eq_true rfl, Nat.le_of_ble_eq_true rfl⟩ (fun v w502 H locs hq hw => ?_)
                    obtain ⟨rfl, hS, hn9⟩ := hq
                    have hoF : ∀ q, q < b ∨ b + 9 ≤ q → w502 q = w q := fun q h9 => (hn9 q h9).trans (hoF q h9)
                    have hB9 : A ^ (i + 1) < nM ^ 64 := by rw [← hxP]; exact hXb _
                    obtain ⟨X12, eX12⟩ : ∃ X_, X_ = va_up X10 (x9) (X10 (21)) := ⟨_, rfl⟩
                    rw [← eX12] at hS
                    have hv9 : X10 (21) = A ^ (i + 1) := hxP
                    have hxB : X12 (19) = A := by rw [eX12, up_o (by omega)]; exact hxB
                    have hxP : X12 (21) = A ^ (i + 1) := by rw [eX12, up_o (by omega)]; exact hxP
                    have hxx : X12 (x9) = A ^ (i + 1) := by rw [eX12]; exact up_s.trans hv9
                    have hXb : ∀ p, X12 p < nM ^ 64 := fun p => by (rw [eX12]; unfold va_up; split; (rw [hv9]; exact hB9); exact hXb p)
                    have hfr : ∀ p, p ≠ x9 → p < 18 ∨ 22 < p → X12 p = X p ∧ S11 p = S p := fun p h1 h2 => by rw [eX12, up_o (by omega)]; exact hfr p h1 h2
                    obtain ⟨S13, eS13⟩ : ∃ S_, S_ = va_up S11 (x9) (S11 (21)) := ⟨_, rfl⟩
                    rw [← eS13] at hS
                    have hv9 : (S11 (21) : Int32) = nI 0 := hsP
                    have hsP : S13 (21) = nI 0 := by rw [eS13, up_o (by omega)]; exact hsP
                    have hsx : S13 (x9) = nI 0 := by rw [eS13]; exact up_s.trans hv9
                    have hfr : ∀ p, p ≠ x9 → p < 18 ∨ 22 < p → X12 p = X p ∧ S13 p = S p := fun p h1 h2 => by rw [eS13, up_o (by omega)]; exact hfr p h1 h2
                    have b0 : w502 b = some (.inr (10, [.int (nI (I 0)), .ref (b + 1), .ref (b + 2), .int (nI (I 3)), .ref (b + 3), .ref (b + 4), .int (nI (I 6)), .int (nI (I 7)), .ref (b + 5), .ref (b + 6), .int (nI (I 10)), .int (nI (I 11)), .int (nI (I 12)), .int (nI (I 13)), .ref (b + 7), .ref (b + 8), .int (nI (I 16)), .int (nI (I 17)), .int (nI (I 18)), .int (nI (I 19))])) := hS.1
                    have b1 : w502 (b + 1) = some (.inl (cL, 1536, .inr (.inl (fun i => lN (mC X12 i))))) := hS.2.1
                    have b2 : w502 (b + 2) = some (.inl (cI, 24, .inl (S13))) := hS.2.2.1
                    refine W.eq (g2 := F0 m 223 ls []) rfl ?_
                    refine lv_iinc (pc := 223) (lv' := [(6, .int (nI (i + 1))), (5, .int (nI Y)), (4, .int (nI 1)), (3, .int (nI 0)), (0, .ref b), (1, .int (nI x9)), (2, .int (nI (x9 + 1)))]) hx hb dMo_power_223 hl (k := 0) rfl ((nI_add i 1)) (by decide) rfl (fun ls hl => ?_)
                    refine lv_goto (pc := 226) (tgt := 192) hx hb dMo_power_226 (by decide) ?_
                    exact ih (i + 1) (by omega) hB9 _ H locs ls _ _ hw (lv_sub hl [0, 1, 2, 3, 4, 5, 6] rfl) hS hXb hxx hxB hfr hoF
                  · subst hq
                    rw [if_neg hg8]
                    refine W.eq (g2 := F0 m 204 ls [.int (nI 1)]) rfl ?_
                    refine lv_if_ne (pc := 204) (tgt := 229) hx hb dMo_power_204 (by decide) (fun _ => ?_) (fun hc => absurd hc (by decide))
                    refine lv_aload_n (pc := 229) hx hb dMo_power_229 rfl (lv_at hl 4 rfl) ?_
                    refine fw_get (pc := 230) (ci := 10) (v := .ref (b + 2)) (C := RMo) (T := TMo) (N := 20) hx hb hW in_Mo hown hK.1 hw b0 rfl 2 (by decide) (hW _ lf_Mo_13) (fun _ h => h) rfl dMo_power_230 ?_
                    refine lv_iload_n (pc := 233) hx hb dMo_power_233 rfl (lv_at hl 5 rfl) ?_
                    refine lv_iload (pc := 234) hx hb dMo_power_234 (lv_at hl 2 rfl) ?_
                    refine fw_iastN (pc := 236) (f2 := va_up S1 (x9) (nI 1)) hx hb hK.1 hw 0 b2 rfl (x9) (by omega) (by decide) (rfl) dMo_power_236 (fun H locs hw => ?_)
                    obtain ⟨w501, e501⟩ : ∃ w_, w_ = fw_up w1 (b + 2) (.inl (cI, 24, .inl (va_up S1 (x9) (nI 1)))) := ⟨_, rfl⟩
                    have hw : fw_H D kCl (fw_A w (sz)) s.heap w501 (sz) H locs := by rw [e501]; exact hw
                    have b0_ : w501 (b) = some (.inr (10, [.int (nI (I 0)), .ref (b + 1), .ref (b + 2), .int (nI (I 3)), .ref (b + 3), .ref (b + 4), .int (nI (I 6)), .int (nI (I 7)), .ref (b + 5), .ref (b + 6), .int (nI (I 10)), .int (nI (I 11)), .int (nI (I 12)), .int (nI (I 13)), .ref (b + 7), .ref (b + 8), .int (nI (I 16)), .int (nI (I 17)), .int (nI (I 18)), .int (nI (I 19))])) := by rw [e501, fw_un (by omega)]; exact b0
                    have b1_ : w501 (b + 1) = some (.inl (cL, 1536, .inr (.inl (fun i => lN (mC X1 i))))) := by rw [e501, fw_un (by omega)]; exact b1
                    have b2_ : w501 (b + 2) = some (.inl (cI, 24, .inl (va_up S1 (x9) (nI 1)))) := by rw [e501]; exact fw_us _ _ _
                    have b0 := b0_
                    have b1 := b1_
                    have b2 := b2_
                    have hS : moS cI cL w501 b I K (va_up S1 (x9) (nI 1)) (mC X1) := moS.cs hS b1 b2 (fun q h1 h2 => by rw [e501, fw_un h2])
                    have hoF : ∀ q, q < b ∨ b + 9 ≤ q → w501 q = w q := fun q h9 => by rw [e501, fw_un (by omega)]; exact hoF q h9
                    obtain ⟨S14, eS14⟩ : ∃ S_, S_ = va_up S1 (x9) (nI 1) := ⟨_, rfl⟩
                    rw [← eS14] at hS
                    have hv9 : (nI 1 : Int32) = nI 1 := rfl
                    have hsx : S14 (x9) = nI 1 := by rw [eS14]; exact up_s.trans hv9
                    have hfr : ∀ p, p ≠ x9 → p < 18 ∨ 22 < p → X1 p = X p ∧ S14 p = S p := fun p h1 h2 => by rw [eS14, up_o (by omega)]; exact hfr p h1 h2
                    have b0 : w501 b = some (.inr (10, [.int (nI (I 0)), .ref (b + 1), .ref (b + 2), .int (nI (I 3)), .ref (b + 3), .ref (b + 4), .int (nI (I 6)), .int (nI (I 7)), .ref (b + 5), .ref (b + 6), .int (nI (I 10)), .int (nI (I 11)), .int (nI (I 12)), .int (nI (I 13)), .ref (b + 7), .ref (b + 8), .int (nI (I 16)), .int (nI (I 17)), .int (nI (I 18)), .int (nI (I 19))])) := hS.1
                    have b1 : w501 (b + 1) = some (.inl (cL, 1536, .inr (.inl (fun i => lN (mC X1 i))))) := hS.2.1
                    have b2 : w501 (b + 2) = some (.inl (cI, 24, .inl (S14))) := hS.2.2.1
                    refine lv_aload_n (pc := 237) hx hb dMo_power_237 rfl (lv_at hl 4 rfl) ?_
                    refine lv_iload_n (pc := 238) hx hb dMo_power_238 rfl (lv_at hl 5 rfl) ?_
                    refine fw_cVR (pc := 239) (As := [.int (nI x9)]) (rest := []) ⟨hx, hb, hml, hown, hW⟩ (c_Mo_isGreat (p0 := x9) hS hXb (by omega)) (cwV 1 hW (kw_V lm_Mo_152 im_Mo_isGreat se_Mo_isGreat ini_Mo cd_Mo_isGreat) rfl rfl rfl (by decide +kernel) ⟨Nat.le_of_ble_eq_true rfl, Nat.le_of_ble_eq_true rfl⟩) hK hw b0 rfl rfl hl.1 rfl (Nat.le_of_ble_eq_true rfl) dMo_power_239 ⟨Nat.le_of_ble_eq_true rfl, Nat.le_of_ble_eq_true rfl⟩ (fun v hq => ?_)
                    rw [hxx, if_neg hg8] at hq
                    subst hq
                    refine W.eq (g2 := F0 m 242 ls [.int (nI 1)]) rfl ?_
                    refine lv_if_eq (pc := 242) (tgt := 250) hx hb dMo_power_242 (by decide) (fun hc => absurd hc (show ¬ nI 1 = 0 by decide)) (fun _ => ?_)
                    refine lv_bipush (pc := 245) (v := (nI 6)) hx hb dMo_power_245 (by decide) ?_
                    refine lv_goto (pc := 247) (tgt := 251) hx hb dMo_power_247 (by decide) ?_
                    have hsp : sPow a9 b9 = (6, a9) := hsix (pw_big (by decide +kernel) (Nat.le_of_not_lt hg8) (show i ≤ Y by omega))
                    exact fw_iret (pc := 251) hx hb hr hlocks hw dMo_power_251 ⟨by rw [hsp], ⟨_, _, hS, hXb, fun h9 => absurd h9 (by rw [hsp]; show ¬ (6 : Nat) = 0; decide), hfr⟩, hoF⟩
              refine fw_cV (pc := 179) (As := [.int (nI x9), .int (nI 19)]) (rest := []) ⟨hx, hb, hml, hown, hW⟩ (c_Mo_copy (pa := x9) (pc9 := 19) hS hXb (by omega) (by omega) (by omega)) (cwV 2 hW (kw_V lm_Mo_143 im_Mo_copy se_Mo_copy ini_Mo cd_Mo_copy) rfl rfl rfl (by decide +kernel) ⟨Nat.le_of_ble_eq_true rfl, Nat.le_of_ble_eq_true rfl⟩) hK hw b0 rfl rfl hl.1 rfl (Nat.le_of_ble_eq_true rfl) dMo_power_179 ⟨Nat.le_of_ble_eq_true rfl, Nat.le_of_ble_eq_true rfl⟩ (fun v w601 H locs hq hw => ?_)
              obtain ⟨rfl, hS, hn9⟩ := hq
              have hoF : ∀ q, q < b ∨ b + 9 ≤ q → w601 q = w q := fun q h9 => (hn9 q h9).trans (hoF q h9)
              have hB9 : A < nM ^ 64 := by rw [← hxx]; exact hXb _
              obtain ⟨X15, eX15⟩ : ∃ X_, X_ = va_up X (19) (X (x9)) := ⟨_, rfl⟩
              rw [← eX15] at hS
              have hv9 : X (x9) = A := hxx
              have hxx : X15 (x9) = A := by rw [eX15, up_o (by omega)]; exact hxx
              have hxy : X15 (x9 + 1) = Y := by rw [eX15, up_o (by omega)]; exact hxy
              have hxO : X15 (23) = 1 := by rw [eX15, up_o (by omega)]; exact hxO
              have hxB : X15 (19) = A := by rw [eX15]; exact up_s.trans hv9
              have hXb : ∀ p, X15 p < nM ^ 64 := fun p => by (rw [eX15]; unfold va_up; split; (rw [hv9]; exact hB9); exact hXb p)
              have hfr : ∀ p, p ≠ x9 → p < 18 ∨ 22 < p → X15 p = X p ∧ S p = S p := fun p h1 h2 => by rw [eX15, up_o (by omega)]; exact hfr p h1 h2
              obtain ⟨S16, eS16⟩ : ∃ S_, S_ = va_up S (19) (S (x9)) := ⟨_, rfl⟩
              rw [← eS16] at hS
              have hv9 : (S (x9) : Int32) = sg32 a9 := hsx
              have hsx : S16 (x9) = sg32 a9 := by rw [eS16, up_o (by omega)]; exact hsx
              have hsy : S16 (x9 + 1) = sg32 b9 := by rw [eS16, up_o (by omega)]; exact hsy
              have hsO : S16 (23) = nI 1 := by rw [eS16, up_o (by omega)]; exact hsO
              have hsB : S16 (19) = sg32 a9 := by rw [eS16]; exact up_s.trans hv9
              have hfr : ∀ p, p ≠ x9 → p < 18 ∨ 22 < p → X15 p = X p ∧ S16 p = S p := fun p h1 h2 => by rw [eS16, up_o (by omega)]; exact hfr p h1 h2
              have b0 : w601 b = some (.inr (10, [.int (nI (I 0)), .ref (b + 1), .ref (b + 2), .int (nI (I 3)), .ref (b + 3), .ref (b + 4), .int (nI (I 6)), .int (nI (I 7)), .ref (b + 5), .ref (b + 6), .int (nI (I 10)), .int (nI (I 11)), .int (nI (I 12)), .int (nI (I 13)), .ref (b + 7), .ref (b + 8), .int (nI (I 16)), .int (nI (I 17)), .int (nI (I 18)), .int (nI (I 19))])) := hS.1
              have b1 : w601 (b + 1) = some (.inl (cL, 1536, .inr (.inl (fun i => lN (mC X15 i))))) := hS.2.1
              have b2 : w601 (b + 2) = some (.inl (cI, 24, .inl (S16))) := hS.2.2.1
              refine W.eq (g2 := F0 m 182 ls []) rfl ?_
              refine lv_aload_n (pc := 182) hx hb dMo_power_182 rfl (lv_at hl 3 rfl) ?_
              refine lv_bipush (pc := 183) (v := (nI 23)) hx hb dMo_power_183 (by decide) ?_
              refine lv_iload_n (pc := 185) hx hb dMo_power_185 rfl (lv_at hl 4 rfl) ?_
              refine fw_cV (pc := 186) (As := [.int (nI 23), .int (nI x9)]) (rest := []) ⟨hx, hb, hml, hown, hW⟩ (c_Mo_copy (pa := 23) (pc9 := x9) hS hXb (by omega) (by omega) (by omega)) (cwV 2 hW (kw_V lm_Mo_143 im_Mo_copy se_Mo_copy ini_Mo cd_Mo_copy) rfl rfl rfl (by decide +kernel) ⟨Nat.le_of_ble_eq_true rfl, Nat.le_of_ble_eq_true rfl⟩) hK hw b0 rfl rfl hl.1 rfl (Nat.le_of_ble_eq_true rfl) dMo_power_186 ⟨Nat.le_of_ble_eq_true rfl, Nat.le_of_ble_eq_true rfl⟩ (fun v w602 H locs hq hw => ?_)
              obtain ⟨rfl, hS, hn9⟩ := hq
              have hoF : ∀ q, q < b ∨ b + 9 ≤ q → w602 q = w q := fun q h9 => (hn9 q h9).trans (hoF q h9)
              have hB9 : 1 < nM ^ 64 := by rw [← hxO]; exact hXb _
              obtain ⟨X17, eX17⟩ : ∃ X_, X_ = va_up X15 (x9) (X15 (23)) := ⟨_, rfl⟩
              rw [← eX17] at hS
              have hv9 : X15 (23) = 1 := hxO
              have hxy : X17 (x9 + 1) = Y := by rw [eX17, up_o (by omega)]; exact hxy
              have hxO : X17 (23) = 1 := by rw [eX17, up_o (by omega)]; exact hxO
              have hxB : X17 (19) = A := by rw [eX17, up_o (by omega)]; exact hxB
              have hxx : X17 (x9) = 1 := by rw [eX17]; exact up_s.trans hv9
              have hXb : ∀ p, X17 p < nM ^ 64 := fun p => by (rw [eX17]; unfold va_up; split; (rw [hv9]; exact hB9); exact hXb p)
              have hfr : ∀ p, p ≠ x9 → p < 18 ∨ 22 < p → X17 p = X p ∧ S16 p = S p := fun p h1 h2 => by rw [eX17, up_o (by omega)]; exact hfr p h1 h2
              obtain ⟨S18, eS18⟩ : ∃ S_, S_ = va_up S16 (x9) (S16 (23)) := ⟨_, rfl⟩
              rw [← eS18] at hS
              have hv9 : (S16 (23) : Int32) = nI 1 := hsO
              have hsy : S18 (x9 + 1) = sg32 b9 := by rw [eS18, up_o (by omega)]; exact hsy
              have hsO : S18 (23) = nI 1 := by rw [eS18, up_o (by omega)]; exact hsO
              have hsB : S18 (19) = sg32 a9 := by rw [eS18, up_o (by omega)]; exact hsB
              have hsx : S18 (x9) = nI 1 := by rw [eS18]; exact up_s.trans hv9
              have hfr : ∀ p, p ≠ x9 → p < 18 ∨ 22 < p → X17 p = X p ∧ S18 p = S p := fun p h1 h2 => by rw [eS18, up_o (by omega)]; exact hfr p h1 h2
              have b0 : w602 b = some (.inr (10, [.int (nI (I 0)), .ref (b + 1), .ref (b + 2), .int (nI (I 3)), .ref (b + 3), .ref (b + 4), .int (nI (I 6)), .int (nI (I 7)), .ref (b + 5), .ref (b + 6), .int (nI (I 10)), .int (nI (I 11)), .int (nI (I 12)), .int (nI (I 13)), .ref (b + 7), .ref (b + 8), .int (nI (I 16)), .int (nI (I 17)), .int (nI (I 18)), .int (nI (I 19))])) := hS.1
              have b1 : w602 (b + 1) = some (.inl (cL, 1536, .inr (.inl (fun i => lN (mC X17 i))))) := hS.2.1
              have b2 : w602 (b + 2) = some (.inl (cI, 24, .inl (S18))) := hS.2.2.1
              refine W.eq (g2 := F0 m 189 ls []) rfl ?_
              refine lv_iconst (pc := 189) (v := (nI 0)) hx hb dMo_power_189 (by decide) ?_
              refine lv_istore (pc := 190) (lv' := [(6, .int (nI 0)), (5, .int (nI Y)), (4, .int (nI 1)), (3, .int (nI 0)), (0, .ref b), (1, .int (nI x9)), (2, .int (nI (x9 + 1)))]) hx hb dMo_power_190 hl (by decide) rfl (fun ls hl => ?_)
              exact loop Y 0 (by omega) (by rw [Nat.pow_zero]; exact Nat.lt_trans (by decide +kernel) p64) _ H locs ls _ _ hw (lv_sub hl [0, 1, 2, 3, 4, 5, 6] rfl) hS hXb (by rw [hxx, Nat.pow_zero]) hxB hfr hoF
            · refine lv_if_le (pc := 141) (tgt := 147) hx hb dMo_power_141 (by decide) (fun hc => absurd hc (fun h9 => absurd ((pk_lLE (by omega) (by decide)).mp ((lg_cmp_le _ _).mp h9)) (by omega))) (fun _ => ?_)
              refine lv_bipush (pc := 144) (v := (nI 6)) hx hb dMo_power_144 (by decide) ?_
              have hsp : sPow a9 b9 = (6, a9) := hsix (hbig (by omega))
              exact fw_iret (pc := 146) hx hb hr hlocks hw dMo_power_146 ⟨by rw [hsp], ⟨_, _, hS, hXb, fun h9 => absurd h9 (by rw [hsp]; show ¬ (6 : Nat) = 0; decide), hfr⟩, hoF⟩
      · rw [show (sg32 a9 : Int32) = nI 0 from (sg32_z ha90)]
        refine lv_if_eq (pc := 33) (tgt := 46) hx hb dMo_power_33 (by decide) (fun _ => ?_) (fun hc => absurd (show nI 0 = 0 by decide) hc)
        refine lv_aload_n (pc := 46) hx hb dMo_power_46 rfl (lv_at hl 1 rfl) ?_
        refine fw_get (pc := 47) (ci := 10) (v := .ref (b + 2)) (C := RMo) (T := TMo) (N := 20) hx hb hW in_Mo hown hK.1 hw b0 rfl 2 (by decide) (hW _ lf_Mo_13) (fun _ h => h) rfl dMo_power_47 ?_
        refine lv_iload_n (pc := 50) hx hb dMo_power_50 rfl (lv_at hl 3 rfl) ?_
        refine fw_ialdN (pc := 51) (x := S (x9 + 1)) hx hb hK.1 hw 0 b2 rfl (x9 + 1) (by omega) (by decide) rfl dMo_power_51 ?_
        rw [show (S (x9 + 1) : Int32) = sg32 b9 from hsy]
        rcases (show b9 = 0 ∨ 0 < b9 by omega) with hb0 | hb0
        · rw [show (sg32 b9 : Int32) = nI 0 from (sg32_z hb0)]
          refine lv_if_ne (pc := 52) (tgt := 59) hx hb dMo_power_52 (by decide) (fun hc => absurd hc (fun h => h (by decide))) (fun _ => ?_)
          have hY0 : Y = 0 := by omega
          refine lv_iconst (pc := 55) (v := (nI 1)) hx hb dMo_power_55 (by decide) ?_
          refine lv_goto (pc := 56) (tgt := 82) hx hb dMo_power_56 (by decide) ?_
          refine lv_istore (pc := 82) (lv' := [(4, .int (nI 1)), (3, .int (nI 0)), (0, .ref b), (1, .int (nI x9)), (2, .int (nI (x9 + 1)))]) hx hb dMo_power_82 hl (by decide) rfl (fun ls hl => ?_)
          refine lv_aload_n (pc := 84) hx hb dMo_power_84 rfl (lv_at hl 2 rfl) ?_
          refine lv_iload_n (pc := 85) hx hb dMo_power_85 rfl (lv_at hl 3 rfl) ?_
          refine fw_cV (pc := 86) (As := [.int (nI x9)]) (rest := []) ⟨hx, hb, hml, hown, hW⟩ (c_Mo_clear (p0 := x9) hS (by omega)) (cwV 1 hW (kw_V lm_Mo_125 im_Mo_clear se_Mo_clear ini_Mo cd_Mo_clear) rfl rfl rfl (by decide +kernel) ⟨Nat.le_of_ble_eq_true rfl, Nat.le_of_ble_eq_true rfl⟩) hK hw b0 rfl rfl hl.1 rfl (Nat.le_of_ble_eq_true rfl) dMo_power_86 ⟨Nat.le_of_ble_eq_true rfl, Nat.le_of_ble_eq_true rfl⟩ (fun v w603 H locs hq hw => ?_)
          obtain ⟨rfl, hS, hn9⟩ := hq
          rw [clr_all] at hS
          have hoF : ∀ q, q < b ∨ b + 9 ≤ q → w603 q = w q := fun q h9 => (hn9 q (by omega) (by omega)).trans (hoF q h9)
          obtain ⟨X19, eX19⟩ : ∃ X_, X_ = va_up X (x9) (0) := ⟨_, rfl⟩
          rw [← eX19] at hS
          have hv9 : 0 = 0 := rfl
          have hxy : X19 (x9 + 1) = Y := by rw [eX19, up_o (by omega)]; exact hxy
          have hxO : X19 (23) = 1 := by rw [eX19, up_o (by omega)]; exact hxO
          have hxx : X19 (x9) = 0 := by rw [eX19]; exact up_s.trans hv9
          have hXb : ∀ p, X19 p < nM ^ 64 := fun p => by (rw [eX19]; unfold va_up; split; (rw [hv9]; exact Nat.pow_pos (by decide)); exact hXb p)
          have hfr : ∀ p, p ≠ x9 → p < 18 ∨ 22 < p → X19 p = X p ∧ S p = S p := fun p h1 h2 => by rw [eX19, up_o (by omega)]; exact hfr p h1 h2
          obtain ⟨S20, eS20⟩ : ∃ S_, S_ = va_up S (x9) (nI 0) := ⟨_, rfl⟩
          rw [← eS20] at hS
          have hv9 : (nI 0 : Int32) = nI 0 := rfl
          have hsy : S20 (x9 + 1) = sg32 b9 := by rw [eS20, up_o (by omega)]; exact hsy
          have hsO : S20 (23) = nI 1 := by rw [eS20, up_o (by omega)]; exact hsO
          have hsx : S20 (x9) = nI 0 := by rw [eS20]; exact up_s.trans hv9
          have hfr : ∀ p, p ≠ x9 → p < 18 ∨ 22 < p → X19 p = X p ∧ S20 p = S p := fun p h1 h2 => by rw [eS20, up_o (by omega)]; exact hfr p h1 h2
          have b0 : w603 b = some (.inr (10, [.int (nI (I 0)), .ref (b + 1), .ref (b + 2), .int (nI (I 3)), .ref (b + 3), .ref (b + 4), .int (nI (I 6)), .int (nI (I 7)), .ref (b + 5), .ref (b + 6), .int (nI (I 10)), .int (nI (I 11)), .int (nI (I 12)), .int (nI (I 13)), .ref (b + 7), .ref (b + 8), .int (nI (I 16)), .int (nI (I 17)), .int (nI (I 18)), .int (nI (I 19))])) := hS.1
          have b1 : w603 (b + 1) = some (.inl (cL, 1536, .inr (.inl (fun i => lN (mC X19 i))))) := hS.2.1
          have b2 : w603 (b + 2) = some (.inl (cI, 24, .inl (S20))) := hS.2.2.1
          refine W.eq (g2 := F0 m 89 ls []) rfl ?_
          refine lv_aload_n (pc := 89) hx hb dMo_power_89 rfl (lv_at hl 2 rfl) ?_
          refine fw_get (pc := 90) (ci := 10) (v := .ref (b + 1)) (C := RMo) (T := TMo) (N := 20) hx hb hW in_Mo hown hK.1 hw b0 rfl 1 (by decide) (hW _ lf_Mo_7) (fun _ h => h) rfl dMo_power_90 ?_
          refine lv_bipush (pc := 93) (v := (nI 64)) hx hb dMo_power_93 (by decide) ?_
          refine lv_iload_n (pc := 95) hx hb dMo_power_95 rfl (lv_at hl 3 rfl) ?_
          refine lv_imul (pc := 96) hx hb dMo_power_96 ?_
          rw [show (((nI 64) * nI x9) : Int32) = nI (64 * x9) from (nI_mul 64 x9)]
          refine lv_iload (pc := 97) hx hb dMo_power_97 (lv_at hl 0 rfl) ?_
          refine lv_if_ne (pc := 99) (tgt := 106) hx hb dMo_power_99 (by decide) (fun _ => ?_) (fun hc => absurd hc (by decide))
          refine lv_lconst (pc := 106) (v := lN 1) hx hb dMo_power_106 (by decide) ?_
          refine fw_lastN (pc := 107) (f2 := fun i => lN (mC (va_up X19 (x9) (1)) i)) hx hb hK.1 hw 1 b1 rfl (64 * x9) (by omega) (by decide) (by rw [lN_up, mC_one hxx (by decide)]) dMo_power_107 (fun H locs hw => ?_)
          obtain ⟨w604, e604⟩ : ∃ w_, w_ = fw_up w603 (b + 1) (.inl (cL, 1536, .inr (.inl (fun i => lN (mC (va_up X19 (x9) (1)) i))))) := ⟨_, rfl⟩
          have hw : fw_H D kCl (fw_A w (sz)) s.heap w604 (sz) H locs := by rw [e604]; exact hw
          have b0_ : w604 (b) = some (.inr (10, [.int (nI (I 0)), .ref (b + 1), .ref (b + 2), .int (nI (I 3)), .ref (b + 3), .ref (b + 4), .int (nI (I 6)), .int (nI (I 7)), .ref (b + 5), .ref (b + 6), .int (nI (I 10)), .int (nI (I 11)), .int (nI (I 12)), .int (nI (I 13)), .ref (b + 7), .ref (b + 8), .int (nI (I 16)), .int (nI (I 17)), .int (nI (I 18)), .int (nI (I 19))])) := by rw [e604, fw_un (by omega)]; exact b0
          have b2_ : w604 (b + 2) = some (.inl (cI, 24, .inl (S20))) := by rw [e604, fw_un (by omega)]; exact b2
          have b1_ : w604 (b + 1) = some (.inl (cL, 1536, .inr (.inl (fun i => lN (mC (va_up X19 (x9) (1)) i))))) := by rw [e604]; exact fw_us _ _ _
          have b0 := b0_
          have b1 := b1_
          have b2 := b2_
          have hS : moS cI cL w604 b I K S20 (mC (va_up X19 (x9) (1))) := moS.cs hS b1 b2 (fun q h1 h2 => by rw [e604, fw_un h1])
          have hoF : ∀ q, q < b ∨ b + 9 ≤ q → w604 q = w q := fun q h9 => by rw [e604, fw_un (by omega)]; exact hoF q h9
          obtain ⟨X21, eX21⟩ : ∃ X_, X_ = va_up X19 (x9) (1) := ⟨_, rfl⟩
          rw [← eX21] at hS
          have hv9 : 1 = 1 := rfl
          have hxy : X21 (x9 + 1) = Y := by rw [eX21, up_o (by omega)]; exact hxy
          have hxO : X21 (23) = 1 := by rw [eX21, up_o (by omega)]; exact hxO
          have hxx : X21 (x9) = 1 := by rw [eX21]; exact up_s.trans hv9
          have hXb : ∀ p, X21 p < nM ^ 64 := fun p => by (rw [eX21]; unfold va_up; split; (rw [hv9]; exact Nat.lt_trans (by decide +kernel) p64); exact hXb p)
          have hfr : ∀ p, p ≠ x9 → p < 18 ∨ 22 < p → X21 p = X p ∧ S20 p = S p := fun p h1 h2 => by rw [eX21, up_o (by omega)]; exact hfr p h1 h2
          have b0 : w604 b = some (.inr (10, [.int (nI (I 0)), .ref (b + 1), .ref (b + 2), .int (nI (I 3)), .ref (b + 3), .ref (b + 4), .int (nI (I 6)), .int (nI (I 7)), .ref (b + 5), .ref (b + 6), .int (nI (I 10)), .int (nI (I 11)), .int (nI (I 12)), .int (nI (I 13)), .ref (b + 7), .ref (b + 8), .int (nI (I 16)), .int (nI (I 17)), .int (nI (I 18)), .int (nI (I 19))])) := hS.1
          have b1 : w604 (b + 1) = some (.inl (cL, 1536, .inr (.inl (fun i => lN (mC X21 i))))) := hS.2.1
          have b2 : w604 (b + 2) = some (.inl (cI, 24, .inl (S20))) := hS.2.2.1
          refine lv_aload_n (pc := 108) hx hb dMo_power_108 rfl (lv_at hl 2 rfl) ?_
          refine fw_get (pc := 109) (ci := 10) (v := .ref (b + 2)) (C := RMo) (T := TMo) (N := 20) hx hb hW in_Mo hown hK.1 hw b0 rfl 2 (by decide) (hW _ lf_Mo_13) (fun _ h => h) rfl dMo_power_109 ?_
          refine lv_iload_n (pc := 112) hx hb dMo_power_112 rfl (lv_at hl 3 rfl) ?_
          refine lv_iload (pc := 113) hx hb dMo_power_113 (lv_at hl 0 rfl) ?_
          refine fw_iastN (pc := 115) (f2 := va_up S20 (x9) (nI 1)) hx hb hK.1 hw 0 b2 rfl (x9) (by omega) (by decide) (rfl) dMo_power_115 (fun H locs hw => ?_)
          obtain ⟨w605, e605⟩ : ∃ w_, w_ = fw_up w604 (b + 2) (.inl (cI, 24, .inl (va_up S20 (x9) (nI 1)))) := ⟨_, rfl⟩
          have hw : fw_H D kCl (fw_A w (sz)) s.heap w605 (sz) H locs := by rw [e605]; exact hw
          have b0_ : w605 (b) = some (.inr (10, [.int (nI (I 0)), .ref (b + 1), .ref (b + 2), .int (nI (I 3)), .ref (b + 3), .ref (b + 4), .int (nI (I 6)), .int (nI (I 7)), .ref (b + 5), .ref (b + 6), .int (nI (I 10)), .int (nI (I 11)), .int (nI (I 12)), .int (nI (I 13)), .ref (b + 7), .ref (b + 8), .int (nI (I 16)), .int (nI (I 17)), .int (nI (I 18)), .int (nI (I 19))])) := by rw [e605, fw_un (by omega)]; exact b0
          have b1_ : w605 (b + 1) = some (.inl (cL, 1536, .inr (.inl (fun i => lN (mC X21 i))))) := by rw [e605, fw_un (by omega)]; exact b1
          have b2_ : w605 (b + 2) = some (.inl (cI, 24, .inl (va_up S20 (x9) (nI 1)))) := by rw [e605]; exact fw_us _ _ _
          have b0 := b0_
          have b1 := b1_
          have b2 := b2_
          have hS : moS cI cL w605 b I K (va_up S20 (x9) (nI 1)) (mC X21) := moS.cs hS b1 b2 (fun q h1 h2 => by rw [e605, fw_un h2])
          have hoF : ∀ q, q < b ∨ b + 9 ≤ q → w605 q = w q := fun q h9 => by rw [e605, fw_un (by omega)]; exact hoF q h9
          obtain ⟨S22, eS22⟩ : ∃ S_, S_ = va_up S20 (x9) (nI 1) := ⟨_, rfl⟩
          rw [← eS22] at hS
          have hv9 : (nI 1 : Int32) = nI 1 := rfl
          have hsy : S22 (x9 + 1) = sg32 b9 := by rw [eS22, up_o (by omega)]; exact hsy
          have hsO : S22 (23) = nI 1 := by rw [eS22, up_o (by omega)]; exact hsO
          have hsx : S22 (x9) = nI 1 := by rw [eS22]; exact up_s.trans hv9
          have hfr : ∀ p, p ≠ x9 → p < 18 ∨ 22 < p → X21 p = X p ∧ S22 p = S p := fun p h1 h2 => by rw [eS22, up_o (by omega)]; exact hfr p h1 h2
          have b0 : w605 b = some (.inr (10, [.int (nI (I 0)), .ref (b + 1), .ref (b + 2), .int (nI (I 3)), .ref (b + 3), .ref (b + 4), .int (nI (I 6)), .int (nI (I 7)), .ref (b + 5), .ref (b + 6), .int (nI (I 10)), .int (nI (I 11)), .int (nI (I 12)), .int (nI (I 13)), .ref (b + 7), .ref (b + 8), .int (nI (I 16)), .int (nI (I 17)), .int (nI (I 18)), .int (nI (I 19))])) := hS.1
          have b1 : w605 (b + 1) = some (.inl (cL, 1536, .inr (.inl (fun i => lN (mC X21 i))))) := hS.2.1
          have b2 : w605 (b + 2) = some (.inl (cI, 24, .inl (S22))) := hS.2.2.1
          refine lv_iconst (pc := 116) (v := (nI 0)) hx hb dMo_power_116 (by decide) ?_
          have hsp : sPow a9 b9 = (0, 1) := by rw [hsp0, show a9 ^ Y = 1 from (by rw [hY0, Int.pow_zero])]; exact if_pos (by decide +kernel)
          exact fw_iret (pc := 117) hx hb hr hlocks hw dMo_power_117 ⟨by rw [hsp], ⟨_, _, hS, hXb, fun _ => by rw [hsp]; exact ⟨hxx, hsx.trans (by decide)⟩, hfr⟩, hoF⟩
        · rw [show (sg32 b9 : Int32) = nI 1 from (sg32_p hb0)]
          refine lv_if_ne (pc := 52) (tgt := 59) hx hb dMo_power_52 (by decide) (fun _ => ?_) (fun hc => absurd hc (by decide))
          refine lv_aload_n (pc := 59) hx hb dMo_power_59 rfl (lv_at hl 1 rfl) ?_
          refine fw_get (pc := 60) (ci := 10) (v := .ref (b + 2)) (C := RMo) (T := TMo) (N := 20) hx hb hW in_Mo hown hK.1 hw b0 rfl 2 (by decide) (hW _ lf_Mo_13) (fun _ h => h) rfl dMo_power_60 ?_
          refine lv_iload_n (pc := 63) hx hb dMo_power_63 rfl (lv_at hl 2 rfl) ?_
          refine fw_ialdN (pc := 64) (x := S (x9)) hx hb hK.1 hw 0 b2 rfl (x9) (by omega) (by decide) rfl dMo_power_64 ?_
          rw [show (S (x9) : Int32) = sg32 a9 from hsx]
          rw [show (sg32 a9 : Int32) = nI 0 from (sg32_z ha90)]
          refine lv_if_ge (pc := 65) (tgt := 76) hx hb dMo_power_65 (by decide) (fun _ => ?_) (fun hc => absurd (by decide) hc)
          refine lv_aload_n (pc := 76) hx hb dMo_power_76 rfl (lv_at hl 1 rfl) ?_
          refine fw_get (pc := 77) (ci := 10) (v := .ref (b + 2)) (C := RMo) (T := TMo) (N := 20) hx hb hW in_Mo hown hK.1 hw b0 rfl 2 (by decide) (hW _ lf_Mo_13) (fun _ h => h) rfl dMo_power_77 ?_
          refine lv_iload_n (pc := 80) hx hb dMo_power_80 rfl (lv_at hl 2 rfl) ?_
          refine fw_ialdN (pc := 81) (x := S (x9)) hx hb hK.1 hw 0 b2 rfl (x9) (by omega) (by decide) rfl dMo_power_81 ?_
          rw [show (S (x9) : Int32) = sg32 a9 from hsx]
          rw [show (sg32 a9 : Int32) = nI 0 from (sg32_z ha90)]
          refine lv_istore (pc := 82) (lv' := [(4, .int (nI 0)), (3, .int (nI 0)), (0, .ref b), (1, .int (nI x9)), (2, .int (nI (x9 + 1)))]) hx hb dMo_power_82 hl (by decide) rfl (fun ls hl => ?_)
          refine lv_aload_n (pc := 84) hx hb dMo_power_84 rfl (lv_at hl 2 rfl) ?_
          refine lv_iload_n (pc := 85) hx hb dMo_power_85 rfl (lv_at hl 3 rfl) ?_
          refine fw_cV (pc := 86) (As := [.int (nI x9)]) (rest := []) ⟨hx, hb, hml, hown, hW⟩ (c_Mo_clear (p0 := x9) hS (by omega)) (cwV 1 hW (kw_V lm_Mo_125 im_Mo_clear se_Mo_clear ini_Mo cd_Mo_clear) rfl rfl rfl (by decide +kernel) ⟨Nat.le_of_ble_eq_true rfl, Nat.le_of_ble_eq_true rfl⟩) hK hw b0 rfl rfl hl.1 rfl (Nat.le_of_ble_eq_true rfl) dMo_power_86 ⟨Nat.le_of_ble_eq_true rfl, Nat.le_of_ble_eq_true rfl⟩ (fun v w603 H locs hq hw => ?_)
          obtain ⟨rfl, hS, hn9⟩ := hq
          rw [clr_all] at hS
          have hoF : ∀ q, q < b ∨ b + 9 ≤ q → w603 q = w q := fun q h9 => (hn9 q (by omega) (by omega)).trans (hoF q h9)
          obtain ⟨X23, eX23⟩ : ∃ X_, X_ = va_up X (x9) (0) := ⟨_, rfl⟩
          rw [← eX23] at hS
          have hv9 : 0 = 0 := rfl
          have hxy : X23 (x9 + 1) = Y := by rw [eX23, up_o (by omega)]; exact hxy
          have hxO : X23 (23) = 1 := by rw [eX23, up_o (by omega)]; exact hxO
          have hxx : X23 (x9) = 0 := by rw [eX23]; exact up_s.trans hv9
          have hXb : ∀ p, X23 p < nM ^ 64 := fun p => by (rw [eX23]; unfold va_up; split; (rw [hv9]; exact Nat.pow_pos (by decide)); exact hXb p)
          have hfr : ∀ p, p ≠ x9 → p < 18 ∨ 22 < p → X23 p = X p ∧ S p = S p := fun p h1 h2 => by rw [eX23, up_o (by omega)]; exact hfr p h1 h2
          obtain ⟨S24, eS24⟩ : ∃ S_, S_ = va_up S (x9) (nI 0) := ⟨_, rfl⟩
          rw [← eS24] at hS
          have hv9 : (nI 0 : Int32) = nI 0 := rfl
          have hsy : S24 (x9 + 1) = sg32 b9 := by rw [eS24, up_o (by omega)]; exact hsy
          have hsO : S24 (23) = nI 1 := by rw [eS24, up_o (by omega)]; exact hsO
          have hsx : S24 (x9) = nI 0 := by rw [eS24]; exact up_s.trans hv9
          have hfr : ∀ p, p ≠ x9 → p < 18 ∨ 22 < p → X23 p = X p ∧ S24 p = S p := fun p h1 h2 => by rw [eS24, up_o (by omega)]; exact hfr p h1 h2
          have b0 : w603 b = some (.inr (10, [.int (nI (I 0)), .ref (b + 1), .ref (b + 2), .int (nI (I 3)), .ref (b + 3), .ref (b + 4), .int (nI (I 6)), .int (nI (I 7)), .ref (b + 5), .ref (b + 6), .int (nI (I 10)), .int (nI (I 11)), .int (nI (I 12)), .int (nI (I 13)), .ref (b + 7), .ref (b + 8), .int (nI (I 16)), .int (nI (I 17)), .int (nI (I 18)), .int (nI (I 19))])) := hS.1
          have b1 : w603 (b + 1) = some (.inl (cL, 1536, .inr (.inl (fun i => lN (mC X23 i))))) := hS.2.1
          have b2 : w603 (b + 2) = some (.inl (cI, 24, .inl (S24))) := hS.2.2.1
          refine W.eq (g2 := F0 m 89 ls []) rfl ?_
          refine lv_aload_n (pc := 89) hx hb dMo_power_89 rfl (lv_at hl 2 rfl) ?_
          refine fw_get (pc := 90) (ci := 10) (v := .ref (b + 1)) (C := RMo) (T := TMo) (N := 20) hx hb hW in_Mo hown hK.1 hw b0 rfl 1 (by decide) (hW _ lf_Mo_7) (fun _ h => h) rfl dMo_power_90 ?_
          refine lv_bipush (pc := 93) (v := (nI 64)) hx hb dMo_power_93 (by decide) ?_
          refine lv_iload_n (pc := 95) hx hb dMo_power_95 rfl (lv_at hl 3 rfl) ?_
          refine lv_imul (pc := 96) hx hb dMo_power_96 ?_
          rw [show (((nI 64) * nI x9) : Int32) = nI (64 * x9) from (nI_mul 64 x9)]
          refine lv_iload (pc := 97) hx hb dMo_power_97 (lv_at hl 0 rfl) ?_
          refine lv_if_ne (pc := 99) (tgt := 106) hx hb dMo_power_99 (by decide) (fun hc => absurd hc (fun h => h (by decide))) (fun _ => ?_)
          refine lv_lconst (pc := 102) (v := lN 0) hx hb dMo_power_102 (by decide) ?_
          refine lv_goto (pc := 103) (tgt := 107) hx hb dMo_power_103 (by decide) ?_
          refine fw_lastN (pc := 107) (f2 := fun i => lN (mC (va_up X23 (x9) (0)) i)) hx hb hK.1 hw 1 b1 rfl (64 * x9) (by omega) (by decide) (by rw [lN_up, mC_one hxx (by decide)]) dMo_power_107 (fun H locs hw => ?_)
          obtain ⟨w604, e604⟩ : ∃ w_, w_ = fw_up w603 (b + 1) (.inl (cL, 1536, .inr (.inl (fun i => lN (mC (va_up X23 (x9) (0)) i))))) := ⟨_, rfl⟩
          have hw : fw_H D kCl (fw_A w (sz)) s.heap w604 (sz) H locs := by rw [e604]; exact hw
          have b0_ : w604 (b) = some (.inr (10, [.int (nI (I 0)), .ref (b + 1), .ref (b + 2), .int (nI (I 3)), .ref (b + 3), .ref (b + 4), .int (nI (I 6)), .int (nI (I 7)), .ref (b + 5), .ref (b + 6), .int (nI (I 10)), .int (nI (I 11)), .int (nI (I 12)), .int (nI (I 13)), .ref (b + 7), .ref (b + 8), .int (nI (I 16)), .int (nI (I 17)), .int (nI (I 18)), .int (nI (I 19))])) := by rw [e604, fw_un (by omega)]; exact b0
          have b2_ : w604 (b + 2) = some (.inl (cI, 24, .inl (S24))) := by rw [e604, fw_un (by omega)]; exact b2
          have b1_ : w604 (b + 1) = some (.inl (cL, 1536, .inr (.inl (fun i => lN (mC (va_up X23 (x9) (0)) i))))) := by rw [e604]; exact fw_us _ _ _
          have b0 := b0_
          have b1 := b1_
          have b2 := b2_
          have hS : moS cI cL w604 b I K S24 (mC (va_up X23 (x9) (0))) := moS.cs hS b1 b2 (fun q h1 h2 => by rw [e604, fw_un h1])
          have hoF : ∀ q, q < b ∨ b + 9 ≤ q → w604 q = w q := fun q h9 => by rw [e604, fw_un (by omega)]; exact hoF q h9
          obtain ⟨X25, eX25⟩ : ∃ X_, X_ = va_up X23 (x9) (0) := ⟨_, rfl⟩
          rw [← eX25] at hS
          have hv9 : 0 = 0 := rfl
          have hxy : X25 (x9 + 1) = Y := by rw [eX25, up_o (by omega)]; exact hxy
          have hxO : X25 (23) = 1 := by rw [eX25, up_o (by omega)]; exact hxO
          have hxx : X25 (x9) = 0 := by rw [eX25]; exact up_s.trans hv9
          have hXb : ∀ p, X25 p < nM ^ 64 := fun p => by (rw [eX25]; unfold va_up; split; (rw [hv9]; exact Nat.lt_trans (by decide +kernel) p64); exact hXb p)
          have hfr : ∀ p, p ≠ x9 → p < 18 ∨ 22 < p → X25 p = X p ∧ S24 p = S p := fun p h1 h2 => by rw [eX25, up_o (by omega)]; exact hfr p h1 h2
          have b0 : w604 b = some (.inr (10, [.int (nI (I 0)), .ref (b + 1), .ref (b + 2), .int (nI (I 3)), .ref (b + 3), .ref (b + 4), .int (nI (I 6)), .int (nI (I 7)), .ref (b + 5), .ref (b + 6), .int (nI (I 10)), .int (nI (I 11)), .int (nI (I 12)), .int (nI (I 13)), .ref (b + 7), .ref (b + 8), .int (nI (I 16)), .int (nI (I 17)), .int (nI (I 18)), .int (nI (I 19))])) := hS.1
          have b1 : w604 (b + 1) = some (.inl (cL, 1536, .inr (.inl (fun i => lN (mC X25 i))))) := hS.2.1
          have b2 : w604 (b + 2) = some (.inl (cI, 24, .inl (S24))) := hS.2.2.1
          refine lv_aload_n (pc := 108) hx hb dMo_power_108 rfl (lv_at hl 2 rfl) ?_
          refine fw_get (pc := 109) (ci := 10) (v := .ref (b + 2)) (C := RMo) (T := TMo) (N := 20) hx hb hW in_Mo hown hK.1 hw b0 rfl 2 (by decide) (hW _ lf_Mo_13) (fun _ h => h) rfl dMo_power_109 ?_
          refine lv_iload_n (pc := 112) hx hb dMo_power_112 rfl (lv_at hl 3 rfl) ?_
          refine lv_iload (pc := 113) hx hb dMo_power_113 (lv_at hl 0 rfl) ?_
          refine fw_iastN (pc := 115) (f2 := va_up S24 (x9) (nI 0)) hx hb hK.1 hw 0 b2 rfl (x9) (by omega) (by decide) (rfl) dMo_power_115 (fun H locs hw => ?_)
          obtain ⟨w605, e605⟩ : ∃ w_, w_ = fw_up w604 (b + 2) (.inl (cI, 24, .inl (va_up S24 (x9) (nI 0)))) := ⟨_, rfl⟩
          have hw : fw_H D kCl (fw_A w (sz)) s.heap w605 (sz) H locs := by rw [e605]; exact hw
          have b0_ : w605 (b) = some (.inr (10, [.int (nI (I 0)), .ref (b + 1), .ref (b + 2), .int (nI (I 3)), .ref (b + 3), .ref (b + 4), .int (nI (I 6)), .int (nI (I 7)), .ref (b + 5), .ref (b + 6), .int (nI (I 10)), .int (nI (I 11)), .int (nI (I 12)), .int (nI (I 13)), .ref (b + 7), .ref (b + 8), .int (nI (I 16)), .int (nI (I 17)), .int (nI (I 18)), .int (nI (I 19))])) := by rw [e605, fw_un (by omega)]; exact b0
          have b1_ : w605 (b + 1) = some (.inl (cL, 1536, .inr (.inl (fun i => lN (mC X25 i))))) := by rw [e605, fw_un (by omega)]; exact b1
          have b2_ : w605 (b + 2) = some (.inl (cI, 24, .inl (va_up S24 (x9) (nI 0)))) := by rw [e605]; exact fw_us _ _ _
          have b0 := b0_
          have b1 := b1_
          have b2 := b2_
          have hS : moS cI cL w605 b I K (va_up S24 (x9) (nI 0)) (mC X25) := moS.cs hS b1 b2 (fun q h1 h2 => by rw [e605, fw_un h2])
          have hoF : ∀ q, q < b ∨ b + 9 ≤ q → w605 q = w q := fun q h9 => by rw [e605, fw_un (by omega)]; exact hoF q h9
          obtain ⟨S26, eS26⟩ : ∃ S_, S_ = va_up S24 (x9) (nI 0) := ⟨_, rfl⟩
          rw [← eS26] at hS
          have hv9 : (nI 0 : Int32) = nI 0 := rfl
          have hsy : S26 (x9 + 1) = sg32 b9 := by rw [eS26, up_o (by omega)]; exact hsy
          have hsO : S26 (23) = nI 1 := by rw [eS26, up_o (by omega)]; exact hsO
          have hsx : S26 (x9) = nI 0 := by rw [eS26]; exact up_s.trans hv9
          have hfr : ∀ p, p ≠ x9 → p < 18 ∨ 22 < p → X25 p = X p ∧ S26 p = S p := fun p h1 h2 => by rw [eS26, up_o (by omega)]; exact hfr p h1 h2
          have b0 : w605 b = some (.inr (10, [.int (nI (I 0)), .ref (b + 1), .ref (b + 2), .int (nI (I 3)), .ref (b + 3), .ref (b + 4), .int (nI (I 6)), .int (nI (I 7)), .ref (b + 5), .ref (b + 6), .int (nI (I 10)), .int (nI (I 11)), .int (nI (I 12)), .int (nI (I 13)), .ref (b + 7), .ref (b + 8), .int (nI (I 16)), .int (nI (I 17)), .int (nI (I 18)), .int (nI (I 19))])) := hS.1
          have b1 : w605 (b + 1) = some (.inl (cL, 1536, .inr (.inl (fun i => lN (mC X25 i))))) := hS.2.1
          have b2 : w605 (b + 2) = some (.inl (cI, 24, .inl (S26))) := hS.2.2.1
          refine lv_iconst (pc := 116) (v := (nI 0)) hx hb dMo_power_116 (by decide) ?_
          have hsp : sPow a9 b9 = (0, 0) := by rw [hsp0, show a9 ^ Y = 0 from (by rw [ha90]; exact Int.zero_pow (by omega))]; exact if_pos (by decide +kernel)
          exact fw_iret (pc := 117) hx hb hr hlocks hw dMo_power_117 ⟨by rw [hsp], ⟨_, _, hS, hXb, fun _ => by rw [hsp]; exact ⟨hxx, hsx.trans (by decide)⟩, hfr⟩, hoF⟩
      · rw [show (sg32 a9 : Int32) = nI 1 from (sg32_p ha90)]
        refine lv_if_eq (pc := 33) (tgt := 46) hx hb dMo_power_33 (by decide) (fun hc => absurd hc (by decide)) (fun _ => ?_)
        refine lv_aload_n (pc := 36) hx hb dMo_power_36 rfl (lv_at hl 1 rfl) ?_
        refine lv_iload_n (pc := 37) hx hb dMo_power_37 rfl (lv_at hl 2 rfl) ?_
        refine lv_bipush (pc := 38) (v := (nI 23)) hx hb dMo_power_38 (by decide) ?_
        refine fw_cVR (pc := 40) (As := [.int (nI x9), .int (nI 23)]) (rest := []) ⟨hx, hb, hml, hown, hW⟩ (c_Mo_order (pa := x9) (pb := 23) hS hXb (by omega) (by decide)) (cwV 2 hW (kw_V lm_Mo_149 im_Mo_order se_Mo_order ini_Mo cd_Mo_order) rfl rfl rfl (by decide +kernel) ⟨Nat.le_of_ble_eq_true rfl, Nat.le_of_ble_eq_true rfl⟩) hK hw b0 rfl rfl hl.1 rfl (Nat.le_of_ble_eq_true rfl) dMo_power_40 ⟨Nat.le_of_ble_eq_true rfl, Nat.le_of_ble_eq_true rfl⟩ (fun v hq => ?_)
        rw [hxx, hxO] at hq
        subst hq
        refine W.eq (g2 := F0 m 43 ls [.int (ordI A 1)]) rfl ?_
        rcases (show A = 1 ∨ 1 < A by omega) with hA1 | hA1
        · rw [show (ordI A 1 : Int32) = nI 0 from (ordI_eq hA1)]
          refine lv_if_ne (pc := 43) (tgt := 118) hx hb dMo_power_43 (by decide) (fun hc => absurd hc (fun h => h (by decide))) (fun _ => ?_)
          refine lv_aload_n (pc := 46) hx hb dMo_power_46 rfl (lv_at hl 1 rfl) ?_
          refine fw_get (pc := 47) (ci := 10) (v := .ref (b + 2)) (C := RMo) (T := TMo) (N := 20) hx hb hW in_Mo hown hK.1 hw b0 rfl 2 (by decide) (hW _ lf_Mo_13) (fun _ h => h) rfl dMo_power_47 ?_
          refine lv_iload_n (pc := 50) hx hb dMo_power_50 rfl (lv_at hl 3 rfl) ?_
          refine fw_ialdN (pc := 51) (x := S (x9 + 1)) hx hb hK.1 hw 0 b2 rfl (x9 + 1) (by omega) (by decide) rfl dMo_power_51 ?_
          rw [show (S (x9 + 1) : Int32) = sg32 b9 from hsy]
          rcases (show b9 = 0 ∨ 0 < b9 by omega) with hb0 | hb0
          · rw [show (sg32 b9 : Int32) = nI 0 from (sg32_z hb0)]
            refine lv_if_ne (pc := 52) (tgt := 59) hx hb dMo_power_52 (by decide) (fun hc => absurd hc (fun h => h (by decide))) (fun _ => ?_)
            have hY0 : Y = 0 := by omega
            refine lv_iconst (pc := 55) (v := (nI 1)) hx hb dMo_power_55 (by decide) ?_
            refine lv_goto (pc := 56) (tgt := 82) hx hb dMo_power_56 (by decide) ?_
            refine lv_istore (pc := 82) (lv' := [(4, .int (nI 1)), (3, .int (nI 0)), (0, .ref b), (1, .int (nI x9)), (2, .int (nI (x9 + 1)))]) hx hb dMo_power_82 hl (by decide) rfl (fun ls hl => ?_)
            refine lv_aload_n (pc := 84) hx hb dMo_power_84 rfl (lv_at hl 2 rfl) ?_
            refine lv_iload_n (pc := 85) hx hb dMo_power_85 rfl (lv_at hl 3 rfl) ?_
            refine fw_cV (pc := 86) (As := [.int (nI x9)]) (rest := []) ⟨hx, hb, hml, hown, hW⟩ (c_Mo_clear (p0 := x9) hS (by omega)) (cwV 1 hW (kw_V lm_Mo_125 im_Mo_clear se_Mo_clear ini_Mo cd_Mo_clear) rfl rfl rfl (by decide +kernel) ⟨Nat.le_of_ble_eq_true rfl, Nat.le_of_ble_eq_true rfl⟩) hK hw b0 rfl rfl hl.1 rfl (Nat.le_of_ble_eq_true rfl) dMo_power_86 ⟨Nat.le_of_ble_eq_true rfl, Nat.le_of_ble_eq_true rfl⟩ (fun v w606 H locs hq hw => ?_)
            obtain ⟨rfl, hS, hn9⟩ := hq
            rw [clr_all] at hS
            have hoF : ∀ q, q < b ∨ b + 9 ≤ q → w606 q = w q := fun q h9 => (hn9 q (by omega) (by omega)).trans (hoF q h9)
            obtain ⟨X27, eX27⟩ : ∃ X_, X_ = va_up X (x9) (0) := ⟨_, rfl⟩
            rw [← eX27] at hS
            have hv9 : 0 = 0 := rfl
            have hxy : X27 (x9 + 1) = Y := by rw [eX27, up_o (by omega)]; exact hxy
            have hxO : X27 (23) = 1 := by rw [eX27, up_o (by omega)]; exact hxO
            have hxx : X27 (x9) = 0 := by rw [eX27]; exact up_s.trans hv9
            have hXb : ∀ p, X27 p < nM ^ 64 := fun p => by (rw [eX27]; unfold va_up; split; (rw [hv9]; exact Nat.pow_pos (by decide)); exact hXb p)
            have hfr : ∀ p, p ≠ x9 → p < 18 ∨ 22 < p → X27 p = X p ∧ S p = S p := fun p h1 h2 => by rw [eX27, up_o (by omega)]; exact hfr p h1 h2
            obtain ⟨S28, eS28⟩ : ∃ S_, S_ = va_up S (x9) (nI 0) := ⟨_, rfl⟩
            rw [← eS28] at hS
            have hv9 : (nI 0 : Int32) = nI 0 := rfl
            have hsy : S28 (x9 + 1) = sg32 b9 := by rw [eS28, up_o (by omega)]; exact hsy
            have hsO : S28 (23) = nI 1 := by rw [eS28, up_o (by omega)]; exact hsO
            have hsx : S28 (x9) = nI 0 := by rw [eS28]; exact up_s.trans hv9
            have hfr : ∀ p, p ≠ x9 → p < 18 ∨ 22 < p → X27 p = X p ∧ S28 p = S p := fun p h1 h2 => by rw [eS28, up_o (by omega)]; exact hfr p h1 h2
            have b0 : w606 b = some (.inr (10, [.int (nI (I 0)), .ref (b + 1), .ref (b + 2), .int (nI (I 3)), .ref (b + 3), .ref (b + 4), .int (nI (I 6)), .int (nI (I 7)), .ref (b + 5), .ref (b + 6), .int (nI (I 10)), .int (nI (I 11)), .int (nI (I 12)), .int (nI (I 13)), .ref (b + 7), .ref (b + 8), .int (nI (I 16)), .int (nI (I 17)), .int (nI (I 18)), .int (nI (I 19))])) := hS.1
            have b1 : w606 (b + 1) = some (.inl (cL, 1536, .inr (.inl (fun i => lN (mC X27 i))))) := hS.2.1
            have b2 : w606 (b + 2) = some (.inl (cI, 24, .inl (S28))) := hS.2.2.1
            refine W.eq (g2 := F0 m 89 ls []) rfl ?_
            refine lv_aload_n (pc := 89) hx hb dMo_power_89 rfl (lv_at hl 2 rfl) ?_
            refine fw_get (pc := 90) (ci := 10) (v := .ref (b + 1)) (C := RMo) (T := TMo) (N := 20) hx hb hW in_Mo hown hK.1 hw b0 rfl 1 (by decide) (hW _ lf_Mo_7) (fun _ h => h) rfl dMo_power_90 ?_
            refine lv_bipush (pc := 93) (v := (nI 64)) hx hb dMo_power_93 (by decide) ?_
            refine lv_iload_n (pc := 95) hx hb dMo_power_95 rfl (lv_at hl 3 rfl) ?_
            refine lv_imul (pc := 96) hx hb dMo_power_96 ?_
            rw [show (((nI 64) * nI x9) : Int32) = nI (64 * x9) from (nI_mul 64 x9)]
            refine lv_iload (pc := 97) hx hb dMo_power_97 (lv_at hl 0 rfl) ?_
            refine lv_if_ne (pc := 99) (tgt := 106) hx hb dMo_power_99 (by decide) (fun _ => ?_) (fun hc => absurd hc (by decide))
            refine lv_lconst (pc := 106) (v := lN 1) hx hb dMo_power_106 (by decide) ?_
            refine fw_lastN (pc := 107) (f2 := fun i => lN (mC (va_up X27 (x9) (1)) i)) hx hb hK.1 hw 1 b1 rfl (64 * x9) (by omega) (by decide) (by rw [lN_up, mC_one hxx (by decide)]) dMo_power_107 (fun H locs hw => ?_)
            obtain ⟨w607, e607⟩ : ∃ w_, w_ = fw_up w606 (b + 1) (.inl (cL, 1536, .inr (.inl (fun i => lN (mC (va_up X27 (x9) (1)) i))))) := ⟨_, rfl⟩
            have hw : fw_H D kCl (fw_A w (sz)) s.heap w607 (sz) H locs := by rw [e607]; exact hw
            have b0_ : w607 (b) = some (.inr (10, [.int (nI (I 0)), .ref (b + 1), .ref (b + 2), .int (nI (I 3)), .ref (b + 3), .ref (b + 4), .int (nI (I 6)), .int (nI (I 7)), .ref (b + 5), .ref (b + 6), .int (nI (I 10)), .int (nI (I 11)), .int (nI (I 12)), .int (nI (I 13)), .ref (b + 7), .ref (b + 8), .int (nI (I 16)), .int (nI (I 17)), .int (nI (I 18)), .int (nI (I 19))])) := by rw [e607, fw_un (by omega)]; exact b0
            have b2_ : w607 (b + 2) = some (.inl (cI, 24, .inl (S28))) := by rw [e607, fw_un (by omega)]; exact b2
            have b1_ : w607 (b + 1) = some (.inl (cL, 1536, .inr (.inl (fun i => lN (mC (va_up X27 (x9) (1)) i))))) := by rw [e607]; exact fw_us _ _ _
            have b0 := b0_
            have b1 := b1_
            have b2 := b2_
            have hS : moS cI cL w607 b I K S28 (mC (va_up X27 (x9) (1))) := moS.cs hS b1 b2 (fun q h1 h2 => by rw [e607, fw_un h1])
            have hoF : ∀ q, q < b ∨ b + 9 ≤ q → w607 q = w q := fun q h9 => by rw [e607, fw_un (by omega)]; exact hoF q h9
            obtain ⟨X29, eX29⟩ : ∃ X_, X_ = va_up X27 (x9) (1) := ⟨_, rfl⟩
            rw [← eX29] at hS
            have hv9 : 1 = 1 := rfl
            have hxy : X29 (x9 + 1) = Y := by rw [eX29, up_o (by omega)]; exact hxy
            have hxO : X29 (23) = 1 := by rw [eX29, up_o (by omega)]; exact hxO
            have hxx : X29 (x9) = 1 := by rw [eX29]; exact up_s.trans hv9
            have hXb : ∀ p, X29 p < nM ^ 64 := fun p => by (rw [eX29]; unfold va_up; split; (rw [hv9]; exact Nat.lt_trans (by decide +kernel) p64); exact hXb p)
            have hfr : ∀ p, p ≠ x9 → p < 18 ∨ 22 < p → X29 p = X p ∧ S28 p = S p := fun p h1 h2 => by rw [eX29, up_o (by omega)]; exact hfr p h1 h2
            have b0 : w607 b = some (.inr (10, [.int (nI (I 0)), .ref (b + 1), .ref (b + 2), .int (nI (I 3)), .ref (b + 3), .ref (b + 4), .int (nI (I 6)), .int (nI (I 7)), .ref (b + 5), .ref (b + 6), .int (nI (I 10)), .int (nI (I 11)), .int (nI (I 12)), .int (nI (I 13)), .ref (b + 7), .ref (b + 8), .int (nI (I 16)), .int (nI (I 17)), .int (nI (I 18)), .int (nI (I 19))])) := hS.1
            have b1 : w607 (b + 1) = some (.inl (cL, 1536, .inr (.inl (fun i => lN (mC X29 i))))) := hS.2.1
            have b2 : w607 (b + 2) = some (.inl (cI, 24, .inl (S28))) := hS.2.2.1
            refine lv_aload_n (pc := 108) hx hb dMo_power_108 rfl (lv_at hl 2 rfl) ?_
            refine fw_get (pc := 109) (ci := 10) (v := .ref (b + 2)) (C := RMo) (T := TMo) (N := 20) hx hb hW in_Mo hown hK.1 hw b0 rfl 2 (by decide) (hW _ lf_Mo_13) (fun _ h => h) rfl dMo_power_109 ?_
            refine lv_iload_n (pc := 112) hx hb dMo_power_112 rfl (lv_at hl 3 rfl) ?_
            refine lv_iload (pc := 113) hx hb dMo_power_113 (lv_at hl 0 rfl) ?_
            refine fw_iastN (pc := 115) (f2 := va_up S28 (x9) (nI 1)) hx hb hK.1 hw 0 b2 rfl (x9) (by omega) (by decide) (rfl) dMo_power_115 (fun H locs hw => ?_)
            obtain ⟨w608, e608⟩ : ∃ w_, w_ = fw_up w607 (b + 2) (.inl (cI, 24, .inl (va_up S28 (x9) (nI 1)))) := ⟨_, rfl⟩
            have hw : fw_H D kCl (fw_A w (sz)) s.heap w608 (sz) H locs := by rw [e608]; exact hw
            have b0_ : w608 (b) = some (.inr (10, [.int (nI (I 0)), .ref (b + 1), .ref (b + 2), .int (nI (I 3)), .ref (b + 3), .ref (b + 4), .int (nI (I 6)), .int (nI (I 7)), .ref (b + 5), .ref (b + 6), .int (nI (I 10)), .int (nI (I 11)), .int (nI (I 12)), .int (nI (I 13)), .ref (b + 7), .ref (b + 8), .int (nI (I 16)), .int (nI (I 17)), .int (nI (I 18)), .int (nI (I 19))])) := by rw [e608, fw_un (by omega)]; exact b0
            have b1_ : w608 (b + 1) = some (.inl (cL, 1536, .inr (.inl (fun i => lN (mC X29 i))))) := by rw [e608, fw_un (by omega)]; exact b1
            have b2_ : w608 (b + 2) = some (.inl (cI, 24, .inl (va_up S28 (x9) (nI 1)))) := by rw [e608]; exact fw_us _ _ _
            have b0 := b0_
            have b1 := b1_
            have b2 := b2_
            have hS : moS cI cL w608 b I K (va_up S28 (x9) (nI 1)) (mC X29) := moS.cs hS b1 b2 (fun q h1 h2 => by rw [e608, fw_un h2])
            have hoF : ∀ q, q < b ∨ b + 9 ≤ q → w608 q = w q := fun q h9 => by rw [e608, fw_un (by omega)]; exact hoF q h9
            obtain ⟨S30, eS30⟩ : ∃ S_, S_ = va_up S28 (x9) (nI 1) := ⟨_, rfl⟩
            rw [← eS30] at hS
            have hv9 : (nI 1 : Int32) = nI 1 := rfl
            have hsy : S30 (x9 + 1) = sg32 b9 := by rw [eS30, up_o (by omega)]; exact hsy
            have hsO : S30 (23) = nI 1 := by rw [eS30, up_o (by omega)]; exact hsO
            have hsx : S30 (x9) = nI 1 := by rw [eS30]; exact up_s.trans hv9
            have hfr : ∀ p, p ≠ x9 → p < 18 ∨ 22 < p → X29 p = X p ∧ S30 p = S p := fun p h1 h2 => by rw [eS30, up_o (by omega)]; exact hfr p h1 h2
            have b0 : w608 b = some (.inr (10, [.int (nI (I 0)), .ref (b + 1), .ref (b + 2), .int (nI (I 3)), .ref (b + 3), .ref (b + 4), .int (nI (I 6)), .int (nI (I 7)), .ref (b + 5), .ref (b + 6), .int (nI (I 10)), .int (nI (I 11)), .int (nI (I 12)), .int (nI (I 13)), .ref (b + 7), .ref (b + 8), .int (nI (I 16)), .int (nI (I 17)), .int (nI (I 18)), .int (nI (I 19))])) := hS.1
            have b1 : w608 (b + 1) = some (.inl (cL, 1536, .inr (.inl (fun i => lN (mC X29 i))))) := hS.2.1
            have b2 : w608 (b + 2) = some (.inl (cI, 24, .inl (S30))) := hS.2.2.1
            refine lv_iconst (pc := 116) (v := (nI 0)) hx hb dMo_power_116 (by decide) ?_
            have hsp : sPow a9 b9 = (0, 1) := by rw [hsp0, show a9 ^ Y = 1 from (by rw [hY0, Int.pow_zero])]; exact if_pos (by decide +kernel)
            exact fw_iret (pc := 117) hx hb hr hlocks hw dMo_power_117 ⟨by rw [hsp], ⟨_, _, hS, hXb, fun _ => by rw [hsp]; exact ⟨hxx, hsx.trans (by decide)⟩, hfr⟩, hoF⟩
          · rw [show (sg32 b9 : Int32) = nI 1 from (sg32_p hb0)]
            refine lv_if_ne (pc := 52) (tgt := 59) hx hb dMo_power_52 (by decide) (fun _ => ?_) (fun hc => absurd hc (by decide))
            refine lv_aload_n (pc := 59) hx hb dMo_power_59 rfl (lv_at hl 1 rfl) ?_
            refine fw_get (pc := 60) (ci := 10) (v := .ref (b + 2)) (C := RMo) (T := TMo) (N := 20) hx hb hW in_Mo hown hK.1 hw b0 rfl 2 (by decide) (hW _ lf_Mo_13) (fun _ h => h) rfl dMo_power_60 ?_
            refine lv_iload_n (pc := 63) hx hb dMo_power_63 rfl (lv_at hl 2 rfl) ?_
            refine fw_ialdN (pc := 64) (x := S (x9)) hx hb hK.1 hw 0 b2 rfl (x9) (by omega) (by decide) rfl dMo_power_64 ?_
            rw [show (S (x9) : Int32) = sg32 a9 from hsx]
            rw [show (sg32 a9 : Int32) = nI 1 from (sg32_p ha90)]
            refine lv_if_ge (pc := 65) (tgt := 76) hx hb dMo_power_65 (by decide) (fun _ => ?_) (fun hc => absurd (by decide) hc)
            refine lv_aload_n (pc := 76) hx hb dMo_power_76 rfl (lv_at hl 1 rfl) ?_
            refine fw_get (pc := 77) (ci := 10) (v := .ref (b + 2)) (C := RMo) (T := TMo) (N := 20) hx hb hW in_Mo hown hK.1 hw b0 rfl 2 (by decide) (hW _ lf_Mo_13) (fun _ h => h) rfl dMo_power_77 ?_
            refine lv_iload_n (pc := 80) hx hb dMo_power_80 rfl (lv_at hl 2 rfl) ?_
            refine fw_ialdN (pc := 81) (x := S (x9)) hx hb hK.1 hw 0 b2 rfl (x9) (by omega) (by decide) rfl dMo_power_81 ?_
            rw [show (S (x9) : Int32) = sg32 a9 from hsx]
            rw [show (sg32 a9 : Int32) = nI 1 from (sg32_p ha90)]
            refine lv_istore (pc := 82) (lv' := [(4, .int (nI 1)), (3, .int (nI 0)), (0, .ref b), (1, .int (nI x9)), (2, .int (nI (x9 + 1)))]) hx hb dMo_power_82 hl (by decide) rfl (fun ls hl => ?_)
            refine lv_aload_n (pc := 84) hx hb dMo_power_84 rfl (lv_at hl 2 rfl) ?_
            refine lv_iload_n (pc := 85) hx hb dMo_power_85 rfl (lv_at hl 3 rfl) ?_
            refine fw_cV (pc := 86) (As := [.int (nI x9)]) (rest := []) ⟨hx, hb, hml, hown, hW⟩ (c_Mo_clear (p0 := x9) hS (by omega)) (cwV 1 hW (kw_V lm_Mo_125 im_Mo_clear se_Mo_clear ini_Mo cd_Mo_clear) rfl rfl rfl (by decide +kernel) ⟨Nat.le_of_ble_eq_true rfl, Nat.le_of_ble_eq_true rfl⟩) hK hw b0 rfl rfl hl.1 rfl (Nat.le_of_ble_eq_true rfl) dMo_power_86 ⟨Nat.le_of_ble_eq_true rfl, Nat.le_of_ble_eq_true rfl⟩ (fun v w606 H locs hq hw => ?_)
            obtain ⟨rfl, hS, hn9⟩ := hq
            rw [clr_all] at hS
            have hoF : ∀ q, q < b ∨ b + 9 ≤ q → w606 q = w q := fun q h9 => (hn9 q (by omega) (by omega)).trans (hoF q h9)
            obtain ⟨X31, eX31⟩ : ∃ X_, X_ = va_up X (x9) (0) := ⟨_, rfl⟩
            rw [← eX31] at hS
            have hv9 : 0 = 0 := rfl
            have hxy : X31 (x9 + 1) = Y := by rw [eX31, up_o (by omega)]; exact hxy
            have hxO : X31 (23) = 1 := by rw [eX31, up_o (by omega)]; exact hxO
            have hxx : X31 (x9) = 0 := by rw [eX31]; exact up_s.trans hv9
            have hXb : ∀ p, X31 p < nM ^ 64 := fun p => by (rw [eX31]; unfold va_up; split; (rw [hv9]; exact Nat.pow_pos (by decide)); exact hXb p)
            have hfr : ∀ p, p ≠ x9 → p < 18 ∨ 22 < p → X31 p = X p ∧ S p = S p := fun p h1 h2 => by rw [eX31, up_o (by omega)]; exact hfr p h1 h2
            obtain ⟨S32, eS32⟩ : ∃ S_, S_ = va_up S (x9) (nI 0) := ⟨_, rfl⟩
            rw [← eS32] at hS
            have hv9 : (nI 0 : Int32) = nI 0 := rfl
            have hsy : S32 (x9 + 1) = sg32 b9 := by rw [eS32, up_o (by omega)]; exact hsy
            have hsO : S32 (23) = nI 1 := by rw [eS32, up_o (by omega)]; exact hsO
            have hsx : S32 (x9) = nI 0 := by rw [eS32]; exact up_s.trans hv9
            have hfr : ∀ p, p ≠ x9 → p < 18 ∨ 22 < p → X31 p = X p ∧ S32 p = S p := fun p h1 h2 => by rw [eS32, up_o (by omega)]; exact hfr p h1 h2
            have b0 : w606 b = some (.inr (10, [.int (nI (I 0)), .ref (b + 1), .ref (b + 2), .int (nI (I 3)), .ref (b + 3), .ref (b + 4), .int (nI (I 6)), .int (nI (I 7)), .ref (b + 5), .ref (b + 6), .int (nI (I 10)), .int (nI (I 11)), .int (nI (I 12)), .int (nI (I 13)), .ref (b + 7), .ref (b + 8), .int (nI (I 16)), .int (nI (I 17)), .int (nI (I 18)), .int (nI (I 19))])) := hS.1
            have b1 : w606 (b + 1) = some (.inl (cL, 1536, .inr (.inl (fun i => lN (mC X31 i))))) := hS.2.1
            have b2 : w606 (b + 2) = some (.inl (cI, 24, .inl (S32))) := hS.2.2.1
            refine W.eq (g2 := F0 m 89 ls []) rfl ?_
            refine lv_aload_n (pc := 89) hx hb dMo_power_89 rfl (lv_at hl 2 rfl) ?_
            refine fw_get (pc := 90) (ci := 10) (v := .ref (b + 1)) (C := RMo) (T := TMo) (N := 20) hx hb hW in_Mo hown hK.1 hw b0 rfl 1 (by decide) (hW _ lf_Mo_7) (fun _ h => h) rfl dMo_power_90 ?_
            refine lv_bipush (pc := 93) (v := (nI 64)) hx hb dMo_power_93 (by decide) ?_
            refine lv_iload_n (pc := 95) hx hb dMo_power_95 rfl (lv_at hl 3 rfl) ?_
            refine lv_imul (pc := 96) hx hb dMo_power_96 ?_
            rw [show (((nI 64) * nI x9) : Int32) = nI (64 * x9) from (nI_mul 64 x9)]
            refine lv_iload (pc := 97) hx hb dMo_power_97 (lv_at hl 0 rfl) ?_
            refine lv_if_ne (pc := 99) (tgt := 106) hx hb dMo_power_99 (by decide) (fun _ => ?_) (fun hc => absurd hc (by decide))
            refine lv_lconst (pc := 106) (v := lN 1) hx hb dMo_power_106 (by decide) ?_
            refine fw_lastN (pc := 107) (f2 := fun i => lN (mC (va_up X31 (x9) (1)) i)) hx hb hK.1 hw 1 b1 rfl (64 * x9) (by omega) (by decide) (by rw [lN_up, mC_one hxx (by decide)]) dMo_power_107 (fun H locs hw => ?_)
            obtain ⟨w607, e607⟩ : ∃ w_, w_ = fw_up w606 (b + 1) (.inl (cL, 1536, .inr (.inl (fun i => lN (mC (va_up X31 (x9) (1)) i))))) := ⟨_, rfl⟩
            have hw : fw_H D kCl (fw_A w (sz)) s.heap w607 (sz) H locs := by rw [e607]; exact hw
            have b0_ : w607 (b) = some (.inr (10, [.int (nI (I 0)), .ref (b + 1), .ref (b + 2), .int (nI (I 3)), .ref (b + 3), .ref (b + 4), .int (nI (I 6)), .int (nI (I 7)), .ref (b + 5), .ref (b + 6), .int (nI (I 10)), .int (nI (I 11)), .int (nI (I 12)), .int (nI (I 13)), .ref (b + 7), .ref (b + 8), .int (nI (I 16)), .int (nI (I 17)), .int (nI (I 18)), .int (nI (I 19))])) := by rw [e607, fw_un (by omega)]; exact b0
            have b2_ : w607 (b + 2) = some (.inl (cI, 24, .inl (S32))) := by rw [e607, fw_un (by omega)]; exact b2
            have b1_ : w607 (b + 1) = some (.inl (cL, 1536, .inr (.inl (fun i => lN (mC (va_up X31 (x9) (1)) i))))) := by rw [e607]; exact fw_us _ _ _
            have b0 := b0_
            have b1 := b1_
            have b2 := b2_
            have hS : moS cI cL w607 b I K S32 (mC (va_up X31 (x9) (1))) := moS.cs hS b1 b2 (fun q h1 h2 => by rw [e607, fw_un h1])
            have hoF : ∀ q, q < b ∨ b + 9 ≤ q → w607 q = w q := fun q h9 => by rw [e607, fw_un (by omega)]; exact hoF q h9
            obtain ⟨X33, eX33⟩ : ∃ X_, X_ = va_up X31 (x9) (1) := ⟨_, rfl⟩
            rw [← eX33] at hS
            have hv9 : 1 = 1 := rfl
            have hxy : X33 (x9 + 1) = Y := by rw [eX33, up_o (by omega)]; exact hxy
            have hxO : X33 (23) = 1 := by rw [eX33, up_o (by omega)]; exact hxO
            have hxx : X33 (x9) = 1 := by rw [eX33]; exact up_s.trans hv9
            have hXb : ∀ p, X33 p < nM ^ 64 := fun p => by (rw [eX33]; unfold va_up; split; (rw [hv9]; exact Nat.lt_trans (by decide +kernel) p64); exact hXb p)
            have hfr : ∀ p, p ≠ x9 → p < 18 ∨ 22 < p → X33 p = X p ∧ S32 p = S p := fun p h1 h2 => by rw [eX33, up_o (by omega)]; exact hfr p h1 h2
            have b0 : w607 b = some (.inr (10, [.int (nI (I 0)), .ref (b + 1), .ref (b + 2), .int (nI (I 3)), .ref (b + 3), .ref (b + 4), .int (nI (I 6)), .int (nI (I 7)), .ref (b + 5), .ref (b + 6), .int (nI (I 10)), .int (nI (I 11)), .int (nI (I 12)), .int (nI (I 13)), .ref (b + 7), .ref (b + 8), .int (nI (I 16)), .int (nI (I 17)), .int (nI (I 18)), .int (nI (I 19))])) := hS.1
            have b1 : w607 (b + 1) = some (.inl (cL, 1536, .inr (.inl (fun i => lN (mC X33 i))))) := hS.2.1
            have b2 : w607 (b + 2) = some (.inl (cI, 24, .inl (S32))) := hS.2.2.1
            refine lv_aload_n (pc := 108) hx hb dMo_power_108 rfl (lv_at hl 2 rfl) ?_
            refine fw_get (pc := 109) (ci := 10) (v := .ref (b + 2)) (C := RMo) (T := TMo) (N := 20) hx hb hW in_Mo hown hK.1 hw b0 rfl 2 (by decide) (hW _ lf_Mo_13) (fun _ h => h) rfl dMo_power_109 ?_
            refine lv_iload_n (pc := 112) hx hb dMo_power_112 rfl (lv_at hl 3 rfl) ?_
            refine lv_iload (pc := 113) hx hb dMo_power_113 (lv_at hl 0 rfl) ?_
            refine fw_iastN (pc := 115) (f2 := va_up S32 (x9) (nI 1)) hx hb hK.1 hw 0 b2 rfl (x9) (by omega) (by decide) (rfl) dMo_power_115 (fun H locs hw => ?_)
            obtain ⟨w608, e608⟩ : ∃ w_, w_ = fw_up w607 (b + 2) (.inl (cI, 24, .inl (va_up S32 (x9) (nI 1)))) := ⟨_, rfl⟩
            have hw : fw_H D kCl (fw_A w (sz)) s.heap w608 (sz) H locs := by rw [e608]; exact hw
            have b0_ : w608 (b) = some (.inr (10, [.int (nI (I 0)), .ref (b + 1), .ref (b + 2), .int (nI (I 3)), .ref (b + 3), .ref (b + 4), .int (nI (I 6)), .int (nI (I 7)), .ref (b + 5), .ref (b + 6), .int (nI (I 10)), .int (nI (I 11)), .int (nI (I 12)), .int (nI (I 13)), .ref (b + 7), .ref (b + 8), .int (nI (I 16)), .int (nI (I 17)), .int (nI (I 18)), .int (nI (I 19))])) := by rw [e608, fw_un (by omega)]; exact b0
            have b1_ : w608 (b + 1) = some (.inl (cL, 1536, .inr (.inl (fun i => lN (mC X33 i))))) := by rw [e608, fw_un (by omega)]; exact b1
            have b2_ : w608 (b + 2) = some (.inl (cI, 24, .inl (va_up S32 (x9) (nI 1)))) := by rw [e608]; exact fw_us _ _ _
            have b0 := b0_
            have b1 := b1_
            have b2 := b2_
            have hS : moS cI cL w608 b I K (va_up S32 (x9) (nI 1)) (mC X33) := moS.cs hS b1 b2 (fun q h1 h2 => by rw [e608, fw_un h2])
            have hoF : ∀ q, q < b ∨ b + 9 ≤ q → w608 q = w q := fun q h9 => by rw [e608, fw_un (by omega)]; exact hoF q h9
            obtain ⟨S34, eS34⟩ : ∃ S_, S_ = va_up S32 (x9) (nI 1) := ⟨_, rfl⟩
            rw [← eS34] at hS
            have hv9 : (nI 1 : Int32) = nI 1 := rfl
            have hsy : S34 (x9 + 1) = sg32 b9 := by rw [eS34, up_o (by omega)]; exact hsy
            have hsO : S34 (23) = nI 1 := by rw [eS34, up_o (by omega)]; exact hsO
            have hsx : S34 (x9) = nI 1 := by rw [eS34]; exact up_s.trans hv9
            have hfr : ∀ p, p ≠ x9 → p < 18 ∨ 22 < p → X33 p = X p ∧ S34 p = S p := fun p h1 h2 => by rw [eS34, up_o (by omega)]; exact hfr p h1 h2
            have b0 : w608 b = some (.inr (10, [.int (nI (I 0)), .ref (b + 1), .ref (b + 2), .int (nI (I 3)), .ref (b + 3), .ref (b + 4), .int (nI (I 6)), .int (nI (I 7)), .ref (b + 5), .ref (b + 6), .int (nI (I 10)), .int (nI (I 11)), .int (nI (I 12)), .int (nI (I 13)), .ref (b + 7), .ref (b + 8), .int (nI (I 16)), .int (nI (I 17)), .int (nI (I 18)), .int (nI (I 19))])) := hS.1
            have b1 : w608 (b + 1) = some (.inl (cL, 1536, .inr (.inl (fun i => lN (mC X33 i))))) := hS.2.1
            have b2 : w608 (b + 2) = some (.inl (cI, 24, .inl (S34))) := hS.2.2.1
            refine lv_iconst (pc := 116) (v := (nI 0)) hx hb dMo_power_116 (by decide) ?_
            have hsp : sPow a9 b9 = (0, 1) := by rw [hsp0, show a9 ^ Y = 1 from (by rw [show a9 = 1 by omega, Int.one_pow])]; exact if_pos (by decide +kernel)
            exact fw_iret (pc := 117) hx hb hr hlocks hw dMo_power_117 ⟨by rw [hsp], ⟨_, _, hS, hXb, fun _ => by rw [hsp]; exact ⟨hxx, hsx.trans (by decide)⟩, hfr⟩, hoF⟩
        · rw [show (ordI A 1 : Int32) = nI 1 from (ordI_gt hA1)]
          refine lv_if_ne (pc := 43) (tgt := 118) hx hb dMo_power_43 (by decide) (fun _ => ?_) (fun hc => absurd hc (by decide))
          have hbig : 768 ≤ Y → 2 ^ 768 ≤ A ^ Y := fun h9 => Nat.le_trans (Nat.pow_le_pow_left (show 2 ≤ A from hA1) 768) (Nat.pow_le_pow_right (by omega) h9)
          have hsix : 2 ^ 768 ≤ A ^ Y → sPow a9 b9 = (6, a9) := fun h9 => by rw [hsp0]; unfold sFit; rw [hpa, if_neg (by omega)]
          refine lv_aload_n (pc := 118) hx hb dMo_power_118 rfl (lv_at hl 1 rfl) ?_
          refine lv_iload_n (pc := 119) hx hb dMo_power_119 rfl (lv_at hl 3 rfl) ?_
          refine fw_cVR (pc := 120) (As := [.int (nI (x9 + 1))]) (rest := []) ⟨hx, hb, hml, hown, hW⟩ (c_Mo_bits (p0 := x9 + 1) hS hXb (by omega)) (cwV 1 hW (kw_V lm_Mo_162 im_Mo_bits se_Mo_bits ini_Mo cd_Mo_bits) rfl rfl rfl (by decide +kernel) ⟨Nat.le_of_ble_eq_true rfl, Nat.le_of_ble_eq_true rfl⟩) hK hw b0 rfl rfl hl.1 rfl (Nat.le_of_ble_eq_true rfl) dMo_power_120 ⟨Nat.le_of_ble_eq_true rfl, Nat.le_of_ble_eq_true rfl⟩ (fun v hq => ?_)
          rw [hxy] at hq
          have hbl9 := bt_ub b97
          subst hq
          refine W.eq (g2 := F0 m 123 ls [.int (nI (bl Y))]) rfl ?_
          refine lv_bipush (pc := 123) (v := (nI 10)) hx hb dMo_power_123 (by decide) ?_
          rcases (show 10 < bl Y ∨ bl Y ≤ 10 by omega) with hbl | hbl
          · refine lv_icmp_gt (pc := 125) (tgt := 144) hx hb dMo_power_125 (by decide) (fun _ => ?_) (fun hc => absurd ((nI_ltI (by decide) (by omega)).mpr hbl) hc)
            refine lv_bipush (pc := 144) (v := (nI 6)) hx hb dMo_power_144 (by decide) ?_
            have hsp : sPow a9 b9 = (6, a9) := hsix (hbig (by have h9 := (bt_le (show Y ≠ 0 from fun h8 => by rw [h8] at hbl; exact absurd hbl (by decide))).1; have h8 : 2 ^ 10 ≤ 2 ^ (bl Y - 1) := Nat.pow_le_pow_right (by decide) (by omega); omega))
            exact fw_iret (pc := 146) hx hb hr hlocks hw dMo_power_146 ⟨by rw [hsp], ⟨_, _, hS, hXb, fun h9 => absurd h9 (by rw [hsp]; show ¬ (6 : Nat) = 0; decide), hfr⟩, hoF⟩
          · refine lv_icmp_gt (pc := 125) (tgt := 144) hx hb dMo_power_125 (by decide) (fun hc => absurd hc (nI_nlt hbl (by decide))) (fun _ => ?_)
            have hY10 : Y < 1024 := by have h9 := bt_lt Y; have h8 : 2 ^ bl Y ≤ 2 ^ 10 := Nat.pow_le_pow_right (by decide) hbl; omega
            have hc0 : mC X (64 * (x9 + 1)) = Y := by have h9 := mC_at X (p := x9 + 1) (i := 0) (by decide); rw [Nat.add_zero, hxy, Nat.pow_zero, Nat.div_one] at h9; rw [h9]; exact Nat.mod_eq_of_lt (Nat.lt_trans hY10 (by decide))
            refine lv_aload_n (pc := 128) hx hb dMo_power_128 rfl (lv_at hl 1 rfl) ?_
            refine fw_get (pc := 129) (ci := 10) (v := .ref (b + 1)) (C := RMo) (T := TMo) (N := 20) hx hb hW in_Mo hown hK.1 hw b0 rfl 1 (by decide) (hW _ lf_Mo_7) (fun _ h => h) rfl dMo_power_129 ?_
            refine lv_bipush (pc := 132) (v := (nI 64)) hx hb dMo_power_132 (by decide) ?_
            refine lv_iload_n (pc := 134) hx hb dMo_power_134 rfl (lv_at hl 3 rfl) ?_
            refine lv_imul (pc := 135) hx hb dMo_power_135 ?_
            rw [show (((nI 64) * nI (x9 + 1)) : Int32) = nI (64 * (x9 + 1)) from (nI_mul 64 (x9 + 1))]
            refine fw_laldN (pc := 136) (x := lN (mC X (64 * (x9 + 1)))) hx hb hK.1 hw 1 b1 rfl (64 * (x9 + 1)) (by omega) (by decide) rfl dMo_power_136 ?_
            rw [show (lN (mC X (64 * (x9 + 1))) : Int64) = lN Y from (by rw [hc0])]
            refine lv_ldc2 (pc := 137) (v := lN 767) hx hb hown (hW _ kl_Mo_165) dMo_power_137 ?_
            refine W.lcmp (pc := 140) hx hb dMo_power_140 ?_
            rcases (show Y ≤ 767 ∨ 767 < Y by omega) with hY7 | hY7
            · refine lv_if_le (pc := 141) (tgt := 147) hx hb dMo_power_141 (by decide) (fun _ => ?_) (fun hc => absurd ((lg_cmp_le _ _).mpr ((pk_lLE (by omega) (by decide)).mpr hY7)) hc)
              refine lv_iload_n (pc := 147) hx hb dMo_power_147 rfl (lv_at hl 0 rfl) ?_
              refine lv_if_eq (pc := 148) (tgt := 160) hx hb dMo_power_148 (by decide) (fun _ => ?_) (fun hc => absurd (show nI 0 = 0 by decide) hc)
              refine lv_iconst (pc := 160) (v := (nI 1)) hx hb dMo_power_160 (by decide) ?_
              refine lv_istore (pc := 161) (lv' := [(4, .int (nI 1)), (3, .int (nI 0)), (0, .ref b), (1, .int (nI x9)), (2, .int (nI (x9 + 1)))]) hx hb dMo_power_161 hl (by decide) rfl (fun ls hl => ?_)
              refine lv_aload_n (pc := 163) hx hb dMo_power_163 rfl (lv_at hl 2 rfl) ?_
              refine fw_get (pc := 164) (ci := 10) (v := .ref (b + 1)) (C := RMo) (T := TMo) (N := 20) hx hb hW in_Mo hown hK.1 hw b0 rfl 1 (by decide) (hW _ lf_Mo_7) (fun _ h => h) rfl dMo_power_164 ?_
              refine lv_bipush (pc := 167) (v := (nI 64)) hx hb dMo_power_167 (by decide) ?_
              refine lv_iload_n (pc := 169) hx hb dMo_power_169 rfl (lv_at hl 4 rfl) ?_
              refine lv_imul (pc := 170) hx hb dMo_power_170 ?_
              have hsr : sg32 (a9 ^ Y) = nI 1 := sg32_p (Int.pow_pos ha90)
              rw [show (((nI 64) * nI (x9 + 1)) : Int32) = nI (64 * (x9 + 1)) from (nI_mul 64 (x9 + 1))]
              refine fw_laldN (pc := 171) (x := lN (mC X (64 * (x9 + 1)))) hx hb hK.1 hw 1 b1 rfl (64 * (x9 + 1)) (by omega) (by decide) rfl dMo_power_171 ?_
              rw [show (lN (mC X (64 * (x9 + 1))) : Int64) = lN Y from (by rw [hc0])]
              refine lv_l2i (pc := 172) (v := nI Y) hx hb dMo_power_172 (lN_i Y) ?_
              refine lv_istore (pc := 173) (lv' := [(5, .int (nI Y)), (4, .int (nI 1)), (3, .int (nI 0)), (0, .ref b), (1, .int (nI x9)), (2, .int (nI (x9 + 1)))]) hx hb dMo_power_173 hl (by decide) rfl (fun ls hl => ?_)
              refine lv_aload_n (pc := 175) hx hb dMo_power_175 rfl (lv_at hl 3 rfl) ?_
              refine lv_iload_n (pc := 176) hx hb dMo_power_176 rfl (lv_at hl 4 rfl) ?_
              refine lv_bipush (pc := 177) (v := (nI 19)) hx hb dMo_power_177 (by decide) ?_
              have loop : ∀ (e0 i : Nat), i + e0 = Y → A ^ i < nM ^ 64 → ∀ (w1 : fw_W) (H : Heap) (locs : List Loc) (ls : Array Slot) (S1 : Nat → Int32) (X1 : Nat → Nat), fw_H D kCl (fw_A w (sz)) s.heap w1 (sz) H locs → lv_has ls 7 [(6, .int (nI i)), (5, .int (nI Y)), (4, .int (nI 1)), (3, .int (nI 0)), (0, .ref b), (1, .int (nI x9)), (2, .int (nI (x9 + 1)))] → moS cI cL w1 b I K S1 (mC X1) → (∀ p, X1 p < nM ^ 64) → X1 x9 = A ^ i → X1 19 = A → (∀ p, p ≠ x9 → p < 18 ∨ 22 < p → X1 p = X p ∧ S1 p = S p) → (∀ q, q < b ∨ b + 9 ≤ q → w1 q = w q) → W p l e ({ frames := 2, cells := 0, slots := 0, locals := 55 } : Room) s m args below meth c H locs 0 0 (MQ below (fw_Q D kCl w (sz) 0 (fun v w' => v = some (.int (nI (sPow a9 b9).1)) ∧ (∃ S2 X2, moS cI cL w' b I K S2 (mC X2) ∧ (∀ p, X2 p < nM ^ 64) ∧ ((sPow a9 b9).1 = 0 → X2 x9 = Int.natAbs (sPow a9 b9).2 ∧ S2 x9 = sg32 (sPow a9 b9).2) ∧ ∀ p, p ≠ x9 → p < 18 ∨ 22 < p → X2 p = X p ∧ S2 p = S p) ∧ ∀ q, q < b ∨ b + 9 ≤ q → w' q = w q)) args s 0 0 (fw_A w (sz))) (F0 m 192 ls []) := by
                intro e0
                induction e0 with
                | zero =>
                  intro i hie hAi w1 H locs ls S1 X1 hw hl hS hXb hxx hxB hfr hoF
                  have b0 : w1 b = some (.inr (10, [.int (nI (I 0)), .ref (b + 1), .ref (b + 2), .int (nI (I 3)), .ref (b + 3), .ref (b + 4), .int (nI (I 6)), .int (nI (I 7)), .ref (b + 5), .ref (b + 6), .int (nI (I 10)), .int (nI (I 11)), .int (nI (I 12)), .int (nI (I 13)), .ref (b + 7), .ref (b + 8), .int (nI (I 16)), .int (nI (I 17)), .int (nI (I 18)), .int (nI (I 19))])) := hS.1
                  have b1 : w1 (b + 1) = some (.inl (cL, 1536, .inr (.inl (fun i => lN (mC X1 i))))) := hS.2.1
                  have b2 : w1 (b + 2) = some (.inl (cI, 24, .inl (S1))) := hS.2.2.1
                  refine lv_iload (pc := 192) hx hb dMo_power_192 (lv_at hl 0 rfl) ?_
                  refine lv_iload (pc := 194) hx hb dMo_power_194 (lv_at hl 1 rfl) ?_
                  refine lv_icmp_ge (pc := 196) (tgt := 229) hx hb dMo_power_196 (by decide) (fun _ => ?_) (fun hc => absurd (nI_le (show Y ≤ i by omega) (by omega)) hc)
                  refine lv_aload_n (pc := 229) hx hb dMo_power_229 rfl (lv_at hl 4 rfl) ?_
                  refine fw_get (pc := 230) (ci := 10) (v := .ref (b + 2)) (C := RMo) (T := TMo) (N := 20) hx hb hW in_Mo hown hK.1 hw b0 rfl 2 (by decide) (hW _ lf_Mo_13) (fun _ h => h) rfl dMo_power_230 ?_
                  refine lv_iload_n (pc := 233) hx hb dMo_power_233 rfl (lv_at hl 5 rfl) ?_
                  refine lv_iload (pc := 234) hx hb dMo_power_234 (lv_at hl 2 rfl) ?_
                  refine fw_iastN (pc := 236) (f2 := va_up S1 (x9) (nI 1)) hx hb hK.1 hw 0 b2 rfl (x9) (by omega) (by decide) (rfl) dMo_power_236 (fun H locs hw => ?_)
                  obtain ⟨w501, e501⟩ : ∃ w_, w_ = fw_up w1 (b + 2) (.inl (cI, 24, .inl (va_up S1 (x9) (nI 1)))) := ⟨_, rfl⟩
                  have hw : fw_H D kCl (fw_A w (sz)) s.heap w501 (sz) H locs := by rw [e501]; exact hw
                  have b0_ : w501 (b) = some (.inr (10, [.int (nI (I 0)), .ref (b + 1), .ref (b + 2), .int (nI (I 3)), .ref (b + 3), .ref (b + 4), .int (nI (I 6)), .int (nI (I 7)), .ref (b + 5), .ref (b + 6), .int (nI (I 10)), .int (nI (I 11)), .int (nI (I 12)), .int (nI (I 13)), .ref (b + 7), .ref (b + 8), .int (nI (I 16)), .int (nI (I 17)), .int (nI (I 18)), .int (nI (I 19))])) := by rw [e501, fw_un (by omega)]; exact b0
                  have b1_ : w501 (b + 1) = some (.inl (cL, 1536, .inr (.inl (fun i => lN (mC X1 i))))) := by rw [e501, fw_un (by omega)]; exact b1
                  have b2_ : w501 (b + 2) = some (.inl (cI, 24, .inl (va_up S1 (x9) (nI 1)))) := by rw [e501]; exact fw_us _ _ _
                  have b0 := b0_
                  have b1 := b1_
                  have b2 := b2_
                  have hS : moS cI cL w501 b I K (va_up S1 (x9) (nI 1)) (mC X1) := moS.cs hS b1 b2 (fun q h1 h2 => by rw [e501, fw_un h2])
                  have hoF : ∀ q, q < b ∨ b + 9 ≤ q → w501 q = w q := fun q h9 => by rw [e501, fw_un (by omega)]; exact hoF q h9
                  obtain ⟨S35, eS35⟩ : ∃ S_, S_ = va_up S1 (x9) (nI 1) := ⟨_, rfl⟩
                  rw [← eS35] at hS
                  have hv9 : (nI 1 : Int32) = nI 1 := rfl
                  have hsx : S35 (x9) = nI 1 := by rw [eS35]; exact up_s.trans hv9
                  have hfr : ∀ p, p ≠ x9 → p < 18 ∨ 22 < p → X1 p = X p ∧ S35 p = S p := fun p h1 h2 => by rw [eS35, up_o (by omega)]; exact hfr p h1 h2
                  have b0 : w501 b = some (.inr (10, [.int (nI (I 0)), .ref (b + 1), .ref (b + 2), .int (nI (I 3)), .ref (b + 3), .ref (b + 4), .int (nI (I 6)), .int (nI (I 7)), .ref (b + 5), .ref (b + 6), .int (nI (I 10)), .int (nI (I 11)), .int (nI (I 12)), .int (nI (I 13)), .ref (b + 7), .ref (b + 8), .int (nI (I 16)), .int (nI (I 17)), .int (nI (I 18)), .int (nI (I 19))])) := hS.1
                  have b1 : w501 (b + 1) = some (.inl (cL, 1536, .inr (.inl (fun i => lN (mC X1 i))))) := hS.2.1
                  have b2 : w501 (b + 2) = some (.inl (cI, 24, .inl (S35))) := hS.2.2.1
                  refine lv_aload_n (pc := 237) hx hb dMo_power_237 rfl (lv_at hl 4 rfl) ?_
                  refine lv_iload_n (pc := 238) hx hb dMo_power_238 rfl (lv_at hl 5 rfl) ?_
                  have hiY : i = Y := by omega
                  rw [hiY, ← hpa] at hxx
                  rw [← hsr] at hsx
                  refine fw_cVR (pc := 239) (As := [.int (nI x9)]) (rest := []) ⟨hx, hb, hml, hown, hW⟩ (c_Mo_isGreat hS hXb (by omega)) (cwV 1 hW (kw_V lm_Mo_152 im_Mo_isGreat se_Mo_isGreat ini_Mo cd_Mo_isGreat) rfl rfl rfl (by decide +kernel) ⟨Nat.le_of_ble_eq_true rfl, Nat.le_of_ble_eq_true rfl⟩) hK hw b0 rfl rfl hl.1 rfl (Nat.le_of_ble_eq_true rfl) dMo_power_239 ⟨Nat.le_of_ble_eq_true rfl, Nat.le_of_ble_eq_true rfl⟩ (fun v hq => ?_)
                  have hxr : X1 x9 = Int.natAbs (a9 ^ Y) := hxx
                  rw [hxr] at hq
                  by_cases hg9 : Int.natAbs (a9 ^ Y) < 2 ^ 768
                  · subst hq
                    rw [if_pos hg9]
                    refine W.eq (g2 := F0 m 242 ls [.int (nI 0)]) rfl ?_
                    refine lv_if_eq (pc := 242) (tgt := 250) hx hb dMo_power_242 (by decide) (fun _ => ?_) (fun hc => absurd (show nI 0 = 0 by decide) hc)
                    refine lv_iconst (pc := 250) (v := (nI 0)) hx hb dMo_power_250 (by decide) ?_
                    have hsp : sPow a9 b9 = (0, (a9 ^ Y)) := hsp0.trans (if_pos hg9)
                    exact fw_iret (pc := 251) hx hb hr hlocks hw dMo_power_251 ⟨by rw [hsp], ⟨_, _, hS, hXb, fun _ => by rw [hsp]; exact ⟨hxr, hsx⟩, hfr⟩, hoF⟩
                  · subst hq
                    rw [if_neg hg9]
                    refine W.eq (g2 := F0 m 242 ls [.int (nI 1)]) rfl ?_
                    refine lv_if_eq (pc := 242) (tgt := 250) hx hb dMo_power_242 (by decide) (fun hc => absurd hc (show ¬ nI 1 = 0 by decide)) (fun _ => ?_)
                    refine lv_bipush (pc := 245) (v := (nI 6)) hx hb dMo_power_245 (by decide) ?_
                    refine lv_goto (pc := 247) (tgt := 251) hx hb dMo_power_247 (by decide) ?_
                    have hsp : (sPow a9 b9).1 = 6 := by rw [hsp0, sFit_1, if_neg hg9]
                    exact fw_iret (pc := 251) hx hb hr hlocks hw dMo_power_251 ⟨by rw [hsp], ⟨_, _, hS, hXb, fun h9 => absurd h9 (by rw [hsp]; decide), hfr⟩, hoF⟩
                | succ e0 ih =>
                  intro i hie hAi w1 H locs ls S1 X1 hw hl hS hXb hxx hxB hfr hoF
                  have b0 : w1 b = some (.inr (10, [.int (nI (I 0)), .ref (b + 1), .ref (b + 2), .int (nI (I 3)), .ref (b + 3), .ref (b + 4), .int (nI (I 6)), .int (nI (I 7)), .ref (b + 5), .ref (b + 6), .int (nI (I 10)), .int (nI (I 11)), .int (nI (I 12)), .int (nI (I 13)), .ref (b + 7), .ref (b + 8), .int (nI (I 16)), .int (nI (I 17)), .int (nI (I 18)), .int (nI (I 19))])) := hS.1
                  have b1 : w1 (b + 1) = some (.inl (cL, 1536, .inr (.inl (fun i => lN (mC X1 i))))) := hS.2.1
                  have b2 : w1 (b + 2) = some (.inl (cI, 24, .inl (S1))) := hS.2.2.1
                  refine lv_iload (pc := 192) hx hb dMo_power_192 (lv_at hl 0 rfl) ?_
                  refine lv_iload (pc := 194) hx hb dMo_power_194 (lv_at hl 1 rfl) ?_
                  refine lv_icmp_ge (pc := 196) (tgt := 229) hx hb dMo_power_196 (by decide) (fun hc => absurd hc (nI_ge (show i < Y by omega) (by omega))) (fun _ => ?_)
                  refine lv_aload_n (pc := 199) hx hb dMo_power_199 rfl (lv_at hl 4 rfl) ?_
                  refine lv_iload_n (pc := 200) hx hb dMo_power_200 rfl (lv_at hl 5 rfl) ?_
                  refine fw_cVR (pc := 201) (As := [.int (nI x9)]) (rest := []) ⟨hx, hb, hml, hown, hW⟩ (c_Mo_isGreat (p0 := x9) hS hXb (by omega)) (cwV 1 hW (kw_V lm_Mo_152 im_Mo_isGreat se_Mo_isGreat ini_Mo cd_Mo_isGreat) rfl rfl rfl (by decide +kernel) ⟨Nat.le_of_ble_eq_true rfl, Nat.le_of_ble_eq_true rfl⟩) hK hw b0 rfl rfl hl.1 rfl (Nat.le_of_ble_eq_true rfl) dMo_power_201 ⟨Nat.le_of_ble_eq_true rfl, Nat.le_of_ble_eq_true rfl⟩ (fun v hq => ?_)
                  rw [hxx] at hq
                  by_cases hg8 : A ^ i < 2 ^ 768
                  · subst hq
                    rw [if_pos hg8]
                    refine W.eq (g2 := F0 m 204 ls [.int (nI 0)]) rfl ?_
                    refine lv_if_ne (pc := 204) (tgt := 229) hx hb dMo_power_204 (by decide) (fun hc => absurd hc (fun h => h (by decide))) (fun _ => ?_)
                    refine lv_aload_n (pc := 207) hx hb dMo_power_207 rfl (lv_at hl 4 rfl) ?_
                    refine lv_iload_n (pc := 208) hx hb dMo_power_208 rfl (lv_at hl 5 rfl) ?_
                    refine lv_bipush (pc := 209) (v := (nI 19)) hx hb dMo_power_209 (by decide) ?_
                    refine lv_bipush (pc := 211) (v := (nI 21)) hx hb dMo_power_211 (by decide) ?_
                    refine fw_cV (pc := 213) (As := [.int (nI x9), .int (nI 19), .int (nI 21)]) (rest := []) ⟨hx, hb, hml, hown, hW⟩ (c_Mo_multiply (pa := x9) (pb := 19) (pt := 21) hS hXb (by omega) (by decide) (by decide) (by omega) (by decide) (by rw [hxx, ← q32]; exact hg8) (by rw [hxB, ← q32]; exact a97)) (cwV 3 hW (kw_V lm_Mo_155 im_Mo_multiply se_Mo_multiply ini_Mo cd_Mo_multiply) rfl rfl rfl (by decide +kernel) ⟨Nat.le_of_ble_eq_true rfl, Nat.le_of_ble_eq_true rfl⟩) hK hw b0 rfl rfl hl.1 rfl (Nat.le_of_ble_eq_true rfl) dMo_power_213 ⟨Nat.le_of_ble_eq_true rfl, Nat.le_of_ble_eq_true rfl⟩ (fun v w501 H locs hq hw => ?_)
                    obtain ⟨rfl, hS, hn9⟩ := hq
                    have hoF : ∀ q, q < b ∨ b + 9 ≤ q → w501 q = w q := fun q h9 => (hn9 q h9).trans (hoF q h9)
                    have hB9 : A ^ (i + 1) < nM ^ 64 := by rw [Nat.pow_succ]; exact Nat.lt_of_le_of_lt (Nat.mul_le_mul (Nat.le_sub_one_of_lt hg8) (Nat.le_sub_one_of_lt a97)) (by decide +kernel)
                    obtain ⟨X36, eX36⟩ : ∃ X_, X_ = va_up X1 (21) (X1 (x9) * X1 (19)) := ⟨_, rfl⟩
                    rw [← eX36] at hS
                    have hv9 : X1 (x9) * X1 (19) = A ^ (i + 1) := (by rw [hxx, hxB, Nat.pow_succ])
                    have hxx : X36 (x9) = A ^ i := by rw [eX36, up_o (by omega)]; exact hxx
                    have hxB : X36 (19) = A := by rw [eX36, up_o (by omega)]; exact hxB
                    have hxP : X36 (21) = A ^ (i + 1) := by rw [eX36]; exact up_s.trans hv9
                    have hXb : ∀ p, X36 p < nM ^ 64 := fun p => by (rw [eX36]; unfold va_up; split; (rw [hv9]; exact hB9); exact hXb p)
                    have hfr : ∀ p, p ≠ x9 → p < 18 ∨ 22 < p → X36 p = X p ∧ S1 p = S p := fun p h1 h2 => by rw [eX36, up_o (by omega)]; exact hfr p h1 h2
                    obtain ⟨S37, eS37⟩ : ∃ S_, S_ = va_up S1 (21) (nI 0) := ⟨_, rfl⟩
                    rw [← eS37] at hS
                    have hv9 : (nI 0 : Int32) = nI 0 := rfl
                    have hsP : S37 (21) = nI 0 := by rw [eS37]; exact up_s.trans hv9
                    have hfr : ∀ p, p ≠ x9 → p < 18 ∨ 22 < p → X36 p = X p ∧ S37 p = S p := fun p h1 h2 => by rw [eS37, up_o (by omega)]; exact hfr p h1 h2
                    have b0 : w501 b = some (.inr (10, [.int (nI (I 0)), .ref (b + 1), .ref (b + 2), .int (nI (I 3)), .ref (b + 3), .ref (b + 4), .int (nI (I 6)), .int (nI (I 7)), .ref (b + 5), .ref (b + 6), .int (nI (I 10)), .int (nI (I 11)), .int (nI (I 12)), .int (nI (I 13)), .ref (b + 7), .ref (b + 8), .int (nI (I 16)), .int (nI (I 17)), .int (nI (I 18)), .int (nI (I 19))])) := hS.1
                    have b1 : w501 (b + 1) = some (.inl (cL, 1536, .inr (.inl (fun i => lN (mC X36 i))))) := hS.2.1
                    have b2 : w501 (b + 2) = some (.inl (cI, 24, .inl (S37))) := hS.2.2.1
                    refine W.eq (g2 := F0 m 216 ls []) rfl ?_
                    refine lv_aload_n (pc := 216) hx hb dMo_power_216 rfl (lv_at hl 4 rfl) ?_
                    refine lv_bipush (pc := 217) (v := (nI 21)) hx hb dMo_power_217 (by decide) ?_
                    refine lv_iload_n (pc := 219) hx hb dMo_power_219 rfl (lv_at hl 5 rfl) ?_
                    refine fw_cV (pc := 220) (As := [.int (nI 21), .int (nI x9)]) (rest := []) ⟨hx, hb, hml, hown, hW⟩ (c_Mo_copy (pa := 21) (pc9 := x9) hS hXb (by omega) (by omega) (by omega)) (cwV 2 hW (kw_V lm_Mo_143 im_Mo_copy se_Mo_copy ini_Mo cd_Mo_copy) rfl rfl rfl (by decide +kernel) ⟨Nat.le_of_ble_eq_true rfl, Nat.le_of_ble_eq_true rfl⟩) hK hw b0 rfl rfl hl.1 rfl (Nat.le_of_ble_eq_true rfl) dMo_power_220 ⟨Nat.le_of_ble_eq_true rfl, Nat.le_of_ble_eq_true rfl⟩ (fun v w502 H locs hq hw => ?_)
                    obtain ⟨rfl, hS, hn9⟩ := hq
                    have hoF : ∀ q, q < b ∨ b + 9 ≤ q → w502 q = w q := fun q h9 => (hn9 q h9).trans (hoF q h9)
                    have hB9 : A ^ (i + 1) < nM ^ 64 := by rw [← hxP]; exact hXb _
                    obtain ⟨X38, eX38⟩ : ∃ X_, X_ = va_up X36 (x9) (X36 (21)) := ⟨_, rfl⟩
                    rw [← eX38] at hS
                    have hv9 : X36 (21) = A ^ (i + 1) := hxP
                    have hxB : X38 (19) = A := by rw [eX38, up_o (by omega)]; exact hxB
                    have hxP : X38 (21) = A ^ (i + 1) := by rw [eX38, up_o (by omega)]; exact hxP
                    have hxx : X38 (x9) = A ^ (i + 1) := by rw [eX38]; exact up_s.trans hv9
                    have hXb : ∀ p, X38 p < nM ^ 64 := fun p => by (rw [eX38]; unfold va_up; split; (rw [hv9]; exact hB9); exact hXb p)
                    have hfr : ∀ p, p ≠ x9 → p < 18 ∨ 22 < p → X38 p = X p ∧ S37 p = S p := fun p h1 h2 => by rw [eX38, up_o (by omega)]; exact hfr p h1 h2
                    obtain ⟨S39, eS39⟩ : ∃ S_, S_ = va_up S37 (x9) (S37 (21)) := ⟨_, rfl⟩
                    rw [← eS39] at hS
                    have hv9 : (S37 (21) : Int32) = nI 0 := hsP
                    have hsP : S39 (21) = nI 0 := by rw [eS39, up_o (by omega)]; exact hsP
                    have hsx : S39 (x9) = nI 0 := by rw [eS39]; exact up_s.trans hv9
                    have hfr : ∀ p, p ≠ x9 → p < 18 ∨ 22 < p → X38 p = X p ∧ S39 p = S p := fun p h1 h2 => by rw [eS39, up_o (by omega)]; exact hfr p h1 h2
                    have b0 : w502 b = some (.inr (10, [.int (nI (I 0)), .ref (b + 1), .ref (b + 2), .int (nI (I 3)), .ref (b + 3), .ref (b + 4), .int (nI (I 6)), .int (nI (I 7)), .ref (b + 5), .ref (b + 6), .int (nI (I 10)), .int (nI (I 11)), .int (nI (I 12)), .int (nI (I 13)), .ref (b + 7), .ref (b + 8), .int (nI (I 16)), .int (nI (I 17)), .int (nI (I 18)), .int (nI (I 19))])) := hS.1
                    have b1 : w502 (b + 1) = some (.inl (cL, 1536, .inr (.inl (fun i => lN (mC X38 i))))) := hS.2.1
                    have b2 : w502 (b + 2) = some (.inl (cI, 24, .inl (S39))) := hS.2.2.1
                    refine W.eq (g2 := F0 m 223 ls []) rfl ?_
                    refine lv_iinc (pc := 223) (lv' := [(6, .int (nI (i + 1))), (5, .int (nI Y)), (4, .int (nI 1)), (3, .int (nI 0)), (0, .ref b), (1, .int (nI x9)), (2, .int (nI (x9 + 1)))]) hx hb dMo_power_223 hl (k := 0) rfl ((nI_add i 1)) (by decide) rfl (fun ls hl => ?_)
                    refine lv_goto (pc := 226) (tgt := 192) hx hb dMo_power_226 (by decide) ?_
                    exact ih (i + 1) (by omega) hB9 _ H locs ls _ _ hw (lv_sub hl [0, 1, 2, 3, 4, 5, 6] rfl) hS hXb hxx hxB hfr hoF
                  · subst hq
                    rw [if_neg hg8]
                    refine W.eq (g2 := F0 m 204 ls [.int (nI 1)]) rfl ?_
                    refine lv_if_ne (pc := 204) (tgt := 229) hx hb dMo_power_204 (by decide) (fun _ => ?_) (fun hc => absurd hc (by decide))
                    refine lv_aload_n (pc := 229) hx hb dMo_power_229 rfl (lv_at hl 4 rfl) ?_
                    refine fw_get (pc := 230) (ci := 10) (v := .ref (b + 2)) (C := RMo) (T := TMo) (N := 20) hx hb hW in_Mo hown hK.1 hw b0 rfl 2 (by decide) (hW _ lf_Mo_13) (fun _ h => h) rfl dMo_power_230 ?_
                    refine lv_iload_n (pc := 233) hx hb dMo_power_233 rfl (lv_at hl 5 rfl) ?_
                    refine lv_iload (pc := 234) hx hb dMo_power_234 (lv_at hl 2 rfl) ?_
                    refine fw_iastN (pc := 236) (f2 := va_up S1 (x9) (nI 1)) hx hb hK.1 hw 0 b2 rfl (x9) (by omega) (by decide) (rfl) dMo_power_236 (fun H locs hw => ?_)
                    obtain ⟨w501, e501⟩ : ∃ w_, w_ = fw_up w1 (b + 2) (.inl (cI, 24, .inl (va_up S1 (x9) (nI 1)))) := ⟨_, rfl⟩
                    have hw : fw_H D kCl (fw_A w (sz)) s.heap w501 (sz) H locs := by rw [e501]; exact hw
                    have b0_ : w501 (b) = some (.inr (10, [.int (nI (I 0)), .ref (b + 1), .ref (b + 2), .int (nI (I 3)), .ref (b + 3), .ref (b + 4), .int (nI (I 6)), .int (nI (I 7)), .ref (b + 5), .ref (b + 6), .int (nI (I 10)), .int (nI (I 11)), .int (nI (I 12)), .int (nI (I 13)), .ref (b + 7), .ref (b + 8), .int (nI (I 16)), .int (nI (I 17)), .int (nI (I 18)), .int (nI (I 19))])) := by rw [e501, fw_un (by omega)]; exact b0
                    have b1_ : w501 (b + 1) = some (.inl (cL, 1536, .inr (.inl (fun i => lN (mC X1 i))))) := by rw [e501, fw_un (by omega)]; exact b1
                    have b2_ : w501 (b + 2) = some (.inl (cI, 24, .inl (va_up S1 (x9) (nI 1)))) := by rw [e501]; exact fw_us _ _ _
                    have b0 := b0_
                    have b1 := b1_
                    have b2 := b2_
                    have hS : moS cI cL w501 b I K (va_up S1 (x9) (nI 1)) (mC X1) := moS.cs hS b1 b2 (fun q h1 h2 => by rw [e501, fw_un h2])
                    have hoF : ∀ q, q < b ∨ b + 9 ≤ q → w501 q = w q := fun q h9 => by rw [e501, fw_un (by omega)]; exact hoF q h9
                    obtain ⟨S40, eS40⟩ : ∃ S_, S_ = va_up S1 (x9) (nI 1) := ⟨_, rfl⟩
                    rw [← eS40] at hS
                    have hv9 : (nI 1 : Int32) = nI 1 := rfl
                    have hsx : S40 (x9) = nI 1 := by rw [eS40]; exact up_s.trans hv9
                    have hfr : ∀ p, p ≠ x9 → p < 18 ∨ 22 < p → X1 p = X p ∧ S40 p = S p := fun p h1 h2 => by rw [eS40, up_o (by omega)]; exact hfr p h1 h2
                    have b0 : w501 b = some (.inr (10, [.int (nI (I 0)), .ref (b + 1), .ref (b + 2), .int (nI (I 3)), .ref (b + 3), .ref (b + 4), .int (nI (I 6)), .int (nI (I 7)), .ref (b + 5), .ref (b + 6), .int (nI (I 10)), .int (nI (I 11)), .int (nI (I 12)), .int (nI (I 13)), .ref (b + 7), .ref (b + 8), .int (nI (I 16)), .int (nI (I 17)), .int (nI (I 18)), .int (nI (I 19))])) := hS.1
                    have b1 : w501 (b + 1) = some (.inl (cL, 1536, .inr (.inl (fun i => lN (mC X1 i))))) := hS.2.1
                    have b2 : w501 (b + 2) = some (.inl (cI, 24, .inl (S40))) := hS.2.2.1
                    refine lv_aload_n (pc := 237) hx hb dMo_power_237 rfl (lv_at hl 4 rfl) ?_
                    refine lv_iload_n (pc := 238) hx hb dMo_power_238 rfl (lv_at hl 5 rfl) ?_
                    refine fw_cVR (pc := 239) (As := [.int (nI x9)]) (rest := []) ⟨hx, hb, hml, hown, hW⟩ (c_Mo_isGreat (p0 := x9) hS hXb (by omega)) (cwV 1 hW (kw_V lm_Mo_152 im_Mo_isGreat se_Mo_isGreat ini_Mo cd_Mo_isGreat) rfl rfl rfl (by decide +kernel) ⟨Nat.le_of_ble_eq_true rfl, Nat.le_of_ble_eq_true rfl⟩) hK hw b0 rfl rfl hl.1 rfl (Nat.le_of_ble_eq_true rfl) dMo_power_239 ⟨Nat.le_of_ble_eq_true rfl, Nat.le_of_ble_eq_true rfl⟩ (fun v hq => ?_)
                    rw [hxx, if_neg hg8] at hq
                    subst hq
                    refine W.eq (g2 := F0 m 242 ls [.int (nI 1)]) rfl ?_
                    refine lv_if_eq (pc := 242) (tgt := 250) hx hb dMo_power_242 (by decide) (fun hc => absurd hc (show ¬ nI 1 = 0 by decide)) (fun _ => ?_)
                    refine lv_bipush (pc := 245) (v := (nI 6)) hx hb dMo_power_245 (by decide) ?_
                    refine lv_goto (pc := 247) (tgt := 251) hx hb dMo_power_247 (by decide) ?_
                    have hsp : sPow a9 b9 = (6, a9) := hsix (pw_big (by decide +kernel) (Nat.le_of_not_lt hg8) (show i ≤ Y by omega))
                    exact fw_iret (pc := 251) hx hb hr hlocks hw dMo_power_251 ⟨by rw [hsp], ⟨_, _, hS, hXb, fun h9 => absurd h9 (by rw [hsp]; show ¬ (6 : Nat) = 0; decide), hfr⟩, hoF⟩
              refine fw_cV (pc := 179) (As := [.int (nI x9), .int (nI 19)]) (rest := []) ⟨hx, hb, hml, hown, hW⟩ (c_Mo_copy (pa := x9) (pc9 := 19) hS hXb (by omega) (by omega) (by omega)) (cwV 2 hW (kw_V lm_Mo_143 im_Mo_copy se_Mo_copy ini_Mo cd_Mo_copy) rfl rfl rfl (by decide +kernel) ⟨Nat.le_of_ble_eq_true rfl, Nat.le_of_ble_eq_true rfl⟩) hK hw b0 rfl rfl hl.1 rfl (Nat.le_of_ble_eq_true rfl) dMo_power_179 ⟨Nat.le_of_ble_eq_true rfl, Nat.le_of_ble_eq_true rfl⟩ (fun v w601 H locs hq hw => ?_)
              obtain ⟨rfl, hS, hn9⟩ := hq
              have hoF : ∀ q, q < b ∨ b + 9 ≤ q → w601 q = w q := fun q h9 => (hn9 q h9).trans (hoF q h9)
              have hB9 : A < nM ^ 64 := by rw [← hxx]; exact hXb _
              obtain ⟨X41, eX41⟩ : ∃ X_, X_ = va_up X (19) (X (x9)) := ⟨_, rfl⟩
              rw [← eX41] at hS
              have hv9 : X (x9) = A := hxx
              have hxx : X41 (x9) = A := by rw [eX41, up_o (by omega)]; exact hxx
              have hxy : X41 (x9 + 1) = Y := by rw [eX41, up_o (by omega)]; exact hxy
              have hxO : X41 (23) = 1 := by rw [eX41, up_o (by omega)]; exact hxO
              have hxB : X41 (19) = A := by rw [eX41]; exact up_s.trans hv9
              have hXb : ∀ p, X41 p < nM ^ 64 := fun p => by (rw [eX41]; unfold va_up; split; (rw [hv9]; exact hB9); exact hXb p)
              have hfr : ∀ p, p ≠ x9 → p < 18 ∨ 22 < p → X41 p = X p ∧ S p = S p := fun p h1 h2 => by rw [eX41, up_o (by omega)]; exact hfr p h1 h2
              obtain ⟨S42, eS42⟩ : ∃ S_, S_ = va_up S (19) (S (x9)) := ⟨_, rfl⟩
              rw [← eS42] at hS
              have hv9 : (S (x9) : Int32) = sg32 a9 := hsx
              have hsx : S42 (x9) = sg32 a9 := by rw [eS42, up_o (by omega)]; exact hsx
              have hsy : S42 (x9 + 1) = sg32 b9 := by rw [eS42, up_o (by omega)]; exact hsy
              have hsO : S42 (23) = nI 1 := by rw [eS42, up_o (by omega)]; exact hsO
              have hsB : S42 (19) = sg32 a9 := by rw [eS42]; exact up_s.trans hv9
              have hfr : ∀ p, p ≠ x9 → p < 18 ∨ 22 < p → X41 p = X p ∧ S42 p = S p := fun p h1 h2 => by rw [eS42, up_o (by omega)]; exact hfr p h1 h2
              have b0 : w601 b = some (.inr (10, [.int (nI (I 0)), .ref (b + 1), .ref (b + 2), .int (nI (I 3)), .ref (b + 3), .ref (b + 4), .int (nI (I 6)), .int (nI (I 7)), .ref (b + 5), .ref (b + 6), .int (nI (I 10)), .int (nI (I 11)), .int (nI (I 12)), .int (nI (I 13)), .ref (b + 7), .ref (b + 8), .int (nI (I 16)), .int (nI (I 17)), .int (nI (I 18)), .int (nI (I 19))])) := hS.1
              have b1 : w601 (b + 1) = some (.inl (cL, 1536, .inr (.inl (fun i => lN (mC X41 i))))) := hS.2.1
              have b2 : w601 (b + 2) = some (.inl (cI, 24, .inl (S42))) := hS.2.2.1
              refine W.eq (g2 := F0 m 182 ls []) rfl ?_
              refine lv_aload_n (pc := 182) hx hb dMo_power_182 rfl (lv_at hl 3 rfl) ?_
              refine lv_bipush (pc := 183) (v := (nI 23)) hx hb dMo_power_183 (by decide) ?_
              refine lv_iload_n (pc := 185) hx hb dMo_power_185 rfl (lv_at hl 4 rfl) ?_
              refine fw_cV (pc := 186) (As := [.int (nI 23), .int (nI x9)]) (rest := []) ⟨hx, hb, hml, hown, hW⟩ (c_Mo_copy (pa := 23) (pc9 := x9) hS hXb (by omega) (by omega) (by omega)) (cwV 2 hW (kw_V lm_Mo_143 im_Mo_copy se_Mo_copy ini_Mo cd_Mo_copy) rfl rfl rfl (by decide +kernel) ⟨Nat.le_of_ble_eq_true rfl, Nat.le_of_ble_eq_true rfl⟩) hK hw b0 rfl rfl hl.1 rfl (Nat.le_of_ble_eq_true rfl) dMo_power_186 ⟨Nat.le_of_ble_eq_true rfl, Nat.le_of_ble_eq_true rfl⟩ (fun v w602 H locs hq hw => ?_)
              obtain ⟨rfl, hS, hn9⟩ := hq
              have hoF : ∀ q, q < b ∨ b + 9 ≤ q → w602 q = w q := fun q h9 => (hn9 q h9).trans (hoF q h9)
              have hB9 : 1 < nM ^ 64 := by rw [← hxO]; exact hXb _
              obtain ⟨X43, eX43⟩ : ∃ X_, X_ = va_up X41 (x9) (X41 (23)) := ⟨_, rfl⟩
              rw [← eX43] at hS
              have hv9 : X41 (23) = 1 := hxO
              have hxy : X43 (x9 + 1) = Y := by rw [eX43, up_o (by omega)]; exact hxy
              have hxO : X43 (23) = 1 := by rw [eX43, up_o (by omega)]; exact hxO
              have hxB : X43 (19) = A := by rw [eX43, up_o (by omega)]; exact hxB
              have hxx : X43 (x9) = 1 := by rw [eX43]; exact up_s.trans hv9
              have hXb : ∀ p, X43 p < nM ^ 64 := fun p => by (rw [eX43]; unfold va_up; split; (rw [hv9]; exact hB9); exact hXb p)
              have hfr : ∀ p, p ≠ x9 → p < 18 ∨ 22 < p → X43 p = X p ∧ S42 p = S p := fun p h1 h2 => by rw [eX43, up_o (by omega)]; exact hfr p h1 h2
              obtain ⟨S44, eS44⟩ : ∃ S_, S_ = va_up S42 (x9) (S42 (23)) := ⟨_, rfl⟩
              rw [← eS44] at hS
              have hv9 : (S42 (23) : Int32) = nI 1 := hsO
              have hsy : S44 (x9 + 1) = sg32 b9 := by rw [eS44, up_o (by omega)]; exact hsy
              have hsO : S44 (23) = nI 1 := by rw [eS44, up_o (by omega)]; exact hsO
              have hsB : S44 (19) = sg32 a9 := by rw [eS44, up_o (by omega)]; exact hsB
              have hsx : S44 (x9) = nI 1 := by rw [eS44]; exact up_s.trans hv9
              have hfr : ∀ p, p ≠ x9 → p < 18 ∨ 22 < p → X43 p = X p ∧ S44 p = S p := fun p h1 h2 => by rw [eS44, up_o (by omega)]; exact hfr p h1 h2
              have b0 : w602 b = some (.inr (10, [.int (nI (I 0)), .ref (b + 1), .ref (b + 2), .int (nI (I 3)), .ref (b + 3), .ref (b + 4), .int (nI (I 6)), .int (nI (I 7)), .ref (b + 5), .ref (b + 6), .int (nI (I 10)), .int (nI (I 11)), .int (nI (I 12)), .int (nI (I 13)), .ref (b + 7), .ref (b + 8), .int (nI (I 16)), .int (nI (I 17)), .int (nI (I 18)), .int (nI (I 19))])) := hS.1
              have b1 : w602 (b + 1) = some (.inl (cL, 1536, .inr (.inl (fun i => lN (mC X43 i))))) := hS.2.1
              have b2 : w602 (b + 2) = some (.inl (cI, 24, .inl (S44))) := hS.2.2.1
              refine W.eq (g2 := F0 m 189 ls []) rfl ?_
              refine lv_iconst (pc := 189) (v := (nI 0)) hx hb dMo_power_189 (by decide) ?_
              refine lv_istore (pc := 190) (lv' := [(6, .int (nI 0)), (5, .int (nI Y)), (4, .int (nI 1)), (3, .int (nI 0)), (0, .ref b), (1, .int (nI x9)), (2, .int (nI (x9 + 1)))]) hx hb dMo_power_190 hl (by decide) rfl (fun ls hl => ?_)
              exact loop Y 0 (by omega) (by rw [Nat.pow_zero]; exact Nat.lt_trans (by decide +kernel) p64) _ H locs ls _ _ hw (lv_sub hl [0, 1, 2, 3, 4, 5, 6] rfl) hS hXb (by rw [hxx, Nat.pow_zero]) hxB hfr hoF
            · refine lv_if_le (pc := 141) (tgt := 147) hx hb dMo_power_141 (by decide) (fun hc => absurd hc (fun h9 => absurd ((pk_lLE (by omega) (by decide)).mp ((lg_cmp_le _ _).mp h9)) (by omega))) (fun _ => ?_)
              refine lv_bipush (pc := 144) (v := (nI 6)) hx hb dMo_power_144 (by decide) ?_
              have hsp : sPow a9 b9 = (6, a9) := hsix (hbig (by omega))
              exact fw_iret (pc := 146) hx hb hr hlocks hw dMo_power_146 ⟨by rw [hsp], ⟨_, _, hS, hXb, fun h9 => absurd h9 (by rw [hsp]; show ¬ (6 : Nat) = 0; decide), hfr⟩, hoF⟩
    · rw [show (nI (Y % 2) : Int32) = nI 1 from (by rw [hp2])]
      refine lv_iconst (pc := 17) (v := (nI 1)) hx hb dMo_power_17 (by decide) ?_
      refine lv_icmp_ne (pc := 18) (tgt := 25) hx hb dMo_power_18 (by decide) (fun hc => absurd hc (fun h => h rfl)) (fun _ => ?_)
      refine lv_iconst (pc := 21) (v := (nI 1)) hx hb dMo_power_21 (by decide) ?_
      refine lv_goto (pc := 22) (tgt := 26) hx hb dMo_power_22 (by decide) ?_
      refine lv_istore_n (pc := 26) (lv' := [(3, .int (nI 1)), (0, .ref b), (1, .int (nI x9)), (2, .int (nI (x9 + 1)))]) hx hb dMo_power_26 rfl hl (by decide) rfl (fun ls hl => ?_)
      refine lv_aload_n (pc := 27) hx hb dMo_power_27 rfl (lv_at hl 1 rfl) ?_
      refine fw_get (pc := 28) (ci := 10) (v := .ref (b + 2)) (C := RMo) (T := TMo) (N := 20) hx hb hW in_Mo hown hK.1 hw b0 rfl 2 (by decide) (hW _ lf_Mo_13) (fun _ h => h) rfl dMo_power_28 ?_
      refine lv_iload_n (pc := 31) hx hb dMo_power_31 rfl (lv_at hl 2 rfl) ?_
      refine fw_ialdN (pc := 32) (x := S (x9)) hx hb hK.1 hw 0 b2 rfl (x9) (by omega) (by decide) rfl dMo_power_32 ?_
      rw [show (S (x9) : Int32) = sg32 a9 from hsx]
      rcases Int.lt_trichotomy a9 0 with ha90 | ha90 | ha90
      · rw [show (sg32 a9 : Int32) = (-1) from (sg32_n ha90)]
        refine lv_if_eq (pc := 33) (tgt := 46) hx hb dMo_power_33 (by decide) (fun hc => absurd hc (by decide)) (fun _ => ?_)
        refine lv_aload_n (pc := 36) hx hb dMo_power_36 rfl (lv_at hl 1 rfl) ?_
        refine lv_iload_n (pc := 37) hx hb dMo_power_37 rfl (lv_at hl 2 rfl) ?_
        refine lv_bipush (pc := 38) (v := (nI 23)) hx hb dMo_power_38 (by decide) ?_
        refine fw_cVR (pc := 40) (As := [.int (nI x9), .int (nI 23)]) (rest := []) ⟨hx, hb, hml, hown, hW⟩ (c_Mo_order (pa := x9) (pb := 23) hS hXb (by omega) (by decide)) (cwV 2 hW (kw_V lm_Mo_149 im_Mo_order se_Mo_order ini_Mo cd_Mo_order) rfl rfl rfl (by decide +kernel) ⟨Nat.le_of_ble_eq_true rfl, Nat.le_of_ble_eq_true rfl⟩) hK hw b0 rfl rfl hl.1 rfl (Nat.le_of_ble_eq_true rfl) dMo_power_40 ⟨Nat.le_of_ble_eq_true rfl, Nat.le_of_ble_eq_true rfl⟩ (fun v hq => ?_)
        rw [hxx, hxO] at hq
        subst hq
        refine W.eq (g2 := F0 m 43 ls [.int (ordI A 1)]) rfl ?_
        rcases (show A = 1 ∨ 1 < A by omega) with hA1 | hA1
        · rw [show (ordI A 1 : Int32) = nI 0 from (ordI_eq hA1)]
          refine lv_if_ne (pc := 43) (tgt := 118) hx hb dMo_power_43 (by decide) (fun hc => absurd hc (fun h => h (by decide))) (fun _ => ?_)
          refine lv_aload_n (pc := 46) hx hb dMo_power_46 rfl (lv_at hl 1 rfl) ?_
          refine fw_get (pc := 47) (ci := 10) (v := .ref (b + 2)) (C := RMo) (T := TMo) (N := 20) hx hb hW in_Mo hown hK.1 hw b0 rfl 2 (by decide) (hW _ lf_Mo_13) (fun _ h => h) rfl dMo_power_47 ?_
          refine lv_iload_n (pc := 50) hx hb dMo_power_50 rfl (lv_at hl 3 rfl) ?_
          refine fw_ialdN (pc := 51) (x := S (x9 + 1)) hx hb hK.1 hw 0 b2 rfl (x9 + 1) (by omega) (by decide) rfl dMo_power_51 ?_
          rw [show (S (x9 + 1) : Int32) = sg32 b9 from hsy]
          rcases (show b9 = 0 ∨ 0 < b9 by omega) with hb0 | hb0
          · rw [show (sg32 b9 : Int32) = nI 0 from (sg32_z hb0)]
            refine lv_if_ne (pc := 52) (tgt := 59) hx hb dMo_power_52 (by decide) (fun hc => absurd hc (fun h => h (by decide))) (fun _ => ?_)
            have hY0 : Y = 0 := by omega
            refine lv_iconst (pc := 55) (v := (nI 1)) hx hb dMo_power_55 (by decide) ?_
            refine lv_goto (pc := 56) (tgt := 82) hx hb dMo_power_56 (by decide) ?_
            refine lv_istore (pc := 82) (lv' := [(4, .int (nI 1)), (3, .int (nI 1)), (0, .ref b), (1, .int (nI x9)), (2, .int (nI (x9 + 1)))]) hx hb dMo_power_82 hl (by decide) rfl (fun ls hl => ?_)
            refine lv_aload_n (pc := 84) hx hb dMo_power_84 rfl (lv_at hl 2 rfl) ?_
            refine lv_iload_n (pc := 85) hx hb dMo_power_85 rfl (lv_at hl 3 rfl) ?_
            refine fw_cV (pc := 86) (As := [.int (nI x9)]) (rest := []) ⟨hx, hb, hml, hown, hW⟩ (c_Mo_clear (p0 := x9) hS (by omega)) (cwV 1 hW (kw_V lm_Mo_125 im_Mo_clear se_Mo_clear ini_Mo cd_Mo_clear) rfl rfl rfl (by decide +kernel) ⟨Nat.le_of_ble_eq_true rfl, Nat.le_of_ble_eq_true rfl⟩) hK hw b0 rfl rfl hl.1 rfl (Nat.le_of_ble_eq_true rfl) dMo_power_86 ⟨Nat.le_of_ble_eq_true rfl, Nat.le_of_ble_eq_true rfl⟩ (fun v w609 H locs hq hw => ?_)
            obtain ⟨rfl, hS, hn9⟩ := hq
            rw [clr_all] at hS
            have hoF : ∀ q, q < b ∨ b + 9 ≤ q → w609 q = w q := fun q h9 => (hn9 q (by omega) (by omega)).trans (hoF q h9)
            obtain ⟨X45, eX45⟩ : ∃ X_, X_ = va_up X (x9) (0) := ⟨_, rfl⟩
            rw [← eX45] at hS
            have hv9 : 0 = 0 := rfl
            have hxy : X45 (x9 + 1) = Y := by rw [eX45, up_o (by omega)]; exact hxy
            have hxO : X45 (23) = 1 := by rw [eX45, up_o (by omega)]; exact hxO
            have hxx : X45 (x9) = 0 := by rw [eX45]; exact up_s.trans hv9
            have hXb : ∀ p, X45 p < nM ^ 64 := fun p => by (rw [eX45]; unfold va_up; split; (rw [hv9]; exact Nat.pow_pos (by decide)); exact hXb p)
            have hfr : ∀ p, p ≠ x9 → p < 18 ∨ 22 < p → X45 p = X p ∧ S p = S p := fun p h1 h2 => by rw [eX45, up_o (by omega)]; exact hfr p h1 h2
            obtain ⟨S46, eS46⟩ : ∃ S_, S_ = va_up S (x9) (nI 0) := ⟨_, rfl⟩
            rw [← eS46] at hS
            have hv9 : (nI 0 : Int32) = nI 0 := rfl
            have hsy : S46 (x9 + 1) = sg32 b9 := by rw [eS46, up_o (by omega)]; exact hsy
            have hsO : S46 (23) = nI 1 := by rw [eS46, up_o (by omega)]; exact hsO
            have hsx : S46 (x9) = nI 0 := by rw [eS46]; exact up_s.trans hv9
            have hfr : ∀ p, p ≠ x9 → p < 18 ∨ 22 < p → X45 p = X p ∧ S46 p = S p := fun p h1 h2 => by rw [eS46, up_o (by omega)]; exact hfr p h1 h2
            have b0 : w609 b = some (.inr (10, [.int (nI (I 0)), .ref (b + 1), .ref (b + 2), .int (nI (I 3)), .ref (b + 3), .ref (b + 4), .int (nI (I 6)), .int (nI (I 7)), .ref (b + 5), .ref (b + 6), .int (nI (I 10)), .int (nI (I 11)), .int (nI (I 12)), .int (nI (I 13)), .ref (b + 7), .ref (b + 8), .int (nI (I 16)), .int (nI (I 17)), .int (nI (I 18)), .int (nI (I 19))])) := hS.1
            have b1 : w609 (b + 1) = some (.inl (cL, 1536, .inr (.inl (fun i => lN (mC X45 i))))) := hS.2.1
            have b2 : w609 (b + 2) = some (.inl (cI, 24, .inl (S46))) := hS.2.2.1
            refine W.eq (g2 := F0 m 89 ls []) rfl ?_
            refine lv_aload_n (pc := 89) hx hb dMo_power_89 rfl (lv_at hl 2 rfl) ?_
            refine fw_get (pc := 90) (ci := 10) (v := .ref (b + 1)) (C := RMo) (T := TMo) (N := 20) hx hb hW in_Mo hown hK.1 hw b0 rfl 1 (by decide) (hW _ lf_Mo_7) (fun _ h => h) rfl dMo_power_90 ?_
            refine lv_bipush (pc := 93) (v := (nI 64)) hx hb dMo_power_93 (by decide) ?_
            refine lv_iload_n (pc := 95) hx hb dMo_power_95 rfl (lv_at hl 3 rfl) ?_
            refine lv_imul (pc := 96) hx hb dMo_power_96 ?_
            rw [show (((nI 64) * nI x9) : Int32) = nI (64 * x9) from (nI_mul 64 x9)]
            refine lv_iload (pc := 97) hx hb dMo_power_97 (lv_at hl 0 rfl) ?_
            refine lv_if_ne (pc := 99) (tgt := 106) hx hb dMo_power_99 (by decide) (fun _ => ?_) (fun hc => absurd hc (by decide))
            refine lv_lconst (pc := 106) (v := lN 1) hx hb dMo_power_106 (by decide) ?_
            refine fw_lastN (pc := 107) (f2 := fun i => lN (mC (va_up X45 (x9) (1)) i)) hx hb hK.1 hw 1 b1 rfl (64 * x9) (by omega) (by decide) (by rw [lN_up, mC_one hxx (by decide)]) dMo_power_107 (fun H locs hw => ?_)
            obtain ⟨w610, e610⟩ : ∃ w_, w_ = fw_up w609 (b + 1) (.inl (cL, 1536, .inr (.inl (fun i => lN (mC (va_up X45 (x9) (1)) i))))) := ⟨_, rfl⟩
            have hw : fw_H D kCl (fw_A w (sz)) s.heap w610 (sz) H locs := by rw [e610]; exact hw
            have b0_ : w610 (b) = some (.inr (10, [.int (nI (I 0)), .ref (b + 1), .ref (b + 2), .int (nI (I 3)), .ref (b + 3), .ref (b + 4), .int (nI (I 6)), .int (nI (I 7)), .ref (b + 5), .ref (b + 6), .int (nI (I 10)), .int (nI (I 11)), .int (nI (I 12)), .int (nI (I 13)), .ref (b + 7), .ref (b + 8), .int (nI (I 16)), .int (nI (I 17)), .int (nI (I 18)), .int (nI (I 19))])) := by rw [e610, fw_un (by omega)]; exact b0
            have b2_ : w610 (b + 2) = some (.inl (cI, 24, .inl (S46))) := by rw [e610, fw_un (by omega)]; exact b2
            have b1_ : w610 (b + 1) = some (.inl (cL, 1536, .inr (.inl (fun i => lN (mC (va_up X45 (x9) (1)) i))))) := by rw [e610]; exact fw_us _ _ _
            have b0 := b0_
            have b1 := b1_
            have b2 := b2_
            have hS : moS cI cL w610 b I K S46 (mC (va_up X45 (x9) (1))) := moS.cs hS b1 b2 (fun q h1 h2 => by rw [e610, fw_un h1])
            have hoF : ∀ q, q < b ∨ b + 9 ≤ q → w610 q = w q := fun q h9 => by rw [e610, fw_un (by omega)]; exact hoF q h9
            obtain ⟨X47, eX47⟩ : ∃ X_, X_ = va_up X45 (x9) (1) := ⟨_, rfl⟩
            rw [← eX47] at hS
            have hv9 : 1 = 1 := rfl
            have hxy : X47 (x9 + 1) = Y := by rw [eX47, up_o (by omega)]; exact hxy
            have hxO : X47 (23) = 1 := by rw [eX47, up_o (by omega)]; exact hxO
            have hxx : X47 (x9) = 1 := by rw [eX47]; exact up_s.trans hv9
            have hXb : ∀ p, X47 p < nM ^ 64 := fun p => by (rw [eX47]; unfold va_up; split; (rw [hv9]; exact Nat.lt_trans (by decide +kernel) p64); exact hXb p)
            have hfr : ∀ p, p ≠ x9 → p < 18 ∨ 22 < p → X47 p = X p ∧ S46 p = S p := fun p h1 h2 => by rw [eX47, up_o (by omega)]; exact hfr p h1 h2
            have b0 : w610 b = some (.inr (10, [.int (nI (I 0)), .ref (b + 1), .ref (b + 2), .int (nI (I 3)), .ref (b + 3), .ref (b + 4), .int (nI (I 6)), .int (nI (I 7)), .ref (b + 5), .ref (b + 6), .int (nI (I 10)), .int (nI (I 11)), .int (nI (I 12)), .int (nI (I 13)), .ref (b + 7), .ref (b + 8), .int (nI (I 16)), .int (nI (I 17)), .int (nI (I 18)), .int (nI (I 19))])) := hS.1
            have b1 : w610 (b + 1) = some (.inl (cL, 1536, .inr (.inl (fun i => lN (mC X47 i))))) := hS.2.1
            have b2 : w610 (b + 2) = some (.inl (cI, 24, .inl (S46))) := hS.2.2.1
            refine lv_aload_n (pc := 108) hx hb dMo_power_108 rfl (lv_at hl 2 rfl) ?_
            refine fw_get (pc := 109) (ci := 10) (v := .ref (b + 2)) (C := RMo) (T := TMo) (N := 20) hx hb hW in_Mo hown hK.1 hw b0 rfl 2 (by decide) (hW _ lf_Mo_13) (fun _ h => h) rfl dMo_power_109 ?_
            refine lv_iload_n (pc := 112) hx hb dMo_power_112 rfl (lv_at hl 3 rfl) ?_
            refine lv_iload (pc := 113) hx hb dMo_power_113 (lv_at hl 0 rfl) ?_
            refine fw_iastN (pc := 115) (f2 := va_up S46 (x9) (nI 1)) hx hb hK.1 hw 0 b2 rfl (x9) (by omega) (by decide) (rfl) dMo_power_115 (fun H locs hw => ?_)
            obtain ⟨w611, e611⟩ : ∃ w_, w_ = fw_up w610 (b + 2) (.inl (cI, 24, .inl (va_up S46 (x9) (nI 1)))) := ⟨_, rfl⟩
            have hw : fw_H D kCl (fw_A w (sz)) s.heap w611 (sz) H locs := by rw [e611]; exact hw
            have b0_ : w611 (b) = some (.inr (10, [.int (nI (I 0)), .ref (b + 1), .ref (b + 2), .int (nI (I 3)), .ref (b + 3), .ref (b + 4), .int (nI (I 6)), .int (nI (I 7)), .ref (b + 5), .ref (b + 6), .int (nI (I 10)), .int (nI (I 11)), .int (nI (I 12)), .int (nI (I 13)), .ref (b + 7), .ref (b + 8), .int (nI (I 16)), .int (nI (I 17)), .int (nI (I 18)), .int (nI (I 19))])) := by rw [e611, fw_un (by omega)]; exact b0
            have b1_ : w611 (b + 1) = some (.inl (cL, 1536, .inr (.inl (fun i => lN (mC X47 i))))) := by rw [e611, fw_un (by omega)]; exact b1
            have b2_ : w611 (b + 2) = some (.inl (cI, 24, .inl (va_up S46 (x9) (nI 1)))) := by rw [e611]; exact fw_us _ _ _
            have b0 := b0_
            have b1 := b1_
            have b2 := b2_
            have hS : moS cI cL w611 b I K (va_up S46 (x9) (nI 1)) (mC X47) := moS.cs hS b1 b2 (fun q h1 h2 => by rw [e611, fw_un h2])
            have hoF : ∀ q, q < b ∨ b + 9 ≤ q → w611 q = w q := fun q h9 => by rw [e611, fw_un (by omega)]; exact hoF q h9
            obtain ⟨S48, eS48⟩ : ∃ S_, S_ = va_up S46 (x9) (nI 1) := ⟨_, rfl⟩
            rw [← eS48] at hS
            have hv9 : (nI 1 : Int32) = nI 1 := rfl
            have hsy : S48 (x9 + 1) = sg32 b9 := by rw [eS48, up_o (by omega)]; exact hsy
            have hsO : S48 (23) = nI 1 := by rw [eS48, up_o (by omega)]; exact hsO
            have hsx : S48 (x9) = nI 1 := by rw [eS48]; exact up_s.trans hv9
            have hfr : ∀ p, p ≠ x9 → p < 18 ∨ 22 < p → X47 p = X p ∧ S48 p = S p := fun p h1 h2 => by rw [eS48, up_o (by omega)]; exact hfr p h1 h2
            have b0 : w611 b = some (.inr (10, [.int (nI (I 0)), .ref (b + 1), .ref (b + 2), .int (nI (I 3)), .ref (b + 3), .ref (b + 4), .int (nI (I 6)), .int (nI (I 7)), .ref (b + 5), .ref (b + 6), .int (nI (I 10)), .int (nI (I 11)), .int (nI (I 12)), .int (nI (I 13)), .ref (b + 7), .ref (b + 8), .int (nI (I 16)), .int (nI (I 17)), .int (nI (I 18)), .int (nI (I 19))])) := hS.1
            have b1 : w611 (b + 1) = some (.inl (cL, 1536, .inr (.inl (fun i => lN (mC X47 i))))) := hS.2.1
            have b2 : w611 (b + 2) = some (.inl (cI, 24, .inl (S48))) := hS.2.2.1
            refine lv_iconst (pc := 116) (v := (nI 0)) hx hb dMo_power_116 (by decide) ?_
            have hsp : sPow a9 b9 = (0, 1) := by rw [hsp0, show a9 ^ Y = 1 from (by rw [hY0, Int.pow_zero])]; exact if_pos (by decide +kernel)
            exact fw_iret (pc := 117) hx hb hr hlocks hw dMo_power_117 ⟨by rw [hsp], ⟨_, _, hS, hXb, fun _ => by rw [hsp]; exact ⟨hxx, hsx.trans (by decide)⟩, hfr⟩, hoF⟩
          · rw [show (sg32 b9 : Int32) = nI 1 from (sg32_p hb0)]
            refine lv_if_ne (pc := 52) (tgt := 59) hx hb dMo_power_52 (by decide) (fun _ => ?_) (fun hc => absurd hc (by decide))
            refine lv_aload_n (pc := 59) hx hb dMo_power_59 rfl (lv_at hl 1 rfl) ?_
            refine fw_get (pc := 60) (ci := 10) (v := .ref (b + 2)) (C := RMo) (T := TMo) (N := 20) hx hb hW in_Mo hown hK.1 hw b0 rfl 2 (by decide) (hW _ lf_Mo_13) (fun _ h => h) rfl dMo_power_60 ?_
            refine lv_iload_n (pc := 63) hx hb dMo_power_63 rfl (lv_at hl 2 rfl) ?_
            refine fw_ialdN (pc := 64) (x := S (x9)) hx hb hK.1 hw 0 b2 rfl (x9) (by omega) (by decide) rfl dMo_power_64 ?_
            rw [show (S (x9) : Int32) = sg32 a9 from hsx]
            rw [show (sg32 a9 : Int32) = (-1) from (sg32_n ha90)]
            refine lv_if_ge (pc := 65) (tgt := 76) hx hb dMo_power_65 (by decide) (fun hc => absurd hc (by decide)) (fun _ => ?_)
            refine lv_iload_n (pc := 68) hx hb dMo_power_68 rfl (lv_at hl 0 rfl) ?_
            refine lv_if_ne (pc := 69) (tgt := 76) hx hb dMo_power_69 (by decide) (fun _ => ?_) (fun hc => absurd hc (by decide))
            refine lv_aload_n (pc := 76) hx hb dMo_power_76 rfl (lv_at hl 1 rfl) ?_
            refine fw_get (pc := 77) (ci := 10) (v := .ref (b + 2)) (C := RMo) (T := TMo) (N := 20) hx hb hW in_Mo hown hK.1 hw b0 rfl 2 (by decide) (hW _ lf_Mo_13) (fun _ h => h) rfl dMo_power_77 ?_
            refine lv_iload_n (pc := 80) hx hb dMo_power_80 rfl (lv_at hl 2 rfl) ?_
            refine fw_ialdN (pc := 81) (x := S (x9)) hx hb hK.1 hw 0 b2 rfl (x9) (by omega) (by decide) rfl dMo_power_81 ?_
            rw [show (S (x9) : Int32) = sg32 a9 from hsx]
            rw [show (sg32 a9 : Int32) = (-1) from (sg32_n ha90)]
            refine lv_istore (pc := 82) (lv' := [(4, .int (-1)), (3, .int (nI 1)), (0, .ref b), (1, .int (nI x9)), (2, .int (nI (x9 + 1)))]) hx hb dMo_power_82 hl (by decide) rfl (fun ls hl => ?_)
            refine lv_aload_n (pc := 84) hx hb dMo_power_84 rfl (lv_at hl 2 rfl) ?_
            refine lv_iload_n (pc := 85) hx hb dMo_power_85 rfl (lv_at hl 3 rfl) ?_
            refine fw_cV (pc := 86) (As := [.int (nI x9)]) (rest := []) ⟨hx, hb, hml, hown, hW⟩ (c_Mo_clear (p0 := x9) hS (by omega)) (cwV 1 hW (kw_V lm_Mo_125 im_Mo_clear se_Mo_clear ini_Mo cd_Mo_clear) rfl rfl rfl (by decide +kernel) ⟨Nat.le_of_ble_eq_true rfl, Nat.le_of_ble_eq_true rfl⟩) hK hw b0 rfl rfl hl.1 rfl (Nat.le_of_ble_eq_true rfl) dMo_power_86 ⟨Nat.le_of_ble_eq_true rfl, Nat.le_of_ble_eq_true rfl⟩ (fun v w609 H locs hq hw => ?_)
            obtain ⟨rfl, hS, hn9⟩ := hq
            rw [clr_all] at hS
            have hoF : ∀ q, q < b ∨ b + 9 ≤ q → w609 q = w q := fun q h9 => (hn9 q (by omega) (by omega)).trans (hoF q h9)
            obtain ⟨X49, eX49⟩ : ∃ X_, X_ = va_up X (x9) (0) := ⟨_, rfl⟩
            rw [← eX49] at hS
            have hv9 : 0 = 0 := rfl
            have hxy : X49 (x9 + 1) = Y := by rw [eX49, up_o (by omega)]; exact hxy
            have hxO : X49 (23) = 1 := by rw [eX49, up_o (by omega)]; exact hxO
            have hxx : X49 (x9) = 0 := by rw [eX49]; exact up_s.trans hv9
            have hXb : ∀ p, X49 p < nM ^ 64 := fun p => by (rw [eX49]; unfold va_up; split; (rw [hv9]; exact Nat.pow_pos (by decide)); exact hXb p)
            have hfr : ∀ p, p ≠ x9 → p < 18 ∨ 22 < p → X49 p = X p ∧ S p = S p := fun p h1 h2 => by rw [eX49, up_o (by omega)]; exact hfr p h1 h2
            obtain ⟨S50, eS50⟩ : ∃ S_, S_ = va_up S (x9) (nI 0) := ⟨_, rfl⟩
            rw [← eS50] at hS
            have hv9 : (nI 0 : Int32) = nI 0 := rfl
            have hsy : S50 (x9 + 1) = sg32 b9 := by rw [eS50, up_o (by omega)]; exact hsy
            have hsO : S50 (23) = nI 1 := by rw [eS50, up_o (by omega)]; exact hsO
            have hsx : S50 (x9) = nI 0 := by rw [eS50]; exact up_s.trans hv9
            have hfr : ∀ p, p ≠ x9 → p < 18 ∨ 22 < p → X49 p = X p ∧ S50 p = S p := fun p h1 h2 => by rw [eS50, up_o (by omega)]; exact hfr p h1 h2
            have b0 : w609 b = some (.inr (10, [.int (nI (I 0)), .ref (b + 1), .ref (b + 2), .int (nI (I 3)), .ref (b + 3), .ref (b + 4), .int (nI (I 6)), .int (nI (I 7)), .ref (b + 5), .ref (b + 6), .int (nI (I 10)), .int (nI (I 11)), .int (nI (I 12)), .int (nI (I 13)), .ref (b + 7), .ref (b + 8), .int (nI (I 16)), .int (nI (I 17)), .int (nI (I 18)), .int (nI (I 19))])) := hS.1
            have b1 : w609 (b + 1) = some (.inl (cL, 1536, .inr (.inl (fun i => lN (mC X49 i))))) := hS.2.1
            have b2 : w609 (b + 2) = some (.inl (cI, 24, .inl (S50))) := hS.2.2.1
            refine W.eq (g2 := F0 m 89 ls []) rfl ?_
            refine lv_aload_n (pc := 89) hx hb dMo_power_89 rfl (lv_at hl 2 rfl) ?_
            refine fw_get (pc := 90) (ci := 10) (v := .ref (b + 1)) (C := RMo) (T := TMo) (N := 20) hx hb hW in_Mo hown hK.1 hw b0 rfl 1 (by decide) (hW _ lf_Mo_7) (fun _ h => h) rfl dMo_power_90 ?_
            refine lv_bipush (pc := 93) (v := (nI 64)) hx hb dMo_power_93 (by decide) ?_
            refine lv_iload_n (pc := 95) hx hb dMo_power_95 rfl (lv_at hl 3 rfl) ?_
            refine lv_imul (pc := 96) hx hb dMo_power_96 ?_
            rw [show (((nI 64) * nI x9) : Int32) = nI (64 * x9) from (nI_mul 64 x9)]
            refine lv_iload (pc := 97) hx hb dMo_power_97 (lv_at hl 0 rfl) ?_
            refine lv_if_ne (pc := 99) (tgt := 106) hx hb dMo_power_99 (by decide) (fun _ => ?_) (fun hc => absurd hc (by decide))
            refine lv_lconst (pc := 106) (v := lN 1) hx hb dMo_power_106 (by decide) ?_
            refine fw_lastN (pc := 107) (f2 := fun i => lN (mC (va_up X49 (x9) (1)) i)) hx hb hK.1 hw 1 b1 rfl (64 * x9) (by omega) (by decide) (by rw [lN_up, mC_one hxx (by decide)]) dMo_power_107 (fun H locs hw => ?_)
            obtain ⟨w610, e610⟩ : ∃ w_, w_ = fw_up w609 (b + 1) (.inl (cL, 1536, .inr (.inl (fun i => lN (mC (va_up X49 (x9) (1)) i))))) := ⟨_, rfl⟩
            have hw : fw_H D kCl (fw_A w (sz)) s.heap w610 (sz) H locs := by rw [e610]; exact hw
            have b0_ : w610 (b) = some (.inr (10, [.int (nI (I 0)), .ref (b + 1), .ref (b + 2), .int (nI (I 3)), .ref (b + 3), .ref (b + 4), .int (nI (I 6)), .int (nI (I 7)), .ref (b + 5), .ref (b + 6), .int (nI (I 10)), .int (nI (I 11)), .int (nI (I 12)), .int (nI (I 13)), .ref (b + 7), .ref (b + 8), .int (nI (I 16)), .int (nI (I 17)), .int (nI (I 18)), .int (nI (I 19))])) := by rw [e610, fw_un (by omega)]; exact b0
            have b2_ : w610 (b + 2) = some (.inl (cI, 24, .inl (S50))) := by rw [e610, fw_un (by omega)]; exact b2
            have b1_ : w610 (b + 1) = some (.inl (cL, 1536, .inr (.inl (fun i => lN (mC (va_up X49 (x9) (1)) i))))) := by rw [e610]; exact fw_us _ _ _
            have b0 := b0_
            have b1 := b1_
            have b2 := b2_
            have hS : moS cI cL w610 b I K S50 (mC (va_up X49 (x9) (1))) := moS.cs hS b1 b2 (fun q h1 h2 => by rw [e610, fw_un h1])
            have hoF : ∀ q, q < b ∨ b + 9 ≤ q → w610 q = w q := fun q h9 => by rw [e610, fw_un (by omega)]; exact hoF q h9
            obtain ⟨X51, eX51⟩ : ∃ X_, X_ = va_up X49 (x9) (1) := ⟨_, rfl⟩
            rw [← eX51] at hS
            have hv9 : 1 = 1 := rfl
            have hxy : X51 (x9 + 1) = Y := by rw [eX51, up_o (by omega)]; exact hxy
            have hxO : X51 (23) = 1 := by rw [eX51, up_o (by omega)]; exact hxO
            have hxx : X51 (x9) = 1 := by rw [eX51]; exact up_s.trans hv9
            have hXb : ∀ p, X51 p < nM ^ 64 := fun p => by (rw [eX51]; unfold va_up; split; (rw [hv9]; exact Nat.lt_trans (by decide +kernel) p64); exact hXb p)
            have hfr : ∀ p, p ≠ x9 → p < 18 ∨ 22 < p → X51 p = X p ∧ S50 p = S p := fun p h1 h2 => by rw [eX51, up_o (by omega)]; exact hfr p h1 h2
            have b0 : w610 b = some (.inr (10, [.int (nI (I 0)), .ref (b + 1), .ref (b + 2), .int (nI (I 3)), .ref (b + 3), .ref (b + 4), .int (nI (I 6)), .int (nI (I 7)), .ref (b + 5), .ref (b + 6), .int (nI (I 10)), .int (nI (I 11)), .int (nI (I 12)), .int (nI (I 13)), .ref (b + 7), .ref (b + 8), .int (nI (I 16)), .int (nI (I 17)), .int (nI (I 18)), .int (nI (I 19))])) := hS.1
            have b1 : w610 (b + 1) = some (.inl (cL, 1536, .inr (.inl (fun i => lN (mC X51 i))))) := hS.2.1
            have b2 : w610 (b + 2) = some (.inl (cI, 24, .inl (S50))) := hS.2.2.1
            refine lv_aload_n (pc := 108) hx hb dMo_power_108 rfl (lv_at hl 2 rfl) ?_
            refine fw_get (pc := 109) (ci := 10) (v := .ref (b + 2)) (C := RMo) (T := TMo) (N := 20) hx hb hW in_Mo hown hK.1 hw b0 rfl 2 (by decide) (hW _ lf_Mo_13) (fun _ h => h) rfl dMo_power_109 ?_
            refine lv_iload_n (pc := 112) hx hb dMo_power_112 rfl (lv_at hl 3 rfl) ?_
            refine lv_iload (pc := 113) hx hb dMo_power_113 (lv_at hl 0 rfl) ?_
            refine fw_iastN (pc := 115) (f2 := va_up S50 (x9) ((-1))) hx hb hK.1 hw 0 b2 rfl (x9) (by omega) (by decide) (rfl) dMo_power_115 (fun H locs hw => ?_)
            obtain ⟨w611, e611⟩ : ∃ w_, w_ = fw_up w610 (b + 2) (.inl (cI, 24, .inl (va_up S50 (x9) ((-1))))) := ⟨_, rfl⟩
            have hw : fw_H D kCl (fw_A w (sz)) s.heap w611 (sz) H locs := by rw [e611]; exact hw
            have b0_ : w611 (b) = some (.inr (10, [.int (nI (I 0)), .ref (b + 1), .ref (b + 2), .int (nI (I 3)), .ref (b + 3), .ref (b + 4), .int (nI (I 6)), .int (nI (I 7)), .ref (b + 5), .ref (b + 6), .int (nI (I 10)), .int (nI (I 11)), .int (nI (I 12)), .int (nI (I 13)), .ref (b + 7), .ref (b + 8), .int (nI (I 16)), .int (nI (I 17)), .int (nI (I 18)), .int (nI (I 19))])) := by rw [e611, fw_un (by omega)]; exact b0
            have b1_ : w611 (b + 1) = some (.inl (cL, 1536, .inr (.inl (fun i => lN (mC X51 i))))) := by rw [e611, fw_un (by omega)]; exact b1
            have b2_ : w611 (b + 2) = some (.inl (cI, 24, .inl (va_up S50 (x9) ((-1))))) := by rw [e611]; exact fw_us _ _ _
            have b0 := b0_
            have b1 := b1_
            have b2 := b2_
            have hS : moS cI cL w611 b I K (va_up S50 (x9) ((-1))) (mC X51) := moS.cs hS b1 b2 (fun q h1 h2 => by rw [e611, fw_un h2])
            have hoF : ∀ q, q < b ∨ b + 9 ≤ q → w611 q = w q := fun q h9 => by rw [e611, fw_un (by omega)]; exact hoF q h9
            obtain ⟨S52, eS52⟩ : ∃ S_, S_ = va_up S50 (x9) ((-1)) := ⟨_, rfl⟩
            rw [← eS52] at hS
            have hv9 : ((-1) : Int32) = (-1) := rfl
            have hsy : S52 (x9 + 1) = sg32 b9 := by rw [eS52, up_o (by omega)]; exact hsy
            have hsO : S52 (23) = nI 1 := by rw [eS52, up_o (by omega)]; exact hsO
            have hsx : S52 (x9) = (-1) := by rw [eS52]; exact up_s.trans hv9
            have hfr : ∀ p, p ≠ x9 → p < 18 ∨ 22 < p → X51 p = X p ∧ S52 p = S p := fun p h1 h2 => by rw [eS52, up_o (by omega)]; exact hfr p h1 h2
            have b0 : w611 b = some (.inr (10, [.int (nI (I 0)), .ref (b + 1), .ref (b + 2), .int (nI (I 3)), .ref (b + 3), .ref (b + 4), .int (nI (I 6)), .int (nI (I 7)), .ref (b + 5), .ref (b + 6), .int (nI (I 10)), .int (nI (I 11)), .int (nI (I 12)), .int (nI (I 13)), .ref (b + 7), .ref (b + 8), .int (nI (I 16)), .int (nI (I 17)), .int (nI (I 18)), .int (nI (I 19))])) := hS.1
            have b1 : w611 (b + 1) = some (.inl (cL, 1536, .inr (.inl (fun i => lN (mC X51 i))))) := hS.2.1
            have b2 : w611 (b + 2) = some (.inl (cI, 24, .inl (S52))) := hS.2.2.1
            refine lv_iconst (pc := 116) (v := (nI 0)) hx hb dMo_power_116 (by decide) ?_
            have hsp : sPow a9 b9 = (0, (-1)) := by rw [hsp0, show a9 ^ Y = (-1) from (by have h9 := wv_pow 1 1 Y (by decide); rw [show wv 1 1 = a9 from by (rw [wv_1]; omega), Nat.one_pow] at h9; rw [h9, if_pos ⟨rfl, hp2⟩]; rfl)]; exact if_pos (by decide +kernel)
            exact fw_iret (pc := 117) hx hb hr hlocks hw dMo_power_117 ⟨by rw [hsp], ⟨_, _, hS, hXb, fun _ => by rw [hsp]; exact ⟨hxx, hsx.trans (by decide)⟩, hfr⟩, hoF⟩
        · rw [show (ordI A 1 : Int32) = nI 1 from (ordI_gt hA1)]
          refine lv_if_ne (pc := 43) (tgt := 118) hx hb dMo_power_43 (by decide) (fun _ => ?_) (fun hc => absurd hc (by decide))
          have hbig : 768 ≤ Y → 2 ^ 768 ≤ A ^ Y := fun h9 => Nat.le_trans (Nat.pow_le_pow_left (show 2 ≤ A from hA1) 768) (Nat.pow_le_pow_right (by omega) h9)
          have hsix : 2 ^ 768 ≤ A ^ Y → sPow a9 b9 = (6, a9) := fun h9 => by rw [hsp0]; unfold sFit; rw [hpa, if_neg (by omega)]
          refine lv_aload_n (pc := 118) hx hb dMo_power_118 rfl (lv_at hl 1 rfl) ?_
          refine lv_iload_n (pc := 119) hx hb dMo_power_119 rfl (lv_at hl 3 rfl) ?_
          refine fw_cVR (pc := 120) (As := [.int (nI (x9 + 1))]) (rest := []) ⟨hx, hb, hml, hown, hW⟩ (c_Mo_bits (p0 := x9 + 1) hS hXb (by omega)) (cwV 1 hW (kw_V lm_Mo_162 im_Mo_bits se_Mo_bits ini_Mo cd_Mo_bits) rfl rfl rfl (by decide +kernel) ⟨Nat.le_of_ble_eq_true rfl, Nat.le_of_ble_eq_true rfl⟩) hK hw b0 rfl rfl hl.1 rfl (Nat.le_of_ble_eq_true rfl) dMo_power_120 ⟨Nat.le_of_ble_eq_true rfl, Nat.le_of_ble_eq_true rfl⟩ (fun v hq => ?_)
          rw [hxy] at hq
          have hbl9 := bt_ub b97
          subst hq
          refine W.eq (g2 := F0 m 123 ls [.int (nI (bl Y))]) rfl ?_
          refine lv_bipush (pc := 123) (v := (nI 10)) hx hb dMo_power_123 (by decide) ?_
          rcases (show 10 < bl Y ∨ bl Y ≤ 10 by omega) with hbl | hbl
          · refine lv_icmp_gt (pc := 125) (tgt := 144) hx hb dMo_power_125 (by decide) (fun _ => ?_) (fun hc => absurd ((nI_ltI (by decide) (by omega)).mpr hbl) hc)
            refine lv_bipush (pc := 144) (v := (nI 6)) hx hb dMo_power_144 (by decide) ?_
            have hsp : sPow a9 b9 = (6, a9) := hsix (hbig (by have h9 := (bt_le (show Y ≠ 0 from fun h8 => by rw [h8] at hbl; exact absurd hbl (by decide))).1; have h8 : 2 ^ 10 ≤ 2 ^ (bl Y - 1) := Nat.pow_le_pow_right (by decide) (by omega); omega))
            exact fw_iret (pc := 146) hx hb hr hlocks hw dMo_power_146 ⟨by rw [hsp], ⟨_, _, hS, hXb, fun h9 => absurd h9 (by rw [hsp]; show ¬ (6 : Nat) = 0; decide), hfr⟩, hoF⟩
          · refine lv_icmp_gt (pc := 125) (tgt := 144) hx hb dMo_power_125 (by decide) (fun hc => absurd hc (nI_nlt hbl (by decide))) (fun _ => ?_)
            have hY10 : Y < 1024 := by have h9 := bt_lt Y; have h8 : 2 ^ bl Y ≤ 2 ^ 10 := Nat.pow_le_pow_right (by decide) hbl; omega
            have hc0 : mC X (64 * (x9 + 1)) = Y := by have h9 := mC_at X (p := x9 + 1) (i := 0) (by decide); rw [Nat.add_zero, hxy, Nat.pow_zero, Nat.div_one] at h9; rw [h9]; exact Nat.mod_eq_of_lt (Nat.lt_trans hY10 (by decide))
            refine lv_aload_n (pc := 128) hx hb dMo_power_128 rfl (lv_at hl 1 rfl) ?_
            refine fw_get (pc := 129) (ci := 10) (v := .ref (b + 1)) (C := RMo) (T := TMo) (N := 20) hx hb hW in_Mo hown hK.1 hw b0 rfl 1 (by decide) (hW _ lf_Mo_7) (fun _ h => h) rfl dMo_power_129 ?_
            refine lv_bipush (pc := 132) (v := (nI 64)) hx hb dMo_power_132 (by decide) ?_
            refine lv_iload_n (pc := 134) hx hb dMo_power_134 rfl (lv_at hl 3 rfl) ?_
            refine lv_imul (pc := 135) hx hb dMo_power_135 ?_
            rw [show (((nI 64) * nI (x9 + 1)) : Int32) = nI (64 * (x9 + 1)) from (nI_mul 64 (x9 + 1))]
            refine fw_laldN (pc := 136) (x := lN (mC X (64 * (x9 + 1)))) hx hb hK.1 hw 1 b1 rfl (64 * (x9 + 1)) (by omega) (by decide) rfl dMo_power_136 ?_
            rw [show (lN (mC X (64 * (x9 + 1))) : Int64) = lN Y from (by rw [hc0])]
            refine lv_ldc2 (pc := 137) (v := lN 767) hx hb hown (hW _ kl_Mo_165) dMo_power_137 ?_
            refine W.lcmp (pc := 140) hx hb dMo_power_140 ?_
            rcases (show Y ≤ 767 ∨ 767 < Y by omega) with hY7 | hY7
            · refine lv_if_le (pc := 141) (tgt := 147) hx hb dMo_power_141 (by decide) (fun _ => ?_) (fun hc => absurd ((lg_cmp_le _ _).mpr ((pk_lLE (by omega) (by decide)).mpr hY7)) hc)
              refine lv_iload_n (pc := 147) hx hb dMo_power_147 rfl (lv_at hl 0 rfl) ?_
              refine lv_if_eq (pc := 148) (tgt := 160) hx hb dMo_power_148 (by decide) (fun hc => absurd hc (show ¬ nI 1 = 0 by decide)) (fun _ => ?_)
              refine lv_aload_n (pc := 151) hx hb dMo_power_151 rfl (lv_at hl 1 rfl) ?_
              refine fw_get (pc := 152) (ci := 10) (v := .ref (b + 2)) (C := RMo) (T := TMo) (N := 20) hx hb hW in_Mo hown hK.1 hw b0 rfl 2 (by decide) (hW _ lf_Mo_13) (fun _ h => h) rfl dMo_power_152 ?_
              refine lv_iload_n (pc := 155) hx hb dMo_power_155 rfl (lv_at hl 2 rfl) ?_
              refine fw_ialdN (pc := 156) (x := S (x9)) hx hb hK.1 hw 0 b2 rfl (x9) (by omega) (by decide) rfl dMo_power_156 ?_
              rw [show (S (x9) : Int32) = sg32 a9 from hsx]
              rw [show (sg32 a9 : Int32) = (-1) from (sg32_n ha90)]
              have hsr : sg32 (a9 ^ Y) = (-1) := by have h9 := wv_pow 1 A Y (by decide); rw [show wv 1 A = a9 from by (rw [wv_1, hA]; omega)] at h9; rw [h9]; rw [if_pos ⟨rfl, hp2⟩]; exact sgw_1 (Nat.pow_pos (by omega))
              refine lv_goto (pc := 157) (tgt := 161) hx hb dMo_power_157 (by decide) ?_
              refine lv_istore (pc := 161) (lv' := [(4, .int (-1)), (3, .int (nI 1)), (0, .ref b), (1, .int (nI x9)), (2, .int (nI (x9 + 1)))]) hx hb dMo_power_161 hl (by decide) rfl (fun ls hl => ?_)
              refine lv_aload_n (pc := 163) hx hb dMo_power_163 rfl (lv_at hl 2 rfl) ?_
              refine fw_get (pc := 164) (ci := 10) (v := .ref (b + 1)) (C := RMo) (T := TMo) (N := 20) hx hb hW in_Mo hown hK.1 hw b0 rfl 1 (by decide) (hW _ lf_Mo_7) (fun _ h => h) rfl dMo_power_164 ?_
              refine lv_bipush (pc := 167) (v := (nI 64)) hx hb dMo_power_167 (by decide) ?_
              refine lv_iload_n (pc := 169) hx hb dMo_power_169 rfl (lv_at hl 4 rfl) ?_
              refine lv_imul (pc := 170) hx hb dMo_power_170 ?_
              rw [show (((nI 64) * nI (x9 + 1)) : Int32) = nI (64 * (x9 + 1)) from (nI_mul 64 (x9 + 1))]
              refine fw_laldN (pc := 171) (x := lN (mC X (64 * (x9 + 1)))) hx hb hK.1 hw 1 b1 rfl (64 * (x9 + 1)) (by omega) (by decide) rfl dMo_power_171 ?_
              rw [show (lN (mC X (64 * (x9 + 1))) : Int64) = lN Y from (by rw [hc0])]
              refine lv_l2i (pc := 172) (v := nI Y) hx hb dMo_power_172 (lN_i Y) ?_
              refine lv_istore (pc := 173) (lv' := [(5, .int (nI Y)), (4, .int (-1)), (3, .int (nI 1)), (0, .ref b), (1, .int (nI x9)), (2, .int (nI (x9 + 1)))]) hx hb dMo_power_173 hl (by decide) rfl (fun ls hl => ?_)
              refine lv_aload_n (pc := 175) hx hb dMo_power_175 rfl (lv_at hl 3 rfl) ?_
              refine lv_iload_n (pc := 176) hx hb dMo_power_176 rfl (lv_at hl 4 rfl) ?_
              refine lv_bipush (pc := 177) (v := (nI 19)) hx hb dMo_power_177 (by decide) ?_
              have loop : ∀ (e0 i : Nat), i + e0 = Y → A ^ i < nM ^ 64 → ∀ (w1 : fw_W) (H : Heap) (locs : List Loc) (ls : Array Slot) (S1 : Nat → Int32) (X1 : Nat → Nat), fw_H D kCl (fw_A w (sz)) s.heap w1 (sz) H locs → lv_has ls 7 [(6, .int (nI i)), (5, .int (nI Y)), (4, .int (-1)), (3, .int (nI 1)), (0, .ref b), (1, .int (nI x9)), (2, .int (nI (x9 + 1)))] → moS cI cL w1 b I K S1 (mC X1) → (∀ p, X1 p < nM ^ 64) → X1 x9 = A ^ i → X1 19 = A → (∀ p, p ≠ x9 → p < 18 ∨ 22 < p → X1 p = X p ∧ S1 p = S p) → (∀ q, q < b ∨ b + 9 ≤ q → w1 q = w q) → W p l e ({ frames := 2, cells := 0, slots := 0, locals := 55 } : Room) s m args below meth c H locs 0 0 (MQ below (fw_Q D kCl w (sz) 0 (fun v w' => v = some (.int (nI (sPow a9 b9).1)) ∧ (∃ S2 X2, moS cI cL w' b I K S2 (mC X2) ∧ (∀ p, X2 p < nM ^ 64) ∧ ((sPow a9 b9).1 = 0 → X2 x9 = Int.natAbs (sPow a9 b9).2 ∧ S2 x9 = sg32 (sPow a9 b9).2) ∧ ∀ p, p ≠ x9 → p < 18 ∨ 22 < p → X2 p = X p ∧ S2 p = S p) ∧ ∀ q, q < b ∨ b + 9 ≤ q → w' q = w q)) args s 0 0 (fw_A w (sz))) (F0 m 192 ls []) := by
                intro e0
                induction e0 with
                | zero =>
                  intro i hie hAi w1 H locs ls S1 X1 hw hl hS hXb hxx hxB hfr hoF
                  have b0 : w1 b = some (.inr (10, [.int (nI (I 0)), .ref (b + 1), .ref (b + 2), .int (nI (I 3)), .ref (b + 3), .ref (b + 4), .int (nI (I 6)), .int (nI (I 7)), .ref (b + 5), .ref (b + 6), .int (nI (I 10)), .int (nI (I 11)), .int (nI (I 12)), .int (nI (I 13)), .ref (b + 7), .ref (b + 8), .int (nI (I 16)), .int (nI (I 17)), .int (nI (I 18)), .int (nI (I 19))])) := hS.1
                  have b1 : w1 (b + 1) = some (.inl (cL, 1536, .inr (.inl (fun i => lN (mC X1 i))))) := hS.2.1
                  have b2 : w1 (b + 2) = some (.inl (cI, 24, .inl (S1))) := hS.2.2.1
                  refine lv_iload (pc := 192) hx hb dMo_power_192 (lv_at hl 0 rfl) ?_
                  refine lv_iload (pc := 194) hx hb dMo_power_194 (lv_at hl 1 rfl) ?_
                  refine lv_icmp_ge (pc := 196) (tgt := 229) hx hb dMo_power_196 (by decide) (fun _ => ?_) (fun hc => absurd (nI_le (show Y ≤ i by omega) (by omega)) hc)
                  refine lv_aload_n (pc := 229) hx hb dMo_power_229 rfl (lv_at hl 4 rfl) ?_
                  refine fw_get (pc := 230) (ci := 10) (v := .ref (b + 2)) (C := RMo) (T := TMo) (N := 20) hx hb hW in_Mo hown hK.1 hw b0 rfl 2 (by decide) (hW _ lf_Mo_13) (fun _ h => h) rfl dMo_power_230 ?_
                  refine lv_iload_n (pc := 233) hx hb dMo_power_233 rfl (lv_at hl 5 rfl) ?_
                  refine lv_iload (pc := 234) hx hb dMo_power_234 (lv_at hl 2 rfl) ?_
                  refine fw_iastN (pc := 236) (f2 := va_up S1 (x9) ((-1))) hx hb hK.1 hw 0 b2 rfl (x9) (by omega) (by decide) (rfl) dMo_power_236 (fun H locs hw => ?_)
                  obtain ⟨w501, e501⟩ : ∃ w_, w_ = fw_up w1 (b + 2) (.inl (cI, 24, .inl (va_up S1 (x9) ((-1))))) := ⟨_, rfl⟩
                  have hw : fw_H D kCl (fw_A w (sz)) s.heap w501 (sz) H locs := by rw [e501]; exact hw
                  have b0_ : w501 (b) = some (.inr (10, [.int (nI (I 0)), .ref (b + 1), .ref (b + 2), .int (nI (I 3)), .ref (b + 3), .ref (b + 4), .int (nI (I 6)), .int (nI (I 7)), .ref (b + 5), .ref (b + 6), .int (nI (I 10)), .int (nI (I 11)), .int (nI (I 12)), .int (nI (I 13)), .ref (b + 7), .ref (b + 8), .int (nI (I 16)), .int (nI (I 17)), .int (nI (I 18)), .int (nI (I 19))])) := by rw [e501, fw_un (by omega)]; exact b0
                  have b1_ : w501 (b + 1) = some (.inl (cL, 1536, .inr (.inl (fun i => lN (mC X1 i))))) := by rw [e501, fw_un (by omega)]; exact b1
                  have b2_ : w501 (b + 2) = some (.inl (cI, 24, .inl (va_up S1 (x9) ((-1))))) := by rw [e501]; exact fw_us _ _ _
                  have b0 := b0_
                  have b1 := b1_
                  have b2 := b2_
                  have hS : moS cI cL w501 b I K (va_up S1 (x9) ((-1))) (mC X1) := moS.cs hS b1 b2 (fun q h1 h2 => by rw [e501, fw_un h2])
                  have hoF : ∀ q, q < b ∨ b + 9 ≤ q → w501 q = w q := fun q h9 => by rw [e501, fw_un (by omega)]; exact hoF q h9
                  obtain ⟨S53, eS53⟩ : ∃ S_, S_ = va_up S1 (x9) ((-1)) := ⟨_, rfl⟩
                  rw [← eS53] at hS
                  have hv9 : ((-1) : Int32) = (-1) := rfl
                  have hsx : S53 (x9) = (-1) := by rw [eS53]; exact up_s.trans hv9
                  have hfr : ∀ p, p ≠ x9 → p < 18 ∨ 22 < p → X1 p = X p ∧ S53 p = S p := fun p h1 h2 => by rw [eS53, up_o (by omega)]; exact hfr p h1 h2
                  have b0 : w501 b = some (.inr (10, [.int (nI (I 0)), .ref (b + 1), .ref (b + 2), .int (nI (I 3)), .ref (b + 3), .ref (b + 4), .int (nI (I 6)), .int (nI (I 7)), .ref (b + 5), .ref (b + 6), .int (nI (I 10)), .int (nI (I 11)), .int (nI (I 12)), .int (nI (I 13)), .ref (b + 7), .ref (b + 8), .int (nI (I 16)), .int (nI (I 17)), .int (nI (I 18)), .int (nI (I 19))])) := hS.1
                  have b1 : w501 (b + 1) = some (.inl (cL, 1536, .inr (.inl (fun i => lN (mC X1 i))))) := hS.2.1
                  have b2 : w501 (b + 2) = some (.inl (cI, 24, .inl (S53))) := hS.2.2.1
                  refine lv_aload_n (pc := 237) hx hb dMo_power_237 rfl (lv_at hl 4 rfl) ?_
                  refine lv_iload_n (pc := 238) hx hb dMo_power_238 rfl (lv_at hl 5 rfl) ?_
                  have hiY : i = Y := by omega
                  rw [hiY, ← hpa] at hxx
                  rw [← hsr] at hsx
                  refine fw_cVR (pc := 239) (As := [.int (nI x9)]) (rest := []) ⟨hx, hb, hml, hown, hW⟩ (c_Mo_isGreat hS hXb (by omega)) (cwV 1 hW (kw_V lm_Mo_152 im_Mo_isGreat se_Mo_isGreat ini_Mo cd_Mo_isGreat) rfl rfl rfl (by decide +kernel) ⟨Nat.le_of_ble_eq_true rfl, Nat.le_of_ble_eq_true rfl⟩) hK hw b0 rfl rfl hl.1 rfl (Nat.le_of_ble_eq_true rfl) dMo_power_239 ⟨Nat.le_of_ble_eq_true rfl, Nat.le_of_ble_eq_true rfl⟩ (fun v hq => ?_)
                  have hxr : X1 x9 = Int.natAbs (a9 ^ Y) := hxx
                  rw [hxr] at hq
                  by_cases hg9 : Int.natAbs (a9 ^ Y) < 2 ^ 768
                  · subst hq
                    rw [if_pos hg9]
                    refine W.eq (g2 := F0 m 242 ls [.int (nI 0)]) rfl ?_
                    refine lv_if_eq (pc := 242) (tgt := 250) hx hb dMo_power_242 (by decide) (fun _ => ?_) (fun hc => absurd (show nI 0 = 0 by decide) hc)
                    refine lv_iconst (pc := 250) (v := (nI 0)) hx hb dMo_power_250 (by decide) ?_
                    have hsp : sPow a9 b9 = (0, (a9 ^ Y)) := hsp0.trans (if_pos hg9)
                    exact fw_iret (pc := 251) hx hb hr hlocks hw dMo_power_251 ⟨by rw [hsp], ⟨_, _, hS, hXb, fun _ => by rw [hsp]; exact ⟨hxr, hsx⟩, hfr⟩, hoF⟩
                  · subst hq
                    rw [if_neg hg9]
                    refine W.eq (g2 := F0 m 242 ls [.int (nI 1)]) rfl ?_
                    refine lv_if_eq (pc := 242) (tgt := 250) hx hb dMo_power_242 (by decide) (fun hc => absurd hc (show ¬ nI 1 = 0 by decide)) (fun _ => ?_)
                    refine lv_bipush (pc := 245) (v := (nI 6)) hx hb dMo_power_245 (by decide) ?_
                    refine lv_goto (pc := 247) (tgt := 251) hx hb dMo_power_247 (by decide) ?_
                    have hsp : (sPow a9 b9).1 = 6 := by rw [hsp0, sFit_1, if_neg hg9]
                    exact fw_iret (pc := 251) hx hb hr hlocks hw dMo_power_251 ⟨by rw [hsp], ⟨_, _, hS, hXb, fun h9 => absurd h9 (by rw [hsp]; decide), hfr⟩, hoF⟩
                | succ e0 ih =>
                  intro i hie hAi w1 H locs ls S1 X1 hw hl hS hXb hxx hxB hfr hoF
                  have b0 : w1 b = some (.inr (10, [.int (nI (I 0)), .ref (b + 1), .ref (b + 2), .int (nI (I 3)), .ref (b + 3), .ref (b + 4), .int (nI (I 6)), .int (nI (I 7)), .ref (b + 5), .ref (b + 6), .int (nI (I 10)), .int (nI (I 11)), .int (nI (I 12)), .int (nI (I 13)), .ref (b + 7), .ref (b + 8), .int (nI (I 16)), .int (nI (I 17)), .int (nI (I 18)), .int (nI (I 19))])) := hS.1
                  have b1 : w1 (b + 1) = some (.inl (cL, 1536, .inr (.inl (fun i => lN (mC X1 i))))) := hS.2.1
                  have b2 : w1 (b + 2) = some (.inl (cI, 24, .inl (S1))) := hS.2.2.1
                  refine lv_iload (pc := 192) hx hb dMo_power_192 (lv_at hl 0 rfl) ?_
                  refine lv_iload (pc := 194) hx hb dMo_power_194 (lv_at hl 1 rfl) ?_
                  refine lv_icmp_ge (pc := 196) (tgt := 229) hx hb dMo_power_196 (by decide) (fun hc => absurd hc (nI_ge (show i < Y by omega) (by omega))) (fun _ => ?_)
                  refine lv_aload_n (pc := 199) hx hb dMo_power_199 rfl (lv_at hl 4 rfl) ?_
                  refine lv_iload_n (pc := 200) hx hb dMo_power_200 rfl (lv_at hl 5 rfl) ?_
                  refine fw_cVR (pc := 201) (As := [.int (nI x9)]) (rest := []) ⟨hx, hb, hml, hown, hW⟩ (c_Mo_isGreat (p0 := x9) hS hXb (by omega)) (cwV 1 hW (kw_V lm_Mo_152 im_Mo_isGreat se_Mo_isGreat ini_Mo cd_Mo_isGreat) rfl rfl rfl (by decide +kernel) ⟨Nat.le_of_ble_eq_true rfl, Nat.le_of_ble_eq_true rfl⟩) hK hw b0 rfl rfl hl.1 rfl (Nat.le_of_ble_eq_true rfl) dMo_power_201 ⟨Nat.le_of_ble_eq_true rfl, Nat.le_of_ble_eq_true rfl⟩ (fun v hq => ?_)
                  rw [hxx] at hq
                  by_cases hg8 : A ^ i < 2 ^ 768
                  · subst hq
                    rw [if_pos hg8]
                    refine W.eq (g2 := F0 m 204 ls [.int (nI 0)]) rfl ?_
                    refine lv_if_ne (pc := 204) (tgt := 229) hx hb dMo_power_204 (by decide) (fun hc => absurd hc (fun h => h (by decide))) (fun _ => ?_)
                    refine lv_aload_n (pc := 207) hx hb dMo_power_207 rfl (lv_at hl 4 rfl) ?_
                    refine lv_iload_n (pc := 208) hx hb dMo_power_208 rfl (lv_at hl 5 rfl) ?_
                    refine lv_bipush (pc := 209) (v := (nI 19)) hx hb dMo_power_209 (by decide) ?_
                    refine lv_bipush (pc := 211) (v := (nI 21)) hx hb dMo_power_211 (by decide) ?_
                    refine fw_cV (pc := 213) (As := [.int (nI x9), .int (nI 19), .int (nI 21)]) (rest := []) ⟨hx, hb, hml, hown, hW⟩ (c_Mo_multiply (pa := x9) (pb := 19) (pt := 21) hS hXb (by omega) (by decide) (by decide) (by omega) (by decide) (by rw [hxx, ← q32]; exact hg8) (by rw [hxB, ← q32]; exact a97)) (cwV 3 hW (kw_V lm_Mo_155 im_Mo_multiply se_Mo_multiply ini_Mo cd_Mo_multiply) rfl rfl rfl (by decide +kernel) ⟨Nat.le_of_ble_eq_true rfl, Nat.le_of_ble_eq_true rfl⟩) hK hw b0 rfl rfl hl.1 rfl (Nat.le_of_ble_eq_true rfl) dMo_power_213 ⟨Nat.le_of_ble_eq_true rfl, Nat.le_of_ble_eq_true rfl⟩ (fun v w501 H locs hq hw => ?_)
                    obtain ⟨rfl, hS, hn9⟩ := hq
                    have hoF : ∀ q, q < b ∨ b + 9 ≤ q → w501 q = w q := fun q h9 => (hn9 q h9).trans (hoF q h9)
                    have hB9 : A ^ (i + 1) < nM ^ 64 := by rw [Nat.pow_succ]; exact Nat.lt_of_le_of_lt (Nat.mul_le_mul (Nat.le_sub_one_of_lt hg8) (Nat.le_sub_one_of_lt a97)) (by decide +kernel)
                    obtain ⟨X54, eX54⟩ : ∃ X_, X_ = va_up X1 (21) (X1 (x9) * X1 (19)) := ⟨_, rfl⟩
                    rw [← eX54] at hS
                    have hv9 : X1 (x9) * X1 (19) = A ^ (i + 1) := (by rw [hxx, hxB, Nat.pow_succ])
                    have hxx : X54 (x9) = A ^ i := by rw [eX54, up_o (by omega)]; exact hxx
                    have hxB : X54 (19) = A := by rw [eX54, up_o (by omega)]; exact hxB
                    have hxP : X54 (21) = A ^ (i + 1) := by rw [eX54]; exact up_s.trans hv9
                    have hXb : ∀ p, X54 p < nM ^ 64 := fun p => by (rw [eX54]; unfold va_up; split; (rw [hv9]; exact hB9); exact hXb p)
                    have hfr : ∀ p, p ≠ x9 → p < 18 ∨ 22 < p → X54 p = X p ∧ S1 p = S p := fun p h1 h2 => by rw [eX54, up_o (by omega)]; exact hfr p h1 h2
                    obtain ⟨S55, eS55⟩ : ∃ S_, S_ = va_up S1 (21) (nI 0) := ⟨_, rfl⟩
                    rw [← eS55] at hS
                    have hv9 : (nI 0 : Int32) = nI 0 := rfl
                    have hsP : S55 (21) = nI 0 := by rw [eS55]; exact up_s.trans hv9
                    have hfr : ∀ p, p ≠ x9 → p < 18 ∨ 22 < p → X54 p = X p ∧ S55 p = S p := fun p h1 h2 => by rw [eS55, up_o (by omega)]; exact hfr p h1 h2
                    have b0 : w501 b = some (.inr (10, [.int (nI (I 0)), .ref (b + 1), .ref (b + 2), .int (nI (I 3)), .ref (b + 3), .ref (b + 4), .int (nI (I 6)), .int (nI (I 7)), .ref (b + 5), .ref (b + 6), .int (nI (I 10)), .int (nI (I 11)), .int (nI (I 12)), .int (nI (I 13)), .ref (b + 7), .ref (b + 8), .int (nI (I 16)), .int (nI (I 17)), .int (nI (I 18)), .int (nI (I 19))])) := hS.1
                    have b1 : w501 (b + 1) = some (.inl (cL, 1536, .inr (.inl (fun i => lN (mC X54 i))))) := hS.2.1
                    have b2 : w501 (b + 2) = some (.inl (cI, 24, .inl (S55))) := hS.2.2.1
                    refine W.eq (g2 := F0 m 216 ls []) rfl ?_
                    refine lv_aload_n (pc := 216) hx hb dMo_power_216 rfl (lv_at hl 4 rfl) ?_
                    refine lv_bipush (pc := 217) (v := (nI 21)) hx hb dMo_power_217 (by decide) ?_
                    refine lv_iload_n (pc := 219) hx hb dMo_power_219 rfl (lv_at hl 5 rfl) ?_
                    refine fw_cV (pc := 220) (As := [.int (nI 21), .int (nI x9)]) (rest := []) ⟨hx, hb, hml, hown, hW⟩ (c_Mo_copy (pa := 21) (pc9 := x9) hS hXb (by omega) (by omega) (by omega)) (cwV 2 hW (kw_V lm_Mo_143 im_Mo_copy se_Mo_copy ini_Mo cd_Mo_copy) rfl rfl rfl (by decide +kernel) ⟨Nat.le_of_ble_eq_true rfl, Nat.le_of_ble_eq_true rfl⟩) hK hw b0 rfl rfl hl.1 rfl (Nat.le_of_ble_eq_true rfl) dMo_power_220 ⟨Nat.le_of_ble_eq_true rfl, Nat.le_of_ble_eq_true rfl⟩ (fun v w502 H locs hq hw => ?_)
                    obtain ⟨rfl, hS, hn9⟩ := hq
                    have hoF : ∀ q, q < b ∨ b + 9 ≤ q → w502 q = w q := fun q h9 => (hn9 q h9).trans (hoF q h9)
                    have hB9 : A ^ (i + 1) < nM ^ 64 := by rw [← hxP]; exact hXb _
                    obtain ⟨X56, eX56⟩ : ∃ X_, X_ = va_up X54 (x9) (X54 (21)) := ⟨_, rfl⟩
                    rw [← eX56] at hS
                    have hv9 : X54 (21) = A ^ (i + 1) := hxP
                    have hxB : X56 (19) = A := by rw [eX56, up_o (by omega)]; exact hxB
                    have hxP : X56 (21) = A ^ (i + 1) := by rw [eX56, up_o (by omega)]; exact hxP
                    have hxx : X56 (x9) = A ^ (i + 1) := by rw [eX56]; exact up_s.trans hv9
                    have hXb : ∀ p, X56 p < nM ^ 64 := fun p => by (rw [eX56]; unfold va_up; split; (rw [hv9]; exact hB9); exact hXb p)
                    have hfr : ∀ p, p ≠ x9 → p < 18 ∨ 22 < p → X56 p = X p ∧ S55 p = S p := fun p h1 h2 => by rw [eX56, up_o (by omega)]; exact hfr p h1 h2
                    obtain ⟨S57, eS57⟩ : ∃ S_, S_ = va_up S55 (x9) (S55 (21)) := ⟨_, rfl⟩
                    rw [← eS57] at hS
                    have hv9 : (S55 (21) : Int32) = nI 0 := hsP
                    have hsP : S57 (21) = nI 0 := by rw [eS57, up_o (by omega)]; exact hsP
                    have hsx : S57 (x9) = nI 0 := by rw [eS57]; exact up_s.trans hv9
                    have hfr : ∀ p, p ≠ x9 → p < 18 ∨ 22 < p → X56 p = X p ∧ S57 p = S p := fun p h1 h2 => by rw [eS57, up_o (by omega)]; exact hfr p h1 h2
                    have b0 : w502 b = some (.inr (10, [.int (nI (I 0)), .ref (b + 1), .ref (b + 2), .int (nI (I 3)), .ref (b + 3), .ref (b + 4), .int (nI (I 6)), .int (nI (I 7)), .ref (b + 5), .ref (b + 6), .int (nI (I 10)), .int (nI (I 11)), .int (nI (I 12)), .int (nI (I 13)), .ref (b + 7), .ref (b + 8), .int (nI (I 16)), .int (nI (I 17)), .int (nI (I 18)), .int (nI (I 19))])) := hS.1
                    have b1 : w502 (b + 1) = some (.inl (cL, 1536, .inr (.inl (fun i => lN (mC X56 i))))) := hS.2.1
                    have b2 : w502 (b + 2) = some (.inl (cI, 24, .inl (S57))) := hS.2.2.1
                    refine W.eq (g2 := F0 m 223 ls []) rfl ?_
                    refine lv_iinc (pc := 223) (lv' := [(6, .int (nI (i + 1))), (5, .int (nI Y)), (4, .int (-1)), (3, .int (nI 1)), (0, .ref b), (1, .int (nI x9)), (2, .int (nI (x9 + 1)))]) hx hb dMo_power_223 hl (k := 0) rfl ((nI_add i 1)) (by decide) rfl (fun ls hl => ?_)
                    refine lv_goto (pc := 226) (tgt := 192) hx hb dMo_power_226 (by decide) ?_
                    exact ih (i + 1) (by omega) hB9 _ H locs ls _ _ hw (lv_sub hl [0, 1, 2, 3, 4, 5, 6] rfl) hS hXb hxx hxB hfr hoF
                  · subst hq
                    rw [if_neg hg8]
                    refine W.eq (g2 := F0 m 204 ls [.int (nI 1)]) rfl ?_
                    refine lv_if_ne (pc := 204) (tgt := 229) hx hb dMo_power_204 (by decide) (fun _ => ?_) (fun hc => absurd hc (by decide))
                    refine lv_aload_n (pc := 229) hx hb dMo_power_229 rfl (lv_at hl 4 rfl) ?_
                    refine fw_get (pc := 230) (ci := 10) (v := .ref (b + 2)) (C := RMo) (T := TMo) (N := 20) hx hb hW in_Mo hown hK.1 hw b0 rfl 2 (by decide) (hW _ lf_Mo_13) (fun _ h => h) rfl dMo_power_230 ?_
                    refine lv_iload_n (pc := 233) hx hb dMo_power_233 rfl (lv_at hl 5 rfl) ?_
                    refine lv_iload (pc := 234) hx hb dMo_power_234 (lv_at hl 2 rfl) ?_
                    refine fw_iastN (pc := 236) (f2 := va_up S1 (x9) ((-1))) hx hb hK.1 hw 0 b2 rfl (x9) (by omega) (by decide) (rfl) dMo_power_236 (fun H locs hw => ?_)
                    obtain ⟨w501, e501⟩ : ∃ w_, w_ = fw_up w1 (b + 2) (.inl (cI, 24, .inl (va_up S1 (x9) ((-1))))) := ⟨_, rfl⟩
                    have hw : fw_H D kCl (fw_A w (sz)) s.heap w501 (sz) H locs := by rw [e501]; exact hw
                    have b0_ : w501 (b) = some (.inr (10, [.int (nI (I 0)), .ref (b + 1), .ref (b + 2), .int (nI (I 3)), .ref (b + 3), .ref (b + 4), .int (nI (I 6)), .int (nI (I 7)), .ref (b + 5), .ref (b + 6), .int (nI (I 10)), .int (nI (I 11)), .int (nI (I 12)), .int (nI (I 13)), .ref (b + 7), .ref (b + 8), .int (nI (I 16)), .int (nI (I 17)), .int (nI (I 18)), .int (nI (I 19))])) := by rw [e501, fw_un (by omega)]; exact b0
                    have b1_ : w501 (b + 1) = some (.inl (cL, 1536, .inr (.inl (fun i => lN (mC X1 i))))) := by rw [e501, fw_un (by omega)]; exact b1
                    have b2_ : w501 (b + 2) = some (.inl (cI, 24, .inl (va_up S1 (x9) ((-1))))) := by rw [e501]; exact fw_us _ _ _
                    have b0 := b0_
                    have b1 := b1_
                    have b2 := b2_
                    have hS : moS cI cL w501 b I K (va_up S1 (x9) ((-1))) (mC X1) := moS.cs hS b1 b2 (fun q h1 h2 => by rw [e501, fw_un h2])
                    have hoF : ∀ q, q < b ∨ b + 9 ≤ q → w501 q = w q := fun q h9 => by rw [e501, fw_un (by omega)]; exact hoF q h9
                    obtain ⟨S58, eS58⟩ : ∃ S_, S_ = va_up S1 (x9) ((-1)) := ⟨_, rfl⟩
                    rw [← eS58] at hS
                    have hv9 : ((-1) : Int32) = (-1) := rfl
                    have hsx : S58 (x9) = (-1) := by rw [eS58]; exact up_s.trans hv9
                    have hfr : ∀ p, p ≠ x9 → p < 18 ∨ 22 < p → X1 p = X p ∧ S58 p = S p := fun p h1 h2 => by rw [eS58, up_o (by omega)]; exact hfr p h1 h2
                    have b0 : w501 b = some (.inr (10, [.int (nI (I 0)), .ref (b + 1), .ref (b + 2), .int (nI (I 3)), .ref (b + 3), .ref (b + 4), .int (nI (I 6)), .int (nI (I 7)), .ref (b + 5), .ref (b + 6), .int (nI (I 10)), .int (nI (I 11)), .int (nI (I 12)), .int (nI (I 13)), .ref (b + 7), .ref (b + 8), .int (nI (I 16)), .int (nI (I 17)), .int (nI (I 18)), .int (nI (I 19))])) := hS.1
                    have b1 : w501 (b + 1) = some (.inl (cL, 1536, .inr (.inl (fun i => lN (mC X1 i))))) := hS.2.1
                    have b2 : w501 (b + 2) = some (.inl (cI, 24, .inl (S58))) := hS.2.2.1
                    refine lv_aload_n (pc := 237) hx hb dMo_power_237 rfl (lv_at hl 4 rfl) ?_
                    refine lv_iload_n (pc := 238) hx hb dMo_power_238 rfl (lv_at hl 5 rfl) ?_
                    refine fw_cVR (pc := 239) (As := [.int (nI x9)]) (rest := []) ⟨hx, hb, hml, hown, hW⟩ (c_Mo_isGreat (p0 := x9) hS hXb (by omega)) (cwV 1 hW (kw_V lm_Mo_152 im_Mo_isGreat se_Mo_isGreat ini_Mo cd_Mo_isGreat) rfl rfl rfl (by decide +kernel) ⟨Nat.le_of_ble_eq_true rfl, Nat.le_of_ble_eq_true rfl⟩) hK hw b0 rfl rfl hl.1 rfl (Nat.le_of_ble_eq_true rfl) dMo_power_239 ⟨Nat.le_of_ble_eq_true rfl, Nat.le_of_ble_eq_true rfl⟩ (fun v hq => ?_)
                    rw [hxx, if_neg hg8] at hq
                    subst hq
                    refine W.eq (g2 := F0 m 242 ls [.int (nI 1)]) rfl ?_
                    refine lv_if_eq (pc := 242) (tgt := 250) hx hb dMo_power_242 (by decide) (fun hc => absurd hc (show ¬ nI 1 = 0 by decide)) (fun _ => ?_)
                    refine lv_bipush (pc := 245) (v := (nI 6)) hx hb dMo_power_245 (by decide) ?_
                    refine lv_goto (pc := 247) (tgt := 251) hx hb dMo_power_247 (by decide) ?_
                    have hsp : sPow a9 b9 = (6, a9) := hsix (pw_big (by decide +kernel) (Nat.le_of_not_lt hg8) (show i ≤ Y by omega))
                    exact fw_iret (pc := 251) hx hb hr hlocks hw dMo_power_251 ⟨by rw [hsp], ⟨_, _, hS, hXb, fun h9 => absurd h9 (by rw [hsp]; show ¬ (6 : Nat) = 0; decide), hfr⟩, hoF⟩
              refine fw_cV (pc := 179) (As := [.int (nI x9), .int (nI 19)]) (rest := []) ⟨hx, hb, hml, hown, hW⟩ (c_Mo_copy (pa := x9) (pc9 := 19) hS hXb (by omega) (by omega) (by omega)) (cwV 2 hW (kw_V lm_Mo_143 im_Mo_copy se_Mo_copy ini_Mo cd_Mo_copy) rfl rfl rfl (by decide +kernel) ⟨Nat.le_of_ble_eq_true rfl, Nat.le_of_ble_eq_true rfl⟩) hK hw b0 rfl rfl hl.1 rfl (Nat.le_of_ble_eq_true rfl) dMo_power_179 ⟨Nat.le_of_ble_eq_true rfl, Nat.le_of_ble_eq_true rfl⟩ (fun v w601 H locs hq hw => ?_)
              obtain ⟨rfl, hS, hn9⟩ := hq
              have hoF : ∀ q, q < b ∨ b + 9 ≤ q → w601 q = w q := fun q h9 => (hn9 q h9).trans (hoF q h9)
              have hB9 : A < nM ^ 64 := by rw [← hxx]; exact hXb _
              obtain ⟨X59, eX59⟩ : ∃ X_, X_ = va_up X (19) (X (x9)) := ⟨_, rfl⟩
              rw [← eX59] at hS
              have hv9 : X (x9) = A := hxx
              have hxx : X59 (x9) = A := by rw [eX59, up_o (by omega)]; exact hxx
              have hxy : X59 (x9 + 1) = Y := by rw [eX59, up_o (by omega)]; exact hxy
              have hxO : X59 (23) = 1 := by rw [eX59, up_o (by omega)]; exact hxO
              have hxB : X59 (19) = A := by rw [eX59]; exact up_s.trans hv9
              have hXb : ∀ p, X59 p < nM ^ 64 := fun p => by (rw [eX59]; unfold va_up; split; (rw [hv9]; exact hB9); exact hXb p)
              have hfr : ∀ p, p ≠ x9 → p < 18 ∨ 22 < p → X59 p = X p ∧ S p = S p := fun p h1 h2 => by rw [eX59, up_o (by omega)]; exact hfr p h1 h2
              obtain ⟨S60, eS60⟩ : ∃ S_, S_ = va_up S (19) (S (x9)) := ⟨_, rfl⟩
              rw [← eS60] at hS
              have hv9 : (S (x9) : Int32) = sg32 a9 := hsx
              have hsx : S60 (x9) = sg32 a9 := by rw [eS60, up_o (by omega)]; exact hsx
              have hsy : S60 (x9 + 1) = sg32 b9 := by rw [eS60, up_o (by omega)]; exact hsy
              have hsO : S60 (23) = nI 1 := by rw [eS60, up_o (by omega)]; exact hsO
              have hsB : S60 (19) = sg32 a9 := by rw [eS60]; exact up_s.trans hv9
              have hfr : ∀ p, p ≠ x9 → p < 18 ∨ 22 < p → X59 p = X p ∧ S60 p = S p := fun p h1 h2 => by rw [eS60, up_o (by omega)]; exact hfr p h1 h2
              have b0 : w601 b = some (.inr (10, [.int (nI (I 0)), .ref (b + 1), .ref (b + 2), .int (nI (I 3)), .ref (b + 3), .ref (b + 4), .int (nI (I 6)), .int (nI (I 7)), .ref (b + 5), .ref (b + 6), .int (nI (I 10)), .int (nI (I 11)), .int (nI (I 12)), .int (nI (I 13)), .ref (b + 7), .ref (b + 8), .int (nI (I 16)), .int (nI (I 17)), .int (nI (I 18)), .int (nI (I 19))])) := hS.1
              have b1 : w601 (b + 1) = some (.inl (cL, 1536, .inr (.inl (fun i => lN (mC X59 i))))) := hS.2.1
              have b2 : w601 (b + 2) = some (.inl (cI, 24, .inl (S60))) := hS.2.2.1
              refine W.eq (g2 := F0 m 182 ls []) rfl ?_
              refine lv_aload_n (pc := 182) hx hb dMo_power_182 rfl (lv_at hl 3 rfl) ?_
              refine lv_bipush (pc := 183) (v := (nI 23)) hx hb dMo_power_183 (by decide) ?_
              refine lv_iload_n (pc := 185) hx hb dMo_power_185 rfl (lv_at hl 4 rfl) ?_
              refine fw_cV (pc := 186) (As := [.int (nI 23), .int (nI x9)]) (rest := []) ⟨hx, hb, hml, hown, hW⟩ (c_Mo_copy (pa := 23) (pc9 := x9) hS hXb (by omega) (by omega) (by omega)) (cwV 2 hW (kw_V lm_Mo_143 im_Mo_copy se_Mo_copy ini_Mo cd_Mo_copy) rfl rfl rfl (by decide +kernel) ⟨Nat.le_of_ble_eq_true rfl, Nat.le_of_ble_eq_true rfl⟩) hK hw b0 rfl rfl hl.1 rfl (Nat.le_of_ble_eq_true rfl) dMo_power_186 ⟨Nat.le_of_ble_eq_true rfl, Nat.le_of_ble_eq_true rfl⟩ (fun v w602 H locs hq hw => ?_)
              obtain ⟨rfl, hS, hn9⟩ := hq
              have hoF : ∀ q, q < b ∨ b + 9 ≤ q → w602 q = w q := fun q h9 => (hn9 q h9).trans (hoF q h9)
              have hB9 : 1 < nM ^ 64 := by rw [← hxO]; exact hXb _
              obtain ⟨X61, eX61⟩ : ∃ X_, X_ = va_up X59 (x9) (X59 (23)) := ⟨_, rfl⟩
              rw [← eX61] at hS
              have hv9 : X59 (23) = 1 := hxO
              have hxy : X61 (x9 + 1) = Y := by rw [eX61, up_o (by omega)]; exact hxy
              have hxO : X61 (23) = 1 := by rw [eX61, up_o (by omega)]; exact hxO
              have hxB : X61 (19) = A := by rw [eX61, up_o (by omega)]; exact hxB
              have hxx : X61 (x9) = 1 := by rw [eX61]; exact up_s.trans hv9
              have hXb : ∀ p, X61 p < nM ^ 64 := fun p => by (rw [eX61]; unfold va_up; split; (rw [hv9]; exact hB9); exact hXb p)
              have hfr : ∀ p, p ≠ x9 → p < 18 ∨ 22 < p → X61 p = X p ∧ S60 p = S p := fun p h1 h2 => by rw [eX61, up_o (by omega)]; exact hfr p h1 h2
              obtain ⟨S62, eS62⟩ : ∃ S_, S_ = va_up S60 (x9) (S60 (23)) := ⟨_, rfl⟩
              rw [← eS62] at hS
              have hv9 : (S60 (23) : Int32) = nI 1 := hsO
              have hsy : S62 (x9 + 1) = sg32 b9 := by rw [eS62, up_o (by omega)]; exact hsy
              have hsO : S62 (23) = nI 1 := by rw [eS62, up_o (by omega)]; exact hsO
              have hsB : S62 (19) = sg32 a9 := by rw [eS62, up_o (by omega)]; exact hsB
              have hsx : S62 (x9) = nI 1 := by rw [eS62]; exact up_s.trans hv9
              have hfr : ∀ p, p ≠ x9 → p < 18 ∨ 22 < p → X61 p = X p ∧ S62 p = S p := fun p h1 h2 => by rw [eS62, up_o (by omega)]; exact hfr p h1 h2
              have b0 : w602 b = some (.inr (10, [.int (nI (I 0)), .ref (b + 1), .ref (b + 2), .int (nI (I 3)), .ref (b + 3), .ref (b + 4), .int (nI (I 6)), .int (nI (I 7)), .ref (b + 5), .ref (b + 6), .int (nI (I 10)), .int (nI (I 11)), .int (nI (I 12)), .int (nI (I 13)), .ref (b + 7), .ref (b + 8), .int (nI (I 16)), .int (nI (I 17)), .int (nI (I 18)), .int (nI (I 19))])) := hS.1
              have b1 : w602 (b + 1) = some (.inl (cL, 1536, .inr (.inl (fun i => lN (mC X61 i))))) := hS.2.1
              have b2 : w602 (b + 2) = some (.inl (cI, 24, .inl (S62))) := hS.2.2.1
              refine W.eq (g2 := F0 m 189 ls []) rfl ?_
              refine lv_iconst (pc := 189) (v := (nI 0)) hx hb dMo_power_189 (by decide) ?_
              refine lv_istore (pc := 190) (lv' := [(6, .int (nI 0)), (5, .int (nI Y)), (4, .int (-1)), (3, .int (nI 1)), (0, .ref b), (1, .int (nI x9)), (2, .int (nI (x9 + 1)))]) hx hb dMo_power_190 hl (by decide) rfl (fun ls hl => ?_)
              exact loop Y 0 (by omega) (by rw [Nat.pow_zero]; exact Nat.lt_trans (by decide +kernel) p64) _ H locs ls _ _ hw (lv_sub hl [0, 1, 2, 3, 4, 5, 6] rfl) hS hXb (by rw [hxx, Nat.pow_zero]) hxB hfr hoF
            · refine lv_if_le (pc := 141) (tgt := 147) hx hb dMo_power_141 (by decide) (fun hc => absurd hc (fun h9 => absurd ((pk_lLE (by omega) (by decide)).mp ((lg_cmp_le _ _).mp h9)) (by omega))) (fun _ => ?_)
              refine lv_bipush (pc := 144) (v := (nI 6)) hx hb dMo_power_144 (by decide) ?_
              have hsp : sPow a9 b9 = (6, a9) := hsix (hbig (by omega))
              exact fw_iret (pc := 146) hx hb hr hlocks hw dMo_power_146 ⟨by rw [hsp], ⟨_, _, hS, hXb, fun h9 => absurd h9 (by rw [hsp]; show ¬ (6 : Nat) = 0; decide), hfr⟩, hoF⟩
      · rw [show (sg32 a9 : Int32) = nI 0 from (sg32_z ha90)]
        refine lv_if_eq (pc := 33) (tgt := 46) hx hb dMo_power_33 (by decide) (fun _ => ?_) (fun hc => absurd (show nI 0 = 0 by decide) hc)
        refine lv_aload_n (pc := 46) hx hb dMo_power_46 rfl (lv_at hl 1 rfl) ?_
        refine fw_get (pc := 47) (ci := 10) (v := .ref (b + 2)) (C := RMo) (T := TMo) (N := 20) hx hb hW in_Mo hown hK.1 hw b0 rfl 2 (by decide) (hW _ lf_Mo_13) (fun _ h => h) rfl dMo_power_47 ?_
        refine lv_iload_n (pc := 50) hx hb dMo_power_50 rfl (lv_at hl 3 rfl) ?_
        refine fw_ialdN (pc := 51) (x := S (x9 + 1)) hx hb hK.1 hw 0 b2 rfl (x9 + 1) (by omega) (by decide) rfl dMo_power_51 ?_
        rw [show (S (x9 + 1) : Int32) = sg32 b9 from hsy]
        rcases (show b9 = 0 ∨ 0 < b9 by omega) with hb0 | hb0
        · rw [show (sg32 b9 : Int32) = nI 0 from (sg32_z hb0)]
          refine lv_if_ne (pc := 52) (tgt := 59) hx hb dMo_power_52 (by decide) (fun hc => absurd hc (fun h => h (by decide))) (fun _ => ?_)
          have hY0 : Y = 0 := by omega
          refine lv_iconst (pc := 55) (v := (nI 1)) hx hb dMo_power_55 (by decide) ?_
          refine lv_goto (pc := 56) (tgt := 82) hx hb dMo_power_56 (by decide) ?_
          refine lv_istore (pc := 82) (lv' := [(4, .int (nI 1)), (3, .int (nI 1)), (0, .ref b), (1, .int (nI x9)), (2, .int (nI (x9 + 1)))]) hx hb dMo_power_82 hl (by decide) rfl (fun ls hl => ?_)
          refine lv_aload_n (pc := 84) hx hb dMo_power_84 rfl (lv_at hl 2 rfl) ?_
          refine lv_iload_n (pc := 85) hx hb dMo_power_85 rfl (lv_at hl 3 rfl) ?_
          refine fw_cV (pc := 86) (As := [.int (nI x9)]) (rest := []) ⟨hx, hb, hml, hown, hW⟩ (c_Mo_clear (p0 := x9) hS (by omega)) (cwV 1 hW (kw_V lm_Mo_125 im_Mo_clear se_Mo_clear ini_Mo cd_Mo_clear) rfl rfl rfl (by decide +kernel) ⟨Nat.le_of_ble_eq_true rfl, Nat.le_of_ble_eq_true rfl⟩) hK hw b0 rfl rfl hl.1 rfl (Nat.le_of_ble_eq_true rfl) dMo_power_86 ⟨Nat.le_of_ble_eq_true rfl, Nat.le_of_ble_eq_true rfl⟩ (fun v w612 H locs hq hw => ?_)
          obtain ⟨rfl, hS, hn9⟩ := hq
          rw [clr_all] at hS
          have hoF : ∀ q, q < b ∨ b + 9 ≤ q → w612 q = w q := fun q h9 => (hn9 q (by omega) (by omega)).trans (hoF q h9)
          obtain ⟨X63, eX63⟩ : ∃ X_, X_ = va_up X (x9) (0) := ⟨_, rfl⟩
          rw [← eX63] at hS
          have hv9 : 0 = 0 := rfl
          have hxy : X63 (x9 + 1) = Y := by rw [eX63, up_o (by omega)]; exact hxy
          have hxO : X63 (23) = 1 := by rw [eX63, up_o (by omega)]; exact hxO
          have hxx : X63 (x9) = 0 := by rw [eX63]; exact up_s.trans hv9
          have hXb : ∀ p, X63 p < nM ^ 64 := fun p => by (rw [eX63]; unfold va_up; split; (rw [hv9]; exact Nat.pow_pos (by decide)); exact hXb p)
          have hfr : ∀ p, p ≠ x9 → p < 18 ∨ 22 < p → X63 p = X p ∧ S p = S p := fun p h1 h2 => by rw [eX63, up_o (by omega)]; exact hfr p h1 h2
          obtain ⟨S64, eS64⟩ : ∃ S_, S_ = va_up S (x9) (nI 0) := ⟨_, rfl⟩
          rw [← eS64] at hS
          have hv9 : (nI 0 : Int32) = nI 0 := rfl
          have hsy : S64 (x9 + 1) = sg32 b9 := by rw [eS64, up_o (by omega)]; exact hsy
          have hsO : S64 (23) = nI 1 := by rw [eS64, up_o (by omega)]; exact hsO
          have hsx : S64 (x9) = nI 0 := by rw [eS64]; exact up_s.trans hv9
          have hfr : ∀ p, p ≠ x9 → p < 18 ∨ 22 < p → X63 p = X p ∧ S64 p = S p := fun p h1 h2 => by rw [eS64, up_o (by omega)]; exact hfr p h1 h2
          have b0 : w612 b = some (.inr (10, [.int (nI (I 0)), .ref (b + 1), .ref (b + 2), .int (nI (I 3)), .ref (b + 3), .ref (b + 4), .int (nI (I 6)), .int (nI (I 7)), .ref (b + 5), .ref (b + 6), .int (nI (I 10)), .int (nI (I 11)), .int (nI (I 12)), .int (nI (I 13)), .ref (b + 7), .ref (b + 8), .int (nI (I 16)), .int (nI (I 17)), .int (nI (I 18)), .int (nI (I 19))])) := hS.1
          have b1 : w612 (b + 1) = some (.inl (cL, 1536, .inr (.inl (fun i => lN (mC X63 i))))) := hS.2.1
          have b2 : w612 (b + 2) = some (.inl (cI, 24, .inl (S64))) := hS.2.2.1
          refine W.eq (g2 := F0 m 89 ls []) rfl ?_
          refine lv_aload_n (pc := 89) hx hb dMo_power_89 rfl (lv_at hl 2 rfl) ?_
          refine fw_get (pc := 90) (ci := 10) (v := .ref (b + 1)) (C := RMo) (T := TMo) (N := 20) hx hb hW in_Mo hown hK.1 hw b0 rfl 1 (by decide) (hW _ lf_Mo_7) (fun _ h => h) rfl dMo_power_90 ?_
          refine lv_bipush (pc := 93) (v := (nI 64)) hx hb dMo_power_93 (by decide) ?_
          refine lv_iload_n (pc := 95) hx hb dMo_power_95 rfl (lv_at hl 3 rfl) ?_
          refine lv_imul (pc := 96) hx hb dMo_power_96 ?_
          rw [show (((nI 64) * nI x9) : Int32) = nI (64 * x9) from (nI_mul 64 x9)]
          refine lv_iload (pc := 97) hx hb dMo_power_97 (lv_at hl 0 rfl) ?_
          refine lv_if_ne (pc := 99) (tgt := 106) hx hb dMo_power_99 (by decide) (fun _ => ?_) (fun hc => absurd hc (by decide))
          refine lv_lconst (pc := 106) (v := lN 1) hx hb dMo_power_106 (by decide) ?_
          refine fw_lastN (pc := 107) (f2 := fun i => lN (mC (va_up X63 (x9) (1)) i)) hx hb hK.1 hw 1 b1 rfl (64 * x9) (by omega) (by decide) (by rw [lN_up, mC_one hxx (by decide)]) dMo_power_107 (fun H locs hw => ?_)
          obtain ⟨w613, e613⟩ : ∃ w_, w_ = fw_up w612 (b + 1) (.inl (cL, 1536, .inr (.inl (fun i => lN (mC (va_up X63 (x9) (1)) i))))) := ⟨_, rfl⟩
          have hw : fw_H D kCl (fw_A w (sz)) s.heap w613 (sz) H locs := by rw [e613]; exact hw
          have b0_ : w613 (b) = some (.inr (10, [.int (nI (I 0)), .ref (b + 1), .ref (b + 2), .int (nI (I 3)), .ref (b + 3), .ref (b + 4), .int (nI (I 6)), .int (nI (I 7)), .ref (b + 5), .ref (b + 6), .int (nI (I 10)), .int (nI (I 11)), .int (nI (I 12)), .int (nI (I 13)), .ref (b + 7), .ref (b + 8), .int (nI (I 16)), .int (nI (I 17)), .int (nI (I 18)), .int (nI (I 19))])) := by rw [e613, fw_un (by omega)]; exact b0
          have b2_ : w613 (b + 2) = some (.inl (cI, 24, .inl (S64))) := by rw [e613, fw_un (by omega)]; exact b2
          have b1_ : w613 (b + 1) = some (.inl (cL, 1536, .inr (.inl (fun i => lN (mC (va_up X63 (x9) (1)) i))))) := by rw [e613]; exact fw_us _ _ _
          have b0 := b0_
          have b1 := b1_
          have b2 := b2_
          have hS : moS cI cL w613 b I K S64 (mC (va_up X63 (x9) (1))) := moS.cs hS b1 b2 (fun q h1 h2 => by rw [e613, fw_un h1])
          have hoF : ∀ q, q < b ∨ b + 9 ≤ q → w613 q = w q := fun q h9 => by rw [e613, fw_un (by omega)]; exact hoF q h9
          obtain ⟨X65, eX65⟩ : ∃ X_, X_ = va_up X63 (x9) (1) := ⟨_, rfl⟩
          rw [← eX65] at hS
          have hv9 : 1 = 1 := rfl
          have hxy : X65 (x9 + 1) = Y := by rw [eX65, up_o (by omega)]; exact hxy
          have hxO : X65 (23) = 1 := by rw [eX65, up_o (by omega)]; exact hxO
          have hxx : X65 (x9) = 1 := by rw [eX65]; exact up_s.trans hv9
          have hXb : ∀ p, X65 p < nM ^ 64 := fun p => by (rw [eX65]; unfold va_up; split; (rw [hv9]; exact Nat.lt_trans (by decide +kernel) p64); exact hXb p)
          have hfr : ∀ p, p ≠ x9 → p < 18 ∨ 22 < p → X65 p = X p ∧ S64 p = S p := fun p h1 h2 => by rw [eX65, up_o (by omega)]; exact hfr p h1 h2
          have b0 : w613 b = some (.inr (10, [.int (nI (I 0)), .ref (b + 1), .ref (b + 2), .int (nI (I 3)), .ref (b + 3), .ref (b + 4), .int (nI (I 6)), .int (nI (I 7)), .ref (b + 5), .ref (b + 6), .int (nI (I 10)), .int (nI (I 11)), .int (nI (I 12)), .int (nI (I 13)), .ref (b + 7), .ref (b + 8), .int (nI (I 16)), .int (nI (I 17)), .int (nI (I 18)), .int (nI (I 19))])) := hS.1
          have b1 : w613 (b + 1) = some (.inl (cL, 1536, .inr (.inl (fun i => lN (mC X65 i))))) := hS.2.1
          have b2 : w613 (b + 2) = some (.inl (cI, 24, .inl (S64))) := hS.2.2.1
          refine lv_aload_n (pc := 108) hx hb dMo_power_108 rfl (lv_at hl 2 rfl) ?_
          refine fw_get (pc := 109) (ci := 10) (v := .ref (b + 2)) (C := RMo) (T := TMo) (N := 20) hx hb hW in_Mo hown hK.1 hw b0 rfl 2 (by decide) (hW _ lf_Mo_13) (fun _ h => h) rfl dMo_power_109 ?_
          refine lv_iload_n (pc := 112) hx hb dMo_power_112 rfl (lv_at hl 3 rfl) ?_
          refine lv_iload (pc := 113) hx hb dMo_power_113 (lv_at hl 0 rfl) ?_
          refine fw_iastN (pc := 115) (f2 := va_up S64 (x9) (nI 1)) hx hb hK.1 hw 0 b2 rfl (x9) (by omega) (by decide) (rfl) dMo_power_115 (fun H locs hw => ?_)
          obtain ⟨w614, e614⟩ : ∃ w_, w_ = fw_up w613 (b + 2) (.inl (cI, 24, .inl (va_up S64 (x9) (nI 1)))) := ⟨_, rfl⟩
          have hw : fw_H D kCl (fw_A w (sz)) s.heap w614 (sz) H locs := by rw [e614]; exact hw
          have b0_ : w614 (b) = some (.inr (10, [.int (nI (I 0)), .ref (b + 1), .ref (b + 2), .int (nI (I 3)), .ref (b + 3), .ref (b + 4), .int (nI (I 6)), .int (nI (I 7)), .ref (b + 5), .ref (b + 6), .int (nI (I 10)), .int (nI (I 11)), .int (nI (I 12)), .int (nI (I 13)), .ref (b + 7), .ref (b + 8), .int (nI (I 16)), .int (nI (I 17)), .int (nI (I 18)), .int (nI (I 19))])) := by rw [e614, fw_un (by omega)]; exact b0
          have b1_ : w614 (b + 1) = some (.inl (cL, 1536, .inr (.inl (fun i => lN (mC X65 i))))) := by rw [e614, fw_un (by omega)]; exact b1
          have b2_ : w614 (b + 2) = some (.inl (cI, 24, .inl (va_up S64 (x9) (nI 1)))) := by rw [e614]; exact fw_us _ _ _
          have b0 := b0_
          have b1 := b1_
          have b2 := b2_
          have hS : moS cI cL w614 b I K (va_up S64 (x9) (nI 1)) (mC X65) := moS.cs hS b1 b2 (fun q h1 h2 => by rw [e614, fw_un h2])
          have hoF : ∀ q, q < b ∨ b + 9 ≤ q → w614 q = w q := fun q h9 => by rw [e614, fw_un (by omega)]; exact hoF q h9
          obtain ⟨S66, eS66⟩ : ∃ S_, S_ = va_up S64 (x9) (nI 1) := ⟨_, rfl⟩
          rw [← eS66] at hS
          have hv9 : (nI 1 : Int32) = nI 1 := rfl
          have hsy : S66 (x9 + 1) = sg32 b9 := by rw [eS66, up_o (by omega)]; exact hsy
          have hsO : S66 (23) = nI 1 := by rw [eS66, up_o (by omega)]; exact hsO
          have hsx : S66 (x9) = nI 1 := by rw [eS66]; exact up_s.trans hv9
          have hfr : ∀ p, p ≠ x9 → p < 18 ∨ 22 < p → X65 p = X p ∧ S66 p = S p := fun p h1 h2 => by rw [eS66, up_o (by omega)]; exact hfr p h1 h2
          have b0 : w614 b = some (.inr (10, [.int (nI (I 0)), .ref (b + 1), .ref (b + 2), .int (nI (I 3)), .ref (b + 3), .ref (b + 4), .int (nI (I 6)), .int (nI (I 7)), .ref (b + 5), .ref (b + 6), .int (nI (I 10)), .int (nI (I 11)), .int (nI (I 12)), .int (nI (I 13)), .ref (b + 7), .ref (b + 8), .int (nI (I 16)), .int (nI (I 17)), .int (nI (I 18)), .int (nI (I 19))])) := hS.1
          have b1 : w614 (b + 1) = some (.inl (cL, 1536, .inr (.inl (fun i => lN (mC X65 i))))) := hS.2.1
          have b2 : w614 (b + 2) = some (.inl (cI, 24, .inl (S66))) := hS.2.2.1
          refine lv_iconst (pc := 116) (v := (nI 0)) hx hb dMo_power_116 (by decide) ?_
          have hsp : sPow a9 b9 = (0, 1) := by rw [hsp0, show a9 ^ Y = 1 from (by rw [hY0, Int.pow_zero])]; exact if_pos (by decide +kernel)
          exact fw_iret (pc := 117) hx hb hr hlocks hw dMo_power_117 ⟨by rw [hsp], ⟨_, _, hS, hXb, fun _ => by rw [hsp]; exact ⟨hxx, hsx.trans (by decide)⟩, hfr⟩, hoF⟩
        · rw [show (sg32 b9 : Int32) = nI 1 from (sg32_p hb0)]
          refine lv_if_ne (pc := 52) (tgt := 59) hx hb dMo_power_52 (by decide) (fun _ => ?_) (fun hc => absurd hc (by decide))
          refine lv_aload_n (pc := 59) hx hb dMo_power_59 rfl (lv_at hl 1 rfl) ?_
          refine fw_get (pc := 60) (ci := 10) (v := .ref (b + 2)) (C := RMo) (T := TMo) (N := 20) hx hb hW in_Mo hown hK.1 hw b0 rfl 2 (by decide) (hW _ lf_Mo_13) (fun _ h => h) rfl dMo_power_60 ?_
          refine lv_iload_n (pc := 63) hx hb dMo_power_63 rfl (lv_at hl 2 rfl) ?_
          refine fw_ialdN (pc := 64) (x := S (x9)) hx hb hK.1 hw 0 b2 rfl (x9) (by omega) (by decide) rfl dMo_power_64 ?_
          rw [show (S (x9) : Int32) = sg32 a9 from hsx]
          rw [show (sg32 a9 : Int32) = nI 0 from (sg32_z ha90)]
          refine lv_if_ge (pc := 65) (tgt := 76) hx hb dMo_power_65 (by decide) (fun _ => ?_) (fun hc => absurd (by decide) hc)
          refine lv_aload_n (pc := 76) hx hb dMo_power_76 rfl (lv_at hl 1 rfl) ?_
          refine fw_get (pc := 77) (ci := 10) (v := .ref (b + 2)) (C := RMo) (T := TMo) (N := 20) hx hb hW in_Mo hown hK.1 hw b0 rfl 2 (by decide) (hW _ lf_Mo_13) (fun _ h => h) rfl dMo_power_77 ?_
          refine lv_iload_n (pc := 80) hx hb dMo_power_80 rfl (lv_at hl 2 rfl) ?_
          refine fw_ialdN (pc := 81) (x := S (x9)) hx hb hK.1 hw 0 b2 rfl (x9) (by omega) (by decide) rfl dMo_power_81 ?_
          rw [show (S (x9) : Int32) = sg32 a9 from hsx]
          rw [show (sg32 a9 : Int32) = nI 0 from (sg32_z ha90)]
          refine lv_istore (pc := 82) (lv' := [(4, .int (nI 0)), (3, .int (nI 1)), (0, .ref b), (1, .int (nI x9)), (2, .int (nI (x9 + 1)))]) hx hb dMo_power_82 hl (by decide) rfl (fun ls hl => ?_)
          refine lv_aload_n (pc := 84) hx hb dMo_power_84 rfl (lv_at hl 2 rfl) ?_
          refine lv_iload_n (pc := 85) hx hb dMo_power_85 rfl (lv_at hl 3 rfl) ?_
          refine fw_cV (pc := 86) (As := [.int (nI x9)]) (rest := []) ⟨hx, hb, hml, hown, hW⟩ (c_Mo_clear (p0 := x9) hS (by omega)) (cwV 1 hW (kw_V lm_Mo_125 im_Mo_clear se_Mo_clear ini_Mo cd_Mo_clear) rfl rfl rfl (by decide +kernel) ⟨Nat.le_of_ble_eq_true rfl, Nat.le_of_ble_eq_true rfl⟩) hK hw b0 rfl rfl hl.1 rfl (Nat.le_of_ble_eq_true rfl) dMo_power_86 ⟨Nat.le_of_ble_eq_true rfl, Nat.le_of_ble_eq_true rfl⟩ (fun v w612 H locs hq hw => ?_)
          obtain ⟨rfl, hS, hn9⟩ := hq
          rw [clr_all] at hS
          have hoF : ∀ q, q < b ∨ b + 9 ≤ q → w612 q = w q := fun q h9 => (hn9 q (by omega) (by omega)).trans (hoF q h9)
          obtain ⟨X67, eX67⟩ : ∃ X_, X_ = va_up X (x9) (0) := ⟨_, rfl⟩
          rw [← eX67] at hS
          have hv9 : 0 = 0 := rfl
          have hxy : X67 (x9 + 1) = Y := by rw [eX67, up_o (by omega)]; exact hxy
          have hxO : X67 (23) = 1 := by rw [eX67, up_o (by omega)]; exact hxO
          have hxx : X67 (x9) = 0 := by rw [eX67]; exact up_s.trans hv9
          have hXb : ∀ p, X67 p < nM ^ 64 := fun p => by (rw [eX67]; unfold va_up; split; (rw [hv9]; exact Nat.pow_pos (by decide)); exact hXb p)
          have hfr : ∀ p, p ≠ x9 → p < 18 ∨ 22 < p → X67 p = X p ∧ S p = S p := fun p h1 h2 => by rw [eX67, up_o (by omega)]; exact hfr p h1 h2
          obtain ⟨S68, eS68⟩ : ∃ S_, S_ = va_up S (x9) (nI 0) := ⟨_, rfl⟩
          rw [← eS68] at hS
          have hv9 : (nI 0 : Int32) = nI 0 := rfl
          have hsy : S68 (x9 + 1) = sg32 b9 := by rw [eS68, up_o (by omega)]; exact hsy
          have hsO : S68 (23) = nI 1 := by rw [eS68, up_o (by omega)]; exact hsO
          have hsx : S68 (x9) = nI 0 := by rw [eS68]; exact up_s.trans hv9
          have hfr : ∀ p, p ≠ x9 → p < 18 ∨ 22 < p → X67 p = X p ∧ S68 p = S p := fun p h1 h2 => by rw [eS68, up_o (by omega)]; exact hfr p h1 h2
          have b0 : w612 b = some (.inr (10, [.int (nI (I 0)), .ref (b + 1), .ref (b + 2), .int (nI (I 3)), .ref (b + 3), .ref (b + 4), .int (nI (I 6)), .int (nI (I 7)), .ref (b + 5), .ref (b + 6), .int (nI (I 10)), .int (nI (I 11)), .int (nI (I 12)), .int (nI (I 13)), .ref (b + 7), .ref (b + 8), .int (nI (I 16)), .int (nI (I 17)), .int (nI (I 18)), .int (nI (I 19))])) := hS.1
          have b1 : w612 (b + 1) = some (.inl (cL, 1536, .inr (.inl (fun i => lN (mC X67 i))))) := hS.2.1
          have b2 : w612 (b + 2) = some (.inl (cI, 24, .inl (S68))) := hS.2.2.1
          refine W.eq (g2 := F0 m 89 ls []) rfl ?_
          refine lv_aload_n (pc := 89) hx hb dMo_power_89 rfl (lv_at hl 2 rfl) ?_
          refine fw_get (pc := 90) (ci := 10) (v := .ref (b + 1)) (C := RMo) (T := TMo) (N := 20) hx hb hW in_Mo hown hK.1 hw b0 rfl 1 (by decide) (hW _ lf_Mo_7) (fun _ h => h) rfl dMo_power_90 ?_
          refine lv_bipush (pc := 93) (v := (nI 64)) hx hb dMo_power_93 (by decide) ?_
          refine lv_iload_n (pc := 95) hx hb dMo_power_95 rfl (lv_at hl 3 rfl) ?_
          refine lv_imul (pc := 96) hx hb dMo_power_96 ?_
          rw [show (((nI 64) * nI x9) : Int32) = nI (64 * x9) from (nI_mul 64 x9)]
          refine lv_iload (pc := 97) hx hb dMo_power_97 (lv_at hl 0 rfl) ?_
          refine lv_if_ne (pc := 99) (tgt := 106) hx hb dMo_power_99 (by decide) (fun hc => absurd hc (fun h => h (by decide))) (fun _ => ?_)
          refine lv_lconst (pc := 102) (v := lN 0) hx hb dMo_power_102 (by decide) ?_
          refine lv_goto (pc := 103) (tgt := 107) hx hb dMo_power_103 (by decide) ?_
          refine fw_lastN (pc := 107) (f2 := fun i => lN (mC (va_up X67 (x9) (0)) i)) hx hb hK.1 hw 1 b1 rfl (64 * x9) (by omega) (by decide) (by rw [lN_up, mC_one hxx (by decide)]) dMo_power_107 (fun H locs hw => ?_)
          obtain ⟨w613, e613⟩ : ∃ w_, w_ = fw_up w612 (b + 1) (.inl (cL, 1536, .inr (.inl (fun i => lN (mC (va_up X67 (x9) (0)) i))))) := ⟨_, rfl⟩
          have hw : fw_H D kCl (fw_A w (sz)) s.heap w613 (sz) H locs := by rw [e613]; exact hw
          have b0_ : w613 (b) = some (.inr (10, [.int (nI (I 0)), .ref (b + 1), .ref (b + 2), .int (nI (I 3)), .ref (b + 3), .ref (b + 4), .int (nI (I 6)), .int (nI (I 7)), .ref (b + 5), .ref (b + 6), .int (nI (I 10)), .int (nI (I 11)), .int (nI (I 12)), .int (nI (I 13)), .ref (b + 7), .ref (b + 8), .int (nI (I 16)), .int (nI (I 17)), .int (nI (I 18)), .int (nI (I 19))])) := by rw [e613, fw_un (by omega)]; exact b0
          have b2_ : w613 (b + 2) = some (.inl (cI, 24, .inl (S68))) := by rw [e613, fw_un (by omega)]; exact b2
          have b1_ : w613 (b + 1) = some (.inl (cL, 1536, .inr (.inl (fun i => lN (mC (va_up X67 (x9) (0)) i))))) := by rw [e613]; exact fw_us _ _ _
          have b0 := b0_
          have b1 := b1_
          have b2 := b2_
          have hS : moS cI cL w613 b I K S68 (mC (va_up X67 (x9) (0))) := moS.cs hS b1 b2 (fun q h1 h2 => by rw [e613, fw_un h1])
          have hoF : ∀ q, q < b ∨ b + 9 ≤ q → w613 q = w q := fun q h9 => by rw [e613, fw_un (by omega)]; exact hoF q h9
          obtain ⟨X69, eX69⟩ : ∃ X_, X_ = va_up X67 (x9) (0) := ⟨_, rfl⟩
          rw [← eX69] at hS
          have hv9 : 0 = 0 := rfl
          have hxy : X69 (x9 + 1) = Y := by rw [eX69, up_o (by omega)]; exact hxy
          have hxO : X69 (23) = 1 := by rw [eX69, up_o (by omega)]; exact hxO
          have hxx : X69 (x9) = 0 := by rw [eX69]; exact up_s.trans hv9
          have hXb : ∀ p, X69 p < nM ^ 64 := fun p => by (rw [eX69]; unfold va_up; split; (rw [hv9]; exact Nat.lt_trans (by decide +kernel) p64); exact hXb p)
          have hfr : ∀ p, p ≠ x9 → p < 18 ∨ 22 < p → X69 p = X p ∧ S68 p = S p := fun p h1 h2 => by rw [eX69, up_o (by omega)]; exact hfr p h1 h2
          have b0 : w613 b = some (.inr (10, [.int (nI (I 0)), .ref (b + 1), .ref (b + 2), .int (nI (I 3)), .ref (b + 3), .ref (b + 4), .int (nI (I 6)), .int (nI (I 7)), .ref (b + 5), .ref (b + 6), .int (nI (I 10)), .int (nI (I 11)), .int (nI (I 12)), .int (nI (I 13)), .ref (b + 7), .ref (b + 8), .int (nI (I 16)), .int (nI (I 17)), .int (nI (I 18)), .int (nI (I 19))])) := hS.1
          have b1 : w613 (b + 1) = some (.inl (cL, 1536, .inr (.inl (fun i => lN (mC X69 i))))) := hS.2.1
          have b2 : w613 (b + 2) = some (.inl (cI, 24, .inl (S68))) := hS.2.2.1
          refine lv_aload_n (pc := 108) hx hb dMo_power_108 rfl (lv_at hl 2 rfl) ?_
          refine fw_get (pc := 109) (ci := 10) (v := .ref (b + 2)) (C := RMo) (T := TMo) (N := 20) hx hb hW in_Mo hown hK.1 hw b0 rfl 2 (by decide) (hW _ lf_Mo_13) (fun _ h => h) rfl dMo_power_109 ?_
          refine lv_iload_n (pc := 112) hx hb dMo_power_112 rfl (lv_at hl 3 rfl) ?_
          refine lv_iload (pc := 113) hx hb dMo_power_113 (lv_at hl 0 rfl) ?_
          refine fw_iastN (pc := 115) (f2 := va_up S68 (x9) (nI 0)) hx hb hK.1 hw 0 b2 rfl (x9) (by omega) (by decide) (rfl) dMo_power_115 (fun H locs hw => ?_)
          obtain ⟨w614, e614⟩ : ∃ w_, w_ = fw_up w613 (b + 2) (.inl (cI, 24, .inl (va_up S68 (x9) (nI 0)))) := ⟨_, rfl⟩
          have hw : fw_H D kCl (fw_A w (sz)) s.heap w614 (sz) H locs := by rw [e614]; exact hw
          have b0_ : w614 (b) = some (.inr (10, [.int (nI (I 0)), .ref (b + 1), .ref (b + 2), .int (nI (I 3)), .ref (b + 3), .ref (b + 4), .int (nI (I 6)), .int (nI (I 7)), .ref (b + 5), .ref (b + 6), .int (nI (I 10)), .int (nI (I 11)), .int (nI (I 12)), .int (nI (I 13)), .ref (b + 7), .ref (b + 8), .int (nI (I 16)), .int (nI (I 17)), .int (nI (I 18)), .int (nI (I 19))])) := by rw [e614, fw_un (by omega)]; exact b0
          have b1_ : w614 (b + 1) = some (.inl (cL, 1536, .inr (.inl (fun i => lN (mC X69 i))))) := by rw [e614, fw_un (by omega)]; exact b1
          have b2_ : w614 (b + 2) = some (.inl (cI, 24, .inl (va_up S68 (x9) (nI 0)))) := by rw [e614]; exact fw_us _ _ _
          have b0 := b0_
          have b1 := b1_
          have b2 := b2_
          have hS : moS cI cL w614 b I K (va_up S68 (x9) (nI 0)) (mC X69) := moS.cs hS b1 b2 (fun q h1 h2 => by rw [e614, fw_un h2])
          have hoF : ∀ q, q < b ∨ b + 9 ≤ q → w614 q = w q := fun q h9 => by rw [e614, fw_un (by omega)]; exact hoF q h9
          obtain ⟨S70, eS70⟩ : ∃ S_, S_ = va_up S68 (x9) (nI 0) := ⟨_, rfl⟩
          rw [← eS70] at hS
          have hv9 : (nI 0 : Int32) = nI 0 := rfl
          have hsy : S70 (x9 + 1) = sg32 b9 := by rw [eS70, up_o (by omega)]; exact hsy
          have hsO : S70 (23) = nI 1 := by rw [eS70, up_o (by omega)]; exact hsO
          have hsx : S70 (x9) = nI 0 := by rw [eS70]; exact up_s.trans hv9
          have hfr : ∀ p, p ≠ x9 → p < 18 ∨ 22 < p → X69 p = X p ∧ S70 p = S p := fun p h1 h2 => by rw [eS70, up_o (by omega)]; exact hfr p h1 h2
          have b0 : w614 b = some (.inr (10, [.int (nI (I 0)), .ref (b + 1), .ref (b + 2), .int (nI (I 3)), .ref (b + 3), .ref (b + 4), .int (nI (I 6)), .int (nI (I 7)), .ref (b + 5), .ref (b + 6), .int (nI (I 10)), .int (nI (I 11)), .int (nI (I 12)), .int (nI (I 13)), .ref (b + 7), .ref (b + 8), .int (nI (I 16)), .int (nI (I 17)), .int (nI (I 18)), .int (nI (I 19))])) := hS.1
          have b1 : w614 (b + 1) = some (.inl (cL, 1536, .inr (.inl (fun i => lN (mC X69 i))))) := hS.2.1
          have b2 : w614 (b + 2) = some (.inl (cI, 24, .inl (S70))) := hS.2.2.1
          refine lv_iconst (pc := 116) (v := (nI 0)) hx hb dMo_power_116 (by decide) ?_
          have hsp : sPow a9 b9 = (0, 0) := by rw [hsp0, show a9 ^ Y = 0 from (by rw [ha90]; exact Int.zero_pow (by omega))]; exact if_pos (by decide +kernel)
          exact fw_iret (pc := 117) hx hb hr hlocks hw dMo_power_117 ⟨by rw [hsp], ⟨_, _, hS, hXb, fun _ => by rw [hsp]; exact ⟨hxx, hsx.trans (by decide)⟩, hfr⟩, hoF⟩
      · rw [show (sg32 a9 : Int32) = nI 1 from (sg32_p ha90)]
        refine lv_if_eq (pc := 33) (tgt := 46) hx hb dMo_power_33 (by decide) (fun hc => absurd hc (by decide)) (fun _ => ?_)
        refine lv_aload_n (pc := 36) hx hb dMo_power_36 rfl (lv_at hl 1 rfl) ?_
        refine lv_iload_n (pc := 37) hx hb dMo_power_37 rfl (lv_at hl 2 rfl) ?_
        refine lv_bipush (pc := 38) (v := (nI 23)) hx hb dMo_power_38 (by decide) ?_
        refine fw_cVR (pc := 40) (As := [.int (nI x9), .int (nI 23)]) (rest := []) ⟨hx, hb, hml, hown, hW⟩ (c_Mo_order (pa := x9) (pb := 23) hS hXb (by omega) (by decide)) (cwV 2 hW (kw_V lm_Mo_149 im_Mo_order se_Mo_order ini_Mo cd_Mo_order) rfl rfl rfl (by decide +kernel) ⟨Nat.le_of_ble_eq_true rfl, Nat.le_of_ble_eq_true rfl⟩) hK hw b0 rfl rfl hl.1 rfl (Nat.le_of_ble_eq_true rfl) dMo_power_40 ⟨Nat.le_of_ble_eq_true rfl, Nat.le_of_ble_eq_true rfl⟩ (fun v hq => ?_)
        rw [hxx, hxO] at hq
        subst hq
        refine W.eq (g2 := F0 m 43 ls [.int (ordI A 1)]) rfl ?_
        rcases (show A = 1 ∨ 1 < A by omega) with hA1 | hA1
        · rw [show (ordI A 1 : Int32) = nI 0 from (ordI_eq hA1)]
          refine lv_if_ne (pc := 43) (tgt := 118) hx hb dMo_power_43 (by decide) (fun hc => absurd hc (fun h => h (by decide))) (fun _ => ?_)
          refine lv_aload_n (pc := 46) hx hb dMo_power_46 rfl (lv_at hl 1 rfl) ?_
          refine fw_get (pc := 47) (ci := 10) (v := .ref (b + 2)) (C := RMo) (T := TMo) (N := 20) hx hb hW in_Mo hown hK.1 hw b0 rfl 2 (by decide) (hW _ lf_Mo_13) (fun _ h => h) rfl dMo_power_47 ?_
          refine lv_iload_n (pc := 50) hx hb dMo_power_50 rfl (lv_at hl 3 rfl) ?_
          refine fw_ialdN (pc := 51) (x := S (x9 + 1)) hx hb hK.1 hw 0 b2 rfl (x9 + 1) (by omega) (by decide) rfl dMo_power_51 ?_
          rw [show (S (x9 + 1) : Int32) = sg32 b9 from hsy]
          rcases (show b9 = 0 ∨ 0 < b9 by omega) with hb0 | hb0
          · rw [show (sg32 b9 : Int32) = nI 0 from (sg32_z hb0)]
            refine lv_if_ne (pc := 52) (tgt := 59) hx hb dMo_power_52 (by decide) (fun hc => absurd hc (fun h => h (by decide))) (fun _ => ?_)
            have hY0 : Y = 0 := by omega
            refine lv_iconst (pc := 55) (v := (nI 1)) hx hb dMo_power_55 (by decide) ?_
            refine lv_goto (pc := 56) (tgt := 82) hx hb dMo_power_56 (by decide) ?_
            refine lv_istore (pc := 82) (lv' := [(4, .int (nI 1)), (3, .int (nI 1)), (0, .ref b), (1, .int (nI x9)), (2, .int (nI (x9 + 1)))]) hx hb dMo_power_82 hl (by decide) rfl (fun ls hl => ?_)
            refine lv_aload_n (pc := 84) hx hb dMo_power_84 rfl (lv_at hl 2 rfl) ?_
            refine lv_iload_n (pc := 85) hx hb dMo_power_85 rfl (lv_at hl 3 rfl) ?_
            refine fw_cV (pc := 86) (As := [.int (nI x9)]) (rest := []) ⟨hx, hb, hml, hown, hW⟩ (c_Mo_clear (p0 := x9) hS (by omega)) (cwV 1 hW (kw_V lm_Mo_125 im_Mo_clear se_Mo_clear ini_Mo cd_Mo_clear) rfl rfl rfl (by decide +kernel) ⟨Nat.le_of_ble_eq_true rfl, Nat.le_of_ble_eq_true rfl⟩) hK hw b0 rfl rfl hl.1 rfl (Nat.le_of_ble_eq_true rfl) dMo_power_86 ⟨Nat.le_of_ble_eq_true rfl, Nat.le_of_ble_eq_true rfl⟩ (fun v w615 H locs hq hw => ?_)
            obtain ⟨rfl, hS, hn9⟩ := hq
            rw [clr_all] at hS
            have hoF : ∀ q, q < b ∨ b + 9 ≤ q → w615 q = w q := fun q h9 => (hn9 q (by omega) (by omega)).trans (hoF q h9)
            obtain ⟨X71, eX71⟩ : ∃ X_, X_ = va_up X (x9) (0) := ⟨_, rfl⟩
            rw [← eX71] at hS
            have hv9 : 0 = 0 := rfl
            have hxy : X71 (x9 + 1) = Y := by rw [eX71, up_o (by omega)]; exact hxy
            have hxO : X71 (23) = 1 := by rw [eX71, up_o (by omega)]; exact hxO
            have hxx : X71 (x9) = 0 := by rw [eX71]; exact up_s.trans hv9
            have hXb : ∀ p, X71 p < nM ^ 64 := fun p => by (rw [eX71]; unfold va_up; split; (rw [hv9]; exact Nat.pow_pos (by decide)); exact hXb p)
            have hfr : ∀ p, p ≠ x9 → p < 18 ∨ 22 < p → X71 p = X p ∧ S p = S p := fun p h1 h2 => by rw [eX71, up_o (by omega)]; exact hfr p h1 h2
            obtain ⟨S72, eS72⟩ : ∃ S_, S_ = va_up S (x9) (nI 0) := ⟨_, rfl⟩
            rw [← eS72] at hS
            have hv9 : (nI 0 : Int32) = nI 0 := rfl
            have hsy : S72 (x9 + 1) = sg32 b9 := by rw [eS72, up_o (by omega)]; exact hsy
            have hsO : S72 (23) = nI 1 := by rw [eS72, up_o (by omega)]; exact hsO
            have hsx : S72 (x9) = nI 0 := by rw [eS72]; exact up_s.trans hv9
            have hfr : ∀ p, p ≠ x9 → p < 18 ∨ 22 < p → X71 p = X p ∧ S72 p = S p := fun p h1 h2 => by rw [eS72, up_o (by omega)]; exact hfr p h1 h2
            have b0 : w615 b = some (.inr (10, [.int (nI (I 0)), .ref (b + 1), .ref (b + 2), .int (nI (I 3)), .ref (b + 3), .ref (b + 4), .int (nI (I 6)), .int (nI (I 7)), .ref (b + 5), .ref (b + 6), .int (nI (I 10)), .int (nI (I 11)), .int (nI (I 12)), .int (nI (I 13)), .ref (b + 7), .ref (b + 8), .int (nI (I 16)), .int (nI (I 17)), .int (nI (I 18)), .int (nI (I 19))])) := hS.1
            have b1 : w615 (b + 1) = some (.inl (cL, 1536, .inr (.inl (fun i => lN (mC X71 i))))) := hS.2.1
            have b2 : w615 (b + 2) = some (.inl (cI, 24, .inl (S72))) := hS.2.2.1
            refine W.eq (g2 := F0 m 89 ls []) rfl ?_
            refine lv_aload_n (pc := 89) hx hb dMo_power_89 rfl (lv_at hl 2 rfl) ?_
            refine fw_get (pc := 90) (ci := 10) (v := .ref (b + 1)) (C := RMo) (T := TMo) (N := 20) hx hb hW in_Mo hown hK.1 hw b0 rfl 1 (by decide) (hW _ lf_Mo_7) (fun _ h => h) rfl dMo_power_90 ?_
            refine lv_bipush (pc := 93) (v := (nI 64)) hx hb dMo_power_93 (by decide) ?_
            refine lv_iload_n (pc := 95) hx hb dMo_power_95 rfl (lv_at hl 3 rfl) ?_
            refine lv_imul (pc := 96) hx hb dMo_power_96 ?_
            rw [show (((nI 64) * nI x9) : Int32) = nI (64 * x9) from (nI_mul 64 x9)]
            refine lv_iload (pc := 97) hx hb dMo_power_97 (lv_at hl 0 rfl) ?_
            refine lv_if_ne (pc := 99) (tgt := 106) hx hb dMo_power_99 (by decide) (fun _ => ?_) (fun hc => absurd hc (by decide))
            refine lv_lconst (pc := 106) (v := lN 1) hx hb dMo_power_106 (by decide) ?_
            refine fw_lastN (pc := 107) (f2 := fun i => lN (mC (va_up X71 (x9) (1)) i)) hx hb hK.1 hw 1 b1 rfl (64 * x9) (by omega) (by decide) (by rw [lN_up, mC_one hxx (by decide)]) dMo_power_107 (fun H locs hw => ?_)
            obtain ⟨w616, e616⟩ : ∃ w_, w_ = fw_up w615 (b + 1) (.inl (cL, 1536, .inr (.inl (fun i => lN (mC (va_up X71 (x9) (1)) i))))) := ⟨_, rfl⟩
            have hw : fw_H D kCl (fw_A w (sz)) s.heap w616 (sz) H locs := by rw [e616]; exact hw
            have b0_ : w616 (b) = some (.inr (10, [.int (nI (I 0)), .ref (b + 1), .ref (b + 2), .int (nI (I 3)), .ref (b + 3), .ref (b + 4), .int (nI (I 6)), .int (nI (I 7)), .ref (b + 5), .ref (b + 6), .int (nI (I 10)), .int (nI (I 11)), .int (nI (I 12)), .int (nI (I 13)), .ref (b + 7), .ref (b + 8), .int (nI (I 16)), .int (nI (I 17)), .int (nI (I 18)), .int (nI (I 19))])) := by rw [e616, fw_un (by omega)]; exact b0
            have b2_ : w616 (b + 2) = some (.inl (cI, 24, .inl (S72))) := by rw [e616, fw_un (by omega)]; exact b2
            have b1_ : w616 (b + 1) = some (.inl (cL, 1536, .inr (.inl (fun i => lN (mC (va_up X71 (x9) (1)) i))))) := by rw [e616]; exact fw_us _ _ _
            have b0 := b0_
            have b1 := b1_
            have b2 := b2_
            have hS : moS cI cL w616 b I K S72 (mC (va_up X71 (x9) (1))) := moS.cs hS b1 b2 (fun q h1 h2 => by rw [e616, fw_un h1])
            have hoF : ∀ q, q < b ∨ b + 9 ≤ q → w616 q = w q := fun q h9 => by rw [e616, fw_un (by omega)]; exact hoF q h9
            obtain ⟨X73, eX73⟩ : ∃ X_, X_ = va_up X71 (x9) (1) := ⟨_, rfl⟩
            rw [← eX73] at hS
            have hv9 : 1 = 1 := rfl
            have hxy : X73 (x9 + 1) = Y := by rw [eX73, up_o (by omega)]; exact hxy
            have hxO : X73 (23) = 1 := by rw [eX73, up_o (by omega)]; exact hxO
            have hxx : X73 (x9) = 1 := by rw [eX73]; exact up_s.trans hv9
            have hXb : ∀ p, X73 p < nM ^ 64 := fun p => by (rw [eX73]; unfold va_up; split; (rw [hv9]; exact Nat.lt_trans (by decide +kernel) p64); exact hXb p)
            have hfr : ∀ p, p ≠ x9 → p < 18 ∨ 22 < p → X73 p = X p ∧ S72 p = S p := fun p h1 h2 => by rw [eX73, up_o (by omega)]; exact hfr p h1 h2
            have b0 : w616 b = some (.inr (10, [.int (nI (I 0)), .ref (b + 1), .ref (b + 2), .int (nI (I 3)), .ref (b + 3), .ref (b + 4), .int (nI (I 6)), .int (nI (I 7)), .ref (b + 5), .ref (b + 6), .int (nI (I 10)), .int (nI (I 11)), .int (nI (I 12)), .int (nI (I 13)), .ref (b + 7), .ref (b + 8), .int (nI (I 16)), .int (nI (I 17)), .int (nI (I 18)), .int (nI (I 19))])) := hS.1
            have b1 : w616 (b + 1) = some (.inl (cL, 1536, .inr (.inl (fun i => lN (mC X73 i))))) := hS.2.1
            have b2 : w616 (b + 2) = some (.inl (cI, 24, .inl (S72))) := hS.2.2.1
            refine lv_aload_n (pc := 108) hx hb dMo_power_108 rfl (lv_at hl 2 rfl) ?_
            refine fw_get (pc := 109) (ci := 10) (v := .ref (b + 2)) (C := RMo) (T := TMo) (N := 20) hx hb hW in_Mo hown hK.1 hw b0 rfl 2 (by decide) (hW _ lf_Mo_13) (fun _ h => h) rfl dMo_power_109 ?_
            refine lv_iload_n (pc := 112) hx hb dMo_power_112 rfl (lv_at hl 3 rfl) ?_
            refine lv_iload (pc := 113) hx hb dMo_power_113 (lv_at hl 0 rfl) ?_
            refine fw_iastN (pc := 115) (f2 := va_up S72 (x9) (nI 1)) hx hb hK.1 hw 0 b2 rfl (x9) (by omega) (by decide) (rfl) dMo_power_115 (fun H locs hw => ?_)
            obtain ⟨w617, e617⟩ : ∃ w_, w_ = fw_up w616 (b + 2) (.inl (cI, 24, .inl (va_up S72 (x9) (nI 1)))) := ⟨_, rfl⟩
            have hw : fw_H D kCl (fw_A w (sz)) s.heap w617 (sz) H locs := by rw [e617]; exact hw
            have b0_ : w617 (b) = some (.inr (10, [.int (nI (I 0)), .ref (b + 1), .ref (b + 2), .int (nI (I 3)), .ref (b + 3), .ref (b + 4), .int (nI (I 6)), .int (nI (I 7)), .ref (b + 5), .ref (b + 6), .int (nI (I 10)), .int (nI (I 11)), .int (nI (I 12)), .int (nI (I 13)), .ref (b + 7), .ref (b + 8), .int (nI (I 16)), .int (nI (I 17)), .int (nI (I 18)), .int (nI (I 19))])) := by rw [e617, fw_un (by omega)]; exact b0
            have b1_ : w617 (b + 1) = some (.inl (cL, 1536, .inr (.inl (fun i => lN (mC X73 i))))) := by rw [e617, fw_un (by omega)]; exact b1
            have b2_ : w617 (b + 2) = some (.inl (cI, 24, .inl (va_up S72 (x9) (nI 1)))) := by rw [e617]; exact fw_us _ _ _
            have b0 := b0_
            have b1 := b1_
            have b2 := b2_
            have hS : moS cI cL w617 b I K (va_up S72 (x9) (nI 1)) (mC X73) := moS.cs hS b1 b2 (fun q h1 h2 => by rw [e617, fw_un h2])
            have hoF : ∀ q, q < b ∨ b + 9 ≤ q → w617 q = w q := fun q h9 => by rw [e617, fw_un (by omega)]; exact hoF q h9
            obtain ⟨S74, eS74⟩ : ∃ S_, S_ = va_up S72 (x9) (nI 1) := ⟨_, rfl⟩
            rw [← eS74] at hS
            have hv9 : (nI 1 : Int32) = nI 1 := rfl
            have hsy : S74 (x9 + 1) = sg32 b9 := by rw [eS74, up_o (by omega)]; exact hsy
            have hsO : S74 (23) = nI 1 := by rw [eS74, up_o (by omega)]; exact hsO
            have hsx : S74 (x9) = nI 1 := by rw [eS74]; exact up_s.trans hv9
            have hfr : ∀ p, p ≠ x9 → p < 18 ∨ 22 < p → X73 p = X p ∧ S74 p = S p := fun p h1 h2 => by rw [eS74, up_o (by omega)]; exact hfr p h1 h2
            have b0 : w617 b = some (.inr (10, [.int (nI (I 0)), .ref (b + 1), .ref (b + 2), .int (nI (I 3)), .ref (b + 3), .ref (b + 4), .int (nI (I 6)), .int (nI (I 7)), .ref (b + 5), .ref (b + 6), .int (nI (I 10)), .int (nI (I 11)), .int (nI (I 12)), .int (nI (I 13)), .ref (b + 7), .ref (b + 8), .int (nI (I 16)), .int (nI (I 17)), .int (nI (I 18)), .int (nI (I 19))])) := hS.1
            have b1 : w617 (b + 1) = some (.inl (cL, 1536, .inr (.inl (fun i => lN (mC X73 i))))) := hS.2.1
            have b2 : w617 (b + 2) = some (.inl (cI, 24, .inl (S74))) := hS.2.2.1
            refine lv_iconst (pc := 116) (v := (nI 0)) hx hb dMo_power_116 (by decide) ?_
            have hsp : sPow a9 b9 = (0, 1) := by rw [hsp0, show a9 ^ Y = 1 from (by rw [hY0, Int.pow_zero])]; exact if_pos (by decide +kernel)
            exact fw_iret (pc := 117) hx hb hr hlocks hw dMo_power_117 ⟨by rw [hsp], ⟨_, _, hS, hXb, fun _ => by rw [hsp]; exact ⟨hxx, hsx.trans (by decide)⟩, hfr⟩, hoF⟩
          · rw [show (sg32 b9 : Int32) = nI 1 from (sg32_p hb0)]
            refine lv_if_ne (pc := 52) (tgt := 59) hx hb dMo_power_52 (by decide) (fun _ => ?_) (fun hc => absurd hc (by decide))
            refine lv_aload_n (pc := 59) hx hb dMo_power_59 rfl (lv_at hl 1 rfl) ?_
            refine fw_get (pc := 60) (ci := 10) (v := .ref (b + 2)) (C := RMo) (T := TMo) (N := 20) hx hb hW in_Mo hown hK.1 hw b0 rfl 2 (by decide) (hW _ lf_Mo_13) (fun _ h => h) rfl dMo_power_60 ?_
            refine lv_iload_n (pc := 63) hx hb dMo_power_63 rfl (lv_at hl 2 rfl) ?_
            refine fw_ialdN (pc := 64) (x := S (x9)) hx hb hK.1 hw 0 b2 rfl (x9) (by omega) (by decide) rfl dMo_power_64 ?_
            rw [show (S (x9) : Int32) = sg32 a9 from hsx]
            rw [show (sg32 a9 : Int32) = nI 1 from (sg32_p ha90)]
            refine lv_if_ge (pc := 65) (tgt := 76) hx hb dMo_power_65 (by decide) (fun _ => ?_) (fun hc => absurd (by decide) hc)
            refine lv_aload_n (pc := 76) hx hb dMo_power_76 rfl (lv_at hl 1 rfl) ?_
            refine fw_get (pc := 77) (ci := 10) (v := .ref (b + 2)) (C := RMo) (T := TMo) (N := 20) hx hb hW in_Mo hown hK.1 hw b0 rfl 2 (by decide) (hW _ lf_Mo_13) (fun _ h => h) rfl dMo_power_77 ?_
            refine lv_iload_n (pc := 80) hx hb dMo_power_80 rfl (lv_at hl 2 rfl) ?_
            refine fw_ialdN (pc := 81) (x := S (x9)) hx hb hK.1 hw 0 b2 rfl (x9) (by omega) (by decide) rfl dMo_power_81 ?_
            rw [show (S (x9) : Int32) = sg32 a9 from hsx]
            rw [show (sg32 a9 : Int32) = nI 1 from (sg32_p ha90)]
            refine lv_istore (pc := 82) (lv' := [(4, .int (nI 1)), (3, .int (nI 1)), (0, .ref b), (1, .int (nI x9)), (2, .int (nI (x9 + 1)))]) hx hb dMo_power_82 hl (by decide) rfl (fun ls hl => ?_)
            refine lv_aload_n (pc := 84) hx hb dMo_power_84 rfl (lv_at hl 2 rfl) ?_
            refine lv_iload_n (pc := 85) hx hb dMo_power_85 rfl (lv_at hl 3 rfl) ?_
            refine fw_cV (pc := 86) (As := [.int (nI x9)]) (rest := []) ⟨hx, hb, hml, hown, hW⟩ (c_Mo_clear (p0 := x9) hS (by omega)) (cwV 1 hW (kw_V lm_Mo_125 im_Mo_clear se_Mo_clear ini_Mo cd_Mo_clear) rfl rfl rfl (by decide +kernel) ⟨Nat.le_of_ble_eq_true rfl, Nat.le_of_ble_eq_true rfl⟩) hK hw b0 rfl rfl hl.1 rfl (Nat.le_of_ble_eq_true rfl) dMo_power_86 ⟨Nat.le_of_ble_eq_true rfl, Nat.le_of_ble_eq_true rfl⟩ (fun v w615 H locs hq hw => ?_)
            obtain ⟨rfl, hS, hn9⟩ := hq
            rw [clr_all] at hS
            have hoF : ∀ q, q < b ∨ b + 9 ≤ q → w615 q = w q := fun q h9 => (hn9 q (by omega) (by omega)).trans (hoF q h9)
            obtain ⟨X75, eX75⟩ : ∃ X_, X_ = va_up X (x9) (0) := ⟨_, rfl⟩
            rw [← eX75] at hS
            have hv9 : 0 = 0 := rfl
            have hxy : X75 (x9 + 1) = Y := by rw [eX75, up_o (by omega)]; exact hxy
            have hxO : X75 (23) = 1 := by rw [eX75, up_o (by omega)]; exact hxO
            have hxx : X75 (x9) = 0 := by rw [eX75]; exact up_s.trans hv9
            have hXb : ∀ p, X75 p < nM ^ 64 := fun p => by (rw [eX75]; unfold va_up; split; (rw [hv9]; exact Nat.pow_pos (by decide)); exact hXb p)
            have hfr : ∀ p, p ≠ x9 → p < 18 ∨ 22 < p → X75 p = X p ∧ S p = S p := fun p h1 h2 => by rw [eX75, up_o (by omega)]; exact hfr p h1 h2
            obtain ⟨S76, eS76⟩ : ∃ S_, S_ = va_up S (x9) (nI 0) := ⟨_, rfl⟩
            rw [← eS76] at hS
            have hv9 : (nI 0 : Int32) = nI 0 := rfl
            have hsy : S76 (x9 + 1) = sg32 b9 := by rw [eS76, up_o (by omega)]; exact hsy
            have hsO : S76 (23) = nI 1 := by rw [eS76, up_o (by omega)]; exact hsO
            have hsx : S76 (x9) = nI 0 := by rw [eS76]; exact up_s.trans hv9
            have hfr : ∀ p, p ≠ x9 → p < 18 ∨ 22 < p → X75 p = X p ∧ S76 p = S p := fun p h1 h2 => by rw [eS76, up_o (by omega)]; exact hfr p h1 h2
            have b0 : w615 b = some (.inr (10, [.int (nI (I 0)), .ref (b + 1), .ref (b + 2), .int (nI (I 3)), .ref (b + 3), .ref (b + 4), .int (nI (I 6)), .int (nI (I 7)), .ref (b + 5), .ref (b + 6), .int (nI (I 10)), .int (nI (I 11)), .int (nI (I 12)), .int (nI (I 13)), .ref (b + 7), .ref (b + 8), .int (nI (I 16)), .int (nI (I 17)), .int (nI (I 18)), .int (nI (I 19))])) := hS.1
            have b1 : w615 (b + 1) = some (.inl (cL, 1536, .inr (.inl (fun i => lN (mC X75 i))))) := hS.2.1
            have b2 : w615 (b + 2) = some (.inl (cI, 24, .inl (S76))) := hS.2.2.1
            refine W.eq (g2 := F0 m 89 ls []) rfl ?_
            refine lv_aload_n (pc := 89) hx hb dMo_power_89 rfl (lv_at hl 2 rfl) ?_
            refine fw_get (pc := 90) (ci := 10) (v := .ref (b + 1)) (C := RMo) (T := TMo) (N := 20) hx hb hW in_Mo hown hK.1 hw b0 rfl 1 (by decide) (hW _ lf_Mo_7) (fun _ h => h) rfl dMo_power_90 ?_
            refine lv_bipush (pc := 93) (v := (nI 64)) hx hb dMo_power_93 (by decide) ?_
            refine lv_iload_n (pc := 95) hx hb dMo_power_95 rfl (lv_at hl 3 rfl) ?_
            refine lv_imul (pc := 96) hx hb dMo_power_96 ?_
            rw [show (((nI 64) * nI x9) : Int32) = nI (64 * x9) from (nI_mul 64 x9)]
            refine lv_iload (pc := 97) hx hb dMo_power_97 (lv_at hl 0 rfl) ?_
            refine lv_if_ne (pc := 99) (tgt := 106) hx hb dMo_power_99 (by decide) (fun _ => ?_) (fun hc => absurd hc (by decide))
            refine lv_lconst (pc := 106) (v := lN 1) hx hb dMo_power_106 (by decide) ?_
            refine fw_lastN (pc := 107) (f2 := fun i => lN (mC (va_up X75 (x9) (1)) i)) hx hb hK.1 hw 1 b1 rfl (64 * x9) (by omega) (by decide) (by rw [lN_up, mC_one hxx (by decide)]) dMo_power_107 (fun H locs hw => ?_)
            obtain ⟨w616, e616⟩ : ∃ w_, w_ = fw_up w615 (b + 1) (.inl (cL, 1536, .inr (.inl (fun i => lN (mC (va_up X75 (x9) (1)) i))))) := ⟨_, rfl⟩
            have hw : fw_H D kCl (fw_A w (sz)) s.heap w616 (sz) H locs := by rw [e616]; exact hw
            have b0_ : w616 (b) = some (.inr (10, [.int (nI (I 0)), .ref (b + 1), .ref (b + 2), .int (nI (I 3)), .ref (b + 3), .ref (b + 4), .int (nI (I 6)), .int (nI (I 7)), .ref (b + 5), .ref (b + 6), .int (nI (I 10)), .int (nI (I 11)), .int (nI (I 12)), .int (nI (I 13)), .ref (b + 7), .ref (b + 8), .int (nI (I 16)), .int (nI (I 17)), .int (nI (I 18)), .int (nI (I 19))])) := by rw [e616, fw_un (by omega)]; exact b0
            have b2_ : w616 (b + 2) = some (.inl (cI, 24, .inl (S76))) := by rw [e616, fw_un (by omega)]; exact b2
            have b1_ : w616 (b + 1) = some (.inl (cL, 1536, .inr (.inl (fun i => lN (mC (va_up X75 (x9) (1)) i))))) := by rw [e616]; exact fw_us _ _ _
            have b0 := b0_
            have b1 := b1_
            have b2 := b2_
            have hS : moS cI cL w616 b I K S76 (mC (va_up X75 (x9) (1))) := moS.cs hS b1 b2 (fun q h1 h2 => by rw [e616, fw_un h1])
            have hoF : ∀ q, q < b ∨ b + 9 ≤ q → w616 q = w q := fun q h9 => by rw [e616, fw_un (by omega)]; exact hoF q h9
            obtain ⟨X77, eX77⟩ : ∃ X_, X_ = va_up X75 (x9) (1) := ⟨_, rfl⟩
            rw [← eX77] at hS
            have hv9 : 1 = 1 := rfl
            have hxy : X77 (x9 + 1) = Y := by rw [eX77, up_o (by omega)]; exact hxy
            have hxO : X77 (23) = 1 := by rw [eX77, up_o (by omega)]; exact hxO
            have hxx : X77 (x9) = 1 := by rw [eX77]; exact up_s.trans hv9
            have hXb : ∀ p, X77 p < nM ^ 64 := fun p => by (rw [eX77]; unfold va_up; split; (rw [hv9]; exact Nat.lt_trans (by decide +kernel) p64); exact hXb p)
            have hfr : ∀ p, p ≠ x9 → p < 18 ∨ 22 < p → X77 p = X p ∧ S76 p = S p := fun p h1 h2 => by rw [eX77, up_o (by omega)]; exact hfr p h1 h2
            have b0 : w616 b = some (.inr (10, [.int (nI (I 0)), .ref (b + 1), .ref (b + 2), .int (nI (I 3)), .ref (b + 3), .ref (b + 4), .int (nI (I 6)), .int (nI (I 7)), .ref (b + 5), .ref (b + 6), .int (nI (I 10)), .int (nI (I 11)), .int (nI (I 12)), .int (nI (I 13)), .ref (b + 7), .ref (b + 8), .int (nI (I 16)), .int (nI (I 17)), .int (nI (I 18)), .int (nI (I 19))])) := hS.1
            have b1 : w616 (b + 1) = some (.inl (cL, 1536, .inr (.inl (fun i => lN (mC X77 i))))) := hS.2.1
            have b2 : w616 (b + 2) = some (.inl (cI, 24, .inl (S76))) := hS.2.2.1
            refine lv_aload_n (pc := 108) hx hb dMo_power_108 rfl (lv_at hl 2 rfl) ?_
            refine fw_get (pc := 109) (ci := 10) (v := .ref (b + 2)) (C := RMo) (T := TMo) (N := 20) hx hb hW in_Mo hown hK.1 hw b0 rfl 2 (by decide) (hW _ lf_Mo_13) (fun _ h => h) rfl dMo_power_109 ?_
            refine lv_iload_n (pc := 112) hx hb dMo_power_112 rfl (lv_at hl 3 rfl) ?_
            refine lv_iload (pc := 113) hx hb dMo_power_113 (lv_at hl 0 rfl) ?_
            refine fw_iastN (pc := 115) (f2 := va_up S76 (x9) (nI 1)) hx hb hK.1 hw 0 b2 rfl (x9) (by omega) (by decide) (rfl) dMo_power_115 (fun H locs hw => ?_)
            obtain ⟨w617, e617⟩ : ∃ w_, w_ = fw_up w616 (b + 2) (.inl (cI, 24, .inl (va_up S76 (x9) (nI 1)))) := ⟨_, rfl⟩
            have hw : fw_H D kCl (fw_A w (sz)) s.heap w617 (sz) H locs := by rw [e617]; exact hw
            have b0_ : w617 (b) = some (.inr (10, [.int (nI (I 0)), .ref (b + 1), .ref (b + 2), .int (nI (I 3)), .ref (b + 3), .ref (b + 4), .int (nI (I 6)), .int (nI (I 7)), .ref (b + 5), .ref (b + 6), .int (nI (I 10)), .int (nI (I 11)), .int (nI (I 12)), .int (nI (I 13)), .ref (b + 7), .ref (b + 8), .int (nI (I 16)), .int (nI (I 17)), .int (nI (I 18)), .int (nI (I 19))])) := by rw [e617, fw_un (by omega)]; exact b0
            have b1_ : w617 (b + 1) = some (.inl (cL, 1536, .inr (.inl (fun i => lN (mC X77 i))))) := by rw [e617, fw_un (by omega)]; exact b1
            have b2_ : w617 (b + 2) = some (.inl (cI, 24, .inl (va_up S76 (x9) (nI 1)))) := by rw [e617]; exact fw_us _ _ _
            have b0 := b0_
            have b1 := b1_
            have b2 := b2_
            have hS : moS cI cL w617 b I K (va_up S76 (x9) (nI 1)) (mC X77) := moS.cs hS b1 b2 (fun q h1 h2 => by rw [e617, fw_un h2])
            have hoF : ∀ q, q < b ∨ b + 9 ≤ q → w617 q = w q := fun q h9 => by rw [e617, fw_un (by omega)]; exact hoF q h9
            obtain ⟨S78, eS78⟩ : ∃ S_, S_ = va_up S76 (x9) (nI 1) := ⟨_, rfl⟩
            rw [← eS78] at hS
            have hv9 : (nI 1 : Int32) = nI 1 := rfl
            have hsy : S78 (x9 + 1) = sg32 b9 := by rw [eS78, up_o (by omega)]; exact hsy
            have hsO : S78 (23) = nI 1 := by rw [eS78, up_o (by omega)]; exact hsO
            have hsx : S78 (x9) = nI 1 := by rw [eS78]; exact up_s.trans hv9
            have hfr : ∀ p, p ≠ x9 → p < 18 ∨ 22 < p → X77 p = X p ∧ S78 p = S p := fun p h1 h2 => by rw [eS78, up_o (by omega)]; exact hfr p h1 h2
            have b0 : w617 b = some (.inr (10, [.int (nI (I 0)), .ref (b + 1), .ref (b + 2), .int (nI (I 3)), .ref (b + 3), .ref (b + 4), .int (nI (I 6)), .int (nI (I 7)), .ref (b + 5), .ref (b + 6), .int (nI (I 10)), .int (nI (I 11)), .int (nI (I 12)), .int (nI (I 13)), .ref (b + 7), .ref (b + 8), .int (nI (I 16)), .int (nI (I 17)), .int (nI (I 18)), .int (nI (I 19))])) := hS.1
            have b1 : w617 (b + 1) = some (.inl (cL, 1536, .inr (.inl (fun i => lN (mC X77 i))))) := hS.2.1
            have b2 : w617 (b + 2) = some (.inl (cI, 24, .inl (S78))) := hS.2.2.1
            refine lv_iconst (pc := 116) (v := (nI 0)) hx hb dMo_power_116 (by decide) ?_
            have hsp : sPow a9 b9 = (0, 1) := by rw [hsp0, show a9 ^ Y = 1 from (by rw [show a9 = 1 by omega, Int.one_pow])]; exact if_pos (by decide +kernel)
            exact fw_iret (pc := 117) hx hb hr hlocks hw dMo_power_117 ⟨by rw [hsp], ⟨_, _, hS, hXb, fun _ => by rw [hsp]; exact ⟨hxx, hsx.trans (by decide)⟩, hfr⟩, hoF⟩
        · rw [show (ordI A 1 : Int32) = nI 1 from (ordI_gt hA1)]
          refine lv_if_ne (pc := 43) (tgt := 118) hx hb dMo_power_43 (by decide) (fun _ => ?_) (fun hc => absurd hc (by decide))
          have hbig : 768 ≤ Y → 2 ^ 768 ≤ A ^ Y := fun h9 => Nat.le_trans (Nat.pow_le_pow_left (show 2 ≤ A from hA1) 768) (Nat.pow_le_pow_right (by omega) h9)
          have hsix : 2 ^ 768 ≤ A ^ Y → sPow a9 b9 = (6, a9) := fun h9 => by rw [hsp0]; unfold sFit; rw [hpa, if_neg (by omega)]
          refine lv_aload_n (pc := 118) hx hb dMo_power_118 rfl (lv_at hl 1 rfl) ?_
          refine lv_iload_n (pc := 119) hx hb dMo_power_119 rfl (lv_at hl 3 rfl) ?_
          refine fw_cVR (pc := 120) (As := [.int (nI (x9 + 1))]) (rest := []) ⟨hx, hb, hml, hown, hW⟩ (c_Mo_bits (p0 := x9 + 1) hS hXb (by omega)) (cwV 1 hW (kw_V lm_Mo_162 im_Mo_bits se_Mo_bits ini_Mo cd_Mo_bits) rfl rfl rfl (by decide +kernel) ⟨Nat.le_of_ble_eq_true rfl, Nat.le_of_ble_eq_true rfl⟩) hK hw b0 rfl rfl hl.1 rfl (Nat.le_of_ble_eq_true rfl) dMo_power_120 ⟨Nat.le_of_ble_eq_true rfl, Nat.le_of_ble_eq_true rfl⟩ (fun v hq => ?_)
          rw [hxy] at hq
          have hbl9 := bt_ub b97
          subst hq
          refine W.eq (g2 := F0 m 123 ls [.int (nI (bl Y))]) rfl ?_
          refine lv_bipush (pc := 123) (v := (nI 10)) hx hb dMo_power_123 (by decide) ?_
          rcases (show 10 < bl Y ∨ bl Y ≤ 10 by omega) with hbl | hbl
          · refine lv_icmp_gt (pc := 125) (tgt := 144) hx hb dMo_power_125 (by decide) (fun _ => ?_) (fun hc => absurd ((nI_ltI (by decide) (by omega)).mpr hbl) hc)
            refine lv_bipush (pc := 144) (v := (nI 6)) hx hb dMo_power_144 (by decide) ?_
            have hsp : sPow a9 b9 = (6, a9) := hsix (hbig (by have h9 := (bt_le (show Y ≠ 0 from fun h8 => by rw [h8] at hbl; exact absurd hbl (by decide))).1; have h8 : 2 ^ 10 ≤ 2 ^ (bl Y - 1) := Nat.pow_le_pow_right (by decide) (by omega); omega))
            exact fw_iret (pc := 146) hx hb hr hlocks hw dMo_power_146 ⟨by rw [hsp], ⟨_, _, hS, hXb, fun h9 => absurd h9 (by rw [hsp]; show ¬ (6 : Nat) = 0; decide), hfr⟩, hoF⟩
          · refine lv_icmp_gt (pc := 125) (tgt := 144) hx hb dMo_power_125 (by decide) (fun hc => absurd hc (nI_nlt hbl (by decide))) (fun _ => ?_)
            have hY10 : Y < 1024 := by have h9 := bt_lt Y; have h8 : 2 ^ bl Y ≤ 2 ^ 10 := Nat.pow_le_pow_right (by decide) hbl; omega
            have hc0 : mC X (64 * (x9 + 1)) = Y := by have h9 := mC_at X (p := x9 + 1) (i := 0) (by decide); rw [Nat.add_zero, hxy, Nat.pow_zero, Nat.div_one] at h9; rw [h9]; exact Nat.mod_eq_of_lt (Nat.lt_trans hY10 (by decide))
            refine lv_aload_n (pc := 128) hx hb dMo_power_128 rfl (lv_at hl 1 rfl) ?_
            refine fw_get (pc := 129) (ci := 10) (v := .ref (b + 1)) (C := RMo) (T := TMo) (N := 20) hx hb hW in_Mo hown hK.1 hw b0 rfl 1 (by decide) (hW _ lf_Mo_7) (fun _ h => h) rfl dMo_power_129 ?_
            refine lv_bipush (pc := 132) (v := (nI 64)) hx hb dMo_power_132 (by decide) ?_
            refine lv_iload_n (pc := 134) hx hb dMo_power_134 rfl (lv_at hl 3 rfl) ?_
            refine lv_imul (pc := 135) hx hb dMo_power_135 ?_
            rw [show (((nI 64) * nI (x9 + 1)) : Int32) = nI (64 * (x9 + 1)) from (nI_mul 64 (x9 + 1))]
            refine fw_laldN (pc := 136) (x := lN (mC X (64 * (x9 + 1)))) hx hb hK.1 hw 1 b1 rfl (64 * (x9 + 1)) (by omega) (by decide) rfl dMo_power_136 ?_
            rw [show (lN (mC X (64 * (x9 + 1))) : Int64) = lN Y from (by rw [hc0])]
            refine lv_ldc2 (pc := 137) (v := lN 767) hx hb hown (hW _ kl_Mo_165) dMo_power_137 ?_
            refine W.lcmp (pc := 140) hx hb dMo_power_140 ?_
            rcases (show Y ≤ 767 ∨ 767 < Y by omega) with hY7 | hY7
            · refine lv_if_le (pc := 141) (tgt := 147) hx hb dMo_power_141 (by decide) (fun _ => ?_) (fun hc => absurd ((lg_cmp_le _ _).mpr ((pk_lLE (by omega) (by decide)).mpr hY7)) hc)
              refine lv_iload_n (pc := 147) hx hb dMo_power_147 rfl (lv_at hl 0 rfl) ?_
              refine lv_if_eq (pc := 148) (tgt := 160) hx hb dMo_power_148 (by decide) (fun hc => absurd hc (show ¬ nI 1 = 0 by decide)) (fun _ => ?_)
              refine lv_aload_n (pc := 151) hx hb dMo_power_151 rfl (lv_at hl 1 rfl) ?_
              refine fw_get (pc := 152) (ci := 10) (v := .ref (b + 2)) (C := RMo) (T := TMo) (N := 20) hx hb hW in_Mo hown hK.1 hw b0 rfl 2 (by decide) (hW _ lf_Mo_13) (fun _ h => h) rfl dMo_power_152 ?_
              refine lv_iload_n (pc := 155) hx hb dMo_power_155 rfl (lv_at hl 2 rfl) ?_
              refine fw_ialdN (pc := 156) (x := S (x9)) hx hb hK.1 hw 0 b2 rfl (x9) (by omega) (by decide) rfl dMo_power_156 ?_
              rw [show (S (x9) : Int32) = sg32 a9 from hsx]
              rw [show (sg32 a9 : Int32) = nI 1 from (sg32_p ha90)]
              have hsr : sg32 (a9 ^ Y) = nI 1 := sg32_p (Int.pow_pos ha90)
              refine lv_goto (pc := 157) (tgt := 161) hx hb dMo_power_157 (by decide) ?_
              refine lv_istore (pc := 161) (lv' := [(4, .int (nI 1)), (3, .int (nI 1)), (0, .ref b), (1, .int (nI x9)), (2, .int (nI (x9 + 1)))]) hx hb dMo_power_161 hl (by decide) rfl (fun ls hl => ?_)
              refine lv_aload_n (pc := 163) hx hb dMo_power_163 rfl (lv_at hl 2 rfl) ?_
              refine fw_get (pc := 164) (ci := 10) (v := .ref (b + 1)) (C := RMo) (T := TMo) (N := 20) hx hb hW in_Mo hown hK.1 hw b0 rfl 1 (by decide) (hW _ lf_Mo_7) (fun _ h => h) rfl dMo_power_164 ?_
              refine lv_bipush (pc := 167) (v := (nI 64)) hx hb dMo_power_167 (by decide) ?_
              refine lv_iload_n (pc := 169) hx hb dMo_power_169 rfl (lv_at hl 4 rfl) ?_
              refine lv_imul (pc := 170) hx hb dMo_power_170 ?_
              rw [show (((nI 64) * nI (x9 + 1)) : Int32) = nI (64 * (x9 + 1)) from (nI_mul 64 (x9 + 1))]
              refine fw_laldN (pc := 171) (x := lN (mC X (64 * (x9 + 1)))) hx hb hK.1 hw 1 b1 rfl (64 * (x9 + 1)) (by omega) (by decide) rfl dMo_power_171 ?_
              rw [show (lN (mC X (64 * (x9 + 1))) : Int64) = lN Y from (by rw [hc0])]
              refine lv_l2i (pc := 172) (v := nI Y) hx hb dMo_power_172 (lN_i Y) ?_
              refine lv_istore (pc := 173) (lv' := [(5, .int (nI Y)), (4, .int (nI 1)), (3, .int (nI 1)), (0, .ref b), (1, .int (nI x9)), (2, .int (nI (x9 + 1)))]) hx hb dMo_power_173 hl (by decide) rfl (fun ls hl => ?_)
              refine lv_aload_n (pc := 175) hx hb dMo_power_175 rfl (lv_at hl 3 rfl) ?_
              refine lv_iload_n (pc := 176) hx hb dMo_power_176 rfl (lv_at hl 4 rfl) ?_
              refine lv_bipush (pc := 177) (v := (nI 19)) hx hb dMo_power_177 (by decide) ?_
              have loop : ∀ (e0 i : Nat), i + e0 = Y → A ^ i < nM ^ 64 → ∀ (w1 : fw_W) (H : Heap) (locs : List Loc) (ls : Array Slot) (S1 : Nat → Int32) (X1 : Nat → Nat), fw_H D kCl (fw_A w (sz)) s.heap w1 (sz) H locs → lv_has ls 7 [(6, .int (nI i)), (5, .int (nI Y)), (4, .int (nI 1)), (3, .int (nI 1)), (0, .ref b), (1, .int (nI x9)), (2, .int (nI (x9 + 1)))] → moS cI cL w1 b I K S1 (mC X1) → (∀ p, X1 p < nM ^ 64) → X1 x9 = A ^ i → X1 19 = A → (∀ p, p ≠ x9 → p < 18 ∨ 22 < p → X1 p = X p ∧ S1 p = S p) → (∀ q, q < b ∨ b + 9 ≤ q → w1 q = w q) → W p l e ({ frames := 2, cells := 0, slots := 0, locals := 55 } : Room) s m args below meth c H locs 0 0 (MQ below (fw_Q D kCl w (sz) 0 (fun v w' => v = some (.int (nI (sPow a9 b9).1)) ∧ (∃ S2 X2, moS cI cL w' b I K S2 (mC X2) ∧ (∀ p, X2 p < nM ^ 64) ∧ ((sPow a9 b9).1 = 0 → X2 x9 = Int.natAbs (sPow a9 b9).2 ∧ S2 x9 = sg32 (sPow a9 b9).2) ∧ ∀ p, p ≠ x9 → p < 18 ∨ 22 < p → X2 p = X p ∧ S2 p = S p) ∧ ∀ q, q < b ∨ b + 9 ≤ q → w' q = w q)) args s 0 0 (fw_A w (sz))) (F0 m 192 ls []) := by
                intro e0
                induction e0 with
                | zero =>
                  intro i hie hAi w1 H locs ls S1 X1 hw hl hS hXb hxx hxB hfr hoF
                  have b0 : w1 b = some (.inr (10, [.int (nI (I 0)), .ref (b + 1), .ref (b + 2), .int (nI (I 3)), .ref (b + 3), .ref (b + 4), .int (nI (I 6)), .int (nI (I 7)), .ref (b + 5), .ref (b + 6), .int (nI (I 10)), .int (nI (I 11)), .int (nI (I 12)), .int (nI (I 13)), .ref (b + 7), .ref (b + 8), .int (nI (I 16)), .int (nI (I 17)), .int (nI (I 18)), .int (nI (I 19))])) := hS.1
                  have b1 : w1 (b + 1) = some (.inl (cL, 1536, .inr (.inl (fun i => lN (mC X1 i))))) := hS.2.1
                  have b2 : w1 (b + 2) = some (.inl (cI, 24, .inl (S1))) := hS.2.2.1
                  refine lv_iload (pc := 192) hx hb dMo_power_192 (lv_at hl 0 rfl) ?_
                  refine lv_iload (pc := 194) hx hb dMo_power_194 (lv_at hl 1 rfl) ?_
                  refine lv_icmp_ge (pc := 196) (tgt := 229) hx hb dMo_power_196 (by decide) (fun _ => ?_) (fun hc => absurd (nI_le (show Y ≤ i by omega) (by omega)) hc)
                  refine lv_aload_n (pc := 229) hx hb dMo_power_229 rfl (lv_at hl 4 rfl) ?_
                  refine fw_get (pc := 230) (ci := 10) (v := .ref (b + 2)) (C := RMo) (T := TMo) (N := 20) hx hb hW in_Mo hown hK.1 hw b0 rfl 2 (by decide) (hW _ lf_Mo_13) (fun _ h => h) rfl dMo_power_230 ?_
                  refine lv_iload_n (pc := 233) hx hb dMo_power_233 rfl (lv_at hl 5 rfl) ?_
                  refine lv_iload (pc := 234) hx hb dMo_power_234 (lv_at hl 2 rfl) ?_
                  refine fw_iastN (pc := 236) (f2 := va_up S1 (x9) (nI 1)) hx hb hK.1 hw 0 b2 rfl (x9) (by omega) (by decide) (rfl) dMo_power_236 (fun H locs hw => ?_)
                  obtain ⟨w501, e501⟩ : ∃ w_, w_ = fw_up w1 (b + 2) (.inl (cI, 24, .inl (va_up S1 (x9) (nI 1)))) := ⟨_, rfl⟩
                  have hw : fw_H D kCl (fw_A w (sz)) s.heap w501 (sz) H locs := by rw [e501]; exact hw
                  have b0_ : w501 (b) = some (.inr (10, [.int (nI (I 0)), .ref (b + 1), .ref (b + 2), .int (nI (I 3)), .ref (b + 3), .ref (b + 4), .int (nI (I 6)), .int (nI (I 7)), .ref (b + 5), .ref (b + 6), .int (nI (I 10)), .int (nI (I 11)), .int (nI (I 12)), .int (nI (I 13)), .ref (b + 7), .ref (b + 8), .int (nI (I 16)), .int (nI (I 17)), .int (nI (I 18)), .int (nI (I 19))])) := by rw [e501, fw_un (by omega)]; exact b0
                  have b1_ : w501 (b + 1) = some (.inl (cL, 1536, .inr (.inl (fun i => lN (mC X1 i))))) := by rw [e501, fw_un (by omega)]; exact b1
                  have b2_ : w501 (b + 2) = some (.inl (cI, 24, .inl (va_up S1 (x9) (nI 1)))) := by rw [e501]; exact fw_us _ _ _
                  have b0 := b0_
                  have b1 := b1_
                  have b2 := b2_
                  have hS : moS cI cL w501 b I K (va_up S1 (x9) (nI 1)) (mC X1) := moS.cs hS b1 b2 (fun q h1 h2 => by rw [e501, fw_un h2])
                  have hoF : ∀ q, q < b ∨ b + 9 ≤ q → w501 q = w q := fun q h9 => by rw [e501, fw_un (by omega)]; exact hoF q h9
                  obtain ⟨S79, eS79⟩ : ∃ S_, S_ = va_up S1 (x9) (nI 1) := ⟨_, rfl⟩
                  rw [← eS79] at hS
                  have hv9 : (nI 1 : Int32) = nI 1 := rfl
                  have hsx : S79 (x9) = nI 1 := by rw [eS79]; exact up_s.trans hv9
                  have hfr : ∀ p, p ≠ x9 → p < 18 ∨ 22 < p → X1 p = X p ∧ S79 p = S p := fun p h1 h2 => by rw [eS79, up_o (by omega)]; exact hfr p h1 h2
                  have b0 : w501 b = some (.inr (10, [.int (nI (I 0)), .ref (b + 1), .ref (b + 2), .int (nI (I 3)), .ref (b + 3), .ref (b + 4), .int (nI (I 6)), .int (nI (I 7)), .ref (b + 5), .ref (b + 6), .int (nI (I 10)), .int (nI (I 11)), .int (nI (I 12)), .int (nI (I 13)), .ref (b + 7), .ref (b + 8), .int (nI (I 16)), .int (nI (I 17)), .int (nI (I 18)), .int (nI (I 19))])) := hS.1
                  have b1 : w501 (b + 1) = some (.inl (cL, 1536, .inr (.inl (fun i => lN (mC X1 i))))) := hS.2.1
                  have b2 : w501 (b + 2) = some (.inl (cI, 24, .inl (S79))) := hS.2.2.1
                  refine lv_aload_n (pc := 237) hx hb dMo_power_237 rfl (lv_at hl 4 rfl) ?_
                  refine lv_iload_n (pc := 238) hx hb dMo_power_238 rfl (lv_at hl 5 rfl) ?_
                  have hiY : i = Y := by omega
                  rw [hiY, ← hpa] at hxx
                  rw [← hsr] at hsx
                  refine fw_cVR (pc := 239) (As := [.int (nI x9)]) (rest := []) ⟨hx, hb, hml, hown, hW⟩ (c_Mo_isGreat hS hXb (by omega)) (cwV 1 hW (kw_V lm_Mo_152 im_Mo_isGreat se_Mo_isGreat ini_Mo cd_Mo_isGreat) rfl rfl rfl (by decide +kernel) ⟨Nat.le_of_ble_eq_true rfl, Nat.le_of_ble_eq_true rfl⟩) hK hw b0 rfl rfl hl.1 rfl (Nat.le_of_ble_eq_true rfl) dMo_power_239 ⟨Nat.le_of_ble_eq_true rfl, Nat.le_of_ble_eq_true rfl⟩ (fun v hq => ?_)
                  have hxr : X1 x9 = Int.natAbs (a9 ^ Y) := hxx
                  rw [hxr] at hq
                  by_cases hg9 : Int.natAbs (a9 ^ Y) < 2 ^ 768
                  · subst hq
                    rw [if_pos hg9]
                    refine W.eq (g2 := F0 m 242 ls [.int (nI 0)]) rfl ?_
                    refine lv_if_eq (pc := 242) (tgt := 250) hx hb dMo_power_242 (by decide) (fun _ => ?_) (fun hc => absurd (show nI 0 = 0 by decide) hc)
                    refine lv_iconst (pc := 250) (v := (nI 0)) hx hb dMo_power_250 (by decide) ?_
                    have hsp : sPow a9 b9 = (0, (a9 ^ Y)) := hsp0.trans (if_pos hg9)
                    exact fw_iret (pc := 251) hx hb hr hlocks hw dMo_power_251 ⟨by rw [hsp], ⟨_, _, hS, hXb, fun _ => by rw [hsp]; exact ⟨hxr, hsx⟩, hfr⟩, hoF⟩
                  · subst hq
                    rw [if_neg hg9]
                    refine W.eq (g2 := F0 m 242 ls [.int (nI 1)]) rfl ?_
                    refine lv_if_eq (pc := 242) (tgt := 250) hx hb dMo_power_242 (by decide) (fun hc => absurd hc (show ¬ nI 1 = 0 by decide)) (fun _ => ?_)
                    refine lv_bipush (pc := 245) (v := (nI 6)) hx hb dMo_power_245 (by decide) ?_
                    refine lv_goto (pc := 247) (tgt := 251) hx hb dMo_power_247 (by decide) ?_
                    have hsp : (sPow a9 b9).1 = 6 := by rw [hsp0, sFit_1, if_neg hg9]
                    exact fw_iret (pc := 251) hx hb hr hlocks hw dMo_power_251 ⟨by rw [hsp], ⟨_, _, hS, hXb, fun h9 => absurd h9 (by rw [hsp]; decide), hfr⟩, hoF⟩
                | succ e0 ih =>
                  intro i hie hAi w1 H locs ls S1 X1 hw hl hS hXb hxx hxB hfr hoF
                  have b0 : w1 b = some (.inr (10, [.int (nI (I 0)), .ref (b + 1), .ref (b + 2), .int (nI (I 3)), .ref (b + 3), .ref (b + 4), .int (nI (I 6)), .int (nI (I 7)), .ref (b + 5), .ref (b + 6), .int (nI (I 10)), .int (nI (I 11)), .int (nI (I 12)), .int (nI (I 13)), .ref (b + 7), .ref (b + 8), .int (nI (I 16)), .int (nI (I 17)), .int (nI (I 18)), .int (nI (I 19))])) := hS.1
                  have b1 : w1 (b + 1) = some (.inl (cL, 1536, .inr (.inl (fun i => lN (mC X1 i))))) := hS.2.1
                  have b2 : w1 (b + 2) = some (.inl (cI, 24, .inl (S1))) := hS.2.2.1
                  refine lv_iload (pc := 192) hx hb dMo_power_192 (lv_at hl 0 rfl) ?_
                  refine lv_iload (pc := 194) hx hb dMo_power_194 (lv_at hl 1 rfl) ?_
                  refine lv_icmp_ge (pc := 196) (tgt := 229) hx hb dMo_power_196 (by decide) (fun hc => absurd hc (nI_ge (show i < Y by omega) (by omega))) (fun _ => ?_)
                  refine lv_aload_n (pc := 199) hx hb dMo_power_199 rfl (lv_at hl 4 rfl) ?_
                  refine lv_iload_n (pc := 200) hx hb dMo_power_200 rfl (lv_at hl 5 rfl) ?_
                  refine fw_cVR (pc := 201) (As := [.int (nI x9)]) (rest := []) ⟨hx, hb, hml, hown, hW⟩ (c_Mo_isGreat (p0 := x9) hS hXb (by omega)) (cwV 1 hW (kw_V lm_Mo_152 im_Mo_isGreat se_Mo_isGreat ini_Mo cd_Mo_isGreat) rfl rfl rfl (by decide +kernel) ⟨Nat.le_of_ble_eq_true rfl, Nat.le_of_ble_eq_true rfl⟩) hK hw b0 rfl rfl hl.1 rfl (Nat.le_of_ble_eq_true rfl) dMo_power_201 ⟨Nat.le_of_ble_eq_true rfl, Nat.le_of_ble_eq_true rfl⟩ (fun v hq => ?_)
                  rw [hxx] at hq
                  by_cases hg8 : A ^ i < 2 ^ 768
                  · subst hq
                    rw [if_pos hg8]
                    refine W.eq (g2 := F0 m 204 ls [.int (nI 0)]) rfl ?_
                    refine lv_if_ne (pc := 204) (tgt := 229) hx hb dMo_power_204 (by decide) (fun hc => absurd hc (fun h => h (by decide))) (fun _ => ?_)
                    refine lv_aload_n (pc := 207) hx hb dMo_power_207 rfl (lv_at hl 4 rfl) ?_
                    refine lv_iload_n (pc := 208) hx hb dMo_power_208 rfl (lv_at hl 5 rfl) ?_
                    refine lv_bipush (pc := 209) (v := (nI 19)) hx hb dMo_power_209 (by decide) ?_
                    refine lv_bipush (pc := 211) (v := (nI 21)) hx hb dMo_power_211 (by decide) ?_
                    refine fw_cV (pc := 213) (As := [.int (nI x9), .int (nI 19), .int (nI 21)]) (rest := []) ⟨hx, hb, hml, hown, hW⟩ (c_Mo_multiply (pa := x9) (pb := 19) (pt := 21) hS hXb (by omega) (by decide) (by decide) (by omega) (by decide) (by rw [hxx, ← q32]; exact hg8) (by rw [hxB, ← q32]; exact a97)) (cwV 3 hW (kw_V lm_Mo_155 im_Mo_multiply se_Mo_multiply ini_Mo cd_Mo_multiply) rfl rfl rfl (by decide +kernel) ⟨Nat.le_of_ble_eq_true rfl, Nat.le_of_ble_eq_true rfl⟩) hK hw b0 rfl rfl hl.1 rfl (Nat.le_of_ble_eq_true rfl) dMo_power_213 ⟨Nat.le_of_ble_eq_true rfl, Nat.le_of_ble_eq_true rfl⟩ (fun v w501 H locs hq hw => ?_)
                    obtain ⟨rfl, hS, hn9⟩ := hq
                    have hoF : ∀ q, q < b ∨ b + 9 ≤ q → w501 q = w q := fun q h9 => (hn9 q h9).trans (hoF q h9)
                    have hB9 : A ^ (i + 1) < nM ^ 64 := by rw [Nat.pow_succ]; exact Nat.lt_of_le_of_lt (Nat.mul_le_mul (Nat.le_sub_one_of_lt hg8) (Nat.le_sub_one_of_lt a97)) (by decide +kernel)
                    obtain ⟨X80, eX80⟩ : ∃ X_, X_ = va_up X1 (21) (X1 (x9) * X1 (19)) := ⟨_, rfl⟩
                    rw [← eX80] at hS
                    have hv9 : X1 (x9) * X1 (19) = A ^ (i + 1) := (by rw [hxx, hxB, Nat.pow_succ])
                    have hxx : X80 (x9) = A ^ i := by rw [eX80, up_o (by omega)]; exact hxx
                    have hxB : X80 (19) = A := by rw [eX80, up_o (by omega)]; exact hxB
                    have hxP : X80 (21) = A ^ (i + 1) := by rw [eX80]; exact up_s.trans hv9
                    have hXb : ∀ p, X80 p < nM ^ 64 := fun p => by (rw [eX80]; unfold va_up; split; (rw [hv9]; exact hB9); exact hXb p)
                    have hfr : ∀ p, p ≠ x9 → p < 18 ∨ 22 < p → X80 p = X p ∧ S1 p = S p := fun p h1 h2 => by rw [eX80, up_o (by omega)]; exact hfr p h1 h2
                    obtain ⟨S81, eS81⟩ : ∃ S_, S_ = va_up S1 (21) (nI 0) := ⟨_, rfl⟩
                    rw [← eS81] at hS
                    have hv9 : (nI 0 : Int32) = nI 0 := rfl
                    have hsP : S81 (21) = nI 0 := by rw [eS81]; exact up_s.trans hv9
                    have hfr : ∀ p, p ≠ x9 → p < 18 ∨ 22 < p → X80 p = X p ∧ S81 p = S p := fun p h1 h2 => by rw [eS81, up_o (by omega)]; exact hfr p h1 h2
                    have b0 : w501 b = some (.inr (10, [.int (nI (I 0)), .ref (b + 1), .ref (b + 2), .int (nI (I 3)), .ref (b + 3), .ref (b + 4), .int (nI (I 6)), .int (nI (I 7)), .ref (b + 5), .ref (b + 6), .int (nI (I 10)), .int (nI (I 11)), .int (nI (I 12)), .int (nI (I 13)), .ref (b + 7), .ref (b + 8), .int (nI (I 16)), .int (nI (I 17)), .int (nI (I 18)), .int (nI (I 19))])) := hS.1
                    have b1 : w501 (b + 1) = some (.inl (cL, 1536, .inr (.inl (fun i => lN (mC X80 i))))) := hS.2.1
                    have b2 : w501 (b + 2) = some (.inl (cI, 24, .inl (S81))) := hS.2.2.1
                    refine W.eq (g2 := F0 m 216 ls []) rfl ?_
                    refine lv_aload_n (pc := 216) hx hb dMo_power_216 rfl (lv_at hl 4 rfl) ?_
                    refine lv_bipush (pc := 217) (v := (nI 21)) hx hb dMo_power_217 (by decide) ?_
                    refine lv_iload_n (pc := 219) hx hb dMo_power_219 rfl (lv_at hl 5 rfl) ?_
                    refine fw_cV (pc := 220) (As := [.int (nI 21), .int (nI x9)]) (rest := []) ⟨hx, hb, hml, hown, hW⟩ (c_Mo_copy (pa := 21) (pc9 := x9) hS hXb (by omega) (by omega) (by omega)) (cwV 2 hW (kw_V lm_Mo_143 im_Mo_copy se_Mo_copy ini_Mo cd_Mo_copy) rfl rfl rfl (by decide +kernel) ⟨Nat.le_of_ble_eq_true rfl, Nat.le_of_ble_eq_true rfl⟩) hK hw b0 rfl rfl hl.1 rfl (Nat.le_of_ble_eq_true rfl) dMo_power_220 ⟨Nat.le_of_ble_eq_true rfl, Nat.le_of_ble_eq_true rfl⟩ (fun v w502 H locs hq hw => ?_)
                    obtain ⟨rfl, hS, hn9⟩ := hq
                    have hoF : ∀ q, q < b ∨ b + 9 ≤ q → w502 q = w q := fun q h9 => (hn9 q h9).trans (hoF q h9)
                    have hB9 : A ^ (i + 1) < nM ^ 64 := by rw [← hxP]; exact hXb _
                    obtain ⟨X82, eX82⟩ : ∃ X_, X_ = va_up X80 (x9) (X80 (21)) := ⟨_, rfl⟩
                    rw [← eX82] at hS
                    have hv9 : X80 (21) = A ^ (i + 1) := hxP
                    have hxB : X82 (19) = A := by rw [eX82, up_o (by omega)]; exact hxB
                    have hxP : X82 (21) = A ^ (i + 1) := by rw [eX82, up_o (by omega)]; exact hxP
                    have hxx : X82 (x9) = A ^ (i + 1) := by rw [eX82]; exact up_s.trans hv9
                    have hXb : ∀ p, X82 p < nM ^ 64 := fun p => by (rw [eX82]; unfold va_up; split; (rw [hv9]; exact hB9); exact hXb p)
                    have hfr : ∀ p, p ≠ x9 → p < 18 ∨ 22 < p → X82 p = X p ∧ S81 p = S p := fun p h1 h2 => by rw [eX82, up_o (by omega)]; exact hfr p h1 h2
                    obtain ⟨S83, eS83⟩ : ∃ S_, S_ = va_up S81 (x9) (S81 (21)) := ⟨_, rfl⟩
                    rw [← eS83] at hS
                    have hv9 : (S81 (21) : Int32) = nI 0 := hsP
                    have hsP : S83 (21) = nI 0 := by rw [eS83, up_o (by omega)]; exact hsP
                    have hsx : S83 (x9) = nI 0 := by rw [eS83]; exact up_s.trans hv9
                    have hfr : ∀ p, p ≠ x9 → p < 18 ∨ 22 < p → X82 p = X p ∧ S83 p = S p := fun p h1 h2 => by rw [eS83, up_o (by omega)]; exact hfr p h1 h2
                    have b0 : w502 b = some (.inr (10, [.int (nI (I 0)), .ref (b + 1), .ref (b + 2), .int (nI (I 3)), .ref (b + 3), .ref (b + 4), .int (nI (I 6)), .int (nI (I 7)), .ref (b + 5), .ref (b + 6), .int (nI (I 10)), .int (nI (I 11)), .int (nI (I 12)), .int (nI (I 13)), .ref (b + 7), .ref (b + 8), .int (nI (I 16)), .int (nI (I 17)), .int (nI (I 18)), .int (nI (I 19))])) := hS.1
                    have b1 : w502 (b + 1) = some (.inl (cL, 1536, .inr (.inl (fun i => lN (mC X82 i))))) := hS.2.1
                    have b2 : w502 (b + 2) = some (.inl (cI, 24, .inl (S83))) := hS.2.2.1
                    refine W.eq (g2 := F0 m 223 ls []) rfl ?_
                    refine lv_iinc (pc := 223) (lv' := [(6, .int (nI (i + 1))), (5, .int (nI Y)), (4, .int (nI 1)), (3, .int (nI 1)), (0, .ref b), (1, .int (nI x9)), (2, .int (nI (x9 + 1)))]) hx hb dMo_power_223 hl (k := 0) rfl ((nI_add i 1)) (by decide) rfl (fun ls hl => ?_)
                    refine lv_goto (pc := 226) (tgt := 192) hx hb dMo_power_226 (by decide) ?_
                    exact ih (i + 1) (by omega) hB9 _ H locs ls _ _ hw (lv_sub hl [0, 1, 2, 3, 4, 5, 6] rfl) hS hXb hxx hxB hfr hoF
                  · subst hq
                    rw [if_neg hg8]
                    refine W.eq (g2 := F0 m 204 ls [.int (nI 1)]) rfl ?_
                    refine lv_if_ne (pc := 204) (tgt := 229) hx hb dMo_power_204 (by decide) (fun _ => ?_) (fun hc => absurd hc (by decide))
                    refine lv_aload_n (pc := 229) hx hb dMo_power_229 rfl (lv_at hl 4 rfl) ?_
                    refine fw_get (pc := 230) (ci := 10) (v := .ref (b + 2)) (C := RMo) (T := TMo) (N := 20) hx hb hW in_Mo hown hK.1 hw b0 rfl 2 (by decide) (hW _ lf_Mo_13) (fun _ h => h) rfl dMo_power_230 ?_
                    refine lv_iload_n (pc := 233) hx hb dMo_power_233 rfl (lv_at hl 5 rfl) ?_
                    refine lv_iload (pc := 234) hx hb dMo_power_234 (lv_at hl 2 rfl) ?_
                    refine fw_iastN (pc := 236) (f2 := va_up S1 (x9) (nI 1)) hx hb hK.1 hw 0 b2 rfl (x9) (by omega) (by decide) (rfl) dMo_power_236 (fun H locs hw => ?_)
                    obtain ⟨w501, e501⟩ : ∃ w_, w_ = fw_up w1 (b + 2) (.inl (cI, 24, .inl (va_up S1 (x9) (nI 1)))) := ⟨_, rfl⟩
                    have hw : fw_H D kCl (fw_A w (sz)) s.heap w501 (sz) H locs := by rw [e501]; exact hw
                    have b0_ : w501 (b) = some (.inr (10, [.int (nI (I 0)), .ref (b + 1), .ref (b + 2), .int (nI (I 3)), .ref (b + 3), .ref (b + 4), .int (nI (I 6)), .int (nI (I 7)), .ref (b + 5), .ref (b + 6), .int (nI (I 10)), .int (nI (I 11)), .int (nI (I 12)), .int (nI (I 13)), .ref (b + 7), .ref (b + 8), .int (nI (I 16)), .int (nI (I 17)), .int (nI (I 18)), .int (nI (I 19))])) := by rw [e501, fw_un (by omega)]; exact b0
                    have b1_ : w501 (b + 1) = some (.inl (cL, 1536, .inr (.inl (fun i => lN (mC X1 i))))) := by rw [e501, fw_un (by omega)]; exact b1
                    have b2_ : w501 (b + 2) = some (.inl (cI, 24, .inl (va_up S1 (x9) (nI 1)))) := by rw [e501]; exact fw_us _ _ _
                    have b0 := b0_
                    have b1 := b1_
                    have b2 := b2_
                    have hS : moS cI cL w501 b I K (va_up S1 (x9) (nI 1)) (mC X1) := moS.cs hS b1 b2 (fun q h1 h2 => by rw [e501, fw_un h2])
                    have hoF : ∀ q, q < b ∨ b + 9 ≤ q → w501 q = w q := fun q h9 => by rw [e501, fw_un (by omega)]; exact hoF q h9
                    obtain ⟨S84, eS84⟩ : ∃ S_, S_ = va_up S1 (x9) (nI 1) := ⟨_, rfl⟩
                    rw [← eS84] at hS
                    have hv9 : (nI 1 : Int32) = nI 1 := rfl
                    have hsx : S84 (x9) = nI 1 := by rw [eS84]; exact up_s.trans hv9
                    have hfr : ∀ p, p ≠ x9 → p < 18 ∨ 22 < p → X1 p = X p ∧ S84 p = S p := fun p h1 h2 => by rw [eS84, up_o (by omega)]; exact hfr p h1 h2
                    have b0 : w501 b = some (.inr (10, [.int (nI (I 0)), .ref (b + 1), .ref (b + 2), .int (nI (I 3)), .ref (b + 3), .ref (b + 4), .int (nI (I 6)), .int (nI (I 7)), .ref (b + 5), .ref (b + 6), .int (nI (I 10)), .int (nI (I 11)), .int (nI (I 12)), .int (nI (I 13)), .ref (b + 7), .ref (b + 8), .int (nI (I 16)), .int (nI (I 17)), .int (nI (I 18)), .int (nI (I 19))])) := hS.1
                    have b1 : w501 (b + 1) = some (.inl (cL, 1536, .inr (.inl (fun i => lN (mC X1 i))))) := hS.2.1
                    have b2 : w501 (b + 2) = some (.inl (cI, 24, .inl (S84))) := hS.2.2.1
                    refine lv_aload_n (pc := 237) hx hb dMo_power_237 rfl (lv_at hl 4 rfl) ?_
                    refine lv_iload_n (pc := 238) hx hb dMo_power_238 rfl (lv_at hl 5 rfl) ?_
                    refine fw_cVR (pc := 239) (As := [.int (nI x9)]) (rest := []) ⟨hx, hb, hml, hown, hW⟩ (c_Mo_isGreat (p0 := x9) hS hXb (by omega)) (cwV 1 hW (kw_V lm_Mo_152 im_Mo_isGreat se_Mo_isGreat ini_Mo cd_Mo_isGreat) rfl rfl rfl (by decide +kernel) ⟨Nat.le_of_ble_eq_true rfl, Nat.le_of_ble_eq_true rfl⟩) hK hw b0 rfl rfl hl.1 rfl (Nat.le_of_ble_eq_true rfl) dMo_power_239 ⟨Nat.le_of_ble_eq_true rfl, Nat.le_of_ble_eq_true rfl⟩ (fun v hq => ?_)
                    rw [hxx, if_neg hg8] at hq
                    subst hq
                    refine W.eq (g2 := F0 m 242 ls [.int (nI 1)]) rfl ?_
                    refine lv_if_eq (pc := 242) (tgt := 250) hx hb dMo_power_242 (by decide) (fun hc => absurd hc (show ¬ nI 1 = 0 by decide)) (fun _ => ?_)
                    refine lv_bipush (pc := 245) (v := (nI 6)) hx hb dMo_power_245 (by decide) ?_
                    refine lv_goto (pc := 247) (tgt := 251) hx hb dMo_power_247 (by decide) ?_
                    have hsp : sPow a9 b9 = (6, a9) := hsix (pw_big (by decide +kernel) (Nat.le_of_not_lt hg8) (show i ≤ Y by omega))
                    exact fw_iret (pc := 251) hx hb hr hlocks hw dMo_power_251 ⟨by rw [hsp], ⟨_, _, hS, hXb, fun h9 => absurd h9 (by rw [hsp]; show ¬ (6 : Nat) = 0; decide), hfr⟩, hoF⟩
              refine fw_cV (pc := 179) (As := [.int (nI x9), .int (nI 19)]) (rest := []) ⟨hx, hb, hml, hown, hW⟩ (c_Mo_copy (pa := x9) (pc9 := 19) hS hXb (by omega) (by omega) (by omega)) (cwV 2 hW (kw_V lm_Mo_143 im_Mo_copy se_Mo_copy ini_Mo cd_Mo_copy) rfl rfl rfl (by decide +kernel) ⟨Nat.le_of_ble_eq_true rfl, Nat.le_of_ble_eq_true rfl⟩) hK hw b0 rfl rfl hl.1 rfl (Nat.le_of_ble_eq_true rfl) dMo_power_179 ⟨Nat.le_of_ble_eq_true rfl, Nat.le_of_ble_eq_true rfl⟩ (fun v w601 H locs hq hw => ?_)
              obtain ⟨rfl, hS, hn9⟩ := hq
              have hoF : ∀ q, q < b ∨ b + 9 ≤ q → w601 q = w q := fun q h9 => (hn9 q h9).trans (hoF q h9)
              have hB9 : A < nM ^ 64 := by rw [← hxx]; exact hXb _
              obtain ⟨X85, eX85⟩ : ∃ X_, X_ = va_up X (19) (X (x9)) := ⟨_, rfl⟩
              rw [← eX85] at hS
              have hv9 : X (x9) = A := hxx
              have hxx : X85 (x9) = A := by rw [eX85, up_o (by omega)]; exact hxx
              have hxy : X85 (x9 + 1) = Y := by rw [eX85, up_o (by omega)]; exact hxy
              have hxO : X85 (23) = 1 := by rw [eX85, up_o (by omega)]; exact hxO
              have hxB : X85 (19) = A := by rw [eX85]; exact up_s.trans hv9
              have hXb : ∀ p, X85 p < nM ^ 64 := fun p => by (rw [eX85]; unfold va_up; split; (rw [hv9]; exact hB9); exact hXb p)
              have hfr : ∀ p, p ≠ x9 → p < 18 ∨ 22 < p → X85 p = X p ∧ S p = S p := fun p h1 h2 => by rw [eX85, up_o (by omega)]; exact hfr p h1 h2
              obtain ⟨S86, eS86⟩ : ∃ S_, S_ = va_up S (19) (S (x9)) := ⟨_, rfl⟩
              rw [← eS86] at hS
              have hv9 : (S (x9) : Int32) = sg32 a9 := hsx
              have hsx : S86 (x9) = sg32 a9 := by rw [eS86, up_o (by omega)]; exact hsx
              have hsy : S86 (x9 + 1) = sg32 b9 := by rw [eS86, up_o (by omega)]; exact hsy
              have hsO : S86 (23) = nI 1 := by rw [eS86, up_o (by omega)]; exact hsO
              have hsB : S86 (19) = sg32 a9 := by rw [eS86]; exact up_s.trans hv9
              have hfr : ∀ p, p ≠ x9 → p < 18 ∨ 22 < p → X85 p = X p ∧ S86 p = S p := fun p h1 h2 => by rw [eS86, up_o (by omega)]; exact hfr p h1 h2
              have b0 : w601 b = some (.inr (10, [.int (nI (I 0)), .ref (b + 1), .ref (b + 2), .int (nI (I 3)), .ref (b + 3), .ref (b + 4), .int (nI (I 6)), .int (nI (I 7)), .ref (b + 5), .ref (b + 6), .int (nI (I 10)), .int (nI (I 11)), .int (nI (I 12)), .int (nI (I 13)), .ref (b + 7), .ref (b + 8), .int (nI (I 16)), .int (nI (I 17)), .int (nI (I 18)), .int (nI (I 19))])) := hS.1
              have b1 : w601 (b + 1) = some (.inl (cL, 1536, .inr (.inl (fun i => lN (mC X85 i))))) := hS.2.1
              have b2 : w601 (b + 2) = some (.inl (cI, 24, .inl (S86))) := hS.2.2.1
              refine W.eq (g2 := F0 m 182 ls []) rfl ?_
              refine lv_aload_n (pc := 182) hx hb dMo_power_182 rfl (lv_at hl 3 rfl) ?_
              refine lv_bipush (pc := 183) (v := (nI 23)) hx hb dMo_power_183 (by decide) ?_
              refine lv_iload_n (pc := 185) hx hb dMo_power_185 rfl (lv_at hl 4 rfl) ?_
              refine fw_cV (pc := 186) (As := [.int (nI 23), .int (nI x9)]) (rest := []) ⟨hx, hb, hml, hown, hW⟩ (c_Mo_copy (pa := 23) (pc9 := x9) hS hXb (by omega) (by omega) (by omega)) (cwV 2 hW (kw_V lm_Mo_143 im_Mo_copy se_Mo_copy ini_Mo cd_Mo_copy) rfl rfl rfl (by decide +kernel) ⟨Nat.le_of_ble_eq_true rfl, Nat.le_of_ble_eq_true rfl⟩) hK hw b0 rfl rfl hl.1 rfl (Nat.le_of_ble_eq_true rfl) dMo_power_186 ⟨Nat.le_of_ble_eq_true rfl, Nat.le_of_ble_eq_true rfl⟩ (fun v w602 H locs hq hw => ?_)
              obtain ⟨rfl, hS, hn9⟩ := hq
              have hoF : ∀ q, q < b ∨ b + 9 ≤ q → w602 q = w q := fun q h9 => (hn9 q h9).trans (hoF q h9)
              have hB9 : 1 < nM ^ 64 := by rw [← hxO]; exact hXb _
              obtain ⟨X87, eX87⟩ : ∃ X_, X_ = va_up X85 (x9) (X85 (23)) := ⟨_, rfl⟩
              rw [← eX87] at hS
              have hv9 : X85 (23) = 1 := hxO
              have hxy : X87 (x9 + 1) = Y := by rw [eX87, up_o (by omega)]; exact hxy
              have hxO : X87 (23) = 1 := by rw [eX87, up_o (by omega)]; exact hxO
              have hxB : X87 (19) = A := by rw [eX87, up_o (by omega)]; exact hxB
              have hxx : X87 (x9) = 1 := by rw [eX87]; exact up_s.trans hv9
              have hXb : ∀ p, X87 p < nM ^ 64 := fun p => by (rw [eX87]; unfold va_up; split; (rw [hv9]; exact hB9); exact hXb p)
              have hfr : ∀ p, p ≠ x9 → p < 18 ∨ 22 < p → X87 p = X p ∧ S86 p = S p := fun p h1 h2 => by rw [eX87, up_o (by omega)]; exact hfr p h1 h2
              obtain ⟨S88, eS88⟩ : ∃ S_, S_ = va_up S86 (x9) (S86 (23)) := ⟨_, rfl⟩
              rw [← eS88] at hS
              have hv9 : (S86 (23) : Int32) = nI 1 := hsO
              have hsy : S88 (x9 + 1) = sg32 b9 := by rw [eS88, up_o (by omega)]; exact hsy
              have hsO : S88 (23) = nI 1 := by rw [eS88, up_o (by omega)]; exact hsO
              have hsB : S88 (19) = sg32 a9 := by rw [eS88, up_o (by omega)]; exact hsB
              have hsx : S88 (x9) = nI 1 := by rw [eS88]; exact up_s.trans hv9
              have hfr : ∀ p, p ≠ x9 → p < 18 ∨ 22 < p → X87 p = X p ∧ S88 p = S p := fun p h1 h2 => by rw [eS88, up_o (by omega)]; exact hfr p h1 h2
              have b0 : w602 b = some (.inr (10, [.int (nI (I 0)), .ref (b + 1), .ref (b + 2), .int (nI (I 3)), .ref (b + 3), .ref (b + 4), .int (nI (I 6)), .int (nI (I 7)), .ref (b + 5), .ref (b + 6), .int (nI (I 10)), .int (nI (I 11)), .int (nI (I 12)), .int (nI (I 13)), .ref (b + 7), .ref (b + 8), .int (nI (I 16)), .int (nI (I 17)), .int (nI (I 18)), .int (nI (I 19))])) := hS.1
              have b1 : w602 (b + 1) = some (.inl (cL, 1536, .inr (.inl (fun i => lN (mC X87 i))))) := hS.2.1
              have b2 : w602 (b + 2) = some (.inl (cI, 24, .inl (S88))) := hS.2.2.1
              refine W.eq (g2 := F0 m 189 ls []) rfl ?_
              refine lv_iconst (pc := 189) (v := (nI 0)) hx hb dMo_power_189 (by decide) ?_
              refine lv_istore (pc := 190) (lv' := [(6, .int (nI 0)), (5, .int (nI Y)), (4, .int (nI 1)), (3, .int (nI 1)), (0, .ref b), (1, .int (nI x9)), (2, .int (nI (x9 + 1)))]) hx hb dMo_power_190 hl (by decide) rfl (fun ls hl => ?_)
              exact loop Y 0 (by omega) (by rw [Nat.pow_zero]; exact Nat.lt_trans (by decide +kernel) p64) _ H locs ls _ _ hw (lv_sub hl [0, 1, 2, 3, 4, 5, 6] rfl) hS hXb (by rw [hxx, Nat.pow_zero]) hxB hfr hoF
            · refine lv_if_le (pc := 141) (tgt := 147) hx hb dMo_power_141 (by decide) (fun hc => absurd hc (fun h9 => absurd ((pk_lLE (by omega) (by decide)).mp ((lg_cmp_le _ _).mp h9)) (by omega))) (fun _ => ?_)
              refine lv_bipush (pc := 144) (v := (nI 6)) hx hb dMo_power_144 (by decide) ?_
              have hsp : sPow a9 b9 = (6, a9) := hsix (hbig (by omega))
              exact fw_iret (pc := 146) hx hb hr hlocks hw dMo_power_146 ⟨by rw [hsp], ⟨_, _, hS, hXb, fun h9 => absurd h9 (by rw [hsp]; show ¬ (6 : Nat) = 0; decide), hfr⟩, hoF⟩
end MO9
