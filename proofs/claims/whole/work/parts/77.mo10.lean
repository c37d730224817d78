theorem sg32_ne {a : Int} (h : ¬ a = 0) : ¬ sg32 a = 0 := by
  rcases (show a < 0 ∨ 0 < a by omega) with h1 | h1
  · rw [sg32_n h1]; decide
  · rw [sg32_p h1]; decide
theorem sg32_ge {a : Int} (h : 0 ≤ a) : 0 ≤ sg32 a := by
  rcases (show a = 0 ∨ 0 < a by omega) with h1 | h1
  · rw [sg32_z h1]; decide
  · rw [sg32_p h1]; decide
/-! The reference's methods, tenth part. Written by wip/gen/model10.py. -/
section MO10
variable {l : Launch} {D : va_G} {cI cL cQ : ClassId} {z : kZ_T} {sz : Nat} {w : fw_W}
set_option maxHeartbeats 4000000 in
set_option maxRecDepth 100000 in
theorem c_Mo_modular {b : Nat} {I : Nat → Nat} {K : Nat → Nat → Nat} {S : Nat → Int32} {X : Nat → Nat} (hS : moS cI cL w b I K S (mC X)) (hX : ∀ p, X p < nM ^ 64) {x9 : Nat} {a9 b9 c9 : Int} (hx9 : x9 + 3 ≤ 10) (h1x : X 23 = 1) (h1s : S 23 = nI 1) (rx : X (x9) = Int.natAbs a9 ∧ S (x9) = sg32 a9) (a97 : Int.natAbs a9 < 2 ^ 768) (ry : X (x9 + 1) = Int.natAbs b9 ∧ S (x9 + 1) = sg32 b9) (b97 : Int.natAbs b9 < 2 ^ 768) (ru : X (x9 + 2) = Int.natAbs c9 ∧ S (x9 + 2) = sg32 c9) (c97 : Int.natAbs c9 < 2 ^ 768) : fw_C l yMo_modular (Cond.code yMo_modular cMo_modular 6 (some FieldType.int) :: kWs) ({ frames := 3, cells := 0, slots := 0, locals := 85 } : Room) D kCl (kty cI cL cQ) z [.ref b, .int (nI x9), .int (nI (x9 + 1)), .int (nI (x9 + 2))] (sz) w 0 0 (fun v w' => v = some (.int (nI (sMod a9 b9 c9).1)) ∧ (∃ S2 X2, moS cI cL w' b I K S2 (mC X2) ∧ (∀ p, X2 p < nM ^ 64) ∧ ((sMod a9 b9 c9).1 = 0 → X2 x9 = Int.natAbs (sMod a9 b9 c9).2 ∧ S2 x9 = sg32 (sMod a9 b9 c9).2) ∧ ∀ p, p ≠ x9 → p < 18 ∨ 22 < p → X2 p = X p ∧ S2 p = S p) ∧ ∀ q, q < b ∨ b + 9 ≤ q → w' q = w q) := by
  refine fw_ofW (cc := cMo_modular) (maxL := 6) (ret := (some FieldType.int)) (by decide) rfl (Nat.le_of_ble_eq_true rfl) ?_
  intro p e s m args below meth c hx hb hr hts hown hlocks hname hml hK H ls hw hl
  have hW : ∀ w ∈ kWs, w.before args s = true := fun w h => hts w (List.mem_cons_of_mem _ h)
  have hown : s.vm.findClass RMo = some m.cls := hown
  have hl : lv_has ls 6 [(0, .ref b), (1, .int (nI x9)), (2, .int (nI (x9 + 1))), (3, .int (nI (x9 + 2)))] := hl
  have b0 : w b = some (.inr (10, [.int (nI (I 0)), .ref (b + 1), .ref (b + 2), .int (nI (I 3)), .ref (b + 3), .ref (b + 4), .int (nI (I 6)), .int (nI (I 7)), .ref (b + 5), .ref (b + 6), .int (nI (I 10)), .int (nI (I 11)), .int (nI (I 12)), .int (nI (I 13)), .ref (b + 7), .ref (b + 8), .int (nI (I 16)), .int (nI (I 17)), .int (nI (I 18)), .int (nI (I 19))])) := hS.1
  have b1 : w (b + 1) = some (.inl (cL, 1536, .inr (.inl (fun i => lN (mC X i))))) := hS.2.1
  have b2 : w (b + 2) = some (.inl (cI, 24, .inl (S))) := hS.2.2.1
  have b09 := b0
  have b29 := b2
  obtain ⟨hxx, hsx⟩ := rx
  obtain ⟨hxy, hsy⟩ := ry
  obtain ⟨hxu, hsu⟩ := ru
  have hxO := h1x
  have hsO := h1s
  have hXb := hX
  have hfr : ∀ p, p ≠ x9 → p < 18 ∨ 22 < p → X p = X p ∧ S p = S p := fun p _ _ => ⟨rfl, rfl⟩
  have hoF : ∀ q, q < b ∨ b + 9 ≤ q → w q = w q := fun q _ => rfl
  have p64 : 2 ^ 768 < nM ^ 64 := by decide +kernel
  refine lv_aload_n (pc := 0) hx hb dMo_modular_0 rfl (lv_at hl 0 rfl) ?_
  refine fw_get (pc := 1) (ci := 10) (v := .ref (b + 2)) (C := RMo) (T := TMo) (N := 20) hx hb hW in_Mo hown hK.1 hw b0 rfl 2 (by decide) (hW _ lf_Mo_13) (fun _ h => h) rfl dMo_modular_1 ?_
  refine lv_iload_n (pc := 4) hx hb dMo_modular_4 rfl (lv_at hl 3 rfl) ?_
  refine fw_ialdN (pc := 5) (x := S (x9 + 2)) hx hb hK.1 hw 0 b2 rfl (x9 + 2) (by omega) (by decide) rfl dMo_modular_5 ?_
  rw [show (S (x9 + 2) : Int32) = sg32 c9 from hsu]
  rcases (show c9 = 0 ∨ ¬ c9 = 0 by omega) with hc0 | hc0
  · rw [show (sg32 c9 : Int32) = nI 0 from (sg32_z hc0)]
    refine lv_if_ne (pc := 6) (tgt := 11) hx hb dMo_modular_6 (by decide) (fun hc => absurd hc (fun h => h (by decide))) (fun _ => ?_)
    refine lv_iconst (pc := 9) (v := (nI 2)) hx hb dMo_modular_9 (by decide) ?_
    have hsp : sMod a9 b9 c9 = (2, a9) := if_pos hc0
    exact fw_iret (pc := 10) hx hb hr hlocks hw dMo_modular_10 ⟨by rw [hsp], ⟨_, _, hS, hXb, fun h9 => absurd h9 (by rw [hsp]; show ¬ (2 : Nat) = 0; decide), hfr⟩, hoF⟩
  · refine lv_if_ne (pc := 6) (tgt := 11) hx hb dMo_modular_6 (by decide) (fun _ => ?_) (fun hc => absurd hc (sg32_ne hc0))
    refine lv_aload_n (pc := 11) hx hb dMo_modular_11 rfl (lv_at hl 0 rfl) ?_
    refine fw_get (pc := 12) (ci := 10) (v := .ref (b + 2)) (C := RMo) (T := TMo) (N := 20) hx hb hW in_Mo hown hK.1 hw b0 rfl 2 (by decide) (hW _ lf_Mo_13) (fun _ h => h) rfl dMo_modular_12 ?_
    refine lv_iload_n (pc := 15) hx hb dMo_modular_15 rfl (lv_at hl 2 rfl) ?_
    refine fw_ialdN (pc := 16) (x := S (x9 + 1)) hx hb hK.1 hw 0 b2 rfl (x9 + 1) (by omega) (by decide) rfl dMo_modular_16 ?_
    rw [show (S (x9 + 1) : Int32) = sg32 b9 from hsy]
    rcases (show b9 < 0 ∨ 0 ≤ b9 by omega) with hb0 | hb0
    · rw [show (sg32 b9 : Int32) = (-1) from (sg32_n hb0)]
      refine lv_if_ge (pc := 17) (tgt := 22) hx hb dMo_modular_17 (by decide) (fun hc => absurd hc (by decide)) (fun _ => ?_)
      refine lv_iconst (pc := 20) (v := (nI 3)) hx hb dMo_modular_20 (by decide) ?_
      have hsp : sMod a9 b9 c9 = (3, a9) := (by unfold sMod; rw [if_neg hc0, if_pos hb0])
      exact fw_iret (pc := 21) hx hb hr hlocks hw dMo_modular_21 ⟨by rw [hsp], ⟨_, _, hS, hXb, fun h9 => absurd h9 (by rw [hsp]; show ¬ (3 : Nat) = 0; decide), hfr⟩, hoF⟩
    · refine lv_if_ge (pc := 17) (tgt := 22) hx hb dMo_modular_17 (by decide) (fun _ => ?_) (fun hc => absurd (sg32_ge hb0) hc)
      refine lv_aload_n (pc := 22) hx hb dMo_modular_22 rfl (lv_at hl 0 rfl) ?_
      refine fw_get (pc := 23) (ci := 10) (v := .ref (b + 2)) (C := RMo) (T := TMo) (N := 20) hx hb hW in_Mo hown hK.1 hw b0 rfl 2 (by decide) (hW _ lf_Mo_13) (fun _ h => h) rfl dMo_modular_23 ?_
      refine lv_iload_n (pc := 26) hx hb dMo_modular_26 rfl (lv_at hl 3 rfl) ?_
      refine fw_ialdN (pc := 27) (x := S (x9 + 2)) hx hb hK.1 hw 0 b2 rfl (x9 + 2) (by omega) (by decide) rfl dMo_modular_27 ?_
      rw [show (S (x9 + 2) : Int32) = sg32 c9 from hsu]
      rcases (show c9 < 0 ∨ 0 < c9 by omega) with hc1 | hc1
      · rw [show (sg32 c9 : Int32) = (-1) from (sg32_n hc1)]
        refine lv_if_ge (pc := 28) (tgt := 33) hx hb dMo_modular_28 (by decide) (fun hc => absurd hc (by decide)) (fun _ => ?_)
        refine lv_iconst (pc := 31) (v := (nI 5)) hx hb dMo_modular_31 (by decide) ?_
        have hsp : sMod a9 b9 c9 = (5, a9) := (by unfold sMod; rw [if_neg hc0, if_neg (by omega), if_pos hc1])
        exact fw_iret (pc := 32) hx hb hr hlocks hw dMo_modular_32 ⟨by rw [hsp], ⟨_, _, hS, hXb, fun h9 => absurd h9 (by rw [hsp]; show ¬ (5 : Nat) = 0; decide), hfr⟩, hoF⟩
      · refine lv_if_ge (pc := 28) (tgt := 33) hx hb dMo_modular_28 (by decide) (fun _ => ?_) (fun hc => absurd (sg32_ge (by omega)) hc)
        obtain ⟨Y, hY⟩ : ∃ Y, Y = Int.natAbs b9 := ⟨_, rfl⟩
        rw [← hY] at hxy
        have hY7 : Y < 2 ^ 768 := by rw [hY]; exact b97
        obtain ⟨M, hM⟩ : ∃ M, M = Int.natAbs c9 := ⟨_, rfl⟩
        have hM0 : 0 < M := by omega
        have hM7 : M < 2 ^ 768 := by rw [hM]; exact c97
        obtain ⟨B, hB⟩ : ∃ B, B = rmg a9 c9 := ⟨_, rfl⟩
        have hBM : B < M := by rw [hB, hM]; exact rmg_lt hc0
        have hsp : sMod a9 b9 c9 = (0, ((B ^ Y % M : Nat) : Int)) := by unfold sMod; rw [if_neg hc0, if_neg (by omega), if_neg (by omega), hB, hY, hM]
        have hsr : sRst a9 c9 = (0, wv 0 B) := by unfold sRst; rw [if_neg hc0, show sgz c9 = 0 from if_neg (by omega), hB]
        have q32 : (2 : Nat) ^ 768 = nM ^ 32 := by decide +kernel
        refine lv_aload_n (pc := 33) hx hb dMo_modular_33 rfl (lv_at hl 0 rfl) ?_
        refine lv_iload_n (pc := 34) hx hb dMo_modular_34 rfl (lv_at hl 1 rfl) ?_
        refine lv_iload_n (pc := 35) hx hb dMo_modular_35 rfl (lv_at hl 3 rfl) ?_
        refine lv_iconst (pc := 36) (v := (nI 1)) hx hb dMo_modular_36 (by decide) ?_
        refine fw_cV (pc := 37) (As := [.int (nI x9), .int (nI (x9 + 2)), .int (nI 1)]) (rest := []) ⟨hx, hb, hml, hown, hW⟩ (c_Mo_quotientR (x9 := x9) (yp := x9 + 2) hS hXb (by omega) (by omega) (by omega) hxO hsO ⟨hxx, hsx⟩ a97 ⟨hxu, hsu⟩ c97) (cwV 3 hW (kw_V lm_Mo_167 im_Mo_quotient se_Mo_quotient ini_Mo cd_Mo_quotient) rfl rfl rfl (by decide +kernel) ⟨Nat.le_of_ble_eq_true rfl, Nat.le_of_ble_eq_true rfl⟩) hK hw b0 rfl rfl hl.1 rfl (Nat.le_of_ble_eq_true rfl) dMo_modular_37 ⟨Nat.le_of_ble_eq_true rfl, Nat.le_of_ble_eq_true rfl⟩ (fun v w201 H locs hq hw => ?_)
        obtain ⟨rfl, ⟨S2, X2, hS, hXb, hrep, hf2⟩, hn9⟩ := hq
        have hoF : ∀ q, q < b ∨ b + 9 ≤ q → w201 q = w q := fun q h9 => (hn9 q h9).trans (hoF q h9)
        rw [hsr] at hrep
        obtain ⟨hxx, hsx⟩ := hrep rfl
        rw [wv_abs] at hxx
        have hxy := (hf2 (x9 + 1) (by omega) (by omega)).1.trans hxy
        have hxu := ((hf2 (x9 + 2) (by omega) (by omega)).1.trans hxu).trans hM.symm
        have hxO := (hf2 23 (by omega) (by omega)).1.trans hxO
        have hsO := (hf2 23 (by omega) (by omega)).2.trans hsO
        have hfr : ∀ p, p ≠ x9 → p < 18 ∨ 22 < p → X2 p = X p ∧ S2 p = S p := fun p h1 h2 => ⟨(hf2 p h1 h2).1.trans (hfr p h1 h2).1, (hf2 p h1 h2).2.trans (hfr p h1 h2).2⟩
        have b0 : w201 b = some (.inr (10, [.int (nI (I 0)), .ref (b + 1), .ref (b + 2), .int (nI (I 3)), .ref (b + 3), .ref (b + 4), .int (nI (I 6)), .int (nI (I 7)), .ref (b + 5), .ref (b + 6), .int (nI (I 10)), .int (nI (I 11)), .int (nI (I 12)), .int (nI (I 13)), .ref (b + 7), .ref (b + 8), .int (nI (I 16)), .int (nI (I 17)), .int (nI (I 18)), .int (nI (I 19))])) := hS.1
        have b1 : w201 (b + 1) = some (.inl (cL, 1536, .inr (.inl (fun i => lN (mC X2 i))))) := hS.2.1
        have b2 : w201 (b + 2) = some (.inl (cI, 24, .inl (S2))) := hS.2.2.1
        rw [hsr]
        refine W.eq (g2 := F0 m 40 ls [.int (nI 0)]) rfl ?_
        have hbl := bt_ub hY7
        have loop : ∀ (i o : Nat), i ≤ bl Y → o = B ^ (Y / 2 ^ i) % M → ∀ (w1 : fw_W) (H : Heap) (locs : List Loc) (ls : Array Slot) (S1 : Nat → Int32) (X1 : Nat → Nat), fw_H D kCl (fw_A w (sz)) s.heap w1 (sz) H locs → lv_has ls 6 [(5, .int (nI i - nI 1)), (4, .int (nI 0)), (0, .ref b), (1, .int (nI x9)), (2, .int (nI (x9 + 1))), (3, .int (nI (x9 + 2)))] → moS cI cL w1 b I K S1 (mC X1) → (∀ p, X1 p < nM ^ 64) → X1 x9 = B → X1 (x9 + 1) = Y → X1 (x9 + 2) = M → X1 22 = o → (∀ p, p ≠ x9 → p < 18 ∨ 22 < p → X1 p = X p ∧ S1 p = S p) → (∀ q, q < b ∨ b + 9 ≤ q → w1 q = w q) → W p l e ({ frames := 3, cells := 0, slots := 0, locals := 85 } : Room) s m args below meth c H locs 0 0 (MQ below (fw_Q D kCl w (sz) 0 (fun v w' => v = some (.int (nI (sMod a9 b9 c9).1)) ∧ (∃ S2 X2, moS cI cL w' b I K S2 (mC X2) ∧ (∀ p, X2 p < nM ^ 64) ∧ ((sMod a9 b9 c9).1 = 0 → X2 x9 = Int.natAbs (sMod a9 b9 c9).2 ∧ S2 x9 = sg32 (sMod a9 b9 c9).2) ∧ ∀ p, p ≠ x9 → p < 18 ∨ 22 < p → X2 p = X p ∧ S2 p = S p) ∧ ∀ q, q < b ∨ b + 9 ≤ q → w' q = w q)) args s 0 0 (fw_A w (sz))) (F0 m 66 ls []) := by
          intro i
          induction i with
          | zero =>
            intro o hil hoe w1 H locs ls S1 X1 hw hl hS hXb hxx hxy hxu hxR hfr hoF
            have hoM : o < M := by rw [hoe]; exact Nat.mod_lt _ hM0
            have ho7 := Nat.lt_trans hoM hM7
            have b0 : w1 b = some (.inr (10, [.int (nI (I 0)), .ref (b + 1), .ref (b + 2), .int (nI (I 3)), .ref (b + 3), .ref (b + 4), .int (nI (I 6)), .int (nI (I 7)), .ref (b + 5), .ref (b + 6), .int (nI (I 10)), .int (nI (I 11)), .int (nI (I 12)), .int (nI (I 13)), .ref (b + 7), .ref (b + 8), .int (nI (I 16)), .int (nI (I 17)), .int (nI (I 18)), .int (nI (I 19))])) := hS.1
            have b1 : w1 (b + 1) = some (.inl (cL, 1536, .inr (.inl (fun i => lN (mC X1 i))))) := hS.2.1
            have b2 : w1 (b + 2) = some (.inl (cI, 24, .inl (S1))) := hS.2.2.1
            rw [Nat.pow_zero, Nat.div_one] at hoe
            refine lv_iload (pc := 66) hx hb dMo_modular_66 (lv_at hl 0 rfl) ?_
            refine lv_if_lt (pc := 68) (tgt := 137) hx hb dMo_modular_68 (by decide) (fun _ => ?_) (fun hc => absurd (show nI 0 - nI 1 < 0 by decide) hc)
            refine lv_aload_n (pc := 137) hx hb dMo_modular_137 rfl (lv_at hl 2 rfl) ?_
            refine lv_bipush (pc := 138) (v := (nI 22)) hx hb dMo_modular_138 (by decide) ?_
            refine lv_iload_n (pc := 140) hx hb dMo_modular_140 rfl (lv_at hl 3 rfl) ?_
            refine fw_cV (pc := 141) (As := [.int (nI 22), .int (nI x9)]) (rest := []) ⟨hx, hb, hml, hown, hW⟩ (c_Mo_copy (pa := 22) (pc9 := x9) hS hXb (by omega) (by omega) (by omega)) (cwV 2 hW (kw_V lm_Mo_143 im_Mo_copy se_Mo_copy ini_Mo cd_Mo_copy) rfl rfl rfl (by decide +kernel) ⟨Nat.le_of_ble_eq_true rfl, Nat.le_of_ble_eq_true rfl⟩) hK hw b0 rfl rfl hl.1 rfl (Nat.le_of_ble_eq_true rfl) dMo_modular_141 ⟨Nat.le_of_ble_eq_true rfl, Nat.le_of_ble_eq_true rfl⟩ (fun v w501 H locs hq hw => ?_)
            obtain ⟨rfl, hS, hn9⟩ := hq
            have hoF : ∀ q, q < b ∨ b + 9 ≤ q → w501 q = w q := fun q h9 => (hn9 q h9).trans (hoF q h9)
            have hB9 : o < nM ^ 64 := by rw [← hxR]; exact hXb _
            obtain ⟨X11, eX11⟩ : ∃ X_, X_ = va_up X1 (x9) (X1 (22)) := ⟨_, rfl⟩
            rw [← eX11] at hS
            have hv9 : X1 (22) = o := hxR
            have hxy : X11 (x9 + 1) = Y := by rw [eX11, up_o (by omega)]; exact hxy
            have hxu : X11 (x9 + 2) = M := by rw [eX11, up_o (by omega)]; exact hxu
            have hxR : X11 (22) = o := by rw [eX11, up_o (by omega)]; exact hxR
            have hxx : X11 (x9) = o := by rw [eX11]; exact up_s.trans hv9
            have hXb : ∀ p, X11 p < nM ^ 64 := fun p => by (rw [eX11]; unfold va_up; split; (rw [hv9]; exact hB9); exact hXb p)
            have hfr : ∀ p, p ≠ x9 → p < 18 ∨ 22 < p → X11 p = X p ∧ S1 p = S p := fun p h1 h2 => by rw [eX11, up_o (by omega)]; exact hfr p h1 h2
            obtain ⟨S12, eS12⟩ : ∃ S_, S_ = va_up S1 (x9) (S1 (22)) := ⟨_, rfl⟩
            rw [← eS12] at hS
            have hv9 : (S1 (22) : Int32) = S1 (22) := rfl
            have hsx : S12 (x9) = S1 (22) := by rw [eS12]; exact up_s.trans hv9
            have hfr : ∀ p, p ≠ x9 → p < 18 ∨ 22 < p → X11 p = X p ∧ S12 p = S p := fun p h1 h2 => by rw [eS12, up_o (by omega)]; exact hfr p h1 h2
            have b0 : w501 b = some (.inr (10, [.int (nI (I 0)), .ref (b + 1), .ref (b + 2), .int (nI (I 3)), .ref (b + 3), .ref (b + 4), .int (nI (I 6)), .int (nI (I 7)), .ref (b + 5), .ref (b + 6), .int (nI (I 10)), .int (nI (I 11)), .int (nI (I 12)), .int (nI (I 13)), .ref (b + 7), .ref (b + 8), .int (nI (I 16)), .int (nI (I 17)), .int (nI (I 18)), .int (nI (I 19))])) := hS.1
            have b1 : w501 (b + 1) = some (.inl (cL, 1536, .inr (.inl (fun i => lN (mC X11 i))))) := hS.2.1
            have b2 : w501 (b + 2) = some (.inl (cI, 24, .inl (S12))) := hS.2.2.1
            refine W.eq (g2 := F0 m 144 ls []) rfl ?_
            refine lv_aload_n (pc := 144) hx hb dMo_modular_144 rfl (lv_at hl 2 rfl) ?_
            refine fw_get (pc := 145) (ci := 10) (v := .ref (b + 2)) (C := RMo) (T := TMo) (N := 20) hx hb hW in_Mo hown hK.1 hw b0 rfl 2 (by decide) (hW _ lf_Mo_13) (fun _ h => h) rfl dMo_modular_145 ?_
            refine lv_iload_n (pc := 148) hx hb dMo_modular_148 rfl (lv_at hl 3 rfl) ?_
            refine lv_aload_n (pc := 149) hx hb dMo_modular_149 rfl (lv_at hl 2 rfl) ?_
            refine lv_iload_n (pc := 150) hx hb dMo_modular_150 rfl (lv_at hl 3 rfl) ?_
            refine fw_cVR (pc := 151) (As := [.int (nI x9)]) (rest := [.int (nI x9), .ref (b + 2)]) ⟨hx, hb, hml, hown, hW⟩ (c_Mo_limbs (p0 := x9) hS hXb (by omega)) (cwV 1 hW (kw_V lm_Mo_128 im_Mo_limbs se_Mo_limbs ini_Mo cd_Mo_limbs) rfl rfl rfl (by decide +kernel) ⟨Nat.le_of_ble_eq_true rfl, Nat.le_of_ble_eq_true rfl⟩) hK hw b0 rfl rfl hl.1 rfl (Nat.le_of_ble_eq_true rfl) dMo_modular_151 ⟨Nat.le_of_ble_eq_true rfl, Nat.le_of_ble_eq_true rfl⟩ (fun v hq => ?_)
            obtain ⟨nl8, rfl, hnl8, hml8⟩ := hq
            rw [hxx] at hml8
            have hlz8 := ml_zero hml8
            refine W.eq (g2 := F0 m 154 ls [.int (nI nl8), .int (nI x9), .ref (b + 2)]) rfl ?_
            rcases Nat.eq_zero_or_pos o with hm0 | hm0
            · rw [show (nI nl8 : Int32) = nI 0 from (by rw [hlz8.mpr hm0])]
              refine lv_if_ne (pc := 154) (tgt := 161) hx hb dMo_modular_154 (by decide) (fun hc => absurd hc (fun h => h (by decide))) (fun _ => ?_)
              refine lv_iconst (pc := 157) (v := (nI 0)) hx hb dMo_modular_157 (by decide) ?_
              refine lv_goto (pc := 158) (tgt := 162) hx hb dMo_modular_158 (by decide) ?_
              refine fw_iastN (pc := 162) (f2 := va_up S12 (x9) (nI 0)) hx hb hK.1 hw 0 b2 rfl (x9) (by omega) (by decide) (rfl) dMo_modular_162 (fun H locs hw => ?_)
              obtain ⟨w502, e502⟩ : ∃ w_, w_ = fw_up w501 (b + 2) (.inl (cI, 24, .inl (va_up S12 (x9) (nI 0)))) := ⟨_, rfl⟩
              have hw : fw_H D kCl (fw_A w (sz)) s.heap w502 (sz) H locs := by rw [e502]; exact hw
              have b0_ : w502 (b) = some (.inr (10, [.int (nI (I 0)), .ref (b + 1), .ref (b + 2), .int (nI (I 3)), .ref (b + 3), .ref (b + 4), .int (nI (I 6)), .int (nI (I 7)), .ref (b + 5), .ref (b + 6), .int (nI (I 10)), .int (nI (I 11)), .int (nI (I 12)), .int (nI (I 13)), .ref (b + 7), .ref (b + 8), .int (nI (I 16)), .int (nI (I 17)), .int (nI (I 18)), .int (nI (I 19))])) := by rw [e502, fw_un (by omega)]; exact b0
              have b1_ : w502 (b + 1) = some (.inl (cL, 1536, .inr (.inl (fun i => lN (mC X11 i))))) := by rw [e502, fw_un (by omega)]; exact b1
              have b2_ : w502 (b + 2) = some (.inl (cI, 24, .inl (va_up S12 (x9) (nI 0)))) := by rw [e502]; exact fw_us _ _ _
              have b0 := b0_
              have b1 := b1_
              have b2 := b2_
              have hS : moS cI cL w502 b I K (va_up S12 (x9) (nI 0)) (mC X11) := moS.cs hS b1 b2 (fun q h1 h2 => by rw [e502, fw_un h2])
              have hoF : ∀ q, q < b ∨ b + 9 ≤ q → w502 q = w q := fun q h9 => by rw [e502, fw_un (by omega)]; exact hoF q h9
              obtain ⟨S13, eS13⟩ : ∃ S_, S_ = va_up S12 (x9) (nI 0) := ⟨_, rfl⟩
              rw [← eS13] at hS
              have hv9 : (nI 0 : Int32) = nI 0 := rfl
              have hsx : S13 (x9) = nI 0 := by rw [eS13]; exact up_s.trans hv9
              have hfr : ∀ p, p ≠ x9 → p < 18 ∨ 22 < p → X11 p = X p ∧ S13 p = S p := fun p h1 h2 => by rw [eS13, up_o (by omega)]; exact hfr p h1 h2
              have b0 : w502 b = some (.inr (10, [.int (nI (I 0)), .ref (b + 1), .ref (b + 2), .int (nI (I 3)), .ref (b + 3), .ref (b + 4), .int (nI (I 6)), .int (nI (I 7)), .ref (b + 5), .ref (b + 6), .int (nI (I 10)), .int (nI (I 11)), .int (nI (I 12)), .int (nI (I 13)), .ref (b + 7), .ref (b + 8), .int (nI (I 16)), .int (nI (I 17)), .int (nI (I 18)), .int (nI (I 19))])) := hS.1
              have b1 : w502 (b + 1) = some (.inl (cL, 1536, .inr (.inl (fun i => lN (mC X11 i))))) := hS.2.1
              have b2 : w502 (b + 2) = some (.inl (cI, 24, .inl (S13))) := hS.2.2.1
              refine lv_iload (pc := 163) hx hb dMo_modular_163 (lv_at hl 1 rfl) ?_
              exact fw_iret (pc := 165) hx hb hr hlocks hw dMo_modular_165 ⟨by rw [hsp], ⟨_, _, hS, hXb, fun _ => by rw [hsp, ← hoe]; exact ⟨hxx, hsx.trans (sg32_z (by omega)).symm⟩, hfr⟩, hoF⟩
            · refine lv_if_ne (pc := 154) (tgt := 161) hx hb dMo_modular_154 (by decide) (fun _ => ?_) (fun hc => absurd hc (nI_ne0 (Nat.pos_of_ne_zero (fun h9 => by have := hlz8.mp h9; omega)) (by omega)))
              refine lv_iconst (pc := 161) (v := (nI 1)) hx hb dMo_modular_161 (by decide) ?_
              refine fw_iastN (pc := 162) (f2 := va_up S12 (x9) (nI 1)) hx hb hK.1 hw 0 b2 rfl (x9) (by omega) (by decide) (rfl) dMo_modular_162 (fun H locs hw => ?_)
              obtain ⟨w503, e503⟩ : ∃ w_, w_ = fw_up w501 (b + 2) (.inl (cI, 24, .inl (va_up S12 (x9) (nI 1)))) := ⟨_, rfl⟩
              have hw : fw_H D kCl (fw_A w (sz)) s.heap w503 (sz) H locs := by rw [e503]; exact hw
              have b0_ : w503 (b) = some (.inr (10, [.int (nI (I 0)), .ref (b + 1), .ref (b + 2), .int (nI (I 3)), .ref (b + 3), .ref (b + 4), .int (nI (I 6)), .int (nI (I 7)), .ref (b + 5), .ref (b + 6), .int (nI (I 10)), .int (nI (I 11)), .int (nI (I 12)), .int (nI (I 13)), .ref (b + 7), .ref (b + 8), .int (nI (I 16)), .int (nI (I 17)), .int (nI (I 18)), .int (nI (I 19))])) := by rw [e503, fw_un (by omega)]; exact b0
              have b1_ : w503 (b + 1) = some (.inl (cL, 1536, .inr (.inl (fun i => lN (mC X11 i))))) := by rw [e503, fw_un (by omega)]; exact b1
              have b2_ : w503 (b + 2) = some (.inl (cI, 24, .inl (va_up S12 (x9) (nI 1)))) := by rw [e503]; exact fw_us _ _ _
              have b0 := b0_
              have b1 := b1_
              have b2 := b2_
              have hS : moS cI cL w503 b I K (va_up S12 (x9) (nI 1)) (mC X11) := moS.cs hS b1 b2 (fun q h1 h2 => by rw [e503, fw_un h2])
              have hoF : ∀ q, q < b ∨ b + 9 ≤ q → w503 q = w q := fun q h9 => by rw [e503, fw_un (by omega)]; exact hoF q h9
              obtain ⟨S14, eS14⟩ : ∃ S_, S_ = va_up S12 (x9) (nI 1) := ⟨_, rfl⟩
              rw [← eS14] at hS
              have hv9 : (nI 1 : Int32) = nI 1 := rfl
              have hsx : S14 (x9) = nI 1 := by rw [eS14]; exact up_s.trans hv9
              have hfr : ∀ p, p ≠ x9 → p < 18 ∨ 22 < p → X11 p = X p ∧ S14 p = S p := fun p h1 h2 => by rw [eS14, up_o (by omega)]; exact hfr p h1 h2
              have b0 : w503 b = some (.inr (10, [.int (nI (I 0)), .ref (b + 1), .ref (b + 2), .int (nI (I 3)), .ref (b + 3), .ref (b + 4), .int (nI (I 6)), .int (nI (I 7)), .ref (b + 5), .ref (b + 6), .int (nI (I 10)), .int (nI (I 11)), .int (nI (I 12)), .int (nI (I 13)), .ref (b + 7), .ref (b + 8), .int (nI (I 16)), .int (nI (I 17)), .int (nI (I 18)), .int (nI (I 19))])) := hS.1
              have b1 : w503 (b + 1) = some (.inl (cL, 1536, .inr (.inl (fun i => lN (mC X11 i))))) := hS.2.1
              have b2 : w503 (b + 2) = some (.inl (cI, 24, .inl (S14))) := hS.2.2.1
              refine lv_iload (pc := 163) hx hb dMo_modular_163 (lv_at hl 1 rfl) ?_
              exact fw_iret (pc := 165) hx hb hr hlocks hw dMo_modular_165 ⟨by rw [hsp], ⟨_, _, hS, hXb, fun _ => by rw [hsp, ← hoe]; exact ⟨hxx, hsx.trans (sg32_p (by omega)).symm⟩, hfr⟩, hoF⟩
          | succ i ih =>
            intro o hil hoe w1 H locs ls S1 X1 hw hl hS hXb hxx hxy hxu hxR hfr hoF
            have hoM : o < M := by rw [hoe]; exact Nat.mod_lt _ hM0
            have ho7 := Nat.lt_trans hoM hM7
            have b0 : w1 b = some (.inr (10, [.int (nI (I 0)), .ref (b + 1), .ref (b + 2), .int (nI (I 3)), .ref (b + 3), .ref (b + 4), .int (nI (I 6)), .int (nI (I 7)), .ref (b + 5), .ref (b + 6), .int (nI (I 10)), .int (nI (I 11)), .int (nI (I 12)), .int (nI (I 13)), .ref (b + 7), .ref (b + 8), .int (nI (I 16)), .int (nI (I 17)), .int (nI (I 18)), .int (nI (I 19))])) := hS.1
            have b1 : w1 (b + 1) = some (.inl (cL, 1536, .inr (.inl (fun i => lN (mC X1 i))))) := hS.2.1
            have b2 : w1 (b + 2) = some (.inl (cI, 24, .inl (S1))) := hS.2.2.1
            rw [show nI (i + 1) - nI 1 = nI i from nI_pred i] at hl
            refine lv_iload (pc := 66) hx hb dMo_modular_66 (lv_at hl 0 rfl) ?_
            refine lv_if_lt (pc := 68) (tgt := 137) hx hb dMo_modular_68 (by decide) (fun hc => absurd hc (nI_pos (by omega))) (fun _ => ?_)
            refine lv_aload_n (pc := 71) hx hb dMo_modular_71 rfl (lv_at hl 2 rfl) ?_
            refine lv_bipush (pc := 72) (v := (nI 22)) hx hb dMo_modular_72 (by decide) ?_
            refine lv_bipush (pc := 74) (v := (nI 22)) hx hb dMo_modular_74 (by decide) ?_
            refine lv_bipush (pc := 76) (v := (nI 21)) hx hb dMo_modular_76 (by decide) ?_
            refine fw_cV (pc := 78) (As := [.int (nI 22), .int (nI 22), .int (nI 21)]) (rest := []) ⟨hx, hb, hml, hown, hW⟩ (c_Mo_multiply (pa := 22) (pb := 22) (pt := 21) hS hXb (by omega) (by omega) (by omega) (by omega) (by omega) (by rw [hxR, ← q32]; exact ho7) (by rw [hxR, ← q32]; exact ho7)) (cwV 3 hW (kw_V lm_Mo_155 im_Mo_multiply se_Mo_multiply ini_Mo cd_Mo_multiply) rfl rfl rfl (by decide +kernel) ⟨Nat.le_of_ble_eq_true rfl, Nat.le_of_ble_eq_true rfl⟩) hK hw b0 rfl rfl hl.1 rfl (Nat.le_of_ble_eq_true rfl) dMo_modular_78 ⟨Nat.le_of_ble_eq_true rfl, Nat.le_of_ble_eq_true rfl⟩ (fun v w501 H locs hq hw => ?_)
            obtain ⟨rfl, hS, hn9⟩ := hq
            have hoF : ∀ q, q < b ∨ b + 9 ≤ q → w501 q = w q := fun q h9 => (hn9 q h9).trans (hoF q h9)
            have hB9 : o * o < nM ^ 64 := Nat.lt_of_le_of_lt (Nat.mul_le_mul (Nat.le_sub_one_of_lt ho7) (Nat.le_sub_one_of_lt ho7)) (by decide +kernel)
            obtain ⟨X15, eX15⟩ : ∃ X_, X_ = va_up X1 (21) (X1 (22) * X1 (22)) := ⟨_, rfl⟩
            rw [← eX15] at hS
            have hv9 : X1 (22) * X1 (22) = o * o := (by rw [hxR])
            have hxx : X15 (x9) = B := by rw [eX15, up_o (by omega)]; exact hxx
            have hxy : X15 (x9 + 1) = Y := by rw [eX15, up_o (by omega)]; exact hxy
            have hxu : X15 (x9 + 2) = M := by rw [eX15, up_o (by omega)]; exact hxu
            have hxR : X15 (22) = o := by rw [eX15, up_o (by omega)]; exact hxR
            have hxP : X15 (21) = o * o := by rw [eX15]; exact up_s.trans hv9
            have hXb : ∀ p, X15 p < nM ^ 64 := fun p => by (rw [eX15]; unfold va_up; split; (rw [hv9]; exact hB9); exact hXb p)
            have hfr : ∀ p, p ≠ x9 → p < 18 ∨ 22 < p → X15 p = X p ∧ S1 p = S p := fun p h1 h2 => by rw [eX15, up_o (by omega)]; exact hfr p h1 h2
            obtain ⟨S16, eS16⟩ : ∃ S_, S_ = va_up S1 (21) (nI 0) := ⟨_, rfl⟩
            rw [← eS16] at hS
            have hv9 : (nI 0 : Int32) = nI 0 := rfl
            have hsP : S16 (21) = nI 0 := by rw [eS16]; exact up_s.trans hv9
            have hfr : ∀ p, p ≠ x9 → p < 18 ∨ 22 < p → X15 p = X p ∧ S16 p = S p := fun p h1 h2 => by rw [eS16, up_o (by omega)]; exact hfr p h1 h2
            have b0 : w501 b = some (.inr (10, [.int (nI (I 0)), .ref (b + 1), .ref (b + 2), .int (nI (I 3)), .ref (b + 3), .ref (b + 4), .int (nI (I 6)), .int (nI (I 7)), .ref (b + 5), .ref (b + 6), .int (nI (I 10)), .int (nI (I 11)), .int (nI (I 12)), .int (nI (I 13)), .ref (b + 7), .ref (b + 8), .int (nI (I 16)), .int (nI (I 17)), .int (nI (I 18)), .int (nI (I 19))])) := hS.1
            have b1 : w501 (b + 1) = some (.inl (cL, 1536, .inr (.inl (fun i => lN (mC X15 i))))) := hS.2.1
            have b2 : w501 (b + 2) = some (.inl (cI, 24, .inl (S16))) := hS.2.2.1
            refine W.eq (g2 := F0 m 81 ls []) rfl ?_
            refine lv_aload_n (pc := 81) hx hb dMo_modular_81 rfl (lv_at hl 2 rfl) ?_
            refine lv_bipush (pc := 82) (v := (nI 21)) hx hb dMo_modular_82 (by decide) ?_
            refine lv_iload_n (pc := 84) hx hb dMo_modular_84 rfl (lv_at hl 5 rfl) ?_
            have hd0 := hxP
            have hd1 := hxu
            refine fw_cV (pc := 85) (As := [.int (nI 21), .int (nI (x9 + 2))]) (rest := []) ⟨hx, hb, hml, hown, hW⟩ (c_Mo_divide (pa := 21) (pb := x9 + 2) hS hXb (by omega) (by omega) (by omega) (by omega) (by omega) (by rw [hxu]; exact hM0)) (cwV 2 hW (kw_V lm_Mo_159 im_Mo_divide se_Mo_divide ini_Mo cd_Mo_divide) rfl rfl rfl (by decide +kernel) ⟨Nat.le_of_ble_eq_true rfl, Nat.le_of_ble_eq_true rfl⟩) hK hw b0 rfl rfl hl.1 rfl (Nat.le_of_ble_eq_true rfl) dMo_modular_85 ⟨Nat.le_of_ble_eq_true rfl, Nat.le_of_ble_eq_true rfl⟩ (fun v w502 H locs hq hw => ?_)
            obtain ⟨rfl, hS, hn9⟩ := hq
            have hoF : ∀ q, q < b ∨ b + 9 ≤ q → w502 q = w q := fun q h9 => (hn9 q h9).trans (hoF q h9)
            have hB9 : (o * o) / M < nM ^ 64 := Nat.lt_of_le_of_lt (Nat.div_le_self _ _) (by rw [← hd0]; exact hXb _)
            have hB8 : (o * o) % M < nM ^ 64 := Nat.lt_trans (Nat.lt_trans (Nat.mod_lt _ hM0) hM7) p64
            obtain ⟨X17, eX17⟩ : ∃ X_, X_ = va_up X15 (20) (X15 (21) / X15 (x9 + 2)) := ⟨_, rfl⟩
            rw [← eX17] at hS
            have hv9 : X15 (21) / X15 (x9 + 2) = (o * o) / M := (by rw [hd0, hd1])
            have hxx : X17 (x9) = B := by rw [eX17, up_o (by omega)]; exact hxx
            have hxy : X17 (x9 + 1) = Y := by rw [eX17, up_o (by omega)]; exact hxy
            have hxu : X17 (x9 + 2) = M := by rw [eX17, up_o (by omega)]; exact hxu
            have hxR : X17 (22) = o := by rw [eX17, up_o (by omega)]; exact hxR
            have hxP : X17 (21) = o * o := by rw [eX17, up_o (by omega)]; exact hxP
            have hxQ : X17 (20) = (o * o) / M := by rw [eX17]; exact up_s.trans hv9
            have hXb : ∀ p, X17 p < nM ^ 64 := fun p => by (rw [eX17]; unfold va_up; split; (rw [hv9]; exact hB9); exact hXb p)
            have hfr : ∀ p, p ≠ x9 → p < 18 ∨ 22 < p → X17 p = X p ∧ S16 p = S p := fun p h1 h2 => by rw [eX17, up_o (by omega)]; exact hfr p h1 h2
            obtain ⟨X18, eX18⟩ : ∃ X_, X_ = va_up X17 (21) (X15 (21) % X15 (x9 + 2)) := ⟨_, rfl⟩
            rw [← eX18] at hS
            have hv9 : X15 (21) % X15 (x9 + 2) = (o * o) % M := (by rw [hd0, hd1])
            have hxx : X18 (x9) = B := by rw [eX18, up_o (by omega)]; exact hxx
            have hxy : X18 (x9 + 1) = Y := by rw [eX18, up_o (by omega)]; exact hxy
            have hxu : X18 (x9 + 2) = M := by rw [eX18, up_o (by omega)]; exact hxu
            have hxR : X18 (22) = o := by rw [eX18, up_o (by omega)]; exact hxR
            have hxQ : X18 (20) = (o * o) / M := by rw [eX18, up_o (by omega)]; exact hxQ
            have hxP : X18 (21) = (o * o) % M := by rw [eX18]; exact up_s.trans hv9
            have hXb : ∀ p, X18 p < nM ^ 64 := fun p => by (rw [eX18]; unfold va_up; split; (rw [hv9]; exact hB8); exact hXb p)
            have hfr : ∀ p, p ≠ x9 → p < 18 ∨ 22 < p → X18 p = X p ∧ S16 p = S p := fun p h1 h2 => by rw [eX18, up_o (by omega)]; exact hfr p h1 h2
            obtain ⟨S19, eS19⟩ : ∃ S_, S_ = va_up S16 (20) (nI 0) := ⟨_, rfl⟩
            rw [← eS19] at hS
            have hv9 : (nI 0 : Int32) = nI 0 := rfl
            have hsP : S19 (21) = nI 0 := by rw [eS19, up_o (by omega)]; exact hsP
            have hsQ : S19 (20) = nI 0 := by rw [eS19]; exact up_s.trans hv9
            have hfr : ∀ p, p ≠ x9 → p < 18 ∨ 22 < p → X18 p = X p ∧ S19 p = S p := fun p h1 h2 => by rw [eS19, up_o (by omega)]; exact hfr p h1 h2
            have b0 : w502 b = some (.inr (10, [.int (nI (I 0)), .ref (b + 1), .ref (b + 2), .int (nI (I 3)), .ref (b + 3), .ref (b + 4), .int (nI (I 6)), .int (nI (I 7)), .ref (b + 5), .ref (b + 6), .int (nI (I 10)), .int (nI (I 11)), .int (nI (I 12)), .int (nI (I 13)), .ref (b + 7), .ref (b + 8), .int (nI (I 16)), .int (nI (I 17)), .int (nI (I 18)), .int (nI (I 19))])) := hS.1
            have b1 : w502 (b + 1) = some (.inl (cL, 1536, .inr (.inl (fun i => lN (mC X18 i))))) := hS.2.1
            have b2 : w502 (b + 2) = some (.inl (cI, 24, .inl (S19))) := hS.2.2.1
            refine W.eq (g2 := F0 m 88 ls []) rfl ?_
            refine lv_aload_n (pc := 88) hx hb dMo_modular_88 rfl (lv_at hl 2 rfl) ?_
            refine lv_bipush (pc := 89) (v := (nI 21)) hx hb dMo_modular_89 (by decide) ?_
            refine lv_bipush (pc := 91) (v := (nI 22)) hx hb dMo_modular_91 (by decide) ?_
            refine fw_cV (pc := 93) (As := [.int (nI 21), .int (nI 22)]) (rest := []) ⟨hx, hb, hml, hown, hW⟩ (c_Mo_copy (pa := 21) (pc9 := 22) hS hXb (by omega) (by omega) (by omega)) (cwV 2 hW (kw_V lm_Mo_143 im_Mo_copy se_Mo_copy ini_Mo cd_Mo_copy) rfl rfl rfl (by decide +kernel) ⟨Nat.le_of_ble_eq_true rfl, Nat.le_of_ble_eq_true rfl⟩) hK hw b0 rfl rfl hl.1 rfl (Nat.le_of_ble_eq_true rfl) dMo_modular_93 ⟨Nat.le_of_ble_eq_true rfl, Nat.le_of_ble_eq_true rfl⟩ (fun v w503 H locs hq hw => ?_)
            obtain ⟨rfl, hS, hn9⟩ := hq
            have hoF : ∀ q, q < b ∨ b + 9 ≤ q → w503 q = w q := fun q h9 => (hn9 q h9).trans (hoF q h9)
            have hB9 : (o * o) % M < nM ^ 64 := by rw [← hxP]; exact hXb _
            obtain ⟨X20, eX20⟩ : ∃ X_, X_ = va_up X18 (22) (X18 (21)) := ⟨_, rfl⟩
            rw [← eX20] at hS
            have hv9 : X18 (21) = (o * o) % M := hxP
            have hxx : X20 (x9) = B := by rw [eX20, up_o (by omega)]; exact hxx
            have hxy : X20 (x9 + 1) = Y := by rw [eX20, up_o (by omega)]; exact hxy
            have hxu : X20 (x9 + 2) = M := by rw [eX20, up_o (by omega)]; exact hxu
            have hxP : X20 (21) = (o * o) % M := by rw [eX20, up_o (by omega)]; exact hxP
            have hxQ : X20 (20) = (o * o) / M := by rw [eX20, up_o (by omega)]; exact hxQ
            have hxR : X20 (22) = (o * o) % M := by rw [eX20]; exact up_s.trans hv9
            have hXb : ∀ p, X20 p < nM ^ 64 := fun p => by (rw [eX20]; unfold va_up; split; (rw [hv9]; exact hB9); exact hXb p)
            have hfr : ∀ p, p ≠ x9 → p < 18 ∨ 22 < p → X20 p = X p ∧ S19 p = S p := fun p h1 h2 => by rw [eX20, up_o (by omega)]; exact hfr p h1 h2
            obtain ⟨S21, eS21⟩ : ∃ S_, S_ = va_up S19 (22) (S19 (21)) := ⟨_, rfl⟩
            rw [← eS21] at hS
            have hv9 : (S19 (21) : Int32) = S19 (21) := rfl
            have hsP : S21 (21) = nI 0 := by rw [eS21, up_o (by omega)]; exact hsP
            have hsQ : S21 (20) = nI 0 := by rw [eS21, up_o (by omega)]; exact hsQ
            have hsR : S21 (22) = S19 (21) := by rw [eS21]; exact up_s.trans hv9
            have hfr : ∀ p, p ≠ x9 → p < 18 ∨ 22 < p → X20 p = X p ∧ S21 p = S p := fun p h1 h2 => by rw [eS21, up_o (by omega)]; exact hfr p h1 h2
            have b0 : w503 b = some (.inr (10, [.int (nI (I 0)), .ref (b + 1), .ref (b + 2), .int (nI (I 3)), .ref (b + 3), .ref (b + 4), .int (nI (I 6)), .int (nI (I 7)), .ref (b + 5), .ref (b + 6), .int (nI (I 10)), .int (nI (I 11)), .int (nI (I 12)), .int (nI (I 13)), .ref (b + 7), .ref (b + 8), .int (nI (I 16)), .int (nI (I 17)), .int (nI (I 18)), .int (nI (I 19))])) := hS.1
            have b1 : w503 (b + 1) = some (.inl (cL, 1536, .inr (.inl (fun i => lN (mC X20 i))))) := hS.2.1
            have b2 : w503 (b + 2) = some (.inl (cI, 24, .inl (S21))) := hS.2.2.1
            refine W.eq (g2 := F0 m 96 ls []) rfl ?_
            have hso : o * o % M = B ^ (2 * (Y / 2 ^ (i + 1))) % M := by rw [hoe]; exact md_sq
            have hso7 : o * o % M < 2 ^ 768 := Nat.lt_trans (Nat.mod_lt _ hM0) hM7
            have hB7 : B < 2 ^ 768 := Nat.lt_trans hBM hM7
            have hpb := pw_bit Y i
            refine lv_aload_n (pc := 96) hx hb dMo_modular_96 rfl (lv_at hl 2 rfl) ?_
            refine lv_iload_n (pc := 97) hx hb dMo_modular_97 rfl (lv_at hl 4 rfl) ?_
            refine lv_iload (pc := 98) hx hb dMo_modular_98 (lv_at hl 0 rfl) ?_
            refine fw_cVR (pc := 100) (As := [.int (nI (x9 + 1)), .int (nI i)]) (rest := []) ⟨hx, hb, hml, hown, hW⟩ (c_Mo_bit (p0 := x9 + 1) (k := i) hS hXb (by omega) (by omega)) (cwV 2 hW (kw_V lm_Mo_139 im_Mo_bit se_Mo_bit ini_Mo cd_Mo_bit) rfl rfl rfl (by decide +kernel) ⟨Nat.le_of_ble_eq_true rfl, Nat.le_of_ble_eq_true rfl⟩) hK hw b0 rfl rfl hl.1 rfl (Nat.le_of_ble_eq_true rfl) dMo_modular_100 ⟨Nat.le_of_ble_eq_true rfl, Nat.le_of_ble_eq_true rfl⟩ (fun v hq => ?_)
            rw [hxy] at hq
            subst hq
            refine W.eq (g2 := F0 m 103 ls [.int (nI (Y / 2 ^ i % 2))]) rfl ?_
            rcases (show Y / 2 ^ i % 2 = 0 ∨ Y / 2 ^ i % 2 = 1 by omega) with hy2 | hy2
            · rw [show (nI (Y / 2 ^ i % 2) : Int32) = nI 0 from (by rw [hy2])]
              refine lv_iconst (pc := 103) (v := (nI 1)) hx hb dMo_modular_103 (by decide) ?_
              refine lv_icmp_ne (pc := 104) (tgt := 131) hx hb dMo_modular_104 (by decide) (fun _ => ?_) (fun hc => absurd hc (by decide))
              refine lv_iinc (pc := 131) (lv' := [(5, .int (nI i - nI 1)), (4, .int (nI 0)), (0, .ref b), (1, .int (nI x9)), (2, .int (nI (x9 + 1))), (3, .int (nI (x9 + 2)))]) hx hb dMo_modular_131 hl (k := 0) rfl ((by rw [Int32.sub_eq_add_neg]; rfl)) (by decide) rfl (fun ls hl => ?_)
              refine lv_goto (pc := 134) (tgt := 66) hx hb dMo_modular_134 (by decide) ?_
              exact ih _ (by omega) (by rw [hpb, hy2, Nat.add_zero]; exact hso) _ H locs ls _ _ hw (lv_sub hl [0, 1, 2, 3, 4, 5] rfl) hS hXb hxx hxy hxu hxR hfr hoF
            · rw [show (nI (Y / 2 ^ i % 2) : Int32) = nI 1 from (by rw [hy2])]
              refine lv_iconst (pc := 103) (v := (nI 1)) hx hb dMo_modular_103 (by decide) ?_
              refine lv_icmp_ne (pc := 104) (tgt := 131) hx hb dMo_modular_104 (by decide) (fun hc => absurd hc (fun h => h rfl)) (fun _ => ?_)
              refine lv_aload_n (pc := 107) hx hb dMo_modular_107 rfl (lv_at hl 2 rfl) ?_
              refine lv_bipush (pc := 108) (v := (nI 22)) hx hb dMo_modular_108 (by decide) ?_
              refine lv_iload_n (pc := 110) hx hb dMo_modular_110 rfl (lv_at hl 3 rfl) ?_
              refine lv_bipush (pc := 111) (v := (nI 21)) hx hb dMo_modular_111 (by decide) ?_
              refine fw_cV (pc := 113) (As := [.int (nI 22), .int (nI x9), .int (nI 21)]) (rest := []) ⟨hx, hb, hml, hown, hW⟩ (c_Mo_multiply (pa := 22) (pb := x9) (pt := 21) hS hXb (by omega) (by omega) (by omega) (by omega) (by omega) (by rw [hxR, ← q32]; exact hso7) (by rw [hxx, ← q32]; exact hB7)) (cwV 3 hW (kw_V lm_Mo_155 im_Mo_multiply se_Mo_multiply ini_Mo cd_Mo_multiply) rfl rfl rfl (by decide +kernel) ⟨Nat.le_of_ble_eq_true rfl, Nat.le_of_ble_eq_true rfl⟩) hK hw b0 rfl rfl hl.1 rfl (Nat.le_of_ble_eq_true rfl) dMo_modular_113 ⟨Nat.le_of_ble_eq_true rfl, Nat.le_of_ble_eq_true rfl⟩ (fun v w504 H locs hq hw => ?_)
              obtain ⟨rfl, hS, hn9⟩ := hq
              have hoF : ∀ q, q < b ∨ b + 9 ≤ q → w504 q = w q := fun q h9 => (hn9 q h9).trans (hoF q h9)
              have hB9 : (o * o % M) * B < nM ^ 64 := Nat.lt_of_le_of_lt (Nat.mul_le_mul (Nat.le_sub_one_of_lt hso7) (Nat.le_sub_one_of_lt hB7)) (by decide +kernel)
              obtain ⟨X22, eX22⟩ : ∃ X_, X_ = va_up X20 (21) (X20 (22) * X20 (x9)) := ⟨_, rfl⟩
              rw [← eX22] at hS
              have hv9 : X20 (22) * X20 (x9) = (o * o % M) * B := (by rw [hxR, hxx])
              have hxx : X22 (x9) = B := by rw [eX22, up_o (by omega)]; exact hxx
              have hxy : X22 (x9 + 1) = Y := by rw [eX22, up_o (by omega)]; exact hxy
              have hxu : X22 (x9 + 2) = M := by rw [eX22, up_o (by omega)]; exact hxu
              have hxR : X22 (22) = (o * o) % M := by rw [eX22, up_o (by omega)]; exact hxR
              have hxQ : X22 (20) = (o * o) / M := by rw [eX22, up_o (by omega)]; exact hxQ
              have hxP : X22 (21) = (o * o % M) * B := by rw [eX22]; exact up_s.trans hv9
              have hXb : ∀ p, X22 p < nM ^ 64 := fun p => by (rw [eX22]; unfold va_up; split; (rw [hv9]; exact hB9); exact hXb p)
              have hfr : ∀ p, p ≠ x9 → p < 18 ∨ 22 < p → X22 p = X p ∧ S21 p = S p := fun p h1 h2 => by rw [eX22, up_o (by omega)]; exact hfr p h1 h2
              obtain ⟨S23, eS23⟩ : ∃ S_, S_ = va_up S21 (21) (nI 0) := ⟨_, rfl⟩
              rw [← eS23] at hS
              have hv9 : (nI 0 : Int32) = nI 0 := rfl
              have hsQ : S23 (20) = nI 0 := by rw [eS23, up_o (by omega)]; exact hsQ
              have hsP : S23 (21) = nI 0 := by rw [eS23]; exact up_s.trans hv9
              have hfr : ∀ p, p ≠ x9 → p < 18 ∨ 22 < p → X22 p = X p ∧ S23 p = S p := fun p h1 h2 => by rw [eS23, up_o (by omega)]; exact hfr p h1 h2
              have b0 : w504 b = some (.inr (10, [.int (nI (I 0)), .ref (b + 1), .ref (b + 2), .int (nI (I 3)), .ref (b + 3), .ref (b + 4), .int (nI (I 6)), .int (nI (I 7)), .ref (b + 5), .ref (b + 6), .int (nI (I 10)), .int (nI (I 11)), .int (nI (I 12)), .int (nI (I 13)), .ref (b + 7), .ref (b + 8), .int (nI (I 16)), .int (nI (I 17)), .int (nI (I 18)), .int (nI (I 19))])) := hS.1
              have b1 : w504 (b + 1) = some (.inl (cL, 1536, .inr (.inl (fun i => lN (mC X22 i))))) := hS.2.1
              have b2 : w504 (b + 2) = some (.inl (cI, 24, .inl (S23))) := hS.2.2.1
              refine W.eq (g2 := F0 m 116 ls []) rfl ?_
              refine lv_aload_n (pc := 116) hx hb dMo_modular_116 rfl (lv_at hl 2 rfl) ?_
              refine lv_bipush (pc := 117) (v := (nI 21)) hx hb dMo_modular_117 (by decide) ?_
              refine lv_iload_n (pc := 119) hx hb dMo_modular_119 rfl (lv_at hl 5 rfl) ?_
              have hd0 := hxP
              have hd1 := hxu
              refine fw_cV (pc := 120) (As := [.int (nI 21), .int (nI (x9 + 2))]) (rest := []) ⟨hx, hb, hml, hown, hW⟩ (c_Mo_divide (pa := 21) (pb := x9 + 2) hS hXb (by omega) (by omega) (by omega) (by omega) (by omega) (by rw [hxu]; exact hM0)) (cwV 2 hW (kw_V lm_Mo_159 im_Mo_divide se_Mo_divide ini_Mo cd_Mo_divide) rfl rfl rfl (by decide +kernel) ⟨Nat.le_of_ble_eq_true rfl, Nat.le_of_ble_eq_true rfl⟩) hK hw b0 rfl rfl hl.1 rfl (Nat.le_of_ble_eq_true rfl) dMo_modular_120 ⟨Nat.le_of_ble_eq_true rfl, Nat.le_of_ble_eq_true rfl⟩ (fun v w505 H locs hq hw => ?_)
              obtain ⟨rfl, hS, hn9⟩ := hq
              have hoF : ∀ q, q < b ∨ b + 9 ≤ q → w505 q = w q := fun q h9 => (hn9 q h9).trans (hoF q h9)
              have hB9 : ((o * o % M) * B) / M < nM ^ 64 := Nat.lt_of_le_of_lt (Nat.div_le_self _ _) (by rw [← hd0]; exact hXb _)
              have hB8 : ((o * o % M) * B) % M < nM ^ 64 := Nat.lt_trans (Nat.lt_trans (Nat.mod_lt _ hM0) hM7) p64
              obtain ⟨X24, eX24⟩ : ∃ X_, X_ = va_up X22 (20) (X22 (21) / X22 (x9 + 2)) := ⟨_, rfl⟩
              rw [← eX24] at hS
              have hv9 : X22 (21) / X22 (x9 + 2) = ((o * o % M) * B) / M := (by rw [hd0, hd1])
              have hxx : X24 (x9) = B := by rw [eX24, up_o (by omega)]; exact hxx
              have hxy : X24 (x9 + 1) = Y := by rw [eX24, up_o (by omega)]; exact hxy
              have hxu : X24 (x9 + 2) = M := by rw [eX24, up_o (by omega)]; exact hxu
              have hxR : X24 (22) = (o * o) % M := by rw [eX24, up_o (by omega)]; exact hxR
              have hxP : X24 (21) = (o * o % M) * B := by rw [eX24, up_o (by omega)]; exact hxP
              have hxQ : X24 (20) = ((o * o % M) * B) / M := by rw [eX24]; exact up_s.trans hv9
              have hXb : ∀ p, X24 p < nM ^ 64 := fun p => by (rw [eX24]; unfold va_up; split; (rw [hv9]; exact hB9); exact hXb p)
              have hfr : ∀ p, p ≠ x9 → p < 18 ∨ 22 < p → X24 p = X p ∧ S23 p = S p := fun p h1 h2 => by rw [eX24, up_o (by omega)]; exact hfr p h1 h2
              obtain ⟨X25, eX25⟩ : ∃ X_, X_ = va_up X24 (21) (X22 (21) % X22 (x9 + 2)) := ⟨_, rfl⟩
              rw [← eX25] at hS
              have hv9 : X22 (21) % X22 (x9 + 2) = ((o * o % M) * B) % M := (by rw [hd0, hd1])
              have hxx : X25 (x9) = B := by rw [eX25, up_o (by omega)]; exact hxx
              have hxy : X25 (x9 + 1) = Y := by rw [eX25, up_o (by omega)]; exact hxy
              have hxu : X25 (x9 + 2) = M := by rw [eX25, up_o (by omega)]; exact hxu
              have hxR : X25 (22) = (o * o) % M := by rw [eX25, up_o (by omega)]; exact hxR
              have hxQ : X25 (20) = ((o * o % M) * B) / M := by rw [eX25, up_o (by omega)]; exact hxQ
              have hxP : X25 (21) = ((o * o % M) * B) % M := by rw [eX25]; exact up_s.trans hv9
              have hXb : ∀ p, X25 p < nM ^ 64 := fun p => by (rw [eX25]; unfold va_up; split; (rw [hv9]; exact hB8); exact hXb p)
              have hfr : ∀ p, p ≠ x9 → p < 18 ∨ 22 < p → X25 p = X p ∧ S23 p = S p := fun p h1 h2 => by rw [eX25, up_o (by omega)]; exact hfr p h1 h2
              obtain ⟨S26, eS26⟩ : ∃ S_, S_ = va_up S23 (20) (nI 0) := ⟨_, rfl⟩
              rw [← eS26] at hS
              have hv9 : (nI 0 : Int32) = nI 0 := rfl
              have hsP : S26 (21) = nI 0 := by rw [eS26, up_o (by omega)]; exact hsP
              have hsQ : S26 (20) = nI 0 := by rw [eS26]; exact up_s.trans hv9
              have hfr : ∀ p, p ≠ x9 → p < 18 ∨ 22 < p → X25 p = X p ∧ S26 p = S p := fun p h1 h2 => by rw [eS26, up_o (by omega)]; exact hfr p h1 h2
              have b0 : w505 b = some (.inr (10, [.int (nI (I 0)), .ref (b + 1), .ref (b + 2), .int (nI (I 3)), .ref (b + 3), .ref (b + 4), .int (nI (I 6)), .int (nI (I 7)), .ref (b + 5), .ref (b + 6), .int (nI (I 10)), .int (nI (I 11)), .int (nI (I 12)), .int (nI (I 13)), .ref (b + 7), .ref (b + 8), .int (nI (I 16)), .int (nI (I 17)), .int (nI (I 18)), .int (nI (I 19))])) := hS.1
              have b1 : w505 (b + 1) = some (.inl (cL, 1536, .inr (.inl (fun i => lN (mC X25 i))))) := hS.2.1
              have b2 : w505 (b + 2) = some (.inl (cI, 24, .inl (S26))) := hS.2.2.1
              refine W.eq (g2 := F0 m 123 ls []) rfl ?_
              refine lv_aload_n (pc := 123) hx hb dMo_modular_123 rfl (lv_at hl 2 rfl) ?_
              refine lv_bipush (pc := 124) (v := (nI 21)) hx hb dMo_modular_124 (by decide) ?_
              refine lv_bipush (pc := 126) (v := (nI 22)) hx hb dMo_modular_126 (by decide) ?_
              refine fw_cV (pc := 128) (As := [.int (nI 21), .int (nI 22)]) (rest := []) ⟨hx, hb, hml, hown, hW⟩ (c_Mo_copy (pa := 21) (pc9 := 22) hS hXb (by omega) (by omega) (by omega)) (cwV 2 hW (kw_V lm_Mo_143 im_Mo_copy se_Mo_copy ini_Mo cd_Mo_copy) rfl rfl rfl (by decide +kernel) ⟨Nat.le_of_ble_eq_true rfl, Nat.le_of_ble_eq_true rfl⟩) hK hw b0 rfl rfl hl.1 rfl (Nat.le_of_ble_eq_true rfl) dMo_modular_128 ⟨Nat.le_of_ble_eq_true rfl, Nat.le_of_ble_eq_true rfl⟩ (fun v w506 H locs hq hw => ?_)
              obtain ⟨rfl, hS, hn9⟩ := hq
              have hoF : ∀ q, q < b ∨ b + 9 ≤ q → w506 q = w q := fun q h9 => (hn9 q h9).trans (hoF q h9)
              have hB9 : ((o * o % M) * B) % M < nM ^ 64 := by rw [← hxP]; exact hXb _
              obtain ⟨X27, eX27⟩ : ∃ X_, X_ = va_up X25 (22) (X25 (21)) := ⟨_, rfl⟩
              rw [← eX27] at hS
              have hv9 : X25 (21) = ((o * o % M) * B) % M := hxP
              have hxx : X27 (x9) = B := by rw [eX27, up_o (by omega)]; exact hxx
              have hxy : X27 (x9 + 1) = Y := by rw [eX27, up_o (by omega)]; exact hxy
              have hxu : X27 (x9 + 2) = M := by rw [eX27, up_o (by omega)]; exact hxu
              have hxP : X27 (21) = ((o * o % M) * B) % M := by rw [eX27, up_o (by omega)]; exact hxP
              have hxQ : X27 (20) = ((o * o % M) * B) / M := by rw [eX27, up_o (by omega)]; exact hxQ
              have hxR : X27 (22) = ((o * o % M) * B) % M := by rw [eX27]; exact up_s.trans hv9
              have hXb : ∀ p, X27 p < nM ^ 64 := fun p => by (rw [eX27]; unfold va_up; split; (rw [hv9]; exact hB9); exact hXb p)
              have hfr : ∀ p, p ≠ x9 → p < 18 ∨ 22 < p → X27 p = X p ∧ S26 p = S p := fun p h1 h2 => by rw [eX27, up_o (by omega)]; exact hfr p h1 h2
              obtain ⟨S28, eS28⟩ : ∃ S_, S_ = va_up S26 (22) (S26 (21)) := ⟨_, rfl⟩
              rw [← eS28] at hS
              have hv9 : (S26 (21) : Int32) = S26 (21) := rfl
              have hsP : S28 (21) = nI 0 := by rw [eS28, up_o (by omega)]; exact hsP
              have hsQ : S28 (20) = nI 0 := by rw [eS28, up_o (by omega)]; exact hsQ
              have hsR : S28 (22) = S26 (21) := by rw [eS28]; exact up_s.trans hv9
              have hfr : ∀ p, p ≠ x9 → p < 18 ∨ 22 < p → X27 p = X p ∧ S28 p = S p := fun p h1 h2 => by rw [eS28, up_o (by omega)]; exact hfr p h1 h2
              have b0 : w506 b = some (.inr (10, [.int (nI (I 0)), .ref (b + 1), .ref (b + 2), .int (nI (I 3)), .ref (b + 3), .ref (b + 4), .int (nI (I 6)), .int (nI (I 7)), .ref (b + 5), .ref (b + 6), .int (nI (I 10)), .int (nI (I 11)), .int (nI (I 12)), .int (nI (I 13)), .ref (b + 7), .ref (b + 8), .int (nI (I 16)), .int (nI (I 17)), .int (nI (I 18)), .int (nI (I 19))])) := hS.1
              have b1 : w506 (b + 1) = some (.inl (cL, 1536, .inr (.inl (fun i => lN (mC X27 i))))) := hS.2.1
              have b2 : w506 (b + 2) = some (.inl (cI, 24, .inl (S28))) := hS.2.2.1
              refine W.eq (g2 := F0 m 131 ls []) rfl ?_
              refine lv_iinc (pc := 131) (lv' := [(5, .int (nI i - nI 1)), (4, .int (nI 0)), (0, .ref b), (1, .int (nI x9)), (2, .int (nI (x9 + 1))), (3, .int (nI (x9 + 2)))]) hx hb dMo_modular_131 hl (k := 0) rfl ((by rw [Int32.sub_eq_add_neg]; rfl)) (by decide) rfl (fun ls hl => ?_)
              refine lv_goto (pc := 134) (tgt := 66) hx hb dMo_modular_134 (by decide) ?_
              exact ih _ (by omega) (by rw [hpb, hy2, hso]; exact md_mul) _ H locs ls _ _ hw (lv_sub hl [0, 1, 2, 3, 4, 5] rfl) hS hXb hxx hxy hxu hxR hfr hoF
        refine lv_istore (pc := 40) (lv' := [(4, .int (nI 0)), (0, .ref b), (1, .int (nI x9)), (2, .int (nI (x9 + 1))), (3, .int (nI (x9 + 2)))]) hx hb dMo_modular_40 hl (by decide) rfl (fun ls hl => ?_)
        refine lv_aload_n (pc := 42) hx hb dMo_modular_42 rfl (lv_at hl 1 rfl) ?_
        refine lv_bipush (pc := 43) (v := (nI 23)) hx hb dMo_modular_43 (by decide) ?_
        refine lv_bipush (pc := 45) (v := (nI 22)) hx hb dMo_modular_45 (by decide) ?_
        refine fw_cV (pc := 47) (As := [.int (nI 23), .int (nI 22)]) (rest := []) ⟨hx, hb, hml, hown, hW⟩ (c_Mo_copy (pa := 23) (pc9 := 22) hS hXb (by omega) (by omega) (by omega)) (cwV 2 hW (kw_V lm_Mo_143 im_Mo_copy se_Mo_copy ini_Mo cd_Mo_copy) rfl rfl rfl (by decide +kernel) ⟨Nat.le_of_ble_eq_true rfl, Nat.le_of_ble_eq_true rfl⟩) hK hw b0 rfl rfl hl.1 rfl (Nat.le_of_ble_eq_true rfl) dMo_modular_47 ⟨Nat.le_of_ble_eq_true rfl, Nat.le_of_ble_eq_true rfl⟩ (fun v w601 H locs hq hw => ?_)
        obtain ⟨rfl, hS, hn9⟩ := hq
        have hoF : ∀ q, q < b ∨ b + 9 ≤ q → w601 q = w q := fun q h9 => (hn9 q h9).trans (hoF q h9)
        have hB9 : 1 < nM ^ 64 := by rw [← hxO]; exact hXb _
        obtain ⟨X29, eX29⟩ : ∃ X_, X_ = va_up X2 (22) (X2 (23)) := ⟨_, rfl⟩
        rw [← eX29] at hS
        have hv9 : X2 (23) = 1 := hxO
        have hxx : X29 (x9) = B := by rw [eX29, up_o (by omega)]; exact hxx
        have hxy : X29 (x9 + 1) = Y := by rw [eX29, up_o (by omega)]; exact hxy
        have hxu : X29 (x9 + 2) = M := by rw [eX29, up_o (by omega)]; exact hxu
        have hxO : X29 (23) = 1 := by rw [eX29, up_o (by omega)]; exact hxO
        have hxR : X29 (22) = 1 := by rw [eX29]; exact up_s.trans hv9
        have hXb : ∀ p, X29 p < nM ^ 64 := fun p => by (rw [eX29]; unfold va_up; split; (rw [hv9]; exact hB9); exact hXb p)
        have hfr : ∀ p, p ≠ x9 → p < 18 ∨ 22 < p → X29 p = X p ∧ S2 p = S p := fun p h1 h2 => by rw [eX29, up_o (by omega)]; exact hfr p h1 h2
        obtain ⟨S30, eS30⟩ : ∃ S_, S_ = va_up S2 (22) (S2 (23)) := ⟨_, rfl⟩
        rw [← eS30] at hS
        have hv9 : (S2 (23) : Int32) = S2 (23) := rfl
        have hsO : S30 (23) = nI 1 := by rw [eS30, up_o (by omega)]; exact hsO
        have hsR : S30 (22) = S2 (23) := by rw [eS30]; exact up_s.trans hv9
        have hfr : ∀ p, p ≠ x9 → p < 18 ∨ 22 < p → X29 p = X p ∧ S30 p = S p := fun p h1 h2 => by rw [eS30, up_o (by omega)]; exact hfr p h1 h2
        have b0 : w601 b = some (.inr (10, [.int (nI (I 0)), .ref (b + 1), .ref (b + 2), .int (nI (I 3)), .ref (b + 3), .ref (b + 4), .int (nI (I 6)), .int (nI (I 7)), .ref (b + 5), .ref (b + 6), .int (nI (I 10)), .int (nI (I 11)), .int (nI (I 12)), .int (nI (I 13)), .ref (b + 7), .ref (b + 8), .int (nI (I 16)), .int (nI (I 17)), .int (nI (I 18)), .int (nI (I 19))])) := hS.1
        have b1 : w601 (b + 1) = some (.inl (cL, 1536, .inr (.inl (fun i => lN (mC X29 i))))) := hS.2.1
        have b2 : w601 (b + 2) = some (.inl (cI, 24, .inl (S30))) := hS.2.2.1
        refine W.eq (g2 := F0 m 50 ls []) rfl ?_
        refine lv_aload_n (pc := 50) hx hb dMo_modular_50 rfl (lv_at hl 1 rfl) ?_
        refine lv_bipush (pc := 51) (v := (nI 22)) hx hb dMo_modular_51 (by decide) ?_
        refine lv_iload_n (pc := 53) hx hb dMo_modular_53 rfl (lv_at hl 4 rfl) ?_
        have hd0 := hxR
        have hd1 := hxu
        refine fw_cV (pc := 54) (As := [.int (nI 22), .int (nI (x9 + 2))]) (rest := []) ⟨hx, hb, hml, hown, hW⟩ (c_Mo_divide (pa := 22) (pb := x9 + 2) hS hXb (by omega) (by omega) (by omega) (by omega) (by omega) (by rw [hxu]; exact hM0)) (cwV 2 hW (kw_V lm_Mo_159 im_Mo_divide se_Mo_divide ini_Mo cd_Mo_divide) rfl rfl rfl (by decide +kernel) ⟨Nat.le_of_ble_eq_true rfl, Nat.le_of_ble_eq_true rfl⟩) hK hw b0 rfl rfl hl.1 rfl (Nat.le_of_ble_eq_true rfl) dMo_modular_54 ⟨Nat.le_of_ble_eq_true rfl, Nat.le_of_ble_eq_true rfl⟩ (fun v w602 H locs hq hw => ?_)
        obtain ⟨rfl, hS, hn9⟩ := hq
        have hoF : ∀ q, q < b ∨ b + 9 ≤ q → w602 q = w q := fun q h9 => (hn9 q h9).trans (hoF q h9)
        have hB9 : (1) / M < nM ^ 64 := Nat.lt_of_le_of_lt (Nat.div_le_self _ _) (by rw [← hd0]; exact hXb _)
        have hB8 : (1) % M < nM ^ 64 := Nat.lt_trans (Nat.lt_trans (Nat.mod_lt _ hM0) hM7) p64
        obtain ⟨X31, eX31⟩ : ∃ X_, X_ = va_up X29 (20) (X29 (22) / X29 (x9 + 2)) := ⟨_, rfl⟩
        rw [← eX31] at hS
        have hv9 : X29 (22) / X29 (x9 + 2) = (1) / M := (by rw [hd0, hd1])
        have hxx : X31 (x9) = B := by rw [eX31, up_o (by omega)]; exact hxx
        have hxy : X31 (x9 + 1) = Y := by rw [eX31, up_o (by omega)]; exact hxy
        have hxu : X31 (x9 + 2) = M := by rw [eX31, up_o (by omega)]; exact hxu
        have hxO : X31 (23) = 1 := by rw [eX31, up_o (by omega)]; exact hxO
        have hxR : X31 (22) = 1 := by rw [eX31, up_o (by omega)]; exact hxR
        have hxQ : X31 (20) = (1) / M := by rw [eX31]; exact up_s.trans hv9
        have hXb : ∀ p, X31 p < nM ^ 64 := fun p => by (rw [eX31]; unfold va_up; split; (rw [hv9]; exact hB9); exact hXb p)
        have hfr : ∀ p, p ≠ x9 → p < 18 ∨ 22 < p → X31 p = X p ∧ S30 p = S p := fun p h1 h2 => by rw [eX31, up_o (by omega)]; exact hfr p h1 h2
        obtain ⟨X32, eX32⟩ : ∃ X_, X_ = va_up X31 (22) (X29 (22) % X29 (x9 + 2)) := ⟨_, rfl⟩
        rw [← eX32] at hS
        have hv9 : X29 (22) % X29 (x9 + 2) = (1) % M := (by rw [hd0, hd1])
        have hxx : X32 (x9) = B := by rw [eX32, up_o (by omega)]; exact hxx
        have hxy : X32 (x9 + 1) = Y := by rw [eX32, up_o (by omega)]; exact hxy
        have hxu : X32 (x9 + 2) = M := by rw [eX32, up_o (by omega)]; exact hxu
        have hxO : X32 (23) = 1 := by rw [eX32, up_o (by omega)]; exact hxO
        have hxQ : X32 (20) = (1) / M := by rw [eX32, up_o (by omega)]; exact hxQ
        have hxR : X32 (22) = (1) % M := by rw [eX32]; exact up_s.trans hv9
        have hXb : ∀ p, X32 p < nM ^ 64 := fun p => by (rw [eX32]; unfold va_up; split; (rw [hv9]; exact hB8); exact hXb p)
        have hfr : ∀ p, p ≠ x9 → p < 18 ∨ 22 < p → X32 p = X p ∧ S30 p = S p := fun p h1 h2 => by rw [eX32, up_o (by omega)]; exact hfr p h1 h2
        obtain ⟨S33, eS33⟩ : ∃ S_, S_ = va_up S30 (20) (nI 0) := ⟨_, rfl⟩
        rw [← eS33] at hS
        have hv9 : (nI 0 : Int32) = nI 0 := rfl
        have hsO : S33 (23) = nI 1 := by rw [eS33, up_o (by omega)]; exact hsO
        have hsQ : S33 (20) = nI 0 := by rw [eS33]; exact up_s.trans hv9
        have hfr : ∀ p, p ≠ x9 → p < 18 ∨ 22 < p → X32 p = X p ∧ S33 p = S p := fun p h1 h2 => by rw [eS33, up_o (by omega)]; exact hfr p h1 h2
        have b0 : w602 b = some (.inr (10, [.int (nI (I 0)), .ref (b + 1), .ref (b + 2), .int (nI (I 3)), .ref (b + 3), .ref (b + 4), .int (nI (I 6)), .int (nI (I 7)), .ref (b + 5), .ref (b + 6), .int (nI (I 10)), .int (nI (I 11)), .int (nI (I 12)), .int (nI (I 13)), .ref (b + 7), .ref (b + 8), .int (nI (I 16)), .int (nI (I 17)), .int (nI (I 18)), .int (nI (I 19))])) := hS.1
        have b1 : w602 (b + 1) = some (.inl (cL, 1536, .inr (.inl (fun i => lN (mC X32 i))))) := hS.2.1
        have b2 : w602 (b + 2) = some (.inl (cI, 24, .inl (S33))) := hS.2.2.1
        refine W.eq (g2 := F0 m 57 ls []) rfl ?_
        refine lv_aload_n (pc := 57) hx hb dMo_modular_57 rfl (lv_at hl 1 rfl) ?_
        refine lv_iload_n (pc := 58) hx hb dMo_modular_58 rfl (lv_at hl 3 rfl) ?_
        refine fw_cVR (pc := 59) (As := [.int (nI (x9 + 1))]) (rest := []) ⟨hx, hb, hml, hown, hW⟩ (c_Mo_bits (p0 := x9 + 1) hS hXb (by omega)) (cwV 1 hW (kw_V lm_Mo_162 im_Mo_bits se_Mo_bits ini_Mo cd_Mo_bits) rfl rfl rfl (by decide +kernel) ⟨Nat.le_of_ble_eq_true rfl, Nat.le_of_ble_eq_true rfl⟩) hK hw b0 rfl rfl hl.1 rfl (Nat.le_of_ble_eq_true rfl) dMo_modular_59 ⟨Nat.le_of_ble_eq_true rfl, Nat.le_of_ble_eq_true rfl⟩ (fun v hq => ?_)
        rw [hxy] at hq
        subst hq
        refine W.eq (g2 := F0 m 62 ls [.int (nI (bl Y))]) rfl ?_
        refine lv_iconst (pc := 62) (v := (nI 1)) hx hb dMo_modular_62 (by decide) ?_
        refine lv_isub (pc := 63) hx hb dMo_modular_63 ?_
        refine lv_istore (pc := 64) (lv' := [(5, .int ((nI (bl Y) - (nI 1)))), (4, .int (nI 0)), (0, .ref b), (1, .int (nI x9)), (2, .int (nI (x9 + 1))), (3, .int (nI (x9 + 2)))]) hx hb dMo_modular_64 hl (by decide) rfl (fun ls hl => ?_)
        exact loop (bl Y) (1 % M) (Nat.le_refl _) (by rw [Nat.div_eq_of_lt (bt_lt Y), Nat.pow_zero]) _ H locs ls _ _ hw (lv_sub hl [0, 1, 2, 3, 4, 5] rfl) hS hXb hxx hxy hxu hxR hfr hoF
end MO10
