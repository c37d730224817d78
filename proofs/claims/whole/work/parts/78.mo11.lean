theorem sg_neg (a : Int) : -(sg32 a) = sg32 (-a) := by
  rcases Int.lt_trichotomy a 0 with h | h | h
  · rw [sg32_n h, sg32_p (by omega)]; decide
  · rw [sg32_z h, sg32_z (by omega)]; decide
  · rw [sg32_p h, sg32_n (by omega)]; decide
/-! The reference's methods, eleventh part. Written by wip/gen/model11.py. -/
section MO11
variable {l : Launch} {D : va_G} {cI cL cQ : ClassId} {z : kZ_T} {sz : Nat} {w : fw_W}
set_option maxHeartbeats 4000000 in
set_option maxRecDepth 100000 in
theorem c_Mo_load1 {b : Nat} {I : Nat → Nat} {K : Nat → Nat → Nat} {S : Nat → Int32} {X : Nat → Nat} (hS : moS cI cL w b I K S (mC X)) (hX : ∀ p, X p < nM ^ 64) {us : Nat} (hus : I 17 = us) (hus9 : us < 10) {j : Nat} (hj : j < 8) : fw_C l yMo_load (Cond.code yMo_load cMo_load 3 none :: kWs) ({ frames := 1, cells := 0, slots := 0, locals := 23 } : Room) D kCl (kty cI cL cQ) z [.ref b, .int (nI 1), .int (nI j)] (sz) w 0 0 (fun v w' => v = none ∧ moS cI cL w' b (I) K (va_up S us (S (10 + j))) (mC (va_up X us (X (10 + j)))) ∧ ∀ q, q < b ∨ b + 9 ≤ q → w' q = w q) := by
  refine fw_ofW (cc := cMo_load) (maxL := 3) (ret := none) (by decide) rfl (Nat.le_of_ble_eq_true rfl) ?_
  intro p e s m args below meth c hx hb hr hts hown hlocks hname hml hK H ls hw hl
  have hW : ∀ w ∈ kWs, w.before args s = true := fun w h => hts w (List.mem_cons_of_mem _ h)
  have hown : s.vm.findClass RMo = some m.cls := hown
  have hl : lv_has ls 3 [(0, .ref b), (1, .int (nI 1)), (2, .int (nI j))] := hl
  have b0 : w b = some (.inr (10, [.int (nI (I 0)), .ref (b + 1), .ref (b + 2), .int (nI (I 3)), .ref (b + 3), .ref (b + 4), .int (nI (I 6)), .int (nI (I 7)), .ref (b + 5), .ref (b + 6), .int (nI (I 10)), .int (nI (I 11)), .int (nI (I 12)), .int (nI (I 13)), .ref (b + 7), .ref (b + 8), .int (nI (I 16)), .int (nI (I 17)), .int (nI (I 18)), .int (nI (I 19))])) := hS.1
  have b1 : w (b + 1) = some (.inl (cL, 1536, .inr (.inl (fun i => lN (mC X i))))) := hS.2.1
  have b2 : w (b + 2) = some (.inl (cI, 24, .inl (S))) := hS.2.2.1
  have b09 := b0
  have b29 := b2
  have b0 : w b = some (.inr (10, [.int (nI (I 0)), .ref (b + 1), .ref (b + 2), .int (nI (I 3)), .ref (b + 3), .ref (b + 4), .int (nI (I 6)), .int (nI (I 7)), .ref (b + 5), .ref (b + 6), .int (nI (I 10)), .int (nI (I 11)), .int (nI (I 12)), .int (nI (I 13)), .ref (b + 7), .ref (b + 8), .int (nI (I 16)), .int (nI (us)), .int (nI (I 18)), .int (nI (I 19))])) := by (have h9 := hS.1; unfold moF at h9; rw [hus] at h9; exact h9)
  refine lv_iload_n (pc := 0) hx hb dMo_load_0 rfl (lv_at hl 1 rfl) ?_
  refine lv_iconst (pc := 1) (v := (nI 1)) hx hb dMo_load_1 (by decide) ?_
  refine lv_icmp_ne (pc := 2) (tgt := 18) hx hb dMo_load_2 (by decide) (fun hc => absurd hc (fun h => h rfl)) (fun _ => ?_)
  refine lv_aload_n (pc := 5) hx hb dMo_load_5 rfl (lv_at hl 0 rfl) ?_
  refine lv_bipush (pc := 6) (v := (nI 10)) hx hb dMo_load_6 (by decide) ?_
  refine lv_iload_n (pc := 8) hx hb dMo_load_8 rfl (lv_at hl 2 rfl) ?_
  refine lv_iadd (pc := 9) hx hb dMo_load_9 ?_
  rw [show (((nI 10) + nI j) : Int32) = nI (10 + j) from (nI_add 10 j)]
  refine lv_aload_n (pc := 10) hx hb dMo_load_10 rfl (lv_at hl 0 rfl) ?_
  refine fw_get (pc := 11) (ci := 10) (v := .int (nI (us))) (C := RMo) (T := TMo) (N := 20) hx hb hW in_Mo hown hK.1 hw b0 rfl 17 (by decide) (hW _ lf_Mo_101) (fun _ h => h) rfl dMo_load_11 ?_
  refine fw_cV (pc := 14) (As := [.int (nI (10 + j)), .int (nI (us))]) (rest := []) ⟨hx, hb, hml, hown, hW⟩ (c_Mo_copy (pa := 10 + j) (pc9 := us) hS hX (by omega) (by omega) (by omega)) (cwV 2 hW (kw_V lm_Mo_143 im_Mo_copy se_Mo_copy ini_Mo cd_Mo_copy) rfl rfl rfl (by decide +kernel) ⟨Nat.le_of_ble_eq_true rfl, Nat.le_of_ble_eq_true rfl⟩) hK hw b0 rfl rfl hl.1 rfl (Nat.le_of_ble_eq_true rfl) dMo_load_14 ⟨Nat.le_of_ble_eq_true rfl, Nat.le_of_ble_eq_true rfl⟩ (fun v w1 H locs hq hw => ?_)
  obtain ⟨rfl, hS, hn9⟩ := hq
  refine W.eq (g2 := F0 m 17 ls []) rfl ?_
  exact fw_vret (pc := 17) hx hb hr hlocks hw dMo_load_17 ⟨rfl, hS, hn9⟩

set_option maxHeartbeats 4000000 in
set_option maxRecDepth 100000 in
theorem c_Mo_load0 {b : Nat} {I : Nat → Nat} {K : Nat → Nat → Nat} {S : Nat → Int32} {X : Nat → Nat} (hS : moS cI cL w b I K S (mC X)) (hX : ∀ p, X p < nM ^ 64) {us : Nat} (hus : I 17 = us) (hus9 : us < 10) {u : Nat} (hu : u < 2 ^ 31) : fw_C l yMo_load (Cond.code yMo_load cMo_load 3 none :: kWs) ({ frames := 1, cells := 0, slots := 0, locals := 23 } : Room) D kCl (kty cI cL cQ) z [.ref b, .int (nI 0), .int (nI u)] (sz) w 0 0 (fun v w' => v = none ∧ moS cI cL w' b (I) K (va_up S us (if u = 0 then nI 0 else nI 1)) (mC (va_up X us u)) ∧ ∀ q, q < b ∨ b + 9 ≤ q → w' q = w q) := by
  refine fw_ofW (cc := cMo_load) (maxL := 3) (ret := none) (by decide) rfl (Nat.le_of_ble_eq_true rfl) ?_
  intro p e s m args below meth c hx hb hr hts hown hlocks hname hml hK H ls hw hl
  have hW : ∀ w ∈ kWs, w.before args s = true := fun w h => hts w (List.mem_cons_of_mem _ h)
  have hown : s.vm.findClass RMo = some m.cls := hown
  have hl : lv_has ls 3 [(0, .ref b), (1, .int (nI 0)), (2, .int (nI u))] := hl
  have b0 : w b = some (.inr (10, [.int (nI (I 0)), .ref (b + 1), .ref (b + 2), .int (nI (I 3)), .ref (b + 3), .ref (b + 4), .int (nI (I 6)), .int (nI (I 7)), .ref (b + 5), .ref (b + 6), .int (nI (I 10)), .int (nI (I 11)), .int (nI (I 12)), .int (nI (I 13)), .ref (b + 7), .ref (b + 8), .int (nI (I 16)), .int (nI (I 17)), .int (nI (I 18)), .int (nI (I 19))])) := hS.1
  have b1 : w (b + 1) = some (.inl (cL, 1536, .inr (.inl (fun i => lN (mC X i))))) := hS.2.1
  have b2 : w (b + 2) = some (.inl (cI, 24, .inl (S))) := hS.2.2.1
  have b09 := b0
  have b29 := b2
  have b0 : w b = some (.inr (10, [.int (nI (I 0)), .ref (b + 1), .ref (b + 2), .int (nI (I 3)), .ref (b + 3), .ref (b + 4), .int (nI (I 6)), .int (nI (I 7)), .ref (b + 5), .ref (b + 6), .int (nI (I 10)), .int (nI (I 11)), .int (nI (I 12)), .int (nI (I 13)), .ref (b + 7), .ref (b + 8), .int (nI (I 16)), .int (nI (us)), .int (nI (I 18)), .int (nI (I 19))])) := by (have h9 := hS.1; unfold moF at h9; rw [hus] at h9; exact h9)
  refine lv_iload_n (pc := 0) hx hb dMo_load_0 rfl (lv_at hl 1 rfl) ?_
  refine lv_iconst (pc := 1) (v := (nI 1)) hx hb dMo_load_1 (by decide) ?_
  refine lv_icmp_ne (pc := 2) (tgt := 18) hx hb dMo_load_2 (by decide) (fun _ => ?_) (fun hc => absurd hc (by decide))
  refine lv_aload_n (pc := 18) hx hb dMo_load_18 rfl (lv_at hl 0 rfl) ?_
  refine lv_aload_n (pc := 19) hx hb dMo_load_19 rfl (lv_at hl 0 rfl) ?_
  refine fw_get (pc := 20) (ci := 10) (v := .int (nI (us))) (C := RMo) (T := TMo) (N := 20) hx hb hW in_Mo hown hK.1 hw b0 rfl 17 (by decide) (hW _ lf_Mo_101) (fun _ h => h) rfl dMo_load_20 ?_
  refine fw_cV (pc := 23) (As := [.int (nI (us))]) (rest := []) ⟨hx, hb, hml, hown, hW⟩ (c_Mo_clear (p0 := us) hS (by omega)) (cwV 1 hW (kw_V lm_Mo_125 im_Mo_clear se_Mo_clear ini_Mo cd_Mo_clear) rfl rfl rfl (by decide +kernel) ⟨Nat.le_of_ble_eq_true rfl, Nat.le_of_ble_eq_true rfl⟩) hK hw b0 rfl rfl hl.1 rfl (Nat.le_of_ble_eq_true rfl) dMo_load_23 ⟨Nat.le_of_ble_eq_true rfl, Nat.le_of_ble_eq_true rfl⟩ (fun v w1 H locs hq hw => ?_)
  obtain ⟨rfl, hS1, hn9⟩ := hq
  rw [clr_all] at hS1
  obtain ⟨Z, hZ⟩ : ∃ Z, Z = va_up X us 0 := ⟨_, rfl⟩
  rw [← hZ] at hS1
  have hZ0 : Z us = 0 := by rw [hZ]; exact up_s
  have b0 : w1 b = some (.inr (10, [.int (nI (I 0)), .ref (b + 1), .ref (b + 2), .int (nI (I 3)), .ref (b + 3), .ref (b + 4), .int (nI (I 6)), .int (nI (I 7)), .ref (b + 5), .ref (b + 6), .int (nI (I 10)), .int (nI (I 11)), .int (nI (I 12)), .int (nI (I 13)), .ref (b + 7), .ref (b + 8), .int (nI (I 16)), .int (nI (us)), .int (nI (I 18)), .int (nI (I 19))])) := by (have h9 := hS1.1; unfold moF at h9; rw [hus] at h9; exact h9)
  have b1 : w1 (b + 1) = some (.inl (cL, 1536, .inr (.inl (fun i => lN (mC Z i))))) := hS1.2.1
  have b2 : w1 (b + 2) = some (.inl (cI, 24, .inl (va_up S us (nI 0)))) := hS1.2.2.1
  refine W.eq (g2 := F0 m 26 ls []) rfl ?_
  refine lv_aload_n (pc := 26) hx hb dMo_load_26 rfl (lv_at hl 0 rfl) ?_
  refine fw_get (pc := 27) (ci := 10) (v := .ref (b + 1)) (C := RMo) (T := TMo) (N := 20) hx hb hW in_Mo hown hK.1 hw b0 rfl 1 (by decide) (hW _ lf_Mo_7) (fun _ h => h) rfl dMo_load_27 ?_
  refine lv_bipush (pc := 30) (v := (nI 64)) hx hb dMo_load_30 (by decide) ?_
  refine lv_aload_n (pc := 32) hx hb dMo_load_32 rfl (lv_at hl 0 rfl) ?_
  refine fw_get (pc := 33) (ci := 10) (v := .int (nI (us))) (C := RMo) (T := TMo) (N := 20) hx hb hW in_Mo hown hK.1 hw b0 rfl 17 (by decide) (hW _ lf_Mo_101) (fun _ h => h) rfl dMo_load_33 ?_
  refine lv_imul (pc := 36) hx hb dMo_load_36 ?_
  rw [show (((nI 64) * nI (us)) : Int32) = nI (64 * us) from (nI_mul 64 us)]
  refine lv_iload_n (pc := 37) hx hb dMo_load_37 rfl (lv_at hl 2 rfl) ?_
  refine lv_i2l (pc := 38) (v := lN u) hx hb dMo_load_38 (nI_l hu) ?_
  refine lv_ldc2 (pc := 39) (v := lN 16777215) hx hb hown (hW _ kl_Mo_123) dMo_load_39 ?_
  refine lv_land (pc := 42) hx hb dMo_load_42 ?_
  rw [show ((lN u &&& (lN 16777215)) : Int64) = lN (u % 16777216) from (g_mask (s := 24) (p := 16777216) (by decide) (by decide) (by omega))]
  have hml0 : u % 16777216 < nM := Nat.mod_lt _ (by decide)
  refine fw_lastN (pc := 43) (f2 := fun i => lN (mC (va_up Z us (u % 16777216)) i)) hx hb hK.1 hw 1 b1 rfl (64 * us) (by omega) (by decide) (by rw [lN_up, mC_one hZ0 hml0]) dMo_load_43 (fun H locs hw => ?_)
  obtain ⟨w2, e2⟩ : ∃ w_, w_ = fw_up w1 (b + 1) (.inl (cL, 1536, .inr (.inl (fun i => lN (mC (va_up Z us (u % 16777216)) i))))) := ⟨_, rfl⟩
  have hw : fw_H D kCl (fw_A w (sz)) s.heap w2 (sz) H locs := by rw [e2]; exact hw
  have b0_ : w2 (b) = some (.inr (10, [.int (nI (I 0)), .ref (b + 1), .ref (b + 2), .int (nI (I 3)), .ref (b + 3), .ref (b + 4), .int (nI (I 6)), .int (nI (I 7)), .ref (b + 5), .ref (b + 6), .int (nI (I 10)), .int (nI (I 11)), .int (nI (I 12)), .int (nI (I 13)), .ref (b + 7), .ref (b + 8), .int (nI (I 16)), .int (nI (us)), .int (nI (I 18)), .int (nI (I 19))])) := by rw [e2, fw_un (by omega)]; exact b0
  have b2_ : w2 (b + 2) = some (.inl (cI, 24, .inl (va_up S us (nI 0)))) := by rw [e2, fw_un (by omega)]; exact b2
  have b1_ : w2 (b + 1) = some (.inl (cL, 1536, .inr (.inl (fun i => lN (mC (va_up Z us (u % 16777216)) i))))) := by rw [e2]; exact fw_us _ _ _
  have b0 := b0_
  have b1 := b1_
  have b2 := b2_
  obtain ⟨Z2, hZ2⟩ : ∃ Z2, Z2 = va_up Z us (u % 16777216) := ⟨_, rfl⟩
  rw [← hZ2] at b1
  have hZ2u : Z2 us = u % 16777216 := by rw [hZ2]; exact up_s
  refine lv_aload_n (pc := 44) hx hb dMo_load_44 rfl (lv_at hl 0 rfl) ?_
  refine fw_get (pc := 45) (ci := 10) (v := .ref (b + 1)) (C := RMo) (T := TMo) (N := 20) hx hb hW in_Mo hown hK.1 hw b0 rfl 1 (by decide) (hW _ lf_Mo_7) (fun _ h => h) rfl dMo_load_45 ?_
  refine lv_bipush (pc := 48) (v := (nI 64)) hx hb dMo_load_48 (by decide) ?_
  refine lv_aload_n (pc := 50) hx hb dMo_load_50 rfl (lv_at hl 0 rfl) ?_
  refine fw_get (pc := 51) (ci := 10) (v := .int (nI (us))) (C := RMo) (T := TMo) (N := 20) hx hb hW in_Mo hown hK.1 hw b0 rfl 17 (by decide) (hW _ lf_Mo_101) (fun _ h => h) rfl dMo_load_51 ?_
  refine lv_imul (pc := 54) hx hb dMo_load_54 ?_
  rw [show (((nI 64) * nI (us)) : Int32) = nI (64 * us) from (nI_mul 64 us)]
  refine lv_iconst (pc := 55) (v := (nI 1)) hx hb dMo_load_55 (by decide) ?_
  refine lv_iadd (pc := 56) hx hb dMo_load_56 ?_
  rw [show ((nI (64 * us) + (nI 1)) : Int32) = nI (64 * us + 1) from (nI_add (64 * us) 1)]
  refine lv_iload_n (pc := 57) hx hb dMo_load_57 rfl (lv_at hl 2 rfl) ?_
  refine lv_bipush (pc := 58) (v := (nI 24)) hx hb dMo_load_58 (by decide) ?_
  refine lv_ishr (pc := 60) hx hb dMo_load_60 ?_
  rw [show ((nI u >>> (nI 24 &&& 31)) : Int32) = nI (u / 16777216) from (pk_shrN hu (nI 24 &&& 31) 24 (by decide))]
  refine lv_i2l (pc := 61) (v := lN (u / 16777216)) hx hb dMo_load_61 (nI_l (by omega)) ?_
  have hd1 : mC Z2 (64 * us + 1) = 0 := by rw [mC_at Z2 (by decide), hZ2u, Nat.pow_one, Nat.div_eq_of_lt hml0, Nat.zero_mod]
  have hcell := mC_cell (X := Z2) (p := us) (k := 1) (q := u / 16777216) (by decide) (by rw [hZ2u]; exact Nat.lt_trans hml0 (by decide +kernel)) (by rw [hd1, Nat.zero_add]; (show u / 16777216 < 16777216); omega)
  rw [hd1, Nat.zero_add, hZ2u, Nat.pow_one, show u % 16777216 + u / 16777216 * nM = u from Nat.mod_add_div' u nM] at hcell
  have hZe : va_up Z2 us u = va_up X us u := by rw [hZ2, va_upup, hZ, va_upup]
  refine fw_lastN (pc := 62) (f2 := fun i => lN (mC (va_up X us u) i)) hx hb hK.1 hw 1 b1 rfl (64 * us + 1) (by omega) (by decide) (by rw [lN_up, hcell, hZe]) dMo_load_62 (fun H locs hw => ?_)
  obtain ⟨w3, e3⟩ : ∃ w_, w_ = fw_up w2 (b + 1) (.inl (cL, 1536, .inr (.inl (fun i => lN (mC (va_up X us u) i))))) := ⟨_, rfl⟩
  have hw : fw_H D kCl (fw_A w (sz)) s.heap w3 (sz) H locs := by rw [e3]; exact hw
  have b0_ : w3 (b) = some (.inr (10, [.int (nI (I 0)), .ref (b + 1), .ref (b + 2), .int (nI (I 3)), .ref (b + 3), .ref (b + 4), .int (nI (I 6)), .int (nI (I 7)), .ref (b + 5), .ref (b + 6), .int (nI (I 10)), .int (nI (I 11)), .int (nI (I 12)), .int (nI (I 13)), .ref (b + 7), .ref (b + 8), .int (nI (I 16)), .int (nI (us)), .int (nI (I 18)), .int (nI (I 19))])) := by rw [e3, fw_un (by omega)]; exact b0
  have b2_ : w3 (b + 2) = some (.inl (cI, 24, .inl (va_up S us (nI 0)))) := by rw [e3, fw_un (by omega)]; exact b2
  have b1_ : w3 (b + 1) = some (.inl (cL, 1536, .inr (.inl (fun i => lN (mC (va_up X us u) i))))) := by rw [e3]; exact fw_us _ _ _
  have b0 := b0_
  have b1 := b1_
  have b2 := b2_
  refine lv_aload_n (pc := 63) hx hb dMo_load_63 rfl (lv_at hl 0 rfl) ?_
  refine fw_get (pc := 64) (ci := 10) (v := .ref (b + 2)) (C := RMo) (T := TMo) (N := 20) hx hb hW in_Mo hown hK.1 hw b0 rfl 2 (by decide) (hW _ lf_Mo_13) (fun _ h => h) rfl dMo_load_64 ?_
  refine lv_aload_n (pc := 67) hx hb dMo_load_67 rfl (lv_at hl 0 rfl) ?_
  refine fw_get (pc := 68) (ci := 10) (v := .int (nI (us))) (C := RMo) (T := TMo) (N := 20) hx hb hW in_Mo hown hK.1 hw b0 rfl 17 (by decide) (hW _ lf_Mo_101) (fun _ h => h) rfl dMo_load_68 ?_
  refine lv_iload_n (pc := 71) hx hb dMo_load_71 rfl (lv_at hl 2 rfl) ?_
  refine lv_if_ne (pc := 72) (tgt := 79) hx hb dMo_load_72 (by decide) (fun hc => ?_) (fun hc => ?_)
  · have h0 : ¬ u = 0 := fun h9 => hc (by rw [h9]; rfl)
    refine lv_iconst (pc := 79) (v := (nI 1)) hx hb dMo_load_79 (by decide) ?_
    refine fw_iastN (pc := 80) (f2 := va_up S us (nI 1)) hx hb hK.1 hw 0 b2 rfl (us) (by omega) (by decide) (va_upup _ _ _ _) dMo_load_80 (fun H locs hw => ?_)
    obtain ⟨w4, e4⟩ : ∃ w_, w_ = fw_up w3 (b + 2) (.inl (cI, 24, .inl (va_up S us (nI 1)))) := ⟨_, rfl⟩
    have hw : fw_H D kCl (fw_A w (sz)) s.heap w4 (sz) H locs := by rw [e4]; exact hw
    have b0_ : w4 (b) = some (.inr (10, [.int (nI (I 0)), .ref (b + 1), .ref (b + 2), .int (nI (I 3)), .ref (b + 3), .ref (b + 4), .int (nI (I 6)), .int (nI (I 7)), .ref (b + 5), .ref (b + 6), .int (nI (I 10)), .int (nI (I 11)), .int (nI (I 12)), .int (nI (I 13)), .ref (b + 7), .ref (b + 8), .int (nI (I 16)), .int (nI (us)), .int (nI (I 18)), .int (nI (I 19))])) := by rw [e4, fw_un (by omega)]; exact b0
    have b1_ : w4 (b + 1) = some (.inl (cL, 1536, .inr (.inl (fun i => lN (mC (va_up X us u) i))))) := by rw [e4, fw_un (by omega)]; exact b1
    have b2_ : w4 (b + 2) = some (.inl (cI, 24, .inl (va_up S us (nI 1)))) := by rw [e4]; exact fw_us _ _ _
    have b0 := b0_
    have b1 := b1_
    have b2 := b2_
    exact fw_vret (pc := 81) hx hb hr hlocks hw dMo_load_81 ⟨rfl, by rw [if_neg h0]; exact moS.cs hS1 b1 b2 (fun q h1 h2 => by rw [e4, fw_un h2, e3, fw_un h1, e2, fw_un h1]), fun q h9 => by rw [e4, fw_un (by omega), e3, fw_un (by omega), e2, fw_un (by omega), hn9 q (by omega) (by omega)]⟩
  · have h0 : u = 0 := Classical.byContradiction fun h9 => nI_ne0 (by omega) hu hc
    refine lv_iconst (pc := 75) (v := (nI 0)) hx hb dMo_load_75 (by decide) ?_
    refine lv_goto (pc := 76) (tgt := 80) hx hb dMo_load_76 (by decide) ?_
    refine fw_iastN (pc := 80) (f2 := va_up S us (nI 0)) hx hb hK.1 hw 0 b2 rfl (us) (by omega) (by decide) (va_upup _ _ _ _) dMo_load_80 (fun H locs hw => ?_)
    obtain ⟨w4, e4⟩ : ∃ w_, w_ = fw_up w3 (b + 2) (.inl (cI, 24, .inl (va_up S us (nI 0)))) := ⟨_, rfl⟩
    have hw : fw_H D kCl (fw_A w (sz)) s.heap w4 (sz) H locs := by rw [e4]; exact hw
    have b0_ : w4 (b) = some (.inr (10, [.int (nI (I 0)), .ref (b + 1), .ref (b + 2), .int (nI (I 3)), .ref (b + 3), .ref (b + 4), .int (nI (I 6)), .int (nI (I 7)), .ref (b + 5), .ref (b + 6), .int (nI (I 10)), .int (nI (I 11)), .int (nI (I 12)), .int (nI (I 13)), .ref (b + 7), .ref (b + 8), .int (nI (I 16)), .int (nI (us)), .int (nI (I 18)), .int (nI (I 19))])) := by rw [e4, fw_un (by omega)]; exact b0
    have b1_ : w4 (b + 1) = some (.inl (cL, 1536, .inr (.inl (fun i => lN (mC (va_up X us u) i))))) := by rw [e4, fw_un (by omega)]; exact b1
    have b2_ : w4 (b + 2) = some (.inl (cI, 24, .inl (va_up S us (nI 0)))) := by rw [e4]; exact fw_us _ _ _
    have b0 := b0_
    have b1 := b1_
    have b2 := b2_
    exact fw_vret (pc := 81) hx hb hr hlocks hw dMo_load_81 ⟨rfl, by rw [if_pos h0]; exact moS.cs hS1 b1 b2 (fun q h1 h2 => by rw [e4, fw_un h2, e3, fw_un h1, e2, fw_un h1]), fun q h9 => by rw [e4, fw_un (by omega), e3, fw_un (by omega), e2, fw_un (by omega), hn9 q (by omega) (by omega)]⟩

set_option maxHeartbeats 4000000 in
set_option maxRecDepth 100000 in
theorem c_Mo_takes {k : Nat} (hk : k < 15) (hk2 : k < 8 ∨ 10 < k) : fw_R l yMo_takes (Cond.code yMo_takes cMo_takes 1 (some FieldType.int) :: kWs) ({ frames := 0, cells := 0, slots := 0, locals := 0 } : Room) D kCl (kty cI cL cQ) z [.int (nI k)] (sz) w (fun v => v = some (.int (nI (kOp k)))) := by
  refine fw_ofR (cc := cMo_takes) (maxL := 1) (ret := (some FieldType.int)) (by decide) rfl (Nat.le_of_ble_eq_true rfl) ?_
  intro p e s m args below meth c hx hb hr hts hown hlocks hml hK H ls hH hw hl
  have hW : ∀ w ∈ kWs, w.before args s = true := fun w h => hts w (List.mem_cons_of_mem _ h)
  have hown : s.vm.findClass RMo = some m.cls := hown
  have hl : lv_has ls 1 [(0, .int (nI k))] := hl
  rcases (show k = 0 ∨ k = 1 ∨ k = 2 ∨ k = 3 ∨ k = 4 ∨ k = 5 ∨ k = 6 ∨ k = 7 ∨ k = 11 ∨ k = 12 ∨ k = 13 ∨ k = 14 by omega) with rfl | rfl | rfl | rfl | rfl | rfl | rfl | rfl | rfl | rfl | rfl | rfl
  · refine lv_iload_n (pc := 0) hx hb dMo_takes_0 rfl (lv_at hl 0 rfl) ?_
    refine lv_iconst (pc := 1) (v := (nI 2)) hx hb dMo_takes_1 (by decide) ?_
    refine lv_icmp_ge (pc := 2) (tgt := 9) hx hb dMo_takes_2 (by decide) (fun hc => absurd hc (by decide)) (fun _ => ?_)
    refine lv_iconst (pc := 5) (v := (nI 0)) hx hb dMo_takes_5 (by decide) ?_
    refine lv_goto (pc := 6) (tgt := 36) hx hb dMo_takes_6 (by decide) ?_
    exact fw_iretR (pc := 36) hx hb hr hlocks hH dMo_takes_36 rfl
  · refine lv_iload_n (pc := 0) hx hb dMo_takes_0 rfl (lv_at hl 0 rfl) ?_
    refine lv_iconst (pc := 1) (v := (nI 2)) hx hb dMo_takes_1 (by decide) ?_
    refine lv_icmp_ge (pc := 2) (tgt := 9) hx hb dMo_takes_2 (by decide) (fun hc => absurd hc (by decide)) (fun _ => ?_)
    refine lv_iconst (pc := 5) (v := (nI 0)) hx hb dMo_takes_5 (by decide) ?_
    refine lv_goto (pc := 6) (tgt := 36) hx hb dMo_takes_6 (by decide) ?_
    exact fw_iretR (pc := 36) hx hb hr hlocks hH dMo_takes_36 rfl
  · refine lv_iload_n (pc := 0) hx hb dMo_takes_0 rfl (lv_at hl 0 rfl) ?_
    refine lv_iconst (pc := 1) (v := (nI 2)) hx hb dMo_takes_1 (by decide) ?_
    refine lv_icmp_ge (pc := 2) (tgt := 9) hx hb dMo_takes_2 (by decide) (fun _ => ?_) (fun hc => absurd (by decide) hc)
    refine lv_iload_n (pc := 9) hx hb dMo_takes_9 rfl (lv_at hl 0 rfl) ?_
    refine lv_bipush (pc := 10) (v := (nI 12)) hx hb dMo_takes_10 (by decide) ?_
    refine lv_icmp_eq (pc := 12) (tgt := 21) hx hb dMo_takes_12 (by decide) (fun hc => absurd hc (by decide)) (fun _ => ?_)
    refine lv_iload_n (pc := 15) hx hb dMo_takes_15 rfl (lv_at hl 0 rfl) ?_
    refine lv_bipush (pc := 16) (v := (nI 14)) hx hb dMo_takes_16 (by decide) ?_
    refine lv_icmp_ne (pc := 18) (tgt := 25) hx hb dMo_takes_18 (by decide) (fun _ => ?_) (fun hc => absurd hc (by decide))
    refine lv_iload_n (pc := 25) hx hb dMo_takes_25 rfl (lv_at hl 0 rfl) ?_
    refine lv_bipush (pc := 26) (v := (nI 13)) hx hb dMo_takes_26 (by decide) ?_
    refine lv_icmp_ne (pc := 28) (tgt := 35) hx hb dMo_takes_28 (by decide) (fun _ => ?_) (fun hc => absurd hc (by decide))
    refine lv_iconst (pc := 35) (v := (nI 2)) hx hb dMo_takes_35 (by decide) ?_
    exact fw_iretR (pc := 36) hx hb hr hlocks hH dMo_takes_36 rfl
  · refine lv_iload_n (pc := 0) hx hb dMo_takes_0 rfl (lv_at hl 0 rfl) ?_
    refine lv_iconst (pc := 1) (v := (nI 2)) hx hb dMo_takes_1 (by decide) ?_
    refine lv_icmp_ge (pc := 2) (tgt := 9) hx hb dMo_takes_2 (by decide) (fun _ => ?_) (fun hc => absurd (by decide) hc)
    refine lv_iload_n (pc := 9) hx hb dMo_takes_9 rfl (lv_at hl 0 rfl) ?_
    refine lv_bipush (pc := 10) (v := (nI 12)) hx hb dMo_takes_10 (by decide) ?_
    refine lv_icmp_eq (pc := 12) (tgt := 21) hx hb dMo_takes_12 (by decide) (fun hc => absurd hc (by decide)) (fun _ => ?_)
    refine lv_iload_n (pc := 15) hx hb dMo_takes_15 rfl (lv_at hl 0 rfl) ?_
    refine lv_bipush (pc := 16) (v := (nI 14)) hx hb dMo_takes_16 (by decide) ?_
    refine lv_icmp_ne (pc := 18) (tgt := 25) hx hb dMo_takes_18 (by decide) (fun _ => ?_) (fun hc => absurd hc (by decide))
    refine lv_iload_n (pc := 25) hx hb dMo_takes_25 rfl (lv_at hl 0 rfl) ?_
    refine lv_bipush (pc := 26) (v := (nI 13)) hx hb dMo_takes_26 (by decide) ?_
    refine lv_icmp_ne (pc := 28) (tgt := 35) hx hb dMo_takes_28 (by decide) (fun _ => ?_) (fun hc => absurd hc (by decide))
    refine lv_iconst (pc := 35) (v := (nI 2)) hx hb dMo_takes_35 (by decide) ?_
    exact fw_iretR (pc := 36) hx hb hr hlocks hH dMo_takes_36 rfl
  · refine lv_iload_n (pc := 0) hx hb dMo_takes_0 rfl (lv_at hl 0 rfl) ?_
    refine lv_iconst (pc := 1) (v := (nI 2)) hx hb dMo_takes_1 (by decide) ?_
    refine lv_icmp_ge (pc := 2) (tgt := 9) hx hb dMo_takes_2 (by decide) (fun _ => ?_) (fun hc => absurd (by decide) hc)
    refine lv_iload_n (pc := 9) hx hb dMo_takes_9 rfl (lv_at hl 0 rfl) ?_
    refine lv_bipush (pc := 10) (v := (nI 12)) hx hb dMo_takes_10 (by decide) ?_
    refine lv_icmp_eq (pc := 12) (tgt := 21) hx hb dMo_takes_12 (by decide) (fun hc => absurd hc (by decide)) (fun _ => ?_)
    refine lv_iload_n (pc := 15) hx hb dMo_takes_15 rfl (lv_at hl 0 rfl) ?_
    refine lv_bipush (pc := 16) (v := (nI 14)) hx hb dMo_takes_16 (by decide) ?_
    refine lv_icmp_ne (pc := 18) (tgt := 25) hx hb dMo_takes_18 (by decide) (fun _ => ?_) (fun hc => absurd hc (by decide))
    refine lv_iload_n (pc := 25) hx hb dMo_takes_25 rfl (lv_at hl 0 rfl) ?_
    refine lv_bipush (pc := 26) (v := (nI 13)) hx hb dMo_takes_26 (by decide) ?_
    refine lv_icmp_ne (pc := 28) (tgt := 35) hx hb dMo_takes_28 (by decide) (fun _ => ?_) (fun hc => absurd hc (by decide))
    refine lv_iconst (pc := 35) (v := (nI 2)) hx hb dMo_takes_35 (by decide) ?_
    exact fw_iretR (pc := 36) hx hb hr hlocks hH dMo_takes_36 rfl
  · refine lv_iload_n (pc := 0) hx hb dMo_takes_0 rfl (lv_at hl 0 rfl) ?_
    refine lv_iconst (pc := 1) (v := (nI 2)) hx hb dMo_takes_1 (by decide) ?_
    refine lv_icmp_ge (pc := 2) (tgt := 9) hx hb dMo_takes_2 (by decide) (fun _ => ?_) (fun hc => absurd (by decide) hc)
    refine lv_iload_n (pc := 9) hx hb dMo_takes_9 rfl (lv_at hl 0 rfl) ?_
    refine lv_bipush (pc := 10) (v := (nI 12)) hx hb dMo_takes_10 (by decide) ?_
    refine lv_icmp_eq (pc := 12) (tgt := 21) hx hb dMo_takes_12 (by decide) (fun hc => absurd hc (by decide)) (fun _ => ?_)
    refine lv_iload_n (pc := 15) hx hb dMo_takes_15 rfl (lv_at hl 0 rfl) ?_
    refine lv_bipush (pc := 16) (v := (nI 14)) hx hb dMo_takes_16 (by decide) ?_
    refine lv_icmp_ne (pc := 18) (tgt := 25) hx hb dMo_takes_18 (by decide) (fun _ => ?_) (fun hc => absurd hc (by decide))
    refine lv_iload_n (pc := 25) hx hb dMo_takes_25 rfl (lv_at hl 0 rfl) ?_
    refine lv_bipush (pc := 26) (v := (nI 13)) hx hb dMo_takes_26 (by decide) ?_
    refine lv_icmp_ne (pc := 28) (tgt := 35) hx hb dMo_takes_28 (by decide) (fun _ => ?_) (fun hc => absurd hc (by decide))
    refine lv_iconst (pc := 35) (v := (nI 2)) hx hb dMo_takes_35 (by decide) ?_
    exact fw_iretR (pc := 36) hx hb hr hlocks hH dMo_takes_36 rfl
  · refine lv_iload_n (pc := 0) hx hb dMo_takes_0 rfl (lv_at hl 0 rfl) ?_
    refine lv_iconst (pc := 1) (v := (nI 2)) hx hb dMo_takes_1 (by decide) ?_
    refine lv_icmp_ge (pc := 2) (tgt := 9) hx hb dMo_takes_2 (by decide) (fun _ => ?_) (fun hc => absurd (by decide) hc)
    refine lv_iload_n (pc := 9) hx hb dMo_takes_9 rfl (lv_at hl 0 rfl) ?_
    refine lv_bipush (pc := 10) (v := (nI 12)) hx hb dMo_takes_10 (by decide) ?_
    refine lv_icmp_eq (pc := 12) (tgt := 21) hx hb dMo_takes_12 (by decide) (fun hc => absurd hc (by decide)) (fun _ => ?_)
    refine lv_iload_n (pc := 15) hx hb dMo_takes_15 rfl (lv_at hl 0 rfl) ?_
    refine lv_bipush (pc := 16) (v := (nI 14)) hx hb dMo_takes_16 (by decide) ?_
    refine lv_icmp_ne (pc := 18) (tgt := 25) hx hb dMo_takes_18 (by decide) (fun _ => ?_) (fun hc => absurd hc (by decide))
    refine lv_iload_n (pc := 25) hx hb dMo_takes_25 rfl (lv_at hl 0 rfl) ?_
    refine lv_bipush (pc := 26) (v := (nI 13)) hx hb dMo_takes_26 (by decide) ?_
    refine lv_icmp_ne (pc := 28) (tgt := 35) hx hb dMo_takes_28 (by decide) (fun _ => ?_) (fun hc => absurd hc (by decide))
    refine lv_iconst (pc := 35) (v := (nI 2)) hx hb dMo_takes_35 (by decide) ?_
    exact fw_iretR (pc := 36) hx hb hr hlocks hH dMo_takes_36 rfl
  · refine lv_iload_n (pc := 0) hx hb dMo_takes_0 rfl (lv_at hl 0 rfl) ?_
    refine lv_iconst (pc := 1) (v := (nI 2)) hx hb dMo_takes_1 (by decide) ?_
    refine lv_icmp_ge (pc := 2) (tgt := 9) hx hb dMo_takes_2 (by decide) (fun _ => ?_) (fun hc => absurd (by decide) hc)
    refine lv_iload_n (pc := 9) hx hb dMo_takes_9 rfl (lv_at hl 0 rfl) ?_
    refine lv_bipush (pc := 10) (v := (nI 12)) hx hb dMo_takes_10 (by decide) ?_
    refine lv_icmp_eq (pc := 12) (tgt := 21) hx hb dMo_takes_12 (by decide) (fun hc => absurd hc (by decide)) (fun _ => ?_)
    refine lv_iload_n (pc := 15) hx hb dMo_takes_15 rfl (lv_at hl 0 rfl) ?_
    refine lv_bipush (pc := 16) (v := (nI 14)) hx hb dMo_takes_16 (by decide) ?_
    refine lv_icmp_ne (pc := 18) (tgt := 25) hx hb dMo_takes_18 (by decide) (fun _ => ?_) (fun hc => absurd hc (by decide))
    refine lv_iload_n (pc := 25) hx hb dMo_takes_25 rfl (lv_at hl 0 rfl) ?_
    refine lv_bipush (pc := 26) (v := (nI 13)) hx hb dMo_takes_26 (by decide) ?_
    refine lv_icmp_ne (pc := 28) (tgt := 35) hx hb dMo_takes_28 (by decide) (fun _ => ?_) (fun hc => absurd hc (by decide))
    refine lv_iconst (pc := 35) (v := (nI 2)) hx hb dMo_takes_35 (by decide) ?_
    exact fw_iretR (pc := 36) hx hb hr hlocks hH dMo_takes_36 rfl
  · refine lv_iload_n (pc := 0) hx hb dMo_takes_0 rfl (lv_at hl 0 rfl) ?_
    refine lv_iconst (pc := 1) (v := (nI 2)) hx hb dMo_takes_1 (by decide) ?_
    refine lv_icmp_ge (pc := 2) (tgt := 9) hx hb dMo_takes_2 (by decide) (fun _ => ?_) (fun hc => absurd (by decide) hc)
    refine lv_iload_n (pc := 9) hx hb dMo_takes_9 rfl (lv_at hl 0 rfl) ?_
    refine lv_bipush (pc := 10) (v := (nI 12)) hx hb dMo_takes_10 (by decide) ?_
    refine lv_icmp_eq (pc := 12) (tgt := 21) hx hb dMo_takes_12 (by decide) (fun hc => absurd hc (by decide)) (fun _ => ?_)
    refine lv_iload_n (pc := 15) hx hb dMo_takes_15 rfl (lv_at hl 0 rfl) ?_
    refine lv_bipush (pc := 16) (v := (nI 14)) hx hb dMo_takes_16 (by decide) ?_
    refine lv_icmp_ne (pc := 18) (tgt := 25) hx hb dMo_takes_18 (by decide) (fun _ => ?_) (fun hc => absurd hc (by decide))
    refine lv_iload_n (pc := 25) hx hb dMo_takes_25 rfl (lv_at hl 0 rfl) ?_
    refine lv_bipush (pc := 26) (v := (nI 13)) hx hb dMo_takes_26 (by decide) ?_
    refine lv_icmp_ne (pc := 28) (tgt := 35) hx hb dMo_takes_28 (by decide) (fun _ => ?_) (fun hc => absurd hc (by decide))
    refine lv_iconst (pc := 35) (v := (nI 2)) hx hb dMo_takes_35 (by decide) ?_
    exact fw_iretR (pc := 36) hx hb hr hlocks hH dMo_takes_36 rfl
  · refine lv_iload_n (pc := 0) hx hb dMo_takes_0 rfl (lv_at hl 0 rfl) ?_
    refine lv_iconst (pc := 1) (v := (nI 2)) hx hb dMo_takes_1 (by decide) ?_
    refine lv_icmp_ge (pc := 2) (tgt := 9) hx hb dMo_takes_2 (by decide) (fun _ => ?_) (fun hc => absurd (by decide) hc)
    refine lv_iload_n (pc := 9) hx hb dMo_takes_9 rfl (lv_at hl 0 rfl) ?_
    refine lv_bipush (pc := 10) (v := (nI 12)) hx hb dMo_takes_10 (by decide) ?_
    refine lv_icmp_eq (pc := 12) (tgt := 21) hx hb dMo_takes_12 (by decide) (fun _ => ?_) (fun hc => absurd rfl hc)
    refine lv_iconst (pc := 21) (v := (nI 1)) hx hb dMo_takes_21 (by decide) ?_
    refine lv_goto (pc := 22) (tgt := 36) hx hb dMo_takes_22 (by decide) ?_
    exact fw_iretR (pc := 36) hx hb hr hlocks hH dMo_takes_36 rfl
  · refine lv_iload_n (pc := 0) hx hb dMo_takes_0 rfl (lv_at hl 0 rfl) ?_
    refine lv_iconst (pc := 1) (v := (nI 2)) hx hb dMo_takes_1 (by decide) ?_
    refine lv_icmp_ge (pc := 2) (tgt := 9) hx hb dMo_takes_2 (by decide) (fun _ => ?_) (fun hc => absurd (by decide) hc)
    refine lv_iload_n (pc := 9) hx hb dMo_takes_9 rfl (lv_at hl 0 rfl) ?_
    refine lv_bipush (pc := 10) (v := (nI 12)) hx hb dMo_takes_10 (by decide) ?_
    refine lv_icmp_eq (pc := 12) (tgt := 21) hx hb dMo_takes_12 (by decide) (fun hc => absurd hc (by decide)) (fun _ => ?_)
    refine lv_iload_n (pc := 15) hx hb dMo_takes_15 rfl (lv_at hl 0 rfl) ?_
    refine lv_bipush (pc := 16) (v := (nI 14)) hx hb dMo_takes_16 (by decide) ?_
    refine lv_icmp_ne (pc := 18) (tgt := 25) hx hb dMo_takes_18 (by decide) (fun _ => ?_) (fun hc => absurd hc (by decide))
    refine lv_iload_n (pc := 25) hx hb dMo_takes_25 rfl (lv_at hl 0 rfl) ?_
    refine lv_bipush (pc := 26) (v := (nI 13)) hx hb dMo_takes_26 (by decide) ?_
    refine lv_icmp_ne (pc := 28) (tgt := 35) hx hb dMo_takes_28 (by decide) (fun hc => absurd hc (fun h => h rfl)) (fun _ => ?_)
    refine lv_iconst (pc := 31) (v := (nI 3)) hx hb dMo_takes_31 (by decide) ?_
    refine lv_goto (pc := 32) (tgt := 36) hx hb dMo_takes_32 (by decide) ?_
    exact fw_iretR (pc := 36) hx hb hr hlocks hH dMo_takes_36 rfl
  · refine lv_iload_n (pc := 0) hx hb dMo_takes_0 rfl (lv_at hl 0 rfl) ?_
    refine lv_iconst (pc := 1) (v := (nI 2)) hx hb dMo_takes_1 (by decide) ?_
    refine lv_icmp_ge (pc := 2) (tgt := 9) hx hb dMo_takes_2 (by decide) (fun _ => ?_) (fun hc => absurd (by decide) hc)
    refine lv_iload_n (pc := 9) hx hb dMo_takes_9 rfl (lv_at hl 0 rfl) ?_
    refine lv_bipush (pc := 10) (v := (nI 12)) hx hb dMo_takes_10 (by decide) ?_
    refine lv_icmp_eq (pc := 12) (tgt := 21) hx hb dMo_takes_12 (by decide) (fun hc => absurd hc (by decide)) (fun _ => ?_)
    refine lv_iload_n (pc := 15) hx hb dMo_takes_15 rfl (lv_at hl 0 rfl) ?_
    refine lv_bipush (pc := 16) (v := (nI 14)) hx hb dMo_takes_16 (by decide) ?_
    refine lv_icmp_ne (pc := 18) (tgt := 25) hx hb dMo_takes_18 (by decide) (fun hc => absurd hc (fun h => h rfl)) (fun _ => ?_)
    refine lv_iconst (pc := 21) (v := (nI 1)) hx hb dMo_takes_21 (by decide) ?_
    refine lv_goto (pc := 22) (tgt := 36) hx hb dMo_takes_22 (by decide) ?_
    exact fw_iretR (pc := 36) hx hb hr hlocks hH dMo_takes_36 rfl

set_option maxHeartbeats 4000000 in
set_option maxRecDepth 100000 in
theorem c_Mo_works {b : Nat} {I : Nat → Nat} {K : Nat → Nat → Nat} {S : Nat → Int32} {X : Nat → Nat} (hS : moS cI cL w b I K S (mC X)) (hX : ∀ p, X p < nM ^ 64) {x9 op u9 : Nat} {R Y : Nat → Int} (h1x : X 23 = 1) (h1s : S 23 = nI 1) (hop : op < 15) (hop2 : 1 < op ∧ op < 8 ∨ 10 < op) (hk : x9 + kOp op ≤ 10) (hR : ∀ i, i < kOp op → X (x9 + i) = Int.natAbs (R (x9 + i)) ∧ S (x9 + i) = sg32 (R (x9 + i))) (hR7 : ∀ i, Int.natAbs (R i) < 2 ^ 768) : fw_C l yMo_works (Cond.code yMo_works cMo_works 3 (some FieldType.int) :: kWs) ({ frames := 4, cells := 0, slots := 0, locals := 110 } : Room) D kCl (kty cI cL cQ) z [.ref b, .int (nI op), .int (nI x9)] (sz) w 0 0 (fun v w' => v = some (.int (nI (sOp op u9 Y (R x9) (R (x9 + 1)) (R (x9 + 2))).1)) ∧ (∃ S2 X2, moS cI cL w' b I K S2 (mC X2) ∧ (∀ p, X2 p < nM ^ 64) ∧ ((sOp op u9 Y (R x9) (R (x9 + 1)) (R (x9 + 2))).1 = 0 → X2 x9 = Int.natAbs (sOp op u9 Y (R x9) (R (x9 + 1)) (R (x9 + 2))).2 ∧ S2 x9 = sg32 (sOp op u9 Y (R x9) (R (x9 + 1)) (R (x9 + 2))).2) ∧ ∀ p, p ≠ x9 → p < 18 ∨ 22 < p → X2 p = X p ∧ S2 p = S p) ∧ ∀ q, q < b ∨ b + 9 ≤ q → w' q = w q) := by
  refine fw_ofW (cc := cMo_works) (maxL := 3) (ret := (some FieldType.int)) (by decide) rfl (Nat.le_of_ble_eq_true rfl) ?_
  intro p e s m args below meth c hx hb hr hts hown hlocks hname hml hK H ls hw hl
  have hW : ∀ w ∈ kWs, w.before args s = true := fun w h => hts w (List.mem_cons_of_mem _ h)
  have hown : s.vm.findClass RMo = some m.cls := hown
  have hl : lv_has ls 3 [(0, .ref b), (1, .int (nI op)), (2, .int (nI x9))] := hl
  have b0 : w b = some (.inr (10, [.int (nI (I 0)), .ref (b + 1), .ref (b + 2), .int (nI (I 3)), .ref (b + 3), .ref (b + 4), .int (nI (I 6)), .int (nI (I 7)), .ref (b + 5), .ref (b + 6), .int (nI (I 10)), .int (nI (I 11)), .int (nI (I 12)), .int (nI (I 13)), .ref (b + 7), .ref (b + 8), .int (nI (I 16)), .int (nI (I 17)), .int (nI (I 18)), .int (nI (I 19))])) := hS.1
  have b1 : w (b + 1) = some (.inl (cL, 1536, .inr (.inl (fun i => lN (mC X i))))) := hS.2.1
  have b2 : w (b + 2) = some (.inl (cI, 24, .inl (S))) := hS.2.2.1
  have b09 := b0
  have b29 := b2
  refine lv_iload_n (pc := 0) hx hb dMo_works_0 rfl (lv_at hl 1 rfl) ?_
  rcases (show op = 2 ∨ op = 3 ∨ op = 4 ∨ op = 5 ∨ op = 6 ∨ op = 7 ∨ op = 11 ∨ op = 12 ∨ op = 13 ∨ op = 14 by omega) with rfl | rfl | rfl | rfl | rfl | rfl | rfl | rfl | rfl | rfl
  · have hk9 : x9 + 2 ≤ 10 := hk
    have r0 := hR 0 (show 0 < 2 by decide)
    have r1 := hR 1 (show 1 < 2 by decide)
    refine lv_tableIn (pc := 1) (tgt := 64) hx hb dMo_works_1 (by decide) (by decide) rfl (by decide) ?_
    refine lv_aload_n (pc := 64) hx hb dMo_works_64 rfl (lv_at hl 0 rfl) ?_
    refine lv_iload_n (pc := 65) hx hb dMo_works_65 rfl (lv_at hl 2 rfl) ?_
    refine lv_iload_n (pc := 66) hx hb dMo_works_66 rfl (lv_at hl 2 rfl) ?_
    refine lv_iconst (pc := 67) (v := (nI 1)) hx hb dMo_works_67 (by decide) ?_
    refine lv_iadd (pc := 68) hx hb dMo_works_68 ?_
    rw [show ((nI x9 + (nI 1)) : Int32) = nI (x9 + 1) from (nI_add x9 1)]
    refine lv_iconst (pc := 69) (v := (nI 1)) hx hb dMo_works_69 (by decide) ?_
    refine fw_cV (pc := 70) (As := [.int (nI x9), .int (nI (x9 + 1)), .int (nI 1)]) (rest := []) ⟨hx, hb, hml, hown, hW⟩ (c_Mo_sumP (x9 := x9) hS hX (by omega) h1x h1s ⟨r0.1, r0.2⟩ (hR7 _) ⟨r1.1, r1.2⟩ (hR7 _)) (cwV 3 hW (kw_V lm_Mo_171 im_Mo_sum se_Mo_sum ini_Mo cd_Mo_sum) rfl rfl rfl (by decide +kernel) ⟨Nat.le_of_ble_eq_true rfl, Nat.le_of_ble_eq_true rfl⟩) hK hw b0 rfl rfl hl.1 rfl (Nat.le_of_ble_eq_true rfl) dMo_works_70 ⟨Nat.le_of_ble_eq_true rfl, Nat.le_of_ble_eq_true rfl⟩ (fun v w1 H locs hq hw => ?_)
    obtain ⟨rfl, hst, hn9⟩ := hq
    refine W.eq (g2 := F0 m 73 ls [.int (nI (sOp 2 u9 Y (R x9) (R (x9 + 1)) (R (x9 + 2))).1)]) rfl ?_
    exact fw_iret (pc := 73) hx hb hr hlocks hw dMo_works_73 ⟨rfl, hst, hn9⟩
  · have hk9 : x9 + 2 ≤ 10 := hk
    have r0 := hR 0 (show 0 < 2 by decide)
    have r1 := hR 1 (show 1 < 2 by decide)
    refine lv_tableIn (pc := 1) (tgt := 74) hx hb dMo_works_1 (by decide) (by decide) rfl (by decide) ?_
    refine lv_aload_n (pc := 74) hx hb dMo_works_74 rfl (lv_at hl 0 rfl) ?_
    refine lv_iload_n (pc := 75) hx hb dMo_works_75 rfl (lv_at hl 2 rfl) ?_
    refine lv_iload_n (pc := 76) hx hb dMo_works_76 rfl (lv_at hl 2 rfl) ?_
    refine lv_iconst (pc := 77) (v := (nI 1)) hx hb dMo_works_77 (by decide) ?_
    refine lv_iadd (pc := 78) hx hb dMo_works_78 ?_
    rw [show ((nI x9 + (nI 1)) : Int32) = nI (x9 + 1) from (nI_add x9 1)]
    refine lv_iconst (pc := 79) (v := (-1)) hx hb dMo_works_79 (by decide) ?_
    refine fw_cV (pc := 80) (As := [.int (nI x9), .int (nI (x9 + 1)), .int (-1)]) (rest := []) ⟨hx, hb, hml, hown, hW⟩ (c_Mo_sumM (x9 := x9) hS hX (by omega) h1x h1s ⟨r0.1, r0.2⟩ (hR7 _) ⟨r1.1, r1.2⟩ (hR7 _)) (cwV 3 hW (kw_V lm_Mo_171 im_Mo_sum se_Mo_sum ini_Mo cd_Mo_sum) rfl rfl rfl (by decide +kernel) ⟨Nat.le_of_ble_eq_true rfl, Nat.le_of_ble_eq_true rfl⟩) hK hw b0 rfl rfl hl.1 rfl (Nat.le_of_ble_eq_true rfl) dMo_works_80 ⟨Nat.le_of_ble_eq_true rfl, Nat.le_of_ble_eq_true rfl⟩ (fun v w2 H locs hq hw => ?_)
    obtain ⟨rfl, hst, hn9⟩ := hq
    refine W.eq (g2 := F0 m 83 ls [.int (nI (sOp 3 u9 Y (R x9) (R (x9 + 1)) (R (x9 + 2))).1)]) rfl ?_
    exact fw_iret (pc := 83) hx hb hr hlocks hw dMo_works_83 ⟨rfl, hst, hn9⟩
  · have hk9 : x9 + 2 ≤ 10 := hk
    have r0 := hR 0 (show 0 < 2 by decide)
    have r1 := hR 1 (show 1 < 2 by decide)
    refine lv_tableIn (pc := 1) (tgt := 84) hx hb dMo_works_1 (by decide) (by decide) rfl (by decide) ?_
    refine lv_aload_n (pc := 84) hx hb dMo_works_84 rfl (lv_at hl 0 rfl) ?_
    refine lv_iload_n (pc := 85) hx hb dMo_works_85 rfl (lv_at hl 2 rfl) ?_
    refine lv_iload_n (pc := 86) hx hb dMo_works_86 rfl (lv_at hl 2 rfl) ?_
    refine lv_iconst (pc := 87) (v := (nI 1)) hx hb dMo_works_87 (by decide) ?_
    refine lv_iadd (pc := 88) hx hb dMo_works_88 ?_
    rw [show ((nI x9 + (nI 1)) : Int32) = nI (x9 + 1) from (nI_add x9 1)]
    refine fw_cV (pc := 89) (As := [.int (nI x9), .int (nI (x9 + 1))]) (rest := []) ⟨hx, hb, hml, hown, hW⟩ (c_Mo_product (x9 := x9) hS hX (by omega) h1x h1s ⟨r0.1, r0.2⟩ (hR7 _) ⟨r1.1, r1.2⟩ (hR7 _)) (cwV 2 hW (kw_V lm_Mo_175 im_Mo_product se_Mo_product ini_Mo cd_Mo_product) rfl rfl rfl (by decide +kernel) ⟨Nat.le_of_ble_eq_true rfl, Nat.le_of_ble_eq_true rfl⟩) hK hw b0 rfl rfl hl.1 rfl (Nat.le_of_ble_eq_true rfl) dMo_works_89 ⟨Nat.le_of_ble_eq_true rfl, Nat.le_of_ble_eq_true rfl⟩ (fun v w3 H locs hq hw => ?_)
    obtain ⟨rfl, hst, hn9⟩ := hq
    refine W.eq (g2 := F0 m 92 ls [.int (nI (sOp 4 u9 Y (R x9) (R (x9 + 1)) (R (x9 + 2))).1)]) rfl ?_
    exact fw_iret (pc := 92) hx hb hr hlocks hw dMo_works_92 ⟨rfl, hst, hn9⟩
  · have hk9 : x9 + 2 ≤ 10 := hk
    have r0 := hR 0 (show 0 < 2 by decide)
    have r1 := hR 1 (show 1 < 2 by decide)
    refine lv_tableIn (pc := 1) (tgt := 93) hx hb dMo_works_1 (by decide) (by decide) rfl (by decide) ?_
    refine lv_aload_n (pc := 93) hx hb dMo_works_93 rfl (lv_at hl 0 rfl) ?_
    refine lv_iload_n (pc := 94) hx hb dMo_works_94 rfl (lv_at hl 2 rfl) ?_
    refine lv_iload_n (pc := 95) hx hb dMo_works_95 rfl (lv_at hl 2 rfl) ?_
    refine lv_iconst (pc := 96) (v := (nI 1)) hx hb dMo_works_96 (by decide) ?_
    refine lv_iadd (pc := 97) hx hb dMo_works_97 ?_
    rw [show ((nI x9 + (nI 1)) : Int32) = nI (x9 + 1) from (nI_add x9 1)]
    refine lv_iconst (pc := 98) (v := (nI 0)) hx hb dMo_works_98 (by decide) ?_
    refine fw_cV (pc := 99) (As := [.int (nI x9), .int (nI (x9 + 1)), .int (nI 0)]) (rest := []) ⟨hx, hb, hml, hown, hW⟩ (c_Mo_quotientQ (x9 := x9) (yp := x9 + 1) hS hX (by omega) (by omega) (by omega) h1x h1s ⟨r0.1, r0.2⟩ (hR7 _) ⟨r1.1, r1.2⟩ (hR7 _)) (cwV 3 hW (kw_V lm_Mo_167 im_Mo_quotient se_Mo_quotient ini_Mo cd_Mo_quotient) rfl rfl rfl (by decide +kernel) ⟨Nat.le_of_ble_eq_true rfl, Nat.le_of_ble_eq_true rfl⟩) hK hw b0 rfl rfl hl.1 rfl (Nat.le_of_ble_eq_true rfl) dMo_works_99 ⟨Nat.le_of_ble_eq_true rfl, Nat.le_of_ble_eq_true rfl⟩ (fun v w4 H locs hq hw => ?_)
    obtain ⟨rfl, hst, hn9⟩ := hq
    refine W.eq (g2 := F0 m 102 ls [.int (nI (sOp 5 u9 Y (R x9) (R (x9 + 1)) (R (x9 + 2))).1)]) rfl ?_
    exact fw_iret (pc := 102) hx hb hr hlocks hw dMo_works_102 ⟨rfl, hst, hn9⟩
  · have hk9 : x9 + 2 ≤ 10 := hk
    have r0 := hR 0 (show 0 < 2 by decide)
    have r1 := hR 1 (show 1 < 2 by decide)
    refine lv_tableIn (pc := 1) (tgt := 103) hx hb dMo_works_1 (by decide) (by decide) rfl (by decide) ?_
    refine lv_aload_n (pc := 103) hx hb dMo_works_103 rfl (lv_at hl 0 rfl) ?_
    refine lv_iload_n (pc := 104) hx hb dMo_works_104 rfl (lv_at hl 2 rfl) ?_
    refine lv_iload_n (pc := 105) hx hb dMo_works_105 rfl (lv_at hl 2 rfl) ?_
    refine lv_iconst (pc := 106) (v := (nI 1)) hx hb dMo_works_106 (by decide) ?_
    refine lv_iadd (pc := 107) hx hb dMo_works_107 ?_
    rw [show ((nI x9 + (nI 1)) : Int32) = nI (x9 + 1) from (nI_add x9 1)]
    refine lv_iconst (pc := 108) (v := (nI 1)) hx hb dMo_works_108 (by decide) ?_
    refine fw_cV (pc := 109) (As := [.int (nI x9), .int (nI (x9 + 1)), .int (nI 1)]) (rest := []) ⟨hx, hb, hml, hown, hW⟩ (c_Mo_quotientR (x9 := x9) (yp := x9 + 1) hS hX (by omega) (by omega) (by omega) h1x h1s ⟨r0.1, r0.2⟩ (hR7 _) ⟨r1.1, r1.2⟩ (hR7 _)) (cwV 3 hW (kw_V lm_Mo_167 im_Mo_quotient se_Mo_quotient ini_Mo cd_Mo_quotient) rfl rfl rfl (by decide +kernel) ⟨Nat.le_of_ble_eq_true rfl, Nat.le_of_ble_eq_true rfl⟩) hK hw b0 rfl rfl hl.1 rfl (Nat.le_of_ble_eq_true rfl) dMo_works_109 ⟨Nat.le_of_ble_eq_true rfl, Nat.le_of_ble_eq_true rfl⟩ (fun v w5 H locs hq hw => ?_)
    obtain ⟨rfl, hst, hn9⟩ := hq
    refine W.eq (g2 := F0 m 112 ls [.int (nI (sOp 6 u9 Y (R x9) (R (x9 + 1)) (R (x9 + 2))).1)]) rfl ?_
    exact fw_iret (pc := 112) hx hb hr hlocks hw dMo_works_112 ⟨rfl, hst, hn9⟩
  · have hk9 : x9 + 2 ≤ 10 := hk
    have r0 := hR 0 (show 0 < 2 by decide)
    have r1 := hR 1 (show 1 < 2 by decide)
    refine lv_tableIn (pc := 1) (tgt := 113) hx hb dMo_works_1 (by decide) (by decide) rfl (by decide) ?_
    refine lv_aload_n (pc := 113) hx hb dMo_works_113 rfl (lv_at hl 0 rfl) ?_
    refine lv_iload_n (pc := 114) hx hb dMo_works_114 rfl (lv_at hl 2 rfl) ?_
    refine lv_iload_n (pc := 115) hx hb dMo_works_115 rfl (lv_at hl 2 rfl) ?_
    refine lv_iconst (pc := 116) (v := (nI 1)) hx hb dMo_works_116 (by decide) ?_
    refine lv_iadd (pc := 117) hx hb dMo_works_117 ?_
    rw [show ((nI x9 + (nI 1)) : Int32) = nI (x9 + 1) from (nI_add x9 1)]
    refine fw_cV (pc := 118) (As := [.int (nI x9), .int (nI (x9 + 1))]) (rest := []) ⟨hx, hb, hml, hown, hW⟩ (c_Mo_power (x9 := x9) hS hX (by omega) h1x h1s ⟨r0.1, r0.2⟩ (hR7 _) ⟨r1.1, r1.2⟩ (hR7 _)) (cwV 2 hW (kw_V lm_Mo_178 im_Mo_power se_Mo_power ini_Mo cd_Mo_power) rfl rfl rfl (by decide +kernel) ⟨Nat.le_of_ble_eq_true rfl, Nat.le_of_ble_eq_true rfl⟩) hK hw b0 rfl rfl hl.1 rfl (Nat.le_of_ble_eq_true rfl) dMo_works_118 ⟨Nat.le_of_ble_eq_true rfl, Nat.le_of_ble_eq_true rfl⟩ (fun v w6 H locs hq hw => ?_)
    obtain ⟨rfl, hst, hn9⟩ := hq
    refine W.eq (g2 := F0 m 121 ls [.int (nI (sOp 7 u9 Y (R x9) (R (x9 + 1)) (R (x9 + 2))).1)]) rfl ?_
    exact fw_iret (pc := 121) hx hb hr hlocks hw dMo_works_121 ⟨rfl, hst, hn9⟩
  · have hk9 : x9 + 2 ≤ 10 := hk
    have r0 := hR 0 (show 0 < 2 by decide)
    have r1 := hR 1 (show 1 < 2 by decide)
    refine lv_tableIn (pc := 1) (tgt := 122) hx hb dMo_works_1 (by decide) (by decide) rfl (by decide) ?_
    refine lv_aload_n (pc := 122) hx hb dMo_works_122 rfl (lv_at hl 0 rfl) ?_
    refine lv_iload_n (pc := 123) hx hb dMo_works_123 rfl (lv_at hl 2 rfl) ?_
    refine lv_iload_n (pc := 124) hx hb dMo_works_124 rfl (lv_at hl 2 rfl) ?_
    refine lv_iconst (pc := 125) (v := (nI 1)) hx hb dMo_works_125 (by decide) ?_
    refine lv_iadd (pc := 126) hx hb dMo_works_126 ?_
    rw [show ((nI x9 + (nI 1)) : Int32) = nI (x9 + 1) from (nI_add x9 1)]
    refine fw_cV (pc := 127) (As := [.int (nI x9), .int (nI (x9 + 1))]) (rest := []) ⟨hx, hb, hml, hown, hW⟩ (c_Mo_divisor (x9 := x9) hS hX (by omega) h1x h1s ⟨r0.1, r0.2⟩ (hR7 _) ⟨r1.1, r1.2⟩ (hR7 _)) (cwV 2 hW (kw_V lm_Mo_181 im_Mo_divisor se_Mo_divisor ini_Mo cd_Mo_divisor) rfl rfl rfl (by decide +kernel) ⟨Nat.le_of_ble_eq_true rfl, Nat.le_of_ble_eq_true rfl⟩) hK hw b0 rfl rfl hl.1 rfl (Nat.le_of_ble_eq_true rfl) dMo_works_127 ⟨Nat.le_of_ble_eq_true rfl, Nat.le_of_ble_eq_true rfl⟩ (fun v w7 H locs hq hw => ?_)
    obtain ⟨rfl, hst, hn9⟩ := hq
    refine W.eq (g2 := F0 m 130 ls [.int (nI (sOp 11 u9 Y (R x9) (R (x9 + 1)) (R (x9 + 2))).1)]) rfl ?_
    exact fw_iret (pc := 130) hx hb hr hlocks hw dMo_works_130 ⟨rfl, hst, hn9⟩
  · have hk9 : x9 + 1 ≤ 10 := hk
    have r0 := hR 0 (show 0 < 1 by decide)
    refine lv_tableIn (pc := 1) (tgt := 131) hx hb dMo_works_1 (by decide) (by decide) rfl (by decide) ?_
    refine lv_aload_n (pc := 131) hx hb dMo_works_131 rfl (lv_at hl 0 rfl) ?_
    refine lv_iload_n (pc := 132) hx hb dMo_works_132 rfl (lv_at hl 2 rfl) ?_
    refine fw_cV (pc := 133) (As := [.int (nI x9)]) (rest := []) ⟨hx, hb, hml, hown, hW⟩ (c_Mo_root (x9 := x9) hS hX (by omega) h1x h1s ⟨r0.1, r0.2⟩ (hR7 _)) (cwV 1 hW (kw_V lm_Mo_184 im_Mo_root se_Mo_root ini_Mo cd_Mo_root) rfl rfl rfl (by decide +kernel) ⟨Nat.le_of_ble_eq_true rfl, Nat.le_of_ble_eq_true rfl⟩) hK hw b0 rfl rfl hl.1 rfl (Nat.le_of_ble_eq_true rfl) dMo_works_133 ⟨Nat.le_of_ble_eq_true rfl, Nat.le_of_ble_eq_true rfl⟩ (fun v w8 H locs hq hw => ?_)
    obtain ⟨rfl, hst, hn9⟩ := hq
    refine W.eq (g2 := F0 m 136 ls [.int (nI (sOp 12 u9 Y (R x9) (R (x9 + 1)) (R (x9 + 2))).1)]) rfl ?_
    exact fw_iret (pc := 136) hx hb hr hlocks hw dMo_works_136 ⟨rfl, hst, hn9⟩
  · have hk9 : x9 + 3 ≤ 10 := hk
    have r0 := hR 0 (show 0 < 3 by decide)
    have r1 := hR 1 (show 1 < 3 by decide)
    have r2 := hR 2 (show 2 < 3 by decide)
    refine lv_tableIn (pc := 1) (tgt := 137) hx hb dMo_works_1 (by decide) (by decide) rfl (by decide) ?_
    refine lv_aload_n (pc := 137) hx hb dMo_works_137 rfl (lv_at hl 0 rfl) ?_
    refine lv_iload_n (pc := 138) hx hb dMo_works_138 rfl (lv_at hl 2 rfl) ?_
    refine lv_iload_n (pc := 139) hx hb dMo_works_139 rfl (lv_at hl 2 rfl) ?_
    refine lv_iconst (pc := 140) (v := (nI 1)) hx hb dMo_works_140 (by decide) ?_
    refine lv_iadd (pc := 141) hx hb dMo_works_141 ?_
    rw [show ((nI x9 + (nI 1)) : Int32) = nI (x9 + 1) from (nI_add x9 1)]
    refine lv_iload_n (pc := 142) hx hb dMo_works_142 rfl (lv_at hl 2 rfl) ?_
    refine lv_iconst (pc := 143) (v := (nI 2)) hx hb dMo_works_143 (by decide) ?_
    refine lv_iadd (pc := 144) hx hb dMo_works_144 ?_
    rw [show ((nI x9 + (nI 2)) : Int32) = nI (x9 + 2) from (nI_add x9 2)]
    refine fw_cV (pc := 145) (As := [.int (nI x9), .int (nI (x9 + 1)), .int (nI (x9 + 2))]) (rest := []) ⟨hx, hb, hml, hown, hW⟩ (c_Mo_modular (x9 := x9) hS hX (by omega) h1x h1s ⟨r0.1, r0.2⟩ (hR7 _) ⟨r1.1, r1.2⟩ (hR7 _) ⟨r2.1, r2.2⟩ (hR7 _)) (cwV 3 hW (kw_V lm_Mo_187 im_Mo_modular se_Mo_modular ini_Mo cd_Mo_modular) rfl rfl rfl (by decide +kernel) ⟨Nat.le_of_ble_eq_true rfl, Nat.le_of_ble_eq_true rfl⟩) hK hw b0 rfl rfl hl.1 rfl (Nat.le_of_ble_eq_true rfl) dMo_works_145 ⟨Nat.le_of_ble_eq_true rfl, Nat.le_of_ble_eq_true rfl⟩ (fun v w9 H locs hq hw => ?_)
    obtain ⟨rfl, hst, hn9⟩ := hq
    refine W.eq (g2 := F0 m 148 ls [.int (nI (sOp 13 u9 Y (R x9) (R (x9 + 1)) (R (x9 + 2))).1)]) rfl ?_
    exact fw_iret (pc := 148) hx hb hr hlocks hw dMo_works_148 ⟨rfl, hst, hn9⟩
  · have hk9 : x9 + 1 ≤ 10 := hk
    have r0 := hR 0 (show 0 < 1 by decide)
    refine lv_tableOut (pc := 1) (tgt := 149) hx hb dMo_works_1 (by decide) (by decide) ?_
    refine lv_aload_n (pc := 149) hx hb dMo_works_149 rfl (lv_at hl 0 rfl) ?_
    refine fw_get (pc := 150) (ci := 10) (v := .ref (b + 2)) (C := RMo) (T := TMo) (N := 20) hx hb hW in_Mo hown hK.1 hw b0 rfl 2 (by decide) (hW _ lf_Mo_13) (fun _ h => h) rfl dMo_works_150 ?_
    refine lv_iload_n (pc := 153) hx hb dMo_works_153 rfl (lv_at hl 2 rfl) ?_
    refine lv_aload_n (pc := 154) hx hb dMo_works_154 rfl (lv_at hl 0 rfl) ?_
    refine fw_get (pc := 155) (ci := 10) (v := .ref (b + 2)) (C := RMo) (T := TMo) (N := 20) hx hb hW in_Mo hown hK.1 hw b0 rfl 2 (by decide) (hW _ lf_Mo_13) (fun _ h => h) rfl dMo_works_155 ?_
    refine lv_iload_n (pc := 158) hx hb dMo_works_158 rfl (lv_at hl 2 rfl) ?_
    refine fw_ialdN (pc := 159) (x := S (x9)) hx hb hK.1 hw 0 b2 rfl (x9) (by omega) (by decide) rfl dMo_works_159 ?_
    rw [show (S (x9) : Int32) = sg32 (R x9) from r0.2]
    refine lv_ineg (pc := 160) hx hb dMo_works_160 ?_
    rw [show ((-(sg32 (R x9))) : Int32) = sg32 (-(R x9)) from (sg_neg (R x9))]
    refine fw_iastN (pc := 161) (f2 := va_up S x9 (sg32 (-(R x9)))) hx hb hK.1 hw 0 b2 rfl (x9) (by omega) (by decide) (rfl) dMo_works_161 (fun H locs hw => ?_)
    obtain ⟨w10, e10⟩ : ∃ w_, w_ = fw_up w (b + 2) (.inl (cI, 24, .inl (va_up S x9 (sg32 (-(R x9)))))) := ⟨_, rfl⟩
    have hw : fw_H D kCl (fw_A w (sz)) s.heap w10 (sz) H locs := by rw [e10]; exact hw
    have b0_ : w10 (b) = some (.inr (10, [.int (nI (I 0)), .ref (b + 1), .ref (b + 2), .int (nI (I 3)), .ref (b + 3), .ref (b + 4), .int (nI (I 6)), .int (nI (I 7)), .ref (b + 5), .ref (b + 6), .int (nI (I 10)), .int (nI (I 11)), .int (nI (I 12)), .int (nI (I 13)), .ref (b + 7), .ref (b + 8), .int (nI (I 16)), .int (nI (I 17)), .int (nI (I 18)), .int (nI (I 19))])) := by rw [e10, fw_un (by omega)]; exact b0
    have b1_ : w10 (b + 1) = some (.inl (cL, 1536, .inr (.inl (fun i => lN (mC X i))))) := by rw [e10, fw_un (by omega)]; exact b1
    have b2_ : w10 (b + 2) = some (.inl (cI, 24, .inl (va_up S x9 (sg32 (-(R x9)))))) := by rw [e10]; exact fw_us _ _ _
    have b0 := b0_
    have b1 := b1_
    have b2 := b2_
    refine lv_iconst (pc := 162) (v := (nI 0)) hx hb dMo_works_162 (by decide) ?_
    exact fw_iret (pc := 163) hx hb hr hlocks hw dMo_works_163 ⟨rfl, ⟨va_up S x9 (sg32 (-(R x9))), X, moS.cs hS b1 b2 (fun q h1 h2 => by rw [e10, fw_un h2]), hX, fun _ => ⟨r0.1.trans (Int.natAbs_neg _).symm, up_s⟩, fun p h1 h2 => ⟨rfl, up_o h1⟩⟩, fun q h9 => by rw [e10, fw_un (by omega)]⟩
end MO11
