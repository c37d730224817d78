/-! BigCalculator's own small methods, with their throws. Written by wip/gen/model2.py. -/
section BC3
variable {l : Launch} {D : va_G} {cI cL cQ : ClassId} {tO tB tC : Nat} {sa : Nat → Nat} {sz : Nat} {w : fw_W}
set_option maxHeartbeats 4000000 in
set_option maxRecDepth 100000 in
theorem c_Bc_compile0 {b : Nat} {I : Nat → Nat} {J : Nat → Nat → Nat} {V G : Nat → Nat} (hS : bcS cI cL cQ w b I J V G) (h0 : I 0 = 0) : fw_C l yBc_compile (Cond.code yBc_compile cBc_compile 2 (some FieldType.int) :: kWs) ({ frames := 1, cells := 0, slots := 0, locals := 22 } : Room) D kCl (kty cI cL cQ) (kz tO tB tC sa) [.ref b] (sz) w 0 0 (fun r w' => r = some (.int (nI 1)) ∧ bcS cI cL cQ w' b (fun _ => 0) J V G ∧ ∀ q, q < b ∨ b + 86 ≤ q → w' q = w q) := by
  refine fw_ofW (cc := cBc_compile) (maxL := 2) (ret := (some FieldType.int)) (by decide) rfl (Nat.le_of_ble_eq_true rfl) ?_
  intro p e s m args below meth c hx hb hr hts hown hlocks hname hml hK H ls hw hl
  have hW : ∀ w ∈ kWs, w.before args s = true := fun w h => hts w (List.mem_cons_of_mem _ h)
  have hown : s.vm.findClass RBc = some m.cls := hown
  have hl : lv_has ls 2 [(0, .ref b)] := hl
  obtain ⟨⟨b0, b1, b2, b3⟩, ⟨c0, c1, c2, c3, c4, c5⟩, ⟨m0, m1, m2, m3, m4, m5⟩, hR, hV, hN, hD⟩ := id hS
  have b1 : w (b + 1) = some (.inr (6, [.ref (b + 2), .ref (b + 3), .int (nI 0)])) := by rw [b1, h0]
  refine lv_aload_n (pc := 0) hx hb dBc_compile_0 rfl (lv_at hl 0 rfl) ?_
  refine fw_get (pc := 1) (ci := 9) (v := .ref (b + 4)) (C := RBc) (T := TBc) (N := 4) hx hb hW in_Bc hown hK.1 hw b0 rfl 1 (by decide) (hW _ lf_Bc_19) (fun _ h => h) rfl dBc_compile_1 ?_
  refine lv_aload_n (pc := 4) hx hb dBc_compile_4 rfl (lv_at hl 0 rfl) ?_
  refine fw_get (pc := 5) (ci := 9) (v := .ref (b + 1)) (C := RBc) (T := TBc) (N := 4) hx hb hW in_Bc hown hK.1 hw b0 rfl 0 (by decide) (hW _ lf_Bc_12) (fun _ h => h) rfl dBc_compile_5 ?_
  refine fw_cV (pc := 8) (As := [.ref (b + 1)]) (rest := []) ⟨hx, hb, hml, hown, hW⟩ (c_Tr_translate0 c0 c1 b1) (cwV 1 hW (kw_V lm_Bc_56 im_Tr_translate se_Tr_translate ini_Tr cd_Tr_translate) rfl rfl rfl (by decide +kernel) ⟨Nat.le_of_ble_eq_true rfl, Nat.le_of_ble_eq_true rfl⟩) hK hw c0 rfl rfl hl.1 rfl (Nat.le_of_ble_eq_true rfl) dBc_compile_8 ⟨Nat.le_of_ble_eq_true rfl, Nat.le_of_ble_eq_true rfl⟩ (fun v w1 H locs hq hw => ?_)
  obtain ⟨rfl, t0, t1, to_⟩ := hq
  have b0_ : w1 (b) = some (.inr (9, [.ref (b + 1), .ref (b + 4), .ref (b + 10), .ref (b + 83)])) := (to_ _ (by omega) (by omega)).trans b0
  have b1_ : w1 (b + 1) = some (.inr (6, [.ref (b + 2), .ref (b + 3), .int (nI 0)])) := (to_ _ (by omega) (by omega)).trans b1
  have m0_ : w1 (b + 10) = some (.inr (4, [.ref (b + 11), .ref (b + 42), .int (nI (I 4)), .int (nI (I 5)), .int (nI (I 6)), .int (nI (I 7)), .ref (b + 67)])) := (to_ _ (by omega) (by omega)).trans m0
  have b0 := b0_
  have b1 := b1_
  have m0 := m0_
  have t0 : w1 (b + 4) = some (.inr (7, [.ref (b + 5), .ref (b + 8), .ref (b + 9), .int (nI 0), .int (nI 0)])) := t0
  have t1 : w1 (b + 5) = some (.inr (1, [.ref (b + 6), .ref (b + 7), .int (nI 0)])) := t1
  refine W.eq (g2 := F0 m 11 ls [.int (nI 1)]) rfl ?_
  refine lv_istore_n (pc := 11) (lv' := [(1, .int (nI 1)), (0, .ref b)]) hx hb dBc_compile_11 rfl hl (by decide) rfl (fun ls hl => ?_)
  refine lv_iload_n (pc := 12) hx hb dBc_compile_12 rfl (lv_at hl 0 rfl) ?_
  refine lv_if_ne (pc := 13) (tgt := 34) hx hb dBc_compile_13 (by decide) (fun _ => ?_) (fun hc => absurd hc (show ¬ nI 1 = 0 by decide))
  refine lv_iload_n (pc := 34) hx hb dBc_compile_34 rfl (lv_at hl 0 rfl) ?_
  refine lv_if_eq (pc := 35) (tgt := 49) hx hb dBc_compile_35 (by decide) (fun hc => absurd hc (show ¬ nI 1 = 0 by decide)) (fun _ => ?_)
  refine lv_aload_n (pc := 38) hx hb dBc_compile_38 rfl (lv_at hl 1 rfl) ?_
  refine fw_get (pc := 39) (ci := 9) (v := .ref (b + 4)) (C := RBc) (T := TBc) (N := 4) hx hb hW in_Bc hown hK.1 hw b0 rfl 1 (by decide) (hW _ lf_Bc_19) (fun _ h => h) rfl dBc_compile_39 ?_
  refine fw_get (pc := 42) (ci := 7) (v := .ref (b + 5)) (C := RTr) (T := TTr) (N := 5) hx hb hW in_Tr hown hK.1 hw t0 rfl 0 (by decide) (hW _ lf_Bc_60) (fun _ h => h) rfl dBc_compile_42 ?_
  refine lv_iconst (pc := 45) (v := (nI 0)) hx hb dBc_compile_45 (by decide) ?_
  refine fw_put (pc := 46) (ci := 1) (v := .int (nI 0)) (ty := .int) (C := RCo) (T := TCo) (N := 3) hx hb hW in_Co tyCo tyCo_ok nmCo hown hK.1 hw t1 rfl 2 (by decide) (hW _ lf_Bc_70) (fun _ h => h) rfl (by decide +kernel) rfl rfl (Nat.le_of_ble_eq_true rfl) dBc_compile_46 (fun H locs hw => ?_)
  obtain ⟨w2, e2⟩ : ∃ w_, w_ = fw_up w1 (b + 5) (.inr (1, [.ref (b + 6), .ref (b + 7), .int (nI 0)])) := ⟨_, rfl⟩
  have hw : fw_H D kCl (fw_A w (sz)) s.heap w2 (sz) H locs := by rw [e2]; exact hw
  have b0_ : w2 (b) = some (.inr (9, [.ref (b + 1), .ref (b + 4), .ref (b + 10), .ref (b + 83)])) := by rw [e2, fw_un (by omega)]; exact b0
  have b1_ : w2 (b + 1) = some (.inr (6, [.ref (b + 2), .ref (b + 3), .int (nI 0)])) := by rw [e2, fw_un (by omega)]; exact b1
  have t0_ : w2 (b + 4) = some (.inr (7, [.ref (b + 5), .ref (b + 8), .ref (b + 9), .int (nI 0), .int (nI 0)])) := by rw [e2, fw_un (by omega)]; exact t0
  have m0_ : w2 (b + 10) = some (.inr (4, [.ref (b + 11), .ref (b + 42), .int (nI (I 4)), .int (nI (I 5)), .int (nI (I 6)), .int (nI (I 7)), .ref (b + 67)])) := by rw [e2, fw_un (by omega)]; exact m0
  have t1_ : w2 (b + 5) = some (.inr (1, [.ref (b + 6), .ref (b + 7), .int (nI 0)])) := by rw [e2]; exact fw_us _ _ _
  have b0 := b0_
  have b1 := b1_
  have t0 := t0_
  have t1 := t1_
  have m0 := m0_
  refine lv_aload_n (pc := 49) hx hb dBc_compile_49 rfl (lv_at hl 1 rfl) ?_
  refine fw_get (pc := 50) (ci := 9) (v := .ref (b + 1)) (C := RBc) (T := TBc) (N := 4) hx hb hW in_Bc hown hK.1 hw b0 rfl 0 (by decide) (hW _ lf_Bc_12) (fun _ h => h) rfl dBc_compile_50 ?_
  refine lv_iconst (pc := 53) (v := (nI 0)) hx hb dBc_compile_53 (by decide) ?_
  refine fw_put (pc := 54) (ci := 6) (v := .int (nI 0)) (ty := .int) (C := RTo) (T := TTo) (N := 3) hx hb hW in_To tyTo tyTo_ok nmTo hown hK.1 hw b1 rfl 2 (by decide) (hW _ lf_Bc_48) (fun _ h => h) rfl (by decide +kernel) rfl rfl (Nat.le_of_ble_eq_true rfl) dBc_compile_54 (fun H locs hw => ?_)
  obtain ⟨w3, e3⟩ : ∃ w_, w_ = fw_up w2 (b + 1) (.inr (6, [.ref (b + 2), .ref (b + 3), .int (nI 0)])) := ⟨_, rfl⟩
  have hw : fw_H D kCl (fw_A w (sz)) s.heap w3 (sz) H locs := by rw [e3]; exact hw
  have b0_ : w3 (b) = some (.inr (9, [.ref (b + 1), .ref (b + 4), .ref (b + 10), .ref (b + 83)])) := by rw [e3, fw_un (by omega)]; exact b0
  have t0_ : w3 (b + 4) = some (.inr (7, [.ref (b + 5), .ref (b + 8), .ref (b + 9), .int (nI 0), .int (nI 0)])) := by rw [e3, fw_un (by omega)]; exact t0
  have t1_ : w3 (b + 5) = some (.inr (1, [.ref (b + 6), .ref (b + 7), .int (nI 0)])) := by rw [e3, fw_un (by omega)]; exact t1
  have m0_ : w3 (b + 10) = some (.inr (4, [.ref (b + 11), .ref (b + 42), .int (nI (I 4)), .int (nI (I 5)), .int (nI (I 6)), .int (nI (I 7)), .ref (b + 67)])) := by rw [e3, fw_un (by omega)]; exact m0
  have b1_ : w3 (b + 1) = some (.inr (6, [.ref (b + 2), .ref (b + 3), .int (nI 0)])) := by rw [e3]; exact fw_us _ _ _
  have b0 := b0_
  have b1 := b1_
  have t0 := t0_
  have t1 := t1_
  have m0 := m0_
  refine lv_aload_n (pc := 57) hx hb dBc_compile_57 rfl (lv_at hl 1 rfl) ?_
  refine fw_get (pc := 58) (ci := 9) (v := .ref (b + 10)) (C := RBc) (T := TBc) (N := 4) hx hb hW in_Bc hown hK.1 hw b0 rfl 2 (by decide) (hW _ lf_Bc_26) (fun _ h => h) rfl dBc_compile_58 ?_
  refine fw_cV (pc := 61) (As := []) (rest := []) ⟨hx, hb, hml, hown, hW⟩ (c_Ma_begin m0) (cwV 0 hW (kw_V lm_Bc_71 im_Ma_begin se_Ma_begin ini_Ma cd_Ma_begin) rfl rfl rfl (by decide +kernel) ⟨Nat.le_of_ble_eq_true rfl, Nat.le_of_ble_eq_true rfl⟩) hK hw m0 rfl rfl hl.1 rfl (Nat.le_of_ble_eq_true rfl) dBc_compile_61 ⟨Nat.le_of_ble_eq_true rfl, Nat.le_of_ble_eq_true rfl⟩ (fun v w4 H locs hq hw => ?_)
  obtain ⟨rfl, u0, bo⟩ := hq
  have b0_ : w4 (b) = some (.inr (9, [.ref (b + 1), .ref (b + 4), .ref (b + 10), .ref (b + 83)])) := (bo _ (by omega)).trans b0
  have b1_ : w4 (b + 1) = some (.inr (6, [.ref (b + 2), .ref (b + 3), .int (nI 0)])) := (bo _ (by omega)).trans b1
  have t0_ : w4 (b + 4) = some (.inr (7, [.ref (b + 5), .ref (b + 8), .ref (b + 9), .int (nI 0), .int (nI 0)])) := (bo _ (by omega)).trans t0
  have t1_ : w4 (b + 5) = some (.inr (1, [.ref (b + 6), .ref (b + 7), .int (nI 0)])) := (bo _ (by omega)).trans t1
  have b0 := b0_
  have b1 := b1_
  have t0 := t0_
  have t1 := t1_
  refine W.eq (g2 := F0 m 64 ls []) rfl ?_
  refine lv_iload_n (pc := 64) hx hb dBc_compile_64 rfl (lv_at hl 0 rfl) ?_
  exact fw_iret (pc := 65) hx hb hr hlocks hw dBc_compile_65 ⟨rfl, bcS.ints hS b1 t0 t1 u0 (fun q h1 h2 h3 h4 => by rw [bo q (by omega), e3, fw_un (by omega), e2, fw_un (by omega), to_ q (by omega) (by omega)]), fun q hq => by rw [bo q (by omega), e3, fw_un (by omega), e2, fw_un (by omega), to_ q (by omega) (by omega)]⟩
end BC3
