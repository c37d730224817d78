/-! BigCalculator.Natural, seventh part. Written by wip/gen/natural7.py. -/
section NA7
variable {l : Launch} {D : va_G} {cI cL cQ : ClassId} {z : kZ_T} {sz : Nat} {w : fw_W}
set_option maxHeartbeats 4000000 in
set_option maxRecDepth 100000 in
theorem c_Na_becomePowerOfTwo {n ex y0 : Nat} (he : ex < 1600) (hv : isV cL w n y0) : fw_C l yNa_becomePowerOfTwo (Cond.code yNa_becomePowerOfTwo cNa_becomePowerOfTwo 3 none :: kWs) ({ frames := 1, cells := 0, slots := 0, locals := 22 } : Room) D kCl (kty cI cL cQ) z [.ref n, .int (nI ex)] (sz) w 0 0 (fun v w' => v = none ∧ isV cL w' n (2 ^ ex) ∧ ∀ q, q ≠ n → q ≠ n + 1 → w' q = w q) := by
  refine fw_ofW (cc := cNa_becomePowerOfTwo) (maxL := 3) (ret := none) (by decide) rfl (Nat.le_of_ble_eq_true rfl) ?_
  intro p e s m args below meth c hx hb hr hts hown hlocks hname hml hK H ls hw hl
  have hW : ∀ w ∈ kWs, w.before args s = true := fun w h => hts w (List.mem_cons_of_mem _ h)
  have hown : s.vm.findClass RNa = some m.cls := hown
  have hl : lv_has ls 3 [(0, .ref n), (1, .int (nI ex))] := hl
  obtain ⟨g, k, ⟨o0, o1⟩, ok, og, on, ov⟩ := id hv
  refine lv_iload_n (pc := 0) hx hb dNa_becomePowerOfTwo_0 rfl (lv_at hl 1 rfl) ?_
  refine lv_bipush (pc := 1) (v := (nI 32)) hx hb dNa_becomePowerOfTwo_1 (by decide) ?_
  refine lv_idiv (pc := 3) hx hb dNa_becomePowerOfTwo_3 (by decide) ?_
  rw [show ((nI ex / nI 32) : Int32) = nI (ex / 32) from (pk_div (by omega) (by decide) (by decide))]
  refine lv_istore_n (pc := 4) (lv' := [(2, .int (nI (ex / 32))), (0, .ref n), (1, .int (nI ex))]) hx hb dNa_becomePowerOfTwo_4 rfl hl (by decide) rfl (fun ls hl => ?_)
  refine lv_aload_n (pc := 5) hx hb dNa_becomePowerOfTwo_5 rfl (lv_at hl 1 rfl) ?_
  refine lv_iload_n (pc := 6) hx hb dNa_becomePowerOfTwo_6 rfl (lv_at hl 0 rfl) ?_
  refine fw_cV (pc := 7) (As := [.int (nI (ex / 32))]) (rest := []) ⟨hx, hb, hml, hown, hW⟩ (c_Na_clear (k0 := ex / 32) (by omega) o0 o1) (cwV 1 hW (kw_V lm_Na_45 im_Na_clear se_Na_clear ini_Na cd_Na_clear) rfl rfl rfl (by decide +kernel) ⟨Nat.le_of_ble_eq_true rfl, Nat.le_of_ble_eq_true rfl⟩) hK hw o0 rfl rfl hl.1 rfl (Nat.le_of_ble_eq_true rfl) dNa_becomePowerOfTwo_7 ⟨Nat.le_of_ble_eq_true rfl, Nat.le_of_ble_eq_true rfl⟩ (fun v w1 H locs hq hw => ?_)
  obtain ⟨rfl, c1, co⟩ := hq
  have o0_ : w1 (n) = some (.inr (5, [.ref (n + 1), .int (nI k)])) := (co _ (by omega)).trans o0
  have o0 := o0_
  refine W.eq (g2 := F0 m 10 ls []) rfl ?_
  refine lv_aload_n (pc := 10) hx hb dNa_becomePowerOfTwo_10 rfl (lv_at hl 1 rfl) ?_
  refine fw_get (pc := 11) (ci := 5) (v := .ref (n + 1)) (C := RNa) (T := TNa) (N := 2) hx hb hW in_Na hown hK.1 hw o0 rfl 0 (by decide) (hW _ lf_Na_9) (fun _ h => h) rfl dNa_becomePowerOfTwo_11 ?_
  refine lv_iload_n (pc := 14) hx hb dNa_becomePowerOfTwo_14 rfl (lv_at hl 0 rfl) ?_
  refine lv_lconst (pc := 15) (v := lN 1) hx hb dNa_becomePowerOfTwo_15 (by decide) ?_
  refine lv_iload_n (pc := 16) hx hb dNa_becomePowerOfTwo_16 rfl (lv_at hl 2 rfl) ?_
  refine lv_bipush (pc := 17) (v := (nI 32)) hx hb dNa_becomePowerOfTwo_17 (by decide) ?_
  refine lv_irem (pc := 19) hx hb dNa_becomePowerOfTwo_19 (by decide) ?_
  rw [show ((nI ex - nI ex / nI 32 * nI 32) : Int32) = nI (ex % 32) from (by rw [pk_div (by omega) (by decide) (by decide), nI_mul, nI_subL (by omega)]; congr 1; omega)]
  refine lv_lshl (pc := 20) (v := lN (2 ^ (ex % 32))) hx hb dNa_becomePowerOfTwo_20 (by have h9 := wb_shl 1 (k := ex % 32) (by omega); rw [Nat.one_mul] at h9; exact h9) ?_
  obtain ⟨pw, hpw⟩ : ∃ pw, pw = 2 ^ (ex % 32) := ⟨_, rfl⟩
  have hpl : pw < 4294967296 := by rw [hpw]; exact Nat.pow_lt_pow_right (a := 2) (m := ex % 32) (n := 32) (by decide) (Nat.mod_lt _ (by decide))
  have hp0 : 0 < pw := by rw [hpw]; exact Nat.pow_pos (by decide)
  rw [show (lN (2 ^ (ex % 32)) : Int64) = lN pw from (by rw [hpw])]
  refine fw_lastN (pc := 21) (f2 := fun j => lN (va_up (clr g 0 (ex / 32)) (ex / 32) pw j)) hx hb hK.1 hw 1 c1 rfl (ex / 32) (by omega) (by decide) (lN_up _ _ _) dNa_becomePowerOfTwo_21 (fun H locs hw => ?_)
  obtain ⟨w2, e2⟩ : ∃ w_, w_ = fw_up w1 (n + 1) (.inl (cL, 50, .inr (.inl (fun j => lN (va_up (clr g 0 (ex / 32)) (ex / 32) pw j))))) := ⟨_, rfl⟩
  have hw : fw_H D kCl (fw_A w (sz)) s.heap w2 (sz) H locs := by rw [e2]; exact hw
  have o0_ : w2 (n) = some (.inr (5, [.ref (n + 1), .int (nI k)])) := by rw [e2, fw_un (by omega)]; exact o0
  have c1_ : w2 (n + 1) = some (.inl (cL, 50, .inr (.inl (fun j => lN (va_up (clr g 0 (ex / 32)) (ex / 32) pw j))))) := by rw [e2]; exact fw_us _ _ _
  have o0 := o0_
  have c1 := c1_
  refine lv_aload_n (pc := 22) hx hb dNa_becomePowerOfTwo_22 rfl (lv_at hl 1 rfl) ?_
  refine lv_iload_n (pc := 23) hx hb dNa_becomePowerOfTwo_23 rfl (lv_at hl 0 rfl) ?_
  refine lv_iconst (pc := 24) (v := (nI 1)) hx hb dNa_becomePowerOfTwo_24 (by decide) ?_
  refine lv_iadd (pc := 25) hx hb dNa_becomePowerOfTwo_25 ?_
  rw [show ((nI (ex / 32) + (nI 1)) : Int32) = nI (ex / 32 + 1) from (nI_add (ex / 32) 1)]
  refine fw_put (pc := 26) (ci := 5) (v := .int (nI (ex / 32 + 1))) (ty := .int) (C := RNa) (T := TNa) (N := 2) hx hb hW in_Na tyNa tyNa_ok nmNa hown hK.1 hw o0 rfl 1 (by decide) (hW _ lf_Na_15) (fun _ h => h) rfl (by decide +kernel) rfl rfl (Nat.le_of_ble_eq_true rfl) dNa_becomePowerOfTwo_26 (fun H locs hw => ?_)
  obtain ⟨w3, e3⟩ : ∃ w_, w_ = fw_up w2 (n) (.inr (5, [.ref (n + 1), .int (nI (ex / 32 + 1))])) := ⟨_, rfl⟩
  have hw : fw_H D kCl (fw_A w (sz)) s.heap w3 (sz) H locs := by rw [e3]; exact hw
  have c1_ : w3 (n + 1) = some (.inl (cL, 50, .inr (.inl (fun j => lN (va_up (clr g 0 (ex / 32)) (ex / 32) pw j))))) := by rw [e3, fw_un (by omega)]; exact c1
  have o0_ : w3 (n) = some (.inr (5, [.ref (n + 1), .int (nI (ex / 32 + 1))])) := by rw [e3]; exact fw_us _ _ _
  have o0 := o0_
  have c1 := c1_
  have hcl : ∀ j, j < ex / 32 → clr g 0 (ex / 32) j = 0 := fun j hj => if_pos (by omega)
  have hval : nv nB (va_up (clr g 0 (ex / 32)) (ex / 32) pw) (ex / 32 + 1) = 2 ^ ex := by
    rw [nv_more rfl, nv_zero hcl, Nat.zero_add, hpw]
    show 2 ^ (ex % 32) * (2 ^ 32) ^ (ex / 32) = 2 ^ ex
    rw [← Nat.pow_mul, ← Nat.pow_add]; congr 1; omega
  exact fw_vret (pc := 29) hx hb hr hlocks hw dNa_becomePowerOfTwo_29 ⟨rfl, ⟨_, ex / 32 + 1, ⟨o0, c1⟩, by omega, fun j hj => by (unfold va_up; split; omega; unfold clr; split; decide; exact og j hj), ⟨fun j hj => by (unfold va_up; split; exact hpl; rw [hcl j (by omega)]; decide), fun _ => by rw [Nat.add_sub_cancel, show va_up (clr g 0 (ex / 32)) (ex / 32) pw (ex / 32) = pw from if_pos rfl]; omega⟩, hval⟩, fun q h1 h3 => by rw [e3, fw_un h1, e2, fw_un h3, co q h3]⟩
end NA7
