theorem kn_norm2 {g gb : Nat → Nat} {kb sh y b : Nat} (hb : b = 2 ^ 32) (hkb : 0 < kb) (hg : ∀ i, i < kb + 1 → g i < b) (hv : nv b g (kb + 1) = y * 2 ^ sh) (hgb : nk b gb kb) (hy : nv b gb kb = y) (hsh : sh = 32 - bl (gb (kb - 1))) :
    nv b g kb = y * 2 ^ sh ∧ b ≤ 2 * g (kb - 1) ∧ y * 2 ^ sh < b ^ kb ∧ 2 ^ 31 * b ^ (kb - 1) ≤ y * 2 ^ sh := by
  obtain ⟨k, rfl⟩ : ∃ k, kb = k + 1 := ⟨kb - 1, by omega⟩
  rw [Nat.add_sub_cancel] at *
  have h0 : gb k ≠ 0 := by have := hgb.2 (by omega); simpa using this
  have h1 := nv_lt (b := b) (g := gb) (n := k) (fun i hi => hgb.1 i (by omega))
  rw [nv_s] at hy
  have h3 := kn_norm hb hg hv (t := gb k) (by omega) (by rw [Nat.add_mul, Nat.one_mul]; omega) (by omega) (hgb.1 k (by omega)) hsh
  exact ⟨h3.2.1, h3.2.2.1, h3.2.2.2.1, h3.2.2.2.2⟩
theorem kx_end {Q R x y p : Nat} (hp : 0 < p) (hy : 0 < y) (h : Q * (y * p) + R = x * p) (hR : R < y * p) : Q = x / y ∧ R / p = x % y := by
  have h1 := (Nat.div_mod_unique (Nat.mul_pos hy hp)).mpr ⟨(by rw [Nat.mul_comm (y * p), Nat.add_comm]; exact h : R + y * p * Q = x * p), hR⟩
  rw [Nat.mul_div_mul_right x y hp, Nat.mul_mod_mul_right] at h1
  refine ⟨h1.1.symm, ?_⟩
  rw [← h1.2, Nat.mul_div_cancel _ hp]
/-! BigCalculator.Divider.divide. Written by wip/gen/divider3.py. -/
section DI3
variable {l : Launch} {D : va_G} {cI cL cQ : ClassId} {z : kZ_T} {sz : Nat} {w : fw_W}
set_option maxHeartbeats 4000000 in
set_option maxRecDepth 100000 in
theorem c_Di_divide {d na nb x y e1 e2 e3 : Nat} (h : w d = some (.inr (3, [.ref (d + 1), .ref (d + 3), .ref (d + 5)]))) (hvq : isV cL w (d + 1) e1) (hvr : isV cL w (d + 3) e2) (hvd : isV cL w (d + 5) e3) (hva : isV cL w na x) (hvb : isV cL w nb y) (hpa : na + 1 < d ∨ d + 6 < na) (hpb : nb + 1 < d ∨ d + 6 < nb) (hy : 0 < y) (hxl : x < nB ^ 49) : fw_C l yDi_divide (Cond.code yDi_divide cDi_divide 7 none :: kWs) ({ frames := 3, cells := 0, slots := 0, locals := 81 } : Room) D kCl (kty cI cL cQ) z [.ref d, .ref na, .ref nb] (sz) w 0 0 (fun v w' => v = none ∧ isV cL w' (d + 1) (x / y) ∧ isV cL w' (d + 3) (x % y) ∧ (∃ e4, isV cL w' (d + 5) e4) ∧ ∀ q, q < d + 1 ∨ d + 7 ≤ q → w' q = w q) := by
  refine fw_ofW (cc := cDi_divide) (maxL := 7) (ret := none) (by decide) rfl (Nat.le_of_ble_eq_true rfl) ?_
  intro p e s m args below meth c hx hb hr hts hown hlocks hname hml hK H ls hw hl
  have hW : ∀ w ∈ kWs, w.before args s = true := fun w h => hts w (List.mem_cons_of_mem _ h)
  have hown : s.vm.findClass RDi = some m.cls := hown
  have hl : lv_has ls 7 [(0, .ref d), (1, .ref na), (2, .ref nb)] := hl
  obtain ⟨ga, ka, ⟨a0, a1⟩, ak, ag, an, av⟩ := id hva
  obtain ⟨gb, kb, ⟨b0, b1⟩, bk, bg, bn, bv⟩ := id hvb
  obtain ⟨gq, kq, ⟨q0, q1⟩, qk, qg, qn, qv⟩ := id hvq
  obtain ⟨gr0, kr, ⟨r0, r1⟩, rk, rg, rn, rv⟩ := id hvr
  obtain ⟨gd0, kd, ⟨c0, c1⟩, ck, cg, cn, cv⟩ := id hvd
  have hk0 : ¬ kb = 0 := fun h9 => by have := (nk_zero bn bv).mp h9; omega
  have hkb : 0 < kb := by omega
  have l3 : nB = 4294967296 := rfl
  refine lv_aload_n (pc := 0) hx hb dDi_divide_0 rfl (lv_at hl 2 rfl) ?_
  refine fw_cVR (pc := 1) (As := []) (rest := []) ⟨hx, hb, hml, hown, hW⟩ (c_Na_isZero (by omega) b0) (cwV 0 hW (kw_V lm_Di_24 im_Na_isZero se_Na_isZero ini_Na cd_Na_isZero) rfl rfl rfl (by decide +kernel) ⟨Nat.le_of_ble_eq_true rfl, Nat.le_of_ble_eq_true rfl⟩) hK hw b0 rfl rfl hl.1 rfl (Nat.le_of_ble_eq_true rfl) dDi_divide_1 ⟨Nat.le_of_ble_eq_true rfl, Nat.le_of_ble_eq_true rfl⟩ (fun v hq => ?_)
  rw [if_neg hk0] at hq
  subst hq
  refine W.eq (g2 := F0 m 4 ls [.int (nI 0)]) rfl ?_
  refine lv_if_ne (pc := 4) (tgt := 15) hx hb dDi_divide_4 (by decide) (fun hc => absurd hc (fun h => h (by decide))) (fun _ => ?_)
  refine lv_aload_n (pc := 7) hx hb dDi_divide_7 rfl (lv_at hl 1 rfl) ?_
  refine lv_aload_n (pc := 8) hx hb dDi_divide_8 rfl (lv_at hl 2 rfl) ?_
  refine fw_cVR (pc := 9) (As := [.ref nb]) (rest := []) ⟨hx, hb, hml, hown, hW⟩ (c_Na_order hva hvb) (cwV 1 hW (kw_V lm_Di_28 im_Na_order se_Na_order ini_Na cd_Na_order) rfl rfl rfl (by decide +kernel) ⟨Nat.le_of_ble_eq_true rfl, Nat.le_of_ble_eq_true rfl⟩) hK hw a0 rfl rfl hl.1 rfl (Nat.le_of_ble_eq_true rfl) dDi_divide_9 ⟨Nat.le_of_ble_eq_true rfl, Nat.le_of_ble_eq_true rfl⟩ (fun v hq => ?_)
  subst hq
  refine W.eq (g2 := F0 m 12 ls [.int (ordI x y)]) rfl ?_
  refine lv_if_ge (pc := 12) (tgt := 32) hx hb dDi_divide_12 (by decide) (fun hc => ?_) (fun hc => ?_)
  · have hyx : y ≤ x := (ordI_ge0 _ _).mp hc
    have hba : kb ≤ ka := Nat.le_of_not_lt (fun h9 => by have h8 := nk_less an bn (by decide) h9; rw [av, bv] at h8; omega)
    have lka : ka ≤ 49 := nk_size an (by rw [av]; exact hxl)
    refine lv_aload_n (pc := 32) hx hb dDi_divide_32 rfl (lv_at hl 2 rfl) ?_
    refine fw_cVR (pc := 33) (As := []) (rest := []) ⟨hx, hb, hml, hown, hW⟩ (c_Na_freeBits ⟨b0, b1⟩ hkb bk (bn.1 _ (by omega))) (cwV 0 hW (kw_V lm_Di_40 im_Na_freeBits se_Na_freeBits ini_Na cd_Na_freeBits) rfl rfl rfl (by decide +kernel) ⟨Nat.le_of_ble_eq_true rfl, Nat.le_of_ble_eq_true rfl⟩) hK hw b0 rfl rfl hl.1 rfl (Nat.le_of_ble_eq_true rfl) dDi_divide_33 ⟨Nat.le_of_ble_eq_true rfl, Nat.le_of_ble_eq_true rfl⟩ (fun v hq => ?_)
    obtain ⟨sh, hsh⟩ : ∃ sh, sh = 32 - bl (gb (kb - 1)) := ⟨_, rfl⟩
    rw [← hsh] at hq
    subst hq
    refine W.eq (g2 := F0 m 36 ls [.int (nI sh)]) rfl ?_
    have hs31 : sh ≤ 31 := by have := (bt_le (bn.2 hkb)).2; omega
    have hp0 : 0 < 2 ^ sh := Nat.pow_pos (by decide)
    refine lv_istore_n (pc := 36) (lv' := [(3, .int (nI sh)), (0, .ref d), (1, .ref na), (2, .ref nb)]) hx hb dDi_divide_36 rfl hl (by decide) rfl (fun ls hl => ?_)
    refine lv_aload_n (pc := 37) hx hb dDi_divide_37 rfl (lv_at hl 1 rfl) ?_
    refine fw_get (pc := 38) (ci := 3) (v := .ref (d + 5)) (C := RDi) (T := TDi) (N := 3) hx hb hW in_Di hown hK.1 hw h rfl 2 (by decide) (hW _ lf_Di_21) (fun _ h => h) rfl dDi_divide_38 ?_
    refine lv_aload_n (pc := 41) hx hb dDi_divide_41 rfl (lv_at hl 3 rfl) ?_
    refine lv_iload_n (pc := 42) hx hb dDi_divide_42 rfl (lv_at hl 0 rfl) ?_
    refine fw_cV (pc := 43) (As := [.ref nb, .int (nI sh)]) (rest := []) ⟨hx, hb, hml, hown, hW⟩ (c_Na_becomeShiftedLeft (by omega) hvd ⟨b0, b1⟩ (by omega) bn.1 (by omega)) (cwV 2 hW (kw_V lm_Di_44 im_Na_becomeShiftedLeft se_Na_becomeShiftedLeft ini_Na cd_Na_becomeShiftedLeft) rfl rfl rfl (by decide +kernel) ⟨Nat.le_of_ble_eq_true rfl, Nat.le_of_ble_eq_true rfl⟩) hK hw c0 rfl rfl hl.1 rfl (Nat.le_of_ble_eq_true rfl) dDi_divide_43 ⟨Nat.le_of_ble_eq_true rfl, Nat.le_of_ble_eq_true rfl⟩ (fun v w1 H locs hq hw => ?_)
    obtain ⟨rfl, ⟨gd, dN, dg64, dgB, dval⟩, dof⟩ := hq
    obtain ⟨c0, c1⟩ := id dN
    have h_ : w1 (d) = some (.inr (3, [.ref (d + 1), .ref (d + 3), .ref (d + 5)])) := (dof _ (by omega) (by omega)).trans h
    have a0_ : w1 (na) = some (.inr (5, [.ref (na + 1), .int (nI ka)])) := (dof _ (by omega) (by omega)).trans a0
    have b0_ : w1 (nb) = some (.inr (5, [.ref (nb + 1), .int (nI kb)])) := (dof _ (by omega) (by omega)).trans b0
    have q0_ : w1 (d + 1) = some (.inr (5, [.ref (d + 1 + 1), .int (nI kq)])) := (dof _ (by omega) (by omega)).trans q0
    have r0_ : w1 (d + 3) = some (.inr (5, [.ref (d + 3 + 1), .int (nI kr)])) := (dof _ (by omega) (by omega)).trans r0
    have h := h_
    have a0 := a0_
    have b0 := b0_
    have q0 := q0_
    have r0 := r0_
    have a1 := (dof _ (by omega) (by omega)).trans a1
    have q1 := (dof _ (by omega) (by omega)).trans q1
    have hvr := hvr.kept (w' := w1) (fun a h1 h2 => dof a (by omega) (by omega))
    refine W.eq (g2 := F0 m 46 ls []) rfl ?_
    rw [bv] at dval
    obtain ⟨nv1, ntop, nlt, nge⟩ := kn_norm2 (b := nB) rfl hkb dgB dval bn bv hsh
    refine lv_aload_n (pc := 46) hx hb dDi_divide_46 rfl (lv_at hl 1 rfl) ?_
    refine fw_get (pc := 47) (ci := 3) (v := .ref (d + 5)) (C := RDi) (T := TDi) (N := 3) hx hb hW in_Di hown hK.1 hw h rfl 2 (by decide) (hW _ lf_Di_21) (fun _ h => h) rfl dDi_divide_47 ?_
    refine lv_aload_n (pc := 50) hx hb dDi_divide_50 rfl (lv_at hl 3 rfl) ?_
    refine fw_get (pc := 51) (ci := 5) (v := .int (nI kb)) (C := RNa) (T := TNa) (N := 2) hx hb hW in_Na hown hK.1 hw b0 rfl 1 (by decide) (hW _ lf_Di_32) (fun _ h => h) rfl dDi_divide_51 ?_
    refine fw_cV (pc := 54) (As := [.int (nI kb)]) (rest := []) ⟨hx, hb, hml, hown, hW⟩ (c_Na_trim (k := kb) (by omega) dg64 c0 c1) (cwV 1 hW (kw_V lm_Di_48 im_Na_trim se_Na_trim ini_Na cd_Na_trim) rfl rfl rfl (by decide +kernel) ⟨Nat.le_of_ble_eq_true rfl, Nat.le_of_ble_eq_true rfl⟩) hK hw c0 rfl rfl hl.1 rfl (Nat.le_of_ble_eq_true rfl) dDi_divide_54 ⟨Nat.le_of_ble_eq_true rfl, Nat.le_of_ble_eq_true rfl⟩ (fun v w2 H locs hq hw => ?_)
    obtain ⟨rfl, j, hj, hz, hnz, f1, hto⟩ := hq
    obtain rfl : j = kb := Classical.byContradiction fun h9 => by have h8 := hz (kb - 1) (by omega) (by omega); omega
    have h_ : w2 (d) = some (.inr (3, [.ref (d + 1), .ref (d + 3), .ref (d + 5)])) := (hto _ (by omega)).trans h
    have a0_ : w2 (na) = some (.inr (5, [.ref (na + 1), .int (nI ka)])) := (hto _ (by omega)).trans a0
    have b0_ : w2 (nb) = some (.inr (5, [.ref (nb + 1), .int (nI j)])) := (hto _ (by omega)).trans b0
    have q0_ : w2 (d + 1) = some (.inr (5, [.ref (d + 1 + 1), .int (nI kq)])) := (hto _ (by omega)).trans q0
    have r0_ : w2 (d + 3) = some (.inr (5, [.ref (d + 3 + 1), .int (nI kr)])) := (hto _ (by omega)).trans r0
    have c1_ : w2 (d + 5 + 1) = some (.inl (cL, 50, .inr (.inl (fun i => lN (gd i))))) := (hto _ (by omega)).trans c1
    have h := h_
    have a0 := a0_
    have b0 := b0_
    have q0 := q0_
    have r0 := r0_
    have c1 := c1_
    have a1 := (hto _ (by omega)).trans a1
    have q1 := (hto _ (by omega)).trans q1
    have hvr := hvr.kept (w' := w2) (fun a h1 h2 => hto a (by omega))
    refine W.eq (g2 := F0 m 57 ls []) rfl ?_
    refine lv_aload_n (pc := 57) hx hb dDi_divide_57 rfl (lv_at hl 1 rfl) ?_
    refine fw_get (pc := 58) (ci := 3) (v := .ref (d + 3)) (C := RDi) (T := TDi) (N := 3) hx hb hW in_Di hown hK.1 hw h rfl 1 (by decide) (hW _ lf_Di_18) (fun _ h => h) rfl dDi_divide_58 ?_
    refine lv_aload_n (pc := 61) hx hb dDi_divide_61 rfl (lv_at hl 2 rfl) ?_
    refine lv_iload_n (pc := 62) hx hb dDi_divide_62 rfl (lv_at hl 0 rfl) ?_
    refine fw_cV (pc := 63) (As := [.ref na, .int (nI sh)]) (rest := []) ⟨hx, hb, hml, hown, hW⟩ (c_Na_becomeShiftedLeft (by omega) hvr ⟨a0, a1⟩ lka an.1 (by omega)) (cwV 2 hW (kw_V lm_Di_44 im_Na_becomeShiftedLeft se_Na_becomeShiftedLeft ini_Na cd_Na_becomeShiftedLeft) rfl rfl rfl (by decide +kernel) ⟨Nat.le_of_ble_eq_true rfl, Nat.le_of_ble_eq_true rfl⟩) hK hw r0 rfl rfl hl.1 rfl (Nat.le_of_ble_eq_true rfl) dDi_divide_63 ⟨Nat.le_of_ble_eq_true rfl, Nat.le_of_ble_eq_true rfl⟩ (fun v w3 H locs hq hw => ?_)
    obtain ⟨rfl, ⟨gr, rN, rg64, rgB, rval⟩, rof⟩ := hq
    obtain ⟨r0, r1⟩ := id rN
    have h_ : w3 (d) = some (.inr (3, [.ref (d + 1), .ref (d + 3), .ref (d + 5)])) := (rof _ (by omega) (by omega)).trans h
    have a0_ : w3 (na) = some (.inr (5, [.ref (na + 1), .int (nI ka)])) := (rof _ (by omega) (by omega)).trans a0
    have b0_ : w3 (nb) = some (.inr (5, [.ref (nb + 1), .int (nI j)])) := (rof _ (by omega) (by omega)).trans b0
    have q0_ : w3 (d + 1) = some (.inr (5, [.ref (d + 1 + 1), .int (nI kq)])) := (rof _ (by omega) (by omega)).trans q0
    have f1_ : w3 (d + 5) = some (.inr (5, [.ref (d + 5 + 1), .int (nI j)])) := (rof _ (by omega) (by omega)).trans f1
    have c1_ : w3 (d + 5 + 1) = some (.inl (cL, 50, .inr (.inl (fun i => lN (gd i))))) := (rof _ (by omega) (by omega)).trans c1
    have h := h_
    have a0 := a0_
    have b0 := b0_
    have q0 := q0_
    have f1 := f1_
    have c1 := c1_
    have q1 := (rof _ (by omega) (by omega)).trans q1
    refine W.eq (g2 := F0 m 66 ls []) rfl ?_
    rw [av] at rval
    refine lv_aload_n (pc := 66) hx hb dDi_divide_66 rfl (lv_at hl 2 rfl) ?_
    refine fw_get (pc := 67) (ci := 5) (v := .int (nI ka)) (C := RNa) (T := TNa) (N := 2) hx hb hW in_Na hown hK.1 hw a0 rfl 1 (by decide) (hW _ lf_Di_32) (fun _ h => h) rfl dDi_divide_67 ?_
    refine lv_aload_n (pc := 70) hx hb dDi_divide_70 rfl (lv_at hl 3 rfl) ?_
    refine fw_get (pc := 71) (ci := 5) (v := .int (nI j)) (C := RNa) (T := TNa) (N := 2) hx hb hW in_Na hown hK.1 hw b0 rfl 1 (by decide) (hW _ lf_Di_32) (fun _ h => h) rfl dDi_divide_71 ?_
    refine lv_isub (pc := 74) hx hb dDi_divide_74 ?_
    rw [show ((nI ka - nI j) : Int32) = nI (ka - j + 1) - nI 1 from (by rw [nI_subL hba, show nI (ka - j + 1) - nI 1 = nI (ka - j) from nI_pred _])]
    refine lv_istore (pc := 75) (lv' := [(4, .int (nI (ka - j + 1) - nI 1)), (3, .int (nI sh)), (0, .ref d), (1, .ref na), (2, .ref nb)]) hx hb dDi_divide_75 hl (by decide) rfl (fun ls hl => ?_)
    have hfr : ∀ q, q < d + 1 ∨ d + 7 ≤ q → w3 q = w q := fun q h9 => by rw [rof q (by omega) (by omega), hto q (by omega), dof q (by omega) (by omega)]
    obtain ⟨V, hV⟩ : ∃ V, V = nv nB gd j := ⟨_, rfl⟩
    rw [← hV] at nv1
    have hV0 : 0 < V := by rw [nv1]; exact Nat.mul_pos hy hp0
    have hVP : V < nB ^ j := by rw [nv1]; exact nlt
    have h9 := h
    have a09 := a0
    have b09 := b0
    have q09 := q0
    have r09 := r0
    have f19 := f1
    have c19 := c1
    have loop : ∀ (i : Nat), i ≤ ka - j + 1 → ∀ (w1 : fw_W) (H : Heap) (locs : List Loc) (ls : Array Slot) (g1 g2 : Nat → Nat), fw_H D kCl (fw_A w (sz)) s.heap w1 (sz) H locs → lv_has ls 7 [(4, .int (nI i - nI 1)), (3, .int (nI sh)), (0, .ref d), (1, .ref na), (2, .ref nb)] → w1 (d + 1 + 1) = some (.inl (cL, 50, .inr (.inl (fun i => lN (g1 i))))) → w1 (d + 3 + 1) = some (.inl (cL, 50, .inr (.inl (fun i => lN (g2 i))))) → (∀ q, q ≠ d + 1 + 1 → q ≠ d + 3 + 1 → w1 q = w3 q) → (∀ k, k < 50 → g1 k < 2 ^ 64) → (∀ k, i ≤ k → k < ka - j + 1 → g1 k < nB) → (∀ k, k < 50 → g2 k < 2 ^ 64) → (∀ k, k < ka + 1 → g2 k < nB) → nw nB g1 i (ka - j + 1 - i) * nB ^ i * V + nv nB g2 (i + j) = x * 2 ^ sh → nv nB g2 (i + j) < V * nB ^ i → W p l e ({ frames := 3, cells := 0, slots := 0, locals := 81 } : Room) s m args below meth c H locs 0 0 (MQ below (fw_Q D kCl w (sz) 0 (fun v w' => v = none ∧ isV cL w' (d + 1) (x / y) ∧ isV cL w' (d + 3) (x % y) ∧ (∃ e4, isV cL w' (d + 5) e4) ∧ ∀ q, q < d + 1 ∨ d + 7 ≤ q → w' q = w q)) args s 0 0 (fw_A w (sz))) (F0 m 77 ls []) := by
      intro i
      induction i with
      | zero =>
        intro hil w1 H locs ls g1 g2 hw hl u1 u2 ho hg1 hb1 hg2 hb2 hX hXl
        have h : w1 (d) = some (.inr (3, [.ref (d + 1), .ref (d + 3), .ref (d + 5)])) := (ho _ (by omega) (by omega)).trans h9
        have a0 : w1 (na) = some (.inr (5, [.ref (na + 1), .int (nI ka)])) := (ho _ (by omega) (by omega)).trans a09
        have b0 : w1 (nb) = some (.inr (5, [.ref (nb + 1), .int (nI j)])) := (ho _ (by omega) (by omega)).trans b09
        have q0 : w1 (d + 1) = some (.inr (5, [.ref (d + 1 + 1), .int (nI kq)])) := (ho _ (by omega) (by omega)).trans q09
        have r0 : w1 (d + 3) = some (.inr (5, [.ref (d + 3 + 1), .int (nI (ka + 1))])) := (ho _ (by omega) (by omega)).trans r09
        have f1 : w1 (d + 5) = some (.inr (5, [.ref (d + 5 + 1), .int (nI j)])) := (ho _ (by omega) (by omega)).trans f19
        have c1 : w1 (d + 5 + 1) = some (.inl (cL, 50, .inr (.inl (fun i => lN (gd i))))) := (ho _ (by omega) (by omega)).trans c19
        refine lv_iload (pc := 77) hx hb dDi_divide_77 (lv_at hl 0 rfl) ?_
        refine lv_if_lt (pc := 79) (tgt := 131) hx hb dDi_divide_79 (by decide) (fun _ => ?_) (fun hc => absurd (show nI 0 - nI 1 < 0 by decide) hc)
        refine lv_aload_n (pc := 131) hx hb dDi_divide_131 rfl (lv_at hl 2 rfl) ?_
        refine fw_get (pc := 132) (ci := 3) (v := .ref (d + 1)) (C := RDi) (T := TDi) (N := 3) hx hb hW in_Di hown hK.1 hw h rfl 0 (by decide) (hW _ lf_Di_12) (fun _ h => h) rfl dDi_divide_132 ?_
        refine lv_aload_n (pc := 135) hx hb dDi_divide_135 rfl (lv_at hl 3 rfl) ?_
        refine fw_get (pc := 136) (ci := 5) (v := .int (nI ka)) (C := RNa) (T := TNa) (N := 2) hx hb hW in_Na hown hK.1 hw a0 rfl 1 (by decide) (hW _ lf_Di_32) (fun _ h => h) rfl dDi_divide_136 ?_
        refine lv_aload_n (pc := 139) hx hb dDi_divide_139 rfl (lv_at hl 4 rfl) ?_
        refine fw_get (pc := 140) (ci := 5) (v := .int (nI j)) (C := RNa) (T := TNa) (N := 2) hx hb hW in_Na hown hK.1 hw b0 rfl 1 (by decide) (hW _ lf_Di_32) (fun _ h => h) rfl dDi_divide_140 ?_
        refine lv_isub (pc := 143) hx hb dDi_divide_143 ?_
        refine lv_iconst (pc := 144) (v := (nI 1)) hx hb dDi_divide_144 (by decide) ?_
        refine lv_iadd (pc := 145) hx hb dDi_divide_145 ?_
        rw [show (((nI ka - nI j) + (nI 1)) : Int32) = nI (ka - j + 1) from (by rw [nI_subL hba]; exact nI_add _ 1)]
        refine fw_cV (pc := 146) (As := [.int (nI (ka - j + 1))]) (rest := []) ⟨hx, hb, hml, hown, hW⟩ (c_Na_trim (k := ka - j + 1) (by omega) hg1 q0 u1) (cwV 1 hW (kw_V lm_Di_48 im_Na_trim se_Na_trim ini_Na cd_Na_trim) rfl rfl rfl (by decide +kernel) ⟨Nat.le_of_ble_eq_true rfl, Nat.le_of_ble_eq_true rfl⟩) hK hw q0 rfl rfl hl.1 rfl (Nat.le_of_ble_eq_true rfl) dDi_divide_146 ⟨Nat.le_of_ble_eq_true rfl, Nat.le_of_ble_eq_true rfl⟩ (fun v w5 H locs hq hw => ?_)
        obtain ⟨rfl, jq, hjq, hzq, hnq, q0, toq⟩ := hq
        have h_ : w5 (d) = some (.inr (3, [.ref (d + 1), .ref (d + 3), .ref (d + 5)])) := (toq _ (by omega)).trans h
        have a0_ : w5 (na) = some (.inr (5, [.ref (na + 1), .int (nI ka)])) := (toq _ (by omega)).trans a0
        have b0_ : w5 (nb) = some (.inr (5, [.ref (nb + 1), .int (nI j)])) := (toq _ (by omega)).trans b0
        have r0_ : w5 (d + 3) = some (.inr (5, [.ref (d + 3 + 1), .int (nI (ka + 1))])) := (toq _ (by omega)).trans r0
        have f1_ : w5 (d + 5) = some (.inr (5, [.ref (d + 5 + 1), .int (nI j)])) := (toq _ (by omega)).trans f1
        have c1_ : w5 (d + 5 + 1) = some (.inl (cL, 50, .inr (.inl (fun i => lN (gd i))))) := (toq _ (by omega)).trans c1
        have u1_ : w5 (d + 1 + 1) = some (.inl (cL, 50, .inr (.inl (fun i => lN (g1 i))))) := (toq _ (by omega)).trans u1
        have u2_ : w5 (d + 3 + 1) = some (.inl (cL, 50, .inr (.inl (fun i => lN (g2 i))))) := (toq _ (by omega)).trans u2
        have h := h_
        have a0 := a0_
        have b0 := b0_
        have r0 := r0_
        have f1 := f1_
        have c1 := c1_
        have u1 := u1_
        have u2 := u2_
        refine W.eq (g2 := F0 m 149 ls []) rfl ?_
        refine lv_aload_n (pc := 149) hx hb dDi_divide_149 rfl (lv_at hl 2 rfl) ?_
        refine fw_get (pc := 150) (ci := 3) (v := .ref (d + 3)) (C := RDi) (T := TDi) (N := 3) hx hb hW in_Di hown hK.1 hw h rfl 1 (by decide) (hW _ lf_Di_18) (fun _ h => h) rfl dDi_divide_150 ?_
        refine lv_aload_n (pc := 153) hx hb dDi_divide_153 rfl (lv_at hl 4 rfl) ?_
        refine fw_get (pc := 154) (ci := 5) (v := .int (nI j)) (C := RNa) (T := TNa) (N := 2) hx hb hW in_Na hown hK.1 hw b0 rfl 1 (by decide) (hW _ lf_Di_32) (fun _ h => h) rfl dDi_divide_154 ?_
        refine fw_cV (pc := 157) (As := [.int (nI j)]) (rest := []) ⟨hx, hb, hml, hown, hW⟩ (c_Na_trim (k := j) (by omega) hg2 r0 u2) (cwV 1 hW (kw_V lm_Di_48 im_Na_trim se_Na_trim ini_Na cd_Na_trim) rfl rfl rfl (by decide +kernel) ⟨Nat.le_of_ble_eq_true rfl, Nat.le_of_ble_eq_true rfl⟩) hK hw r0 rfl rfl hl.1 rfl (Nat.le_of_ble_eq_true rfl) dDi_divide_157 ⟨Nat.le_of_ble_eq_true rfl, Nat.le_of_ble_eq_true rfl⟩ (fun v w6 H locs hq hw => ?_)
        obtain ⟨rfl, jr, hjr, hzr, hnr, r0, tor⟩ := hq
        have h_ : w6 (d) = some (.inr (3, [.ref (d + 1), .ref (d + 3), .ref (d + 5)])) := (tor _ (by omega)).trans h
        have a0_ : w6 (na) = some (.inr (5, [.ref (na + 1), .int (nI ka)])) := (tor _ (by omega)).trans a0
        have b0_ : w6 (nb) = some (.inr (5, [.ref (nb + 1), .int (nI j)])) := (tor _ (by omega)).trans b0
        have q0_ : w6 (d + 1) = some (.inr (5, [.ref (d + 1 + 1), .int (nI jq)])) := (tor _ (by omega)).trans q0
        have f1_ : w6 (d + 5) = some (.inr (5, [.ref (d + 5 + 1), .int (nI j)])) := (tor _ (by omega)).trans f1
        have c1_ : w6 (d + 5 + 1) = some (.inl (cL, 50, .inr (.inl (fun i => lN (gd i))))) := (tor _ (by omega)).trans c1
        have u1_ : w6 (d + 1 + 1) = some (.inl (cL, 50, .inr (.inl (fun i => lN (g1 i))))) := (tor _ (by omega)).trans u1
        have u2_ : w6 (d + 3 + 1) = some (.inl (cL, 50, .inr (.inl (fun i => lN (g2 i))))) := (tor _ (by omega)).trans u2
        have h := h_
        have a0 := a0_
        have b0 := b0_
        have q0 := q0_
        have f1 := f1_
        have c1 := c1_
        have u1 := u1_
        have u2 := u2_
        refine W.eq (g2 := F0 m 160 ls []) rfl ?_
        rw [Nat.pow_zero, Nat.mul_one, Nat.zero_add, Nat.sub_zero] at hX
        rw [Nat.pow_zero, Nat.mul_one, Nat.zero_add] at hXl
        rw [nv1] at hX hXl
        have hend := kx_end hp0 hy hX hXl
        have hVr : isV cL w6 (d + 3) (nv nB g2 j) := ⟨g2, jr, ⟨r0, u2⟩, by omega, hg2, ⟨fun q hq => hb2 q (by omega), hnr⟩, (nv_cut hjr hzr).symm⟩
        have hw0 : nw nB g1 0 (ka - j + 1) = nv nB g1 (ka - j + 1) := nv_eq (fun i _ => by rw [Nat.zero_add])
        have hVq : isV cL w6 (d + 1) (x / y) := ⟨g1, jq, ⟨q0, u1⟩, by omega, hg1, ⟨fun q hq => hb1 q (by omega) (by omega), hnq⟩, by rw [← hend.1, hw0]; exact (nv_cut hjq hzq).symm⟩
        refine lv_aload_n (pc := 160) hx hb dDi_divide_160 rfl (lv_at hl 2 rfl) ?_
        refine fw_get (pc := 161) (ci := 3) (v := .ref (d + 3)) (C := RDi) (T := TDi) (N := 3) hx hb hW in_Di hown hK.1 hw h rfl 1 (by decide) (hW _ lf_Di_18) (fun _ h => h) rfl dDi_divide_161 ?_
        refine lv_iload_n (pc := 164) hx hb dDi_divide_164 rfl (lv_at hl 1 rfl) ?_
        refine fw_cV (pc := 165) (As := [.int (nI sh)]) (rest := []) ⟨hx, hb, hml, hown, hW⟩ (c_Na_shiftRight (by omega) hVr) (cwV 1 hW (kw_V lm_Di_67 im_Na_shiftRight se_Na_shiftRight ini_Na cd_Na_shiftRight) rfl rfl rfl (by decide +kernel) ⟨Nat.le_of_ble_eq_true rfl, Nat.le_of_ble_eq_true rfl⟩) hK hw r0 rfl rfl hl.1 rfl (Nat.le_of_ble_eq_true rfl) dDi_divide_165 ⟨Nat.le_of_ble_eq_true rfl, Nat.le_of_ble_eq_true rfl⟩ (fun v w7 H locs hq hw => ?_)
        obtain ⟨rfl, hVs, sof⟩ := hq
        refine W.eq (g2 := F0 m 168 ls []) rfl ?_
        rw [hend.2] at hVs
        exact fw_vret (pc := 168) hx hb hr hlocks hw dDi_divide_168 ⟨rfl, hVq.kept (fun a h1 h2 => sof a (by omega) (by omega)), hVs, ⟨V, ⟨gd, j, ⟨(sof _ (by omega) (by omega)).trans f1, (sof _ (by omega) (by omega)).trans c1⟩, by omega, dg64, ⟨fun i hi => dgB i (by omega), fun _ => by omega⟩, hV.symm⟩⟩, fun q h9 => by rw [sof q (by omega) (by omega), tor q (by omega), toq q (by omega), ho q (by omega) (by omega), hfr q h9]⟩
      | succ i ih =>
        intro hil w1 H locs ls g1 g2 hw hl u1 u2 ho hg1 hb1 hg2 hb2 hX hXl
        have h : w1 (d) = some (.inr (3, [.ref (d + 1), .ref (d + 3), .ref (d + 5)])) := (ho _ (by omega) (by omega)).trans h9
        have a0 : w1 (na) = some (.inr (5, [.ref (na + 1), .int (nI ka)])) := (ho _ (by omega) (by omega)).trans a09
        have b0 : w1 (nb) = some (.inr (5, [.ref (nb + 1), .int (nI j)])) := (ho _ (by omega) (by omega)).trans b09
        have q0 : w1 (d + 1) = some (.inr (5, [.ref (d + 1 + 1), .int (nI kq)])) := (ho _ (by omega) (by omega)).trans q09
        have r0 : w1 (d + 3) = some (.inr (5, [.ref (d + 3 + 1), .int (nI (ka + 1))])) := (ho _ (by omega) (by omega)).trans r09
        have f1 : w1 (d + 5) = some (.inr (5, [.ref (d + 5 + 1), .int (nI j)])) := (ho _ (by omega) (by omega)).trans f19
        have c1 : w1 (d + 5 + 1) = some (.inl (cL, 50, .inr (.inl (fun i => lN (gd i))))) := (ho _ (by omega) (by omega)).trans c19
        rw [show nI (i + 1) - nI 1 = nI i from nI_pred i] at hl
        refine lv_iload (pc := 77) hx hb dDi_divide_77 (lv_at hl 0 rfl) ?_
        refine lv_if_lt (pc := 79) (tgt := 131) hx hb dDi_divide_79 (by decide) (fun hc => absurd hc (nI_pos (by omega))) (fun _ => ?_)
        refine lv_aload_n (pc := 82) hx hb dDi_divide_82 rfl (lv_at hl 2 rfl) ?_
        refine lv_iload (pc := 83) hx hb dDi_divide_83 (lv_at hl 0 rfl) ?_
        obtain ⟨uu, huu⟩ : ∃ uu, uu = nw nB g2 i (j + 1) := ⟨_, rfl⟩
        have hsp : nv nB g2 (i + 1 + j) = nv nB g2 i + uu * nB ^ i := by rw [huu, ← nw_split]; congr 1; omega
        rw [hsp] at hX hXl
        have huV := kj_u (by decide) hXl
        refine fw_cVR (pc := 85) (As := [.int (nI i)]) (rest := []) ⟨hx, hb, hml, hown, hW⟩ (c_Di_estimate h ⟨f1, c1⟩ ⟨r0, u2⟩ hkb (by omega) (by omega) (fun k hk => dgB k (by omega)) hb2 ntop (by rw [← hV, ← huu]; exact huV)) (cwV 1 hW (kw_V lm_Di_52 im_Di_estimate se_Di_estimate ini_Di cd_Di_estimate) rfl rfl rfl (by decide +kernel) ⟨Nat.le_of_ble_eq_true rfl, Nat.le_of_ble_eq_true rfl⟩) hK hw h rfl rfl hl.1 rfl (Nat.le_of_ble_eq_true rfl) dDi_divide_85 ⟨Nat.le_of_ble_eq_true rfl, Nat.le_of_ble_eq_true rfl⟩ (fun v hq => ?_)
        obtain ⟨ff, rfl, hfb, hf1, hf2⟩ := hq
        refine W.eq (g2 := F0 m 88 ls [.long (lN ff)]) rfl ?_
        rw [← hV, ← huu] at hf1 hf2
        refine lv_lstore (pc := 88) (lv' := [(5, .long (lN ff)), (4, .int (nI i)), (3, .int (nI sh)), (0, .ref d), (1, .ref na), (2, .ref nb)]) hx hb dDi_divide_88 hl (by decide) rfl (fun ls hl => ?_)
        refine lv_aload_n (pc := 90) hx hb dDi_divide_90 rfl (lv_at hl 3 rfl) ?_
        refine lv_lload (pc := 91) hx hb dDi_divide_91 (lv_at hl 0 rfl) ?_
        refine lv_iload (pc := 93) hx hb dDi_divide_93 (lv_at hl 1 rfl) ?_
        refine fw_cV (pc := 95) (As := [.long (lN ff), .int (nI i)]) (rest := []) ⟨hx, hb, hml, hown, hW⟩ (c_Di_subtract hfb h ⟨f1, c1⟩ ⟨r0, u2⟩ (by omega) (fun k hk => dgB k (by omega)) (fun k hk => hb2 _ (by omega)) hg2) (cwV 2 hW (kw_V lm_Di_56 im_Di_subtract se_Di_subtract ini_Di cd_Di_subtract) rfl rfl rfl (by decide +kernel) ⟨Nat.le_of_ble_eq_true rfl, Nat.le_of_ble_eq_true rfl⟩) hK hw h rfl rfl hl.1 rfl (Nat.le_of_ble_eq_true rfl) dDi_divide_95 ⟨Nat.le_of_ble_eq_true rfl, Nat.le_of_ble_eq_true rfl⟩ (fun v w5 H locs hq hw => ?_)
        obtain ⟨cc9, g9, rfl, hs9, rN9, hb9, hsm9, h649, ho9⟩ := hq
        obtain ⟨r0, u9⟩ := rN9
        have h_ : w5 (d) = some (.inr (3, [.ref (d + 1), .ref (d + 3), .ref (d + 5)])) := (ho9 _ (by omega)).trans h
        have a0_ : w5 (na) = some (.inr (5, [.ref (na + 1), .int (nI ka)])) := (ho9 _ (by omega)).trans a0
        have b0_ : w5 (nb) = some (.inr (5, [.ref (nb + 1), .int (nI j)])) := (ho9 _ (by omega)).trans b0
        have q0_ : w5 (d + 1) = some (.inr (5, [.ref (d + 1 + 1), .int (nI kq)])) := (ho9 _ (by omega)).trans q0
        have f1_ : w5 (d + 5) = some (.inr (5, [.ref (d + 5 + 1), .int (nI j)])) := (ho9 _ (by omega)).trans f1
        have c1_ : w5 (d + 5 + 1) = some (.inl (cL, 50, .inr (.inl (fun i => lN (gd i))))) := (ho9 _ (by omega)).trans c1
        have u1_ : w5 (d + 1 + 1) = some (.inl (cL, 50, .inr (.inl (fun i => lN (g1 i))))) := (ho9 _ (by omega)).trans u1
        have h := h_
        have a0 := a0_
        have b0 := b0_
        have q0 := q0_
        have f1 := f1_
        have c1 := c1_
        have u1 := u1_
        rw [← hV] at hs9
        have hue : uu = nw nB g2 i j + g2 (i + j) * nB ^ j := by rw [huu, nw_s]
        have hl9 : nw nB g9 i j < nB ^ j := nw_lt hb9
        by_cases hlt : g2 (i + j) < cc9
        · rw [if_pos hlt]
          refine W.eq (g2 := F0 m 98 ls [.int (nI 1)]) rfl ?_
          refine lv_if_eq (pc := 98) (tgt := 113) hx hb dDi_divide_98 (by decide) (fun hc => absurd hc (show ¬ nI 1 = 0 by decide)) (fun _ => ?_)
          have hf0 : 0 < ff := Nat.pos_of_ne_zero fun h7 => by
            rw [h7, Nat.zero_mul, Nat.add_zero] at hs9
            have h6 : 1 * nB ^ j ≤ cc9 * nB ^ j := Nat.mul_le_mul_right _ (by omega)
            omega
          refine lv_lload (pc := 101) hx hb dDi_divide_101 (lv_at hl 0 rfl) ?_
          refine lv_lconst (pc := 103) (v := lN 1) hx hb dDi_divide_103 (by decide) ?_
          refine lv_lsub (pc := 104) hx hb dDi_divide_104 ?_
          rw [show ((lN ff - (lN 1)) : Int64) = lN (ff - 1) from (lN_sub (by omega))]
          refine lv_lstore (pc := 105) (lv' := [(5, .long (lN (ff - 1))), (4, .int (nI i)), (3, .int (nI sh)), (0, .ref d), (1, .ref na), (2, .ref nb)]) hx hb dDi_divide_105 hl (by decide) rfl (fun ls hl => ?_)
          refine lv_aload_n (pc := 107) hx hb dDi_divide_107 rfl (lv_at hl 3 rfl) ?_
          refine lv_iload (pc := 108) hx hb dDi_divide_108 (lv_at hl 1 rfl) ?_
          refine fw_cV (pc := 110) (As := [.int (nI i)]) (rest := []) ⟨hx, hb, hml, hown, hW⟩ (c_Di_addBack h ⟨f1, c1⟩ ⟨r0, u9⟩ (by omega) (fun k hk => dgB k (by omega)) (fun k hk => by (rcases Nat.lt_or_ge k j with h7 | h7); exact hb9 k h7; rw [hsm9 _ (by omega)]; exact hb2 _ (by omega)) h649) (cwV 1 hW (kw_V lm_Di_60 im_Di_addBack se_Di_addBack ini_Di cd_Di_addBack) rfl rfl rfl (by decide +kernel) ⟨Nat.le_of_ble_eq_true rfl, Nat.le_of_ble_eq_true rfl⟩) hK hw h rfl rfl hl.1 rfl (Nat.le_of_ble_eq_true rfl) dDi_divide_110 ⟨Nat.le_of_ble_eq_true rfl, Nat.le_of_ble_eq_true rfl⟩ (fun v w6 H locs hq hw => ?_)
          obtain ⟨rfl, cc8, g8, hs8, rN8, hb8, hsm8, h648, ho8⟩ := hq
          obtain ⟨r0, u8⟩ := rN8
          rw [← hV] at hs8
          have h_ : w6 (d) = some (.inr (3, [.ref (d + 1), .ref (d + 3), .ref (d + 5)])) := (ho8 _ (by omega)).trans h
          have a0_ : w6 (na) = some (.inr (5, [.ref (na + 1), .int (nI ka)])) := (ho8 _ (by omega)).trans a0
          have b0_ : w6 (nb) = some (.inr (5, [.ref (nb + 1), .int (nI j)])) := (ho8 _ (by omega)).trans b0
          have q0_ : w6 (d + 1) = some (.inr (5, [.ref (d + 1 + 1), .int (nI kq)])) := (ho8 _ (by omega)).trans q0
          have f1_ : w6 (d + 5) = some (.inr (5, [.ref (d + 5 + 1), .int (nI j)])) := (ho8 _ (by omega)).trans f1
          have c1_ : w6 (d + 5 + 1) = some (.inl (cL, 50, .inr (.inl (fun i => lN (gd i))))) := (ho8 _ (by omega)).trans c1
          have u1_ : w6 (d + 1 + 1) = some (.inl (cL, 50, .inr (.inl (fun i => lN (g1 i))))) := (ho8 _ (by omega)).trans u1
          have h := h_
          have a0 := a0_
          have b0 := b0_
          have q0 := q0_
          have f1 := f1_
          have c1 := c1_
          have u1 := u1_
          refine W.eq (g2 := F0 m 113 ls []) rfl ?_
          have hgt9 := kf_gt hV0 hVP hue hs9 hl9 hf2 hlt (nw_lt hb8) hs8
          have hbb9 : ∀ k, k < ka + 1 → g9 k < nB := (fun k hk => by (by_cases h7 : k < i ∨ i + j ≤ k); rw [hsm9 k h7]; exact hb2 k hk; have h6 := hb9 (k - i) (by omega); rw [show i + (k - i) = k by omega] at h6; exact h6)
          have hsm89 : ∀ k, k < i ∨ i + j ≤ k → g8 k = g2 k := fun k hk => (hsm8 k hk).trans (hsm9 k hk)
          refine lv_aload_n (pc := 113) hx hb dDi_divide_113 rfl (lv_at hl 3 rfl) ?_
          refine fw_get (pc := 114) (ci := 3) (v := .ref (d + 1)) (C := RDi) (T := TDi) (N := 3) hx hb hW in_Di hown hK.1 hw h rfl 0 (by decide) (hW _ lf_Di_12) (fun _ h => h) rfl dDi_divide_114 ?_
          refine fw_get (pc := 117) (ci := 5) (v := .ref (d + 1 + 1)) (C := RNa) (T := TNa) (N := 2) hx hb hW in_Na hown hK.1 hw q0 rfl 0 (by decide) (hW _ lf_Di_63) (fun _ h => h) rfl dDi_divide_117 ?_
          refine lv_iload (pc := 120) hx hb dDi_divide_120 (lv_at hl 1 rfl) ?_
          refine lv_lload (pc := 122) hx hb dDi_divide_122 (lv_at hl 0 rfl) ?_
          refine fw_lastN (pc := 124) (f2 := fun k => lN (va_up g1 i (ff - 1) k)) hx hb hK.1 hw 1 u1 rfl (i) (show i < 50 by omega) (by decide) (lN_up _ _ _) dDi_divide_124 (fun H locs hw => ?_)
          obtain ⟨w7, e7⟩ : ∃ w_, w_ = fw_up w6 (d + 1 + 1) (.inl (cL, 50, .inr (.inl (fun k => lN (va_up g1 i (ff - 1) k))))) := ⟨_, rfl⟩
          have hw : fw_H D kCl (fw_A w (sz)) s.heap w7 (sz) H locs := by rw [e7]; exact hw
          have h_ : w7 (d) = some (.inr (3, [.ref (d + 1), .ref (d + 3), .ref (d + 5)])) := by rw [e7, fw_un (fw_neK2 h u1)]; exact h
          have a0_ : w7 (na) = some (.inr (5, [.ref (na + 1), .int (nI ka)])) := by rw [e7, fw_un (fw_neK2 a0 u1)]; exact a0
          have b0_ : w7 (nb) = some (.inr (5, [.ref (nb + 1), .int (nI j)])) := by rw [e7, fw_un (fw_neK2 b0 u1)]; exact b0
          have q0_ : w7 (d + 1) = some (.inr (5, [.ref (d + 1 + 1), .int (nI kq)])) := by rw [e7, fw_un (fw_neK2 q0 u1)]; exact q0
          have r0_ : w7 (d + 3) = some (.inr (5, [.ref (d + 3 + 1), .int (nI (ka + 1))])) := by rw [e7, fw_un (fw_neK2 r0 u1)]; exact r0
          have f1_ : w7 (d + 5) = some (.inr (5, [.ref (d + 5 + 1), .int (nI j)])) := by rw [e7, fw_un (fw_neK2 f1 u1)]; exact f1
          have c1_ : w7 (d + 5 + 1) = some (.inl (cL, 50, .inr (.inl (fun i => lN (gd i))))) := by rw [e7, fw_un (by omega)]; exact c1
          have u8_ : w7 (d + 3 + 1) = some (.inl (cL, 50, .inr (.inl (fun i => lN (g8 i))))) := by rw [e7, fw_un (by omega)]; exact u8
          have u1_ : w7 (d + 1 + 1) = some (.inl (cL, 50, .inr (.inl (fun k => lN (va_up g1 i (ff - 1) k))))) := by rw [e7]; exact fw_us _ _ _
          have h := h_
          have a0 := a0_
          have b0 := b0_
          have q0 := q0_
          have r0 := r0_
          have f1 := f1_
          have c1 := c1_
          have u1 := u1_
          have u8 := u8_
          refine lv_iinc (pc := 125) (lv' := [(4, .int (nI i - nI 1)), (5, .long (lN (ff - 1))), (3, .int (nI sh)), (0, .ref d), (1, .ref na), (2, .ref nb)]) hx hb dDi_divide_125 hl (k := 1) rfl ((by rw [Int32.sub_eq_add_neg]; rfl)) (by decide) rfl (fun ls hl => ?_)
          refine lv_goto (pc := 128) (tgt := 77) hx hb dDi_divide_128 (by decide) ?_
          have hq9 : ff - 1 = uu / V ∧ nw nB g8 i j = uu % V := ⟨by omega, hgt9.2⟩
          have hnv : nv nB g8 (i + j) = nv nB g2 i + uu % V * nB ^ i := by rw [nw_split, hq9.2, nv_eq (fun k hk => hsm89 k (by omega))]
          have hnq : nw nB (va_up g1 i (ff - 1)) i (ka - j + 1 - i) = uu / V + nw nB g1 (i + 1) (ka - j + 1 - (i + 1)) * nB := by
            rw [show ka - j + 1 - i = ka - j + 1 - (i + 1) + 1 by omega, nw_h, nw_eq (h := g1) (fun k hk => if_neg (by omega)), show va_up g1 i (ff - 1) i = ff - 1 from if_pos rfl, hq9.1]
          have hks := kj_step (b := nB) hV0 (nv_lt (fun k hk => hb2 k (by omega))) hX
          exact ih (by omega) _ H locs ls (va_up g1 i (ff - 1)) g8 hw (lv_sub hl [0, 2, 3, 4, 5] rfl) u1 u8 (fun q h7 h8 => by rw [e7, fw_un h7, ho8 q h8, ho9 q h8, ho q h7 h8]) (fun k hk => by (unfold va_up; split; exact Nat.lt_of_lt_of_le (show ff - 1 < nB by omega) (by decide); exact hg1 k hk)) (fun k h7 h8 => by (unfold va_up; split; exact (show ff - 1 < nB by omega); exact hb1 k (by omega) h8)) h648 (fun k hk => by (by_cases h7 : k < i ∨ i + j ≤ k); rw [hsm8 k h7]; exact hbb9 k hk; have h6 := hb8 (k - i) (by omega); rw [show i + (k - i) = k by omega] at h6; exact h6) (by rw [hnq, hnv]; exact hks.1) (by rw [hnv]; exact hks.2)
        · rw [if_neg hlt]
          refine W.eq (g2 := F0 m 98 ls [.int (nI 0)]) rfl ?_
          refine lv_if_eq (pc := 98) (tgt := 113) hx hb dDi_divide_98 (by decide) (fun _ => ?_) (fun hc => absurd (show nI 0 = 0 by decide) hc)
          have hle9 := kf_le hV0 hVP hue hs9 hf1 (by omega)
          refine lv_aload_n (pc := 113) hx hb dDi_divide_113 rfl (lv_at hl 3 rfl) ?_
          refine fw_get (pc := 114) (ci := 3) (v := .ref (d + 1)) (C := RDi) (T := TDi) (N := 3) hx hb hW in_Di hown hK.1 hw h rfl 0 (by decide) (hW _ lf_Di_12) (fun _ h => h) rfl dDi_divide_114 ?_
          refine fw_get (pc := 117) (ci := 5) (v := .ref (d + 1 + 1)) (C := RNa) (T := TNa) (N := 2) hx hb hW in_Na hown hK.1 hw q0 rfl 0 (by decide) (hW _ lf_Di_63) (fun _ h => h) rfl dDi_divide_117 ?_
          refine lv_iload (pc := 120) hx hb dDi_divide_120 (lv_at hl 1 rfl) ?_
          refine lv_lload (pc := 122) hx hb dDi_divide_122 (lv_at hl 0 rfl) ?_
          refine fw_lastN (pc := 124) (f2 := fun k => lN (va_up g1 i (ff) k)) hx hb hK.1 hw 1 u1 rfl (i) (show i < 50 by omega) (by decide) (lN_up _ _ _) dDi_divide_124 (fun H locs hw => ?_)
          obtain ⟨w6, e6⟩ : ∃ w_, w_ = fw_up w5 (d + 1 + 1) (.inl (cL, 50, .inr (.inl (fun k => lN (va_up g1 i (ff) k))))) := ⟨_, rfl⟩
          have hw : fw_H D kCl (fw_A w (sz)) s.heap w6 (sz) H locs := by rw [e6]; exact hw
          have h_ : w6 (d) = some (.inr (3, [.ref (d + 1), .ref (d + 3), .ref (d + 5)])) := by rw [e6, fw_un (fw_neK2 h u1)]; exact h
          have a0_ : w6 (na) = some (.inr (5, [.ref (na + 1), .int (nI ka)])) := by rw [e6, fw_un (fw_neK2 a0 u1)]; exact a0
          have b0_ : w6 (nb) = some (.inr (5, [.ref (nb + 1), .int (nI j)])) := by rw [e6, fw_un (fw_neK2 b0 u1)]; exact b0
          have q0_ : w6 (d + 1) = some (.inr (5, [.ref (d + 1 + 1), .int (nI kq)])) := by rw [e6, fw_un (fw_neK2 q0 u1)]; exact q0
          have r0_ : w6 (d + 3) = some (.inr (5, [.ref (d + 3 + 1), .int (nI (ka + 1))])) := by rw [e6, fw_un (fw_neK2 r0 u1)]; exact r0
          have f1_ : w6 (d + 5) = some (.inr (5, [.ref (d + 5 + 1), .int (nI j)])) := by rw [e6, fw_un (fw_neK2 f1 u1)]; exact f1
          have c1_ : w6 (d + 5 + 1) = some (.inl (cL, 50, .inr (.inl (fun i => lN (gd i))))) := by rw [e6, fw_un (by omega)]; exact c1
          have u9_ : w6 (d + 3 + 1) = some (.inl (cL, 50, .inr (.inl (fun i => lN (g9 i))))) := by rw [e6, fw_un (by omega)]; exact u9
          have u1_ : w6 (d + 1 + 1) = some (.inl (cL, 50, .inr (.inl (fun k => lN (va_up g1 i (ff) k))))) := by rw [e6]; exact fw_us _ _ _
          have h := h_
          have a0 := a0_
          have b0 := b0_
          have q0 := q0_
          have r0 := r0_
          have f1 := f1_
          have c1 := c1_
          have u1 := u1_
          have u9 := u9_
          refine lv_iinc (pc := 125) (lv' := [(4, .int (nI i - nI 1)), (5, .long (lN ff)), (3, .int (nI sh)), (0, .ref d), (1, .ref na), (2, .ref nb)]) hx hb dDi_divide_125 hl (k := 1) rfl ((by rw [Int32.sub_eq_add_neg]; rfl)) (by decide) rfl (fun ls hl => ?_)
          refine lv_goto (pc := 128) (tgt := 77) hx hb dDi_divide_128 (by decide) ?_
          have hq9 : ff = uu / V ∧ nw nB g9 i j = uu % V := hle9
          have hnv : nv nB g9 (i + j) = nv nB g2 i + uu % V * nB ^ i := by rw [nw_split, hq9.2, nv_eq (fun k hk => hsm9 k (by omega))]
          have hnq : nw nB (va_up g1 i (ff)) i (ka - j + 1 - i) = uu / V + nw nB g1 (i + 1) (ka - j + 1 - (i + 1)) * nB := by
            rw [show ka - j + 1 - i = ka - j + 1 - (i + 1) + 1 by omega, nw_h, nw_eq (h := g1) (fun k hk => if_neg (by omega)), show va_up g1 i (ff) i = ff from if_pos rfl, hq9.1]
          have hks := kj_step (b := nB) hV0 (nv_lt (fun k hk => hb2 k (by omega))) hX
          exact ih (by omega) _ H locs ls (va_up g1 i (ff)) g9 hw (lv_sub hl [0, 2, 3, 4, 5] rfl) u1 u9 (fun q h7 h8 => by rw [e6, fw_un h7, ho9 q h8, ho q h7 h8]) (fun k hk => by (unfold va_up; split; exact Nat.lt_of_lt_of_le (show ff < nB by omega) (by decide); exact hg1 k hk)) (fun k h7 h8 => by (unfold va_up; split; exact (show ff < nB by omega); exact hb1 k (by omega) h8)) h649 (fun k hk => by (by_cases h7 : k < i ∨ i + j ≤ k); rw [hsm9 k h7]; exact hb2 k hk; have h6 := hb9 (k - i) (by omega); rw [show i + (k - i) = k by omega] at h6; exact h6) (by rw [hnq, hnv]; exact hks.1) (by rw [hnv]; exact hks.2)
    have rval2 : nv nB gr (ka - j + 1 + j) = x * 2 ^ sh := by rw [show ka - j + 1 + j = ka + 1 by omega]; exact rval
    exact loop (ka - j + 1) (Nat.le_refl _) _ H locs ls gq gr hw (lv_sub hl [0, 1, 2, 3, 4] rfl) q1 r1 (fun q _ _ => rfl) qg (fun k h7 h8 => absurd h8 (by omega)) rg64 rgB (by rw [Nat.sub_self, nw_0, Nat.zero_mul, Nat.zero_mul, Nat.zero_add]; exact rval2) (by rw [rval2]; have h7 := kn_start (b := nB) (kb := j - 1) rfl (by rw [← av]; exact nv_lt an.1 : x < nB ^ ka) hs31 (by omega) (by rw [nv1]; exact nge : _ ≤ V); rw [show ka - (j - 1) = ka - j + 1 by omega] at h7; exact h7)
  · have hlt : x < y := Nat.lt_of_not_le (fun h9 => hc ((ordI_ge0 _ _).mpr h9))
    refine lv_aload_n (pc := 15) hx hb dDi_divide_15 rfl (lv_at hl 0 rfl) ?_
    refine fw_get (pc := 16) (ci := 3) (v := .ref (d + 1)) (C := RDi) (T := TDi) (N := 3) hx hb hW in_Di hown hK.1 hw h rfl 0 (by decide) (hW _ lf_Di_12) (fun _ h => h) rfl dDi_divide_16 ?_
    refine lv_iconst (pc := 19) (v := (nI 0)) hx hb dDi_divide_19 (by decide) ?_
    refine fw_put (pc := 20) (ci := 5) (v := .int (nI 0)) (ty := .int) (C := RNa) (T := TNa) (N := 2) hx hb hW in_Na tyNa tyNa_ok nmNa hown hK.1 hw q0 rfl 1 (by decide) (hW _ lf_Di_32) (fun _ h => h) rfl (by decide +kernel) rfl rfl (Nat.le_of_ble_eq_true rfl) dDi_divide_20 (fun H locs hw => ?_)
    obtain ⟨w1, e1⟩ : ∃ w_, w_ = fw_up w (d + 1) (.inr (5, [.ref (d + 1 + 1), .int (nI 0)])) := ⟨_, rfl⟩
    have hw : fw_H D kCl (fw_A w (sz)) s.heap w1 (sz) H locs := by rw [e1]; exact hw
    have h_ : w1 (d) = some (.inr (3, [.ref (d + 1), .ref (d + 3), .ref (d + 5)])) := by rw [e1, fw_un (by omega)]; exact h
    have a0_ : w1 (na) = some (.inr (5, [.ref (na + 1), .int (nI ka)])) := by rw [e1, fw_un (by omega)]; exact a0
    have b0_ : w1 (nb) = some (.inr (5, [.ref (nb + 1), .int (nI kb)])) := by rw [e1, fw_un (by omega)]; exact b0
    have r0_ : w1 (d + 3) = some (.inr (5, [.ref (d + 3 + 1), .int (nI kr)])) := by rw [e1, fw_un (by omega)]; exact r0
    have q0_ : w1 (d + 1) = some (.inr (5, [.ref (d + 1 + 1), .int (nI 0)])) := by rw [e1]; exact fw_us _ _ _
    have h := h_
    have a0 := a0_
    have b0 := b0_
    have q0 := q0_
    have r0 := r0_
    refine lv_aload_n (pc := 23) hx hb dDi_divide_23 rfl (lv_at hl 0 rfl) ?_
    refine fw_get (pc := 24) (ci := 3) (v := .ref (d + 3)) (C := RDi) (T := TDi) (N := 3) hx hb hW in_Di hown hK.1 hw h rfl 1 (by decide) (hW _ lf_Di_18) (fun _ h => h) rfl dDi_divide_24 ?_
    refine lv_aload_n (pc := 27) hx hb dDi_divide_27 rfl (lv_at hl 1 rfl) ?_
    have hvr2 := hvr.kept (w' := w1) (fun a h1 h2 => by rw [e1, fw_un (by omega)])
    have hva2 := hva.kept (w' := w1) (fun a h1 h2 => by rw [e1, fw_un (by omega)])
    refine fw_cV (pc := 28) (As := [.ref na]) (rest := []) ⟨hx, hb, hml, hown, hW⟩ (c_Na_become (by omega) hvr2 hva2) (cwV 1 hW (kw_V lm_Di_36 im_Na_become se_Na_become ini_Na cd_Na_become) rfl rfl rfl (by decide +kernel) ⟨Nat.le_of_ble_eq_true rfl, Nat.le_of_ble_eq_true rfl⟩) hK hw r0 rfl rfl hl.1 rfl (Nat.le_of_ble_eq_true rfl) dDi_divide_28 ⟨Nat.le_of_ble_eq_true rfl, Nat.le_of_ble_eq_true rfl⟩ (fun v w2 H locs hq hw => ?_)
    obtain ⟨rfl, hV, co⟩ := hq
    refine W.eq (g2 := F0 m 31 ls []) rfl ?_
    exact fw_vret (pc := 31) hx hb hr hlocks hw dDi_divide_31 ⟨rfl, ⟨gq, 0, ⟨(co _ (by omega) (by omega)).trans q0, (co _ (by omega) (by omega)).trans (by rw [e1, fw_un (by omega)]; exact q1)⟩, by omega, qg, ⟨fun i hi => absurd hi (by omega), fun h9 => absurd h9 (by omega)⟩, by rw [nv_0, Nat.div_eq_of_lt hlt]⟩, by rw [Nat.mod_eq_of_lt hlt]; exact hV, ⟨_, (hvd.kept (w' := w1) (fun a h1 h2 => by rw [e1, fw_un (by omega)])).kept (fun a h1 h2 => co a (by omega) (by omega))⟩, fun q hq9 => by rw [co q (by omega) (by omega), e1, fw_un (by omega)]⟩
end DI3
