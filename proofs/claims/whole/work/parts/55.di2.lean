theorem ordI_gt0 (x y : Nat) : 0 < ordI x y ↔ y < x := by
  rcases Nat.lt_trichotomy x y with h | h | h
  · rw [ordI_lt h]; exact ⟨fun h2 => absurd h2 (by decide), fun h2 => by omega⟩
  · rw [ordI_eq h]; exact ⟨fun h2 => absurd h2 (by decide), fun h2 => by omega⟩
  · rw [ordI_gt h]; exact ⟨fun _ => h, fun _ => by decide⟩
theorem ordI_ge0 (x y : Nat) : 0 ≤ ordI x y ↔ y ≤ x := by
  rcases Nat.lt_trichotomy x y with h | h | h
  · rw [ordI_lt h]; exact ⟨fun h2 => absurd h2 (by decide), fun h2 => by omega⟩
  · rw [ordI_eq h]; exact ⟨fun _ => by omega, fun _ => by decide⟩
  · rw [ordI_gt h]; exact ⟨fun _ => by omega, fun _ => by decide⟩
/-! BigCalculator.Divider.estimate. Written by wip/gen/divider2.py. -/
section DI2
variable {l : Launch} {D : va_G} {cI cL cQ : ClassId} {z : kZ_T} {sz : Nat} {w : fw_W}
set_option maxHeartbeats 4000000 in
set_option maxRecDepth 100000 in
theorem c_Di_estimate {d kb kr ta : Nat} {gd gr : Nat → Nat} (h : w d = some (.inr (3, [.ref (d + 1), .ref (d + 3), .ref (d + 5)]))) (hD : isN cL w (d + 5) gd kb) (hR : isN cL w (d + 3) gr kr) (hkb : 0 < kb) (hat : ta + kb < kr) (hkr : kr ≤ 50) (hgd : ∀ i, i < kb → gd i < nB) (hgr : ∀ i, i < kr → gr i < nB) (htop : nB ≤ 2 * gd (kb - 1)) (hu : nw nB gr ta (kb + 1) < nv nB gd kb * nB) : fw_R l yDi_estimate (Cond.code yDi_estimate cDi_estimate 16 (some FieldType.long) :: kWs) ({ frames := 2, cells := 0, slots := 0, locals := 46 } : Room) D kCl (kty cI cL cQ) z [.ref d, .int (nI ta)] (sz) w (fun v => ∃ f, v = some (.long (lN f)) ∧ f < nB ∧ nw nB gr ta (kb + 1) / nv nB gd kb ≤ f ∧ f ≤ nw nB gr ta (kb + 1) / nv nB gd kb + 1) := by
  refine fw_ofR (cc := cDi_estimate) (maxL := 16) (ret := (some FieldType.long)) (by decide) rfl (Nat.le_of_ble_eq_true rfl) ?_
  intro p e s m args below meth c hx hb hr hts hown hlocks hml hK H ls hH hw hl
  have hW : ∀ w ∈ kWs, w.before args s = true := fun w h => hts w (List.mem_cons_of_mem _ h)
  have hown : s.vm.findClass RDi = some m.cls := hown
  have hl : lv_has ls 16 [(0, .ref d), (1, .int (nI ta))] := hl
  obtain ⟨a0, a1⟩ := id hD
  obtain ⟨o0, o1⟩ := id hR
  have l3 : nB = 4294967296 := rfl
  obtain ⟨r0, hr0⟩ : ∃ r0, r0 = (if ta + kb < 2 then 0 else gr (ta + kb - 2)) := ⟨_, rfl⟩
  have r0l : r0 < nB := by (rw [hr0]; split; decide; exact hgr _ (by omega))
  obtain ⟨hh, hhe⟩ : ∃ hh, hh = gd (kb - 1) := ⟨_, rfl⟩
  have hhl : hh < nB := by rw [hhe]; exact hgd _ (by omega)
  have cont : ∀ (v2 : Nat), v2 < nB → (kb < 2 → v2 = 0) → (2 ≤ kb → v2 = gd (kb - 2)) → ∀ (ls : Array Slot), lv_has ls 16 [(2, .long (lN hh)), (0, .ref d), (1, .int (nI ta))] → W p l e ({ frames := 2, cells := 0, slots := 0, locals := 46 } : Room) s m args below meth c H [] 0 0 (MQ below (fw_RQ (fun v => ∃ f, v = some (.long (lN f)) ∧ f < nB ∧ nw nB gr ta (kb + 1) / nv nB gd kb ≤ f ∧ f ≤ nw nB gr ta (kb + 1) / nv nB gd kb + 1)) args s 0 0 (fun _ => False)) (F0 m 33 ls [.long (lN v2)]) := by
    intro v2 v2l he1 he2 ls hl
    obtain ⟨V, U, k9, hk, hV0, hdiv, hV1, hV2, hW1, hW2, hWV⟩ := ke_data (b := nB) (by decide) hkb hgd (fun i hi => hgr _ (by omega)) r0l (fun h => by rw [hr0, if_neg (by omega)]) he1 he2 (by omega) hu
    rw [← hhe] at hV1 hV2 htop
    obtain ⟨r2, hr2⟩ : ∃ r2, r2 = gr (ta + kb) := ⟨_, rfl⟩
    obtain ⟨r1, hr1⟩ : ∃ r1, r1 = gr (ta + kb - 1) := ⟨_, rfl⟩
    rw [← hr2, ← hr1] at hW1 hW2
    have l2 : r2 < nB := by rw [hr2]; exact hgr _ (by omega)
    have l1 : r1 < nB := by rw [hr1]; exact hgr _ (by omega)
    have h2h : r2 ≤ hh := ke_r2 (by decide) hk v2l hV2 hW1 hWV
    obtain ⟨bo, hbo⟩ : ∃ bo, bo = r2 * nB + r1 := ⟨_, rfl⟩
    have hbo2 : bo = r2 * 4294967296 + r1 := hbo
    have hb64 : bo < 2 ^ 64 := by omega
    rw [← hdiv]
    have f98 : ∀ (f0 : Nat), f0 < nB → U / V ≤ f0 → f0 * hh ≤ bo → bo - f0 * hh < 8589934592 → ∀ (ls : Array Slot), lv_has ls 16 [(7, .long (lN bo)), (6, .int (nI (ta + kb))), (4, .long (lN v2)), (2, .long (lN hh)), (0, .ref d), (1, .int (nI ta))] → W p l e ({ frames := 2, cells := 0, slots := 0, locals := 46 } : Room) s m args below meth c H [] 0 0 (MQ below (fw_RQ (fun v => ∃ f, v = some (.long (lN f)) ∧ f < nB ∧ U / V ≤ f ∧ f ≤ U / V + 1)) args s 0 0 (fun _ => False)) (F0 m 98 ls [.long (lN f0)]) := by
      intro f0 hf0 hq0 hle hlt ls hl
      have loop : ∀ (e0 i f lf : Nat), i + e0 = 2 → f + i = f0 → lf + f * hh = bo → U / V ≤ f → lf < 8589934592 * (i + 1) → ∀ (ls : Array Slot), lv_has ls 16 [(13, .int (nI i)), (11, .long (lN lf)), (9, .long (lN f)), (7, .long (lN bo)), (6, .int (nI (ta + kb))), (4, .long (lN v2)), (2, .long (lN hh)), (0, .ref d), (1, .int (nI ta))] → W p l e ({ frames := 2, cells := 0, slots := 0, locals := 46 } : Room) s m args below meth c H [] 0 0 (MQ below (fw_RQ (fun v => ∃ f, v = some (.long (lN f)) ∧ f < nB ∧ U / V ≤ f ∧ f ≤ U / V + 1)) args s 0 0 (fun _ => False)) (F0 m 112 ls []) := by
        intro e0
        induction e0 with
        | zero =>
          intro i f lf hid hfi hlf hqf hll ls hl
          obtain rfl : i = 2 := by omega
          refine lv_iload (pc := 112) hx hb dDi_estimate_112 (lv_at hl 0 rfl) ?_
          refine lv_iconst (pc := 114) (v := (nI 2)) hx hb dDi_estimate_114 (by decide) ?_
          refine lv_icmp_ge (pc := 115) (tgt := 180) hx hb dDi_estimate_115 (by decide) (fun _ => ?_) (fun hc => absurd (nI_le (Nat.le_refl 2) (by decide)) hc)
          refine lv_lload (pc := 180) hx hb dDi_estimate_180 (lv_at hl 2 rfl) ?_
          exact fw_lretR (pc := 182) hx hb hr hlocks hH dDi_estimate_182 ⟨f, rfl, by omega, hqf, ke_exit3 (b := nB) (by decide) hk hV0 htop v2l hV1 hV2 hW1 (by omega) (by rw [← hbo, hfi]; exact hle)⟩
        | succ e0 ih =>
          intro i f lf hid hfi hlf hqf hll ls hl
          refine lv_iload (pc := 112) hx hb dDi_estimate_112 (lv_at hl 0 rfl) ?_
          refine lv_iconst (pc := 114) (v := (nI 2)) hx hb dDi_estimate_114 (by decide) ?_
          refine lv_icmp_ge (pc := 115) (tgt := 180) hx hb dDi_estimate_115 (by decide) (fun hc => absurd hc (nI_ge (show i < 2 by omega) (by decide))) (fun _ => ?_)
          refine lv_lload (pc := 118) hx hb dDi_estimate_118 (lv_at hl 1 rfl) ?_
          refine lv_ldc2 (pc := 120) (v := lN 4294967295) hx hb hown (hW _ kl_Di_73) dDi_estimate_120 ?_
          refine W.lcmp (pc := 123) hx hb dDi_estimate_123 ?_
          refine lv_if_gt (pc := 124) (tgt := 180) hx hb dDi_estimate_124 (by decide) (fun hc => ?_) (fun hc => ?_)
          · have h9 : 4294967295 < lf := (pk_lLT (by decide) (by omega)).mp ((lg_cmp_gt _ _).mp hc)
            refine lv_lload (pc := 180) hx hb dDi_estimate_180 (lv_at hl 2 rfl) ?_
            exact fw_lretR (pc := 182) hx hb hr hlocks hH dDi_estimate_182 ⟨f, rfl, by omega, hqf, ke_exit (b := nB) (by decide) hk hV0 htop hV2 hW1 (by omega) (by rw [hlf, hbo]) (ke_big (by decide) (by omega) v2l (by omega))⟩
          · have h9 : lf ≤ 4294967295 := Nat.le_of_not_lt (fun h => hc ((lg_cmp_gt _ _).mpr ((pk_lLT (by decide) (by omega)).mpr h)))
            refine lv_lload (pc := 127) hx hb dDi_estimate_127 (lv_at hl 1 rfl) ?_
            refine lv_bipush (pc := 129) (v := (nI 32)) hx hb dDi_estimate_129 (by decide) ?_
            refine lv_lshl (pc := 131) (v := lN (lf * 4294967296)) hx hb dDi_estimate_131 (wb_shl lf (k := 32) (by decide)) ?_
            refine lv_aload_n (pc := 132) hx hb dDi_estimate_132 rfl (lv_at hl 7 rfl) ?_
            refine fw_get (pc := 133) (ci := 3) (v := .ref (d + 3)) (C := RDi) (T := TDi) (N := 3) hx hb hW in_Di hown hK.1 hw h rfl 1 (by decide) (hW _ lf_Di_18) (fun _ h => h) rfl dDi_estimate_133 ?_
            refine lv_iload (pc := 136) hx hb dDi_estimate_136 (lv_at hl 4 rfl) ?_
            refine lv_iconst (pc := 138) (v := (nI 2)) hx hb dDi_estimate_138 (by decide) ?_
            refine lv_isub (pc := 139) hx hb dDi_estimate_139 ?_
            by_cases h2 : ta + kb < 2
            · rw [show ((nI (ta + kb) - (nI 2)) : Int32) = (-1) from (by rw [show ta + kb = 1 by omega]; decide)]
              refine fw_cVR (pc := 140) (As := [.int (-1)]) (rest := [.long (lN (lf * 4294967296))]) ⟨hx, hb, hml, hown, hW⟩ c_Na_limbAtM (cwV 1 hW (kw_V lm_Di_70 im_Na_limbAt se_Na_limbAt ini_Na cd_Na_limbAt) rfl rfl rfl (by decide +kernel) ⟨Nat.le_of_ble_eq_true rfl, Nat.le_of_ble_eq_true rfl⟩) hK hw o0 rfl rfl hl.1 rfl (Nat.le_of_ble_eq_true rfl) dDi_estimate_140 ⟨Nat.le_of_ble_eq_true rfl, Nat.le_of_ble_eq_true rfl⟩ (fun v hq => ?_)
              subst hq
              refine W.eq (g2 := F0 m 143 ls [.long (lN 0), .long (lN (lf * 4294967296))]) rfl ?_
              rw [show (lN 0 : Int64) = lN r0 from (by rw [hr0, if_pos h2])]
              refine lv_lor (pc := 143) hx hb dDi_estimate_143 ?_
              rw [show ((lN (lf * 4294967296) ||| lN r0) : Int64) = lN (lf * 4294967296 + r0) from (g_or (k := 32) (by decide) r0l (by omega))]
              refine lv_lstore (pc := 144) (lv' := [(14, .long (lN (lf * 4294967296 + r0))), (13, .int (nI i)), (11, .long (lN lf)), (9, .long (lN f)), (7, .long (lN bo)), (6, .int (nI (ta + kb))), (4, .long (lN v2)), (2, .long (lN hh)), (0, .ref d), (1, .int (nI ta))]) hx hb dDi_estimate_144 hl (by decide) rfl (fun ls hl => ?_)
              refine lv_lload (pc := 146) hx hb dDi_estimate_146 (lv_at hl 3 rfl) ?_
              refine lv_lload (pc := 148) hx hb dDi_estimate_148 (lv_at hl 6 rfl) ?_
              refine lv_lmul (pc := 150) hx hb dDi_estimate_150 ?_
              rw [show ((lN f * lN v2) : Int64) = lN (f * v2) from (lN_mul _ _)]
              refine lv_lload (pc := 151) hx hb dDi_estimate_151 (lv_at hl 0 rfl) ?_
              have hfv : f * v2 ≤ 4294967295 * 4294967295 := Nat.mul_le_mul (by omega) (by omega)
              refine fw_cSR (pc := 153) (As := [.long (lN (f * v2)), .long (lN (lf * 4294967296 + r0))]) (rest := []) ⟨hx, hb, hml, hown, hW⟩ (c_Jl_compareUnsigned (by omega) (by omega)) (va_cwS 2 hW (kw_S lm_Di_79 sta_Jl_compareUnsigned ini_Jl cd_Jl_compareUnsigned) rfl rfl rfl (by decide +kernel) ⟨Nat.le_of_ble_eq_true rfl, Nat.le_of_ble_eq_true rfl⟩) hK hw rfl hl.1 rfl (Nat.le_of_ble_eq_true rfl) dDi_estimate_153 ⟨Nat.le_of_ble_eq_true rfl, Nat.le_of_ble_eq_true rfl⟩ (fun v hq => ?_)
              subst hq
              refine W.eq (g2 := F0 m 156 ls [.int (ordI (f * v2) (lf * 4294967296 + r0))]) rfl ?_
              refine lv_if_gt (pc := 156) (tgt := 162) hx hb dDi_estimate_156 (by decide) (fun hd => ?_) (fun hd => ?_)
              · have hgt := (ordI_gt0 _ _).mp hd
                have hdc := ke_dec (b := nB) (by decide) hV0 hV1 hW2 (hlf.trans hbo) hgt
                refine lv_lload (pc := 162) hx hb dDi_estimate_162 (lv_at hl 3 rfl) ?_
                refine lv_lconst (pc := 164) (v := lN 1) hx hb dDi_estimate_164 (by decide) ?_
                refine lv_lsub (pc := 165) hx hb dDi_estimate_165 ?_
                rw [show ((lN f - (lN 1)) : Int64) = lN (f - 1) from (lN_sub (by omega))]
                refine lv_lstore (pc := 166) (lv' := [(9, .long (lN (f - 1))), (14, .long (lN (lf * 4294967296 + r0))), (13, .int (nI i)), (11, .long (lN lf)), (7, .long (lN bo)), (6, .int (nI (ta + kb))), (4, .long (lN v2)), (2, .long (lN hh)), (0, .ref d), (1, .int (nI ta))]) hx hb dDi_estimate_166 hl (by decide) rfl (fun ls hl => ?_)
                refine lv_lload (pc := 168) hx hb dDi_estimate_168 (lv_at hl 3 rfl) ?_
                refine lv_lload_n (pc := 170) hx hb dDi_estimate_170 rfl (lv_at hl 7 rfl) ?_
                refine lv_ladd (pc := 171) hx hb dDi_estimate_171 ?_
                rw [show ((lN lf + lN hh) : Int64) = lN (lf + hh) from (lN_add _ _)]
                refine lv_lstore (pc := 172) (lv' := [(11, .long (lN (lf + hh))), (9, .long (lN (f - 1))), (14, .long (lN (lf * 4294967296 + r0))), (13, .int (nI i)), (7, .long (lN bo)), (6, .int (nI (ta + kb))), (4, .long (lN v2)), (2, .long (lN hh)), (0, .ref d), (1, .int (nI ta))]) hx hb dDi_estimate_172 hl (by decide) rfl (fun ls hl => ?_)
                refine lv_iinc (pc := 174) (lv' := [(13, .int (nI (i + 1))), (11, .long (lN (lf + hh))), (9, .long (lN (f - 1))), (14, .long (lN (lf * 4294967296 + r0))), (7, .long (lN bo)), (6, .int (nI (ta + kb))), (4, .long (lN v2)), (2, .long (lN hh)), (0, .ref d), (1, .int (nI ta))]) hx hb dDi_estimate_174 hl (k := 3) rfl ((nI_add i 1)) (by decide) rfl (fun ls hl => ?_)
                refine lv_goto (pc := 177) (tgt := 112) hx hb dDi_estimate_177 (by decide) ?_
                exact ih (i + 1) (f - 1) (lf + hh) (by omega) (by omega) (by have := Nat.sub_mul f 1 hh; have h8 : 1 * hh ≤ f * hh := Nat.mul_le_mul_right _ hdc.2; omega) hdc.1 (by omega) ls (lv_sub hl [0, 1, 2, 4, 5, 6, 7, 8, 9] rfl)
              · have hle9 : f * v2 ≤ lf * nB + r0 := Nat.le_of_not_lt (fun h => hd ((ordI_gt0 _ _).mpr h))
                refine lv_goto (pc := 159) (tgt := 180) hx hb dDi_estimate_159 (by decide) ?_
                refine lv_lload (pc := 180) hx hb dDi_estimate_180 (lv_at hl 3 rfl) ?_
                exact fw_lretR (pc := 182) hx hb hr hlocks hH dDi_estimate_182 ⟨f, rfl, by omega, hqf, ke_exit (b := nB) (by decide) hk hV0 htop hV2 hW1 (by omega) (by rw [hlf, hbo]) hle9⟩
            · rw [show ((nI (ta + kb) - (nI 2)) : Int32) = nI (ta + kb - 2) from (nI_subL (by omega))]
              refine fw_cVR (pc := 140) (As := [.int (nI (ta + kb - 2))]) (rest := [.long (lN (lf * 4294967296))]) ⟨hx, hb, hml, hown, hW⟩ (c_Na_limbAt hkr (by omega) o0 o1) (cwV 1 hW (kw_V lm_Di_70 im_Na_limbAt se_Na_limbAt ini_Na cd_Na_limbAt) rfl rfl rfl (by decide +kernel) ⟨Nat.le_of_ble_eq_true rfl, Nat.le_of_ble_eq_true rfl⟩) hK hw o0 rfl rfl hl.1 rfl (Nat.le_of_ble_eq_true rfl) dDi_estimate_140 ⟨Nat.le_of_ble_eq_true rfl, Nat.le_of_ble_eq_true rfl⟩ (fun v hq => ?_)
              subst hq
              refine W.eq (g2 := F0 m 143 ls [.long (lN (nl gr kr (ta + kb - 2))), .long (lN (lf * 4294967296))]) rfl ?_
              rw [show (lN (nl gr kr (ta + kb - 2)) : Int64) = lN r0 from (by rw [nl_in (by omega), hr0, if_neg h2])]
              refine lv_lor (pc := 143) hx hb dDi_estimate_143 ?_
              rw [show ((lN (lf * 4294967296) ||| lN r0) : Int64) = lN (lf * 4294967296 + r0) from (g_or (k := 32) (by decide) r0l (by omega))]
              refine lv_lstore (pc := 144) (lv' := [(14, .long (lN (lf * 4294967296 + r0))), (13, .int (nI i)), (11, .long (lN lf)), (9, .long (lN f)), (7, .long (lN bo)), (6, .int (nI (ta + kb))), (4, .long (lN v2)), (2, .long (lN hh)), (0, .ref d), (1, .int (nI ta))]) hx hb dDi_estimate_144 hl (by decide) rfl (fun ls hl => ?_)
              refine lv_lload (pc := 146) hx hb dDi_estimate_146 (lv_at hl 3 rfl) ?_
              refine lv_lload (pc := 148) hx hb dDi_estimate_148 (lv_at hl 6 rfl) ?_
              refine lv_lmul (pc := 150) hx hb dDi_estimate_150 ?_
              rw [show ((lN f * lN v2) : Int64) = lN (f * v2) from (lN_mul _ _)]
              refine lv_lload (pc := 151) hx hb dDi_estimate_151 (lv_at hl 0 rfl) ?_
              have hfv : f * v2 ≤ 4294967295 * 4294967295 := Nat.mul_le_mul (by omega) (by omega)
              refine fw_cSR (pc := 153) (As := [.long (lN (f * v2)), .long (lN (lf * 4294967296 + r0))]) (rest := []) ⟨hx, hb, hml, hown, hW⟩ (c_Jl_compareUnsigned (by omega) (by omega)) (va_cwS 2 hW (kw_S lm_Di_79 sta_Jl_compareUnsigned ini_Jl cd_Jl_compareUnsigned) rfl rfl rfl (by decide +kernel) ⟨Nat.le_of_ble_eq_true rfl, Nat.le_of_ble_eq_true rfl⟩) hK hw rfl hl.1 rfl (Nat.le_of_ble_eq_true rfl) dDi_estimate_153 ⟨Nat.le_of_ble_eq_true rfl, Nat.le_of_ble_eq_true rfl⟩ (fun v hq => ?_)
              subst hq
              refine W.eq (g2 := F0 m 156 ls [.int (ordI (f * v2) (lf * 4294967296 + r0))]) rfl ?_
              refine lv_if_gt (pc := 156) (tgt := 162) hx hb dDi_estimate_156 (by decide) (fun hd => ?_) (fun hd => ?_)
              · have hgt := (ordI_gt0 _ _).mp hd
                have hdc := ke_dec (b := nB) (by decide) hV0 hV1 hW2 (hlf.trans hbo) hgt
                refine lv_lload (pc := 162) hx hb dDi_estimate_162 (lv_at hl 3 rfl) ?_
                refine lv_lconst (pc := 164) (v := lN 1) hx hb dDi_estimate_164 (by decide) ?_
                refine lv_lsub (pc := 165) hx hb dDi_estimate_165 ?_
                rw [show ((lN f - (lN 1)) : Int64) = lN (f - 1) from (lN_sub (by omega))]
                refine lv_lstore (pc := 166) (lv' := [(9, .long (lN (f - 1))), (14, .long (lN (lf * 4294967296 + r0))), (13, .int (nI i)), (11, .long (lN lf)), (7, .long (lN bo)), (6, .int (nI (ta + kb))), (4, .long (lN v2)), (2, .long (lN hh)), (0, .ref d), (1, .int (nI ta))]) hx hb dDi_estimate_166 hl (by decide) rfl (fun ls hl => ?_)
                refine lv_lload (pc := 168) hx hb dDi_estimate_168 (lv_at hl 3 rfl) ?_
                refine lv_lload_n (pc := 170) hx hb dDi_estimate_170 rfl (lv_at hl 7 rfl) ?_
                refine lv_ladd (pc := 171) hx hb dDi_estimate_171 ?_
                rw [show ((lN lf + lN hh) : Int64) = lN (lf + hh) from (lN_add _ _)]
                refine lv_lstore (pc := 172) (lv' := [(11, .long (lN (lf + hh))), (9, .long (lN (f - 1))), (14, .long (lN (lf * 4294967296 + r0))), (13, .int (nI i)), (7, .long (lN bo)), (6, .int (nI (ta + kb))), (4, .long (lN v2)), (2, .long (lN hh)), (0, .ref d), (1, .int (nI ta))]) hx hb dDi_estimate_172 hl (by decide) rfl (fun ls hl => ?_)
                refine lv_iinc (pc := 174) (lv' := [(13, .int (nI (i + 1))), (11, .long (lN (lf + hh))), (9, .long (lN (f - 1))), (14, .long (lN (lf * 4294967296 + r0))), (7, .long (lN bo)), (6, .int (nI (ta + kb))), (4, .long (lN v2)), (2, .long (lN hh)), (0, .ref d), (1, .int (nI ta))]) hx hb dDi_estimate_174 hl (k := 3) rfl ((nI_add i 1)) (by decide) rfl (fun ls hl => ?_)
                refine lv_goto (pc := 177) (tgt := 112) hx hb dDi_estimate_177 (by decide) ?_
                exact ih (i + 1) (f - 1) (lf + hh) (by omega) (by omega) (by have := Nat.sub_mul f 1 hh; have h8 : 1 * hh ≤ f * hh := Nat.mul_le_mul_right _ hdc.2; omega) hdc.1 (by omega) ls (lv_sub hl [0, 1, 2, 4, 5, 6, 7, 8, 9] rfl)
              · have hle9 : f * v2 ≤ lf * nB + r0 := Nat.le_of_not_lt (fun h => hd ((ordI_gt0 _ _).mpr h))
                refine lv_goto (pc := 159) (tgt := 180) hx hb dDi_estimate_159 (by decide) ?_
                refine lv_lload (pc := 180) hx hb dDi_estimate_180 (lv_at hl 3 rfl) ?_
                exact fw_lretR (pc := 182) hx hb hr hlocks hH dDi_estimate_182 ⟨f, rfl, by omega, hqf, ke_exit (b := nB) (by decide) hk hV0 htop hV2 hW1 (by omega) (by rw [hlf, hbo]) hle9⟩
      refine lv_lstore (pc := 98) (lv' := [(9, .long (lN f0)), (7, .long (lN bo)), (6, .int (nI (ta + kb))), (4, .long (lN v2)), (2, .long (lN hh)), (0, .ref d), (1, .int (nI ta))]) hx hb dDi_estimate_98 hl (by decide) rfl (fun ls hl => ?_)
      refine lv_lload (pc := 100) hx hb dDi_estimate_100 (lv_at hl 1 rfl) ?_
      refine lv_lload (pc := 102) hx hb dDi_estimate_102 (lv_at hl 0 rfl) ?_
      refine lv_lload_n (pc := 104) hx hb dDi_estimate_104 rfl (lv_at hl 4 rfl) ?_
      refine lv_lmul (pc := 105) hx hb dDi_estimate_105 ?_
      rw [show ((lN f0 * lN hh) : Int64) = lN (f0 * hh) from (lN_mul _ _)]
      refine lv_lsub (pc := 106) hx hb dDi_estimate_106 ?_
      rw [show ((lN bo - lN (f0 * hh)) : Int64) = lN (bo - f0 * hh) from (lN_sub hle)]
      refine lv_lstore (pc := 107) (lv' := [(11, .long (lN (bo - f0 * hh))), (9, .long (lN f0)), (7, .long (lN bo)), (6, .int (nI (ta + kb))), (4, .long (lN v2)), (2, .long (lN hh)), (0, .ref d), (1, .int (nI ta))]) hx hb dDi_estimate_107 hl (by decide) rfl (fun ls hl => ?_)
      refine lv_iconst (pc := 109) (v := (nI 0)) hx hb dDi_estimate_109 (by decide) ?_
      refine lv_istore (pc := 110) (lv' := [(13, .int (nI 0)), (11, .long (lN (bo - f0 * hh))), (9, .long (lN f0)), (7, .long (lN bo)), (6, .int (nI (ta + kb))), (4, .long (lN v2)), (2, .long (lN hh)), (0, .ref d), (1, .int (nI ta))]) hx hb dDi_estimate_110 hl (by decide) rfl (fun ls hl => ?_)
      exact loop 2 0 f0 (bo - f0 * hh) (by omega) (by omega) (by omega) hq0 (by omega) ls (lv_sub hl [0, 1, 2, 3, 4, 5, 6, 7, 8] rfl)
    refine lv_lstore (pc := 33) (lv' := [(4, .long (lN v2)), (2, .long (lN hh)), (0, .ref d), (1, .int (nI ta))]) hx hb dDi_estimate_33 hl (by decide) rfl (fun ls hl => ?_)
    refine lv_iload_n (pc := 35) hx hb dDi_estimate_35 rfl (lv_at hl 3 rfl) ?_
    refine lv_aload_n (pc := 36) hx hb dDi_estimate_36 rfl (lv_at hl 2 rfl) ?_
    refine fw_get (pc := 37) (ci := 3) (v := .ref (d + 5)) (C := RDi) (T := TDi) (N := 3) hx hb hW in_Di hown hK.1 hw h rfl 2 (by decide) (hW _ lf_Di_21) (fun _ h => h) rfl dDi_estimate_37 ?_
    refine fw_get (pc := 40) (ci := 5) (v := .int (nI kb)) (C := RNa) (T := TNa) (N := 2) hx hb hW in_Na hown hK.1 hw a0 rfl 1 (by decide) (hW _ lf_Di_32) (fun _ h => h) rfl dDi_estimate_40 ?_
    refine lv_iadd (pc := 43) hx hb dDi_estimate_43 ?_
    rw [show ((nI ta + nI kb) : Int32) = nI (ta + kb) from (nI_add ta kb)]
    refine lv_istore (pc := 44) (lv' := [(6, .int (nI (ta + kb))), (4, .long (lN v2)), (2, .long (lN hh)), (0, .ref d), (1, .int (nI ta))]) hx hb dDi_estimate_44 hl (by decide) rfl (fun ls hl => ?_)
    refine lv_aload_n (pc := 46) hx hb dDi_estimate_46 rfl (lv_at hl 3 rfl) ?_
    refine fw_get (pc := 47) (ci := 3) (v := .ref (d + 3)) (C := RDi) (T := TDi) (N := 3) hx hb hW in_Di hown hK.1 hw h rfl 1 (by decide) (hW _ lf_Di_18) (fun _ h => h) rfl dDi_estimate_47 ?_
    refine lv_iload (pc := 50) hx hb dDi_estimate_50 (lv_at hl 0 rfl) ?_
    refine fw_cVR (pc := 52) (As := [.int (nI (ta + kb))]) (rest := []) ⟨hx, hb, hml, hown, hW⟩ (c_Na_limbAt hkr (by omega) o0 o1) (cwV 1 hW (kw_V lm_Di_70 im_Na_limbAt se_Na_limbAt ini_Na cd_Na_limbAt) rfl rfl rfl (by decide +kernel) ⟨Nat.le_of_ble_eq_true rfl, Nat.le_of_ble_eq_true rfl⟩) hK hw o0 rfl rfl hl.1 rfl (Nat.le_of_ble_eq_true rfl) dDi_estimate_52 ⟨Nat.le_of_ble_eq_true rfl, Nat.le_of_ble_eq_true rfl⟩ (fun v hq => ?_)
    subst hq
    refine W.eq (g2 := F0 m 55 ls [.long (lN (nl gr kr (ta + kb)))]) rfl ?_
    rw [show (lN (nl gr kr (ta + kb)) : Int64) = lN r2 from (by rw [nl_in (by omega), hr2])]
    refine lv_bipush (pc := 55) (v := (nI 32)) hx hb dDi_estimate_55 (by decide) ?_
    refine lv_lshl (pc := 57) (v := lN (r2 * 4294967296)) hx hb dDi_estimate_57 (wb_shl r2 (k := 32) (by decide)) ?_
    refine lv_aload_n (pc := 58) hx hb dDi_estimate_58 rfl (lv_at hl 3 rfl) ?_
    refine fw_get (pc := 59) (ci := 3) (v := .ref (d + 3)) (C := RDi) (T := TDi) (N := 3) hx hb hW in_Di hown hK.1 hw h rfl 1 (by decide) (hW _ lf_Di_18) (fun _ h => h) rfl dDi_estimate_59 ?_
    refine lv_iload (pc := 62) hx hb dDi_estimate_62 (lv_at hl 0 rfl) ?_
    refine lv_iconst (pc := 64) (v := (nI 1)) hx hb dDi_estimate_64 (by decide) ?_
    refine lv_isub (pc := 65) hx hb dDi_estimate_65 ?_
    rw [show ((nI (ta + kb) - (nI 1)) : Int32) = nI (ta + kb - 1) from (nI_subL (by omega))]
    refine fw_cVR (pc := 66) (As := [.int (nI (ta + kb - 1))]) (rest := [.long (lN (r2 * 4294967296))]) ⟨hx, hb, hml, hown, hW⟩ (c_Na_limbAt hkr (by omega) o0 o1) (cwV 1 hW (kw_V lm_Di_70 im_Na_limbAt se_Na_limbAt ini_Na cd_Na_limbAt) rfl rfl rfl (by decide +kernel) ⟨Nat.le_of_ble_eq_true rfl, Nat.le_of_ble_eq_true rfl⟩) hK hw o0 rfl rfl hl.1 rfl (Nat.le_of_ble_eq_true rfl) dDi_estimate_66 ⟨Nat.le_of_ble_eq_true rfl, Nat.le_of_ble_eq_true rfl⟩ (fun v hq => ?_)
    subst hq
    refine W.eq (g2 := F0 m 69 ls [.long (lN (nl gr kr (ta + kb - 1))), .long (lN (r2 * 4294967296))]) rfl ?_
    rw [show (lN (nl gr kr (ta + kb - 1)) : Int64) = lN r1 from (by rw [nl_in (by omega), hr1])]
    refine lv_lor (pc := 69) hx hb dDi_estimate_69 ?_
    rw [show ((lN (r2 * 4294967296) ||| lN r1) : Int64) = lN bo from (by rw [hbo]; exact g_or (k := 32) (by decide) l1 (by omega))]
    refine lv_lstore (pc := 70) (lv' := [(7, .long (lN bo)), (6, .int (nI (ta + kb))), (4, .long (lN v2)), (2, .long (lN hh)), (0, .ref d), (1, .int (nI ta))]) hx hb dDi_estimate_70 hl (by decide) rfl (fun ls hl => ?_)
    refine lv_aload_n (pc := 72) hx hb dDi_estimate_72 rfl (lv_at hl 4 rfl) ?_
    refine fw_get (pc := 73) (ci := 3) (v := .ref (d + 3)) (C := RDi) (T := TDi) (N := 3) hx hb hW in_Di hown hK.1 hw h rfl 1 (by decide) (hW _ lf_Di_18) (fun _ h => h) rfl dDi_estimate_73 ?_
    refine lv_iload (pc := 76) hx hb dDi_estimate_76 (lv_at hl 1 rfl) ?_
    refine fw_cVR (pc := 78) (As := [.int (nI (ta + kb))]) (rest := []) ⟨hx, hb, hml, hown, hW⟩ (c_Na_limbAt hkr (by omega) o0 o1) (cwV 1 hW (kw_V lm_Di_70 im_Na_limbAt se_Na_limbAt ini_Na cd_Na_limbAt) rfl rfl rfl (by decide +kernel) ⟨Nat.le_of_ble_eq_true rfl, Nat.le_of_ble_eq_true rfl⟩) hK hw o0 rfl rfl hl.1 rfl (Nat.le_of_ble_eq_true rfl) dDi_estimate_78 ⟨Nat.le_of_ble_eq_true rfl, Nat.le_of_ble_eq_true rfl⟩ (fun v hq => ?_)
    subst hq
    refine W.eq (g2 := F0 m 81 ls [.long (lN (nl gr kr (ta + kb)))]) rfl ?_
    rw [show (lN (nl gr kr (ta + kb)) : Int64) = lN r2 from (by rw [nl_in (by omega), hr2])]
    refine lv_lload_n (pc := 81) hx hb dDi_estimate_81 rfl (lv_at hl 3 rfl) ?_
    refine W.lcmp (pc := 82) hx hb dDi_estimate_82 ?_
    refine lv_if_lt (pc := 83) (tgt := 92) hx hb dDi_estimate_83 (by decide) (fun hc => ?_) (fun hc => ?_)
    · have h9 : r2 < hh := (pk_lLT (by omega) (by omega)).mp ((lg_cmp_lt _ _).mp hc)
      refine lv_lload (pc := 92) hx hb dDi_estimate_92 (lv_at hl 0 rfl) ?_
      refine lv_lload_n (pc := 94) hx hb dDi_estimate_94 rfl (lv_at hl 3 rfl) ?_
      refine fw_cSR (pc := 95) (As := [.long (lN bo), .long (lN hh)]) (rest := []) ⟨hx, hb, hml, hown, hW⟩ (c_Di_quotientOf hb64 (by omega) (by omega)) (va_cwS 2 hW (kw_S lm_Di_75 sta_Di_quotientOf ini_Di cd_Di_quotientOf) rfl rfl rfl (by decide +kernel) ⟨Nat.le_of_ble_eq_true rfl, Nat.le_of_ble_eq_true rfl⟩) hK hw rfl hl.1 rfl (Nat.le_of_ble_eq_true rfl) dDi_estimate_95 ⟨Nat.le_of_ble_eq_true rfl, Nat.le_of_ble_eq_true rfl⟩ (fun v hq => ?_)
      subst hq
      refine W.eq (g2 := F0 m 98 ls [.long (lN (bo / hh))]) rfl ?_
      have h8 : bo < 4294967296 * hh := by omega
      exact f98 (bo / hh) ((Nat.div_lt_iff_lt_mul (by omega)).mpr h8) (by rw [hbo]; exact ke_q0 (b := nB) (by decide) hk (by omega) r0l hV1 hW2) (Nat.div_mul_le_self bo hh) (by have h7 := Nat.div_add_mod bo hh; have h6 := Nat.mod_lt bo (show 0 < hh by omega); rw [Nat.mul_comm] at h7; omega) ls (lv_sub hl [0, 1, 2, 3, 4, 5] rfl)
    · have h9 : r2 = hh := Nat.le_antisymm h2h (Nat.le_of_not_lt (fun h => hc ((lg_cmp_lt _ _).mpr ((pk_lLT (by omega) (by omega)).mpr h))))
      refine lv_ldc2 (pc := 86) (v := lN 4294967295) hx hb hown (hW _ kl_Di_73) dDi_estimate_86 ?_
      refine lv_goto (pc := 89) (tgt := 98) hx hb dDi_estimate_89 (by decide) ?_
      exact f98 4294967295 (by decide) (Nat.le_of_lt_succ ((Nat.div_lt_iff_lt_mul hV0).mpr (by rw [Nat.mul_comm]; exact hWV))) (by omega) (by omega) ls (lv_sub hl [0, 1, 2, 3, 4, 5] rfl)
  refine lv_aload_n (pc := 0) hx hb dDi_estimate_0 rfl (lv_at hl 0 rfl) ?_
  refine fw_get (pc := 1) (ci := 3) (v := .ref (d + 5)) (C := RDi) (T := TDi) (N := 3) hx hb hW in_Di hown hK.1 hw h rfl 2 (by decide) (hW _ lf_Di_21) (fun _ h => h) rfl dDi_estimate_1 ?_
  refine lv_aload_n (pc := 4) hx hb dDi_estimate_4 rfl (lv_at hl 0 rfl) ?_
  refine fw_get (pc := 5) (ci := 3) (v := .ref (d + 5)) (C := RDi) (T := TDi) (N := 3) hx hb hW in_Di hown hK.1 hw h rfl 2 (by decide) (hW _ lf_Di_21) (fun _ h => h) rfl dDi_estimate_5 ?_
  refine fw_get (pc := 8) (ci := 5) (v := .int (nI kb)) (C := RNa) (T := TNa) (N := 2) hx hb hW in_Na hown hK.1 hw a0 rfl 1 (by decide) (hW _ lf_Di_32) (fun _ h => h) rfl dDi_estimate_8 ?_
  refine lv_iconst (pc := 11) (v := (nI 1)) hx hb dDi_estimate_11 (by decide) ?_
  refine lv_isub (pc := 12) hx hb dDi_estimate_12 ?_
  rw [show ((nI kb - (nI 1)) : Int32) = nI (kb - 1) from (nI_subL (by omega))]
  have lkb : kb ≤ 50 := by omega
  refine fw_cVR (pc := 13) (As := [.int (nI (kb - 1))]) (rest := []) ⟨hx, hb, hml, hown, hW⟩ (c_Na_limbAt lkb (by omega) a0 a1) (cwV 1 hW (kw_V lm_Di_70 im_Na_limbAt se_Na_limbAt ini_Na cd_Na_limbAt) rfl rfl rfl (by decide +kernel) ⟨Nat.le_of_ble_eq_true rfl, Nat.le_of_ble_eq_true rfl⟩) hK hw a0 rfl rfl hl.1 rfl (Nat.le_of_ble_eq_true rfl) dDi_estimate_13 ⟨Nat.le_of_ble_eq_true rfl, Nat.le_of_ble_eq_true rfl⟩ (fun v hq => ?_)
  subst hq
  refine W.eq (g2 := F0 m 16 ls [.long (lN (nl gd kb (kb - 1)))]) rfl ?_
  rw [show (lN (nl gd kb (kb - 1)) : Int64) = lN hh from (by rw [nl_in (by omega), hhe])]
  refine lv_lstore_n (pc := 16) (lv' := [(2, .long (lN hh)), (0, .ref d), (1, .int (nI ta))]) hx hb dDi_estimate_16 rfl hl (by decide) rfl (fun ls hl => ?_)
  refine lv_aload_n (pc := 17) hx hb dDi_estimate_17 rfl (lv_at hl 1 rfl) ?_
  refine fw_get (pc := 18) (ci := 3) (v := .ref (d + 5)) (C := RDi) (T := TDi) (N := 3) hx hb hW in_Di hown hK.1 hw h rfl 2 (by decide) (hW _ lf_Di_21) (fun _ h => h) rfl dDi_estimate_18 ?_
  refine lv_aload_n (pc := 21) hx hb dDi_estimate_21 rfl (lv_at hl 1 rfl) ?_
  refine fw_get (pc := 22) (ci := 3) (v := .ref (d + 5)) (C := RDi) (T := TDi) (N := 3) hx hb hW in_Di hown hK.1 hw h rfl 2 (by decide) (hW _ lf_Di_21) (fun _ h => h) rfl dDi_estimate_22 ?_
  refine fw_get (pc := 25) (ci := 5) (v := .int (nI kb)) (C := RNa) (T := TNa) (N := 2) hx hb hW in_Na hown hK.1 hw a0 rfl 1 (by decide) (hW _ lf_Di_32) (fun _ h => h) rfl dDi_estimate_25 ?_
  refine lv_iconst (pc := 28) (v := (nI 2)) hx hb dDi_estimate_28 (by decide) ?_
  refine lv_isub (pc := 29) hx hb dDi_estimate_29 ?_
  by_cases h2 : kb < 2
  · rw [show ((nI kb - (nI 2)) : Int32) = (-1) from (by rw [show kb = 1 by omega]; decide)]
    refine fw_cVR (pc := 30) (As := [.int (-1)]) (rest := []) ⟨hx, hb, hml, hown, hW⟩ c_Na_limbAtM (cwV 1 hW (kw_V lm_Di_70 im_Na_limbAt se_Na_limbAt ini_Na cd_Na_limbAt) rfl rfl rfl (by decide +kernel) ⟨Nat.le_of_ble_eq_true rfl, Nat.le_of_ble_eq_true rfl⟩) hK hw a0 rfl rfl hl.1 rfl (Nat.le_of_ble_eq_true rfl) dDi_estimate_30 ⟨Nat.le_of_ble_eq_true rfl, Nat.le_of_ble_eq_true rfl⟩ (fun v hq => ?_)
    subst hq
    refine W.eq (g2 := F0 m 33 ls [.long (lN 0)]) rfl ?_
    exact cont 0 (by decide) (fun _ => rfl) (fun h => absurd h2 (by omega)) ls hl
  · rw [show ((nI kb - (nI 2)) : Int32) = nI (kb - 2) from (nI_subL (by omega))]
    refine fw_cVR (pc := 30) (As := [.int (nI (kb - 2))]) (rest := []) ⟨hx, hb, hml, hown, hW⟩ (c_Na_limbAt lkb (by omega) a0 a1) (cwV 1 hW (kw_V lm_Di_70 im_Na_limbAt se_Na_limbAt ini_Na cd_Na_limbAt) rfl rfl rfl (by decide +kernel) ⟨Nat.le_of_ble_eq_true rfl, Nat.le_of_ble_eq_true rfl⟩) hK hw a0 rfl rfl hl.1 rfl (Nat.le_of_ble_eq_true rfl) dDi_estimate_30 ⟨Nat.le_of_ble_eq_true rfl, Nat.le_of_ble_eq_true rfl⟩ (fun v hq => ?_)
    subst hq
    refine W.eq (g2 := F0 m 33 ls [.long (lN (nl gd kb (kb - 2)))]) rfl ?_
    rw [show (lN (nl gd kb (kb - 2)) : Int64) = lN (gd (kb - 2)) from (by rw [nl_in (by omega)])]
    exact cont (gd (kb - 2)) (hgd _ (by omega)) (fun h => absurd h h2) (fun _ => rfl) ls hl
end DI2
