/-! BigCalculator.Natural, sixth part. Written by wip/gen/natural6.py. -/
section NA6
variable {l : Launch} {D : va_G} {cI cL cQ : ClassId} {z : kZ_T} {sz : Nat} {w : fw_W}
set_option maxHeartbeats 4000000 in
set_option maxRecDepth 100000 in
theorem c_Na_bitAt {n k i : Nat} {g : Nat → Nat} (hk : k ≤ 50) (hi : i < 2 ^ 31) (h : w n = some (.inr (5, [.ref (n + 1), .int (nI k)]))) (h2 : w (n + 1) = some (.inl (cL, 50, .inr (.inl (fun i => lN (g i)))))) (hgl : ∀ j, j < k → g j < nB) : fw_R l yNa_bitAt (Cond.code yNa_bitAt cNa_bitAt 2 (some FieldType.boolean) :: kWs) ({ frames := 1, cells := 0, slots := 0, locals := 21 } : Room) D kCl (kty cI cL cQ) z [.ref n, .int (nI i)] (sz) w (fun v => v = some (.int (nI (nl g k (i / 32) / 2 ^ (i % 32) % 2)))) := by
  refine fw_ofR (cc := cNa_bitAt) (maxL := 2) (ret := (some FieldType.boolean)) (by decide) rfl (Nat.le_of_ble_eq_true rfl) ?_
  intro p e s m args below meth c hx hb hr hts hown hlocks hml hK H ls hH hw hl
  have hW : ∀ w ∈ kWs, w.before args s = true := fun w h => hts w (List.mem_cons_of_mem _ h)
  have hown : s.vm.findClass RNa = some m.cls := hown
  have hl : lv_has ls 2 [(0, .ref n), (1, .int (nI i))] := hl
  refine lv_aload_n (pc := 0) hx hb dNa_bitAt_0 rfl (lv_at hl 0 rfl) ?_
  refine lv_iload_n (pc := 1) hx hb dNa_bitAt_1 rfl (lv_at hl 1 rfl) ?_
  refine lv_bipush (pc := 2) (v := (nI 32)) hx hb dNa_bitAt_2 (by decide) ?_
  refine lv_idiv (pc := 4) hx hb dNa_bitAt_4 (by decide) ?_
  rw [show ((nI i / nI 32) : Int32) = nI (i / 32) from (pk_div hi (by decide) (by decide))]
  refine fw_cVR (pc := 5) (As := [.int (nI (i / 32))]) (rest := []) ⟨hx, hb, hml, hown, hW⟩ (c_Na_limbAt hk (by omega) h h2) (cwV 1 hW (kw_V lm_Na_29 im_Na_limbAt se_Na_limbAt ini_Na cd_Na_limbAt) rfl rfl rfl (by decide +kernel) ⟨Nat.le_of_ble_eq_true rfl, Nat.le_of_ble_eq_true rfl⟩) hK hw h rfl rfl hl.1 rfl (Nat.le_of_ble_eq_true rfl) dNa_bitAt_5 ⟨Nat.le_of_ble_eq_true rfl, Nat.le_of_ble_eq_true rfl⟩ (fun v hq => ?_)
  subst hq
  refine W.eq (g2 := F0 m 8 ls [.long (lN (nl g k (i / 32)))]) rfl ?_
  obtain ⟨X, hX⟩ : ∃ X, X = nl g k (i / 32) := ⟨_, rfl⟩
  have hXl : X < nB := by rw [hX]; exact nl_lt (by decide) hgl
  have l3 : nB = 4294967296 := rfl
  rw [show (lN (nl g k (i / 32)) : Int64) = lN X from (by rw [hX])]
  rw [← hX]
  refine lv_iload_n (pc := 8) hx hb dNa_bitAt_8 rfl (lv_at hl 1 rfl) ?_
  refine lv_bipush (pc := 9) (v := (nI 32)) hx hb dNa_bitAt_9 (by decide) ?_
  refine lv_irem (pc := 11) hx hb dNa_bitAt_11 (by decide) ?_
  rw [show ((nI i - nI i / nI 32 * nI 32) : Int32) = nI (i % 32) from (by rw [pk_div hi (by decide) (by decide), nI_mul, nI_subL (by omega)]; congr 1; omega)]
  refine lv_lushr (pc := 12) (v := lN (X / 2 ^ (i % 32))) hx hb dNa_bitAt_12 (wb_shr (k := i % 32) (by omega) (by omega)) ?_
  have hY : X / 2 ^ (i % 32) < 2 ^ 64 := Nat.lt_of_le_of_lt (Nat.div_le_self _ _) (by omega)
  refine lv_lconst (pc := 13) (v := lN 1) hx hb dNa_bitAt_13 (by decide) ?_
  refine lv_land (pc := 14) hx hb dNa_bitAt_14 ?_
  rw [show ((lN (X / 2 ^ (i % 32)) &&& (lN 1)) : Int64) = lN (X / 2 ^ (i % 32) % 2) from (wb_a1 hY)]
  refine lv_lconst (pc := 15) (v := lN 0) hx hb dNa_bitAt_15 (by decide) ?_
  refine W.lcmp (pc := 16) hx hb dNa_bitAt_16 ?_
  refine lv_if_eq (pc := 17) (tgt := 24) hx hb dNa_bitAt_17 (by decide) (fun hc => ?_) (fun hc => ?_)
  · have hz : X / 2 ^ (i % 32) % 2 = 0 := lN_inj (by omega) (by decide) ((lg_cmp_eq _ _).mp hc)
    refine lv_iconst (pc := 24) (v := (nI 0)) hx hb dNa_bitAt_24 (by decide) ?_
    exact fw_zretR (pc := 25) hx hb hr hlocks hH dNa_bitAt_25 (by rfl) (by rw [hz])
  · have hz : X / 2 ^ (i % 32) % 2 = 1 := Classical.byContradiction fun h9 => hc ((lg_cmp_eq _ _).mpr (by rw [show X / 2 ^ (i % 32) % 2 = 0 by omega]))
    refine lv_iconst (pc := 20) (v := (nI 1)) hx hb dNa_bitAt_20 (by decide) ?_
    refine lv_goto (pc := 21) (tgt := 25) hx hb dNa_bitAt_21 (by decide) ?_
    exact fw_zretR (pc := 25) hx hb hr hlocks hH dNa_bitAt_25 (by rfl) (by rw [hz])
end NA6
