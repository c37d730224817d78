/-! BigCalculator's own small methods, with their throws. Written by wip/gen/bc1.py. -/
section BC1
variable {l : Launch} {D : va_G} {cI cL cQ : ClassId} {tO tB tC : Nat} {sa : Nat → Nat} {sz : Nat} {w : fw_W}
set_option maxHeartbeats 4000000 in
set_option maxRecDepth 100000 in
theorem c_Bc_isToken {k v : Int32} : fw_R l yBc_isToken (Cond.code yBc_isToken cBc_isToken 2 (some FieldType.boolean) :: kWs) ({ frames := 0, cells := 0, slots := 0, locals := 0 } : Room) D kCl (kty cI cL cQ) (kz tO tB tC sa) [.int k, .int v] (sz) w (fun r => r = some (.int (nI (if tk k v then 1 else 0)))) := by
  refine fw_ofR (cc := cBc_isToken) (maxL := 2) (ret := (some FieldType.boolean)) (by decide) rfl (Nat.le_of_ble_eq_true rfl) ?_
  intro p e s m args below meth c hx hb hr hts hown hlocks hml hK H ls hH hw hl
  have hW : ∀ w ∈ kWs, w.before args s = true := fun w h => hts w (List.mem_cons_of_mem _ h)
  have hown : s.vm.findClass RBc = some m.cls := hown
  have hl : lv_has ls 2 [(0, .int k), (1, .int v)] := hl
  refine lv_iload_n (pc := 0) hx hb dBc_isToken_0 rfl (lv_at hl 0 rfl) ?_
  refine lv_if_lt (pc := 1) (tgt := 10) hx hb dBc_isToken_1 (by decide) (fun h1 => ?_) (fun h1 => ?_)
  · refine lv_iconst (pc := 10) (v := (nI 0)) hx hb dBc_isToken_10 (by decide) ?_
    exact fw_zretR (pc := 11) hx hb hr hlocks hH dBc_isToken_11 (by rfl) (by simp [tk, h1] <;> decide)
  · refine lv_iload_n (pc := 4) hx hb dBc_isToken_4 rfl (lv_at hl 0 rfl) ?_
    refine lv_bipush (pc := 5) (v := (nI 13)) hx hb dBc_isToken_5 (by decide) ?_
    refine lv_icmp_le (pc := 7) (tgt := 12) hx hb dBc_isToken_7 (by decide) (fun h2 => ?_) (fun h2 => ?_)
    · refine lv_iload_n (pc := 12) hx hb dBc_isToken_12 rfl (lv_at hl 0 rfl) ?_
      refine lv_if_ne (pc := 13) (tgt := 26) hx hb dBc_isToken_13 (by decide) (fun h3 => ?_) (fun h3 => ?_)
      · refine lv_iload_n (pc := 26) hx hb dBc_isToken_26 rfl (lv_at hl 0 rfl) ?_
        refine lv_iconst (pc := 27) (v := (nI 1)) hx hb dBc_isToken_27 (by decide) ?_
        refine lv_icmp_ne (pc := 28) (tgt := 47) hx hb dBc_isToken_28 (by decide) (fun h4 => ?_) (fun h4 => ?_)
        · refine lv_iload_n (pc := 47) hx hb dBc_isToken_47 rfl (lv_at hl 1 rfl) ?_
          refine lv_if_ne (pc := 48) (tgt := 55) hx hb dBc_isToken_48 (by decide) (fun h5 => ?_) (fun h5 => ?_)
          · refine lv_iconst (pc := 55) (v := (nI 0)) hx hb dBc_isToken_55 (by decide) ?_
            exact fw_zretR (pc := 56) hx hb hr hlocks hH dBc_isToken_56 (by rfl) (by simp [tk, h1, h2, h3, h4, h5] <;> decide)
          · refine lv_iconst (pc := 51) (v := (nI 1)) hx hb dBc_isToken_51 (by decide) ?_
            refine lv_goto (pc := 52) (tgt := 56) hx hb dBc_isToken_52 (by decide) ?_
            exact fw_zretR (pc := 56) hx hb hr hlocks hH dBc_isToken_56 (by rfl) (by simp [tk, h1, h2, h3, h4, h5] <;> decide)
        · refine lv_iload_n (pc := 31) hx hb dBc_isToken_31 rfl (lv_at hl 1 rfl) ?_
          refine lv_if_lt (pc := 32) (tgt := 45) hx hb dBc_isToken_32 (by decide) (fun h5 => ?_) (fun h5 => ?_)
          · refine lv_iconst (pc := 45) (v := (nI 0)) hx hb dBc_isToken_45 (by decide) ?_
            exact fw_zretR (pc := 46) hx hb hr hlocks hH dBc_isToken_46 (by rfl) (by simp [tk, h1, h2, h3, h4, h5] <;> decide)
          · refine lv_iload_n (pc := 35) hx hb dBc_isToken_35 rfl (lv_at hl 1 rfl) ?_
            refine lv_bipush (pc := 36) (v := (nI 8)) hx hb dBc_isToken_36 (by decide) ?_
            refine lv_icmp_ge (pc := 38) (tgt := 45) hx hb dBc_isToken_38 (by decide) (fun h6 => ?_) (fun h6 => ?_)
            · refine lv_iconst (pc := 45) (v := (nI 0)) hx hb dBc_isToken_45 (by decide) ?_
              exact fw_zretR (pc := 46) hx hb hr hlocks hH dBc_isToken_46 (by rfl) (by simp [tk, h1, h2, h3, h4, h5, h6] <;> decide)
            · refine lv_iconst (pc := 41) (v := (nI 1)) hx hb dBc_isToken_41 (by decide) ?_
              refine lv_goto (pc := 42) (tgt := 46) hx hb dBc_isToken_42 (by decide) ?_
              exact fw_zretR (pc := 46) hx hb hr hlocks hH dBc_isToken_46 (by rfl) (by simp [tk, h1, h2, h3, h4, h5, h6] <;> decide)
      · refine lv_iload_n (pc := 16) hx hb dBc_isToken_16 rfl (lv_at hl 1 rfl) ?_
        refine lv_if_lt (pc := 17) (tgt := 24) hx hb dBc_isToken_17 (by decide) (fun h4 => ?_) (fun h4 => ?_)
        · refine lv_iconst (pc := 24) (v := (nI 0)) hx hb dBc_isToken_24 (by decide) ?_
          exact fw_zretR (pc := 25) hx hb hr hlocks hH dBc_isToken_25 (by rfl) (by simp [tk, h3, h4] <;> decide)
        · refine lv_iconst (pc := 20) (v := (nI 1)) hx hb dBc_isToken_20 (by decide) ?_
          refine lv_goto (pc := 21) (tgt := 25) hx hb dBc_isToken_21 (by decide) ?_
          exact fw_zretR (pc := 25) hx hb hr hlocks hH dBc_isToken_25 (by rfl) (by simp [tk, h3, h4] <;> decide)
    · refine lv_iconst (pc := 10) (v := (nI 0)) hx hb dBc_isToken_10 (by decide) ?_
      exact fw_zretR (pc := 11) hx hb hr hlocks hH dBc_isToken_11 (by rfl) (by simp [tk, h1, h2] <;> decide)

set_option maxHeartbeats 4000000 in
set_option maxRecDepth 100000 in
theorem c_Bc_hasResult {b : Nat} {I : Nat → Nat} {J : Nat → Nat → Nat} {V G : Nat → Nat} (hS : bcS cI cL cQ w b I J V G) (h1 : I 1 < 2 ^ 31) (h4 : I 4 < 2 ^ 31) : fw_R l yBc_hasResult (Cond.code yBc_hasResult cBc_hasResult 1 (some FieldType.boolean) :: kWs) ({ frames := 0, cells := 0, slots := 0, locals := 0 } : Room) D kCl (kty cI cL cQ) (kz tO tB tC sa) [.ref b] (sz) w (fun r => r = some (.int (nI (if 0 < I 1 ∧ I 4 = I 1 then 1 else 0)))) := by
  refine fw_ofR (cc := cBc_hasResult) (maxL := 1) (ret := (some FieldType.boolean)) (by decide) rfl (Nat.le_of_ble_eq_true rfl) ?_
  intro p e s m args below meth c hx hb hr hts hown hlocks hml hK H ls hH hw hl
  have hW : ∀ w ∈ kWs, w.before args s = true := fun w h => hts w (List.mem_cons_of_mem _ h)
  have hown : s.vm.findClass RBc = some m.cls := hown
  have hl : lv_has ls 1 [(0, .ref b)] := hl
  obtain ⟨⟨b0, b1, b2, b3⟩, ⟨c0, c1, c2, c3, c4, c5⟩, ⟨m0, m1, m2, m3, m4, m5⟩, hR, hV, hN, hD⟩ := id hS
  refine lv_aload_n (pc := 0) hx hb dBc_hasResult_0 rfl (lv_at hl 0 rfl) ?_
  refine fw_get (pc := 1) (ci := 9) (v := .ref (b + 4)) (C := RBc) (T := TBc) (N := 4) hx hb hW in_Bc hown hK.1 hw b0 rfl 1 (by decide) (hW _ lf_Bc_19) (fun _ h => h) rfl dBc_hasResult_1 ?_
  refine fw_get (pc := 4) (ci := 7) (v := .ref (b + 5)) (C := RTr) (T := TTr) (N := 5) hx hb hW in_Tr hown hK.1 hw c0 rfl 0 (by decide) (hW _ lf_Bc_60) (fun _ h => h) rfl dBc_hasResult_4 ?_
  refine fw_get (pc := 7) (ci := 1) (v := .int (nI (I 1))) (C := RCo) (T := TCo) (N := 3) hx hb hW in_Co hown hK.1 hw c1 rfl 2 (by decide) (hW _ lf_Bc_70) (fun _ h => h) rfl dBc_hasResult_7 ?_
  refine lv_if_le (pc := 10) (tgt := 37) hx hb dBc_hasResult_10 (by decide) (fun ha => ?_) (fun ha => ?_)
  · refine lv_iconst (pc := 37) (v := (nI 0)) hx hb dBc_hasResult_37 (by decide) ?_
    exact fw_zretR (pc := 38) hx hb hr hlocks hH dBc_hasResult_38 (by rfl) (by rw [if_neg (fun h => nI_nle h.1 h1 ha)])
  · refine lv_aload_n (pc := 13) hx hb dBc_hasResult_13 rfl (lv_at hl 0 rfl) ?_
    refine fw_get (pc := 14) (ci := 9) (v := .ref (b + 10)) (C := RBc) (T := TBc) (N := 4) hx hb hW in_Bc hown hK.1 hw b0 rfl 2 (by decide) (hW _ lf_Bc_26) (fun _ h => h) rfl dBc_hasResult_14 ?_
    refine fw_get (pc := 17) (ci := 4) (v := .int (nI (I 4))) (C := RMa) (T := TMa) (N := 7) hx hb hW in_Ma hown hK.1 hw m0 rfl 2 (by decide) (hW _ lf_Bc_129) (fun _ h => h) rfl dBc_hasResult_17 ?_
    refine lv_aload_n (pc := 20) hx hb dBc_hasResult_20 rfl (lv_at hl 0 rfl) ?_
    refine fw_get (pc := 21) (ci := 9) (v := .ref (b + 4)) (C := RBc) (T := TBc) (N := 4) hx hb hW in_Bc hown hK.1 hw b0 rfl 1 (by decide) (hW _ lf_Bc_19) (fun _ h => h) rfl dBc_hasResult_21 ?_
    refine fw_get (pc := 24) (ci := 7) (v := .ref (b + 5)) (C := RTr) (T := TTr) (N := 5) hx hb hW in_Tr hown hK.1 hw c0 rfl 0 (by decide) (hW _ lf_Bc_60) (fun _ h => h) rfl dBc_hasResult_24 ?_
    refine fw_get (pc := 27) (ci := 1) (v := .int (nI (I 1))) (C := RCo) (T := TCo) (N := 3) hx hb hW in_Co hown hK.1 hw c1 rfl 2 (by decide) (hW _ lf_Bc_70) (fun _ h => h) rfl dBc_hasResult_27 ?_
    refine lv_icmp_ne (pc := 30) (tgt := 37) hx hb dBc_hasResult_30 (by decide) (fun hb2 => ?_) (fun hb2 => ?_)
    · refine lv_iconst (pc := 37) (v := (nI 0)) hx hb dBc_hasResult_37 (by decide) ?_
      exact fw_zretR (pc := 38) hx hb hr hlocks hH dBc_hasResult_38 (by rfl) (by rw [if_neg (fun h => hb2 (by rw [h.2]))])
    · refine lv_iconst (pc := 33) (v := (nI 1)) hx hb dBc_hasResult_33 (by decide) ?_
      refine lv_goto (pc := 34) (tgt := 38) hx hb dBc_hasResult_34 (by decide) ?_
      exact fw_zretR (pc := 38) hx hb hr hlocks hH dBc_hasResult_38 (by rfl) (by rw [if_pos ⟨Nat.pos_of_ne_zero (fun h => ha (by rw [h]; decide)), (nI_eq h4 h1).mp hb2⟩])

set_option maxHeartbeats 4000000 in
set_option maxRecDepth 100000 in
theorem c_Bc_requireCode {b : Nat} {I : Nat → Nat} {J : Nat → Nat → Nat} {V G : Nat → Nat} (hS : bcS cI cL cQ w b I J V G) (h1 : 0 < I 1) (h2 : I 1 < 2 ^ 31) : fw_R l yBc_requireCode (Cond.code yBc_requireCode cBc_requireCode 1 none :: kWs) ({ frames := 0, cells := 0, slots := 0, locals := 0 } : Room) D kCl (kty cI cL cQ) (kz tO tB tC sa) [.ref b] (sz) w (fun r => r = none) := by
  refine fw_ofR (cc := cBc_requireCode) (maxL := 1) (ret := none) (by decide) rfl (Nat.le_of_ble_eq_true rfl) ?_
  intro p e s m args below meth c hx hb hr hts hown hlocks hml hK H ls hH hw hl
  have hW : ∀ w ∈ kWs, w.before args s = true := fun w h => hts w (List.mem_cons_of_mem _ h)
  have hown : s.vm.findClass RBc = some m.cls := hown
  have hl : lv_has ls 1 [(0, .ref b)] := hl
  obtain ⟨⟨b0, b1, b2, b3⟩, ⟨c0, c1, c2, c3, c4, c5⟩, ⟨m0, m1, m2, m3, m4, m5⟩, hR, hV, hN, hD⟩ := id hS
  refine lv_aload_n (pc := 0) hx hb dBc_requireCode_0 rfl (lv_at hl 0 rfl) ?_
  refine fw_get (pc := 1) (ci := 9) (v := .ref (b + 4)) (C := RBc) (T := TBc) (N := 4) hx hb hW in_Bc hown hK.1 hw b0 rfl 1 (by decide) (hW _ lf_Bc_19) (fun _ h => h) rfl dBc_requireCode_1 ?_
  refine fw_get (pc := 4) (ci := 7) (v := .ref (b + 5)) (C := RTr) (T := TTr) (N := 5) hx hb hW in_Tr hown hK.1 hw c0 rfl 0 (by decide) (hW _ lf_Bc_60) (fun _ h => h) rfl dBc_requireCode_4 ?_
  refine fw_get (pc := 7) (ci := 1) (v := .int (nI (I 1))) (C := RCo) (T := TCo) (N := 3) hx hb hW in_Co hown hK.1 hw c1 rfl 2 (by decide) (hW _ lf_Bc_70) (fun _ h => h) rfl dBc_requireCode_7 ?_
  refine lv_if_ne (pc := 10) (tgt := 23) hx hb dBc_requireCode_10 (by decide) (fun _ => ?_) (fun hc => absurd hc (nI_ne0 h1 h2))
  exact fw_vretR (pc := 23) hx hb hr hlocks hH dBc_requireCode_23 rfl

set_option maxHeartbeats 4000000 in
set_option maxRecDepth 100000 in
theorem x_Bc_requireCode {b : Nat} {I : Nat → Nat} {J : Nat → Nat → Nat} {V G : Nat → Nat} (hS : bcS cI cL cQ w b I J V G) (hst : l.stackTraces = false) (h1 : I 1 = 0) : xw_C l yBc_requireCode (Cond.code yBc_requireCode cBc_requireCode 1 none :: kWs) ({ frames := 6, cells := 1, slots := 6, locals := 90 } : Room) D kCl (kty cI cL cQ) (kz tO tB tC sa) [.ref b] (sz) w 1 6 kIS := by
  refine xw_ofW (cc := cBc_requireCode) (maxL := 1) (ret := none) (by decide) rfl (Nat.le_of_ble_eq_true rfl) ?_
  intro p e s m args below meth c hx hb hr hts hown hlocks hml hout hK H ls hw hl
  have hW : ∀ w ∈ kWs, w.before args s = true := fun w h => hts w (List.mem_cons_of_mem _ h)
  have hown : s.vm.findClass RBc = some m.cls := hown
  have hl : lv_has ls 1 [(0, .ref b)] := hl
  obtain ⟨⟨b0, b1, b2, b3⟩, ⟨c0, c1, c2, c3, c4, c5⟩, ⟨m0, m1, m2, m3, m4, m5⟩, hR, hV, hN, hD⟩ := id hS
  refine lv_aload_n (pc := 0) hx hb dBc_requireCode_0 rfl (lv_at hl 0 rfl) ?_
  refine fw_get (pc := 1) (ci := 9) (v := .ref (b + 4)) (C := RBc) (T := TBc) (N := 4) hx hb hW in_Bc hown hK.1 hw b0 rfl 1 (by decide) (hW _ lf_Bc_19) (fun _ h => h) rfl dBc_requireCode_1 ?_
  refine fw_get (pc := 4) (ci := 7) (v := .ref (b + 5)) (C := RTr) (T := TTr) (N := 5) hx hb hW in_Tr hown hK.1 hw c0 rfl 0 (by decide) (hW _ lf_Bc_60) (fun _ h => h) rfl dBc_requireCode_4 ?_
  refine fw_get (pc := 7) (ci := 1) (v := .int (nI (I 1))) (C := RCo) (T := TCo) (N := 3) hx hb hW in_Co hown hK.1 hw c1 rfl 2 (by decide) (hW _ lf_Bc_70) (fun _ h => h) rfl dBc_requireCode_7 ?_
  refine lv_if_ne (pc := 10) (tgt := 23) hx hb dBc_requireCode_10 (by decide) (fun hc => absurd hc (fun h => h (by rw [h1]; rfl))) (fun _ => ?_)
  exact xw_throw (pc := 13) hx hb hst hown hW kfIS klIS kiIS kaIS (kz_T hK.2.1) (kz_S hK.2.1).2.2.2.2.2.2 hout hlocks (by rw [hml]; exact hl.1) dBc_requireCode_13 dBc_requireCode_16 dBc_requireCode_17 dBc_requireCode_19 dBc_requireCode_22 (Nat.le_of_ble_eq_true rfl) (Nat.le_of_ble_eq_true rfl) (Nat.le_of_ble_eq_true rfl) (Nat.le_of_ble_eq_true rfl)

set_option maxHeartbeats 4000000 in
set_option maxRecDepth 100000 in
theorem c_Bc_variable {b : Nat} {I : Nat → Nat} {J : Nat → Nat → Nat} {V G : Nat → Nat} (hS : bcS cI cL cQ w b I J V G) {j : Nat} (hj : j < 8) : fw_R l yBc_variable (Cond.code yBc_variable cBc_variable 2 (some (FieldType.object "BigCalculator$Whole")) :: kWs) ({ frames := 0, cells := 0, slots := 0, locals := 0 } : Room) D kCl (kty cI cL cQ) (kz tO tB tC sa) [.ref b, .int (nI j)] (sz) w (fun r => r = some (.ref (b + 43 + 3 * j))) := by
  refine fw_ofR (cc := cBc_variable) (maxL := 2) (ret := (some (FieldType.object "BigCalculator$Whole"))) (by decide) rfl (Nat.le_of_ble_eq_true rfl) ?_
  intro p e s m args below meth c hx hb hr hts hown hlocks hml hK H ls hH hw hl
  have hW : ∀ w ∈ kWs, w.before args s = true := fun w h => hts w (List.mem_cons_of_mem _ h)
  have hown : s.vm.findClass RBc = some m.cls := hown
  have hl : lv_has ls 2 [(0, .ref b), (1, .int (nI j))] := hl
  obtain ⟨⟨b0, b1, b2, b3⟩, ⟨c0, c1, c2, c3, c4, c5⟩, ⟨m0, m1, m2, m3, m4, m5⟩, hR, hV, hN, hD⟩ := id hS
  refine lv_iload_n (pc := 0) hx hb dBc_variable_0 rfl (lv_at hl 1 rfl) ?_
  refine lv_if_lt (pc := 1) (tgt := 10) hx hb dBc_variable_1 (by decide) (fun hc => absurd hc (nI_pos (by omega))) (fun _ => ?_)
  refine lv_iload_n (pc := 4) hx hb dBc_variable_4 rfl (lv_at hl 1 rfl) ?_
  refine lv_bipush (pc := 5) (v := (nI 8)) hx hb dBc_variable_5 (by decide) ?_
  refine lv_icmp_lt (pc := 7) (tgt := 20) hx hb dBc_variable_7 (by decide) (fun _ => ?_) (fun hc => absurd (nI_lt (b := 8) hj (by decide)) hc)
  refine lv_aload_n (pc := 20) hx hb dBc_variable_20 rfl (lv_at hl 0 rfl) ?_
  refine fw_get (pc := 21) (ci := 9) (v := .ref (b + 10)) (C := RBc) (T := TBc) (N := 4) hx hb hW in_Bc hown hK.1 hw b0 rfl 2 (by decide) (hW _ lf_Bc_26) (fun _ h => h) rfl dBc_variable_21 ?_
  refine fw_get (pc := 24) (ci := 4) (v := .ref (b + 42)) (C := RMa) (T := TMa) (N := 7) hx hb hW in_Ma hown hK.1 hw m0 rfl 1 (by decide) (hW _ lf_Bc_155) (fun _ h => h) rfl dBc_variable_24 ?_
  refine lv_iload_n (pc := 27) hx hb dBc_variable_27 rfl (lv_at hl 1 rfl) ?_
  refine fw_aaldN (pc := 28) (x := b + 43 + 3 * j) (C := "BigCalculator$Whole") hx hb hK.1 hw 2 m2 rfl (j) hj (by decide) (if_pos hj) dBc_variable_28 ?_
  exact fw_aretR (pc := 29) hx hb hr hlocks hH dBc_variable_29 rfl

set_option maxHeartbeats 4000000 in
set_option maxRecDepth 100000 in
theorem x_Bc_variable {b : Nat} {I : Nat → Nat} {J : Nat → Nat → Nat} {V G : Nat → Nat} (hS : bcS cI cL cQ w b I J V G) {x : Int32} (hst : l.stackTraces = false) (hx9 : x < 0 ∨ nI 8 ≤ x) : xw_C l yBc_variable (Cond.code yBc_variable cBc_variable 2 (some (FieldType.object "BigCalculator$Whole")) :: kWs) ({ frames := 6, cells := 1, slots := 6, locals := 90 } : Room) D kCl (kty cI cL cQ) (kz tO tB tC sa) [.ref b, .int x] (sz) w 1 6 kIA := by
  refine xw_ofW (cc := cBc_variable) (maxL := 2) (ret := (some (FieldType.object "BigCalculator$Whole"))) (by decide) rfl (Nat.le_of_ble_eq_true rfl) ?_
  intro p e s m args below meth c hx hb hr hts hown hlocks hml hout hK H ls hw hl
  have hW : ∀ w ∈ kWs, w.before args s = true := fun w h => hts w (List.mem_cons_of_mem _ h)
  have hown : s.vm.findClass RBc = some m.cls := hown
  have hl : lv_has ls 2 [(0, .ref b), (1, .int x)] := hl
  obtain ⟨⟨b0, b1, b2, b3⟩, ⟨c0, c1, c2, c3, c4, c5⟩, ⟨m0, m1, m2, m3, m4, m5⟩, hR, hV, hN, hD⟩ := id hS
  refine lv_iload_n (pc := 0) hx hb dBc_variable_0 rfl (lv_at hl 1 rfl) ?_
  refine lv_if_lt (pc := 1) (tgt := 10) hx hb dBc_variable_1 (by decide) (fun ha => ?_) (fun ha => ?_)
  · exact xw_throw (pc := 10) hx hb hst hown hW kfIA klIA kiIA kaIA (kz_T hK.2.1) (kz_S hK.2.1).2.2.2.2.1 hout hlocks (by rw [hml]; exact hl.1) dBc_variable_10 dBc_variable_13 dBc_variable_14 dBc_variable_16 dBc_variable_19 (Nat.le_of_ble_eq_true rfl) (Nat.le_of_ble_eq_true rfl) (Nat.le_of_ble_eq_true rfl) (Nat.le_of_ble_eq_true rfl)
  · refine lv_iload_n (pc := 4) hx hb dBc_variable_4 rfl (lv_at hl 1 rfl) ?_
    refine lv_bipush (pc := 5) (v := (nI 8)) hx hb dBc_variable_5 (by decide) ?_
    refine lv_icmp_lt (pc := 7) (tgt := 20) hx hb dBc_variable_7 (by decide) (fun hc => absurd hc (fun h => by rcases hx9 with h9 | h9; exact ha h9; exact absurd h (Int32.not_lt.mpr h9))) (fun _ => ?_)
    exact xw_throw (pc := 10) hx hb hst hown hW kfIA klIA kiIA kaIA (kz_T hK.2.1) (kz_S hK.2.1).2.2.2.2.1 hout hlocks (by rw [hml]; exact hl.1) dBc_variable_10 dBc_variable_13 dBc_variable_14 dBc_variable_16 dBc_variable_19 (Nat.le_of_ble_eq_true rfl) (Nat.le_of_ble_eq_true rfl) (Nat.le_of_ble_eq_true rfl) (Nat.le_of_ble_eq_true rfl)

set_option maxHeartbeats 4000000 in
set_option maxRecDepth 100000 in
theorem c_Bc_result {b : Nat} {I : Nat → Nat} {J : Nat → Nat → Nat} {V G : Nat → Nat} (hS : bcS cI cL cQ w b I J V G) (h0 : 0 < I 1) (h1 : I 1 < 2 ^ 31) (h4 : I 4 = I 1) : fw_R l yBc_result (Cond.code yBc_result cBc_result 1 (some (FieldType.object "BigCalculator$Whole")) :: kWs) ({ frames := 1, cells := 0, slots := 0, locals := 20 } : Room) D kCl (kty cI cL cQ) (kz tO tB tC sa) [.ref b] (sz) w (fun r => r = some (.ref (b + 12))) := by
  refine fw_ofR (cc := cBc_result) (maxL := 1) (ret := (some (FieldType.object "BigCalculator$Whole"))) (by decide) rfl (Nat.le_of_ble_eq_true rfl) ?_
  intro p e s m args below meth c hx hb hr hts hown hlocks hml hK H ls hH hw hl
  have hW : ∀ w ∈ kWs, w.before args s = true := fun w h => hts w (List.mem_cons_of_mem _ h)
  have hown : s.vm.findClass RBc = some m.cls := hown
  have hl : lv_has ls 1 [(0, .ref b)] := hl
  obtain ⟨⟨b0, b1, b2, b3⟩, ⟨c0, c1, c2, c3, c4, c5⟩, ⟨m0, m1, m2, m3, m4, m5⟩, hR, hV, hN, hD⟩ := id hS
  refine lv_aload_n (pc := 0) hx hb dBc_result_0 rfl (lv_at hl 0 rfl) ?_
  refine fw_cVR (pc := 1) (As := []) (rest := []) ⟨hx, hb, hml, hown, hW⟩ (c_Bc_hasResult hS h1 (by omega)) (cwV 0 hW (kw_V lm_Bc_138 im_Bc_hasResult se_Bc_hasResult ini_Bc cd_Bc_hasResult) rfl rfl rfl (by decide +kernel) ⟨Nat.le_of_ble_eq_true rfl, Nat.le_of_ble_eq_true rfl⟩) hK hw b0 rfl rfl hl.1 rfl (Nat.le_of_ble_eq_true rfl) dBc_result_1 ⟨Nat.le_of_ble_eq_true rfl, Nat.le_of_ble_eq_true rfl⟩ (fun v hq => ?_)
  subst hq
  rw [if_pos ⟨h0, h4⟩]
  refine W.eq (g2 := F0 m 4 ls [.int (nI 1)]) rfl ?_
  refine lv_if_ne (pc := 4) (tgt := 17) hx hb dBc_result_4 (by decide) (fun _ => ?_) (fun hc => absurd hc (show ¬ nI 1 = 0 by decide))
  refine lv_aload_n (pc := 17) hx hb dBc_result_17 rfl (lv_at hl 0 rfl) ?_
  refine fw_get (pc := 18) (ci := 9) (v := .ref (b + 10)) (C := RBc) (T := TBc) (N := 4) hx hb hW in_Bc hown hK.1 hw b0 rfl 2 (by decide) (hW _ lf_Bc_26) (fun _ h => h) rfl dBc_result_18 ?_
  refine fw_get (pc := 21) (ci := 4) (v := .ref (b + 11)) (C := RMa) (T := TMa) (N := 7) hx hb hW in_Ma hown hK.1 hw m0 rfl 0 (by decide) (hW _ lf_Bc_142) (fun _ h => h) rfl dBc_result_21 ?_
  refine lv_iconst (pc := 24) (v := (nI 0)) hx hb dBc_result_24 (by decide) ?_
  refine fw_aaldN (pc := 25) (x := b + 12) (C := "BigCalculator$Whole") hx hb hK.1 hw 2 m1 rfl (0) (by decide) (by decide) (rfl) dBc_result_25 ?_
  exact fw_aretR (pc := 26) hx hb hr hlocks hH dBc_result_26 rfl

set_option maxHeartbeats 4000000 in
set_option maxRecDepth 100000 in
theorem x_Bc_result {b : Nat} {I : Nat → Nat} {J : Nat → Nat → Nat} {V G : Nat → Nat} (hS : bcS cI cL cQ w b I J V G) (hst : l.stackTraces = false) (h1 : I 1 < 2 ^ 31) (h4 : I 4 < 2 ^ 31) (hno : ¬ (0 < I 1 ∧ I 4 = I 1)) : xw_C l yBc_result (Cond.code yBc_result cBc_result 1 (some (FieldType.object "BigCalculator$Whole")) :: kWs) ({ frames := 6, cells := 1, slots := 6, locals := 90 } : Room) D kCl (kty cI cL cQ) (kz tO tB tC sa) [.ref b] (sz) w 1 6 kIS := by
  refine xw_ofW (cc := cBc_result) (maxL := 1) (ret := (some (FieldType.object "BigCalculator$Whole"))) (by decide) rfl (Nat.le_of_ble_eq_true rfl) ?_
  intro p e s m args below meth c hx hb hr hts hown hlocks hml hout hK H ls hw hl
  have hW : ∀ w ∈ kWs, w.before args s = true := fun w h => hts w (List.mem_cons_of_mem _ h)
  have hown : s.vm.findClass RBc = some m.cls := hown
  have hl : lv_has ls 1 [(0, .ref b)] := hl
  obtain ⟨⟨b0, b1, b2, b3⟩, ⟨c0, c1, c2, c3, c4, c5⟩, ⟨m0, m1, m2, m3, m4, m5⟩, hR, hV, hN, hD⟩ := id hS
  refine lv_aload_n (pc := 0) hx hb dBc_result_0 rfl (lv_at hl 0 rfl) ?_
  refine fw_cVR (pc := 1) (As := []) (rest := []) ⟨hx, hb, hml, hown, hW⟩ (c_Bc_hasResult hS h1 h4) (cwV 0 hW (kw_V lm_Bc_138 im_Bc_hasResult se_Bc_hasResult ini_Bc cd_Bc_hasResult) rfl rfl rfl (by decide +kernel) ⟨Nat.le_of_ble_eq_true rfl, Nat.le_of_ble_eq_true rfl⟩) hK hw b0 rfl rfl hl.1 rfl (Nat.le_of_ble_eq_true rfl) dBc_result_1 ⟨Nat.le_of_ble_eq_true rfl, Nat.le_of_ble_eq_true rfl⟩ (fun v hq => ?_)
  subst hq
  rw [if_neg hno]
  refine W.eq (g2 := F0 m 4 ls [.int (nI 0)]) rfl ?_
  refine lv_if_ne (pc := 4) (tgt := 17) hx hb dBc_result_4 (by decide) (fun hc => absurd hc (fun h => h rfl)) (fun _ => ?_)
  exact xw_throw (pc := 7) hx hb hst hown hW kfIS klIS kiIS kaIS (kz_T hK.2.1) (kz_S hK.2.1).2.2.2.2.2.1 hout hlocks (by rw [hml]; exact hl.1) dBc_result_7 dBc_result_10 dBc_result_11 dBc_result_13 dBc_result_16 (Nat.le_of_ble_eq_true rfl) (Nat.le_of_ble_eq_true rfl) (Nat.le_of_ble_eq_true rfl) (Nat.le_of_ble_eq_true rfl)
end BC1
