/-! The reference's methods, first part. Written by wip/gen/model1.py. -/
section MO1
variable {l : Launch} {D : va_G} {cI cL cQ : ClassId} {z : kZ_T} {sz : Nat} {w : fw_W}
set_option maxHeartbeats 4000000 in
set_option maxRecDepth 100000 in
theorem c_Mo_thrown {b : Nat} {I : Nat → Nat} {K : Nat → Nat → Nat} {S : Nat → Int32} {C : Nat → Nat} (hS : moS cI cL w b I K S C) : fw_R l yMo_thrown (Cond.code yMo_thrown cMo_thrown 1 (some FieldType.int) :: kWs) ({ frames := 0, cells := 0, slots := 0, locals := 0 } : Room) D kCl (kty cI cL cQ) z [.ref b] (sz) w (fun v => v = some (.int (nI (I 0)))) := by
  refine fw_ofR (cc := cMo_thrown) (maxL := 1) (ret := (some FieldType.int)) (by decide) rfl (Nat.le_of_ble_eq_true rfl) ?_
  intro p e s m args below meth c hx hb hr hts hown hlocks hml hK H ls hH hw hl
  have hW : ∀ w ∈ kWs, w.before args s = true := fun w h => hts w (List.mem_cons_of_mem _ h)
  have hown : s.vm.findClass RMo = some m.cls := hown
  have hl : lv_has ls 1 [(0, .ref b)] := hl
  have b0 : w b = some (.inr (10, [.int (nI (I 0)), .ref (b + 1), .ref (b + 2), .int (nI (I 3)), .ref (b + 3), .ref (b + 4), .int (nI (I 6)), .int (nI (I 7)), .ref (b + 5), .ref (b + 6), .int (nI (I 10)), .int (nI (I 11)), .int (nI (I 12)), .int (nI (I 13)), .ref (b + 7), .ref (b + 8), .int (nI (I 16)), .int (nI (I 17)), .int (nI (I 18)), .int (nI (I 19))])) := hS.1
  refine lv_aload_n (pc := 0) hx hb dMo_thrown_0 rfl (lv_at hl 0 rfl) ?_
  refine fw_get (pc := 1) (ci := 10) (v := .int (nI (I 0))) (C := RMo) (T := TMo) (N := 20) hx hb hW in_Mo hown hK.1 hw b0 rfl 0 (by decide) (hW _ lf_Mo_35) (fun _ h => h) rfl dMo_thrown_1 ?_
  exact fw_iretR (pc := 4) hx hb hr hlocks hH dMo_thrown_4 rfl

set_option maxHeartbeats 4000000 in
set_option maxRecDepth 100000 in
theorem c_Mo_fails0 {b : Nat} {I : Nat → Nat} {K : Nat → Nat → Nat} {S : Nat → Int32} {C : Nat → Nat} (hS : moS cI cL w b I K S C) {k : Nat} : fw_C l yMo_fails (Cond.code yMo_fails cMo_fails 3 (some FieldType.boolean) :: kWs) ({ frames := 0, cells := 0, slots := 0, locals := 0 } : Room) D kCl (kty cI cL cQ) z [.ref b, .int (nI 0), .int (nI k)] (sz) w 0 0 (fun v w' => v = some (.int (nI 0)) ∧ moS cI cL w' b (va_up I 0 0) K S C ∧ ∀ q, q ≠ b → w' q = w q) := by
  refine fw_ofW (cc := cMo_fails) (maxL := 3) (ret := (some FieldType.boolean)) (by decide) rfl (Nat.le_of_ble_eq_true rfl) ?_
  intro p e s m args below meth c hx hb hr hts hown hlocks hname hml hK H ls hw hl
  have hW : ∀ w ∈ kWs, w.before args s = true := fun w h => hts w (List.mem_cons_of_mem _ h)
  have hown : s.vm.findClass RMo = some m.cls := hown
  have hl : lv_has ls 3 [(0, .ref b), (1, .int (nI 0)), (2, .int (nI k))] := hl
  have b0 : w b = some (.inr (10, [.int (nI (I 0)), .ref (b + 1), .ref (b + 2), .int (nI (I 3)), .ref (b + 3), .ref (b + 4), .int (nI (I 6)), .int (nI (I 7)), .ref (b + 5), .ref (b + 6), .int (nI (I 10)), .int (nI (I 11)), .int (nI (I 12)), .int (nI (I 13)), .ref (b + 7), .ref (b + 8), .int (nI (I 16)), .int (nI (I 17)), .int (nI (I 18)), .int (nI (I 19))])) := hS.1
  refine lv_aload_n (pc := 0) hx hb dMo_fails_0 rfl (lv_at hl 0 rfl) ?_
  refine lv_iload_n (pc := 1) hx hb dMo_fails_1 rfl (lv_at hl 1 rfl) ?_
  refine lv_if_eq (pc := 2) (tgt := 9) hx hb dMo_fails_2 (by decide) (fun _ => ?_) (fun hc => absurd (show nI 0 = 0 by decide) hc)
  refine lv_iconst (pc := 9) (v := (nI 0)) hx hb dMo_fails_9 (by decide) ?_
  refine fw_put (pc := 10) (ci := 10) (v := .int (nI 0)) (ty := .int) (C := RMo) (T := TMo) (N := 20) hx hb hW in_Mo tyMo tyMo_ok nmMo hown hK.1 hw b0 rfl 0 (by decide) (hW _ lf_Mo_35) (fun _ h => h) rfl (by decide +kernel) rfl rfl (Nat.le_of_ble_eq_true rfl) dMo_fails_10 (fun H locs hw => ?_)
  obtain ⟨w1, e1⟩ : ∃ w_, w_ = fw_up w (b) (.inr (10, [.int (nI 0), .ref (b + 1), .ref (b + 2), .int (nI (I 3)), .ref (b + 3), .ref (b + 4), .int (nI (I 6)), .int (nI (I 7)), .ref (b + 5), .ref (b + 6), .int (nI (I 10)), .int (nI (I 11)), .int (nI (I 12)), .int (nI (I 13)), .ref (b + 7), .ref (b + 8), .int (nI (I 16)), .int (nI (I 17)), .int (nI (I 18)), .int (nI (I 19))])) := ⟨_, rfl⟩
  have hw : fw_H D kCl (fw_A w (sz)) s.heap w1 (sz) H locs := by rw [e1]; exact hw
  have b0_ : w1 (b) = some (.inr (10, [.int (nI 0), .ref (b + 1), .ref (b + 2), .int (nI (I 3)), .ref (b + 3), .ref (b + 4), .int (nI (I 6)), .int (nI (I 7)), .ref (b + 5), .ref (b + 6), .int (nI (I 10)), .int (nI (I 11)), .int (nI (I 12)), .int (nI (I 13)), .ref (b + 7), .ref (b + 8), .int (nI (I 16)), .int (nI (I 17)), .int (nI (I 18)), .int (nI (I 19))])) := by rw [e1]; exact fw_us _ _ _
  have b0 := b0_
  refine lv_iload_n (pc := 13) hx hb dMo_fails_13 rfl (lv_at hl 1 rfl) ?_
  exact fw_zret (pc := 14) hx hb hr hlocks hw dMo_fails_14 (by rfl) ⟨rfl, moS.int hS b0 (fun q hq => by rw [e1, fw_un hq]), fun q hq => by rw [e1, fw_un hq]⟩

set_option maxHeartbeats 4000000 in
set_option maxRecDepth 100000 in
theorem c_Mo_fails1 {b : Nat} {I : Nat → Nat} {K : Nat → Nat → Nat} {S : Nat → Int32} {C : Nat → Nat} (hS : moS cI cL w b I K S C) {k : Nat} : fw_C l yMo_fails (Cond.code yMo_fails cMo_fails 3 (some FieldType.boolean) :: kWs) ({ frames := 0, cells := 0, slots := 0, locals := 0 } : Room) D kCl (kty cI cL cQ) z [.ref b, .int (nI 1), .int (nI k)] (sz) w 0 0 (fun v w' => v = some (.int (nI 1)) ∧ moS cI cL w' b (va_up I 0 k) K S C ∧ ∀ q, q ≠ b → w' q = w q) := by
  refine fw_ofW (cc := cMo_fails) (maxL := 3) (ret := (some FieldType.boolean)) (by decide) rfl (Nat.le_of_ble_eq_true rfl) ?_
  intro p e s m args below meth c hx hb hr hts hown hlocks hname hml hK H ls hw hl
  have hW : ∀ w ∈ kWs, w.before args s = true := fun w h => hts w (List.mem_cons_of_mem _ h)
  have hown : s.vm.findClass RMo = some m.cls := hown
  have hl : lv_has ls 3 [(0, .ref b), (1, .int (nI 1)), (2, .int (nI k))] := hl
  have b0 : w b = some (.inr (10, [.int (nI (I 0)), .ref (b + 1), .ref (b + 2), .int (nI (I 3)), .ref (b + 3), .ref (b + 4), .int (nI (I 6)), .int (nI (I 7)), .ref (b + 5), .ref (b + 6), .int (nI (I 10)), .int (nI (I 11)), .int (nI (I 12)), .int (nI (I 13)), .ref (b + 7), .ref (b + 8), .int (nI (I 16)), .int (nI (I 17)), .int (nI (I 18)), .int (nI (I 19))])) := hS.1
  refine lv_aload_n (pc := 0) hx hb dMo_fails_0 rfl (lv_at hl 0 rfl) ?_
  refine lv_iload_n (pc := 1) hx hb dMo_fails_1 rfl (lv_at hl 1 rfl) ?_
  refine lv_if_eq (pc := 2) (tgt := 9) hx hb dMo_fails_2 (by decide) (fun hc => absurd hc (show ¬ nI 1 = 0 by decide)) (fun _ => ?_)
  refine lv_iload_n (pc := 5) hx hb dMo_fails_5 rfl (lv_at hl 2 rfl) ?_
  refine lv_goto (pc := 6) (tgt := 10) hx hb dMo_fails_6 (by decide) ?_
  refine fw_put (pc := 10) (ci := 10) (v := .int (nI k)) (ty := .int) (C := RMo) (T := TMo) (N := 20) hx hb hW in_Mo tyMo tyMo_ok nmMo hown hK.1 hw b0 rfl 0 (by decide) (hW _ lf_Mo_35) (fun _ h => h) rfl (by decide +kernel) rfl rfl (Nat.le_of_ble_eq_true rfl) dMo_fails_10 (fun H locs hw => ?_)
  obtain ⟨w1, e1⟩ : ∃ w_, w_ = fw_up w (b) (.inr (10, [.int (nI k), .ref (b + 1), .ref (b + 2), .int (nI (I 3)), .ref (b + 3), .ref (b + 4), .int (nI (I 6)), .int (nI (I 7)), .ref (b + 5), .ref (b + 6), .int (nI (I 10)), .int (nI (I 11)), .int (nI (I 12)), .int (nI (I 13)), .ref (b + 7), .ref (b + 8), .int (nI (I 16)), .int (nI (I 17)), .int (nI (I 18)), .int (nI (I 19))])) := ⟨_, rfl⟩
  have hw : fw_H D kCl (fw_A w (sz)) s.heap w1 (sz) H locs := by rw [e1]; exact hw
  have b0_ : w1 (b) = some (.inr (10, [.int (nI k), .ref (b + 1), .ref (b + 2), .int (nI (I 3)), .ref (b + 3), .ref (b + 4), .int (nI (I 6)), .int (nI (I 7)), .ref (b + 5), .ref (b + 6), .int (nI (I 10)), .int (nI (I 11)), .int (nI (I 12)), .int (nI (I 13)), .ref (b + 7), .ref (b + 8), .int (nI (I 16)), .int (nI (I 17)), .int (nI (I 18)), .int (nI (I 19))])) := by rw [e1]; exact fw_us _ _ _
  have b0 := b0_
  refine lv_iload_n (pc := 13) hx hb dMo_fails_13 rfl (lv_at hl 1 rfl) ?_
  exact fw_zret (pc := 14) hx hb hr hlocks hw dMo_fails_14 (by rfl) ⟨rfl, moS.int hS b0 (fun q hq => by rw [e1, fw_un hq]), fun q hq => by rw [e1, fw_un hq]⟩

set_option maxHeartbeats 4000000 in
set_option maxRecDepth 100000 in
theorem c_Mo_hasResult {b : Nat} {I : Nat → Nat} {K : Nat → Nat → Nat} {S : Nat → Int32} {C : Nat → Nat} (hS : moS cI cL w b I K S C) (h6 : I 6 < 2 ^ 31) (h7 : I 7 < 2 ^ 31) (h16 : I 16 < 2 ^ 31) : fw_R l yMo_hasResult (Cond.code yMo_hasResult cMo_hasResult 1 (some FieldType.boolean) :: kWs) ({ frames := 0, cells := 0, slots := 0, locals := 0 } : Room) D kCl (kty cI cL cQ) z [.ref b] (sz) w (fun v => v = some (.int (nI (if 0 < I 6 ∧ I 16 = I 7 then 1 else 0)))) := by
  refine fw_ofR (cc := cMo_hasResult) (maxL := 1) (ret := (some FieldType.boolean)) (by decide) rfl (Nat.le_of_ble_eq_true rfl) ?_
  intro p e s m args below meth c hx hb hr hts hown hlocks hml hK H ls hH hw hl
  have hW : ∀ w ∈ kWs, w.before args s = true := fun w h => hts w (List.mem_cons_of_mem _ h)
  have hown : s.vm.findClass RMo = some m.cls := hown
  have hl : lv_has ls 1 [(0, .ref b)] := hl
  have b0 : w b = some (.inr (10, [.int (nI (I 0)), .ref (b + 1), .ref (b + 2), .int (nI (I 3)), .ref (b + 3), .ref (b + 4), .int (nI (I 6)), .int (nI (I 7)), .ref (b + 5), .ref (b + 6), .int (nI (I 10)), .int (nI (I 11)), .int (nI (I 12)), .int (nI (I 13)), .ref (b + 7), .ref (b + 8), .int (nI (I 16)), .int (nI (I 17)), .int (nI (I 18)), .int (nI (I 19))])) := hS.1
  refine lv_aload_n (pc := 0) hx hb dMo_hasResult_0 rfl (lv_at hl 0 rfl) ?_
  refine fw_get (pc := 1) (ci := 10) (v := .int (nI (I 6))) (C := RMo) (T := TMo) (N := 20) hx hb hW in_Mo hown hK.1 hw b0 rfl 6 (by decide) (hW _ lf_Mo_110) (fun _ h => h) rfl dMo_hasResult_1 ?_
  refine lv_if_eq (pc := 4) (tgt := 22) hx hb dMo_hasResult_4 (by decide) (fun ha => ?_) (fun ha => ?_)
  · refine lv_iconst (pc := 22) (v := (nI 0)) hx hb dMo_hasResult_22 (by decide) ?_
    exact fw_zretR (pc := 23) hx hb hr hlocks hH dMo_hasResult_23 (by rfl) (by rw [if_neg (fun h => nI_ne0 h.1 h6 ha)])
  · refine lv_aload_n (pc := 7) hx hb dMo_hasResult_7 rfl (lv_at hl 0 rfl) ?_
    refine fw_get (pc := 8) (ci := 10) (v := .int (nI (I 16))) (C := RMo) (T := TMo) (N := 20) hx hb hW in_Mo hown hK.1 hw b0 rfl 16 (by decide) (hW _ lf_Mo_98) (fun _ h => h) rfl dMo_hasResult_8 ?_
    refine lv_aload_n (pc := 11) hx hb dMo_hasResult_11 rfl (lv_at hl 0 rfl) ?_
    refine fw_get (pc := 12) (ci := 10) (v := .int (nI (I 7))) (C := RMo) (T := TMo) (N := 20) hx hb hW in_Mo hown hK.1 hw b0 rfl 7 (by decide) (hW _ lf_Mo_46) (fun _ h => h) rfl dMo_hasResult_12 ?_
    refine lv_icmp_ne (pc := 15) (tgt := 22) hx hb dMo_hasResult_15 (by decide) (fun hb2 => ?_) (fun hb2 => ?_)
    · refine lv_iconst (pc := 22) (v := (nI 0)) hx hb dMo_hasResult_22 (by decide) ?_
      exact fw_zretR (pc := 23) hx hb hr hlocks hH dMo_hasResult_23 (by rfl) (by rw [if_neg (fun h => hb2 (by rw [h.2]))])
    · refine lv_iconst (pc := 18) (v := (nI 1)) hx hb dMo_hasResult_18 (by decide) ?_
      refine lv_goto (pc := 19) (tgt := 23) hx hb dMo_hasResult_19 (by decide) ?_
      exact fw_zretR (pc := 23) hx hb hr hlocks hH dMo_hasResult_23 (by rfl) (by rw [if_pos ⟨Nat.pos_of_ne_zero (fun h => ha (by rw [h]; rfl)), (nI_eq h16 h7).mp hb2⟩])

set_option maxHeartbeats 4000000 in
set_option maxRecDepth 100000 in
theorem c_Mo_begin {b : Nat} {I : Nat → Nat} {K : Nat → Nat → Nat} {S : Nat → Int32} {C : Nat → Nat} (hS : moS cI cL w b I K S C) : fw_C l yMo_begin (Cond.code yMo_begin cMo_begin 1 none :: kWs) ({ frames := 0, cells := 0, slots := 0, locals := 0 } : Room) D kCl (kty cI cL cQ) z [.ref b] (sz) w 0 0 (fun v w' => v = none ∧ moS cI cL w' b (fun i => if 16 ≤ i then 0 else I i) K S C ∧ ∀ q, q ≠ b → w' q = w q) := by
  refine fw_ofW (cc := cMo_begin) (maxL := 1) (ret := none) (by decide) rfl (Nat.le_of_ble_eq_true rfl) ?_
  intro p e s m args below meth c hx hb hr hts hown hlocks hname hml hK H ls hw hl
  have hW : ∀ w ∈ kWs, w.before args s = true := fun w h => hts w (List.mem_cons_of_mem _ h)
  have hown : s.vm.findClass RMo = some m.cls := hown
  have hl : lv_has ls 1 [(0, .ref b)] := hl
  have b0 : w b = some (.inr (10, [.int (nI (I 0)), .ref (b + 1), .ref (b + 2), .int (nI (I 3)), .ref (b + 3), .ref (b + 4), .int (nI (I 6)), .int (nI (I 7)), .ref (b + 5), .ref (b + 6), .int (nI (I 10)), .int (nI (I 11)), .int (nI (I 12)), .int (nI (I 13)), .ref (b + 7), .ref (b + 8), .int (nI (I 16)), .int (nI (I 17)), .int (nI (I 18)), .int (nI (I 19))])) := hS.1
  refine lv_aload_n (pc := 0) hx hb dMo_begin_0 rfl (lv_at hl 0 rfl) ?_
  refine lv_iconst (pc := 1) (v := (nI 0)) hx hb dMo_begin_1 (by decide) ?_
  refine fw_put (pc := 2) (ci := 10) (v := .int (nI 0)) (ty := .int) (C := RMo) (T := TMo) (N := 20) hx hb hW in_Mo tyMo tyMo_ok nmMo hown hK.1 hw b0 rfl 16 (by decide) (hW _ lf_Mo_98) (fun _ h => h) rfl (by decide +kernel) rfl rfl (Nat.le_of_ble_eq_true rfl) dMo_begin_2 (fun H locs hw => ?_)
  obtain ⟨w1, e1⟩ : ∃ w_, w_ = fw_up w (b) (.inr (10, [.int (nI (I 0)), .ref (b + 1), .ref (b + 2), .int (nI (I 3)), .ref (b + 3), .ref (b + 4), .int (nI (I 6)), .int (nI (I 7)), .ref (b + 5), .ref (b + 6), .int (nI (I 10)), .int (nI (I 11)), .int (nI (I 12)), .int (nI (I 13)), .ref (b + 7), .ref (b + 8), .int (nI 0), .int (nI (I 17)), .int (nI (I 18)), .int (nI (I 19))])) := ⟨_, rfl⟩
  have hw : fw_H D kCl (fw_A w (sz)) s.heap w1 (sz) H locs := by rw [e1]; exact hw
  have b0_ : w1 (b) = some (.inr (10, [.int (nI (I 0)), .ref (b + 1), .ref (b + 2), .int (nI (I 3)), .ref (b + 3), .ref (b + 4), .int (nI (I 6)), .int (nI (I 7)), .ref (b + 5), .ref (b + 6), .int (nI (I 10)), .int (nI (I 11)), .int (nI (I 12)), .int (nI (I 13)), .ref (b + 7), .ref (b + 8), .int (nI 0), .int (nI (I 17)), .int (nI (I 18)), .int (nI (I 19))])) := by rw [e1]; exact fw_us _ _ _
  have b0 := b0_
  refine lv_aload_n (pc := 5) hx hb dMo_begin_5 rfl (lv_at hl 0 rfl) ?_
  refine lv_iconst (pc := 6) (v := (nI 0)) hx hb dMo_begin_6 (by decide) ?_
  refine fw_put (pc := 7) (ci := 10) (v := .int (nI 0)) (ty := .int) (C := RMo) (T := TMo) (N := 20) hx hb hW in_Mo tyMo tyMo_ok nmMo hown hK.1 hw b0 rfl 17 (by decide) (hW _ lf_Mo_101) (fun _ h => h) rfl (by decide +kernel) rfl rfl (Nat.le_of_ble_eq_true rfl) dMo_begin_7 (fun H locs hw => ?_)
  obtain ⟨w2, e2⟩ : ∃ w_, w_ = fw_up w1 (b) (.inr (10, [.int (nI (I 0)), .ref (b + 1), .ref (b + 2), .int (nI (I 3)), .ref (b + 3), .ref (b + 4), .int (nI (I 6)), .int (nI (I 7)), .ref (b + 5), .ref (b + 6), .int (nI (I 10)), .int (nI (I 11)), .int (nI (I 12)), .int (nI (I 13)), .ref (b + 7), .ref (b + 8), .int (nI 0), .int (nI 0), .int (nI (I 18)), .int (nI (I 19))])) := ⟨_, rfl⟩
  have hw : fw_H D kCl (fw_A w (sz)) s.heap w2 (sz) H locs := by rw [e2]; exact hw
  have b0_ : w2 (b) = some (.inr (10, [.int (nI (I 0)), .ref (b + 1), .ref (b + 2), .int (nI (I 3)), .ref (b + 3), .ref (b + 4), .int (nI (I 6)), .int (nI (I 7)), .ref (b + 5), .ref (b + 6), .int (nI (I 10)), .int (nI (I 11)), .int (nI (I 12)), .int (nI (I 13)), .ref (b + 7), .ref (b + 8), .int (nI 0), .int (nI 0), .int (nI (I 18)), .int (nI (I 19))])) := by rw [e2]; exact fw_us _ _ _
  have b0 := b0_
  refine lv_aload_n (pc := 10) hx hb dMo_begin_10 rfl (lv_at hl 0 rfl) ?_
  refine lv_iconst (pc := 11) (v := (nI 0)) hx hb dMo_begin_11 (by decide) ?_
  refine fw_put (pc := 12) (ci := 10) (v := .int (nI 0)) (ty := .int) (C := RMo) (T := TMo) (N := 20) hx hb hW in_Mo tyMo tyMo_ok nmMo hown hK.1 hw b0 rfl 18 (by decide) (hW _ lf_Mo_104) (fun _ h => h) rfl (by decide +kernel) rfl rfl (Nat.le_of_ble_eq_true rfl) dMo_begin_12 (fun H locs hw => ?_)
  obtain ⟨w3, e3⟩ : ∃ w_, w_ = fw_up w2 (b) (.inr (10, [.int (nI (I 0)), .ref (b + 1), .ref (b + 2), .int (nI (I 3)), .ref (b + 3), .ref (b + 4), .int (nI (I 6)), .int (nI (I 7)), .ref (b + 5), .ref (b + 6), .int (nI (I 10)), .int (nI (I 11)), .int (nI (I 12)), .int (nI (I 13)), .ref (b + 7), .ref (b + 8), .int (nI 0), .int (nI 0), .int (nI 0), .int (nI (I 19))])) := ⟨_, rfl⟩
  have hw : fw_H D kCl (fw_A w (sz)) s.heap w3 (sz) H locs := by rw [e3]; exact hw
  have b0_ : w3 (b) = some (.inr (10, [.int (nI (I 0)), .ref (b + 1), .ref (b + 2), .int (nI (I 3)), .ref (b + 3), .ref (b + 4), .int (nI (I 6)), .int (nI (I 7)), .ref (b + 5), .ref (b + 6), .int (nI (I 10)), .int (nI (I 11)), .int (nI (I 12)), .int (nI (I 13)), .ref (b + 7), .ref (b + 8), .int (nI 0), .int (nI 0), .int (nI 0), .int (nI (I 19))])) := by rw [e3]; exact fw_us _ _ _
  have b0 := b0_
  refine lv_aload_n (pc := 15) hx hb dMo_begin_15 rfl (lv_at hl 0 rfl) ?_
  refine lv_iconst (pc := 16) (v := (nI 0)) hx hb dMo_begin_16 (by decide) ?_
  refine fw_put (pc := 17) (ci := 10) (v := .int (nI 0)) (ty := .int) (C := RMo) (T := TMo) (N := 20) hx hb hW in_Mo tyMo tyMo_ok nmMo hown hK.1 hw b0 rfl 19 (by decide) (hW _ lf_Mo_107) (fun _ h => h) rfl (by decide +kernel) rfl rfl (Nat.le_of_ble_eq_true rfl) dMo_begin_17 (fun H locs hw => ?_)
  obtain ⟨w4, e4⟩ : ∃ w_, w_ = fw_up w3 (b) (.inr (10, [.int (nI (I 0)), .ref (b + 1), .ref (b + 2), .int (nI (I 3)), .ref (b + 3), .ref (b + 4), .int (nI (I 6)), .int (nI (I 7)), .ref (b + 5), .ref (b + 6), .int (nI (I 10)), .int (nI (I 11)), .int (nI (I 12)), .int (nI (I 13)), .ref (b + 7), .ref (b + 8), .int (nI 0), .int (nI 0), .int (nI 0), .int (nI 0)])) := ⟨_, rfl⟩
  have hw : fw_H D kCl (fw_A w (sz)) s.heap w4 (sz) H locs := by rw [e4]; exact hw
  have b0_ : w4 (b) = some (.inr (10, [.int (nI (I 0)), .ref (b + 1), .ref (b + 2), .int (nI (I 3)), .ref (b + 3), .ref (b + 4), .int (nI (I 6)), .int (nI (I 7)), .ref (b + 5), .ref (b + 6), .int (nI (I 10)), .int (nI (I 11)), .int (nI (I 12)), .int (nI (I 13)), .ref (b + 7), .ref (b + 8), .int (nI 0), .int (nI 0), .int (nI 0), .int (nI 0)])) := by rw [e4]; exact fw_us _ _ _
  have b0 := b0_
  exact fw_vret (pc := 20) hx hb hr hlocks hw dMo_begin_20 ⟨rfl, moS.int hS b0 (fun q hq => by rw [e4, fw_un hq, e3, fw_un hq, e2, fw_un hq, e1, fw_un hq]), fun q hq => by rw [e4, fw_un hq, e3, fw_un hq, e2, fw_un hq, e1, fw_un hq]⟩

set_option maxHeartbeats 4000000 in
set_option maxRecDepth 100000 in
theorem c_Mo_feedT {b : Nat} {I : Nat → Nat} {K : Nat → Nat → Nat} {S : Nat → Int32} {C : Nat → Nat} (hS : moS cI cL w b I K S C) {k u : Int32} (ht : ¬ tk k u = true) : fw_C l yMo_feed (Cond.code yMo_feed cMo_feed 4 (some FieldType.int) :: kWs) ({ frames := 1, cells := 0, slots := 0, locals := 22 } : Room) D kCl (kty cI cL cQ) z [.ref b, .int k, .int u] (sz) w 0 0 (fun v w' => v = some (.int (nI 0)) ∧ moS cI cL w' b (va_up I 0 1) K S C ∧ ∀ q, q < b ∨ b + 9 ≤ q → w' q = w q) := by
  refine fw_ofW (cc := cMo_feed) (maxL := 4) (ret := (some FieldType.int)) (by decide) rfl (Nat.le_of_ble_eq_true rfl) ?_
  intro p e s m args below meth c hx hb hr hts hown hlocks hname hml hK H ls hw hl
  have hW : ∀ w ∈ kWs, w.before args s = true := fun w h => hts w (List.mem_cons_of_mem _ h)
  have hown : s.vm.findClass RMo = some m.cls := hown
  have hl : lv_has ls 4 [(0, .ref b), (1, .int k), (2, .int u)] := hl
  have b0 : w b = some (.inr (10, [.int (nI (I 0)), .ref (b + 1), .ref (b + 2), .int (nI (I 3)), .ref (b + 3), .ref (b + 4), .int (nI (I 6)), .int (nI (I 7)), .ref (b + 5), .ref (b + 6), .int (nI (I 10)), .int (nI (I 11)), .int (nI (I 12)), .int (nI (I 13)), .ref (b + 7), .ref (b + 8), .int (nI (I 16)), .int (nI (I 17)), .int (nI (I 18)), .int (nI (I 19))])) := hS.1
  have rest : W p l e ({ frames := 1, cells := 0, slots := 0, locals := 22 } : Room) s m args below meth c H [] 0 0 (MQ below (fw_Q D kCl w (sz) 0 (fun v w' => v = some (.int (nI 0)) ∧ moS cI cL w' b (va_up I 0 1) K S C ∧ ∀ q, q < b ∨ b + 9 ≤ q → w' q = w q)) args s 0 0 (fw_A w (sz))) (F0 m 59 ls [.int (nI 0)]) := by
    refine lv_istore_n (pc := 59) (lv' := [(3, .int (nI 0)), (0, .ref b), (1, .int k), (2, .int u)]) hx hb dMo_feed_59 rfl hl (by decide) rfl (fun ls hl => ?_)
    refine lv_aload_n (pc := 60) hx hb dMo_feed_60 rfl (lv_at hl 1 rfl) ?_
    refine lv_iload_n (pc := 61) hx hb dMo_feed_61 rfl (lv_at hl 0 rfl) ?_
    refine lv_if_ne (pc := 62) (tgt := 69) hx hb dMo_feed_62 (by decide) (fun hc => absurd hc (fun h => h rfl)) (fun _ => ?_)
    refine lv_iconst (pc := 65) (v := (nI 1)) hx hb dMo_feed_65 (by decide) ?_
    refine lv_goto (pc := 66) (tgt := 70) hx hb dMo_feed_66 (by decide) ?_
    refine lv_iconst (pc := 70) (v := (nI 1)) hx hb dMo_feed_70 (by decide) ?_
    refine fw_cV (pc := 71) (As := [.int (nI 1), .int (nI 1)]) (rest := []) ⟨hx, hb, hml, hown, hW⟩ (c_Mo_fails1 (k := 1) hS) (cwV 2 hW (kw_V lm_Mo_39 im_Mo_fails se_Mo_fails ini_Mo cd_Mo_fails) rfl rfl rfl (by decide +kernel) ⟨Nat.le_of_ble_eq_true rfl, Nat.le_of_ble_eq_true rfl⟩) hK hw b0 rfl rfl hl.1 rfl (Nat.le_of_ble_eq_true rfl) dMo_feed_71 ⟨Nat.le_of_ble_eq_true rfl, Nat.le_of_ble_eq_true rfl⟩ (fun v w1 H locs hq hw => ?_)
    obtain ⟨rfl, hS_, hfr_⟩ := hq
    have hfr : ∀ q, q ≠ b → w1 q = w q := fun q hq => hfr_ q hq
    have b0 : w1 b = some (.inr (10, [.int (nI (1)), .ref (b + 1), .ref (b + 2), .int (nI (I 3)), .ref (b + 3), .ref (b + 4), .int (nI (I 6)), .int (nI (I 7)), .ref (b + 5), .ref (b + 6), .int (nI (I 10)), .int (nI (I 11)), .int (nI (I 12)), .int (nI (I 13)), .ref (b + 7), .ref (b + 8), .int (nI (I 16)), .int (nI (I 17)), .int (nI (I 18)), .int (nI (I 19))])) := hS_.1
    have hS : moS cI cL w1 b (va_up I 0 1) K S C := hS_
    refine W.eq (g2 := F0 m 74 ls [.int (nI 1)]) rfl ?_
    refine lv_if_eq (pc := 74) (tgt := 79) hx hb dMo_feed_74 (by decide) (fun hc => absurd hc (show ¬ nI 1 = 0 by decide)) (fun _ => ?_)
    refine lv_iconst (pc := 77) (v := (nI 0)) hx hb dMo_feed_77 (by decide) ?_
    exact fw_iret (pc := 78) hx hb hr hlocks hw dMo_feed_78 ⟨rfl, hS, fun q hq => hfr q (by omega)⟩
  refine lv_iload_n (pc := 0) hx hb dMo_feed_0 rfl (lv_at hl 1 rfl) ?_
  refine lv_if_ne (pc := 1) (tgt := 16) hx hb dMo_feed_1 (by decide) (fun h1 => ?_) (fun h1 => ?_)
  · refine lv_iload_n (pc := 16) hx hb dMo_feed_16 rfl (lv_at hl 1 rfl) ?_
    refine lv_iconst (pc := 17) (v := (nI 1)) hx hb dMo_feed_17 (by decide) ?_
    refine lv_icmp_ne (pc := 18) (tgt := 39) hx hb dMo_feed_18 (by decide) (fun h2 => ?_) (fun h2 => ?_)
    · refine lv_iload_n (pc := 39) hx hb dMo_feed_39 rfl (lv_at hl 1 rfl) ?_
      refine lv_iconst (pc := 40) (v := (nI 1)) hx hb dMo_feed_40 (by decide) ?_
      refine lv_icmp_le (pc := 41) (tgt := 58) hx hb dMo_feed_41 (by decide) (fun h3 => ?_) (fun h3 => ?_)
      · refine lv_iconst (pc := 58) (v := (nI 0)) hx hb dMo_feed_58 (by decide) ?_
        exact rest
      · refine lv_iload_n (pc := 44) hx hb dMo_feed_44 rfl (lv_at hl 1 rfl) ?_
        refine lv_bipush (pc := 45) (v := (nI 14)) hx hb dMo_feed_45 (by decide) ?_
        refine lv_icmp_ge (pc := 47) (tgt := 58) hx hb dMo_feed_47 (by decide) (fun h4 => ?_) (fun h4 => ?_)
        · refine lv_iconst (pc := 58) (v := (nI 0)) hx hb dMo_feed_58 (by decide) ?_
          exact rest
        · refine lv_iload_n (pc := 50) hx hb dMo_feed_50 rfl (lv_at hl 2 rfl) ?_
          refine lv_if_ne (pc := 51) (tgt := 58) hx hb dMo_feed_51 (by decide) (fun h5 => ?_) (fun h5 => ?_)
          · refine lv_iconst (pc := 58) (v := (nI 0)) hx hb dMo_feed_58 (by decide) ?_
            exact rest
          · refine lv_iconst (pc := 54) (v := (nI 1)) hx hb dMo_feed_54 (by decide) ?_
            refine lv_goto (pc := 55) (tgt := 59) hx hb dMo_feed_55 (by decide) ?_
            exact absurd ht (by simp [tk_eq, h1, h2, h3, h4, h5] <;> decide)
    · refine lv_iload_n (pc := 21) hx hb dMo_feed_21 rfl (lv_at hl 2 rfl) ?_
      refine lv_if_lt (pc := 22) (tgt := 35) hx hb dMo_feed_22 (by decide) (fun h3 => ?_) (fun h3 => ?_)
      · refine lv_iconst (pc := 35) (v := (nI 0)) hx hb dMo_feed_35 (by decide) ?_
        refine lv_goto (pc := 36) (tgt := 59) hx hb dMo_feed_36 (by decide) ?_
        exact rest
      · refine lv_iload_n (pc := 25) hx hb dMo_feed_25 rfl (lv_at hl 2 rfl) ?_
        refine lv_bipush (pc := 26) (v := (nI 8)) hx hb dMo_feed_26 (by decide) ?_
        refine lv_icmp_ge (pc := 28) (tgt := 35) hx hb dMo_feed_28 (by decide) (fun h4 => ?_) (fun h4 => ?_)
        · refine lv_iconst (pc := 35) (v := (nI 0)) hx hb dMo_feed_35 (by decide) ?_
          refine lv_goto (pc := 36) (tgt := 59) hx hb dMo_feed_36 (by decide) ?_
          exact rest
        · refine lv_iconst (pc := 31) (v := (nI 1)) hx hb dMo_feed_31 (by decide) ?_
          refine lv_goto (pc := 32) (tgt := 59) hx hb dMo_feed_32 (by decide) ?_
          exact absurd ht (by simp [tk_eq, h1, h2, h3, h4] <;> decide)
  · refine lv_iload_n (pc := 4) hx hb dMo_feed_4 rfl (lv_at hl 2 rfl) ?_
    refine lv_if_lt (pc := 5) (tgt := 12) hx hb dMo_feed_5 (by decide) (fun h2 => ?_) (fun h2 => ?_)
    · refine lv_iconst (pc := 12) (v := (nI 0)) hx hb dMo_feed_12 (by decide) ?_
      refine lv_goto (pc := 13) (tgt := 59) hx hb dMo_feed_13 (by decide) ?_
      exact rest
    · refine lv_iconst (pc := 8) (v := (nI 1)) hx hb dMo_feed_8 (by decide) ?_
      refine lv_goto (pc := 9) (tgt := 59) hx hb dMo_feed_9 (by decide) ?_
      exact absurd ht (by simp [tk_eq, h1, h2] <;> decide)

set_option maxHeartbeats 4000000 in
set_option maxRecDepth 100000 in
theorem c_Mo_feedFull {b : Nat} {I : Nat → Nat} {K : Nat → Nat → Nat} {S : Nat → Int32} {C : Nat → Nat} (hS : moS cI cL w b I K S C) {k u : Nat} (ht : ¬ tk (nI k) (nI u) = false) (h3 : I 3 = 120) : fw_C l yMo_feed (Cond.code yMo_feed cMo_feed 4 (some FieldType.int) :: kWs) ({ frames := 1, cells := 0, slots := 0, locals := 22 } : Room) D kCl (kty cI cL cQ) z [.ref b, .int (nI k), .int (nI u)] (sz) w 0 0 (fun v w' => v = some (.int (-1)) ∧ moS cI cL w' b (va_up I 0 0) K S C ∧ ∀ q, q < b ∨ b + 9 ≤ q → w' q = w q) := by
  refine fw_ofW (cc := cMo_feed) (maxL := 4) (ret := (some FieldType.int)) (by decide) rfl (Nat.le_of_ble_eq_true rfl) ?_
  intro p e s m args below meth c hx hb hr hts hown hlocks hname hml hK H ls hw hl
  have hW : ∀ w ∈ kWs, w.before args s = true := fun w h => hts w (List.mem_cons_of_mem _ h)
  have hown : s.vm.findClass RMo = some m.cls := hown
  have hl : lv_has ls 4 [(0, .ref b), (1, .int (nI k)), (2, .int (nI u))] := hl
  have b0 : w b = some (.inr (10, [.int (nI (I 0)), .ref (b + 1), .ref (b + 2), .int (nI (I 3)), .ref (b + 3), .ref (b + 4), .int (nI (I 6)), .int (nI (I 7)), .ref (b + 5), .ref (b + 6), .int (nI (I 10)), .int (nI (I 11)), .int (nI (I 12)), .int (nI (I 13)), .ref (b + 7), .ref (b + 8), .int (nI (I 16)), .int (nI (I 17)), .int (nI (I 18)), .int (nI (I 19))])) := hS.1
  have rest : W p l e ({ frames := 1, cells := 0, slots := 0, locals := 22 } : Room) s m args below meth c H [] 0 0 (MQ below (fw_Q D kCl w (sz) 0 (fun v w' => v = some (.int (-1)) ∧ moS cI cL w' b (va_up I 0 0) K S C ∧ ∀ q, q < b ∨ b + 9 ≤ q → w' q = w q)) args s 0 0 (fw_A w (sz))) (F0 m 59 ls [.int (nI 1)]) := by
    refine lv_istore_n (pc := 59) (lv' := [(3, .int (nI 1)), (0, .ref b), (1, .int (nI k)), (2, .int (nI u))]) hx hb dMo_feed_59 rfl hl (by decide) rfl (fun ls hl => ?_)
    refine lv_aload_n (pc := 60) hx hb dMo_feed_60 rfl (lv_at hl 1 rfl) ?_
    refine lv_iload_n (pc := 61) hx hb dMo_feed_61 rfl (lv_at hl 0 rfl) ?_
    refine lv_if_ne (pc := 62) (tgt := 69) hx hb dMo_feed_62 (by decide) (fun _ => ?_) (fun hc => absurd hc (show ¬ nI 1 = 0 by decide))
    refine lv_iconst (pc := 69) (v := (nI 0)) hx hb dMo_feed_69 (by decide) ?_
    refine lv_iconst (pc := 70) (v := (nI 1)) hx hb dMo_feed_70 (by decide) ?_
    refine fw_cV (pc := 71) (As := [.int (nI 0), .int (nI 1)]) (rest := []) ⟨hx, hb, hml, hown, hW⟩ (c_Mo_fails0 (k := 1) hS) (cwV 2 hW (kw_V lm_Mo_39 im_Mo_fails se_Mo_fails ini_Mo cd_Mo_fails) rfl rfl rfl (by decide +kernel) ⟨Nat.le_of_ble_eq_true rfl, Nat.le_of_ble_eq_true rfl⟩) hK hw b0 rfl rfl hl.1 rfl (Nat.le_of_ble_eq_true rfl) dMo_feed_71 ⟨Nat.le_of_ble_eq_true rfl, Nat.le_of_ble_eq_true rfl⟩ (fun v w1 H locs hq hw => ?_)
    obtain ⟨rfl, hS_, hfr_⟩ := hq
    have hfr : ∀ q, q ≠ b → w1 q = w q := fun q hq => hfr_ q hq
    have b0 : w1 b = some (.inr (10, [.int (nI (0)), .ref (b + 1), .ref (b + 2), .int (nI (I 3)), .ref (b + 3), .ref (b + 4), .int (nI (I 6)), .int (nI (I 7)), .ref (b + 5), .ref (b + 6), .int (nI (I 10)), .int (nI (I 11)), .int (nI (I 12)), .int (nI (I 13)), .ref (b + 7), .ref (b + 8), .int (nI (I 16)), .int (nI (I 17)), .int (nI (I 18)), .int (nI (I 19))])) := hS_.1
    have hS : moS cI cL w1 b (va_up I 0 0) K S C := hS_
    refine W.eq (g2 := F0 m 74 ls [.int (nI 0)]) rfl ?_
    refine lv_if_eq (pc := 74) (tgt := 79) hx hb dMo_feed_74 (by decide) (fun _ => ?_) (fun hc => absurd (show nI 0 = 0 by decide) hc)
    refine lv_aload_n (pc := 79) hx hb dMo_feed_79 rfl (lv_at hl 1 rfl) ?_
    refine fw_get (pc := 80) (ci := 10) (v := .int (nI (I 3))) (C := RMo) (T := TMo) (N := 20) hx hb hW in_Mo hown hK.1 hw b0 rfl 3 (by decide) (hW _ lf_Mo_43) (fun _ h => h) rfl dMo_feed_80 ?_
    refine lv_bipush (pc := 83) (v := (nI 120)) hx hb dMo_feed_83 (by decide) ?_
    refine lv_icmp_ne (pc := 85) (tgt := 90) hx hb dMo_feed_85 (by decide) (fun hc => absurd hc (fun h => h (by rw [h3]))) (fun _ => ?_)
    refine lv_iconst (pc := 88) (v := (-1)) hx hb dMo_feed_88 (by decide) ?_
    exact fw_iret (pc := 89) hx hb hr hlocks hw dMo_feed_89 ⟨rfl, hS, fun q hq => hfr q (by omega)⟩
  refine lv_iload_n (pc := 0) hx hb dMo_feed_0 rfl (lv_at hl 1 rfl) ?_
  refine lv_if_ne (pc := 1) (tgt := 16) hx hb dMo_feed_1 (by decide) (fun h1 => ?_) (fun h1 => ?_)
  · refine lv_iload_n (pc := 16) hx hb dMo_feed_16 rfl (lv_at hl 1 rfl) ?_
    refine lv_iconst (pc := 17) (v := (nI 1)) hx hb dMo_feed_17 (by decide) ?_
    refine lv_icmp_ne (pc := 18) (tgt := 39) hx hb dMo_feed_18 (by decide) (fun h2 => ?_) (fun h2 => ?_)
    · refine lv_iload_n (pc := 39) hx hb dMo_feed_39 rfl (lv_at hl 1 rfl) ?_
      refine lv_iconst (pc := 40) (v := (nI 1)) hx hb dMo_feed_40 (by decide) ?_
      refine lv_icmp_le (pc := 41) (tgt := 58) hx hb dMo_feed_41 (by decide) (fun h3 => ?_) (fun h3 => ?_)
      · refine lv_iconst (pc := 58) (v := (nI 0)) hx hb dMo_feed_58 (by decide) ?_
        exact absurd ht (by simp [tk_eq, h1, h2, h3] <;> decide)
      · refine lv_iload_n (pc := 44) hx hb dMo_feed_44 rfl (lv_at hl 1 rfl) ?_
        refine lv_bipush (pc := 45) (v := (nI 14)) hx hb dMo_feed_45 (by decide) ?_
        refine lv_icmp_ge (pc := 47) (tgt := 58) hx hb dMo_feed_47 (by decide) (fun h4 => ?_) (fun h4 => ?_)
        · refine lv_iconst (pc := 58) (v := (nI 0)) hx hb dMo_feed_58 (by decide) ?_
          exact absurd ht (by simp [tk_eq, h1, h2, h3, h4] <;> decide)
        · refine lv_iload_n (pc := 50) hx hb dMo_feed_50 rfl (lv_at hl 2 rfl) ?_
          refine lv_if_ne (pc := 51) (tgt := 58) hx hb dMo_feed_51 (by decide) (fun h5 => ?_) (fun h5 => ?_)
          · refine lv_iconst (pc := 58) (v := (nI 0)) hx hb dMo_feed_58 (by decide) ?_
            exact absurd ht (by simp [tk_eq, h1, h2, h3, h4, h5] <;> decide)
          · refine lv_iconst (pc := 54) (v := (nI 1)) hx hb dMo_feed_54 (by decide) ?_
            refine lv_goto (pc := 55) (tgt := 59) hx hb dMo_feed_55 (by decide) ?_
            exact rest
    · refine lv_iload_n (pc := 21) hx hb dMo_feed_21 rfl (lv_at hl 2 rfl) ?_
      refine lv_if_lt (pc := 22) (tgt := 35) hx hb dMo_feed_22 (by decide) (fun h3 => ?_) (fun h3 => ?_)
      · refine lv_iconst (pc := 35) (v := (nI 0)) hx hb dMo_feed_35 (by decide) ?_
        refine lv_goto (pc := 36) (tgt := 59) hx hb dMo_feed_36 (by decide) ?_
        exact absurd ht (by simp [tk_eq, h1, h2, h3] <;> decide)
      · refine lv_iload_n (pc := 25) hx hb dMo_feed_25 rfl (lv_at hl 2 rfl) ?_
        refine lv_bipush (pc := 26) (v := (nI 8)) hx hb dMo_feed_26 (by decide) ?_
        refine lv_icmp_ge (pc := 28) (tgt := 35) hx hb dMo_feed_28 (by decide) (fun h4 => ?_) (fun h4 => ?_)
        · refine lv_iconst (pc := 35) (v := (nI 0)) hx hb dMo_feed_35 (by decide) ?_
          refine lv_goto (pc := 36) (tgt := 59) hx hb dMo_feed_36 (by decide) ?_
          exact absurd ht (by simp [tk_eq, h1, h2, h3, h4] <;> decide)
        · refine lv_iconst (pc := 31) (v := (nI 1)) hx hb dMo_feed_31 (by decide) ?_
          refine lv_goto (pc := 32) (tgt := 59) hx hb dMo_feed_32 (by decide) ?_
          exact rest
  · refine lv_iload_n (pc := 4) hx hb dMo_feed_4 rfl (lv_at hl 2 rfl) ?_
    refine lv_if_lt (pc := 5) (tgt := 12) hx hb dMo_feed_5 (by decide) (fun h2 => ?_) (fun h2 => ?_)
    · refine lv_iconst (pc := 12) (v := (nI 0)) hx hb dMo_feed_12 (by decide) ?_
      refine lv_goto (pc := 13) (tgt := 59) hx hb dMo_feed_13 (by decide) ?_
      exact absurd ht (by simp [tk_eq, h1, h2] <;> decide)
    · refine lv_iconst (pc := 8) (v := (nI 1)) hx hb dMo_feed_8 (by decide) ?_
      refine lv_goto (pc := 9) (tgt := 59) hx hb dMo_feed_9 (by decide) ?_
      exact rest

set_option maxHeartbeats 4000000 in
set_option maxRecDepth 100000 in
theorem c_Mo_feed {b : Nat} {I : Nat → Nat} {K : Nat → Nat → Nat} {S : Nat → Int32} {C : Nat → Nat} (hS : moS cI cL w b I K S C) {k u : Nat} (ht : ¬ tk (nI k) (nI u) = false) (h3 : I 3 < 120) : fw_C l yMo_feed (Cond.code yMo_feed cMo_feed 4 (some FieldType.int) :: kWs) ({ frames := 1, cells := 0, slots := 0, locals := 22 } : Room) D kCl (kty cI cL cQ) z [.ref b, .int (nI k), .int (nI u)] (sz) w 0 0 (fun v w' => v = some (.int (nI (I 3 + 1))) ∧ moS cI cL w' b (va_up (va_up I 0 0) 3 (I 3 + 1)) (va_up (va_up K 0 (va_up (K 0) (I 3) k)) 1 (va_up (K 1) (I 3) u)) S C ∧ ∀ q, q < b ∨ b + 9 ≤ q → w' q = w q) := by
  refine fw_ofW (cc := cMo_feed) (maxL := 4) (ret := (some FieldType.int)) (by decide) rfl (Nat.le_of_ble_eq_true rfl) ?_
  intro p e s m args below meth c hx hb hr hts hown hlocks hname hml hK H ls hw hl
  have hW : ∀ w ∈ kWs, w.before args s = true := fun w h => hts w (List.mem_cons_of_mem _ h)
  have hown : s.vm.findClass RMo = some m.cls := hown
  have hl : lv_has ls 4 [(0, .ref b), (1, .int (nI k)), (2, .int (nI u))] := hl
  have b0 : w b = some (.inr (10, [.int (nI (I 0)), .ref (b + 1), .ref (b + 2), .int (nI (I 3)), .ref (b + 3), .ref (b + 4), .int (nI (I 6)), .int (nI (I 7)), .ref (b + 5), .ref (b + 6), .int (nI (I 10)), .int (nI (I 11)), .int (nI (I 12)), .int (nI (I 13)), .ref (b + 7), .ref (b + 8), .int (nI (I 16)), .int (nI (I 17)), .int (nI (I 18)), .int (nI (I 19))])) := hS.1
  have rest : W p l e ({ frames := 1, cells := 0, slots := 0, locals := 22 } : Room) s m args below meth c H [] 0 0 (MQ below (fw_Q D kCl w (sz) 0 (fun v w' => v = some (.int (nI (I 3 + 1))) ∧ moS cI cL w' b (va_up (va_up I 0 0) 3 (I 3 + 1)) (va_up (va_up K 0 (va_up (K 0) (I 3) k)) 1 (va_up (K 1) (I 3) u)) S C ∧ ∀ q, q < b ∨ b + 9 ≤ q → w' q = w q)) args s 0 0 (fw_A w (sz))) (F0 m 59 ls [.int (nI 1)]) := by
    refine lv_istore_n (pc := 59) (lv' := [(3, .int (nI 1)), (0, .ref b), (1, .int (nI k)), (2, .int (nI u))]) hx hb dMo_feed_59 rfl hl (by decide) rfl (fun ls hl => ?_)
    refine lv_aload_n (pc := 60) hx hb dMo_feed_60 rfl (lv_at hl 1 rfl) ?_
    refine lv_iload_n (pc := 61) hx hb dMo_feed_61 rfl (lv_at hl 0 rfl) ?_
    refine lv_if_ne (pc := 62) (tgt := 69) hx hb dMo_feed_62 (by decide) (fun _ => ?_) (fun hc => absurd hc (show ¬ nI 1 = 0 by decide))
    refine lv_iconst (pc := 69) (v := (nI 0)) hx hb dMo_feed_69 (by decide) ?_
    refine lv_iconst (pc := 70) (v := (nI 1)) hx hb dMo_feed_70 (by decide) ?_
    refine fw_cV (pc := 71) (As := [.int (nI 0), .int (nI 1)]) (rest := []) ⟨hx, hb, hml, hown, hW⟩ (c_Mo_fails0 (k := 1) hS) (cwV 2 hW (kw_V lm_Mo_39 im_Mo_fails se_Mo_fails ini_Mo cd_Mo_fails) rfl rfl rfl (by decide +kernel) ⟨Nat.le_of_ble_eq_true rfl, Nat.le_of_ble_eq_true rfl⟩) hK hw b0 rfl rfl hl.1 rfl (Nat.le_of_ble_eq_true rfl) dMo_feed_71 ⟨Nat.le_of_ble_eq_true rfl, Nat.le_of_ble_eq_true rfl⟩ (fun v w1 H locs hq hw => ?_)
    obtain ⟨rfl, hS_, hfr_⟩ := hq
    have hfr : ∀ q, q ≠ b → w1 q = w q := fun q hq => hfr_ q hq
    have b0 : w1 b = some (.inr (10, [.int (nI (0)), .ref (b + 1), .ref (b + 2), .int (nI (I 3)), .ref (b + 3), .ref (b + 4), .int (nI (I 6)), .int (nI (I 7)), .ref (b + 5), .ref (b + 6), .int (nI (I 10)), .int (nI (I 11)), .int (nI (I 12)), .int (nI (I 13)), .ref (b + 7), .ref (b + 8), .int (nI (I 16)), .int (nI (I 17)), .int (nI (I 18)), .int (nI (I 19))])) := hS_.1
    have hS : moS cI cL w1 b (va_up I 0 0) K S C := hS_
    refine W.eq (g2 := F0 m 74 ls [.int (nI 0)]) rfl ?_
    refine lv_if_eq (pc := 74) (tgt := 79) hx hb dMo_feed_74 (by decide) (fun _ => ?_) (fun hc => absurd (show nI 0 = 0 by decide) hc)
    refine lv_aload_n (pc := 79) hx hb dMo_feed_79 rfl (lv_at hl 1 rfl) ?_
    refine fw_get (pc := 80) (ci := 10) (v := .int (nI (I 3))) (C := RMo) (T := TMo) (N := 20) hx hb hW in_Mo hown hK.1 hw b0 rfl 3 (by decide) (hW _ lf_Mo_43) (fun _ h => h) rfl dMo_feed_80 ?_
    refine lv_bipush (pc := 83) (v := (nI 120)) hx hb dMo_feed_83 (by decide) ?_
    refine lv_icmp_ne (pc := 85) (tgt := 90) hx hb dMo_feed_85 (by decide) (fun _ => ?_) (fun hc => absurd hc (fun h => by have := (nI_eq (a := I 3) (b := 120) (by omega) (by decide)).mp h; omega))
    have k0 : w1 (b + 3) = some (.inl (cI, 120, .inl (fun i => nI (K 0 i)))) := hS.2.2.2 0 (by decide)
    have k1 : w1 (b + 4) = some (.inl (cI, 120, .inl (fun i => nI (K 1 i)))) := hS.2.2.2 1 (by decide)
    refine lv_aload_n (pc := 90) hx hb dMo_feed_90 rfl (lv_at hl 1 rfl) ?_
    refine fw_get (pc := 91) (ci := 10) (v := .ref (b + 3)) (C := RMo) (T := TMo) (N := 20) hx hb hW in_Mo hown hK.1 hw b0 rfl 4 (by decide) (hW _ lf_Mo_17) (fun _ h => h) rfl dMo_feed_91 ?_
    refine lv_aload_n (pc := 94) hx hb dMo_feed_94 rfl (lv_at hl 1 rfl) ?_
    refine fw_get (pc := 95) (ci := 10) (v := .int (nI (I 3))) (C := RMo) (T := TMo) (N := 20) hx hb hW in_Mo hown hK.1 hw b0 rfl 3 (by decide) (hW _ lf_Mo_43) (fun _ h => h) rfl dMo_feed_95 ?_
    refine lv_iload_n (pc := 98) hx hb dMo_feed_98 rfl (lv_at hl 2 rfl) ?_
    refine fw_iastN (pc := 99) (f2 := fun i => nI (va_up (K 0) (I 3) k i)) hx hb hK.1 hw 0 k0 rfl (I 3) h3 (by decide) (nI_up _ _ _) dMo_feed_99 (fun H locs hw => ?_)
    obtain ⟨w2, e2⟩ : ∃ w_, w_ = fw_up w1 (b + 3) (.inl (cI, 120, .inl (fun i => nI (va_up (K 0) (I 3) k i)))) := ⟨_, rfl⟩
    have hw : fw_H D kCl (fw_A w (sz)) s.heap w2 (sz) H locs := by rw [e2]; exact hw
    have b0_ : w2 (b) = some (.inr (10, [.int (nI (0)), .ref (b + 1), .ref (b + 2), .int (nI (I 3)), .ref (b + 3), .ref (b + 4), .int (nI (I 6)), .int (nI (I 7)), .ref (b + 5), .ref (b + 6), .int (nI (I 10)), .int (nI (I 11)), .int (nI (I 12)), .int (nI (I 13)), .ref (b + 7), .ref (b + 8), .int (nI (I 16)), .int (nI (I 17)), .int (nI (I 18)), .int (nI (I 19))])) := by rw [e2, fw_un (by omega)]; exact b0
    have k1_ : w2 (b + 4) = some (.inl (cI, 120, .inl (fun i => nI (K 1 i)))) := by rw [e2, fw_un (by omega)]; exact k1
    have k0_ : w2 (b + 3) = some (.inl (cI, 120, .inl (fun i => nI (va_up (K 0) (I 3) k i)))) := by rw [e2]; exact fw_us _ _ _
    have b0 := b0_
    have k0 := k0_
    have k1 := k1_
    refine lv_aload_n (pc := 100) hx hb dMo_feed_100 rfl (lv_at hl 1 rfl) ?_
    refine fw_get (pc := 101) (ci := 10) (v := .ref (b + 4)) (C := RMo) (T := TMo) (N := 20) hx hb hW in_Mo hown hK.1 hw b0 rfl 5 (by decide) (hW _ lf_Mo_20) (fun _ h => h) rfl dMo_feed_101 ?_
    refine lv_aload_n (pc := 104) hx hb dMo_feed_104 rfl (lv_at hl 1 rfl) ?_
    refine fw_get (pc := 105) (ci := 10) (v := .int (nI (I 3))) (C := RMo) (T := TMo) (N := 20) hx hb hW in_Mo hown hK.1 hw b0 rfl 3 (by decide) (hW _ lf_Mo_43) (fun _ h => h) rfl dMo_feed_105 ?_
    refine lv_iload_n (pc := 108) hx hb dMo_feed_108 rfl (lv_at hl 3 rfl) ?_
    refine fw_iastN (pc := 109) (f2 := fun i => nI (va_up (K 1) (I 3) u i)) hx hb hK.1 hw 0 k1 rfl (I 3) h3 (by decide) (nI_up _ _ _) dMo_feed_109 (fun H locs hw => ?_)
    obtain ⟨w3, e3⟩ : ∃ w_, w_ = fw_up w2 (b + 4) (.inl (cI, 120, .inl (fun i => nI (va_up (K 1) (I 3) u i)))) := ⟨_, rfl⟩
    have hw : fw_H D kCl (fw_A w (sz)) s.heap w3 (sz) H locs := by rw [e3]; exact hw
    have b0_ : w3 (b) = some (.inr (10, [.int (nI (0)), .ref (b + 1), .ref (b + 2), .int (nI (I 3)), .ref (b + 3), .ref (b + 4), .int (nI (I 6)), .int (nI (I 7)), .ref (b + 5), .ref (b + 6), .int (nI (I 10)), .int (nI (I 11)), .int (nI (I 12)), .int (nI (I 13)), .ref (b + 7), .ref (b + 8), .int (nI (I 16)), .int (nI (I 17)), .int (nI (I 18)), .int (nI (I 19))])) := by rw [e3, fw_un (by omega)]; exact b0
    have k0_ : w3 (b + 3) = some (.inl (cI, 120, .inl (fun i => nI (va_up (K 0) (I 3) k i)))) := by rw [e3, fw_un (by omega)]; exact k0
    have k1_ : w3 (b + 4) = some (.inl (cI, 120, .inl (fun i => nI (va_up (K 1) (I 3) u i)))) := by rw [e3]; exact fw_us _ _ _
    have b0 := b0_
    have k0 := k0_
    have k1 := k1_
    refine lv_aload_n (pc := 110) hx hb dMo_feed_110 rfl (lv_at hl 1 rfl) ?_
    refine lv_dup (pc := 111) hx hb dMo_feed_111 rfl ?_
    refine fw_get (pc := 112) (ci := 10) (v := .int (nI (I 3))) (C := RMo) (T := TMo) (N := 20) hx hb hW in_Mo hown hK.1 hw b0 rfl 3 (by decide) (hW _ lf_Mo_43) (fun _ h => h) rfl dMo_feed_112 ?_
    refine lv_iconst (pc := 115) (v := (nI 1)) hx hb dMo_feed_115 (by decide) ?_
    refine lv_iadd (pc := 116) hx hb dMo_feed_116 ?_
    rw [show ((nI (I 3) + (nI 1)) : Int32) = nI (I 3 + 1) from (nI_add (I 3) 1)]
    refine fw_put (pc := 117) (ci := 10) (v := .int (nI (I 3 + 1))) (ty := .int) (C := RMo) (T := TMo) (N := 20) hx hb hW in_Mo tyMo tyMo_ok nmMo hown hK.1 hw b0 rfl 3 (by decide) (hW _ lf_Mo_43) (fun _ h => h) rfl (by decide +kernel) rfl rfl (Nat.le_of_ble_eq_true rfl) dMo_feed_117 (fun H locs hw => ?_)
    obtain ⟨w4, e4⟩ : ∃ w_, w_ = fw_up w3 (b) (.inr (10, [.int (nI (0)), .ref (b + 1), .ref (b + 2), .int (nI (I 3 + 1)), .ref (b + 3), .ref (b + 4), .int (nI (I 6)), .int (nI (I 7)), .ref (b + 5), .ref (b + 6), .int (nI (I 10)), .int (nI (I 11)), .int (nI (I 12)), .int (nI (I 13)), .ref (b + 7), .ref (b + 8), .int (nI (I 16)), .int (nI (I 17)), .int (nI (I 18)), .int (nI (I 19))])) := ⟨_, rfl⟩
    have hw : fw_H D kCl (fw_A w (sz)) s.heap w4 (sz) H locs := by rw [e4]; exact hw
    have k0_ : w4 (b + 3) = some (.inl (cI, 120, .inl (fun i => nI (va_up (K 0) (I 3) k i)))) := by rw [e4, fw_un (by omega)]; exact k0
    have k1_ : w4 (b + 4) = some (.inl (cI, 120, .inl (fun i => nI (va_up (K 1) (I 3) u i)))) := by rw [e4, fw_un (by omega)]; exact k1
    have b0_ : w4 (b) = some (.inr (10, [.int (nI (0)), .ref (b + 1), .ref (b + 2), .int (nI (I 3 + 1)), .ref (b + 3), .ref (b + 4), .int (nI (I 6)), .int (nI (I 7)), .ref (b + 5), .ref (b + 6), .int (nI (I 10)), .int (nI (I 11)), .int (nI (I 12)), .int (nI (I 13)), .ref (b + 7), .ref (b + 8), .int (nI (I 16)), .int (nI (I 17)), .int (nI (I 18)), .int (nI (I 19))])) := by rw [e4]; exact fw_us _ _ _
    have b0 := b0_
    have k0 := k0_
    have k1 := k1_
    refine lv_aload_n (pc := 120) hx hb dMo_feed_120 rfl (lv_at hl 1 rfl) ?_
    refine fw_get (pc := 121) (ci := 10) (v := .int (nI (I 3 + 1))) (C := RMo) (T := TMo) (N := 20) hx hb hW in_Mo hown hK.1 hw b0 rfl 3 (by decide) (hW _ lf_Mo_43) (fun _ h => h) rfl dMo_feed_121 ?_
    exact fw_iret (pc := 124) hx hb hr hlocks hw dMo_feed_124 ⟨rfl, ⟨b0, by rw [e4, fw_un (by omega), e3, fw_un (by omega), e2, fw_un (by omega)]; exact hS.2.1, by rw [e4, fw_un (by omega), e3, fw_un (by omega), e2, fw_un (by omega)]; exact hS.2.2.1, fun j hj => by
        rcases (show j = 0 ∨ j = 1 ∨ (1 < j ∧ j < 6) by omega) with rfl | rfl | hj2
        · exact k0
        · exact k1
        · rw [e4, fw_un (by omega), e3, fw_un (by omega), e2, fw_un (by omega), show va_up (va_up K 0 (va_up (K 0) (I 3) k)) 1 (va_up (K 1) (I 3) u) j = K j from (if_neg (by omega)).trans (if_neg (by omega))]; exact hS.2.2.2 j hj⟩, fun q hq => by rw [e4, fw_un (by omega), e3, fw_un (by omega), e2, fw_un (by omega)]; exact hfr q (by omega)⟩
  refine lv_iload_n (pc := 0) hx hb dMo_feed_0 rfl (lv_at hl 1 rfl) ?_
  refine lv_if_ne (pc := 1) (tgt := 16) hx hb dMo_feed_1 (by decide) (fun h1 => ?_) (fun h1 => ?_)
  · refine lv_iload_n (pc := 16) hx hb dMo_feed_16 rfl (lv_at hl 1 rfl) ?_
    refine lv_iconst (pc := 17) (v := (nI 1)) hx hb dMo_feed_17 (by decide) ?_
    refine lv_icmp_ne (pc := 18) (tgt := 39) hx hb dMo_feed_18 (by decide) (fun h2 => ?_) (fun h2 => ?_)
    · refine lv_iload_n (pc := 39) hx hb dMo_feed_39 rfl (lv_at hl 1 rfl) ?_
      refine lv_iconst (pc := 40) (v := (nI 1)) hx hb dMo_feed_40 (by decide) ?_
      refine lv_icmp_le (pc := 41) (tgt := 58) hx hb dMo_feed_41 (by decide) (fun h3 => ?_) (fun h3 => ?_)
      · refine lv_iconst (pc := 58) (v := (nI 0)) hx hb dMo_feed_58 (by decide) ?_
        exact absurd ht (by simp [tk_eq, h1, h2, h3] <;> decide)
      · refine lv_iload_n (pc := 44) hx hb dMo_feed_44 rfl (lv_at hl 1 rfl) ?_
        refine lv_bipush (pc := 45) (v := (nI 14)) hx hb dMo_feed_45 (by decide) ?_
        refine lv_icmp_ge (pc := 47) (tgt := 58) hx hb dMo_feed_47 (by decide) (fun h4 => ?_) (fun h4 => ?_)
        · refine lv_iconst (pc := 58) (v := (nI 0)) hx hb dMo_feed_58 (by decide) ?_
          exact absurd ht (by simp [tk_eq, h1, h2, h3, h4] <;> decide)
        · refine lv_iload_n (pc := 50) hx hb dMo_feed_50 rfl (lv_at hl 2 rfl) ?_
          refine lv_if_ne (pc := 51) (tgt := 58) hx hb dMo_feed_51 (by decide) (fun h5 => ?_) (fun h5 => ?_)
          · refine lv_iconst (pc := 58) (v := (nI 0)) hx hb dMo_feed_58 (by decide) ?_
            exact absurd ht (by simp [tk_eq, h1, h2, h3, h4, h5] <;> decide)
          · refine lv_iconst (pc := 54) (v := (nI 1)) hx hb dMo_feed_54 (by decide) ?_
            refine lv_goto (pc := 55) (tgt := 59) hx hb dMo_feed_55 (by decide) ?_
            exact rest
    · refine lv_iload_n (pc := 21) hx hb dMo_feed_21 rfl (lv_at hl 2 rfl) ?_
      refine lv_if_lt (pc := 22) (tgt := 35) hx hb dMo_feed_22 (by decide) (fun h3 => ?_) (fun h3 => ?_)
      · refine lv_iconst (pc := 35) (v := (nI 0)) hx hb dMo_feed_35 (by decide) ?_
        refine lv_goto (pc := 36) (tgt := 59) hx hb dMo_feed_36 (by decide) ?_
        exact absurd ht (by simp [tk_eq, h1, h2, h3] <;> decide)
      · refine lv_iload_n (pc := 25) hx hb dMo_feed_25 rfl (lv_at hl 2 rfl) ?_
        refine lv_bipush (pc := 26) (v := (nI 8)) hx hb dMo_feed_26 (by decide) ?_
        refine lv_icmp_ge (pc := 28) (tgt := 35) hx hb dMo_feed_28 (by decide) (fun h4 => ?_) (fun h4 => ?_)
        · refine lv_iconst (pc := 35) (v := (nI 0)) hx hb dMo_feed_35 (by decide) ?_
          refine lv_goto (pc := 36) (tgt := 59) hx hb dMo_feed_36 (by decide) ?_
          exact absurd ht (by simp [tk_eq, h1, h2, h3, h4] <;> decide)
        · refine lv_iconst (pc := 31) (v := (nI 1)) hx hb dMo_feed_31 (by decide) ?_
          refine lv_goto (pc := 32) (tgt := 59) hx hb dMo_feed_32 (by decide) ?_
          exact rest
  · refine lv_iload_n (pc := 4) hx hb dMo_feed_4 rfl (lv_at hl 2 rfl) ?_
    refine lv_if_lt (pc := 5) (tgt := 12) hx hb dMo_feed_5 (by decide) (fun h2 => ?_) (fun h2 => ?_)
    · refine lv_iconst (pc := 12) (v := (nI 0)) hx hb dMo_feed_12 (by decide) ?_
      refine lv_goto (pc := 13) (tgt := 59) hx hb dMo_feed_13 (by decide) ?_
      exact absurd ht (by simp [tk_eq, h1, h2] <;> decide)
    · refine lv_iconst (pc := 8) (v := (nI 1)) hx hb dMo_feed_8 (by decide) ?_
      refine lv_goto (pc := 9) (tgt := 59) hx hb dMo_feed_9 (by decide) ?_
      exact rest

set_option maxHeartbeats 4000000 in
set_option maxRecDepth 100000 in
theorem c_Mo_restartT {b : Nat} {I : Nat → Nat} {K : Nat → Nat → Nat} {S : Nat → Int32} {C : Nat → Nat} (hS : moS cI cL w b I K S C) (h6 : I 6 = 0) : fw_C l yMo_restart (Cond.code yMo_restart cMo_restart 1 none :: kWs) ({ frames := 1, cells := 0, slots := 0, locals := 22 } : Room) D kCl (kty cI cL cQ) z [.ref b] (sz) w 0 0 (fun v w' => v = none ∧ moS cI cL w' b (va_up I 0 1) K S C ∧ ∀ q, q < b ∨ b + 9 ≤ q → w' q = w q) := by
  refine fw_ofW (cc := cMo_restart) (maxL := 1) (ret := none) (by decide) rfl (Nat.le_of_ble_eq_true rfl) ?_
  intro p e s m args below meth c hx hb hr hts hown hlocks hname hml hK H ls hw hl
  have hW : ∀ w ∈ kWs, w.before args s = true := fun w h => hts w (List.mem_cons_of_mem _ h)
  have hown : s.vm.findClass RMo = some m.cls := hown
  have hl : lv_has ls 1 [(0, .ref b)] := hl
  have b0 : w b = some (.inr (10, [.int (nI (I 0)), .ref (b + 1), .ref (b + 2), .int (nI (I 3)), .ref (b + 3), .ref (b + 4), .int (nI (I 6)), .int (nI (I 7)), .ref (b + 5), .ref (b + 6), .int (nI (I 10)), .int (nI (I 11)), .int (nI (I 12)), .int (nI (I 13)), .ref (b + 7), .ref (b + 8), .int (nI (I 16)), .int (nI (I 17)), .int (nI (I 18)), .int (nI (I 19))])) := hS.1
  refine lv_aload_n (pc := 0) hx hb dMo_restart_0 rfl (lv_at hl 0 rfl) ?_
  refine lv_aload_n (pc := 1) hx hb dMo_restart_1 rfl (lv_at hl 0 rfl) ?_
  refine fw_get (pc := 2) (ci := 10) (v := .int (nI (I 6))) (C := RMo) (T := TMo) (N := 20) hx hb hW in_Mo hown hK.1 hw b0 rfl 6 (by decide) (hW _ lf_Mo_110) (fun _ h => h) rfl dMo_restart_2 ?_
  refine lv_if_ne (pc := 5) (tgt := 12) hx hb dMo_restart_5 (by decide) (fun hc => absurd hc (fun h => h (by rw [h6]; rfl))) (fun _ => ?_)
  refine lv_iconst (pc := 8) (v := (nI 1)) hx hb dMo_restart_8 (by decide) ?_
  refine lv_goto (pc := 9) (tgt := 13) hx hb dMo_restart_9 (by decide) ?_
  refine lv_iconst (pc := 13) (v := (nI 1)) hx hb dMo_restart_13 (by decide) ?_
  refine fw_cV (pc := 14) (As := [.int (nI 1), .int (nI 1)]) (rest := []) ⟨hx, hb, hml, hown, hW⟩ (c_Mo_fails1 (k := 1) hS) (cwV 2 hW (kw_V lm_Mo_39 im_Mo_fails se_Mo_fails ini_Mo cd_Mo_fails) rfl rfl rfl (by decide +kernel) ⟨Nat.le_of_ble_eq_true rfl, Nat.le_of_ble_eq_true rfl⟩) hK hw b0 rfl rfl hl.1 rfl (Nat.le_of_ble_eq_true rfl) dMo_restart_14 ⟨Nat.le_of_ble_eq_true rfl, Nat.le_of_ble_eq_true rfl⟩ (fun v w1 H locs hq hw => ?_)
  obtain ⟨rfl, hS_, hfr_⟩ := hq
  have hfr : ∀ q, q ≠ b → w1 q = w q := fun q hq => hfr_ q hq
  have b0 : w1 b = some (.inr (10, [.int (nI (1)), .ref (b + 1), .ref (b + 2), .int (nI (I 3)), .ref (b + 3), .ref (b + 4), .int (nI (I 6)), .int (nI (I 7)), .ref (b + 5), .ref (b + 6), .int (nI (I 10)), .int (nI (I 11)), .int (nI (I 12)), .int (nI (I 13)), .ref (b + 7), .ref (b + 8), .int (nI (I 16)), .int (nI (I 17)), .int (nI (I 18)), .int (nI (I 19))])) := hS_.1
  have hS : moS cI cL w1 b (va_up I 0 1) K S C := hS_
  refine W.eq (g2 := F0 m 17 ls [.int (nI 1)]) rfl ?_
  refine lv_if_ne (pc := 17) (tgt := 24) hx hb dMo_restart_17 (by decide) (fun _ => ?_) (fun hc => absurd hc (show ¬ nI 1 = 0 by decide))
  exact fw_vret (pc := 24) hx hb hr hlocks hw dMo_restart_24 ⟨rfl, hS, fun q hq => hfr q (by omega)⟩

set_option maxHeartbeats 4000000 in
set_option maxRecDepth 100000 in
theorem c_Mo_restart {b : Nat} {I : Nat → Nat} {K : Nat → Nat → Nat} {S : Nat → Int32} {C : Nat → Nat} (hS : moS cI cL w b I K S C) (h6 : 0 < I 6) (h6b : I 6 < 2 ^ 31) : fw_C l yMo_restart (Cond.code yMo_restart cMo_restart 1 none :: kWs) ({ frames := 1, cells := 0, slots := 0, locals := 22 } : Room) D kCl (kty cI cL cQ) z [.ref b] (sz) w 0 0 (fun v w' => v = none ∧ moS cI cL w' b (fun i => if 16 ≤ i then 0 else va_up I 0 0 i) K S C ∧ ∀ q, q < b ∨ b + 9 ≤ q → w' q = w q) := by
  refine fw_ofW (cc := cMo_restart) (maxL := 1) (ret := none) (by decide) rfl (Nat.le_of_ble_eq_true rfl) ?_
  intro p e s m args below meth c hx hb hr hts hown hlocks hname hml hK H ls hw hl
  have hW : ∀ w ∈ kWs, w.before args s = true := fun w h => hts w (List.mem_cons_of_mem _ h)
  have hown : s.vm.findClass RMo = some m.cls := hown
  have hl : lv_has ls 1 [(0, .ref b)] := hl
  have b0 : w b = some (.inr (10, [.int (nI (I 0)), .ref (b + 1), .ref (b + 2), .int (nI (I 3)), .ref (b + 3), .ref (b + 4), .int (nI (I 6)), .int (nI (I 7)), .ref (b + 5), .ref (b + 6), .int (nI (I 10)), .int (nI (I 11)), .int (nI (I 12)), .int (nI (I 13)), .ref (b + 7), .ref (b + 8), .int (nI (I 16)), .int (nI (I 17)), .int (nI (I 18)), .int (nI (I 19))])) := hS.1
  refine lv_aload_n (pc := 0) hx hb dMo_restart_0 rfl (lv_at hl 0 rfl) ?_
  refine lv_aload_n (pc := 1) hx hb dMo_restart_1 rfl (lv_at hl 0 rfl) ?_
  refine fw_get (pc := 2) (ci := 10) (v := .int (nI (I 6))) (C := RMo) (T := TMo) (N := 20) hx hb hW in_Mo hown hK.1 hw b0 rfl 6 (by decide) (hW _ lf_Mo_110) (fun _ h => h) rfl dMo_restart_2 ?_
  refine lv_if_ne (pc := 5) (tgt := 12) hx hb dMo_restart_5 (by decide) (fun _ => ?_) (fun hc => absurd hc (nI_ne0 h6 h6b))
  refine lv_iconst (pc := 12) (v := (nI 0)) hx hb dMo_restart_12 (by decide) ?_
  refine lv_iconst (pc := 13) (v := (nI 1)) hx hb dMo_restart_13 (by decide) ?_
  refine fw_cV (pc := 14) (As := [.int (nI 0), .int (nI 1)]) (rest := []) ⟨hx, hb, hml, hown, hW⟩ (c_Mo_fails0 (k := 1) hS) (cwV 2 hW (kw_V lm_Mo_39 im_Mo_fails se_Mo_fails ini_Mo cd_Mo_fails) rfl rfl rfl (by decide +kernel) ⟨Nat.le_of_ble_eq_true rfl, Nat.le_of_ble_eq_true rfl⟩) hK hw b0 rfl rfl hl.1 rfl (Nat.le_of_ble_eq_true rfl) dMo_restart_14 ⟨Nat.le_of_ble_eq_true rfl, Nat.le_of_ble_eq_true rfl⟩ (fun v w1 H locs hq hw => ?_)
  obtain ⟨rfl, hS_, hfr_⟩ := hq
  have hfr : ∀ q, q ≠ b → w1 q = w q := fun q hq => hfr_ q hq
  have b0 : w1 b = some (.inr (10, [.int (nI (0)), .ref (b + 1), .ref (b + 2), .int (nI (I 3)), .ref (b + 3), .ref (b + 4), .int (nI (I 6)), .int (nI (I 7)), .ref (b + 5), .ref (b + 6), .int (nI (I 10)), .int (nI (I 11)), .int (nI (I 12)), .int (nI (I 13)), .ref (b + 7), .ref (b + 8), .int (nI (I 16)), .int (nI (I 17)), .int (nI (I 18)), .int (nI (I 19))])) := hS_.1
  have hS : moS cI cL w1 b (va_up I 0 0) K S C := hS_
  refine W.eq (g2 := F0 m 17 ls [.int (nI 0)]) rfl ?_
  refine lv_if_ne (pc := 17) (tgt := 24) hx hb dMo_restart_17 (by decide) (fun hc => absurd hc (fun h => h rfl)) (fun _ => ?_)
  refine lv_aload_n (pc := 20) hx hb dMo_restart_20 rfl (lv_at hl 0 rfl) ?_
  refine fw_cV (pc := 21) (As := []) (rest := []) ⟨hx, hb, hml, hown, hW⟩ (c_Mo_begin hS) (cwV 0 hW (kw_V lm_Mo_114 im_Mo_begin se_Mo_begin ini_Mo cd_Mo_begin) rfl rfl rfl (by decide +kernel) ⟨Nat.le_of_ble_eq_true rfl, Nat.le_of_ble_eq_true rfl⟩) hK hw b0 rfl rfl hl.1 rfl (Nat.le_of_ble_eq_true rfl) dMo_restart_21 ⟨Nat.le_of_ble_eq_true rfl, Nat.le_of_ble_eq_true rfl⟩ (fun v w2 H locs hq hw => ?_)
  obtain ⟨rfl, hS2, hfr2⟩ := hq
  refine W.eq (g2 := F0 m 24 ls []) rfl ?_
  exact fw_vret (pc := 24) hx hb hr hlocks hw dMo_restart_24 ⟨rfl, hS2, fun q hq => (hfr2 q (by omega)).trans (hfr q (by omega))⟩

set_option maxHeartbeats 4000000 in
set_option maxRecDepth 100000 in
theorem c_Mo_runS {b : Nat} {I : Nat → Nat} {K : Nat → Nat → Nat} {S : Nat → Int32} {C : Nat → Nat} (hS : moS cI cL w b I K S C) {x : Int32} (h6 : I 6 = 0) : fw_C l yMo_run (Cond.code yMo_run cMo_run 3 (some FieldType.int) :: kWs) ({ frames := 1, cells := 0, slots := 0, locals := 22 } : Room) D kCl (kty cI cL cQ) z [.ref b, .int x] (sz) w 0 0 (fun v w' => v = some (.int (nI 0)) ∧ moS cI cL w' b (va_up I 0 1) K S C ∧ ∀ q, q < b ∨ b + 9 ≤ q → w' q = w q) := by
  refine fw_ofW (cc := cMo_run) (maxL := 3) (ret := (some FieldType.int)) (by decide) rfl (Nat.le_of_ble_eq_true rfl) ?_
  intro p e s m args below meth c hx hb hr hts hown hlocks hname hml hK H ls hw hl
  have hW : ∀ w ∈ kWs, w.before args s = true := fun w h => hts w (List.mem_cons_of_mem _ h)
  have hown : s.vm.findClass RMo = some m.cls := hown
  have hl : lv_has ls 3 [(0, .ref b), (1, .int x)] := hl
  have b0 : w b = some (.inr (10, [.int (nI (I 0)), .ref (b + 1), .ref (b + 2), .int (nI (I 3)), .ref (b + 3), .ref (b + 4), .int (nI (I 6)), .int (nI (I 7)), .ref (b + 5), .ref (b + 6), .int (nI (I 10)), .int (nI (I 11)), .int (nI (I 12)), .int (nI (I 13)), .ref (b + 7), .ref (b + 8), .int (nI (I 16)), .int (nI (I 17)), .int (nI (I 18)), .int (nI (I 19))])) := hS.1
  refine lv_aload_n (pc := 0) hx hb dMo_run_0 rfl (lv_at hl 0 rfl) ?_
  refine lv_aload_n (pc := 1) hx hb dMo_run_1 rfl (lv_at hl 0 rfl) ?_
  refine fw_get (pc := 2) (ci := 10) (v := .int (nI (I 6))) (C := RMo) (T := TMo) (N := 20) hx hb hW in_Mo hown hK.1 hw b0 rfl 6 (by decide) (hW _ lf_Mo_110) (fun _ h => h) rfl dMo_run_2 ?_
  refine lv_if_ne (pc := 5) (tgt := 12) hx hb dMo_run_5 (by decide) (fun hc => absurd hc (fun h => h (by rw [h6]; rfl))) (fun _ => ?_)
  refine lv_iconst (pc := 8) (v := (nI 1)) hx hb dMo_run_8 (by decide) ?_
  refine lv_goto (pc := 9) (tgt := 13) hx hb dMo_run_9 (by decide) ?_
  refine lv_iconst (pc := 13) (v := (nI 1)) hx hb dMo_run_13 (by decide) ?_
  refine fw_cV (pc := 14) (As := [.int (nI 1), .int (nI 1)]) (rest := []) ⟨hx, hb, hml, hown, hW⟩ (c_Mo_fails1 (k := 1) hS) (cwV 2 hW (kw_V lm_Mo_39 im_Mo_fails se_Mo_fails ini_Mo cd_Mo_fails) rfl rfl rfl (by decide +kernel) ⟨Nat.le_of_ble_eq_true rfl, Nat.le_of_ble_eq_true rfl⟩) hK hw b0 rfl rfl hl.1 rfl (Nat.le_of_ble_eq_true rfl) dMo_run_14 ⟨Nat.le_of_ble_eq_true rfl, Nat.le_of_ble_eq_true rfl⟩ (fun v w1 H locs hq hw => ?_)
  obtain ⟨rfl, hS_, hfr_⟩ := hq
  have hfr : ∀ q, q ≠ b → w1 q = w q := fun q hq => hfr_ q hq
  have b0 : w1 b = some (.inr (10, [.int (nI (1)), .ref (b + 1), .ref (b + 2), .int (nI (I 3)), .ref (b + 3), .ref (b + 4), .int (nI (I 6)), .int (nI (I 7)), .ref (b + 5), .ref (b + 6), .int (nI (I 10)), .int (nI (I 11)), .int (nI (I 12)), .int (nI (I 13)), .ref (b + 7), .ref (b + 8), .int (nI (I 16)), .int (nI (I 17)), .int (nI (I 18)), .int (nI (I 19))])) := hS_.1
  have hS : moS cI cL w1 b (va_up I 0 1) K S C := hS_
  refine W.eq (g2 := F0 m 17 ls [.int (nI 1)]) rfl ?_
  refine lv_if_ne (pc := 17) (tgt := 44) hx hb dMo_run_17 (by decide) (fun _ => ?_) (fun hc => absurd hc (show ¬ nI 1 = 0 by decide))
  refine lv_iconst (pc := 44) (v := (nI 0)) hx hb dMo_run_44 (by decide) ?_
  exact fw_iret (pc := 45) hx hb hr hlocks hw dMo_run_45 ⟨rfl, hS, fun q hq => hfr q (by omega)⟩

set_option maxHeartbeats 4000000 in
set_option maxRecDepth 100000 in
theorem c_Mo_runA {b : Nat} {I : Nat → Nat} {K : Nat → Nat → Nat} {S : Nat → Int32} {C : Nat → Nat} (hS : moS cI cL w b I K S C) {x : Int32} (h6 : 0 < I 6) (h6b : I 6 < 2 ^ 31) (hx9 : x < 0 ∨ nI 10000 < x) : fw_C l yMo_run (Cond.code yMo_run cMo_run 3 (some FieldType.int) :: kWs) ({ frames := 1, cells := 0, slots := 0, locals := 22 } : Room) D kCl (kty cI cL cQ) z [.ref b, .int x] (sz) w 0 0 (fun v w' => v = some (.int (nI 0)) ∧ moS cI cL w' b (va_up I 0 2) K S C ∧ ∀ q, q < b ∨ b + 9 ≤ q → w' q = w q) := by
  refine fw_ofW (cc := cMo_run) (maxL := 3) (ret := (some FieldType.int)) (by decide) rfl (Nat.le_of_ble_eq_true rfl) ?_
  intro p e s m args below meth c hx hb hr hts hown hlocks hname hml hK H ls hw hl
  have hW : ∀ w ∈ kWs, w.before args s = true := fun w h => hts w (List.mem_cons_of_mem _ h)
  have hown : s.vm.findClass RMo = some m.cls := hown
  have hl : lv_has ls 3 [(0, .ref b), (1, .int x)] := hl
  have b0 : w b = some (.inr (10, [.int (nI (I 0)), .ref (b + 1), .ref (b + 2), .int (nI (I 3)), .ref (b + 3), .ref (b + 4), .int (nI (I 6)), .int (nI (I 7)), .ref (b + 5), .ref (b + 6), .int (nI (I 10)), .int (nI (I 11)), .int (nI (I 12)), .int (nI (I 13)), .ref (b + 7), .ref (b + 8), .int (nI (I 16)), .int (nI (I 17)), .int (nI (I 18)), .int (nI (I 19))])) := hS.1
  refine lv_aload_n (pc := 0) hx hb dMo_run_0 rfl (lv_at hl 0 rfl) ?_
  refine lv_aload_n (pc := 1) hx hb dMo_run_1 rfl (lv_at hl 0 rfl) ?_
  refine fw_get (pc := 2) (ci := 10) (v := .int (nI (I 6))) (C := RMo) (T := TMo) (N := 20) hx hb hW in_Mo hown hK.1 hw b0 rfl 6 (by decide) (hW _ lf_Mo_110) (fun _ h => h) rfl dMo_run_2 ?_
  refine lv_if_ne (pc := 5) (tgt := 12) hx hb dMo_run_5 (by decide) (fun _ => ?_) (fun hc => absurd hc (nI_ne0 h6 h6b))
  refine lv_iconst (pc := 12) (v := (nI 0)) hx hb dMo_run_12 (by decide) ?_
  refine lv_iconst (pc := 13) (v := (nI 1)) hx hb dMo_run_13 (by decide) ?_
  refine fw_cV (pc := 14) (As := [.int (nI 0), .int (nI 1)]) (rest := []) ⟨hx, hb, hml, hown, hW⟩ (c_Mo_fails0 (k := 1) hS) (cwV 2 hW (kw_V lm_Mo_39 im_Mo_fails se_Mo_fails ini_Mo cd_Mo_fails) rfl rfl rfl (by decide +kernel) ⟨Nat.le_of_ble_eq_true rfl, Nat.le_of_ble_eq_true rfl⟩) hK hw b0 rfl rfl hl.1 rfl (Nat.le_of_ble_eq_true rfl) dMo_run_14 ⟨Nat.le_of_ble_eq_true rfl, Nat.le_of_ble_eq_true rfl⟩ (fun v w1 H locs hq hw => ?_)
  obtain ⟨rfl, hS_, hfr_⟩ := hq
  have hfr : ∀ q, q ≠ b → w1 q = w q := fun q hq => hfr_ q hq
  have b0 : w1 b = some (.inr (10, [.int (nI (0)), .ref (b + 1), .ref (b + 2), .int (nI (I 3)), .ref (b + 3), .ref (b + 4), .int (nI (I 6)), .int (nI (I 7)), .ref (b + 5), .ref (b + 6), .int (nI (I 10)), .int (nI (I 11)), .int (nI (I 12)), .int (nI (I 13)), .ref (b + 7), .ref (b + 8), .int (nI (I 16)), .int (nI (I 17)), .int (nI (I 18)), .int (nI (I 19))])) := hS_.1
  have hS : moS cI cL w1 b (va_up I 0 0) K S C := hS_
  refine W.eq (g2 := F0 m 17 ls [.int (nI 0)]) rfl ?_
  refine lv_if_ne (pc := 17) (tgt := 44) hx hb dMo_run_17 (by decide) (fun hc => absurd hc (fun h => h rfl)) (fun _ => ?_)
  refine lv_aload_n (pc := 20) hx hb dMo_run_20 rfl (lv_at hl 0 rfl) ?_
  refine lv_iload_n (pc := 21) hx hb dMo_run_21 rfl (lv_at hl 1 rfl) ?_
  refine lv_if_lt (pc := 22) (tgt := 32) hx hb dMo_run_22 (by decide) (fun ha => ?_) (fun ha => ?_)
  · refine lv_iconst (pc := 32) (v := (nI 1)) hx hb dMo_run_32 (by decide) ?_
    refine lv_goto (pc := 33) (tgt := 37) hx hb dMo_run_33 (by decide) ?_
    refine lv_iconst (pc := 37) (v := (nI 2)) hx hb dMo_run_37 (by decide) ?_
    refine fw_cV (pc := 38) (As := [.int (nI 1), .int (nI 2)]) (rest := []) ⟨hx, hb, hml, hown, hW⟩ (c_Mo_fails1 (k := 2) hS) (cwV 2 hW (kw_V lm_Mo_39 im_Mo_fails se_Mo_fails ini_Mo cd_Mo_fails) rfl rfl rfl (by decide +kernel) ⟨Nat.le_of_ble_eq_true rfl, Nat.le_of_ble_eq_true rfl⟩) hK hw b0 rfl rfl hl.1 rfl (Nat.le_of_ble_eq_true rfl) dMo_run_38 ⟨Nat.le_of_ble_eq_true rfl, Nat.le_of_ble_eq_true rfl⟩ (fun v w2 H locs hq hw => ?_)
    obtain ⟨rfl, hS_, hfr_⟩ := hq
    have hfr : ∀ q, q ≠ b → w2 q = w q := fun q hq => (hfr_ q hq).trans (hfr q hq)
    have b0 : w2 b = some (.inr (10, [.int (nI (2)), .ref (b + 1), .ref (b + 2), .int (nI (I 3)), .ref (b + 3), .ref (b + 4), .int (nI (I 6)), .int (nI (I 7)), .ref (b + 5), .ref (b + 6), .int (nI (I 10)), .int (nI (I 11)), .int (nI (I 12)), .int (nI (I 13)), .ref (b + 7), .ref (b + 8), .int (nI (I 16)), .int (nI (I 17)), .int (nI (I 18)), .int (nI (I 19))])) := hS_.1
    have hS : moS cI cL w2 b (va_up I 0 2) K S C := moS.int hS_ b0 (fun q _ => rfl)
    refine W.eq (g2 := F0 m 41 ls [.int (nI 1)]) rfl ?_
    refine lv_if_eq (pc := 41) (tgt := 46) hx hb dMo_run_41 (by decide) (fun hc => absurd hc (show ¬ nI 1 = 0 by decide)) (fun _ => ?_)
    refine lv_iconst (pc := 44) (v := (nI 0)) hx hb dMo_run_44 (by decide) ?_
    exact fw_iret (pc := 45) hx hb hr hlocks hw dMo_run_45 ⟨rfl, hS, fun q hq => hfr q (by omega)⟩
  · refine lv_iload_n (pc := 25) hx hb dMo_run_25 rfl (lv_at hl 1 rfl) ?_
    refine lv_sipush (pc := 26) (v := (nI 10000)) hx hb dMo_run_26 (by decide) ?_
    refine lv_icmp_le (pc := 29) (tgt := 36) hx hb dMo_run_29 (by decide) (fun hc => absurd hc (fun h => by rcases hx9 with h9 | h9; exact ha h9; exact absurd h (Int32.not_le.mpr h9))) (fun _ => ?_)
    refine lv_iconst (pc := 32) (v := (nI 1)) hx hb dMo_run_32 (by decide) ?_
    refine lv_goto (pc := 33) (tgt := 37) hx hb dMo_run_33 (by decide) ?_
    refine lv_iconst (pc := 37) (v := (nI 2)) hx hb dMo_run_37 (by decide) ?_
    refine fw_cV (pc := 38) (As := [.int (nI 1), .int (nI 2)]) (rest := []) ⟨hx, hb, hml, hown, hW⟩ (c_Mo_fails1 (k := 2) hS) (cwV 2 hW (kw_V lm_Mo_39 im_Mo_fails se_Mo_fails ini_Mo cd_Mo_fails) rfl rfl rfl (by decide +kernel) ⟨Nat.le_of_ble_eq_true rfl, Nat.le_of_ble_eq_true rfl⟩) hK hw b0 rfl rfl hl.1 rfl (Nat.le_of_ble_eq_true rfl) dMo_run_38 ⟨Nat.le_of_ble_eq_true rfl, Nat.le_of_ble_eq_true rfl⟩ (fun v w2 H locs hq hw => ?_)
    obtain ⟨rfl, hS_, hfr_⟩ := hq
    have hfr : ∀ q, q ≠ b → w2 q = w q := fun q hq => (hfr_ q hq).trans (hfr q hq)
    have b0 : w2 b = some (.inr (10, [.int (nI (2)), .ref (b + 1), .ref (b + 2), .int (nI (I 3)), .ref (b + 3), .ref (b + 4), .int (nI (I 6)), .int (nI (I 7)), .ref (b + 5), .ref (b + 6), .int (nI (I 10)), .int (nI (I 11)), .int (nI (I 12)), .int (nI (I 13)), .ref (b + 7), .ref (b + 8), .int (nI (I 16)), .int (nI (I 17)), .int (nI (I 18)), .int (nI (I 19))])) := hS_.1
    have hS : moS cI cL w2 b (va_up I 0 2) K S C := moS.int hS_ b0 (fun q _ => rfl)
    refine W.eq (g2 := F0 m 41 ls [.int (nI 1)]) rfl ?_
    refine lv_if_eq (pc := 41) (tgt := 46) hx hb dMo_run_41 (by decide) (fun hc => absurd hc (show ¬ nI 1 = 0 by decide)) (fun _ => ?_)
    refine lv_iconst (pc := 44) (v := (nI 0)) hx hb dMo_run_44 (by decide) ?_
    exact fw_iret (pc := 45) hx hb hr hlocks hw dMo_run_45 ⟨rfl, hS, fun q hq => hfr q (by omega)⟩

set_option maxHeartbeats 4000000 in
set_option maxRecDepth 100000 in
theorem c_Mo_signS {b : Nat} {I : Nat → Nat} {K : Nat → Nat → Nat} {S : Nat → Int32} {C : Nat → Nat} (hS : moS cI cL w b I K S C) (h6 : I 6 < 2 ^ 31) (h7 : I 7 < 2 ^ 31) (h16 : I 16 < 2 ^ 31) (hno : ¬ (0 < I 6 ∧ I 16 = I 7)) : fw_C l yMo_sign (Cond.code yMo_sign cMo_sign 1 (some FieldType.int) :: kWs) ({ frames := 1, cells := 0, slots := 0, locals := 22 } : Room) D kCl (kty cI cL cQ) z [.ref b] (sz) w 0 0 (fun v w' => v = some (.int (nI 0)) ∧ moS cI cL w' b (va_up I 0 1) K S C ∧ ∀ q, q < b ∨ b + 9 ≤ q → w' q = w q) := by
  refine fw_ofW (cc := cMo_sign) (maxL := 1) (ret := (some FieldType.int)) (by decide) rfl (Nat.le_of_ble_eq_true rfl) ?_
  intro p e s m args below meth c hx hb hr hts hown hlocks hname hml hK H ls hw hl
  have hW : ∀ w ∈ kWs, w.before args s = true := fun w h => hts w (List.mem_cons_of_mem _ h)
  have hown : s.vm.findClass RMo = some m.cls := hown
  have hl : lv_has ls 1 [(0, .ref b)] := hl
  have b0 : w b = some (.inr (10, [.int (nI (I 0)), .ref (b + 1), .ref (b + 2), .int (nI (I 3)), .ref (b + 3), .ref (b + 4), .int (nI (I 6)), .int (nI (I 7)), .ref (b + 5), .ref (b + 6), .int (nI (I 10)), .int (nI (I 11)), .int (nI (I 12)), .int (nI (I 13)), .ref (b + 7), .ref (b + 8), .int (nI (I 16)), .int (nI (I 17)), .int (nI (I 18)), .int (nI (I 19))])) := hS.1
  refine lv_aload_n (pc := 0) hx hb dMo_sign_0 rfl (lv_at hl 0 rfl) ?_
  refine lv_aload_n (pc := 1) hx hb dMo_sign_1 rfl (lv_at hl 0 rfl) ?_
  refine fw_cVR (pc := 2) (As := []) (rest := [.ref b]) ⟨hx, hb, hml, hown, hW⟩ (c_Mo_hasResult hS h6 h7 h16) (cwV 0 hW (kw_V lm_Mo_196 im_Mo_hasResult se_Mo_hasResult ini_Mo cd_Mo_hasResult) rfl rfl rfl (by decide +kernel) ⟨Nat.le_of_ble_eq_true rfl, Nat.le_of_ble_eq_true rfl⟩) hK hw b0 rfl rfl hl.1 rfl (Nat.le_of_ble_eq_true rfl) dMo_sign_2 ⟨Nat.le_of_ble_eq_true rfl, Nat.le_of_ble_eq_true rfl⟩ (fun v hq => ?_)
  have hq : v = some (.int (nI (if 0 < I 6 ∧ I 16 = I 7 then 1 else 0))) := hq
  rw [if_neg hno] at hq
  subst hq
  refine W.eq (g2 := F0 m 5 ls [.int (nI 0), .ref b]) rfl ?_
  refine lv_if_ne (pc := 5) (tgt := 12) hx hb dMo_sign_5 (by decide) (fun hc => absurd hc (fun h => h rfl)) (fun _ => ?_)
  refine lv_iconst (pc := 8) (v := (nI 1)) hx hb dMo_sign_8 (by decide) ?_
  refine lv_goto (pc := 9) (tgt := 13) hx hb dMo_sign_9 (by decide) ?_
  refine lv_iconst (pc := 13) (v := (nI 1)) hx hb dMo_sign_13 (by decide) ?_
  refine fw_cV (pc := 14) (As := [.int (nI 1), .int (nI 1)]) (rest := []) ⟨hx, hb, hml, hown, hW⟩ (c_Mo_fails1 (k := 1) hS) (cwV 2 hW (kw_V lm_Mo_39 im_Mo_fails se_Mo_fails ini_Mo cd_Mo_fails) rfl rfl rfl (by decide +kernel) ⟨Nat.le_of_ble_eq_true rfl, Nat.le_of_ble_eq_true rfl⟩) hK hw b0 rfl rfl hl.1 rfl (Nat.le_of_ble_eq_true rfl) dMo_sign_14 ⟨Nat.le_of_ble_eq_true rfl, Nat.le_of_ble_eq_true rfl⟩ (fun v w1 H locs hq hw => ?_)
  obtain ⟨rfl, hS_, hfr_⟩ := hq
  have hfr : ∀ q, q ≠ b → w1 q = w q := fun q hq => hfr_ q hq
  have b0 : w1 b = some (.inr (10, [.int (nI (1)), .ref (b + 1), .ref (b + 2), .int (nI (I 3)), .ref (b + 3), .ref (b + 4), .int (nI (I 6)), .int (nI (I 7)), .ref (b + 5), .ref (b + 6), .int (nI (I 10)), .int (nI (I 11)), .int (nI (I 12)), .int (nI (I 13)), .ref (b + 7), .ref (b + 8), .int (nI (I 16)), .int (nI (I 17)), .int (nI (I 18)), .int (nI (I 19))])) := hS_.1
  have hS : moS cI cL w1 b (va_up I 0 1) K S C := hS_
  refine W.eq (g2 := F0 m 17 ls [.int (nI 1)]) rfl ?_
  refine lv_if_eq (pc := 17) (tgt := 24) hx hb dMo_sign_17 (by decide) (fun hc => absurd hc (show ¬ nI 1 = 0 by decide)) (fun _ => ?_)
  refine lv_iconst (pc := 20) (v := (nI 0)) hx hb dMo_sign_20 (by decide) ?_
  refine lv_goto (pc := 21) (tgt := 30) hx hb dMo_sign_21 (by decide) ?_
  exact fw_iret (pc := 30) hx hb hr hlocks hw dMo_sign_30 ⟨rfl, hS, fun q hq => hfr q (by omega)⟩

set_option maxHeartbeats 4000000 in
set_option maxRecDepth 100000 in
theorem c_Mo_limbS {b : Nat} {I : Nat → Nat} {K : Nat → Nat → Nat} {S : Nat → Int32} {C : Nat → Nat} (hS : moS cI cL w b I K S C) {x : Int32} (h6 : I 6 < 2 ^ 31) (h7 : I 7 < 2 ^ 31) (h16 : I 16 < 2 ^ 31) (hno : ¬ (0 < I 6 ∧ I 16 = I 7)) : fw_C l yMo_limb (Cond.code yMo_limb cMo_limb 5 (some FieldType.long) :: kWs) ({ frames := 1, cells := 0, slots := 0, locals := 22 } : Room) D kCl (kty cI cL cQ) z [.ref b, .int x] (sz) w 0 0 (fun v w' => v = some (.long (lN 0)) ∧ moS cI cL w' b (va_up I 0 1) K S C ∧ ∀ q, q < b ∨ b + 9 ≤ q → w' q = w q) := by
  refine fw_ofW (cc := cMo_limb) (maxL := 5) (ret := (some FieldType.long)) (by decide) rfl (Nat.le_of_ble_eq_true rfl) ?_
  intro p e s m args below meth c hx hb hr hts hown hlocks hname hml hK H ls hw hl
  have hW : ∀ w ∈ kWs, w.before args s = true := fun w h => hts w (List.mem_cons_of_mem _ h)
  have hown : s.vm.findClass RMo = some m.cls := hown
  have hl : lv_has ls 5 [(0, .ref b), (1, .int x)] := hl
  have b0 : w b = some (.inr (10, [.int (nI (I 0)), .ref (b + 1), .ref (b + 2), .int (nI (I 3)), .ref (b + 3), .ref (b + 4), .int (nI (I 6)), .int (nI (I 7)), .ref (b + 5), .ref (b + 6), .int (nI (I 10)), .int (nI (I 11)), .int (nI (I 12)), .int (nI (I 13)), .ref (b + 7), .ref (b + 8), .int (nI (I 16)), .int (nI (I 17)), .int (nI (I 18)), .int (nI (I 19))])) := hS.1
  refine lv_aload_n (pc := 0) hx hb dMo_limb_0 rfl (lv_at hl 0 rfl) ?_
  refine lv_aload_n (pc := 1) hx hb dMo_limb_1 rfl (lv_at hl 0 rfl) ?_
  refine fw_cVR (pc := 2) (As := []) (rest := [.ref b]) ⟨hx, hb, hml, hown, hW⟩ (c_Mo_hasResult hS h6 h7 h16) (cwV 0 hW (kw_V lm_Mo_196 im_Mo_hasResult se_Mo_hasResult ini_Mo cd_Mo_hasResult) rfl rfl rfl (by decide +kernel) ⟨Nat.le_of_ble_eq_true rfl, Nat.le_of_ble_eq_true rfl⟩) hK hw b0 rfl rfl hl.1 rfl (Nat.le_of_ble_eq_true rfl) dMo_limb_2 ⟨Nat.le_of_ble_eq_true rfl, Nat.le_of_ble_eq_true rfl⟩ (fun v hq => ?_)
  have hq : v = some (.int (nI (if 0 < I 6 ∧ I 16 = I 7 then 1 else 0))) := hq
  rw [if_neg hno] at hq
  subst hq
  refine W.eq (g2 := F0 m 5 ls [.int (nI 0), .ref b]) rfl ?_
  refine lv_if_ne (pc := 5) (tgt := 12) hx hb dMo_limb_5 (by decide) (fun hc => absurd hc (fun h => h rfl)) (fun _ => ?_)
  refine lv_iconst (pc := 8) (v := (nI 1)) hx hb dMo_limb_8 (by decide) ?_
  refine lv_goto (pc := 9) (tgt := 13) hx hb dMo_limb_9 (by decide) ?_
  refine lv_iconst (pc := 13) (v := (nI 1)) hx hb dMo_limb_13 (by decide) ?_
  refine fw_cV (pc := 14) (As := [.int (nI 1), .int (nI 1)]) (rest := []) ⟨hx, hb, hml, hown, hW⟩ (c_Mo_fails1 (k := 1) hS) (cwV 2 hW (kw_V lm_Mo_39 im_Mo_fails se_Mo_fails ini_Mo cd_Mo_fails) rfl rfl rfl (by decide +kernel) ⟨Nat.le_of_ble_eq_true rfl, Nat.le_of_ble_eq_true rfl⟩) hK hw b0 rfl rfl hl.1 rfl (Nat.le_of_ble_eq_true rfl) dMo_limb_14 ⟨Nat.le_of_ble_eq_true rfl, Nat.le_of_ble_eq_true rfl⟩ (fun v w1 H locs hq hw => ?_)
  obtain ⟨rfl, hS_, hfr_⟩ := hq
  have hfr : ∀ q, q ≠ b → w1 q = w q := fun q hq => hfr_ q hq
  have b0 : w1 b = some (.inr (10, [.int (nI (1)), .ref (b + 1), .ref (b + 2), .int (nI (I 3)), .ref (b + 3), .ref (b + 4), .int (nI (I 6)), .int (nI (I 7)), .ref (b + 5), .ref (b + 6), .int (nI (I 10)), .int (nI (I 11)), .int (nI (I 12)), .int (nI (I 13)), .ref (b + 7), .ref (b + 8), .int (nI (I 16)), .int (nI (I 17)), .int (nI (I 18)), .int (nI (I 19))])) := hS_.1
  have hS : moS cI cL w1 b (va_up I 0 1) K S C := hS_
  refine W.eq (g2 := F0 m 17 ls [.int (nI 1)]) rfl ?_
  refine lv_if_ne (pc := 17) (tgt := 43) hx hb dMo_limb_17 (by decide) (fun _ => ?_) (fun hc => absurd hc (show ¬ nI 1 = 0 by decide))
  refine lv_lconst (pc := 43) (v := lN 0) hx hb dMo_limb_43 (by decide) ?_
  exact fw_lret (pc := 44) hx hb hr hlocks hw dMo_limb_44 ⟨rfl, hS, fun q hq => hfr q (by omega)⟩

set_option maxHeartbeats 4000000 in
set_option maxRecDepth 100000 in
theorem c_Mo_digitS {b : Nat} {I : Nat → Nat} {K : Nat → Nat → Nat} {S : Nat → Int32} {C : Nat → Nat} (hS : moS cI cL w b I K S C) {x : Int32} (h6 : I 6 < 2 ^ 31) (h7 : I 7 < 2 ^ 31) (h16 : I 16 < 2 ^ 31) (hno : ¬ (0 < I 6 ∧ I 16 = I 7)) : fw_C l yMo_digit (Cond.code yMo_digit cMo_digit 4 (some FieldType.int) :: kWs) ({ frames := 1, cells := 0, slots := 0, locals := 22 } : Room) D kCl (kty cI cL cQ) z [.ref b, .int x] (sz) w 0 0 (fun v w' => v = some (.int (nI 0)) ∧ moS cI cL w' b (va_up I 0 1) K S C ∧ ∀ q, q < b ∨ b + 9 ≤ q → w' q = w q) := by
  refine fw_ofW (cc := cMo_digit) (maxL := 4) (ret := (some FieldType.int)) (by decide) rfl (Nat.le_of_ble_eq_true rfl) ?_
  intro p e s m args below meth c hx hb hr hts hown hlocks hname hml hK H ls hw hl
  have hW : ∀ w ∈ kWs, w.before args s = true := fun w h => hts w (List.mem_cons_of_mem _ h)
  have hown : s.vm.findClass RMo = some m.cls := hown
  have hl : lv_has ls 4 [(0, .ref b), (1, .int x)] := hl
  have b0 : w b = some (.inr (10, [.int (nI (I 0)), .ref (b + 1), .ref (b + 2), .int (nI (I 3)), .ref (b + 3), .ref (b + 4), .int (nI (I 6)), .int (nI (I 7)), .ref (b + 5), .ref (b + 6), .int (nI (I 10)), .int (nI (I 11)), .int (nI (I 12)), .int (nI (I 13)), .ref (b + 7), .ref (b + 8), .int (nI (I 16)), .int (nI (I 17)), .int (nI (I 18)), .int (nI (I 19))])) := hS.1
  refine lv_aload_n (pc := 0) hx hb dMo_digit_0 rfl (lv_at hl 0 rfl) ?_
  refine lv_aload_n (pc := 1) hx hb dMo_digit_1 rfl (lv_at hl 0 rfl) ?_
  refine fw_cVR (pc := 2) (As := []) (rest := [.ref b]) ⟨hx, hb, hml, hown, hW⟩ (c_Mo_hasResult hS h6 h7 h16) (cwV 0 hW (kw_V lm_Mo_196 im_Mo_hasResult se_Mo_hasResult ini_Mo cd_Mo_hasResult) rfl rfl rfl (by decide +kernel) ⟨Nat.le_of_ble_eq_true rfl, Nat.le_of_ble_eq_true rfl⟩) hK hw b0 rfl rfl hl.1 rfl (Nat.le_of_ble_eq_true rfl) dMo_digit_2 ⟨Nat.le_of_ble_eq_true rfl, Nat.le_of_ble_eq_true rfl⟩ (fun v hq => ?_)
  have hq : v = some (.int (nI (if 0 < I 6 ∧ I 16 = I 7 then 1 else 0))) := hq
  rw [if_neg hno] at hq
  subst hq
  refine W.eq (g2 := F0 m 5 ls [.int (nI 0), .ref b]) rfl ?_
  refine lv_if_ne (pc := 5) (tgt := 12) hx hb dMo_digit_5 (by decide) (fun hc => absurd hc (fun h => h rfl)) (fun _ => ?_)
  refine lv_iconst (pc := 8) (v := (nI 1)) hx hb dMo_digit_8 (by decide) ?_
  refine lv_goto (pc := 9) (tgt := 13) hx hb dMo_digit_9 (by decide) ?_
  refine lv_iconst (pc := 13) (v := (nI 1)) hx hb dMo_digit_13 (by decide) ?_
  refine fw_cV (pc := 14) (As := [.int (nI 1), .int (nI 1)]) (rest := []) ⟨hx, hb, hml, hown, hW⟩ (c_Mo_fails1 (k := 1) hS) (cwV 2 hW (kw_V lm_Mo_39 im_Mo_fails se_Mo_fails ini_Mo cd_Mo_fails) rfl rfl rfl (by decide +kernel) ⟨Nat.le_of_ble_eq_true rfl, Nat.le_of_ble_eq_true rfl⟩) hK hw b0 rfl rfl hl.1 rfl (Nat.le_of_ble_eq_true rfl) dMo_digit_14 ⟨Nat.le_of_ble_eq_true rfl, Nat.le_of_ble_eq_true rfl⟩ (fun v w1 H locs hq hw => ?_)
  obtain ⟨rfl, hS_, hfr_⟩ := hq
  have hfr : ∀ q, q ≠ b → w1 q = w q := fun q hq => hfr_ q hq
  have b0 : w1 b = some (.inr (10, [.int (nI (1)), .ref (b + 1), .ref (b + 2), .int (nI (I 3)), .ref (b + 3), .ref (b + 4), .int (nI (I 6)), .int (nI (I 7)), .ref (b + 5), .ref (b + 6), .int (nI (I 10)), .int (nI (I 11)), .int (nI (I 12)), .int (nI (I 13)), .ref (b + 7), .ref (b + 8), .int (nI (I 16)), .int (nI (I 17)), .int (nI (I 18)), .int (nI (I 19))])) := hS_.1
  have hS : moS cI cL w1 b (va_up I 0 1) K S C := hS_
  refine W.eq (g2 := F0 m 17 ls [.int (nI 1)]) rfl ?_
  refine lv_if_ne (pc := 17) (tgt := 37) hx hb dMo_digit_17 (by decide) (fun _ => ?_) (fun hc => absurd hc (show ¬ nI 1 = 0 by decide))
  refine lv_iconst (pc := 37) (v := (nI 0)) hx hb dMo_digit_37 (by decide) ?_
  exact fw_iret (pc := 38) hx hb hr hlocks hw dMo_digit_38 ⟨rfl, hS, fun q hq => hfr q (by omega)⟩

set_option maxHeartbeats 4000000 in
set_option maxRecDepth 100000 in
theorem c_Mo_limbI {b : Nat} {I : Nat → Nat} {K : Nat → Nat → Nat} {S : Nat → Int32} {C : Nat → Nat} (hS : moS cI cL w b I K S C) {x : Int32} (hx9 : x < 0 ∨ nI 23 < x) (h6 : I 6 < 2 ^ 31) (h7 : I 7 < 2 ^ 31) (h16 : I 16 < 2 ^ 31) (hno : 0 < I 6 ∧ I 16 = I 7) : fw_C l yMo_limb (Cond.code yMo_limb cMo_limb 5 (some FieldType.long) :: kWs) ({ frames := 1, cells := 0, slots := 0, locals := 22 } : Room) D kCl (kty cI cL cQ) z [.ref b, .int x] (sz) w 0 0 (fun v w' => v = some (.long (lN 0)) ∧ moS cI cL w' b (va_up I 0 2) K S C ∧ ∀ q, q < b ∨ b + 9 ≤ q → w' q = w q) := by
  refine fw_ofW (cc := cMo_limb) (maxL := 5) (ret := (some FieldType.long)) (by decide) rfl (Nat.le_of_ble_eq_true rfl) ?_
  intro p e s m args below meth c hx hb hr hts hown hlocks hname hml hK H ls hw hl
  have hW : ∀ w ∈ kWs, w.before args s = true := fun w h => hts w (List.mem_cons_of_mem _ h)
  have hown : s.vm.findClass RMo = some m.cls := hown
  have hl : lv_has ls 5 [(0, .ref b), (1, .int x)] := hl
  have b0 : w b = some (.inr (10, [.int (nI (I 0)), .ref (b + 1), .ref (b + 2), .int (nI (I 3)), .ref (b + 3), .ref (b + 4), .int (nI (I 6)), .int (nI (I 7)), .ref (b + 5), .ref (b + 6), .int (nI (I 10)), .int (nI (I 11)), .int (nI (I 12)), .int (nI (I 13)), .ref (b + 7), .ref (b + 8), .int (nI (I 16)), .int (nI (I 17)), .int (nI (I 18)), .int (nI (I 19))])) := hS.1
  refine lv_aload_n (pc := 0) hx hb dMo_limb_0 rfl (lv_at hl 0 rfl) ?_
  refine lv_aload_n (pc := 1) hx hb dMo_limb_1 rfl (lv_at hl 0 rfl) ?_
  refine fw_cVR (pc := 2) (As := []) (rest := [.ref b]) ⟨hx, hb, hml, hown, hW⟩ (c_Mo_hasResult hS h6 h7 h16) (cwV 0 hW (kw_V lm_Mo_196 im_Mo_hasResult se_Mo_hasResult ini_Mo cd_Mo_hasResult) rfl rfl rfl (by decide +kernel) ⟨Nat.le_of_ble_eq_true rfl, Nat.le_of_ble_eq_true rfl⟩) hK hw b0 rfl rfl hl.1 rfl (Nat.le_of_ble_eq_true rfl) dMo_limb_2 ⟨Nat.le_of_ble_eq_true rfl, Nat.le_of_ble_eq_true rfl⟩ (fun v hq => ?_)
  have hq : v = some (.int (nI (if 0 < I 6 ∧ I 16 = I 7 then 1 else 0))) := hq
  rw [if_pos hno] at hq
  subst hq
  refine W.eq (g2 := F0 m 5 ls [.int (nI 1), .ref b]) rfl ?_
  refine lv_if_ne (pc := 5) (tgt := 12) hx hb dMo_limb_5 (by decide) (fun _ => ?_) (fun hc => absurd hc (show ¬ nI 1 = 0 by decide))
  refine lv_iconst (pc := 12) (v := (nI 0)) hx hb dMo_limb_12 (by decide) ?_
  refine lv_iconst (pc := 13) (v := (nI 1)) hx hb dMo_limb_13 (by decide) ?_
  refine fw_cV (pc := 14) (As := [.int (nI 0), .int (nI 1)]) (rest := []) ⟨hx, hb, hml, hown, hW⟩ (c_Mo_fails0 (k := 1) hS) (cwV 2 hW (kw_V lm_Mo_39 im_Mo_fails se_Mo_fails ini_Mo cd_Mo_fails) rfl rfl rfl (by decide +kernel) ⟨Nat.le_of_ble_eq_true rfl, Nat.le_of_ble_eq_true rfl⟩) hK hw b0 rfl rfl hl.1 rfl (Nat.le_of_ble_eq_true rfl) dMo_limb_14 ⟨Nat.le_of_ble_eq_true rfl, Nat.le_of_ble_eq_true rfl⟩ (fun v w1 H locs hq hw => ?_)
  obtain ⟨rfl, hS_, hfr_⟩ := hq
  have hfr : ∀ q, q ≠ b → w1 q = w q := fun q hq => hfr_ q hq
  have b0 : w1 b = some (.inr (10, [.int (nI (0)), .ref (b + 1), .ref (b + 2), .int (nI (I 3)), .ref (b + 3), .ref (b + 4), .int (nI (I 6)), .int (nI (I 7)), .ref (b + 5), .ref (b + 6), .int (nI (I 10)), .int (nI (I 11)), .int (nI (I 12)), .int (nI (I 13)), .ref (b + 7), .ref (b + 8), .int (nI (I 16)), .int (nI (I 17)), .int (nI (I 18)), .int (nI (I 19))])) := hS_.1
  have hS : moS cI cL w1 b (va_up I 0 0) K S C := hS_
  refine W.eq (g2 := F0 m 17 ls [.int (nI 0)]) rfl ?_
  refine lv_if_ne (pc := 17) (tgt := 43) hx hb dMo_limb_17 (by decide) (fun hc => absurd hc (fun h => h rfl)) (fun _ => ?_)
  refine lv_aload_n (pc := 20) hx hb dMo_limb_20 rfl (lv_at hl 0 rfl) ?_
  refine lv_iload_n (pc := 21) hx hb dMo_limb_21 rfl (lv_at hl 1 rfl) ?_
  refine lv_if_lt (pc := 22) (tgt := 31) hx hb dMo_limb_22 (by decide) (fun ha => ?_) (fun ha => ?_)
  · refine lv_iconst (pc := 31) (v := (nI 1)) hx hb dMo_limb_31 (by decide) ?_
    refine lv_goto (pc := 32) (tgt := 36) hx hb dMo_limb_32 (by decide) ?_
    refine lv_iconst (pc := 36) (v := (nI 2)) hx hb dMo_limb_36 (by decide) ?_
    refine fw_cV (pc := 37) (As := [.int (nI 1), .int (nI 2)]) (rest := []) ⟨hx, hb, hml, hown, hW⟩ (c_Mo_fails1 (k := 2) hS) (cwV 2 hW (kw_V lm_Mo_39 im_Mo_fails se_Mo_fails ini_Mo cd_Mo_fails) rfl rfl rfl (by decide +kernel) ⟨Nat.le_of_ble_eq_true rfl, Nat.le_of_ble_eq_true rfl⟩) hK hw b0 rfl rfl hl.1 rfl (Nat.le_of_ble_eq_true rfl) dMo_limb_37 ⟨Nat.le_of_ble_eq_true rfl, Nat.le_of_ble_eq_true rfl⟩ (fun v w2 H locs hq hw => ?_)
    obtain ⟨rfl, hS_, hfr_⟩ := hq
    have hfr : ∀ q, q ≠ b → w2 q = w q := fun q hq => (hfr_ q hq).trans (hfr q hq)
    have b0 : w2 b = some (.inr (10, [.int (nI (2)), .ref (b + 1), .ref (b + 2), .int (nI (I 3)), .ref (b + 3), .ref (b + 4), .int (nI (I 6)), .int (nI (I 7)), .ref (b + 5), .ref (b + 6), .int (nI (I 10)), .int (nI (I 11)), .int (nI (I 12)), .int (nI (I 13)), .ref (b + 7), .ref (b + 8), .int (nI (I 16)), .int (nI (I 17)), .int (nI (I 18)), .int (nI (I 19))])) := hS_.1
    have hS : moS cI cL w2 b (va_up I 0 2) K S C := moS.int hS_ b0 (fun q _ => rfl)
    refine W.eq (g2 := F0 m 40 ls [.int (nI 1)]) rfl ?_
    refine lv_if_eq (pc := 40) (tgt := 45) hx hb dMo_limb_40 (by decide) (fun hc => absurd hc (show ¬ nI 1 = 0 by decide)) (fun _ => ?_)
    refine lv_lconst (pc := 43) (v := lN 0) hx hb dMo_limb_43 (by decide) ?_
    exact fw_lret (pc := 44) hx hb hr hlocks hw dMo_limb_44 ⟨rfl, hS, fun q hq => hfr q (by omega)⟩
  · refine lv_iload_n (pc := 25) hx hb dMo_limb_25 rfl (lv_at hl 1 rfl) ?_
    refine lv_bipush (pc := 26) (v := (nI 23)) hx hb dMo_limb_26 (by decide) ?_
    refine lv_icmp_le (pc := 28) (tgt := 35) hx hb dMo_limb_28 (by decide) (fun hc => absurd hc (fun h => by rcases hx9 with h9 | h9; exact ha h9; exact absurd h (Int32.not_le.mpr h9))) (fun _ => ?_)
    refine lv_iconst (pc := 31) (v := (nI 1)) hx hb dMo_limb_31 (by decide) ?_
    refine lv_goto (pc := 32) (tgt := 36) hx hb dMo_limb_32 (by decide) ?_
    refine lv_iconst (pc := 36) (v := (nI 2)) hx hb dMo_limb_36 (by decide) ?_
    refine fw_cV (pc := 37) (As := [.int (nI 1), .int (nI 2)]) (rest := []) ⟨hx, hb, hml, hown, hW⟩ (c_Mo_fails1 (k := 2) hS) (cwV 2 hW (kw_V lm_Mo_39 im_Mo_fails se_Mo_fails ini_Mo cd_Mo_fails) rfl rfl rfl (by decide +kernel) ⟨Nat.le_of_ble_eq_true rfl, Nat.le_of_ble_eq_true rfl⟩) hK hw b0 rfl rfl hl.1 rfl (Nat.le_of_ble_eq_true rfl) dMo_limb_37 ⟨Nat.le_of_ble_eq_true rfl, Nat.le_of_ble_eq_true rfl⟩ (fun v w2 H locs hq hw => ?_)
    obtain ⟨rfl, hS_, hfr_⟩ := hq
    have hfr : ∀ q, q ≠ b → w2 q = w q := fun q hq => (hfr_ q hq).trans (hfr q hq)
    have b0 : w2 b = some (.inr (10, [.int (nI (2)), .ref (b + 1), .ref (b + 2), .int (nI (I 3)), .ref (b + 3), .ref (b + 4), .int (nI (I 6)), .int (nI (I 7)), .ref (b + 5), .ref (b + 6), .int (nI (I 10)), .int (nI (I 11)), .int (nI (I 12)), .int (nI (I 13)), .ref (b + 7), .ref (b + 8), .int (nI (I 16)), .int (nI (I 17)), .int (nI (I 18)), .int (nI (I 19))])) := hS_.1
    have hS : moS cI cL w2 b (va_up I 0 2) K S C := moS.int hS_ b0 (fun q _ => rfl)
    refine W.eq (g2 := F0 m 40 ls [.int (nI 1)]) rfl ?_
    refine lv_if_eq (pc := 40) (tgt := 45) hx hb dMo_limb_40 (by decide) (fun hc => absurd hc (show ¬ nI 1 = 0 by decide)) (fun _ => ?_)
    refine lv_lconst (pc := 43) (v := lN 0) hx hb dMo_limb_43 (by decide) ?_
    exact fw_lret (pc := 44) hx hb hr hlocks hw dMo_limb_44 ⟨rfl, hS, fun q hq => hfr q (by omega)⟩

set_option maxHeartbeats 4000000 in
set_option maxRecDepth 100000 in
theorem c_Mo_digitI {b : Nat} {I : Nat → Nat} {K : Nat → Nat → Nat} {S : Nat → Int32} {C : Nat → Nat} (hS : moS cI cL w b I K S C) {x : Int32} (hx9 : x < 0) (h6 : I 6 < 2 ^ 31) (h7 : I 7 < 2 ^ 31) (h16 : I 16 < 2 ^ 31) (hno : 0 < I 6 ∧ I 16 = I 7) : fw_C l yMo_digit (Cond.code yMo_digit cMo_digit 4 (some FieldType.int) :: kWs) ({ frames := 1, cells := 0, slots := 0, locals := 22 } : Room) D kCl (kty cI cL cQ) z [.ref b, .int x] (sz) w 0 0 (fun v w' => v = some (.int (nI 0)) ∧ moS cI cL w' b (va_up I 0 2) K S C ∧ ∀ q, q < b ∨ b + 9 ≤ q → w' q = w q) := by
  refine fw_ofW (cc := cMo_digit) (maxL := 4) (ret := (some FieldType.int)) (by decide) rfl (Nat.le_of_ble_eq_true rfl) ?_
  intro p e s m args below meth c hx hb hr hts hown hlocks hname hml hK H ls hw hl
  have hW : ∀ w ∈ kWs, w.before args s = true := fun w h => hts w (List.mem_cons_of_mem _ h)
  have hown : s.vm.findClass RMo = some m.cls := hown
  have hl : lv_has ls 4 [(0, .ref b), (1, .int x)] := hl
  have b0 : w b = some (.inr (10, [.int (nI (I 0)), .ref (b + 1), .ref (b + 2), .int (nI (I 3)), .ref (b + 3), .ref (b + 4), .int (nI (I 6)), .int (nI (I 7)), .ref (b + 5), .ref (b + 6), .int (nI (I 10)), .int (nI (I 11)), .int (nI (I 12)), .int (nI (I 13)), .ref (b + 7), .ref (b + 8), .int (nI (I 16)), .int (nI (I 17)), .int (nI (I 18)), .int (nI (I 19))])) := hS.1
  refine lv_aload_n (pc := 0) hx hb dMo_digit_0 rfl (lv_at hl 0 rfl) ?_
  refine lv_aload_n (pc := 1) hx hb dMo_digit_1 rfl (lv_at hl 0 rfl) ?_
  refine fw_cVR (pc := 2) (As := []) (rest := [.ref b]) ⟨hx, hb, hml, hown, hW⟩ (c_Mo_hasResult hS h6 h7 h16) (cwV 0 hW (kw_V lm_Mo_196 im_Mo_hasResult se_Mo_hasResult ini_Mo cd_Mo_hasResult) rfl rfl rfl (by decide +kernel) ⟨Nat.le_of_ble_eq_true rfl, Nat.le_of_ble_eq_true rfl⟩) hK hw b0 rfl rfl hl.1 rfl (Nat.le_of_ble_eq_true rfl) dMo_digit_2 ⟨Nat.le_of_ble_eq_true rfl, Nat.le_of_ble_eq_true rfl⟩ (fun v hq => ?_)
  have hq : v = some (.int (nI (if 0 < I 6 ∧ I 16 = I 7 then 1 else 0))) := hq
  rw [if_pos hno] at hq
  subst hq
  refine W.eq (g2 := F0 m 5 ls [.int (nI 1), .ref b]) rfl ?_
  refine lv_if_ne (pc := 5) (tgt := 12) hx hb dMo_digit_5 (by decide) (fun _ => ?_) (fun hc => absurd hc (show ¬ nI 1 = 0 by decide))
  refine lv_iconst (pc := 12) (v := (nI 0)) hx hb dMo_digit_12 (by decide) ?_
  refine lv_iconst (pc := 13) (v := (nI 1)) hx hb dMo_digit_13 (by decide) ?_
  refine fw_cV (pc := 14) (As := [.int (nI 0), .int (nI 1)]) (rest := []) ⟨hx, hb, hml, hown, hW⟩ (c_Mo_fails0 (k := 1) hS) (cwV 2 hW (kw_V lm_Mo_39 im_Mo_fails se_Mo_fails ini_Mo cd_Mo_fails) rfl rfl rfl (by decide +kernel) ⟨Nat.le_of_ble_eq_true rfl, Nat.le_of_ble_eq_true rfl⟩) hK hw b0 rfl rfl hl.1 rfl (Nat.le_of_ble_eq_true rfl) dMo_digit_14 ⟨Nat.le_of_ble_eq_true rfl, Nat.le_of_ble_eq_true rfl⟩ (fun v w1 H locs hq hw => ?_)
  obtain ⟨rfl, hS_, hfr_⟩ := hq
  have hfr : ∀ q, q ≠ b → w1 q = w q := fun q hq => hfr_ q hq
  have b0 : w1 b = some (.inr (10, [.int (nI (0)), .ref (b + 1), .ref (b + 2), .int (nI (I 3)), .ref (b + 3), .ref (b + 4), .int (nI (I 6)), .int (nI (I 7)), .ref (b + 5), .ref (b + 6), .int (nI (I 10)), .int (nI (I 11)), .int (nI (I 12)), .int (nI (I 13)), .ref (b + 7), .ref (b + 8), .int (nI (I 16)), .int (nI (I 17)), .int (nI (I 18)), .int (nI (I 19))])) := hS_.1
  have hS : moS cI cL w1 b (va_up I 0 0) K S C := hS_
  refine W.eq (g2 := F0 m 17 ls [.int (nI 0)]) rfl ?_
  refine lv_if_ne (pc := 17) (tgt := 37) hx hb dMo_digit_17 (by decide) (fun hc => absurd hc (fun h => h rfl)) (fun _ => ?_)
  refine lv_aload_n (pc := 20) hx hb dMo_digit_20 rfl (lv_at hl 0 rfl) ?_
  refine lv_iload_n (pc := 21) hx hb dMo_digit_21 rfl (lv_at hl 1 rfl) ?_
  refine lv_if_ge (pc := 22) (tgt := 29) hx hb dMo_digit_22 (by decide) (fun hc => absurd hc (Int32.not_le.mpr hx9)) (fun _ => ?_)
  refine lv_iconst (pc := 25) (v := (nI 1)) hx hb dMo_digit_25 (by decide) ?_
  refine lv_goto (pc := 26) (tgt := 30) hx hb dMo_digit_26 (by decide) ?_
  refine lv_iconst (pc := 30) (v := (nI 2)) hx hb dMo_digit_30 (by decide) ?_
  refine fw_cV (pc := 31) (As := [.int (nI 1), .int (nI 2)]) (rest := []) ⟨hx, hb, hml, hown, hW⟩ (c_Mo_fails1 (k := 2) hS) (cwV 2 hW (kw_V lm_Mo_39 im_Mo_fails se_Mo_fails ini_Mo cd_Mo_fails) rfl rfl rfl (by decide +kernel) ⟨Nat.le_of_ble_eq_true rfl, Nat.le_of_ble_eq_true rfl⟩) hK hw b0 rfl rfl hl.1 rfl (Nat.le_of_ble_eq_true rfl) dMo_digit_31 ⟨Nat.le_of_ble_eq_true rfl, Nat.le_of_ble_eq_true rfl⟩ (fun v w2 H locs hq hw => ?_)
  obtain ⟨rfl, hS_, hfr_⟩ := hq
  have hfr : ∀ q, q ≠ b → w2 q = w q := fun q hq => (hfr_ q hq).trans (hfr q hq)
  have b0 : w2 b = some (.inr (10, [.int (nI (2)), .ref (b + 1), .ref (b + 2), .int (nI (I 3)), .ref (b + 3), .ref (b + 4), .int (nI (I 6)), .int (nI (I 7)), .ref (b + 5), .ref (b + 6), .int (nI (I 10)), .int (nI (I 11)), .int (nI (I 12)), .int (nI (I 13)), .ref (b + 7), .ref (b + 8), .int (nI (I 16)), .int (nI (I 17)), .int (nI (I 18)), .int (nI (I 19))])) := hS_.1
  have hS : moS cI cL w2 b (va_up I 0 2) K S C := moS.int hS_ b0 (fun q _ => rfl)
  refine W.eq (g2 := F0 m 34 ls [.int (nI 1)]) rfl ?_
  refine lv_if_eq (pc := 34) (tgt := 39) hx hb dMo_digit_34 (by decide) (fun hc => absurd hc (show ¬ nI 1 = 0 by decide)) (fun _ => ?_)
  refine lv_iconst (pc := 37) (v := (nI 0)) hx hb dMo_digit_37 (by decide) ?_
  exact fw_iret (pc := 38) hx hb hr hlocks hw dMo_digit_38 ⟨rfl, hS, fun q hq => hfr q (by omega)⟩

set_option maxHeartbeats 4000000 in
set_option maxRecDepth 100000 in
theorem c_Mo_keepA {b : Nat} {I : Nat → Nat} {K : Nat → Nat → Nat} {S : Nat → Int32} {C : Nat → Nat} (hS : moS cI cL w b I K S C) {x : Int32} (hx9 : x < 0 ∨ nI 8 ≤ x) : fw_C l yMo_keep (Cond.code yMo_keep cMo_keep 3 none :: kWs) ({ frames := 1, cells := 0, slots := 0, locals := 22 } : Room) D kCl (kty cI cL cQ) z [.ref b, .int x] (sz) w 0 0 (fun v w' => v = none ∧ moS cI cL w' b (va_up I 0 1) K S C ∧ ∀ q, q < b ∨ b + 9 ≤ q → w' q = w q) := by
  refine fw_ofW (cc := cMo_keep) (maxL := 3) (ret := none) (by decide) rfl (Nat.le_of_ble_eq_true rfl) ?_
  intro p e s m args below meth c hx hb hr hts hown hlocks hname hml hK H ls hw hl
  have hW : ∀ w ∈ kWs, w.before args s = true := fun w h => hts w (List.mem_cons_of_mem _ h)
  have hown : s.vm.findClass RMo = some m.cls := hown
  have hl : lv_has ls 3 [(0, .ref b), (1, .int x)] := hl
  have b0 : w b = some (.inr (10, [.int (nI (I 0)), .ref (b + 1), .ref (b + 2), .int (nI (I 3)), .ref (b + 3), .ref (b + 4), .int (nI (I 6)), .int (nI (I 7)), .ref (b + 5), .ref (b + 6), .int (nI (I 10)), .int (nI (I 11)), .int (nI (I 12)), .int (nI (I 13)), .ref (b + 7), .ref (b + 8), .int (nI (I 16)), .int (nI (I 17)), .int (nI (I 18)), .int (nI (I 19))])) := hS.1
  refine lv_iload_n (pc := 0) hx hb dMo_keep_0 rfl (lv_at hl 1 rfl) ?_
  refine lv_if_lt (pc := 1) (tgt := 14) hx hb dMo_keep_1 (by decide) (fun ha => ?_) (fun ha => ?_)
  · refine lv_iconst (pc := 14) (v := (nI 0)) hx hb dMo_keep_14 (by decide) ?_
    refine lv_istore_n (pc := 15) (lv' := [(2, .int (nI 0)), (0, .ref b), (1, .int x)]) hx hb dMo_keep_15 rfl hl (by decide) rfl (fun ls hl => ?_)
    refine lv_aload_n (pc := 16) hx hb dMo_keep_16 rfl (lv_at hl 1 rfl) ?_
    refine lv_iload_n (pc := 17) hx hb dMo_keep_17 rfl (lv_at hl 0 rfl) ?_
    refine lv_if_ne (pc := 18) (tgt := 25) hx hb dMo_keep_18 (by decide) (fun hc => absurd hc (fun h => h rfl)) (fun _ => ?_)
    refine lv_iconst (pc := 21) (v := (nI 1)) hx hb dMo_keep_21 (by decide) ?_
    refine lv_goto (pc := 22) (tgt := 26) hx hb dMo_keep_22 (by decide) ?_
    refine lv_iconst (pc := 26) (v := (nI 1)) hx hb dMo_keep_26 (by decide) ?_
    refine fw_cV (pc := 27) (As := [.int (nI 1), .int (nI 1)]) (rest := []) ⟨hx, hb, hml, hown, hW⟩ (c_Mo_fails1 (k := 1) hS) (cwV 2 hW (kw_V lm_Mo_39 im_Mo_fails se_Mo_fails ini_Mo cd_Mo_fails) rfl rfl rfl (by decide +kernel) ⟨Nat.le_of_ble_eq_true rfl, Nat.le_of_ble_eq_true rfl⟩) hK hw b0 rfl rfl hl.1 rfl (Nat.le_of_ble_eq_true rfl) dMo_keep_27 ⟨Nat.le_of_ble_eq_true rfl, Nat.le_of_ble_eq_true rfl⟩ (fun v w1 H locs hq hw => ?_)
    obtain ⟨rfl, hS_, hfr_⟩ := hq
    have hfr : ∀ q, q ≠ b → w1 q = w q := fun q hq => hfr_ q hq
    have b0 : w1 b = some (.inr (10, [.int (nI (1)), .ref (b + 1), .ref (b + 2), .int (nI (I 3)), .ref (b + 3), .ref (b + 4), .int (nI (I 6)), .int (nI (I 7)), .ref (b + 5), .ref (b + 6), .int (nI (I 10)), .int (nI (I 11)), .int (nI (I 12)), .int (nI (I 13)), .ref (b + 7), .ref (b + 8), .int (nI (I 16)), .int (nI (I 17)), .int (nI (I 18)), .int (nI (I 19))])) := hS_.1
    have hS : moS cI cL w1 b (va_up I 0 1) K S C := hS_
    refine W.eq (g2 := F0 m 30 ls [.int (nI 1)]) rfl ?_
    refine lv_if_ne (pc := 30) (tgt := 53) hx hb dMo_keep_30 (by decide) (fun _ => ?_) (fun hc => absurd hc (show ¬ nI 1 = 0 by decide))
    exact fw_vret (pc := 53) hx hb hr hlocks hw dMo_keep_53 ⟨rfl, hS, fun q hq => hfr q (by omega)⟩
  · refine lv_iload_n (pc := 4) hx hb dMo_keep_4 rfl (lv_at hl 1 rfl) ?_
    refine lv_bipush (pc := 5) (v := (nI 8)) hx hb dMo_keep_5 (by decide) ?_
    refine lv_icmp_ge (pc := 7) (tgt := 14) hx hb dMo_keep_7 (by decide) (fun _ => ?_) (fun hc => absurd (hx9.resolve_left ha) hc)
    refine lv_iconst (pc := 14) (v := (nI 0)) hx hb dMo_keep_14 (by decide) ?_
    refine lv_istore_n (pc := 15) (lv' := [(2, .int (nI 0)), (0, .ref b), (1, .int x)]) hx hb dMo_keep_15 rfl hl (by decide) rfl (fun ls hl => ?_)
    refine lv_aload_n (pc := 16) hx hb dMo_keep_16 rfl (lv_at hl 1 rfl) ?_
    refine lv_iload_n (pc := 17) hx hb dMo_keep_17 rfl (lv_at hl 0 rfl) ?_
    refine lv_if_ne (pc := 18) (tgt := 25) hx hb dMo_keep_18 (by decide) (fun hc => absurd hc (fun h => h rfl)) (fun _ => ?_)
    refine lv_iconst (pc := 21) (v := (nI 1)) hx hb dMo_keep_21 (by decide) ?_
    refine lv_goto (pc := 22) (tgt := 26) hx hb dMo_keep_22 (by decide) ?_
    refine lv_iconst (pc := 26) (v := (nI 1)) hx hb dMo_keep_26 (by decide) ?_
    refine fw_cV (pc := 27) (As := [.int (nI 1), .int (nI 1)]) (rest := []) ⟨hx, hb, hml, hown, hW⟩ (c_Mo_fails1 (k := 1) hS) (cwV 2 hW (kw_V lm_Mo_39 im_Mo_fails se_Mo_fails ini_Mo cd_Mo_fails) rfl rfl rfl (by decide +kernel) ⟨Nat.le_of_ble_eq_true rfl, Nat.le_of_ble_eq_true rfl⟩) hK hw b0 rfl rfl hl.1 rfl (Nat.le_of_ble_eq_true rfl) dMo_keep_27 ⟨Nat.le_of_ble_eq_true rfl, Nat.le_of_ble_eq_true rfl⟩ (fun v w1 H locs hq hw => ?_)
    obtain ⟨rfl, hS_, hfr_⟩ := hq
    have hfr : ∀ q, q ≠ b → w1 q = w q := fun q hq => hfr_ q hq
    have b0 : w1 b = some (.inr (10, [.int (nI (1)), .ref (b + 1), .ref (b + 2), .int (nI (I 3)), .ref (b + 3), .ref (b + 4), .int (nI (I 6)), .int (nI (I 7)), .ref (b + 5), .ref (b + 6), .int (nI (I 10)), .int (nI (I 11)), .int (nI (I 12)), .int (nI (I 13)), .ref (b + 7), .ref (b + 8), .int (nI (I 16)), .int (nI (I 17)), .int (nI (I 18)), .int (nI (I 19))])) := hS_.1
    have hS : moS cI cL w1 b (va_up I 0 1) K S C := hS_
    refine W.eq (g2 := F0 m 30 ls [.int (nI 1)]) rfl ?_
    refine lv_if_ne (pc := 30) (tgt := 53) hx hb dMo_keep_30 (by decide) (fun _ => ?_) (fun hc => absurd hc (show ¬ nI 1 = 0 by decide))
    exact fw_vret (pc := 53) hx hb hr hlocks hw dMo_keep_53 ⟨rfl, hS, fun q hq => hfr q (by omega)⟩

set_option maxHeartbeats 4000000 in
set_option maxRecDepth 100000 in
theorem c_Mo_keepS {b : Nat} {I : Nat → Nat} {K : Nat → Nat → Nat} {S : Nat → Int32} {C : Nat → Nat} (hS : moS cI cL w b I K S C) {j : Nat} (hj : j < 8) (h6 : I 6 < 2 ^ 31) (h7 : I 7 < 2 ^ 31) (h16 : I 16 < 2 ^ 31) (hno : ¬ (0 < I 6 ∧ I 16 = I 7)) : fw_C l yMo_keep (Cond.code yMo_keep cMo_keep 3 none :: kWs) ({ frames := 1, cells := 0, slots := 0, locals := 22 } : Room) D kCl (kty cI cL cQ) z [.ref b, .int (nI j)] (sz) w 0 0 (fun v w' => v = none ∧ moS cI cL w' b (va_up I 0 2) K S C ∧ ∀ q, q < b ∨ b + 9 ≤ q → w' q = w q) := by
  refine fw_ofW (cc := cMo_keep) (maxL := 3) (ret := none) (by decide) rfl (Nat.le_of_ble_eq_true rfl) ?_
  intro p e s m args below meth c hx hb hr hts hown hlocks hname hml hK H ls hw hl
  have hW : ∀ w ∈ kWs, w.before args s = true := fun w h => hts w (List.mem_cons_of_mem _ h)
  have hown : s.vm.findClass RMo = some m.cls := hown
  have hl : lv_has ls 3 [(0, .ref b), (1, .int (nI j))] := hl
  have b0 : w b = some (.inr (10, [.int (nI (I 0)), .ref (b + 1), .ref (b + 2), .int (nI (I 3)), .ref (b + 3), .ref (b + 4), .int (nI (I 6)), .int (nI (I 7)), .ref (b + 5), .ref (b + 6), .int (nI (I 10)), .int (nI (I 11)), .int (nI (I 12)), .int (nI (I 13)), .ref (b + 7), .ref (b + 8), .int (nI (I 16)), .int (nI (I 17)), .int (nI (I 18)), .int (nI (I 19))])) := hS.1
  refine lv_iload_n (pc := 0) hx hb dMo_keep_0 rfl (lv_at hl 1 rfl) ?_
  refine lv_if_lt (pc := 1) (tgt := 14) hx hb dMo_keep_1 (by decide) (fun hc => absurd hc (nI_pos (by omega))) (fun _ => ?_)
  refine lv_iload_n (pc := 4) hx hb dMo_keep_4 rfl (lv_at hl 1 rfl) ?_
  refine lv_bipush (pc := 5) (v := (nI 8)) hx hb dMo_keep_5 (by decide) ?_
  refine lv_icmp_ge (pc := 7) (tgt := 14) hx hb dMo_keep_7 (by decide) (fun hc => absurd hc (nI_ge (b := 8) hj (by decide))) (fun _ => ?_)
  refine lv_iconst (pc := 10) (v := (nI 1)) hx hb dMo_keep_10 (by decide) ?_
  refine lv_goto (pc := 11) (tgt := 15) hx hb dMo_keep_11 (by decide) ?_
  refine lv_istore_n (pc := 15) (lv' := [(2, .int (nI 1)), (0, .ref b), (1, .int (nI j))]) hx hb dMo_keep_15 rfl hl (by decide) rfl (fun ls hl => ?_)
  refine lv_aload_n (pc := 16) hx hb dMo_keep_16 rfl (lv_at hl 1 rfl) ?_
  refine lv_iload_n (pc := 17) hx hb dMo_keep_17 rfl (lv_at hl 0 rfl) ?_
  refine lv_if_ne (pc := 18) (tgt := 25) hx hb dMo_keep_18 (by decide) (fun _ => ?_) (fun hc => absurd hc (show ¬ nI 1 = 0 by decide))
  refine lv_iconst (pc := 25) (v := (nI 0)) hx hb dMo_keep_25 (by decide) ?_
  refine lv_iconst (pc := 26) (v := (nI 1)) hx hb dMo_keep_26 (by decide) ?_
  refine fw_cV (pc := 27) (As := [.int (nI 0), .int (nI 1)]) (rest := []) ⟨hx, hb, hml, hown, hW⟩ (c_Mo_fails0 (k := 1) hS) (cwV 2 hW (kw_V lm_Mo_39 im_Mo_fails se_Mo_fails ini_Mo cd_Mo_fails) rfl rfl rfl (by decide +kernel) ⟨Nat.le_of_ble_eq_true rfl, Nat.le_of_ble_eq_true rfl⟩) hK hw b0 rfl rfl hl.1 rfl (Nat.le_of_ble_eq_true rfl) dMo_keep_27 ⟨Nat.le_of_ble_eq_true rfl, Nat.le_of_ble_eq_true rfl⟩ (fun v w1 H locs hq hw => ?_)
  obtain ⟨rfl, hS_, hfr_⟩ := hq
  have hfr : ∀ q, q ≠ b → w1 q = w q := fun q hq => hfr_ q hq
  have b0 : w1 b = some (.inr (10, [.int (nI (0)), .ref (b + 1), .ref (b + 2), .int (nI (I 3)), .ref (b + 3), .ref (b + 4), .int (nI (I 6)), .int (nI (I 7)), .ref (b + 5), .ref (b + 6), .int (nI (I 10)), .int (nI (I 11)), .int (nI (I 12)), .int (nI (I 13)), .ref (b + 7), .ref (b + 8), .int (nI (I 16)), .int (nI (I 17)), .int (nI (I 18)), .int (nI (I 19))])) := hS_.1
  have hS : moS cI cL w1 b (va_up I 0 0) K S C := hS_
  refine W.eq (g2 := F0 m 30 ls [.int (nI 0)]) rfl ?_
  refine lv_if_ne (pc := 30) (tgt := 53) hx hb dMo_keep_30 (by decide) (fun hc => absurd hc (fun h => h rfl)) (fun _ => ?_)
  refine lv_aload_n (pc := 33) hx hb dMo_keep_33 rfl (lv_at hl 1 rfl) ?_
  refine lv_aload_n (pc := 34) hx hb dMo_keep_34 rfl (lv_at hl 1 rfl) ?_
  refine fw_cVR (pc := 35) (As := []) (rest := [.ref b]) ⟨hx, hb, hml, hown, hW⟩ (c_Mo_hasResult hS h6 h7 h16) (cwV 0 hW (kw_V lm_Mo_196 im_Mo_hasResult se_Mo_hasResult ini_Mo cd_Mo_hasResult) rfl rfl rfl (by decide +kernel) ⟨Nat.le_of_ble_eq_true rfl, Nat.le_of_ble_eq_true rfl⟩) hK hw b0 rfl rfl hl.1 rfl (Nat.le_of_ble_eq_true rfl) dMo_keep_35 ⟨Nat.le_of_ble_eq_true rfl, Nat.le_of_ble_eq_true rfl⟩ (fun v hq => ?_)
  have hq : v = some (.int (nI (if 0 < I 6 ∧ I 16 = I 7 then 1 else 0))) := hq
  rw [if_neg hno] at hq
  subst hq
  refine W.eq (g2 := F0 m 38 ls [.int (nI 0), .ref b]) rfl ?_
  refine lv_if_ne (pc := 38) (tgt := 45) hx hb dMo_keep_38 (by decide) (fun hc => absurd hc (fun h => h rfl)) (fun _ => ?_)
  refine lv_iconst (pc := 41) (v := (nI 1)) hx hb dMo_keep_41 (by decide) ?_
  refine lv_goto (pc := 42) (tgt := 46) hx hb dMo_keep_42 (by decide) ?_
  refine lv_iconst (pc := 46) (v := (nI 2)) hx hb dMo_keep_46 (by decide) ?_
  refine fw_cV (pc := 47) (As := [.int (nI 1), .int (nI 2)]) (rest := []) ⟨hx, hb, hml, hown, hW⟩ (c_Mo_fails1 (k := 2) hS) (cwV 2 hW (kw_V lm_Mo_39 im_Mo_fails se_Mo_fails ini_Mo cd_Mo_fails) rfl rfl rfl (by decide +kernel) ⟨Nat.le_of_ble_eq_true rfl, Nat.le_of_ble_eq_true rfl⟩) hK hw b0 rfl rfl hl.1 rfl (Nat.le_of_ble_eq_true rfl) dMo_keep_47 ⟨Nat.le_of_ble_eq_true rfl, Nat.le_of_ble_eq_true rfl⟩ (fun v w2 H locs hq hw => ?_)
  obtain ⟨rfl, hS_, hfr_⟩ := hq
  have hfr : ∀ q, q ≠ b → w2 q = w q := fun q hq => (hfr_ q hq).trans (hfr q hq)
  have b0 : w2 b = some (.inr (10, [.int (nI (2)), .ref (b + 1), .ref (b + 2), .int (nI (I 3)), .ref (b + 3), .ref (b + 4), .int (nI (I 6)), .int (nI (I 7)), .ref (b + 5), .ref (b + 6), .int (nI (I 10)), .int (nI (I 11)), .int (nI (I 12)), .int (nI (I 13)), .ref (b + 7), .ref (b + 8), .int (nI (I 16)), .int (nI (I 17)), .int (nI (I 18)), .int (nI (I 19))])) := hS_.1
  have hS : moS cI cL w2 b (va_up I 0 2) K S C := moS.int hS_ b0 (fun q _ => rfl)
  refine W.eq (g2 := F0 m 50 ls [.int (nI 1)]) rfl ?_
  refine lv_if_eq (pc := 50) (tgt := 54) hx hb dMo_keep_50 (by decide) (fun hc => absurd hc (show ¬ nI 1 = 0 by decide)) (fun _ => ?_)
  exact fw_vret (pc := 53) hx hb hr hlocks hw dMo_keep_53 ⟨rfl, hS, fun q hq => hfr q (by omega)⟩

set_option maxHeartbeats 4000000 in
set_option maxRecDepth 100000 in
theorem c_Mo_compareA {b : Nat} {I : Nat → Nat} {K : Nat → Nat → Nat} {S : Nat → Int32} {C : Nat → Nat} (hS : moS cI cL w b I K S C) {x : Int32} (hx9 : x < 0 ∨ nI 8 ≤ x) : fw_C l yMo_compare (Cond.code yMo_compare cMo_compare 4 (some FieldType.int) :: kWs) ({ frames := 1, cells := 0, slots := 0, locals := 22 } : Room) D kCl (kty cI cL cQ) z [.ref b, .int x] (sz) w 0 0 (fun v w' => v = some (.int (nI 0)) ∧ moS cI cL w' b (va_up I 0 1) K S C ∧ ∀ q, q < b ∨ b + 9 ≤ q → w' q = w q) := by
  refine fw_ofW (cc := cMo_compare) (maxL := 4) (ret := (some FieldType.int)) (by decide) rfl (Nat.le_of_ble_eq_true rfl) ?_
  intro p e s m args below meth c hx hb hr hts hown hlocks hname hml hK H ls hw hl
  have hW : ∀ w ∈ kWs, w.before args s = true := fun w h => hts w (List.mem_cons_of_mem _ h)
  have hown : s.vm.findClass RMo = some m.cls := hown
  have hl : lv_has ls 4 [(0, .ref b), (1, .int x)] := hl
  have b0 : w b = some (.inr (10, [.int (nI (I 0)), .ref (b + 1), .ref (b + 2), .int (nI (I 3)), .ref (b + 3), .ref (b + 4), .int (nI (I 6)), .int (nI (I 7)), .ref (b + 5), .ref (b + 6), .int (nI (I 10)), .int (nI (I 11)), .int (nI (I 12)), .int (nI (I 13)), .ref (b + 7), .ref (b + 8), .int (nI (I 16)), .int (nI (I 17)), .int (nI (I 18)), .int (nI (I 19))])) := hS.1
  refine lv_iload_n (pc := 0) hx hb dMo_compare_0 rfl (lv_at hl 1 rfl) ?_
  refine lv_if_lt (pc := 1) (tgt := 14) hx hb dMo_compare_1 (by decide) (fun ha => ?_) (fun ha => ?_)
  · refine lv_iconst (pc := 14) (v := (nI 0)) hx hb dMo_compare_14 (by decide) ?_
    refine lv_istore_n (pc := 15) (lv' := [(2, .int (nI 0)), (0, .ref b), (1, .int x)]) hx hb dMo_compare_15 rfl hl (by decide) rfl (fun ls hl => ?_)
    refine lv_aload_n (pc := 16) hx hb dMo_compare_16 rfl (lv_at hl 1 rfl) ?_
    refine lv_iload_n (pc := 17) hx hb dMo_compare_17 rfl (lv_at hl 0 rfl) ?_
    refine lv_if_ne (pc := 18) (tgt := 25) hx hb dMo_compare_18 (by decide) (fun hc => absurd hc (fun h => h rfl)) (fun _ => ?_)
    refine lv_iconst (pc := 21) (v := (nI 1)) hx hb dMo_compare_21 (by decide) ?_
    refine lv_goto (pc := 22) (tgt := 26) hx hb dMo_compare_22 (by decide) ?_
    refine lv_iconst (pc := 26) (v := (nI 1)) hx hb dMo_compare_26 (by decide) ?_
    refine fw_cV (pc := 27) (As := [.int (nI 1), .int (nI 1)]) (rest := []) ⟨hx, hb, hml, hown, hW⟩ (c_Mo_fails1 (k := 1) hS) (cwV 2 hW (kw_V lm_Mo_39 im_Mo_fails se_Mo_fails ini_Mo cd_Mo_fails) rfl rfl rfl (by decide +kernel) ⟨Nat.le_of_ble_eq_true rfl, Nat.le_of_ble_eq_true rfl⟩) hK hw b0 rfl rfl hl.1 rfl (Nat.le_of_ble_eq_true rfl) dMo_compare_27 ⟨Nat.le_of_ble_eq_true rfl, Nat.le_of_ble_eq_true rfl⟩ (fun v w1 H locs hq hw => ?_)
    obtain ⟨rfl, hS_, hfr_⟩ := hq
    have hfr : ∀ q, q ≠ b → w1 q = w q := fun q hq => hfr_ q hq
    have b0 : w1 b = some (.inr (10, [.int (nI (1)), .ref (b + 1), .ref (b + 2), .int (nI (I 3)), .ref (b + 3), .ref (b + 4), .int (nI (I 6)), .int (nI (I 7)), .ref (b + 5), .ref (b + 6), .int (nI (I 10)), .int (nI (I 11)), .int (nI (I 12)), .int (nI (I 13)), .ref (b + 7), .ref (b + 8), .int (nI (I 16)), .int (nI (I 17)), .int (nI (I 18)), .int (nI (I 19))])) := hS_.1
    have hS : moS cI cL w1 b (va_up I 0 1) K S C := hS_
    refine W.eq (g2 := F0 m 30 ls [.int (nI 1)]) rfl ?_
    refine lv_if_ne (pc := 30) (tgt := 53) hx hb dMo_compare_30 (by decide) (fun _ => ?_) (fun hc => absurd hc (show ¬ nI 1 = 0 by decide))
    refine lv_iconst (pc := 53) (v := (nI 0)) hx hb dMo_compare_53 (by decide) ?_
    exact fw_iret (pc := 54) hx hb hr hlocks hw dMo_compare_54 ⟨rfl, hS, fun q hq => hfr q (by omega)⟩
  · refine lv_iload_n (pc := 4) hx hb dMo_compare_4 rfl (lv_at hl 1 rfl) ?_
    refine lv_bipush (pc := 5) (v := (nI 8)) hx hb dMo_compare_5 (by decide) ?_
    refine lv_icmp_ge (pc := 7) (tgt := 14) hx hb dMo_compare_7 (by decide) (fun _ => ?_) (fun hc => absurd (hx9.resolve_left ha) hc)
    refine lv_iconst (pc := 14) (v := (nI 0)) hx hb dMo_compare_14 (by decide) ?_
    refine lv_istore_n (pc := 15) (lv' := [(2, .int (nI 0)), (0, .ref b), (1, .int x)]) hx hb dMo_compare_15 rfl hl (by decide) rfl (fun ls hl => ?_)
    refine lv_aload_n (pc := 16) hx hb dMo_compare_16 rfl (lv_at hl 1 rfl) ?_
    refine lv_iload_n (pc := 17) hx hb dMo_compare_17 rfl (lv_at hl 0 rfl) ?_
    refine lv_if_ne (pc := 18) (tgt := 25) hx hb dMo_compare_18 (by decide) (fun hc => absurd hc (fun h => h rfl)) (fun _ => ?_)
    refine lv_iconst (pc := 21) (v := (nI 1)) hx hb dMo_compare_21 (by decide) ?_
    refine lv_goto (pc := 22) (tgt := 26) hx hb dMo_compare_22 (by decide) ?_
    refine lv_iconst (pc := 26) (v := (nI 1)) hx hb dMo_compare_26 (by decide) ?_
    refine fw_cV (pc := 27) (As := [.int (nI 1), .int (nI 1)]) (rest := []) ⟨hx, hb, hml, hown, hW⟩ (c_Mo_fails1 (k := 1) hS) (cwV 2 hW (kw_V lm_Mo_39 im_Mo_fails se_Mo_fails ini_Mo cd_Mo_fails) rfl rfl rfl (by decide +kernel) ⟨Nat.le_of_ble_eq_true rfl, Nat.le_of_ble_eq_true rfl⟩) hK hw b0 rfl rfl hl.1 rfl (Nat.le_of_ble_eq_true rfl) dMo_compare_27 ⟨Nat.le_of_ble_eq_true rfl, Nat.le_of_ble_eq_true rfl⟩ (fun v w1 H locs hq hw => ?_)
    obtain ⟨rfl, hS_, hfr_⟩ := hq
    have hfr : ∀ q, q ≠ b → w1 q = w q := fun q hq => hfr_ q hq
    have b0 : w1 b = some (.inr (10, [.int (nI (1)), .ref (b + 1), .ref (b + 2), .int (nI (I 3)), .ref (b + 3), .ref (b + 4), .int (nI (I 6)), .int (nI (I 7)), .ref (b + 5), .ref (b + 6), .int (nI (I 10)), .int (nI (I 11)), .int (nI (I 12)), .int (nI (I 13)), .ref (b + 7), .ref (b + 8), .int (nI (I 16)), .int (nI (I 17)), .int (nI (I 18)), .int (nI (I 19))])) := hS_.1
    have hS : moS cI cL w1 b (va_up I 0 1) K S C := hS_
    refine W.eq (g2 := F0 m 30 ls [.int (nI 1)]) rfl ?_
    refine lv_if_ne (pc := 30) (tgt := 53) hx hb dMo_compare_30 (by decide) (fun _ => ?_) (fun hc => absurd hc (show ¬ nI 1 = 0 by decide))
    refine lv_iconst (pc := 53) (v := (nI 0)) hx hb dMo_compare_53 (by decide) ?_
    exact fw_iret (pc := 54) hx hb hr hlocks hw dMo_compare_54 ⟨rfl, hS, fun q hq => hfr q (by omega)⟩

set_option maxHeartbeats 4000000 in
set_option maxRecDepth 100000 in
theorem c_Mo_compareS {b : Nat} {I : Nat → Nat} {K : Nat → Nat → Nat} {S : Nat → Int32} {C : Nat → Nat} (hS : moS cI cL w b I K S C) {j : Nat} (hj : j < 8) (h6 : I 6 < 2 ^ 31) (h7 : I 7 < 2 ^ 31) (h16 : I 16 < 2 ^ 31) (hno : ¬ (0 < I 6 ∧ I 16 = I 7)) : fw_C l yMo_compare (Cond.code yMo_compare cMo_compare 4 (some FieldType.int) :: kWs) ({ frames := 1, cells := 0, slots := 0, locals := 22 } : Room) D kCl (kty cI cL cQ) z [.ref b, .int (nI j)] (sz) w 0 0 (fun v w' => v = some (.int (nI 0)) ∧ moS cI cL w' b (va_up I 0 2) K S C ∧ ∀ q, q < b ∨ b + 9 ≤ q → w' q = w q) := by
  refine fw_ofW (cc := cMo_compare) (maxL := 4) (ret := (some FieldType.int)) (by decide) rfl (Nat.le_of_ble_eq_true rfl) ?_
  intro p e s m args below meth c hx hb hr hts hown hlocks hname hml hK H ls hw hl
  have hW : ∀ w ∈ kWs, w.before args s = true := fun w h => hts w (List.mem_cons_of_mem _ h)
  have hown : s.vm.findClass RMo = some m.cls := hown
  have hl : lv_has ls 4 [(0, .ref b), (1, .int (nI j))] := hl
  have b0 : w b = some (.inr (10, [.int (nI (I 0)), .ref (b + 1), .ref (b + 2), .int (nI (I 3)), .ref (b + 3), .ref (b + 4), .int (nI (I 6)), .int (nI (I 7)), .ref (b + 5), .ref (b + 6), .int (nI (I 10)), .int (nI (I 11)), .int (nI (I 12)), .int (nI (I 13)), .ref (b + 7), .ref (b + 8), .int (nI (I 16)), .int (nI (I 17)), .int (nI (I 18)), .int (nI (I 19))])) := hS.1
  refine lv_iload_n (pc := 0) hx hb dMo_compare_0 rfl (lv_at hl 1 rfl) ?_
  refine lv_if_lt (pc := 1) (tgt := 14) hx hb dMo_compare_1 (by decide) (fun hc => absurd hc (nI_pos (by omega))) (fun _ => ?_)
  refine lv_iload_n (pc := 4) hx hb dMo_compare_4 rfl (lv_at hl 1 rfl) ?_
  refine lv_bipush (pc := 5) (v := (nI 8)) hx hb dMo_compare_5 (by decide) ?_
  refine lv_icmp_ge (pc := 7) (tgt := 14) hx hb dMo_compare_7 (by decide) (fun hc => absurd hc (nI_ge (b := 8) hj (by decide))) (fun _ => ?_)
  refine lv_iconst (pc := 10) (v := (nI 1)) hx hb dMo_compare_10 (by decide) ?_
  refine lv_goto (pc := 11) (tgt := 15) hx hb dMo_compare_11 (by decide) ?_
  refine lv_istore_n (pc := 15) (lv' := [(2, .int (nI 1)), (0, .ref b), (1, .int (nI j))]) hx hb dMo_compare_15 rfl hl (by decide) rfl (fun ls hl => ?_)
  refine lv_aload_n (pc := 16) hx hb dMo_compare_16 rfl (lv_at hl 1 rfl) ?_
  refine lv_iload_n (pc := 17) hx hb dMo_compare_17 rfl (lv_at hl 0 rfl) ?_
  refine lv_if_ne (pc := 18) (tgt := 25) hx hb dMo_compare_18 (by decide) (fun _ => ?_) (fun hc => absurd hc (show ¬ nI 1 = 0 by decide))
  refine lv_iconst (pc := 25) (v := (nI 0)) hx hb dMo_compare_25 (by decide) ?_
  refine lv_iconst (pc := 26) (v := (nI 1)) hx hb dMo_compare_26 (by decide) ?_
  refine fw_cV (pc := 27) (As := [.int (nI 0), .int (nI 1)]) (rest := []) ⟨hx, hb, hml, hown, hW⟩ (c_Mo_fails0 (k := 1) hS) (cwV 2 hW (kw_V lm_Mo_39 im_Mo_fails se_Mo_fails ini_Mo cd_Mo_fails) rfl rfl rfl (by decide +kernel) ⟨Nat.le_of_ble_eq_true rfl, Nat.le_of_ble_eq_true rfl⟩) hK hw b0 rfl rfl hl.1 rfl (Nat.le_of_ble_eq_true rfl) dMo_compare_27 ⟨Nat.le_of_ble_eq_true rfl, Nat.le_of_ble_eq_true rfl⟩ (fun v w1 H locs hq hw => ?_)
  obtain ⟨rfl, hS_, hfr_⟩ := hq
  have hfr : ∀ q, q ≠ b → w1 q = w q := fun q hq => hfr_ q hq
  have b0 : w1 b = some (.inr (10, [.int (nI (0)), .ref (b + 1), .ref (b + 2), .int (nI (I 3)), .ref (b + 3), .ref (b + 4), .int (nI (I 6)), .int (nI (I 7)), .ref (b + 5), .ref (b + 6), .int (nI (I 10)), .int (nI (I 11)), .int (nI (I 12)), .int (nI (I 13)), .ref (b + 7), .ref (b + 8), .int (nI (I 16)), .int (nI (I 17)), .int (nI (I 18)), .int (nI (I 19))])) := hS_.1
  have hS : moS cI cL w1 b (va_up I 0 0) K S C := hS_
  refine W.eq (g2 := F0 m 30 ls [.int (nI 0)]) rfl ?_
  refine lv_if_ne (pc := 30) (tgt := 53) hx hb dMo_compare_30 (by decide) (fun hc => absurd hc (fun h => h rfl)) (fun _ => ?_)
  refine lv_aload_n (pc := 33) hx hb dMo_compare_33 rfl (lv_at hl 1 rfl) ?_
  refine lv_aload_n (pc := 34) hx hb dMo_compare_34 rfl (lv_at hl 1 rfl) ?_
  refine fw_cVR (pc := 35) (As := []) (rest := [.ref b]) ⟨hx, hb, hml, hown, hW⟩ (c_Mo_hasResult hS h6 h7 h16) (cwV 0 hW (kw_V lm_Mo_196 im_Mo_hasResult se_Mo_hasResult ini_Mo cd_Mo_hasResult) rfl rfl rfl (by decide +kernel) ⟨Nat.le_of_ble_eq_true rfl, Nat.le_of_ble_eq_true rfl⟩) hK hw b0 rfl rfl hl.1 rfl (Nat.le_of_ble_eq_true rfl) dMo_compare_35 ⟨Nat.le_of_ble_eq_true rfl, Nat.le_of_ble_eq_true rfl⟩ (fun v hq => ?_)
  have hq : v = some (.int (nI (if 0 < I 6 ∧ I 16 = I 7 then 1 else 0))) := hq
  rw [if_neg hno] at hq
  subst hq
  refine W.eq (g2 := F0 m 38 ls [.int (nI 0), .ref b]) rfl ?_
  refine lv_if_ne (pc := 38) (tgt := 45) hx hb dMo_compare_38 (by decide) (fun hc => absurd hc (fun h => h rfl)) (fun _ => ?_)
  refine lv_iconst (pc := 41) (v := (nI 1)) hx hb dMo_compare_41 (by decide) ?_
  refine lv_goto (pc := 42) (tgt := 46) hx hb dMo_compare_42 (by decide) ?_
  refine lv_iconst (pc := 46) (v := (nI 2)) hx hb dMo_compare_46 (by decide) ?_
  refine fw_cV (pc := 47) (As := [.int (nI 1), .int (nI 2)]) (rest := []) ⟨hx, hb, hml, hown, hW⟩ (c_Mo_fails1 (k := 2) hS) (cwV 2 hW (kw_V lm_Mo_39 im_Mo_fails se_Mo_fails ini_Mo cd_Mo_fails) rfl rfl rfl (by decide +kernel) ⟨Nat.le_of_ble_eq_true rfl, Nat.le_of_ble_eq_true rfl⟩) hK hw b0 rfl rfl hl.1 rfl (Nat.le_of_ble_eq_true rfl) dMo_compare_47 ⟨Nat.le_of_ble_eq_true rfl, Nat.le_of_ble_eq_true rfl⟩ (fun v w2 H locs hq hw => ?_)
  obtain ⟨rfl, hS_, hfr_⟩ := hq
  have hfr : ∀ q, q ≠ b → w2 q = w q := fun q hq => (hfr_ q hq).trans (hfr q hq)
  have b0 : w2 b = some (.inr (10, [.int (nI (2)), .ref (b + 1), .ref (b + 2), .int (nI (I 3)), .ref (b + 3), .ref (b + 4), .int (nI (I 6)), .int (nI (I 7)), .ref (b + 5), .ref (b + 6), .int (nI (I 10)), .int (nI (I 11)), .int (nI (I 12)), .int (nI (I 13)), .ref (b + 7), .ref (b + 8), .int (nI (I 16)), .int (nI (I 17)), .int (nI (I 18)), .int (nI (I 19))])) := hS_.1
  have hS : moS cI cL w2 b (va_up I 0 2) K S C := moS.int hS_ b0 (fun q _ => rfl)
  refine W.eq (g2 := F0 m 50 ls [.int (nI 1)]) rfl ?_
  refine lv_if_eq (pc := 50) (tgt := 55) hx hb dMo_compare_50 (by decide) (fun hc => absurd hc (show ¬ nI 1 = 0 by decide)) (fun _ => ?_)
  refine lv_iconst (pc := 53) (v := (nI 0)) hx hb dMo_compare_53 (by decide) ?_
  exact fw_iret (pc := 54) hx hb hr hlocks hw dMo_compare_54 ⟨rfl, hS, fun q hq => hfr q (by omega)⟩

set_option maxHeartbeats 4000000 in
set_option maxRecDepth 100000 in
theorem c_Mo_count0 {b : Nat} {I : Nat → Nat} {K : Nat → Nat → Nat} {S : Nat → Int32} {C : Nat → Nat} (hS : moS cI cL w b I K S C) : fw_C l yMo_count (Cond.code yMo_count cMo_count 2 (some FieldType.int) :: kWs) ({ frames := 1, cells := 0, slots := 0, locals := 20 } : Room) D kCl (kty cI cL cQ) z [.ref b, .int (nI 0)] (sz) w 0 0 (fun v w' => v = some (.int (nI (I 3))) ∧ moS cI cL w' b (va_up I 0 0) K S C ∧ ∀ q, q < b ∨ b + 9 ≤ q → w' q = w q) := by
  refine fw_ofW (cc := cMo_count) (maxL := 2) (ret := (some FieldType.int)) (by decide) rfl (Nat.le_of_ble_eq_true rfl) ?_
  intro p e s m args below meth c hx hb hr hts hown hlocks hname hml hK H ls hw hl
  have hW : ∀ w ∈ kWs, w.before args s = true := fun w h => hts w (List.mem_cons_of_mem _ h)
  have hown : s.vm.findClass RMo = some m.cls := hown
  have hl : lv_has ls 2 [(0, .ref b), (1, .int (nI 0))] := hl
  have b0 : w b = some (.inr (10, [.int (nI (I 0)), .ref (b + 1), .ref (b + 2), .int (nI (I 3)), .ref (b + 3), .ref (b + 4), .int (nI (I 6)), .int (nI (I 7)), .ref (b + 5), .ref (b + 6), .int (nI (I 10)), .int (nI (I 11)), .int (nI (I 12)), .int (nI (I 13)), .ref (b + 7), .ref (b + 8), .int (nI (I 16)), .int (nI (I 17)), .int (nI (I 18)), .int (nI (I 19))])) := hS.1
  refine lv_aload_n (pc := 0) hx hb dMo_count_0 rfl (lv_at hl 0 rfl) ?_
  refine lv_iconst (pc := 1) (v := (nI 0)) hx hb dMo_count_1 (by decide) ?_
  refine fw_put (pc := 2) (ci := 10) (v := .int (nI 0)) (ty := .int) (C := RMo) (T := TMo) (N := 20) hx hb hW in_Mo tyMo tyMo_ok nmMo hown hK.1 hw b0 rfl 0 (by decide) (hW _ lf_Mo_35) (fun _ h => h) rfl (by decide +kernel) rfl rfl (Nat.le_of_ble_eq_true rfl) dMo_count_2 (fun H locs hw => ?_)
  obtain ⟨w1, e1⟩ : ∃ w_, w_ = fw_up w (b) (.inr (10, [.int (nI 0), .ref (b + 1), .ref (b + 2), .int (nI (I 3)), .ref (b + 3), .ref (b + 4), .int (nI (I 6)), .int (nI (I 7)), .ref (b + 5), .ref (b + 6), .int (nI (I 10)), .int (nI (I 11)), .int (nI (I 12)), .int (nI (I 13)), .ref (b + 7), .ref (b + 8), .int (nI (I 16)), .int (nI (I 17)), .int (nI (I 18)), .int (nI (I 19))])) := ⟨_, rfl⟩
  have hw : fw_H D kCl (fw_A w (sz)) s.heap w1 (sz) H locs := by rw [e1]; exact hw
  have b0_ : w1 (b) = some (.inr (10, [.int (nI 0), .ref (b + 1), .ref (b + 2), .int (nI (I 3)), .ref (b + 3), .ref (b + 4), .int (nI (I 6)), .int (nI (I 7)), .ref (b + 5), .ref (b + 6), .int (nI (I 10)), .int (nI (I 11)), .int (nI (I 12)), .int (nI (I 13)), .ref (b + 7), .ref (b + 8), .int (nI (I 16)), .int (nI (I 17)), .int (nI (I 18)), .int (nI (I 19))])) := by rw [e1]; exact fw_us _ _ _
  have b0 := b0_
  refine lv_iload_n (pc := 5) hx hb dMo_count_5 rfl (lv_at hl 1 rfl) ?_
  refine lv_tableIn (pc := 6) (tgt := 52) hx hb dMo_count_6 (by decide) (by decide) rfl (by decide) ?_
  refine lv_aload_n (pc := 52) hx hb dMo_count_52 rfl (lv_at hl 0 rfl) ?_
  refine fw_get (pc := 53) (ci := 10) (v := .int (nI (I 3))) (C := RMo) (T := TMo) (N := 20) hx hb hW in_Mo hown hK.1 hw b0 rfl 3 (by decide) (hW _ lf_Mo_43) (fun _ h => h) rfl dMo_count_53 ?_
  exact fw_iret (pc := 56) hx hb hr hlocks hw dMo_count_56 ⟨rfl, moS.int hS b0 (fun q hq => by rw [e1, fw_un hq]), fun q hq => by rw [e1, fw_un (by omega)]⟩

set_option maxHeartbeats 4000000 in
set_option maxRecDepth 100000 in
theorem c_Mo_count1 {b : Nat} {I : Nat → Nat} {K : Nat → Nat → Nat} {S : Nat → Int32} {C : Nat → Nat} (hS : moS cI cL w b I K S C) : fw_C l yMo_count (Cond.code yMo_count cMo_count 2 (some FieldType.int) :: kWs) ({ frames := 1, cells := 0, slots := 0, locals := 20 } : Room) D kCl (kty cI cL cQ) z [.ref b, .int (nI 1)] (sz) w 0 0 (fun v w' => v = some (.int (nI (I 7))) ∧ moS cI cL w' b (va_up I 0 0) K S C ∧ ∀ q, q < b ∨ b + 9 ≤ q → w' q = w q) := by
  refine fw_ofW (cc := cMo_count) (maxL := 2) (ret := (some FieldType.int)) (by decide) rfl (Nat.le_of_ble_eq_true rfl) ?_
  intro p e s m args below meth c hx hb hr hts hown hlocks hname hml hK H ls hw hl
  have hW : ∀ w ∈ kWs, w.before args s = true := fun w h => hts w (List.mem_cons_of_mem _ h)
  have hown : s.vm.findClass RMo = some m.cls := hown
  have hl : lv_has ls 2 [(0, .ref b), (1, .int (nI 1))] := hl
  have b0 : w b = some (.inr (10, [.int (nI (I 0)), .ref (b + 1), .ref (b + 2), .int (nI (I 3)), .ref (b + 3), .ref (b + 4), .int (nI (I 6)), .int (nI (I 7)), .ref (b + 5), .ref (b + 6), .int (nI (I 10)), .int (nI (I 11)), .int (nI (I 12)), .int (nI (I 13)), .ref (b + 7), .ref (b + 8), .int (nI (I 16)), .int (nI (I 17)), .int (nI (I 18)), .int (nI (I 19))])) := hS.1
  refine lv_aload_n (pc := 0) hx hb dMo_count_0 rfl (lv_at hl 0 rfl) ?_
  refine lv_iconst (pc := 1) (v := (nI 0)) hx hb dMo_count_1 (by decide) ?_
  refine fw_put (pc := 2) (ci := 10) (v := .int (nI 0)) (ty := .int) (C := RMo) (T := TMo) (N := 20) hx hb hW in_Mo tyMo tyMo_ok nmMo hown hK.1 hw b0 rfl 0 (by decide) (hW _ lf_Mo_35) (fun _ h => h) rfl (by decide +kernel) rfl rfl (Nat.le_of_ble_eq_true rfl) dMo_count_2 (fun H locs hw => ?_)
  obtain ⟨w1, e1⟩ : ∃ w_, w_ = fw_up w (b) (.inr (10, [.int (nI 0), .ref (b + 1), .ref (b + 2), .int (nI (I 3)), .ref (b + 3), .ref (b + 4), .int (nI (I 6)), .int (nI (I 7)), .ref (b + 5), .ref (b + 6), .int (nI (I 10)), .int (nI (I 11)), .int (nI (I 12)), .int (nI (I 13)), .ref (b + 7), .ref (b + 8), .int (nI (I 16)), .int (nI (I 17)), .int (nI (I 18)), .int (nI (I 19))])) := ⟨_, rfl⟩
  have hw : fw_H D kCl (fw_A w (sz)) s.heap w1 (sz) H locs := by rw [e1]; exact hw
  have b0_ : w1 (b) = some (.inr (10, [.int (nI 0), .ref (b + 1), .ref (b + 2), .int (nI (I 3)), .ref (b + 3), .ref (b + 4), .int (nI (I 6)), .int (nI (I 7)), .ref (b + 5), .ref (b + 6), .int (nI (I 10)), .int (nI (I 11)), .int (nI (I 12)), .int (nI (I 13)), .ref (b + 7), .ref (b + 8), .int (nI (I 16)), .int (nI (I 17)), .int (nI (I 18)), .int (nI (I 19))])) := by rw [e1]; exact fw_us _ _ _
  have b0 := b0_
  refine lv_iload_n (pc := 5) hx hb dMo_count_5 rfl (lv_at hl 1 rfl) ?_
  refine lv_tableIn (pc := 6) (tgt := 57) hx hb dMo_count_6 (by decide) (by decide) rfl (by decide) ?_
  refine lv_aload_n (pc := 57) hx hb dMo_count_57 rfl (lv_at hl 0 rfl) ?_
  refine fw_get (pc := 58) (ci := 10) (v := .int (nI (I 7))) (C := RMo) (T := TMo) (N := 20) hx hb hW in_Mo hown hK.1 hw b0 rfl 7 (by decide) (hW _ lf_Mo_46) (fun _ h => h) rfl dMo_count_58 ?_
  exact fw_iret (pc := 61) hx hb hr hlocks hw dMo_count_61 ⟨rfl, moS.int hS b0 (fun q hq => by rw [e1, fw_un hq]), fun q hq => by rw [e1, fw_un (by omega)]⟩

set_option maxHeartbeats 4000000 in
set_option maxRecDepth 100000 in
theorem c_Mo_count2 {b : Nat} {I : Nat → Nat} {K : Nat → Nat → Nat} {S : Nat → Int32} {C : Nat → Nat} (hS : moS cI cL w b I K S C) : fw_C l yMo_count (Cond.code yMo_count cMo_count 2 (some FieldType.int) :: kWs) ({ frames := 1, cells := 0, slots := 0, locals := 20 } : Room) D kCl (kty cI cL cQ) z [.ref b, .int (nI 2)] (sz) w 0 0 (fun v w' => v = some (.int (nI (I 16))) ∧ moS cI cL w' b (va_up I 0 0) K S C ∧ ∀ q, q < b ∨ b + 9 ≤ q → w' q = w q) := by
  refine fw_ofW (cc := cMo_count) (maxL := 2) (ret := (some FieldType.int)) (by decide) rfl (Nat.le_of_ble_eq_true rfl) ?_
  intro p e s m args below meth c hx hb hr hts hown hlocks hname hml hK H ls hw hl
  have hW : ∀ w ∈ kWs, w.before args s = true := fun w h => hts w (List.mem_cons_of_mem _ h)
  have hown : s.vm.findClass RMo = some m.cls := hown
  have hl : lv_has ls 2 [(0, .ref b), (1, .int (nI 2))] := hl
  have b0 : w b = some (.inr (10, [.int (nI (I 0)), .ref (b + 1), .ref (b + 2), .int (nI (I 3)), .ref (b + 3), .ref (b + 4), .int (nI (I 6)), .int (nI (I 7)), .ref (b + 5), .ref (b + 6), .int (nI (I 10)), .int (nI (I 11)), .int (nI (I 12)), .int (nI (I 13)), .ref (b + 7), .ref (b + 8), .int (nI (I 16)), .int (nI (I 17)), .int (nI (I 18)), .int (nI (I 19))])) := hS.1
  refine lv_aload_n (pc := 0) hx hb dMo_count_0 rfl (lv_at hl 0 rfl) ?_
  refine lv_iconst (pc := 1) (v := (nI 0)) hx hb dMo_count_1 (by decide) ?_
  refine fw_put (pc := 2) (ci := 10) (v := .int (nI 0)) (ty := .int) (C := RMo) (T := TMo) (N := 20) hx hb hW in_Mo tyMo tyMo_ok nmMo hown hK.1 hw b0 rfl 0 (by decide) (hW _ lf_Mo_35) (fun _ h => h) rfl (by decide +kernel) rfl rfl (Nat.le_of_ble_eq_true rfl) dMo_count_2 (fun H locs hw => ?_)
  obtain ⟨w1, e1⟩ : ∃ w_, w_ = fw_up w (b) (.inr (10, [.int (nI 0), .ref (b + 1), .ref (b + 2), .int (nI (I 3)), .ref (b + 3), .ref (b + 4), .int (nI (I 6)), .int (nI (I 7)), .ref (b + 5), .ref (b + 6), .int (nI (I 10)), .int (nI (I 11)), .int (nI (I 12)), .int (nI (I 13)), .ref (b + 7), .ref (b + 8), .int (nI (I 16)), .int (nI (I 17)), .int (nI (I 18)), .int (nI (I 19))])) := ⟨_, rfl⟩
  have hw : fw_H D kCl (fw_A w (sz)) s.heap w1 (sz) H locs := by rw [e1]; exact hw
  have b0_ : w1 (b) = some (.inr (10, [.int (nI 0), .ref (b + 1), .ref (b + 2), .int (nI (I 3)), .ref (b + 3), .ref (b + 4), .int (nI (I 6)), .int (nI (I 7)), .ref (b + 5), .ref (b + 6), .int (nI (I 10)), .int (nI (I 11)), .int (nI (I 12)), .int (nI (I 13)), .ref (b + 7), .ref (b + 8), .int (nI (I 16)), .int (nI (I 17)), .int (nI (I 18)), .int (nI (I 19))])) := by rw [e1]; exact fw_us _ _ _
  have b0 := b0_
  refine lv_iload_n (pc := 5) hx hb dMo_count_5 rfl (lv_at hl 1 rfl) ?_
  refine lv_tableIn (pc := 6) (tgt := 62) hx hb dMo_count_6 (by decide) (by decide) rfl (by decide) ?_
  refine lv_aload_n (pc := 62) hx hb dMo_count_62 rfl (lv_at hl 0 rfl) ?_
  refine fw_get (pc := 63) (ci := 10) (v := .int (nI (I 16))) (C := RMo) (T := TMo) (N := 20) hx hb hW in_Mo hown hK.1 hw b0 rfl 16 (by decide) (hW _ lf_Mo_98) (fun _ h => h) rfl dMo_count_63 ?_
  exact fw_iret (pc := 66) hx hb hr hlocks hw dMo_count_66 ⟨rfl, moS.int hS b0 (fun q hq => by rw [e1, fw_un hq]), fun q hq => by rw [e1, fw_un (by omega)]⟩

set_option maxHeartbeats 4000000 in
set_option maxRecDepth 100000 in
theorem c_Mo_count3 {b : Nat} {I : Nat → Nat} {K : Nat → Nat → Nat} {S : Nat → Int32} {C : Nat → Nat} (hS : moS cI cL w b I K S C) : fw_C l yMo_count (Cond.code yMo_count cMo_count 2 (some FieldType.int) :: kWs) ({ frames := 1, cells := 0, slots := 0, locals := 20 } : Room) D kCl (kty cI cL cQ) z [.ref b, .int (nI 3)] (sz) w 0 0 (fun v w' => v = some (.int (nI (I 17))) ∧ moS cI cL w' b (va_up I 0 0) K S C ∧ ∀ q, q < b ∨ b + 9 ≤ q → w' q = w q) := by
  refine fw_ofW (cc := cMo_count) (maxL := 2) (ret := (some FieldType.int)) (by decide) rfl (Nat.le_of_ble_eq_true rfl) ?_
  intro p e s m args below meth c hx hb hr hts hown hlocks hname hml hK H ls hw hl
  have hW : ∀ w ∈ kWs, w.before args s = true := fun w h => hts w (List.mem_cons_of_mem _ h)
  have hown : s.vm.findClass RMo = some m.cls := hown
  have hl : lv_has ls 2 [(0, .ref b), (1, .int (nI 3))] := hl
  have b0 : w b = some (.inr (10, [.int (nI (I 0)), .ref (b + 1), .ref (b + 2), .int (nI (I 3)), .ref (b + 3), .ref (b + 4), .int (nI (I 6)), .int (nI (I 7)), .ref (b + 5), .ref (b + 6), .int (nI (I 10)), .int (nI (I 11)), .int (nI (I 12)), .int (nI (I 13)), .ref (b + 7), .ref (b + 8), .int (nI (I 16)), .int (nI (I 17)), .int (nI (I 18)), .int (nI (I 19))])) := hS.1
  refine lv_aload_n (pc := 0) hx hb dMo_count_0 rfl (lv_at hl 0 rfl) ?_
  refine lv_iconst (pc := 1) (v := (nI 0)) hx hb dMo_count_1 (by decide) ?_
  refine fw_put (pc := 2) (ci := 10) (v := .int (nI 0)) (ty := .int) (C := RMo) (T := TMo) (N := 20) hx hb hW in_Mo tyMo tyMo_ok nmMo hown hK.1 hw b0 rfl 0 (by decide) (hW _ lf_Mo_35) (fun _ h => h) rfl (by decide +kernel) rfl rfl (Nat.le_of_ble_eq_true rfl) dMo_count_2 (fun H locs hw => ?_)
  obtain ⟨w1, e1⟩ : ∃ w_, w_ = fw_up w (b) (.inr (10, [.int (nI 0), .ref (b + 1), .ref (b + 2), .int (nI (I 3)), .ref (b + 3), .ref (b + 4), .int (nI (I 6)), .int (nI (I 7)), .ref (b + 5), .ref (b + 6), .int (nI (I 10)), .int (nI (I 11)), .int (nI (I 12)), .int (nI (I 13)), .ref (b + 7), .ref (b + 8), .int (nI (I 16)), .int (nI (I 17)), .int (nI (I 18)), .int (nI (I 19))])) := ⟨_, rfl⟩
  have hw : fw_H D kCl (fw_A w (sz)) s.heap w1 (sz) H locs := by rw [e1]; exact hw
  have b0_ : w1 (b) = some (.inr (10, [.int (nI 0), .ref (b + 1), .ref (b + 2), .int (nI (I 3)), .ref (b + 3), .ref (b + 4), .int (nI (I 6)), .int (nI (I 7)), .ref (b + 5), .ref (b + 6), .int (nI (I 10)), .int (nI (I 11)), .int (nI (I 12)), .int (nI (I 13)), .ref (b + 7), .ref (b + 8), .int (nI (I 16)), .int (nI (I 17)), .int (nI (I 18)), .int (nI (I 19))])) := by rw [e1]; exact fw_us _ _ _
  have b0 := b0_
  refine lv_iload_n (pc := 5) hx hb dMo_count_5 rfl (lv_at hl 1 rfl) ?_
  refine lv_tableIn (pc := 6) (tgt := 67) hx hb dMo_count_6 (by decide) (by decide) rfl (by decide) ?_
  refine lv_aload_n (pc := 67) hx hb dMo_count_67 rfl (lv_at hl 0 rfl) ?_
  refine fw_get (pc := 68) (ci := 10) (v := .int (nI (I 17))) (C := RMo) (T := TMo) (N := 20) hx hb hW in_Mo hown hK.1 hw b0 rfl 17 (by decide) (hW _ lf_Mo_101) (fun _ h => h) rfl dMo_count_68 ?_
  exact fw_iret (pc := 71) hx hb hr hlocks hw dMo_count_71 ⟨rfl, moS.int hS b0 (fun q hq => by rw [e1, fw_un hq]), fun q hq => by rw [e1, fw_un (by omega)]⟩

set_option maxHeartbeats 4000000 in
set_option maxRecDepth 100000 in
theorem c_Mo_count4 {b : Nat} {I : Nat → Nat} {K : Nat → Nat → Nat} {S : Nat → Int32} {C : Nat → Nat} (hS : moS cI cL w b I K S C) : fw_C l yMo_count (Cond.code yMo_count cMo_count 2 (some FieldType.int) :: kWs) ({ frames := 1, cells := 0, slots := 0, locals := 20 } : Room) D kCl (kty cI cL cQ) z [.ref b, .int (nI 4)] (sz) w 0 0 (fun v w' => v = some (.int (nI (I 18))) ∧ moS cI cL w' b (va_up I 0 0) K S C ∧ ∀ q, q < b ∨ b + 9 ≤ q → w' q = w q) := by
  refine fw_ofW (cc := cMo_count) (maxL := 2) (ret := (some FieldType.int)) (by decide) rfl (Nat.le_of_ble_eq_true rfl) ?_
  intro p e s m args below meth c hx hb hr hts hown hlocks hname hml hK H ls hw hl
  have hW : ∀ w ∈ kWs, w.before args s = true := fun w h => hts w (List.mem_cons_of_mem _ h)
  have hown : s.vm.findClass RMo = some m.cls := hown
  have hl : lv_has ls 2 [(0, .ref b), (1, .int (nI 4))] := hl
  have b0 : w b = some (.inr (10, [.int (nI (I 0)), .ref (b + 1), .ref (b + 2), .int (nI (I 3)), .ref (b + 3), .ref (b + 4), .int (nI (I 6)), .int (nI (I 7)), .ref (b + 5), .ref (b + 6), .int (nI (I 10)), .int (nI (I 11)), .int (nI (I 12)), .int (nI (I 13)), .ref (b + 7), .ref (b + 8), .int (nI (I 16)), .int (nI (I 17)), .int (nI (I 18)), .int (nI (I 19))])) := hS.1
  refine lv_aload_n (pc := 0) hx hb dMo_count_0 rfl (lv_at hl 0 rfl) ?_
  refine lv_iconst (pc := 1) (v := (nI 0)) hx hb dMo_count_1 (by decide) ?_
  refine fw_put (pc := 2) (ci := 10) (v := .int (nI 0)) (ty := .int) (C := RMo) (T := TMo) (N := 20) hx hb hW in_Mo tyMo tyMo_ok nmMo hown hK.1 hw b0 rfl 0 (by decide) (hW _ lf_Mo_35) (fun _ h => h) rfl (by decide +kernel) rfl rfl (Nat.le_of_ble_eq_true rfl) dMo_count_2 (fun H locs hw => ?_)
  obtain ⟨w1, e1⟩ : ∃ w_, w_ = fw_up w (b) (.inr (10, [.int (nI 0), .ref (b + 1), .ref (b + 2), .int (nI (I 3)), .ref (b + 3), .ref (b + 4), .int (nI (I 6)), .int (nI (I 7)), .ref (b + 5), .ref (b + 6), .int (nI (I 10)), .int (nI (I 11)), .int (nI (I 12)), .int (nI (I 13)), .ref (b + 7), .ref (b + 8), .int (nI (I 16)), .int (nI (I 17)), .int (nI (I 18)), .int (nI (I 19))])) := ⟨_, rfl⟩
  have hw : fw_H D kCl (fw_A w (sz)) s.heap w1 (sz) H locs := by rw [e1]; exact hw
  have b0_ : w1 (b) = some (.inr (10, [.int (nI 0), .ref (b + 1), .ref (b + 2), .int (nI (I 3)), .ref (b + 3), .ref (b + 4), .int (nI (I 6)), .int (nI (I 7)), .ref (b + 5), .ref (b + 6), .int (nI (I 10)), .int (nI (I 11)), .int (nI (I 12)), .int (nI (I 13)), .ref (b + 7), .ref (b + 8), .int (nI (I 16)), .int (nI (I 17)), .int (nI (I 18)), .int (nI (I 19))])) := by rw [e1]; exact fw_us _ _ _
  have b0 := b0_
  refine lv_iload_n (pc := 5) hx hb dMo_count_5 rfl (lv_at hl 1 rfl) ?_
  refine lv_tableIn (pc := 6) (tgt := 72) hx hb dMo_count_6 (by decide) (by decide) rfl (by decide) ?_
  refine lv_aload_n (pc := 72) hx hb dMo_count_72 rfl (lv_at hl 0 rfl) ?_
  refine fw_get (pc := 73) (ci := 10) (v := .int (nI (I 18))) (C := RMo) (T := TMo) (N := 20) hx hb hW in_Mo hown hK.1 hw b0 rfl 18 (by decide) (hW _ lf_Mo_104) (fun _ h => h) rfl dMo_count_73 ?_
  exact fw_iret (pc := 76) hx hb hr hlocks hw dMo_count_76 ⟨rfl, moS.int hS b0 (fun q hq => by rw [e1, fw_un hq]), fun q hq => by rw [e1, fw_un (by omega)]⟩

set_option maxHeartbeats 4000000 in
set_option maxRecDepth 100000 in
theorem c_Mo_count5n {b : Nat} {I : Nat → Nat} {K : Nat → Nat → Nat} {S : Nat → Int32} {C : Nat → Nat} (hS : moS cI cL w b I K S C) (h6 : I 6 < 2 ^ 31) (h7 : I 7 < 2 ^ 31) (h16 : I 16 < 2 ^ 31) (hno : ¬ (0 < I 6 ∧ I 16 = I 7)) : fw_C l yMo_count (Cond.code yMo_count cMo_count 2 (some FieldType.int) :: kWs) ({ frames := 1, cells := 0, slots := 0, locals := 20 } : Room) D kCl (kty cI cL cQ) z [.ref b, .int (nI 5)] (sz) w 0 0 (fun v w' => v = some (.int (nI 0)) ∧ moS cI cL w' b (va_up I 0 0) K S C ∧ ∀ q, q < b ∨ b + 9 ≤ q → w' q = w q) := by
  refine fw_ofW (cc := cMo_count) (maxL := 2) (ret := (some FieldType.int)) (by decide) rfl (Nat.le_of_ble_eq_true rfl) ?_
  intro p e s m args below meth c hx hb hr hts hown hlocks hname hml hK H ls hw hl
  have hW : ∀ w ∈ kWs, w.before args s = true := fun w h => hts w (List.mem_cons_of_mem _ h)
  have hown : s.vm.findClass RMo = some m.cls := hown
  have hl : lv_has ls 2 [(0, .ref b), (1, .int (nI 5))] := hl
  have b0 : w b = some (.inr (10, [.int (nI (I 0)), .ref (b + 1), .ref (b + 2), .int (nI (I 3)), .ref (b + 3), .ref (b + 4), .int (nI (I 6)), .int (nI (I 7)), .ref (b + 5), .ref (b + 6), .int (nI (I 10)), .int (nI (I 11)), .int (nI (I 12)), .int (nI (I 13)), .ref (b + 7), .ref (b + 8), .int (nI (I 16)), .int (nI (I 17)), .int (nI (I 18)), .int (nI (I 19))])) := hS.1
  refine lv_aload_n (pc := 0) hx hb dMo_count_0 rfl (lv_at hl 0 rfl) ?_
  refine lv_iconst (pc := 1) (v := (nI 0)) hx hb dMo_count_1 (by decide) ?_
  refine fw_put (pc := 2) (ci := 10) (v := .int (nI 0)) (ty := .int) (C := RMo) (T := TMo) (N := 20) hx hb hW in_Mo tyMo tyMo_ok nmMo hown hK.1 hw b0 rfl 0 (by decide) (hW _ lf_Mo_35) (fun _ h => h) rfl (by decide +kernel) rfl rfl (Nat.le_of_ble_eq_true rfl) dMo_count_2 (fun H locs hw => ?_)
  obtain ⟨w1, e1⟩ : ∃ w_, w_ = fw_up w (b) (.inr (10, [.int (nI 0), .ref (b + 1), .ref (b + 2), .int (nI (I 3)), .ref (b + 3), .ref (b + 4), .int (nI (I 6)), .int (nI (I 7)), .ref (b + 5), .ref (b + 6), .int (nI (I 10)), .int (nI (I 11)), .int (nI (I 12)), .int (nI (I 13)), .ref (b + 7), .ref (b + 8), .int (nI (I 16)), .int (nI (I 17)), .int (nI (I 18)), .int (nI (I 19))])) := ⟨_, rfl⟩
  have hw : fw_H D kCl (fw_A w (sz)) s.heap w1 (sz) H locs := by rw [e1]; exact hw
  have b0_ : w1 (b) = some (.inr (10, [.int (nI 0), .ref (b + 1), .ref (b + 2), .int (nI (I 3)), .ref (b + 3), .ref (b + 4), .int (nI (I 6)), .int (nI (I 7)), .ref (b + 5), .ref (b + 6), .int (nI (I 10)), .int (nI (I 11)), .int (nI (I 12)), .int (nI (I 13)), .ref (b + 7), .ref (b + 8), .int (nI (I 16)), .int (nI (I 17)), .int (nI (I 18)), .int (nI (I 19))])) := by rw [e1]; exact fw_us _ _ _
  have b0 := b0_
  refine lv_iload_n (pc := 5) hx hb dMo_count_5 rfl (lv_at hl 1 rfl) ?_
  have hS : moS cI cL w1 b (va_up I 0 0) K S C := moS.int hS b0 (fun q hq => by rw [e1, fw_un hq])
  refine lv_tableIn (pc := 6) (tgt := 77) hx hb dMo_count_6 (by decide) (by decide) rfl (by decide) ?_
  refine lv_aload_n (pc := 77) hx hb dMo_count_77 rfl (lv_at hl 0 rfl) ?_
  refine fw_cVR (pc := 78) (As := []) (rest := []) ⟨hx, hb, hml, hown, hW⟩ (c_Mo_hasResult hS h6 h7 h16) (cwV 0 hW (kw_V lm_Mo_196 im_Mo_hasResult se_Mo_hasResult ini_Mo cd_Mo_hasResult) rfl rfl rfl (by decide +kernel) ⟨Nat.le_of_ble_eq_true rfl, Nat.le_of_ble_eq_true rfl⟩) hK hw b0 rfl rfl hl.1 rfl (Nat.le_of_ble_eq_true rfl) dMo_count_78 ⟨Nat.le_of_ble_eq_true rfl, Nat.le_of_ble_eq_true rfl⟩ (fun v hq => ?_)
  have hq : v = some (.int (nI (if 0 < I 6 ∧ I 16 = I 7 then 1 else 0))) := hq
  rw [if_neg hno] at hq
  subst hq
  refine W.eq (g2 := F0 m 81 ls [.int (nI 0)]) rfl ?_
  refine lv_if_eq (pc := 81) (tgt := 88) hx hb dMo_count_81 (by decide) (fun _ => ?_) (fun hc => absurd (show nI 0 = 0 by decide) hc)
  refine lv_iconst (pc := 88) (v := (nI 0)) hx hb dMo_count_88 (by decide) ?_
  exact fw_iret (pc := 89) hx hb hr hlocks hw dMo_count_89 ⟨rfl, hS, fun q hq => by rw [e1, fw_un (by omega)]⟩

set_option maxHeartbeats 4000000 in
set_option maxRecDepth 100000 in
theorem c_Mo_count5 {b : Nat} {I : Nat → Nat} {K : Nat → Nat → Nat} {S : Nat → Int32} {C : Nat → Nat} (hS : moS cI cL w b I K S C) (h6 : I 6 < 2 ^ 31) (h7 : I 7 < 2 ^ 31) (h16 : I 16 < 2 ^ 31) (hno : 0 < I 6 ∧ I 16 = I 7) : fw_C l yMo_count (Cond.code yMo_count cMo_count 2 (some FieldType.int) :: kWs) ({ frames := 1, cells := 0, slots := 0, locals := 20 } : Room) D kCl (kty cI cL cQ) z [.ref b, .int (nI 5)] (sz) w 0 0 (fun v w' => v = some (.int (nI 1)) ∧ moS cI cL w' b (va_up I 0 0) K S C ∧ ∀ q, q < b ∨ b + 9 ≤ q → w' q = w q) := by
  refine fw_ofW (cc := cMo_count) (maxL := 2) (ret := (some FieldType.int)) (by decide) rfl (Nat.le_of_ble_eq_true rfl) ?_
  intro p e s m args below meth c hx hb hr hts hown hlocks hname hml hK H ls hw hl
  have hW : ∀ w ∈ kWs, w.before args s = true := fun w h => hts w (List.mem_cons_of_mem _ h)
  have hown : s.vm.findClass RMo = some m.cls := hown
  have hl : lv_has ls 2 [(0, .ref b), (1, .int (nI 5))] := hl
  have b0 : w b = some (.inr (10, [.int (nI (I 0)), .ref (b + 1), .ref (b + 2), .int (nI (I 3)), .ref (b + 3), .ref (b + 4), .int (nI (I 6)), .int (nI (I 7)), .ref (b + 5), .ref (b + 6), .int (nI (I 10)), .int (nI (I 11)), .int (nI (I 12)), .int (nI (I 13)), .ref (b + 7), .ref (b + 8), .int (nI (I 16)), .int (nI (I 17)), .int (nI (I 18)), .int (nI (I 19))])) := hS.1
  refine lv_aload_n (pc := 0) hx hb dMo_count_0 rfl (lv_at hl 0 rfl) ?_
  refine lv_iconst (pc := 1) (v := (nI 0)) hx hb dMo_count_1 (by decide) ?_
  refine fw_put (pc := 2) (ci := 10) (v := .int (nI 0)) (ty := .int) (C := RMo) (T := TMo) (N := 20) hx hb hW in_Mo tyMo tyMo_ok nmMo hown hK.1 hw b0 rfl 0 (by decide) (hW _ lf_Mo_35) (fun _ h => h) rfl (by decide +kernel) rfl rfl (Nat.le_of_ble_eq_true rfl) dMo_count_2 (fun H locs hw => ?_)
  obtain ⟨w1, e1⟩ : ∃ w_, w_ = fw_up w (b) (.inr (10, [.int (nI 0), .ref (b + 1), .ref (b + 2), .int (nI (I 3)), .ref (b + 3), .ref (b + 4), .int (nI (I 6)), .int (nI (I 7)), .ref (b + 5), .ref (b + 6), .int (nI (I 10)), .int (nI (I 11)), .int (nI (I 12)), .int (nI (I 13)), .ref (b + 7), .ref (b + 8), .int (nI (I 16)), .int (nI (I 17)), .int (nI (I 18)), .int (nI (I 19))])) := ⟨_, rfl⟩
  have hw : fw_H D kCl (fw_A w (sz)) s.heap w1 (sz) H locs := by rw [e1]; exact hw
  have b0_ : w1 (b) = some (.inr (10, [.int (nI 0), .ref (b + 1), .ref (b + 2), .int (nI (I 3)), .ref (b + 3), .ref (b + 4), .int (nI (I 6)), .int (nI (I 7)), .ref (b + 5), .ref (b + 6), .int (nI (I 10)), .int (nI (I 11)), .int (nI (I 12)), .int (nI (I 13)), .ref (b + 7), .ref (b + 8), .int (nI (I 16)), .int (nI (I 17)), .int (nI (I 18)), .int (nI (I 19))])) := by rw [e1]; exact fw_us _ _ _
  have b0 := b0_
  refine lv_iload_n (pc := 5) hx hb dMo_count_5 rfl (lv_at hl 1 rfl) ?_
  have hS : moS cI cL w1 b (va_up I 0 0) K S C := moS.int hS b0 (fun q hq => by rw [e1, fw_un hq])
  refine lv_tableIn (pc := 6) (tgt := 77) hx hb dMo_count_6 (by decide) (by decide) rfl (by decide) ?_
  refine lv_aload_n (pc := 77) hx hb dMo_count_77 rfl (lv_at hl 0 rfl) ?_
  refine fw_cVR (pc := 78) (As := []) (rest := []) ⟨hx, hb, hml, hown, hW⟩ (c_Mo_hasResult hS h6 h7 h16) (cwV 0 hW (kw_V lm_Mo_196 im_Mo_hasResult se_Mo_hasResult ini_Mo cd_Mo_hasResult) rfl rfl rfl (by decide +kernel) ⟨Nat.le_of_ble_eq_true rfl, Nat.le_of_ble_eq_true rfl⟩) hK hw b0 rfl rfl hl.1 rfl (Nat.le_of_ble_eq_true rfl) dMo_count_78 ⟨Nat.le_of_ble_eq_true rfl, Nat.le_of_ble_eq_true rfl⟩ (fun v hq => ?_)
  have hq : v = some (.int (nI (if 0 < I 6 ∧ I 16 = I 7 then 1 else 0))) := hq
  rw [if_pos hno] at hq
  subst hq
  refine W.eq (g2 := F0 m 81 ls [.int (nI 1)]) rfl ?_
  refine lv_if_eq (pc := 81) (tgt := 88) hx hb dMo_count_81 (by decide) (fun hc => absurd hc (show ¬ nI 1 = 0 by decide)) (fun _ => ?_)
  refine lv_iconst (pc := 84) (v := (nI 1)) hx hb dMo_count_84 (by decide) ?_
  refine lv_goto (pc := 85) (tgt := 89) hx hb dMo_count_85 (by decide) ?_
  exact fw_iret (pc := 89) hx hb hr hlocks hw dMo_count_89 ⟨rfl, hS, fun q hq => by rw [e1, fw_un (by omega)]⟩

set_option maxHeartbeats 4000000 in
set_option maxRecDepth 100000 in
theorem c_Mo_count6n {b : Nat} {I : Nat → Nat} {K : Nat → Nat → Nat} {S : Nat → Int32} {C : Nat → Nat} (hS : moS cI cL w b I K S C) (h6 : I 6 < 2 ^ 31) (h7 : I 7 < 2 ^ 31) (h16 : I 16 < 2 ^ 31) (hno : ¬ (0 < I 6 ∧ I 16 = I 7)) : fw_C l yMo_count (Cond.code yMo_count cMo_count 2 (some FieldType.int) :: kWs) ({ frames := 1, cells := 0, slots := 0, locals := 20 } : Room) D kCl (kty cI cL cQ) z [.ref b, .int (nI 6)] (sz) w 0 0 (fun v w' => v = some (.int (-1)) ∧ moS cI cL w' b (va_up I 0 0) K S C ∧ ∀ q, q < b ∨ b + 9 ≤ q → w' q = w q) := by
  refine fw_ofW (cc := cMo_count) (maxL := 2) (ret := (some FieldType.int)) (by decide) rfl (Nat.le_of_ble_eq_true rfl) ?_
  intro p e s m args below meth c hx hb hr hts hown hlocks hname hml hK H ls hw hl
  have hW : ∀ w ∈ kWs, w.before args s = true := fun w h => hts w (List.mem_cons_of_mem _ h)
  have hown : s.vm.findClass RMo = some m.cls := hown
  have hl : lv_has ls 2 [(0, .ref b), (1, .int (nI 6))] := hl
  have b0 : w b = some (.inr (10, [.int (nI (I 0)), .ref (b + 1), .ref (b + 2), .int (nI (I 3)), .ref (b + 3), .ref (b + 4), .int (nI (I 6)), .int (nI (I 7)), .ref (b + 5), .ref (b + 6), .int (nI (I 10)), .int (nI (I 11)), .int (nI (I 12)), .int (nI (I 13)), .ref (b + 7), .ref (b + 8), .int (nI (I 16)), .int (nI (I 17)), .int (nI (I 18)), .int (nI (I 19))])) := hS.1
  refine lv_aload_n (pc := 0) hx hb dMo_count_0 rfl (lv_at hl 0 rfl) ?_
  refine lv_iconst (pc := 1) (v := (nI 0)) hx hb dMo_count_1 (by decide) ?_
  refine fw_put (pc := 2) (ci := 10) (v := .int (nI 0)) (ty := .int) (C := RMo) (T := TMo) (N := 20) hx hb hW in_Mo tyMo tyMo_ok nmMo hown hK.1 hw b0 rfl 0 (by decide) (hW _ lf_Mo_35) (fun _ h => h) rfl (by decide +kernel) rfl rfl (Nat.le_of_ble_eq_true rfl) dMo_count_2 (fun H locs hw => ?_)
  obtain ⟨w1, e1⟩ : ∃ w_, w_ = fw_up w (b) (.inr (10, [.int (nI 0), .ref (b + 1), .ref (b + 2), .int (nI (I 3)), .ref (b + 3), .ref (b + 4), .int (nI (I 6)), .int (nI (I 7)), .ref (b + 5), .ref (b + 6), .int (nI (I 10)), .int (nI (I 11)), .int (nI (I 12)), .int (nI (I 13)), .ref (b + 7), .ref (b + 8), .int (nI (I 16)), .int (nI (I 17)), .int (nI (I 18)), .int (nI (I 19))])) := ⟨_, rfl⟩
  have hw : fw_H D kCl (fw_A w (sz)) s.heap w1 (sz) H locs := by rw [e1]; exact hw
  have b0_ : w1 (b) = some (.inr (10, [.int (nI 0), .ref (b + 1), .ref (b + 2), .int (nI (I 3)), .ref (b + 3), .ref (b + 4), .int (nI (I 6)), .int (nI (I 7)), .ref (b + 5), .ref (b + 6), .int (nI (I 10)), .int (nI (I 11)), .int (nI (I 12)), .int (nI (I 13)), .ref (b + 7), .ref (b + 8), .int (nI (I 16)), .int (nI (I 17)), .int (nI (I 18)), .int (nI (I 19))])) := by rw [e1]; exact fw_us _ _ _
  have b0 := b0_
  refine lv_iload_n (pc := 5) hx hb dMo_count_5 rfl (lv_at hl 1 rfl) ?_
  have hS : moS cI cL w1 b (va_up I 0 0) K S C := moS.int hS b0 (fun q hq => by rw [e1, fw_un hq])
  refine lv_tableIn (pc := 6) (tgt := 90) hx hb dMo_count_6 (by decide) (by decide) rfl (by decide) ?_
  refine lv_aload_n (pc := 90) hx hb dMo_count_90 rfl (lv_at hl 0 rfl) ?_
  refine fw_cVR (pc := 91) (As := []) (rest := []) ⟨hx, hb, hml, hown, hW⟩ (c_Mo_hasResult hS h6 h7 h16) (cwV 0 hW (kw_V lm_Mo_196 im_Mo_hasResult se_Mo_hasResult ini_Mo cd_Mo_hasResult) rfl rfl rfl (by decide +kernel) ⟨Nat.le_of_ble_eq_true rfl, Nat.le_of_ble_eq_true rfl⟩) hK hw b0 rfl rfl hl.1 rfl (Nat.le_of_ble_eq_true rfl) dMo_count_91 ⟨Nat.le_of_ble_eq_true rfl, Nat.le_of_ble_eq_true rfl⟩ (fun v hq => ?_)
  have hq : v = some (.int (nI (if 0 < I 6 ∧ I 16 = I 7 then 1 else 0))) := hq
  rw [if_neg hno] at hq
  subst hq
  refine W.eq (g2 := F0 m 94 ls [.int (nI 0)]) rfl ?_
  refine lv_if_eq (pc := 94) (tgt := 105) hx hb dMo_count_94 (by decide) (fun _ => ?_) (fun hc => absurd (show nI 0 = 0 by decide) hc)
  refine lv_iconst (pc := 105) (v := (-1)) hx hb dMo_count_105 (by decide) ?_
  exact fw_iret (pc := 106) hx hb hr hlocks hw dMo_count_106 ⟨rfl, hS, fun q hq => by rw [e1, fw_un (by omega)]⟩

set_option maxHeartbeats 4000000 in
set_option maxRecDepth 100000 in
theorem c_Mo_count7n {b : Nat} {I : Nat → Nat} {K : Nat → Nat → Nat} {S : Nat → Int32} {C : Nat → Nat} (hS : moS cI cL w b I K S C) (h6 : I 6 < 2 ^ 31) (h7 : I 7 < 2 ^ 31) (h16 : I 16 < 2 ^ 31) (hno : ¬ (0 < I 6 ∧ I 16 = I 7)) : fw_C l yMo_count (Cond.code yMo_count cMo_count 2 (some FieldType.int) :: kWs) ({ frames := 1, cells := 0, slots := 0, locals := 20 } : Room) D kCl (kty cI cL cQ) z [.ref b, .int (nI 7)] (sz) w 0 0 (fun v w' => v = some (.int (-1)) ∧ moS cI cL w' b (va_up I 0 0) K S C ∧ ∀ q, q < b ∨ b + 9 ≤ q → w' q = w q) := by
  refine fw_ofW (cc := cMo_count) (maxL := 2) (ret := (some FieldType.int)) (by decide) rfl (Nat.le_of_ble_eq_true rfl) ?_
  intro p e s m args below meth c hx hb hr hts hown hlocks hname hml hK H ls hw hl
  have hW : ∀ w ∈ kWs, w.before args s = true := fun w h => hts w (List.mem_cons_of_mem _ h)
  have hown : s.vm.findClass RMo = some m.cls := hown
  have hl : lv_has ls 2 [(0, .ref b), (1, .int (nI 7))] := hl
  have b0 : w b = some (.inr (10, [.int (nI (I 0)), .ref (b + 1), .ref (b + 2), .int (nI (I 3)), .ref (b + 3), .ref (b + 4), .int (nI (I 6)), .int (nI (I 7)), .ref (b + 5), .ref (b + 6), .int (nI (I 10)), .int (nI (I 11)), .int (nI (I 12)), .int (nI (I 13)), .ref (b + 7), .ref (b + 8), .int (nI (I 16)), .int (nI (I 17)), .int (nI (I 18)), .int (nI (I 19))])) := hS.1
  refine lv_aload_n (pc := 0) hx hb dMo_count_0 rfl (lv_at hl 0 rfl) ?_
  refine lv_iconst (pc := 1) (v := (nI 0)) hx hb dMo_count_1 (by decide) ?_
  refine fw_put (pc := 2) (ci := 10) (v := .int (nI 0)) (ty := .int) (C := RMo) (T := TMo) (N := 20) hx hb hW in_Mo tyMo tyMo_ok nmMo hown hK.1 hw b0 rfl 0 (by decide) (hW _ lf_Mo_35) (fun _ h => h) rfl (by decide +kernel) rfl rfl (Nat.le_of_ble_eq_true rfl) dMo_count_2 (fun H locs hw => ?_)
  obtain ⟨w1, e1⟩ : ∃ w_, w_ = fw_up w (b) (.inr (10, [.int (nI 0), .ref (b + 1), .ref (b + 2), .int (nI (I 3)), .ref (b + 3), .ref (b + 4), .int (nI (I 6)), .int (nI (I 7)), .ref (b + 5), .ref (b + 6), .int (nI (I 10)), .int (nI (I 11)), .int (nI (I 12)), .int (nI (I 13)), .ref (b + 7), .ref (b + 8), .int (nI (I 16)), .int (nI (I 17)), .int (nI (I 18)), .int (nI (I 19))])) := ⟨_, rfl⟩
  have hw : fw_H D kCl (fw_A w (sz)) s.heap w1 (sz) H locs := by rw [e1]; exact hw
  have b0_ : w1 (b) = some (.inr (10, [.int (nI 0), .ref (b + 1), .ref (b + 2), .int (nI (I 3)), .ref (b + 3), .ref (b + 4), .int (nI (I 6)), .int (nI (I 7)), .ref (b + 5), .ref (b + 6), .int (nI (I 10)), .int (nI (I 11)), .int (nI (I 12)), .int (nI (I 13)), .ref (b + 7), .ref (b + 8), .int (nI (I 16)), .int (nI (I 17)), .int (nI (I 18)), .int (nI (I 19))])) := by rw [e1]; exact fw_us _ _ _
  have b0 := b0_
  refine lv_iload_n (pc := 5) hx hb dMo_count_5 rfl (lv_at hl 1 rfl) ?_
  have hS : moS cI cL w1 b (va_up I 0 0) K S C := moS.int hS b0 (fun q hq => by rw [e1, fw_un hq])
  refine lv_tableIn (pc := 6) (tgt := 107) hx hb dMo_count_6 (by decide) (by decide) rfl (by decide) ?_
  refine lv_aload_n (pc := 107) hx hb dMo_count_107 rfl (lv_at hl 0 rfl) ?_
  refine fw_cVR (pc := 108) (As := []) (rest := []) ⟨hx, hb, hml, hown, hW⟩ (c_Mo_hasResult hS h6 h7 h16) (cwV 0 hW (kw_V lm_Mo_196 im_Mo_hasResult se_Mo_hasResult ini_Mo cd_Mo_hasResult) rfl rfl rfl (by decide +kernel) ⟨Nat.le_of_ble_eq_true rfl, Nat.le_of_ble_eq_true rfl⟩) hK hw b0 rfl rfl hl.1 rfl (Nat.le_of_ble_eq_true rfl) dMo_count_108 ⟨Nat.le_of_ble_eq_true rfl, Nat.le_of_ble_eq_true rfl⟩ (fun v hq => ?_)
  have hq : v = some (.int (nI (if 0 < I 6 ∧ I 16 = I 7 then 1 else 0))) := hq
  rw [if_neg hno] at hq
  subst hq
  refine W.eq (g2 := F0 m 111 ls [.int (nI 0)]) rfl ?_
  refine lv_if_eq (pc := 111) (tgt := 121) hx hb dMo_count_111 (by decide) (fun _ => ?_) (fun hc => absurd (show nI 0 = 0 by decide) hc)
  refine lv_iconst (pc := 121) (v := (-1)) hx hb dMo_count_121 (by decide) ?_
  exact fw_iret (pc := 122) hx hb hr hlocks hw dMo_count_122 ⟨rfl, hS, fun q hq => by rw [e1, fw_un (by omega)]⟩

set_option maxHeartbeats 4000000 in
set_option maxRecDepth 100000 in
theorem c_Mo_countO {b : Nat} {I : Nat → Nat} {K : Nat → Nat → Nat} {S : Nat → Int32} {C : Nat → Nat} (hS : moS cI cL w b I K S C) {x : Int32} (hx9 : x < 0 ∨ nI 7 < x) : fw_C l yMo_count (Cond.code yMo_count cMo_count 2 (some FieldType.int) :: kWs) ({ frames := 1, cells := 0, slots := 0, locals := 20 } : Room) D kCl (kty cI cL cQ) z [.ref b, .int x] (sz) w 0 0 (fun v w' => v = some (.int (-1)) ∧ moS cI cL w' b (va_up I 0 0) K S C ∧ ∀ q, q < b ∨ b + 9 ≤ q → w' q = w q) := by
  refine fw_ofW (cc := cMo_count) (maxL := 2) (ret := (some FieldType.int)) (by decide) rfl (Nat.le_of_ble_eq_true rfl) ?_
  intro p e s m args below meth c hx hb hr hts hown hlocks hname hml hK H ls hw hl
  have hW : ∀ w ∈ kWs, w.before args s = true := fun w h => hts w (List.mem_cons_of_mem _ h)
  have hown : s.vm.findClass RMo = some m.cls := hown
  have hl : lv_has ls 2 [(0, .ref b), (1, .int x)] := hl
  have b0 : w b = some (.inr (10, [.int (nI (I 0)), .ref (b + 1), .ref (b + 2), .int (nI (I 3)), .ref (b + 3), .ref (b + 4), .int (nI (I 6)), .int (nI (I 7)), .ref (b + 5), .ref (b + 6), .int (nI (I 10)), .int (nI (I 11)), .int (nI (I 12)), .int (nI (I 13)), .ref (b + 7), .ref (b + 8), .int (nI (I 16)), .int (nI (I 17)), .int (nI (I 18)), .int (nI (I 19))])) := hS.1
  refine lv_aload_n (pc := 0) hx hb dMo_count_0 rfl (lv_at hl 0 rfl) ?_
  refine lv_iconst (pc := 1) (v := (nI 0)) hx hb dMo_count_1 (by decide) ?_
  refine fw_put (pc := 2) (ci := 10) (v := .int (nI 0)) (ty := .int) (C := RMo) (T := TMo) (N := 20) hx hb hW in_Mo tyMo tyMo_ok nmMo hown hK.1 hw b0 rfl 0 (by decide) (hW _ lf_Mo_35) (fun _ h => h) rfl (by decide +kernel) rfl rfl (Nat.le_of_ble_eq_true rfl) dMo_count_2 (fun H locs hw => ?_)
  obtain ⟨w1, e1⟩ : ∃ w_, w_ = fw_up w (b) (.inr (10, [.int (nI 0), .ref (b + 1), .ref (b + 2), .int (nI (I 3)), .ref (b + 3), .ref (b + 4), .int (nI (I 6)), .int (nI (I 7)), .ref (b + 5), .ref (b + 6), .int (nI (I 10)), .int (nI (I 11)), .int (nI (I 12)), .int (nI (I 13)), .ref (b + 7), .ref (b + 8), .int (nI (I 16)), .int (nI (I 17)), .int (nI (I 18)), .int (nI (I 19))])) := ⟨_, rfl⟩
  have hw : fw_H D kCl (fw_A w (sz)) s.heap w1 (sz) H locs := by rw [e1]; exact hw
  have b0_ : w1 (b) = some (.inr (10, [.int (nI 0), .ref (b + 1), .ref (b + 2), .int (nI (I 3)), .ref (b + 3), .ref (b + 4), .int (nI (I 6)), .int (nI (I 7)), .ref (b + 5), .ref (b + 6), .int (nI (I 10)), .int (nI (I 11)), .int (nI (I 12)), .int (nI (I 13)), .ref (b + 7), .ref (b + 8), .int (nI (I 16)), .int (nI (I 17)), .int (nI (I 18)), .int (nI (I 19))])) := by rw [e1]; exact fw_us _ _ _
  have b0 := b0_
  refine lv_iload_n (pc := 5) hx hb dMo_count_5 rfl (lv_at hl 1 rfl) ?_
  refine lv_tableOut (pc := 6) (tgt := 123) hx hb dMo_count_6 (by rcases hx9 with h9 | h9; exact Or.inl (Int32.lt_iff_toInt_lt.mp h9); exact Or.inr (Int32.lt_iff_toInt_lt.mp h9)) (by decide) ?_
  refine lv_iconst (pc := 123) (v := (-1)) hx hb dMo_count_123 (by decide) ?_
  exact fw_iret (pc := 124) hx hb hr hlocks hw dMo_count_124 ⟨rfl, moS.int hS b0 (fun q hq => by rw [e1, fw_un hq]), fun q hq => by rw [e1, fw_un (by omega)]⟩

set_option maxHeartbeats 4000000 in
set_option maxRecDepth 100000 in
theorem c_Mo_setT {b : Nat} {I : Nat → Nat} {K : Nat → Nat → Nat} {S : Nat → Int32} {C : Nat → Nat} (hS : moS cI cL w b I K S C) {x : Int32} {y : Int64} (hx9 : x < 0 ∨ nI 7 < x) : fw_C l yMo_set (Cond.code yMo_set cMo_set 7 none :: kWs) ({ frames := 1, cells := 0, slots := 0, locals := 22 } : Room) D kCl (kty cI cL cQ) z [.ref b, .int x, .long y] (sz) w 0 0 (fun v w' => v = none ∧ moS cI cL w' b (va_up I 0 1) K S C ∧ ∀ q, q < b ∨ b + 9 ≤ q → w' q = w q) := by
  refine fw_ofW (cc := cMo_set) (maxL := 7) (ret := none) (by decide) rfl (Nat.le_of_ble_eq_true rfl) ?_
  intro p e s m args below meth c hx hb hr hts hown hlocks hname hml hK H ls hw hl
  have hW : ∀ w ∈ kWs, w.before args s = true := fun w h => hts w (List.mem_cons_of_mem _ h)
  have hown : s.vm.findClass RMo = some m.cls := hown
  have hl : lv_has ls 7 [(0, .ref b), (1, .int x), (2, .long y)] := hl
  have b0 : w b = some (.inr (10, [.int (nI (I 0)), .ref (b + 1), .ref (b + 2), .int (nI (I 3)), .ref (b + 3), .ref (b + 4), .int (nI (I 6)), .int (nI (I 7)), .ref (b + 5), .ref (b + 6), .int (nI (I 10)), .int (nI (I 11)), .int (nI (I 12)), .int (nI (I 13)), .ref (b + 7), .ref (b + 8), .int (nI (I 16)), .int (nI (I 17)), .int (nI (I 18)), .int (nI (I 19))])) := hS.1
  refine lv_aload_n (pc := 0) hx hb dMo_set_0 rfl (lv_at hl 0 rfl) ?_
  refine lv_iload_n (pc := 1) hx hb dMo_set_1 rfl (lv_at hl 1 rfl) ?_
  refine lv_if_lt (pc := 2) (tgt := 11) hx hb dMo_set_2 (by decide) (fun ha => ?_) (fun ha => ?_)
  · refine lv_iconst (pc := 11) (v := (nI 1)) hx hb dMo_set_11 (by decide) ?_
    refine lv_goto (pc := 12) (tgt := 16) hx hb dMo_set_12 (by decide) ?_
    refine lv_iconst (pc := 16) (v := (nI 1)) hx hb dMo_set_16 (by decide) ?_
    refine fw_cV (pc := 17) (As := [.int (nI 1), .int (nI 1)]) (rest := []) ⟨hx, hb, hml, hown, hW⟩ (c_Mo_fails1 (k := 1) hS) (cwV 2 hW (kw_V lm_Mo_39 im_Mo_fails se_Mo_fails ini_Mo cd_Mo_fails) rfl rfl rfl (by decide +kernel) ⟨Nat.le_of_ble_eq_true rfl, Nat.le_of_ble_eq_true rfl⟩) hK hw b0 rfl rfl hl.1 rfl (Nat.le_of_ble_eq_true rfl) dMo_set_17 ⟨Nat.le_of_ble_eq_true rfl, Nat.le_of_ble_eq_true rfl⟩ (fun v w1 H locs hq hw => ?_)
    obtain ⟨rfl, hS_, hfr_⟩ := hq
    have hfr : ∀ q, q ≠ b → w1 q = w q := fun q hq => hfr_ q hq
    have b0 : w1 b = some (.inr (10, [.int (nI (1)), .ref (b + 1), .ref (b + 2), .int (nI (I 3)), .ref (b + 3), .ref (b + 4), .int (nI (I 6)), .int (nI (I 7)), .ref (b + 5), .ref (b + 6), .int (nI (I 10)), .int (nI (I 11)), .int (nI (I 12)), .int (nI (I 13)), .ref (b + 7), .ref (b + 8), .int (nI (I 16)), .int (nI (I 17)), .int (nI (I 18)), .int (nI (I 19))])) := hS_.1
    have hS : moS cI cL w1 b (va_up I 0 1) K S C := hS_
    refine W.eq (g2 := F0 m 20 ls [.int (nI 1)]) rfl ?_
    refine lv_if_eq (pc := 20) (tgt := 24) hx hb dMo_set_20 (by decide) (fun hc => absurd hc (show ¬ nI 1 = 0 by decide)) (fun _ => ?_)
    exact fw_vret (pc := 23) hx hb hr hlocks hw dMo_set_23 ⟨rfl, hS, fun q hq => hfr q (by omega)⟩
  · refine lv_iload_n (pc := 5) hx hb dMo_set_5 rfl (lv_at hl 1 rfl) ?_
    refine lv_bipush (pc := 6) (v := (nI 7)) hx hb dMo_set_6 (by decide) ?_
    refine lv_icmp_le (pc := 8) (tgt := 15) hx hb dMo_set_8 (by decide) (fun hc => absurd hc (fun h => by rcases hx9 with h9 | h9; exact ha h9; exact absurd h (Int32.not_le.mpr h9))) (fun _ => ?_)
    refine lv_iconst (pc := 11) (v := (nI 1)) hx hb dMo_set_11 (by decide) ?_
    refine lv_goto (pc := 12) (tgt := 16) hx hb dMo_set_12 (by decide) ?_
    refine lv_iconst (pc := 16) (v := (nI 1)) hx hb dMo_set_16 (by decide) ?_
    refine fw_cV (pc := 17) (As := [.int (nI 1), .int (nI 1)]) (rest := []) ⟨hx, hb, hml, hown, hW⟩ (c_Mo_fails1 (k := 1) hS) (cwV 2 hW (kw_V lm_Mo_39 im_Mo_fails se_Mo_fails ini_Mo cd_Mo_fails) rfl rfl rfl (by decide +kernel) ⟨Nat.le_of_ble_eq_true rfl, Nat.le_of_ble_eq_true rfl⟩) hK hw b0 rfl rfl hl.1 rfl (Nat.le_of_ble_eq_true rfl) dMo_set_17 ⟨Nat.le_of_ble_eq_true rfl, Nat.le_of_ble_eq_true rfl⟩ (fun v w1 H locs hq hw => ?_)
    obtain ⟨rfl, hS_, hfr_⟩ := hq
    have hfr : ∀ q, q ≠ b → w1 q = w q := fun q hq => hfr_ q hq
    have b0 : w1 b = some (.inr (10, [.int (nI (1)), .ref (b + 1), .ref (b + 2), .int (nI (I 3)), .ref (b + 3), .ref (b + 4), .int (nI (I 6)), .int (nI (I 7)), .ref (b + 5), .ref (b + 6), .int (nI (I 10)), .int (nI (I 11)), .int (nI (I 12)), .int (nI (I 13)), .ref (b + 7), .ref (b + 8), .int (nI (I 16)), .int (nI (I 17)), .int (nI (I 18)), .int (nI (I 19))])) := hS_.1
    have hS : moS cI cL w1 b (va_up I 0 1) K S C := hS_
    refine W.eq (g2 := F0 m 20 ls [.int (nI 1)]) rfl ?_
    refine lv_if_eq (pc := 20) (tgt := 24) hx hb dMo_set_20 (by decide) (fun hc => absurd hc (show ¬ nI 1 = 0 by decide)) (fun _ => ?_)
    exact fw_vret (pc := 23) hx hb hr hlocks hw dMo_set_23 ⟨rfl, hS, fun q hq => hfr q (by omega)⟩

set_option maxHeartbeats 4000000 in
set_option maxRecDepth 100000 in
theorem c_Mo_compile0 {b : Nat} {I : Nat → Nat} {K : Nat → Nat → Nat} {S : Nat → Int32} {C : Nat → Nat} (hS : moS cI cL w b I K S C) (h3 : I 3 = 0) : fw_C l yMo_compile (Cond.code yMo_compile cMo_compile 3 (some FieldType.int) :: kWs) ({ frames := 1, cells := 0, slots := 0, locals := 20 } : Room) D kCl (kty cI cL cQ) z [.ref b] (sz) w 0 0 (fun v w' => v = some (.int (nI 1)) ∧ moS cI cL w' b (fun i => if i = 13 then I 13 else 0) K S C ∧ ∀ q, q < b ∨ b + 9 ≤ q → w' q = w q) := by
  refine fw_ofW (cc := cMo_compile) (maxL := 3) (ret := (some FieldType.int)) (by decide) rfl (Nat.le_of_ble_eq_true rfl) ?_
  intro p e s m args below meth c hx hb hr hts hown hlocks hname hml hK H ls hw hl
  have hW : ∀ w ∈ kWs, w.before args s = true := fun w h => hts w (List.mem_cons_of_mem _ h)
  have hown : s.vm.findClass RMo = some m.cls := hown
  have hl : lv_has ls 3 [(0, .ref b)] := hl
  have b0 : w b = some (.inr (10, [.int (nI (I 0)), .ref (b + 1), .ref (b + 2), .int (nI (I 3)), .ref (b + 3), .ref (b + 4), .int (nI (I 6)), .int (nI (I 7)), .ref (b + 5), .ref (b + 6), .int (nI (I 10)), .int (nI (I 11)), .int (nI (I 12)), .int (nI (I 13)), .ref (b + 7), .ref (b + 8), .int (nI (I 16)), .int (nI (I 17)), .int (nI (I 18)), .int (nI (I 19))])) := hS.1
  refine lv_aload_n (pc := 0) hx hb dMo_compile_0 rfl (lv_at hl 0 rfl) ?_
  refine lv_iconst (pc := 1) (v := (nI 0)) hx hb dMo_compile_1 (by decide) ?_
  refine fw_put (pc := 2) (ci := 10) (v := .int (nI 0)) (ty := .int) (C := RMo) (T := TMo) (N := 20) hx hb hW in_Mo tyMo tyMo_ok nmMo hown hK.1 hw b0 rfl 0 (by decide) (hW _ lf_Mo_35) (fun _ h => h) rfl (by decide +kernel) rfl rfl (Nat.le_of_ble_eq_true rfl) dMo_compile_2 (fun H locs hw => ?_)
  obtain ⟨w1, e1⟩ : ∃ w_, w_ = fw_up w (b) (.inr (10, [.int (nI 0), .ref (b + 1), .ref (b + 2), .int (nI (I 3)), .ref (b + 3), .ref (b + 4), .int (nI (I 6)), .int (nI (I 7)), .ref (b + 5), .ref (b + 6), .int (nI (I 10)), .int (nI (I 11)), .int (nI (I 12)), .int (nI (I 13)), .ref (b + 7), .ref (b + 8), .int (nI (I 16)), .int (nI (I 17)), .int (nI (I 18)), .int (nI (I 19))])) := ⟨_, rfl⟩
  have hw : fw_H D kCl (fw_A w (sz)) s.heap w1 (sz) H locs := by rw [e1]; exact hw
  have b0_ : w1 (b) = some (.inr (10, [.int (nI 0), .ref (b + 1), .ref (b + 2), .int (nI (I 3)), .ref (b + 3), .ref (b + 4), .int (nI (I 6)), .int (nI (I 7)), .ref (b + 5), .ref (b + 6), .int (nI (I 10)), .int (nI (I 11)), .int (nI (I 12)), .int (nI (I 13)), .ref (b + 7), .ref (b + 8), .int (nI (I 16)), .int (nI (I 17)), .int (nI (I 18)), .int (nI (I 19))])) := by rw [e1]; exact fw_us _ _ _
  have b0 := b0_
  refine lv_aload_n (pc := 5) hx hb dMo_compile_5 rfl (lv_at hl 0 rfl) ?_
  refine fw_get (pc := 6) (ci := 10) (v := .int (nI (I 3))) (C := RMo) (T := TMo) (N := 20) hx hb hW in_Mo hown hK.1 hw b0 rfl 3 (by decide) (hW _ lf_Mo_43) (fun _ h => h) rfl dMo_compile_6 ?_
  refine lv_istore_n (pc := 9) (lv' := [(1, .int (nI (I 3))), (0, .ref b)]) hx hb dMo_compile_9 rfl hl (by decide) rfl (fun ls hl => ?_)
  refine lv_aload_n (pc := 10) hx hb dMo_compile_10 rfl (lv_at hl 1 rfl) ?_
  refine lv_iconst (pc := 11) (v := (nI 0)) hx hb dMo_compile_11 (by decide) ?_
  refine fw_put (pc := 12) (ci := 10) (v := .int (nI 0)) (ty := .int) (C := RMo) (T := TMo) (N := 20) hx hb hW in_Mo tyMo tyMo_ok nmMo hown hK.1 hw b0 rfl 3 (by decide) (hW _ lf_Mo_43) (fun _ h => h) rfl (by decide +kernel) rfl rfl (Nat.le_of_ble_eq_true rfl) dMo_compile_12 (fun H locs hw => ?_)
  obtain ⟨w2, e2⟩ : ∃ w_, w_ = fw_up w1 (b) (.inr (10, [.int (nI 0), .ref (b + 1), .ref (b + 2), .int (nI 0), .ref (b + 3), .ref (b + 4), .int (nI (I 6)), .int (nI (I 7)), .ref (b + 5), .ref (b + 6), .int (nI (I 10)), .int (nI (I 11)), .int (nI (I 12)), .int (nI (I 13)), .ref (b + 7), .ref (b + 8), .int (nI (I 16)), .int (nI (I 17)), .int (nI (I 18)), .int (nI (I 19))])) := ⟨_, rfl⟩
  have hw : fw_H D kCl (fw_A w (sz)) s.heap w2 (sz) H locs := by rw [e2]; exact hw
  have b0_ : w2 (b) = some (.inr (10, [.int (nI 0), .ref (b + 1), .ref (b + 2), .int (nI 0), .ref (b + 3), .ref (b + 4), .int (nI (I 6)), .int (nI (I 7)), .ref (b + 5), .ref (b + 6), .int (nI (I 10)), .int (nI (I 11)), .int (nI (I 12)), .int (nI (I 13)), .ref (b + 7), .ref (b + 8), .int (nI (I 16)), .int (nI (I 17)), .int (nI (I 18)), .int (nI (I 19))])) := by rw [e2]; exact fw_us _ _ _
  have b0 := b0_
  refine lv_aload_n (pc := 15) hx hb dMo_compile_15 rfl (lv_at hl 1 rfl) ?_
  refine lv_iconst (pc := 16) (v := (nI 0)) hx hb dMo_compile_16 (by decide) ?_
  refine fw_put (pc := 17) (ci := 10) (v := .int (nI 0)) (ty := .boolean) (C := RMo) (T := TMo) (N := 20) hx hb hW in_Mo tyMo tyMo_ok nmMo hown hK.1 hw b0 rfl 6 (by decide) (hW _ lf_Mo_110) (fun _ h => h) rfl (by decide +kernel) rfl rfl (Nat.le_of_ble_eq_true rfl) dMo_compile_17 (fun H locs hw => ?_)
  obtain ⟨w3, e3⟩ : ∃ w_, w_ = fw_up w2 (b) (.inr (10, [.int (nI 0), .ref (b + 1), .ref (b + 2), .int (nI 0), .ref (b + 3), .ref (b + 4), .int (nI 0), .int (nI (I 7)), .ref (b + 5), .ref (b + 6), .int (nI (I 10)), .int (nI (I 11)), .int (nI (I 12)), .int (nI (I 13)), .ref (b + 7), .ref (b + 8), .int (nI (I 16)), .int (nI (I 17)), .int (nI (I 18)), .int (nI (I 19))])) := ⟨_, rfl⟩
  have hw : fw_H D kCl (fw_A w (sz)) s.heap w3 (sz) H locs := by rw [e3]; exact hw
  have b0_ : w3 (b) = some (.inr (10, [.int (nI 0), .ref (b + 1), .ref (b + 2), .int (nI 0), .ref (b + 3), .ref (b + 4), .int (nI 0), .int (nI (I 7)), .ref (b + 5), .ref (b + 6), .int (nI (I 10)), .int (nI (I 11)), .int (nI (I 12)), .int (nI (I 13)), .ref (b + 7), .ref (b + 8), .int (nI (I 16)), .int (nI (I 17)), .int (nI (I 18)), .int (nI (I 19))])) := by rw [e3]; exact fw_us _ _ _
  have b0 := b0_
  refine lv_aload_n (pc := 20) hx hb dMo_compile_20 rfl (lv_at hl 1 rfl) ?_
  refine lv_iconst (pc := 21) (v := (nI 0)) hx hb dMo_compile_21 (by decide) ?_
  refine fw_put (pc := 22) (ci := 10) (v := .int (nI 0)) (ty := .int) (C := RMo) (T := TMo) (N := 20) hx hb hW in_Mo tyMo tyMo_ok nmMo hown hK.1 hw b0 rfl 7 (by decide) (hW _ lf_Mo_46) (fun _ h => h) rfl (by decide +kernel) rfl rfl (Nat.le_of_ble_eq_true rfl) dMo_compile_22 (fun H locs hw => ?_)
  obtain ⟨w4, e4⟩ : ∃ w_, w_ = fw_up w3 (b) (.inr (10, [.int (nI 0), .ref (b + 1), .ref (b + 2), .int (nI 0), .ref (b + 3), .ref (b + 4), .int (nI 0), .int (nI 0), .ref (b + 5), .ref (b + 6), .int (nI (I 10)), .int (nI (I 11)), .int (nI (I 12)), .int (nI (I 13)), .ref (b + 7), .ref (b + 8), .int (nI (I 16)), .int (nI (I 17)), .int (nI (I 18)), .int (nI (I 19))])) := ⟨_, rfl⟩
  have hw : fw_H D kCl (fw_A w (sz)) s.heap w4 (sz) H locs := by rw [e4]; exact hw
  have b0_ : w4 (b) = some (.inr (10, [.int (nI 0), .ref (b + 1), .ref (b + 2), .int (nI 0), .ref (b + 3), .ref (b + 4), .int (nI 0), .int (nI 0), .ref (b + 5), .ref (b + 6), .int (nI (I 10)), .int (nI (I 11)), .int (nI (I 12)), .int (nI (I 13)), .ref (b + 7), .ref (b + 8), .int (nI (I 16)), .int (nI (I 17)), .int (nI (I 18)), .int (nI (I 19))])) := by rw [e4]; exact fw_us _ _ _
  have b0 := b0_
  refine lv_aload_n (pc := 25) hx hb dMo_compile_25 rfl (lv_at hl 1 rfl) ?_
  refine lv_iconst (pc := 26) (v := (nI 0)) hx hb dMo_compile_26 (by decide) ?_
  refine fw_put (pc := 27) (ci := 10) (v := .int (nI 0)) (ty := .int) (C := RMo) (T := TMo) (N := 20) hx hb hW in_Mo tyMo tyMo_ok nmMo hown hK.1 hw b0 rfl 10 (by decide) (hW _ lf_Mo_49) (fun _ h => h) rfl (by decide +kernel) rfl rfl (Nat.le_of_ble_eq_true rfl) dMo_compile_27 (fun H locs hw => ?_)
  obtain ⟨w5, e5⟩ : ∃ w_, w_ = fw_up w4 (b) (.inr (10, [.int (nI 0), .ref (b + 1), .ref (b + 2), .int (nI 0), .ref (b + 3), .ref (b + 4), .int (nI 0), .int (nI 0), .ref (b + 5), .ref (b + 6), .int (nI 0), .int (nI (I 11)), .int (nI (I 12)), .int (nI (I 13)), .ref (b + 7), .ref (b + 8), .int (nI (I 16)), .int (nI (I 17)), .int (nI (I 18)), .int (nI (I 19))])) := ⟨_, rfl⟩
  have hw : fw_H D kCl (fw_A w (sz)) s.heap w5 (sz) H locs := by rw [e5]; exact hw
  have b0_ : w5 (b) = some (.inr (10, [.int (nI 0), .ref (b + 1), .ref (b + 2), .int (nI 0), .ref (b + 3), .ref (b + 4), .int (nI 0), .int (nI 0), .ref (b + 5), .ref (b + 6), .int (nI 0), .int (nI (I 11)), .int (nI (I 12)), .int (nI (I 13)), .ref (b + 7), .ref (b + 8), .int (nI (I 16)), .int (nI (I 17)), .int (nI (I 18)), .int (nI (I 19))])) := by rw [e5]; exact fw_us _ _ _
  have b0 := b0_
  refine lv_aload_n (pc := 30) hx hb dMo_compile_30 rfl (lv_at hl 1 rfl) ?_
  refine lv_iconst (pc := 31) (v := (nI 0)) hx hb dMo_compile_31 (by decide) ?_
  refine fw_put (pc := 32) (ci := 10) (v := .int (nI 0)) (ty := .int) (C := RMo) (T := TMo) (N := 20) hx hb hW in_Mo tyMo tyMo_ok nmMo hown hK.1 hw b0 rfl 11 (by decide) (hW _ lf_Mo_66) (fun _ h => h) rfl (by decide +kernel) rfl rfl (Nat.le_of_ble_eq_true rfl) dMo_compile_32 (fun H locs hw => ?_)
  obtain ⟨w6, e6⟩ : ∃ w_, w_ = fw_up w5 (b) (.inr (10, [.int (nI 0), .ref (b + 1), .ref (b + 2), .int (nI 0), .ref (b + 3), .ref (b + 4), .int (nI 0), .int (nI 0), .ref (b + 5), .ref (b + 6), .int (nI 0), .int (nI 0), .int (nI (I 12)), .int (nI (I 13)), .ref (b + 7), .ref (b + 8), .int (nI (I 16)), .int (nI (I 17)), .int (nI (I 18)), .int (nI (I 19))])) := ⟨_, rfl⟩
  have hw : fw_H D kCl (fw_A w (sz)) s.heap w6 (sz) H locs := by rw [e6]; exact hw
  have b0_ : w6 (b) = some (.inr (10, [.int (nI 0), .ref (b + 1), .ref (b + 2), .int (nI 0), .ref (b + 3), .ref (b + 4), .int (nI 0), .int (nI 0), .ref (b + 5), .ref (b + 6), .int (nI 0), .int (nI 0), .int (nI (I 12)), .int (nI (I 13)), .ref (b + 7), .ref (b + 8), .int (nI (I 16)), .int (nI (I 17)), .int (nI (I 18)), .int (nI (I 19))])) := by rw [e6]; exact fw_us _ _ _
  have b0 := b0_
  refine lv_aload_n (pc := 35) hx hb dMo_compile_35 rfl (lv_at hl 1 rfl) ?_
  refine lv_iconst (pc := 36) (v := (nI 0)) hx hb dMo_compile_36 (by decide) ?_
  refine fw_put (pc := 37) (ci := 10) (v := .int (nI 0)) (ty := .int) (C := RMo) (T := TMo) (N := 20) hx hb hW in_Mo tyMo tyMo_ok nmMo hown hK.1 hw b0 rfl 12 (by decide) (hW _ lf_Mo_60) (fun _ h => h) rfl (by decide +kernel) rfl rfl (Nat.le_of_ble_eq_true rfl) dMo_compile_37 (fun H locs hw => ?_)
  obtain ⟨w7, e7⟩ : ∃ w_, w_ = fw_up w6 (b) (.inr (10, [.int (nI 0), .ref (b + 1), .ref (b + 2), .int (nI 0), .ref (b + 3), .ref (b + 4), .int (nI 0), .int (nI 0), .ref (b + 5), .ref (b + 6), .int (nI 0), .int (nI 0), .int (nI 0), .int (nI (I 13)), .ref (b + 7), .ref (b + 8), .int (nI (I 16)), .int (nI (I 17)), .int (nI (I 18)), .int (nI (I 19))])) := ⟨_, rfl⟩
  have hw : fw_H D kCl (fw_A w (sz)) s.heap w7 (sz) H locs := by rw [e7]; exact hw
  have b0_ : w7 (b) = some (.inr (10, [.int (nI 0), .ref (b + 1), .ref (b + 2), .int (nI 0), .ref (b + 3), .ref (b + 4), .int (nI 0), .int (nI 0), .ref (b + 5), .ref (b + 6), .int (nI 0), .int (nI 0), .int (nI 0), .int (nI (I 13)), .ref (b + 7), .ref (b + 8), .int (nI (I 16)), .int (nI (I 17)), .int (nI (I 18)), .int (nI (I 19))])) := by rw [e7]; exact fw_us _ _ _
  have b0 := b0_
  refine lv_aload_n (pc := 40) hx hb dMo_compile_40 rfl (lv_at hl 1 rfl) ?_
  have hS : moS cI cL w7 b (fun i => if i = 0 ∨ i = 3 ∨ i = 6 ∨ i = 7 ∨ i = 10 ∨ i = 11 ∨ i = 12 then 0 else I i) K S C := moS.int hS b0 (fun q hq => by rw [e7, fw_un hq, e6, fw_un hq, e5, fw_un hq, e4, fw_un hq, e3, fw_un hq, e2, fw_un hq, e1, fw_un hq])
  have hfr : ∀ q, q ≠ b → w7 q = w q := fun q hq => by rw [e7, fw_un hq, e6, fw_un hq, e5, fw_un hq, e4, fw_un hq, e3, fw_un hq, e2, fw_un hq, e1, fw_un hq]
  refine fw_cV (pc := 41) (As := []) (rest := []) ⟨hx, hb, hml, hown, hW⟩ (c_Mo_begin hS) (cwV 0 hW (kw_V lm_Mo_114 im_Mo_begin se_Mo_begin ini_Mo cd_Mo_begin) rfl rfl rfl (by decide +kernel) ⟨Nat.le_of_ble_eq_true rfl, Nat.le_of_ble_eq_true rfl⟩) hK hw b0 rfl rfl hl.1 rfl (Nat.le_of_ble_eq_true rfl) dMo_compile_41 ⟨Nat.le_of_ble_eq_true rfl, Nat.le_of_ble_eq_true rfl⟩ (fun v w8 H locs hq hw => ?_)
  obtain ⟨rfl, hS, hfr2⟩ := hq
  have b0 : w8 b = some (.inr (10, [.int (nI (0)), .ref (b + 1), .ref (b + 2), .int (nI (0)), .ref (b + 3), .ref (b + 4), .int (nI (0)), .int (nI (0)), .ref (b + 5), .ref (b + 6), .int (nI (0)), .int (nI (0)), .int (nI (0)), .int (nI (I 13)), .ref (b + 7), .ref (b + 8), .int (nI (0)), .int (nI (0)), .int (nI (0)), .int (nI (0))])) := hS.1
  refine W.eq (g2 := F0 m 44 ls []) rfl ?_
  refine lv_iconst (pc := 44) (v := (nI 0)) hx hb dMo_compile_44 (by decide) ?_
  refine lv_istore_n (pc := 45) (lv' := [(2, .int (nI 0)), (1, .int (nI (I 3))), (0, .ref b)]) hx hb dMo_compile_45 rfl hl (by decide) rfl (fun ls hl => ?_)
  refine lv_iload_n (pc := 46) hx hb dMo_compile_46 rfl (lv_at hl 0 rfl) ?_
  refine lv_iload_n (pc := 47) hx hb dMo_compile_47 rfl (lv_at hl 1 rfl) ?_
  refine lv_icmp_ge (pc := 48) (tgt := 65) hx hb dMo_compile_48 (by decide) (fun _ => ?_) (fun hc => absurd (by rw [h3]; decide) hc)
  refine lv_iload_n (pc := 65) hx hb dMo_compile_65 rfl (lv_at hl 0 rfl) ?_
  refine lv_iload_n (pc := 66) hx hb dMo_compile_66 rfl (lv_at hl 1 rfl) ?_
  refine lv_icmp_lt (pc := 67) (tgt := 85) hx hb dMo_compile_67 (by decide) (fun hc => absurd hc (by rw [h3]; decide)) (fun _ => ?_)
  refine lv_aload_n (pc := 70) hx hb dMo_compile_70 rfl (lv_at hl 2 rfl) ?_
  refine fw_get (pc := 71) (ci := 10) (v := .int (nI (0))) (C := RMo) (T := TMo) (N := 20) hx hb hW in_Mo hown hK.1 hw b0 rfl 12 (by decide) (hW _ lf_Mo_60) (fun _ h => h) rfl dMo_compile_71 ?_
  refine lv_iconst (pc := 74) (v := (nI 1)) hx hb dMo_compile_74 (by decide) ?_
  refine lv_icmp_ne (pc := 75) (tgt := 85) hx hb dMo_compile_75 (by decide) (fun _ => ?_) (fun hc => absurd hc (by decide))
  refine lv_aload_n (pc := 85) hx hb dMo_compile_85 rfl (lv_at hl 2 rfl) ?_
  refine lv_iconst (pc := 86) (v := (nI 0)) hx hb dMo_compile_86 (by decide) ?_
  refine fw_put (pc := 87) (ci := 10) (v := .int (nI 0)) (ty := .int) (C := RMo) (T := TMo) (N := 20) hx hb hW in_Mo tyMo tyMo_ok nmMo hown hK.1 hw b0 rfl 7 (by decide) (hW _ lf_Mo_46) (fun _ h => h) rfl (by decide +kernel) rfl rfl (Nat.le_of_ble_eq_true rfl) dMo_compile_87 (fun H locs hw => ?_)
  obtain ⟨w9, e9⟩ : ∃ w_, w_ = fw_up w8 (b) (.inr (10, [.int (nI (0)), .ref (b + 1), .ref (b + 2), .int (nI (0)), .ref (b + 3), .ref (b + 4), .int (nI (0)), .int (nI 0), .ref (b + 5), .ref (b + 6), .int (nI (0)), .int (nI (0)), .int (nI (0)), .int (nI (I 13)), .ref (b + 7), .ref (b + 8), .int (nI (0)), .int (nI (0)), .int (nI (0)), .int (nI (0))])) := ⟨_, rfl⟩
  have hw : fw_H D kCl (fw_A w (sz)) s.heap w9 (sz) H locs := by rw [e9]; exact hw
  have b0_ : w9 (b) = some (.inr (10, [.int (nI (0)), .ref (b + 1), .ref (b + 2), .int (nI (0)), .ref (b + 3), .ref (b + 4), .int (nI (0)), .int (nI 0), .ref (b + 5), .ref (b + 6), .int (nI (0)), .int (nI (0)), .int (nI (0)), .int (nI (I 13)), .ref (b + 7), .ref (b + 8), .int (nI (0)), .int (nI (0)), .int (nI (0)), .int (nI (0))])) := by rw [e9]; exact fw_us _ _ _
  have b0 := b0_
  refine lv_iconst (pc := 90) (v := (nI 1)) hx hb dMo_compile_90 (by decide) ?_
  refine lv_iload_n (pc := 91) hx hb dMo_compile_91 rfl (lv_at hl 0 rfl) ?_
  refine lv_iadd (pc := 92) hx hb dMo_compile_92 ?_
  exact fw_iret (pc := 93) hx hb hr hlocks hw dMo_compile_93 ⟨rfl, moS.int hS b0 (fun q hq => by rw [e9, fw_un hq]), fun q hq => by rw [e9, fw_un (by omega), hfr2 q (by omega), hfr q (by omega)]⟩
end MO1
