/-! BigCalculator's own small methods, with their throws. Written by wip/gen/bc2.py. -/
section BC2
variable {l : Launch} {D : va_G} {cI cL cQ : ClassId} {tO tB tC : Nat} {sa : Nat → Nat} {sz : Nat} {w : fw_W}
set_option maxHeartbeats 4000000 in
set_option maxRecDepth 100000 in
theorem c_To_append {n k x y : Nat} {f g : Nat → Nat} (hk : k < 120) (h : w n = some (.inr (6, [.ref (n + 1), .ref (n + 2), .int (nI k)]))) (h1 : w (n + 1) = some (.inl (cI, 120, .inl (fun i => nI (f i))))) (h2 : w (n + 2) = some (.inl (cI, 120, .inl (fun i => nI (g i))))) : fw_C l yTo_append (Cond.code yTo_append cTo_append 3 none :: kWs) ({ frames := 0, cells := 0, slots := 0, locals := 0 } : Room) D kCl (kty cI cL cQ) (kz tO tB tC sa) [.ref n, .int (nI x), .int (nI y)] (sz) w 0 0 (fun v w' => v = none ∧ w' n = some (.inr (6, [.ref (n + 1), .ref (n + 2), .int (nI (k + 1))])) ∧ w' (n + 1) = some (.inl (cI, 120, .inl (fun i => nI (va_up f k x i)))) ∧ w' (n + 2) = some (.inl (cI, 120, .inl (fun i => nI (va_up g k y i)))) ∧ ∀ q, q ≠ n → q ≠ n + 1 → q ≠ n + 2 → w' q = w q) := by
  refine fw_ofW (cc := cTo_append) (maxL := 3) (ret := none) (by decide) rfl (Nat.le_of_ble_eq_true rfl) ?_
  intro p e s m args below meth c hx hb hr hts hown hlocks hname hml hK H ls hw hl
  have hW : ∀ w ∈ kWs, w.before args s = true := fun w h => hts w (List.mem_cons_of_mem _ h)
  have hown : s.vm.findClass RTo = some m.cls := hown
  have hl : lv_has ls 3 [(0, .ref n), (1, .int (nI x)), (2, .int (nI y))] := hl
  refine lv_aload_n (pc := 0) hx hb dTo_append_0 rfl (lv_at hl 0 rfl) ?_
  refine fw_get (pc := 1) (ci := 6) (v := .int (nI k)) (C := RTo) (T := TTo) (N := 3) hx hb hW in_To hown hK.1 hw h rfl 2 (by decide) (hW _ lf_To_18) (fun _ h => h) rfl dTo_append_1 ?_
  refine lv_bipush (pc := 4) (v := (nI 120)) hx hb dTo_append_4 (by decide) ?_
  refine lv_icmp_ge (pc := 6) (tgt := 39) hx hb dTo_append_6 (by decide) (fun hc => absurd hc (nI_ge (b := 120) hk (by decide))) (fun _ => ?_)
  refine lv_aload_n (pc := 9) hx hb dTo_append_9 rfl (lv_at hl 0 rfl) ?_
  refine fw_get (pc := 10) (ci := 6) (v := .ref (n + 1)) (C := RTo) (T := TTo) (N := 3) hx hb hW in_To hown hK.1 hw h rfl 0 (by decide) (hW _ lf_To_9) (fun _ h => h) rfl dTo_append_10 ?_
  refine lv_aload_n (pc := 13) hx hb dTo_append_13 rfl (lv_at hl 0 rfl) ?_
  refine fw_get (pc := 14) (ci := 6) (v := .int (nI k)) (C := RTo) (T := TTo) (N := 3) hx hb hW in_To hown hK.1 hw h rfl 2 (by decide) (hW _ lf_To_18) (fun _ h => h) rfl dTo_append_14 ?_
  refine lv_iload_n (pc := 17) hx hb dTo_append_17 rfl (lv_at hl 1 rfl) ?_
  refine fw_iastN (pc := 18) (f2 := fun i => nI (va_up f k x i)) hx hb hK.1 hw 0 h1 rfl (k) hk (by decide) (nI_up _ _ _) dTo_append_18 (fun H locs hw => ?_)
  obtain ⟨w1, e1⟩ : ∃ w_, w_ = fw_up w (n + 1) (.inl (cI, 120, .inl (fun i => nI (va_up f k x i)))) := ⟨_, rfl⟩
  have hw : fw_H D kCl (fw_A w (sz)) s.heap w1 (sz) H locs := by rw [e1]; exact hw
  have h_ : w1 (n) = some (.inr (6, [.ref (n + 1), .ref (n + 2), .int (nI k)])) := by rw [e1, fw_un (by omega)]; exact h
  have h2_ : w1 (n + 2) = some (.inl (cI, 120, .inl (fun i => nI (g i)))) := by rw [e1, fw_un (by omega)]; exact h2
  have h1_ : w1 (n + 1) = some (.inl (cI, 120, .inl (fun i => nI (va_up f k x i)))) := by rw [e1]; exact fw_us _ _ _
  have h := h_
  have h1 := h1_
  have h2 := h2_
  refine lv_aload_n (pc := 19) hx hb dTo_append_19 rfl (lv_at hl 0 rfl) ?_
  refine fw_get (pc := 20) (ci := 6) (v := .ref (n + 2)) (C := RTo) (T := TTo) (N := 3) hx hb hW in_To hown hK.1 hw h rfl 1 (by decide) (hW _ lf_To_15) (fun _ h => h) rfl dTo_append_20 ?_
  refine lv_aload_n (pc := 23) hx hb dTo_append_23 rfl (lv_at hl 0 rfl) ?_
  refine fw_get (pc := 24) (ci := 6) (v := .int (nI k)) (C := RTo) (T := TTo) (N := 3) hx hb hW in_To hown hK.1 hw h rfl 2 (by decide) (hW _ lf_To_18) (fun _ h => h) rfl dTo_append_24 ?_
  refine lv_iload_n (pc := 27) hx hb dTo_append_27 rfl (lv_at hl 2 rfl) ?_
  refine fw_iastN (pc := 28) (f2 := fun i => nI (va_up g k y i)) hx hb hK.1 hw 0 h2 rfl (k) hk (by decide) (nI_up _ _ _) dTo_append_28 (fun H locs hw => ?_)
  obtain ⟨w2, e2⟩ : ∃ w_, w_ = fw_up w1 (n + 2) (.inl (cI, 120, .inl (fun i => nI (va_up g k y i)))) := ⟨_, rfl⟩
  have hw : fw_H D kCl (fw_A w (sz)) s.heap w2 (sz) H locs := by rw [e2]; exact hw
  have h_ : w2 (n) = some (.inr (6, [.ref (n + 1), .ref (n + 2), .int (nI k)])) := by rw [e2, fw_un (by omega)]; exact h
  have h1_ : w2 (n + 1) = some (.inl (cI, 120, .inl (fun i => nI (va_up f k x i)))) := by rw [e2, fw_un (by omega)]; exact h1
  have h2_ : w2 (n + 2) = some (.inl (cI, 120, .inl (fun i => nI (va_up g k y i)))) := by rw [e2]; exact fw_us _ _ _
  have h := h_
  have h1 := h1_
  have h2 := h2_
  refine lv_aload_n (pc := 29) hx hb dTo_append_29 rfl (lv_at hl 0 rfl) ?_
  refine lv_dup (pc := 30) hx hb dTo_append_30 rfl ?_
  refine fw_get (pc := 31) (ci := 6) (v := .int (nI k)) (C := RTo) (T := TTo) (N := 3) hx hb hW in_To hown hK.1 hw h rfl 2 (by decide) (hW _ lf_To_18) (fun _ h => h) rfl dTo_append_31 ?_
  refine lv_iconst (pc := 34) (v := (nI 1)) hx hb dTo_append_34 (by decide) ?_
  refine lv_iadd (pc := 35) hx hb dTo_append_35 ?_
  rw [show ((nI k + (nI 1)) : Int32) = nI (k + 1) from (nI_add k 1)]
  refine fw_put (pc := 36) (ci := 6) (v := .int (nI (k + 1))) (ty := .int) (C := RTo) (T := TTo) (N := 3) hx hb hW in_To tyTo tyTo_ok nmTo hown hK.1 hw h rfl 2 (by decide) (hW _ lf_To_18) (fun _ h => h) rfl (by decide +kernel) rfl rfl (Nat.le_of_ble_eq_true rfl) dTo_append_36 (fun H locs hw => ?_)
  obtain ⟨w3, e3⟩ : ∃ w_, w_ = fw_up w2 (n) (.inr (6, [.ref (n + 1), .ref (n + 2), .int (nI (k + 1))])) := ⟨_, rfl⟩
  have hw : fw_H D kCl (fw_A w (sz)) s.heap w3 (sz) H locs := by rw [e3]; exact hw
  have h1_ : w3 (n + 1) = some (.inl (cI, 120, .inl (fun i => nI (va_up f k x i)))) := by rw [e3, fw_un (by omega)]; exact h1
  have h2_ : w3 (n + 2) = some (.inl (cI, 120, .inl (fun i => nI (va_up g k y i)))) := by rw [e3, fw_un (by omega)]; exact h2
  have h_ : w3 (n) = some (.inr (6, [.ref (n + 1), .ref (n + 2), .int (nI (k + 1))])) := by rw [e3]; exact fw_us _ _ _
  have h := h_
  have h1 := h1_
  have h2 := h2_
  exact fw_vret (pc := 39) hx hb hr hlocks hw dTo_append_39 ⟨rfl, h, h1, h2, fun q q1 q2 q3 => by rw [e3, fw_un q1, e2, fw_un q3, e1, fw_un q2]⟩

set_option maxHeartbeats 4000000 in
set_option maxRecDepth 100000 in
theorem c_Bc_feed {b : Nat} {I : Nat → Nat} {J : Nat → Nat → Nat} {V G : Nat → Nat} (hS : bcS cI cL cQ w b I J V G) {k u : Nat} (ht : tk (nI k) (nI u) = true) (h0 : I 0 < 120) : fw_C l yBc_feed (Cond.code yBc_feed cBc_feed 3 (some FieldType.int) :: kWs) ({ frames := 1, cells := 0, slots := 0, locals := 22 } : Room) D kCl (kty cI cL cQ) (kz tO tB tC sa) [.ref b, .int (nI k), .int (nI u)] (sz) w 0 0 (fun r w' => r = some (.int (nI (I 0 + 1))) ∧ bcS cI cL cQ w' b (va_up I 0 (I 0 + 1)) (va_up (va_up J 0 (va_up (J 0) (I 0) k)) 1 (va_up (J 1) (I 0) u)) V G ∧ ∀ q, q < b ∨ b + 86 ≤ q → w' q = w q) := by
  refine fw_ofW (cc := cBc_feed) (maxL := 3) (ret := (some FieldType.int)) (by decide) rfl (Nat.le_of_ble_eq_true rfl) ?_
  intro p e s m args below meth c hx hb hr hts hown hlocks hname hml hK H ls hw hl
  have hW : ∀ w ∈ kWs, w.before args s = true := fun w h => hts w (List.mem_cons_of_mem _ h)
  have hown : s.vm.findClass RBc = some m.cls := hown
  have hl : lv_has ls 3 [(0, .ref b), (1, .int (nI k)), (2, .int (nI u))] := hl
  obtain ⟨⟨b0, b1, b2, b3⟩, ⟨c0, c1, c2, c3, c4, c5⟩, ⟨m0, m1, m2, m3, m4, m5⟩, hR, hV, hN, hD⟩ := id hS
  refine lv_iload_n (pc := 0) hx hb dBc_feed_0 rfl (lv_at hl 1 rfl) ?_
  refine lv_iload_n (pc := 1) hx hb dBc_feed_1 rfl (lv_at hl 2 rfl) ?_
  refine fw_cSR (pc := 2) (As := [.int (nI k), .int (nI u)]) (rest := []) ⟨hx, hb, hml, hown, hW⟩ c_Bc_isToken (va_cwS 2 hW (kw_S lm_Bc_37 sta_Bc_isToken ini_Bc cd_Bc_isToken) rfl rfl rfl (by decide +kernel) ⟨Nat.le_of_ble_eq_true rfl, Nat.le_of_ble_eq_true rfl⟩) hK hw rfl hl.1 rfl (Nat.le_of_ble_eq_true rfl) dBc_feed_2 ⟨Nat.le_of_ble_eq_true rfl, Nat.le_of_ble_eq_true rfl⟩ (fun v hq => ?_)
  subst hq
  rw [if_pos ht]
  refine W.eq (g2 := F0 m 5 ls [.int (nI 1)]) rfl ?_
  refine lv_if_ne (pc := 5) (tgt := 18) hx hb dBc_feed_5 (by decide) (fun _ => ?_) (fun hc => absurd hc (show ¬ nI 1 = 0 by decide))
  refine lv_aload_n (pc := 18) hx hb dBc_feed_18 rfl (lv_at hl 0 rfl) ?_
  refine fw_get (pc := 19) (ci := 9) (v := .ref (b + 1)) (C := RBc) (T := TBc) (N := 4) hx hb hW in_Bc hown hK.1 hw b0 rfl 0 (by decide) (hW _ lf_Bc_12) (fun _ h => h) rfl dBc_feed_19 ?_
  refine fw_get (pc := 22) (ci := 6) (v := .int (nI (I 0))) (C := RTo) (T := TTo) (N := 3) hx hb hW in_To hown hK.1 hw b1 rfl 2 (by decide) (hW _ lf_Bc_48) (fun _ h => h) rfl dBc_feed_22 ?_
  refine lv_bipush (pc := 25) (v := (nI 120)) hx hb dBc_feed_25 (by decide) ?_
  refine lv_icmp_ne (pc := 27) (tgt := 32) hx hb dBc_feed_27 (by decide) (fun _ => ?_) (fun hc => absurd hc (fun h => by have := (nI_eq (a := I 0) (b := 120) (by omega) (by decide)).mp h; omega))
  refine lv_aload_n (pc := 32) hx hb dBc_feed_32 rfl (lv_at hl 0 rfl) ?_
  refine fw_get (pc := 33) (ci := 9) (v := .ref (b + 1)) (C := RBc) (T := TBc) (N := 4) hx hb hW in_Bc hown hK.1 hw b0 rfl 0 (by decide) (hW _ lf_Bc_12) (fun _ h => h) rfl dBc_feed_33 ?_
  refine lv_iload_n (pc := 36) hx hb dBc_feed_36 rfl (lv_at hl 1 rfl) ?_
  refine lv_iload_n (pc := 37) hx hb dBc_feed_37 rfl (lv_at hl 2 rfl) ?_
  refine fw_cV (pc := 38) (As := [.int (nI k), .int (nI u)]) (rest := []) ⟨hx, hb, hml, hown, hW⟩ (c_To_append h0 b1 b2 b3) (cwV 2 hW (kw_V lm_Bc_52 im_To_append se_To_append ini_To cd_To_append) rfl rfl rfl (by decide +kernel) ⟨Nat.le_of_ble_eq_true rfl, Nat.le_of_ble_eq_true rfl⟩) hK hw b1 rfl rfl hl.1 rfl (Nat.le_of_ble_eq_true rfl) dBc_feed_38 ⟨Nat.le_of_ble_eq_true rfl, Nat.le_of_ble_eq_true rfl⟩ (fun v w1 H locs hq hw => ?_)
  obtain ⟨rfl, t0, t1, t2, to_⟩ := hq
  have b0_ : w1 (b) = some (.inr (9, [.ref (b + 1), .ref (b + 4), .ref (b + 10), .ref (b + 83)])) := (to_ _ (by omega) (by omega) (by omega)).trans b0
  have b0 := b0_
  have t0 : w1 (b + 1) = some (.inr (6, [.ref (b + 2), .ref (b + 3), .int (nI (I 0 + 1))])) := t0
  have t1 : w1 (b + 2) = some (.inl (cI, 120, .inl (fun i => nI (va_up (J 0) (I 0) k i)))) := t1
  have t2 : w1 (b + 3) = some (.inl (cI, 120, .inl (fun i => nI (va_up (J 1) (I 0) u i)))) := t2
  refine W.eq (g2 := F0 m 41 ls []) rfl ?_
  refine lv_aload_n (pc := 41) hx hb dBc_feed_41 rfl (lv_at hl 0 rfl) ?_
  refine fw_get (pc := 42) (ci := 9) (v := .ref (b + 1)) (C := RBc) (T := TBc) (N := 4) hx hb hW in_Bc hown hK.1 hw b0 rfl 0 (by decide) (hW _ lf_Bc_12) (fun _ h => h) rfl dBc_feed_42 ?_
  refine fw_get (pc := 45) (ci := 6) (v := .int (nI (I 0 + 1))) (C := RTo) (T := TTo) (N := 3) hx hb hW in_To hown hK.1 hw t0 rfl 2 (by decide) (hW _ lf_Bc_48) (fun _ h => h) rfl dBc_feed_45 ?_
  exact fw_iret (pc := 48) hx hb hr hlocks hw dBc_feed_48 ⟨rfl, bcS.g1 hS t0 t1 t2 (fun q h1 h2 h3 => to_ q h1 h2 h3) (fun i hi => if_neg (by omega)) (fun i hi => (if_neg (by omega)).trans (if_neg (by omega))), fun q hq => to_ q (by omega) (by omega) (by omega)⟩

set_option maxHeartbeats 4000000 in
set_option maxRecDepth 100000 in
theorem c_Bc_feedFull {b : Nat} {I : Nat → Nat} {J : Nat → Nat → Nat} {V G : Nat → Nat} (hS : bcS cI cL cQ w b I J V G) {k u : Nat} (ht : tk (nI k) (nI u) = true) (h0 : I 0 = 120) : fw_R l yBc_feed (Cond.code yBc_feed cBc_feed 3 (some FieldType.int) :: kWs) ({ frames := 1, cells := 0, slots := 0, locals := 22 } : Room) D kCl (kty cI cL cQ) (kz tO tB tC sa) [.ref b, .int (nI k), .int (nI u)] (sz) w (fun r => r = some (.int (-1))) := by
  refine fw_ofR (cc := cBc_feed) (maxL := 3) (ret := (some FieldType.int)) (by decide) rfl (Nat.le_of_ble_eq_true rfl) ?_
  intro p e s m args below meth c hx hb hr hts hown hlocks hml hK H ls hH hw hl
  have hW : ∀ w ∈ kWs, w.before args s = true := fun w h => hts w (List.mem_cons_of_mem _ h)
  have hown : s.vm.findClass RBc = some m.cls := hown
  have hl : lv_has ls 3 [(0, .ref b), (1, .int (nI k)), (2, .int (nI u))] := hl
  obtain ⟨⟨b0, b1, b2, b3⟩, ⟨c0, c1, c2, c3, c4, c5⟩, ⟨m0, m1, m2, m3, m4, m5⟩, hR, hV, hN, hD⟩ := id hS
  refine lv_iload_n (pc := 0) hx hb dBc_feed_0 rfl (lv_at hl 1 rfl) ?_
  refine lv_iload_n (pc := 1) hx hb dBc_feed_1 rfl (lv_at hl 2 rfl) ?_
  refine fw_cSR (pc := 2) (As := [.int (nI k), .int (nI u)]) (rest := []) ⟨hx, hb, hml, hown, hW⟩ c_Bc_isToken (va_cwS 2 hW (kw_S lm_Bc_37 sta_Bc_isToken ini_Bc cd_Bc_isToken) rfl rfl rfl (by decide +kernel) ⟨Nat.le_of_ble_eq_true rfl, Nat.le_of_ble_eq_true rfl⟩) hK hw rfl hl.1 rfl (Nat.le_of_ble_eq_true rfl) dBc_feed_2 ⟨Nat.le_of_ble_eq_true rfl, Nat.le_of_ble_eq_true rfl⟩ (fun v hq => ?_)
  subst hq
  rw [if_pos ht]
  refine W.eq (g2 := F0 m 5 ls [.int (nI 1)]) rfl ?_
  refine lv_if_ne (pc := 5) (tgt := 18) hx hb dBc_feed_5 (by decide) (fun _ => ?_) (fun hc => absurd hc (show ¬ nI 1 = 0 by decide))
  refine lv_aload_n (pc := 18) hx hb dBc_feed_18 rfl (lv_at hl 0 rfl) ?_
  refine fw_get (pc := 19) (ci := 9) (v := .ref (b + 1)) (C := RBc) (T := TBc) (N := 4) hx hb hW in_Bc hown hK.1 hw b0 rfl 0 (by decide) (hW _ lf_Bc_12) (fun _ h => h) rfl dBc_feed_19 ?_
  refine fw_get (pc := 22) (ci := 6) (v := .int (nI (I 0))) (C := RTo) (T := TTo) (N := 3) hx hb hW in_To hown hK.1 hw b1 rfl 2 (by decide) (hW _ lf_Bc_48) (fun _ h => h) rfl dBc_feed_22 ?_
  refine lv_bipush (pc := 25) (v := (nI 120)) hx hb dBc_feed_25 (by decide) ?_
  refine lv_icmp_ne (pc := 27) (tgt := 32) hx hb dBc_feed_27 (by decide) (fun hc => absurd hc (fun h => h (by rw [h0]))) (fun _ => ?_)
  refine lv_iconst (pc := 30) (v := (-1)) hx hb dBc_feed_30 (by decide) ?_
  exact fw_iretR (pc := 31) hx hb hr hlocks hH dBc_feed_31 rfl

set_option maxHeartbeats 4000000 in
set_option maxRecDepth 100000 in
theorem x_Bc_feed {b : Nat} {I : Nat → Nat} {J : Nat → Nat → Nat} {V G : Nat → Nat} (hS : bcS cI cL cQ w b I J V G) {k u : Int32} (hst : l.stackTraces = false) (ht : tk k u = false) : xw_C l yBc_feed (Cond.code yBc_feed cBc_feed 3 (some FieldType.int) :: kWs) ({ frames := 6, cells := 1, slots := 6, locals := 90 } : Room) D kCl (kty cI cL cQ) (kz tO tB tC sa) [.ref b, .int k, .int u] (sz) w 1 6 kIA := by
  refine xw_ofW (cc := cBc_feed) (maxL := 3) (ret := (some FieldType.int)) (by decide) rfl (Nat.le_of_ble_eq_true rfl) ?_
  intro p e s m args below meth c hx hb hr hts hown hlocks hml hout hK H ls hw hl
  have hW : ∀ w ∈ kWs, w.before args s = true := fun w h => hts w (List.mem_cons_of_mem _ h)
  have hown : s.vm.findClass RBc = some m.cls := hown
  have hl : lv_has ls 3 [(0, .ref b), (1, .int k), (2, .int u)] := hl
  obtain ⟨⟨b0, b1, b2, b3⟩, ⟨c0, c1, c2, c3, c4, c5⟩, ⟨m0, m1, m2, m3, m4, m5⟩, hR, hV, hN, hD⟩ := id hS
  refine lv_iload_n (pc := 0) hx hb dBc_feed_0 rfl (lv_at hl 1 rfl) ?_
  refine lv_iload_n (pc := 1) hx hb dBc_feed_1 rfl (lv_at hl 2 rfl) ?_
  refine fw_cSR (pc := 2) (As := [.int k, .int u]) (rest := []) ⟨hx, hb, hml, hown, hW⟩ c_Bc_isToken (va_cwS 2 hW (kw_S lm_Bc_37 sta_Bc_isToken ini_Bc cd_Bc_isToken) rfl rfl rfl (by decide +kernel) ⟨Nat.le_of_ble_eq_true rfl, Nat.le_of_ble_eq_true rfl⟩) hK hw rfl hl.1 rfl (Nat.le_of_ble_eq_true rfl) dBc_feed_2 ⟨Nat.le_of_ble_eq_true rfl, Nat.le_of_ble_eq_true rfl⟩ (fun v hq => ?_)
  subst hq
  rw [if_neg (by rw [ht]; decide)]
  refine W.eq (g2 := F0 m 5 ls [.int (nI 0)]) rfl ?_
  refine lv_if_ne (pc := 5) (tgt := 18) hx hb dBc_feed_5 (by decide) (fun hc => absurd hc (fun h => h rfl)) (fun _ => ?_)
  exact xw_throw (pc := 8) hx hb hst hown hW kfIA klIA kiIA kaIA (kz_T hK.2.1) (kz_S hK.2.1).1 hout hlocks (by rw [hml]; exact hl.1) dBc_feed_8 dBc_feed_11 dBc_feed_12 dBc_feed_14 dBc_feed_17 (Nat.le_of_ble_eq_true rfl) (Nat.le_of_ble_eq_true rfl) (Nat.le_of_ble_eq_true rfl) (Nat.le_of_ble_eq_true rfl)

set_option maxHeartbeats 4000000 in
set_option maxRecDepth 100000 in
theorem c_Wh_becomeLong {q y0 y : Nat} {sg : Int32} (hy : y < 2 ^ 64) (h : w q = some (.inr (8, [.ref (q + 1), .int sg]))) (hv : isV cL w (q + 1) y0) : fw_C l yWh_becomeLong (Cond.code yWh_becomeLong cWh_becomeLong 3 none :: kWs) ({ frames := 2, cells := 0, slots := 0, locals := 43 } : Room) D kCl (kty cI cL cQ) (kz tO tB tC sa) [.ref q, .long (lN y)] (sz) w 0 0 (fun v w' => v = none ∧ w' q = some (.inr (8, [.ref (q + 1), .int (nI (lsg y))])) ∧ isV cL w' (q + 1) (lmg y) ∧ ∀ a, a < q ∨ q + 3 ≤ a → w' a = w a) := by
  refine fw_ofW (cc := cWh_becomeLong) (maxL := 3) (ret := none) (by decide) rfl (Nat.le_of_ble_eq_true rfl) ?_
  intro p e s m args below meth c hx hb hr hts hown hlocks hname hml hK H ls hw hl
  have hW : ∀ w ∈ kWs, w.before args s = true := fun w h => hts w (List.mem_cons_of_mem _ h)
  have hown : s.vm.findClass RWh = some m.cls := hown
  have hl : lv_has ls 3 [(0, .ref q), (1, .long (lN y))] := hl
  obtain ⟨g, k, ⟨n1, n2⟩, hk, hg, hnk, hnv⟩ := hv
  refine lv_aload_n (pc := 0) hx hb dWh_becomeLong_0 rfl (lv_at hl 0 rfl) ?_
  refine fw_get (pc := 1) (ci := 8) (v := .ref (q + 1)) (C := RWh) (T := TWh) (N := 2) hx hb hW in_Wh hown hK.1 hw h rfl 0 (by decide) (hW _ lf_Wh_10) (fun _ h => h) rfl dWh_becomeLong_1 ?_
  refine lv_lload_n (pc := 4) hx hb dWh_becomeLong_4 rfl (lv_at hl 1 rfl) ?_
  refine lv_lconst (pc := 5) (v := lN 0) hx hb dWh_becomeLong_5 (by decide) ?_
  refine W.lcmp (pc := 6) hx hb dWh_becomeLong_6 ?_
  refine lv_if_ge (pc := 7) (tgt := 15) hx hb dWh_becomeLong_7 (by decide) (fun ha => ?_) (fun ha => ?_)
  · have hs : y < 2 ^ 63 := (lN_le0 hy).mp ((lg_cmp_ge _ _).mp ha)
    refine lv_lload_n (pc := 15) hx hb dWh_becomeLong_15 rfl (lv_at hl 1 rfl) ?_
    refine fw_cV (pc := 16) (As := [.long (lN y)]) (rest := []) ⟨hx, hb, hml, hown, hW⟩ (c_Na_becomeLong hy hg n1 n2) (cwV 1 hW (kw_V lm_Wh_24 im_Na_becomeLong se_Na_becomeLong ini_Na cd_Na_becomeLong) rfl rfl rfl (by decide +kernel) ⟨Nat.le_of_ble_eq_true rfl, Nat.le_of_ble_eq_true rfl⟩) hK hw n1 rfl rfl hl.1 rfl (Nat.le_of_ble_eq_true rfl) dWh_becomeLong_16 ⟨Nat.le_of_ble_eq_true rfl, Nat.le_of_ble_eq_true rfl⟩ (fun v w1 H locs hq hw => ?_)
    obtain ⟨rfl, hV, ho⟩ := hq
    have h_ : w1 (q) = some (.inr (8, [.ref (q + 1), .int sg])) := (ho _ (by omega) (by omega)).trans h
    have h := h_
    refine W.eq (g2 := F0 m 19 ls []) rfl ?_
    refine lv_aload_n (pc := 19) hx hb dWh_becomeLong_19 rfl (lv_at hl 0 rfl) ?_
    refine lv_lload_n (pc := 20) hx hb dWh_becomeLong_20 rfl (lv_at hl 1 rfl) ?_
    refine lv_lconst (pc := 21) (v := lN 0) hx hb dWh_becomeLong_21 (by decide) ?_
    refine W.lcmp (pc := 22) hx hb dWh_becomeLong_22 ?_
    refine lv_if_ge (pc := 23) (tgt := 30) hx hb dWh_becomeLong_23 (by decide) (fun _ => ?_) (fun hc => absurd ha hc)
    refine lv_iconst (pc := 30) (v := (nI 0)) hx hb dWh_becomeLong_30 (by decide) ?_
    refine fw_put (pc := 31) (ci := 8) (v := .int (nI 0)) (ty := .boolean) (C := RWh) (T := TWh) (N := 2) hx hb hW in_Wh tyWh tyWh_ok nmWh hown hK.1 hw h rfl 1 (by decide) (hW _ lf_Wh_16) (fun _ h => h) rfl (by decide +kernel) rfl rfl (Nat.le_of_ble_eq_true rfl) dWh_becomeLong_31 (fun H locs hw => ?_)
    obtain ⟨w2, e2⟩ : ∃ w_, w_ = fw_up w1 (q) (.inr (8, [.ref (q + 1), .int (nI 0)])) := ⟨_, rfl⟩
    have hw : fw_H D kCl (fw_A w (sz)) s.heap w2 (sz) H locs := by rw [e2]; exact hw
    have h_ : w2 (q) = some (.inr (8, [.ref (q + 1), .int (nI 0)])) := by rw [e2]; exact fw_us _ _ _
    have h := h_
    exact fw_vret (pc := 34) hx hb hr hlocks hw dWh_becomeLong_34 ⟨rfl, by rw [show lsg y = 0 from if_pos hs]; exact h, by rw [show lmg y = y from if_pos hs]; exact hV.kept (fun a h1 h2 => by rw [e2, fw_un (by omega)]), fun a ha => by rw [e2, fw_un (by omega), ho a (by omega) (by omega)]⟩
  · have hs : ¬ y < 2 ^ 63 := fun h0 => ha ((lg_cmp_ge _ _).mpr ((lN_le0 hy).mpr h0))
    refine lv_lload_n (pc := 10) hx hb dWh_becomeLong_10 rfl (lv_at hl 1 rfl) ?_
    refine lv_lneg (pc := 11) hx hb dWh_becomeLong_11 ?_
    refine lv_goto (pc := 12) (tgt := 16) hx hb dWh_becomeLong_12 (by decide) ?_
    rw [show ((-(lN y)) : Int64) = lN (2 ^ 64 - y) from (lN_neg (by omega))]
    refine fw_cV (pc := 16) (As := [.long (lN (2 ^ 64 - y))]) (rest := []) ⟨hx, hb, hml, hown, hW⟩ (c_Na_becomeLong (by omega) hg n1 n2) (cwV 1 hW (kw_V lm_Wh_24 im_Na_becomeLong se_Na_becomeLong ini_Na cd_Na_becomeLong) rfl rfl rfl (by decide +kernel) ⟨Nat.le_of_ble_eq_true rfl, Nat.le_of_ble_eq_true rfl⟩) hK hw n1 rfl rfl hl.1 rfl (Nat.le_of_ble_eq_true rfl) dWh_becomeLong_16 ⟨Nat.le_of_ble_eq_true rfl, Nat.le_of_ble_eq_true rfl⟩ (fun v w1 H locs hq hw => ?_)
    obtain ⟨rfl, hV, ho⟩ := hq
    have h_ : w1 (q) = some (.inr (8, [.ref (q + 1), .int sg])) := (ho _ (by omega) (by omega)).trans h
    have h := h_
    refine W.eq (g2 := F0 m 19 ls []) rfl ?_
    refine lv_aload_n (pc := 19) hx hb dWh_becomeLong_19 rfl (lv_at hl 0 rfl) ?_
    refine lv_lload_n (pc := 20) hx hb dWh_becomeLong_20 rfl (lv_at hl 1 rfl) ?_
    refine lv_lconst (pc := 21) (v := lN 0) hx hb dWh_becomeLong_21 (by decide) ?_
    refine W.lcmp (pc := 22) hx hb dWh_becomeLong_22 ?_
    refine lv_if_ge (pc := 23) (tgt := 30) hx hb dWh_becomeLong_23 (by decide) (fun hc => absurd hc ha) (fun _ => ?_)
    refine lv_iconst (pc := 26) (v := (nI 1)) hx hb dWh_becomeLong_26 (by decide) ?_
    refine lv_goto (pc := 27) (tgt := 31) hx hb dWh_becomeLong_27 (by decide) ?_
    refine fw_put (pc := 31) (ci := 8) (v := .int (nI 1)) (ty := .boolean) (C := RWh) (T := TWh) (N := 2) hx hb hW in_Wh tyWh tyWh_ok nmWh hown hK.1 hw h rfl 1 (by decide) (hW _ lf_Wh_16) (fun _ h => h) rfl (by decide +kernel) rfl rfl (Nat.le_of_ble_eq_true rfl) dWh_becomeLong_31 (fun H locs hw => ?_)
    obtain ⟨w2, e2⟩ : ∃ w_, w_ = fw_up w1 (q) (.inr (8, [.ref (q + 1), .int (nI 1)])) := ⟨_, rfl⟩
    have hw : fw_H D kCl (fw_A w (sz)) s.heap w2 (sz) H locs := by rw [e2]; exact hw
    have h_ : w2 (q) = some (.inr (8, [.ref (q + 1), .int (nI 1)])) := by rw [e2]; exact fw_us _ _ _
    have h := h_
    exact fw_vret (pc := 34) hx hb hr hlocks hw dWh_becomeLong_34 ⟨rfl, by rw [show lsg y = 1 from if_neg hs]; exact h, by rw [show lmg y = 2 ^ 64 - y from if_neg hs]; exact hV.kept (fun a h1 h2 => by rw [e2, fw_un (by omega)]), fun a ha => by rw [e2, fw_un (by omega), ho a (by omega) (by omega)]⟩

set_option maxHeartbeats 4000000 in
set_option maxRecDepth 100000 in
theorem c_Bc_set {b : Nat} {I : Nat → Nat} {J : Nat → Nat → Nat} {V G : Nat → Nat} (hS : bcS cI cL cQ w b I J V G) {j y : Nat} (hj : j < 8) (hy : y < 2 ^ 64) : fw_C l yBc_set (Cond.code yBc_set cBc_set 4 none :: kWs) ({ frames := 3, cells := 0, slots := 0, locals := 65 } : Room) D kCl (kty cI cL cQ) (kz tO tB tC sa) [.ref b, .int (nI j), .long (lN y)] (sz) w 0 0 (fun r w' => r = none ∧ bcS cI cL cQ w' b I J (va_up V (10 + j) (lmg y)) (va_up G (10 + j) (lsg y)) ∧ ∀ q, q < b ∨ b + 86 ≤ q → w' q = w q) := by
  refine fw_ofW (cc := cBc_set) (maxL := 4) (ret := none) (by decide) rfl (Nat.le_of_ble_eq_true rfl) ?_
  intro p e s m args below meth c hx hb hr hts hown hlocks hname hml hK H ls hw hl
  have hW : ∀ w ∈ kWs, w.before args s = true := fun w h => hts w (List.mem_cons_of_mem _ h)
  have hown : s.vm.findClass RBc = some m.cls := hown
  have hl : lv_has ls 4 [(0, .ref b), (1, .int (nI j)), (2, .long (lN y))] := hl
  obtain ⟨⟨b0, b1, b2, b3⟩, ⟨c0, c1, c2, c3, c4, c5⟩, ⟨m0, m1, m2, m3, m4, m5⟩, hR, hV, hN, hD⟩ := id hS
  refine lv_aload_n (pc := 0) hx hb dBc_set_0 rfl (lv_at hl 0 rfl) ?_
  refine lv_iload_n (pc := 1) hx hb dBc_set_1 rfl (lv_at hl 1 rfl) ?_
  refine fw_cVR (pc := 2) (As := [.int (nI j)]) (rest := []) ⟨hx, hb, hml, hown, hW⟩ (c_Bc_variable hS hj) (cwV 1 hW (kw_V lm_Bc_74 im_Bc_variable se_Bc_variable ini_Bc cd_Bc_variable) rfl rfl rfl (by decide +kernel) ⟨Nat.le_of_ble_eq_true rfl, Nat.le_of_ble_eq_true rfl⟩) hK hw b0 rfl rfl hl.1 rfl (Nat.le_of_ble_eq_true rfl) dBc_set_2 ⟨Nat.le_of_ble_eq_true rfl, Nat.le_of_ble_eq_true rfl⟩ (fun v hq => ?_)
  subst hq
  refine W.eq (g2 := F0 m 5 ls [.ref (b + 43 + 3 * j)]) rfl ?_
  have v0 := (hV j hj).1
  refine lv_lload_n (pc := 5) hx hb dBc_set_5 rfl (lv_at hl 2 rfl) ?_
  refine fw_cV (pc := 6) (As := [.long (lN y)]) (rest := []) ⟨hx, hb, hml, hown, hW⟩ (c_Wh_becomeLong hy v0 (hV j hj).2) (cwV 1 hW (kw_V lm_Bc_78 im_Wh_becomeLong se_Wh_becomeLong ini_Wh cd_Wh_becomeLong) rfl rfl rfl (by decide +kernel) ⟨Nat.le_of_ble_eq_true rfl, Nat.le_of_ble_eq_true rfl⟩) hK hw v0 rfl rfl hl.1 rfl (Nat.le_of_ble_eq_true rfl) dBc_set_6 ⟨Nat.le_of_ble_eq_true rfl, Nat.le_of_ble_eq_true rfl⟩ (fun v w1 H locs hq hw => ?_)
  obtain ⟨rfl, u0, u1, ho⟩ := hq
  refine W.eq (g2 := F0 m 9 ls []) rfl ?_
  exact fw_vret (pc := 9) hx hb hr hlocks hw dBc_set_9 ⟨rfl, bcS.var hS hj u0 u1 ho, fun q hq => ho q (by omega)⟩

set_option maxHeartbeats 4000000 in
set_option maxRecDepth 100000 in
theorem x_Bc_set {b : Nat} {I : Nat → Nat} {J : Nat → Nat → Nat} {V G : Nat → Nat} (hS : bcS cI cL cQ w b I J V G) {x : Int32} (hst : l.stackTraces = false) (hx9 : x < 0 ∨ nI 8 ≤ x) {y : Int64} : xw_C l yBc_set (Cond.code yBc_set cBc_set 4 none :: kWs) ({ frames := 7, cells := 1, slots := 6, locals := 111 } : Room) D kCl (kty cI cL cQ) (kz tO tB tC sa) [.ref b, .int x, .long y] (sz) w 1 6 kIA := by
  refine xw_ofW (cc := cBc_set) (maxL := 4) (ret := none) (by decide) rfl (Nat.le_of_ble_eq_true rfl) ?_
  intro p e s m args below meth c hx hb hr hts hown hlocks hml hout hK H ls hw hl
  have hW : ∀ w ∈ kWs, w.before args s = true := fun w h => hts w (List.mem_cons_of_mem _ h)
  have hown : s.vm.findClass RBc = some m.cls := hown
  have hl : lv_has ls 4 [(0, .ref b), (1, .int x), (2, .long y)] := hl
  obtain ⟨⟨b0, b1, b2, b3⟩, ⟨c0, c1, c2, c3, c4, c5⟩, ⟨m0, m1, m2, m3, m4, m5⟩, hR, hV, hN, hD⟩ := id hS
  refine lv_aload_n (pc := 0) hx hb dBc_set_0 rfl (lv_at hl 0 rfl) ?_
  refine lv_iload_n (pc := 1) hx hb dBc_set_1 rfl (lv_at hl 1 rfl) ?_
  refine xw_cV (pc := 2) (As := [.int x]) (rest := []) ⟨hx, hb, hml, hown, hW⟩ (x_Bc_variable hS hst hx9) (cwV 1 hW (kw_V lm_Bc_74 im_Bc_variable se_Bc_variable ini_Bc cd_Bc_variable) rfl rfl rfl (by decide +kernel) ⟨Nat.le_of_ble_eq_true rfl, Nat.le_of_ble_eq_true rfl⟩) hK hw b0 rfl rfl hl.1 rfl (Nat.le_of_ble_eq_true rfl) dBc_set_2 ⟨Nat.le_of_ble_eq_true rfl, Nat.le_of_ble_eq_true rfl⟩ (fun q ce n1 H1 hn1 hce hcv hcl hw => ?_)
  exact xw_out (fun x h => hout x h _) hlocks hce hcv hcl

set_option maxHeartbeats 4000000 in
set_option maxRecDepth 100000 in
theorem c_Ma_begin {n x1 x2 x3 : Nat} {i1 i2 i3 i4 : Int32} (h : w n = some (.inr (4, [.ref x1, .ref x2, .int i1, .int i2, .int i3, .int i4, .ref x3]))) : fw_C l yMa_begin (Cond.code yMa_begin cMa_begin 1 none :: kWs) ({ frames := 0, cells := 0, slots := 0, locals := 0 } : Room) D kCl (kty cI cL cQ) (kz tO tB tC sa) [.ref n] (sz) w 0 0 (fun v w' => v = none ∧ w' n = some (.inr (4, [.ref x1, .ref x2, .int (nI 0), .int (nI 0), .int (nI 0), .int (nI 0), .ref x3])) ∧ ∀ q, q ≠ n → w' q = w q) := by
  refine fw_ofW (cc := cMa_begin) (maxL := 1) (ret := none) (by decide) rfl (Nat.le_of_ble_eq_true rfl) ?_
  intro p e s m args below meth c hx hb hr hts hown hlocks hname hml hK H ls hw hl
  have hW : ∀ w ∈ kWs, w.before args s = true := fun w h => hts w (List.mem_cons_of_mem _ h)
  have hown : s.vm.findClass RMa = some m.cls := hown
  have hl : lv_has ls 1 [(0, .ref n)] := hl
  refine lv_aload_n (pc := 0) hx hb dMa_begin_0 rfl (lv_at hl 0 rfl) ?_
  refine lv_iconst (pc := 1) (v := (nI 0)) hx hb dMa_begin_1 (by decide) ?_
  refine fw_put (pc := 2) (ci := 4) (v := .int (nI 0)) (ty := .int) (C := RMa) (T := TMa) (N := 7) hx hb hW in_Ma tyMa tyMa_ok nmMa hown hK.1 hw h rfl 2 (by decide) (hW _ lf_Ma_21) (fun _ h => h) rfl (by decide +kernel) rfl rfl (Nat.le_of_ble_eq_true rfl) dMa_begin_2 (fun H locs hw => ?_)
  obtain ⟨w1, e1⟩ : ∃ w_, w_ = fw_up w (n) (.inr (4, [.ref x1, .ref x2, .int (nI 0), .int i2, .int i3, .int i4, .ref x3])) := ⟨_, rfl⟩
  have hw : fw_H D kCl (fw_A w (sz)) s.heap w1 (sz) H locs := by rw [e1]; exact hw
  have h_ : w1 (n) = some (.inr (4, [.ref x1, .ref x2, .int (nI 0), .int i2, .int i3, .int i4, .ref x3])) := by rw [e1]; exact fw_us _ _ _
  have h := h_
  refine lv_aload_n (pc := 5) hx hb dMa_begin_5 rfl (lv_at hl 0 rfl) ?_
  refine lv_iconst (pc := 6) (v := (nI 0)) hx hb dMa_begin_6 (by decide) ?_
  refine fw_put (pc := 7) (ci := 4) (v := .int (nI 0)) (ty := .int) (C := RMa) (T := TMa) (N := 7) hx hb hW in_Ma tyMa tyMa_ok nmMa hown hK.1 hw h rfl 3 (by decide) (hW _ lf_Ma_25) (fun _ h => h) rfl (by decide +kernel) rfl rfl (Nat.le_of_ble_eq_true rfl) dMa_begin_7 (fun H locs hw => ?_)
  obtain ⟨w2, e2⟩ : ∃ w_, w_ = fw_up w1 (n) (.inr (4, [.ref x1, .ref x2, .int (nI 0), .int (nI 0), .int i3, .int i4, .ref x3])) := ⟨_, rfl⟩
  have hw : fw_H D kCl (fw_A w (sz)) s.heap w2 (sz) H locs := by rw [e2]; exact hw
  have h_ : w2 (n) = some (.inr (4, [.ref x1, .ref x2, .int (nI 0), .int (nI 0), .int i3, .int i4, .ref x3])) := by rw [e2]; exact fw_us _ _ _
  have h := h_
  refine lv_aload_n (pc := 10) hx hb dMa_begin_10 rfl (lv_at hl 0 rfl) ?_
  refine lv_iconst (pc := 11) (v := (nI 0)) hx hb dMa_begin_11 (by decide) ?_
  refine fw_put (pc := 12) (ci := 4) (v := .int (nI 0)) (ty := .int) (C := RMa) (T := TMa) (N := 7) hx hb hW in_Ma tyMa tyMa_ok nmMa hown hK.1 hw h rfl 4 (by decide) (hW _ lf_Ma_28) (fun _ h => h) rfl (by decide +kernel) rfl rfl (Nat.le_of_ble_eq_true rfl) dMa_begin_12 (fun H locs hw => ?_)
  obtain ⟨w3, e3⟩ : ∃ w_, w_ = fw_up w2 (n) (.inr (4, [.ref x1, .ref x2, .int (nI 0), .int (nI 0), .int (nI 0), .int i4, .ref x3])) := ⟨_, rfl⟩
  have hw : fw_H D kCl (fw_A w (sz)) s.heap w3 (sz) H locs := by rw [e3]; exact hw
  have h_ : w3 (n) = some (.inr (4, [.ref x1, .ref x2, .int (nI 0), .int (nI 0), .int (nI 0), .int i4, .ref x3])) := by rw [e3]; exact fw_us _ _ _
  have h := h_
  refine lv_aload_n (pc := 15) hx hb dMa_begin_15 rfl (lv_at hl 0 rfl) ?_
  refine lv_iconst (pc := 16) (v := (nI 0)) hx hb dMa_begin_16 (by decide) ?_
  refine fw_put (pc := 17) (ci := 4) (v := .int (nI 0)) (ty := .int) (C := RMa) (T := TMa) (N := 7) hx hb hW in_Ma tyMa tyMa_ok nmMa hown hK.1 hw h rfl 5 (by decide) (hW _ lf_Ma_31) (fun _ h => h) rfl (by decide +kernel) rfl rfl (Nat.le_of_ble_eq_true rfl) dMa_begin_17 (fun H locs hw => ?_)
  obtain ⟨w4, e4⟩ : ∃ w_, w_ = fw_up w3 (n) (.inr (4, [.ref x1, .ref x2, .int (nI 0), .int (nI 0), .int (nI 0), .int (nI 0), .ref x3])) := ⟨_, rfl⟩
  have hw : fw_H D kCl (fw_A w (sz)) s.heap w4 (sz) H locs := by rw [e4]; exact hw
  have h_ : w4 (n) = some (.inr (4, [.ref x1, .ref x2, .int (nI 0), .int (nI 0), .int (nI 0), .int (nI 0), .ref x3])) := by rw [e4]; exact fw_us _ _ _
  have h := h_
  exact fw_vret (pc := 20) hx hb hr hlocks hw dMa_begin_20 ⟨rfl, h, fun q hq => by rw [e4, fw_un hq, e3, fw_un hq, e2, fw_un hq, e1, fw_un hq]⟩

set_option maxHeartbeats 4000000 in
set_option maxRecDepth 100000 in
theorem c_Bc_restart {b : Nat} {I : Nat → Nat} {J : Nat → Nat → Nat} {V G : Nat → Nat} (hS : bcS cI cL cQ w b I J V G) (h1 : 0 < I 1) (h2 : I 1 < 2 ^ 31) : fw_C l yBc_restart (Cond.code yBc_restart cBc_restart 1 none :: kWs) ({ frames := 1, cells := 0, slots := 0, locals := 20 } : Room) D kCl (kty cI cL cQ) (kz tO tB tC sa) [.ref b] (sz) w 0 0 (fun r w' => r = none ∧ bcS cI cL cQ w' b (fun i => if 4 ≤ i then 0 else I i) J V G ∧ ∀ q, q < b ∨ b + 86 ≤ q → w' q = w q) := by
  refine fw_ofW (cc := cBc_restart) (maxL := 1) (ret := none) (by decide) rfl (Nat.le_of_ble_eq_true rfl) ?_
  intro p e s m args below meth c hx hb hr hts hown hlocks hname hml hK H ls hw hl
  have hW : ∀ w ∈ kWs, w.before args s = true := fun w h => hts w (List.mem_cons_of_mem _ h)
  have hown : s.vm.findClass RBc = some m.cls := hown
  have hl : lv_has ls 1 [(0, .ref b)] := hl
  obtain ⟨⟨b0, b1, b2, b3⟩, ⟨c0, c1, c2, c3, c4, c5⟩, ⟨m0, m1, m2, m3, m4, m5⟩, hR, hV, hN, hD⟩ := id hS
  refine lv_aload_n (pc := 0) hx hb dBc_restart_0 rfl (lv_at hl 0 rfl) ?_
  refine fw_cVR (pc := 1) (As := []) (rest := []) ⟨hx, hb, hml, hown, hW⟩ (c_Bc_requireCode hS h1 h2) (cwV 0 hW (kw_V lm_Bc_92 im_Bc_requireCode se_Bc_requireCode ini_Bc cd_Bc_requireCode) rfl rfl rfl (by decide +kernel) ⟨Nat.le_of_ble_eq_true rfl, Nat.le_of_ble_eq_true rfl⟩) hK hw b0 rfl rfl hl.1 rfl (Nat.le_of_ble_eq_true rfl) dBc_restart_1 ⟨Nat.le_of_ble_eq_true rfl, Nat.le_of_ble_eq_true rfl⟩ (fun v hq => ?_)
  subst hq
  refine W.eq (g2 := F0 m 4 ls []) rfl ?_
  refine lv_aload_n (pc := 4) hx hb dBc_restart_4 rfl (lv_at hl 0 rfl) ?_
  refine fw_get (pc := 5) (ci := 9) (v := .ref (b + 10)) (C := RBc) (T := TBc) (N := 4) hx hb hW in_Bc hown hK.1 hw b0 rfl 2 (by decide) (hW _ lf_Bc_26) (fun _ h => h) rfl dBc_restart_5 ?_
  refine fw_cV (pc := 8) (As := []) (rest := []) ⟨hx, hb, hml, hown, hW⟩ (c_Ma_begin m0) (cwV 0 hW (kw_V lm_Bc_71 im_Ma_begin se_Ma_begin ini_Ma cd_Ma_begin) rfl rfl rfl (by decide +kernel) ⟨Nat.le_of_ble_eq_true rfl, Nat.le_of_ble_eq_true rfl⟩) hK hw m0 rfl rfl hl.1 rfl (Nat.le_of_ble_eq_true rfl) dBc_restart_8 ⟨Nat.le_of_ble_eq_true rfl, Nat.le_of_ble_eq_true rfl⟩ (fun v w1 H locs hq hw => ?_)
  obtain ⟨rfl, u0, ho⟩ := hq
  refine W.eq (g2 := F0 m 11 ls []) rfl ?_
  exact fw_vret (pc := 11) hx hb hr hlocks hw dBc_restart_11 ⟨rfl, bcS.g3 hS u0 ho (fun i hi => if_neg (by omega)), fun q hq => ho q (by omega)⟩

set_option maxHeartbeats 4000000 in
set_option maxRecDepth 100000 in
theorem x_Bc_restartS {b : Nat} {I : Nat → Nat} {J : Nat → Nat → Nat} {V G : Nat → Nat} (hS : bcS cI cL cQ w b I J V G) (hst : l.stackTraces = false) (h1 : I 1 = 0) : xw_C l yBc_restart (Cond.code yBc_restart cBc_restart 1 none :: kWs) ({ frames := 7, cells := 1, slots := 6, locals := 110 } : Room) D kCl (kty cI cL cQ) (kz tO tB tC sa) [.ref b] (sz) w 1 6 kIS := by
  refine xw_ofW (cc := cBc_restart) (maxL := 1) (ret := none) (by decide) rfl (Nat.le_of_ble_eq_true rfl) ?_
  intro p e s m args below meth c hx hb hr hts hown hlocks hml hout hK H ls hw hl
  have hW : ∀ w ∈ kWs, w.before args s = true := fun w h => hts w (List.mem_cons_of_mem _ h)
  have hown : s.vm.findClass RBc = some m.cls := hown
  have hl : lv_has ls 1 [(0, .ref b)] := hl
  obtain ⟨⟨b0, b1, b2, b3⟩, ⟨c0, c1, c2, c3, c4, c5⟩, ⟨m0, m1, m2, m3, m4, m5⟩, hR, hV, hN, hD⟩ := id hS
  refine lv_aload_n (pc := 0) hx hb dBc_restart_0 rfl (lv_at hl 0 rfl) ?_
  refine xw_cV (pc := 1) (As := []) (rest := []) ⟨hx, hb, hml, hown, hW⟩ (x_Bc_requireCode hS hst h1) (cwV 0 hW (kw_V lm_Bc_92 im_Bc_requireCode se_Bc_requireCode ini_Bc cd_Bc_requireCode) rfl rfl rfl (by decide +kernel) ⟨Nat.le_of_ble_eq_true rfl, Nat.le_of_ble_eq_true rfl⟩) hK hw b0 rfl rfl hl.1 rfl (Nat.le_of_ble_eq_true rfl) dBc_restart_1 ⟨Nat.le_of_ble_eq_true rfl, Nat.le_of_ble_eq_true rfl⟩ (fun q ce n1 H1 hn1 hce hcv hcl hw => ?_)
  exact xw_out (fun x h => hout x h _) hlocks hce hcv hcl

set_option maxHeartbeats 4000000 in
set_option maxRecDepth 100000 in
theorem x_Bc_runS {b : Nat} {I : Nat → Nat} {J : Nat → Nat → Nat} {V G : Nat → Nat} (hS : bcS cI cL cQ w b I J V G) {x : Int32} (hst : l.stackTraces = false) (h1 : I 1 = 0) : xw_C l yBc_run (Cond.code yBc_run cBc_run 2 (some FieldType.int) :: kWs) ({ frames := 7, cells := 1, slots := 6, locals := 110 } : Room) D kCl (kty cI cL cQ) (kz tO tB tC sa) [.ref b, .int x] (sz) w 1 6 kIS := by
  refine xw_ofW (cc := cBc_run) (maxL := 2) (ret := (some FieldType.int)) (by decide) rfl (Nat.le_of_ble_eq_true rfl) ?_
  intro p e s m args below meth c hx hb hr hts hown hlocks hml hout hK H ls hw hl
  have hW : ∀ w ∈ kWs, w.before args s = true := fun w h => hts w (List.mem_cons_of_mem _ h)
  have hown : s.vm.findClass RBc = some m.cls := hown
  have hl : lv_has ls 2 [(0, .ref b), (1, .int x)] := hl
  obtain ⟨⟨b0, b1, b2, b3⟩, ⟨c0, c1, c2, c3, c4, c5⟩, ⟨m0, m1, m2, m3, m4, m5⟩, hR, hV, hN, hD⟩ := id hS
  refine lv_aload_n (pc := 0) hx hb dBc_run_0 rfl (lv_at hl 0 rfl) ?_
  refine xw_cV (pc := 1) (As := []) (rest := []) ⟨hx, hb, hml, hown, hW⟩ (x_Bc_requireCode hS hst h1) (cwV 0 hW (kw_V lm_Bc_92 im_Bc_requireCode se_Bc_requireCode ini_Bc cd_Bc_requireCode) rfl rfl rfl (by decide +kernel) ⟨Nat.le_of_ble_eq_true rfl, Nat.le_of_ble_eq_true rfl⟩) hK hw b0 rfl rfl hl.1 rfl (Nat.le_of_ble_eq_true rfl) dBc_run_1 ⟨Nat.le_of_ble_eq_true rfl, Nat.le_of_ble_eq_true rfl⟩ (fun q ce n1 H1 hn1 hce hcv hcl hw => ?_)
  exact xw_out (fun x h => hout x h _) hlocks hce hcv hcl

set_option maxHeartbeats 4000000 in
set_option maxRecDepth 100000 in
theorem x_Bc_runA {b : Nat} {I : Nat → Nat} {J : Nat → Nat → Nat} {V G : Nat → Nat} (hS : bcS cI cL cQ w b I J V G) {x : Int32} (hst : l.stackTraces = false) (h1 : 0 < I 1) (h2 : I 1 < 2 ^ 31) (hx9 : x < 0 ∨ nI 10000 < x) : xw_C l yBc_run (Cond.code yBc_run cBc_run 2 (some FieldType.int) :: kWs) ({ frames := 7, cells := 1, slots := 6, locals := 110 } : Room) D kCl (kty cI cL cQ) (kz tO tB tC sa) [.ref b, .int x] (sz) w 1 6 kIA := by
  refine xw_ofW (cc := cBc_run) (maxL := 2) (ret := (some FieldType.int)) (by decide) rfl (Nat.le_of_ble_eq_true rfl) ?_
  intro p e s m args below meth c hx hb hr hts hown hlocks hml hout hK H ls hw hl
  have hW : ∀ w ∈ kWs, w.before args s = true := fun w h => hts w (List.mem_cons_of_mem _ h)
  have hown : s.vm.findClass RBc = some m.cls := hown
  have hl : lv_has ls 2 [(0, .ref b), (1, .int x)] := hl
  obtain ⟨⟨b0, b1, b2, b3⟩, ⟨c0, c1, c2, c3, c4, c5⟩, ⟨m0, m1, m2, m3, m4, m5⟩, hR, hV, hN, hD⟩ := id hS
  refine lv_aload_n (pc := 0) hx hb dBc_run_0 rfl (lv_at hl 0 rfl) ?_
  refine fw_cVR (pc := 1) (As := []) (rest := []) ⟨hx, hb, hml, hown, hW⟩ (c_Bc_requireCode hS h1 h2) (cwV 0 hW (kw_V lm_Bc_92 im_Bc_requireCode se_Bc_requireCode ini_Bc cd_Bc_requireCode) rfl rfl rfl (by decide +kernel) ⟨Nat.le_of_ble_eq_true rfl, Nat.le_of_ble_eq_true rfl⟩) hK hw b0 rfl rfl hl.1 rfl (Nat.le_of_ble_eq_true rfl) dBc_run_1 ⟨Nat.le_of_ble_eq_true rfl, Nat.le_of_ble_eq_true rfl⟩ (fun v hq => ?_)
  subst hq
  refine W.eq (g2 := F0 m 4 ls []) rfl ?_
  refine lv_iload_n (pc := 4) hx hb dBc_run_4 rfl (lv_at hl 1 rfl) ?_
  refine lv_if_lt (pc := 5) (tgt := 15) hx hb dBc_run_5 (by decide) (fun ha => ?_) (fun ha => ?_)
  · exact xw_throw (pc := 15) hx hb hst hown hW kfIA klIA kiIA kaIA (kz_T hK.2.1) (kz_S hK.2.1).2.1 hout hlocks (by rw [hml]; exact hl.1) dBc_run_15 dBc_run_18 dBc_run_19 dBc_run_21 dBc_run_24 (Nat.le_of_ble_eq_true rfl) (Nat.le_of_ble_eq_true rfl) (Nat.le_of_ble_eq_true rfl) (Nat.le_of_ble_eq_true rfl)
  · refine lv_iload_n (pc := 8) hx hb dBc_run_8 rfl (lv_at hl 1 rfl) ?_
    refine lv_sipush (pc := 9) (v := (nI 10000)) hx hb dBc_run_9 (by decide) ?_
    refine lv_icmp_le (pc := 12) (tgt := 25) hx hb dBc_run_12 (by decide) (fun hc => absurd hc (fun h => by rcases hx9 with h9 | h9; exact ha h9; exact absurd h (Int32.not_le.mpr h9))) (fun _ => ?_)
    exact xw_throw (pc := 15) hx hb hst hown hW kfIA klIA kiIA kaIA (kz_T hK.2.1) (kz_S hK.2.1).2.1 hout hlocks (by rw [hml]; exact hl.1) dBc_run_15 dBc_run_18 dBc_run_19 dBc_run_21 dBc_run_24 (Nat.le_of_ble_eq_true rfl) (Nat.le_of_ble_eq_true rfl) (Nat.le_of_ble_eq_true rfl) (Nat.le_of_ble_eq_true rfl)

set_option maxHeartbeats 4000000 in
set_option maxRecDepth 100000 in
theorem x_Bc_signS {b : Nat} {I : Nat → Nat} {J : Nat → Nat → Nat} {V G : Nat → Nat} (hS : bcS cI cL cQ w b I J V G) (hst : l.stackTraces = false) (h1 : I 1 < 2 ^ 31) (h4 : I 4 < 2 ^ 31) (hno : ¬ (0 < I 1 ∧ I 4 = I 1)) : xw_C l yBc_sign (Cond.code yBc_sign cBc_sign 1 (some FieldType.int) :: kWs) ({ frames := 7, cells := 1, slots := 6, locals := 110 } : Room) D kCl (kty cI cL cQ) (kz tO tB tC sa) [.ref b] (sz) w 1 6 kIS := by
  refine xw_ofW (cc := cBc_sign) (maxL := 1) (ret := (some FieldType.int)) (by decide) rfl (Nat.le_of_ble_eq_true rfl) ?_
  intro p e s m args below meth c hx hb hr hts hown hlocks hml hout hK H ls hw hl
  have hW : ∀ w ∈ kWs, w.before args s = true := fun w h => hts w (List.mem_cons_of_mem _ h)
  have hown : s.vm.findClass RBc = some m.cls := hown
  have hl : lv_has ls 1 [(0, .ref b)] := hl
  obtain ⟨⟨b0, b1, b2, b3⟩, ⟨c0, c1, c2, c3, c4, c5⟩, ⟨m0, m1, m2, m3, m4, m5⟩, hR, hV, hN, hD⟩ := id hS
  refine lv_aload_n (pc := 0) hx hb dBc_sign_0 rfl (lv_at hl 0 rfl) ?_
  refine xw_cV (pc := 1) (As := []) (rest := []) ⟨hx, hb, hml, hown, hW⟩ (x_Bc_result hS hst h1 h4 hno) (cwV 0 hW (kw_V lm_Bc_84 im_Bc_result se_Bc_result ini_Bc cd_Bc_result) rfl rfl rfl (by decide +kernel) ⟨Nat.le_of_ble_eq_true rfl, Nat.le_of_ble_eq_true rfl⟩) hK hw b0 rfl rfl hl.1 rfl (Nat.le_of_ble_eq_true rfl) dBc_sign_1 ⟨Nat.le_of_ble_eq_true rfl, Nat.le_of_ble_eq_true rfl⟩ (fun q ce n1 H1 hn1 hce hcv hcl hw => ?_)
  exact xw_out (fun x h => hout x h _) hlocks hce hcv hcl

set_option maxHeartbeats 4000000 in
set_option maxRecDepth 100000 in
theorem x_Bc_limbS {b : Nat} {I : Nat → Nat} {J : Nat → Nat → Nat} {V G : Nat → Nat} (hS : bcS cI cL cQ w b I J V G) {x : Int32} (hst : l.stackTraces = false) (h1 : I 1 < 2 ^ 31) (h4 : I 4 < 2 ^ 31) (hno : ¬ (0 < I 1 ∧ I 4 = I 1)) : xw_C l yBc_limb (Cond.code yBc_limb cBc_limb 3 (some FieldType.long) :: kWs) ({ frames := 7, cells := 1, slots := 6, locals := 110 } : Room) D kCl (kty cI cL cQ) (kz tO tB tC sa) [.ref b, .int x] (sz) w 1 6 kIS := by
  refine xw_ofW (cc := cBc_limb) (maxL := 3) (ret := (some FieldType.long)) (by decide) rfl (Nat.le_of_ble_eq_true rfl) ?_
  intro p e s m args below meth c hx hb hr hts hown hlocks hml hout hK H ls hw hl
  have hW : ∀ w ∈ kWs, w.before args s = true := fun w h => hts w (List.mem_cons_of_mem _ h)
  have hown : s.vm.findClass RBc = some m.cls := hown
  have hl : lv_has ls 3 [(0, .ref b), (1, .int x)] := hl
  obtain ⟨⟨b0, b1, b2, b3⟩, ⟨c0, c1, c2, c3, c4, c5⟩, ⟨m0, m1, m2, m3, m4, m5⟩, hR, hV, hN, hD⟩ := id hS
  refine lv_aload_n (pc := 0) hx hb dBc_limb_0 rfl (lv_at hl 0 rfl) ?_
  refine xw_cV (pc := 1) (As := []) (rest := []) ⟨hx, hb, hml, hown, hW⟩ (x_Bc_result hS hst h1 h4 hno) (cwV 0 hW (kw_V lm_Bc_84 im_Bc_result se_Bc_result ini_Bc cd_Bc_result) rfl rfl rfl (by decide +kernel) ⟨Nat.le_of_ble_eq_true rfl, Nat.le_of_ble_eq_true rfl⟩) hK hw b0 rfl rfl hl.1 rfl (Nat.le_of_ble_eq_true rfl) dBc_limb_1 ⟨Nat.le_of_ble_eq_true rfl, Nat.le_of_ble_eq_true rfl⟩ (fun q ce n1 H1 hn1 hce hcv hcl hw => ?_)
  exact xw_out (fun x h => hout x h _) hlocks hce hcv hcl

set_option maxHeartbeats 4000000 in
set_option maxRecDepth 100000 in
theorem x_Bc_digitS {b : Nat} {I : Nat → Nat} {J : Nat → Nat → Nat} {V G : Nat → Nat} (hS : bcS cI cL cQ w b I J V G) {x : Int32} (hst : l.stackTraces = false) (h1 : I 1 < 2 ^ 31) (h4 : I 4 < 2 ^ 31) (hno : ¬ (0 < I 1 ∧ I 4 = I 1)) : xw_C l yBc_digit (Cond.code yBc_digit cBc_digit 3 (some FieldType.int) :: kWs) ({ frames := 7, cells := 1, slots := 6, locals := 110 } : Room) D kCl (kty cI cL cQ) (kz tO tB tC sa) [.ref b, .int x] (sz) w 1 6 kIS := by
  refine xw_ofW (cc := cBc_digit) (maxL := 3) (ret := (some FieldType.int)) (by decide) rfl (Nat.le_of_ble_eq_true rfl) ?_
  intro p e s m args below meth c hx hb hr hts hown hlocks hml hout hK H ls hw hl
  have hW : ∀ w ∈ kWs, w.before args s = true := fun w h => hts w (List.mem_cons_of_mem _ h)
  have hown : s.vm.findClass RBc = some m.cls := hown
  have hl : lv_has ls 3 [(0, .ref b), (1, .int x)] := hl
  obtain ⟨⟨b0, b1, b2, b3⟩, ⟨c0, c1, c2, c3, c4, c5⟩, ⟨m0, m1, m2, m3, m4, m5⟩, hR, hV, hN, hD⟩ := id hS
  refine lv_aload_n (pc := 0) hx hb dBc_digit_0 rfl (lv_at hl 0 rfl) ?_
  refine xw_cV (pc := 1) (As := []) (rest := []) ⟨hx, hb, hml, hown, hW⟩ (x_Bc_result hS hst h1 h4 hno) (cwV 0 hW (kw_V lm_Bc_84 im_Bc_result se_Bc_result ini_Bc cd_Bc_result) rfl rfl rfl (by decide +kernel) ⟨Nat.le_of_ble_eq_true rfl, Nat.le_of_ble_eq_true rfl⟩) hK hw b0 rfl rfl hl.1 rfl (Nat.le_of_ble_eq_true rfl) dBc_digit_1 ⟨Nat.le_of_ble_eq_true rfl, Nat.le_of_ble_eq_true rfl⟩ (fun q ce n1 H1 hn1 hce hcv hcl hw => ?_)
  exact xw_out (fun x h => hout x h _) hlocks hce hcv hcl

set_option maxHeartbeats 4000000 in
set_option maxRecDepth 100000 in
theorem x_Bc_compareA {b : Nat} {I : Nat → Nat} {J : Nat → Nat → Nat} {V G : Nat → Nat} (hS : bcS cI cL cQ w b I J V G) {x : Int32} (hst : l.stackTraces = false) (hx9 : x < 0 ∨ nI 8 ≤ x) : xw_C l yBc_compare (Cond.code yBc_compare cBc_compare 3 (some FieldType.int) :: kWs) ({ frames := 7, cells := 1, slots := 6, locals := 111 } : Room) D kCl (kty cI cL cQ) (kz tO tB tC sa) [.ref b, .int x] (sz) w 1 6 kIA := by
  refine xw_ofW (cc := cBc_compare) (maxL := 3) (ret := (some FieldType.int)) (by decide) rfl (Nat.le_of_ble_eq_true rfl) ?_
  intro p e s m args below meth c hx hb hr hts hown hlocks hml hout hK H ls hw hl
  have hW : ∀ w ∈ kWs, w.before args s = true := fun w h => hts w (List.mem_cons_of_mem _ h)
  have hown : s.vm.findClass RBc = some m.cls := hown
  have hl : lv_has ls 3 [(0, .ref b), (1, .int x)] := hl
  obtain ⟨⟨b0, b1, b2, b3⟩, ⟨c0, c1, c2, c3, c4, c5⟩, ⟨m0, m1, m2, m3, m4, m5⟩, hR, hV, hN, hD⟩ := id hS
  refine lv_aload_n (pc := 0) hx hb dBc_compare_0 rfl (lv_at hl 0 rfl) ?_
  refine lv_iload_n (pc := 1) hx hb dBc_compare_1 rfl (lv_at hl 1 rfl) ?_
  refine xw_cV (pc := 2) (As := [.int x]) (rest := []) ⟨hx, hb, hml, hown, hW⟩ (x_Bc_variable hS hst hx9) (cwV 1 hW (kw_V lm_Bc_74 im_Bc_variable se_Bc_variable ini_Bc cd_Bc_variable) rfl rfl rfl (by decide +kernel) ⟨Nat.le_of_ble_eq_true rfl, Nat.le_of_ble_eq_true rfl⟩) hK hw b0 rfl rfl hl.1 rfl (Nat.le_of_ble_eq_true rfl) dBc_compare_2 ⟨Nat.le_of_ble_eq_true rfl, Nat.le_of_ble_eq_true rfl⟩ (fun q ce n1 H1 hn1 hce hcv hcl hw => ?_)
  exact xw_out (fun x h => hout x h _) hlocks hce hcv hcl

set_option maxHeartbeats 4000000 in
set_option maxRecDepth 100000 in
theorem x_Bc_compareS {b : Nat} {I : Nat → Nat} {J : Nat → Nat → Nat} {V G : Nat → Nat} (hS : bcS cI cL cQ w b I J V G) {j : Nat} (hj : j < 8) (hst : l.stackTraces = false) (h1 : I 1 < 2 ^ 31) (h4 : I 4 < 2 ^ 31) (hno : ¬ (0 < I 1 ∧ I 4 = I 1)) : xw_C l yBc_compare (Cond.code yBc_compare cBc_compare 3 (some FieldType.int) :: kWs) ({ frames := 7, cells := 1, slots := 6, locals := 111 } : Room) D kCl (kty cI cL cQ) (kz tO tB tC sa) [.ref b, .int (nI j)] (sz) w 1 6 kIS := by
  refine xw_ofW (cc := cBc_compare) (maxL := 3) (ret := (some FieldType.int)) (by decide) rfl (Nat.le_of_ble_eq_true rfl) ?_
  intro p e s m args below meth c hx hb hr hts hown hlocks hml hout hK H ls hw hl
  have hW : ∀ w ∈ kWs, w.before args s = true := fun w h => hts w (List.mem_cons_of_mem _ h)
  have hown : s.vm.findClass RBc = some m.cls := hown
  have hl : lv_has ls 3 [(0, .ref b), (1, .int (nI j))] := hl
  obtain ⟨⟨b0, b1, b2, b3⟩, ⟨c0, c1, c2, c3, c4, c5⟩, ⟨m0, m1, m2, m3, m4, m5⟩, hR, hV, hN, hD⟩ := id hS
  refine lv_aload_n (pc := 0) hx hb dBc_compare_0 rfl (lv_at hl 0 rfl) ?_
  refine lv_iload_n (pc := 1) hx hb dBc_compare_1 rfl (lv_at hl 1 rfl) ?_
  refine fw_cVR (pc := 2) (As := [.int (nI j)]) (rest := []) ⟨hx, hb, hml, hown, hW⟩ (c_Bc_variable hS hj) (cwV 1 hW (kw_V lm_Bc_74 im_Bc_variable se_Bc_variable ini_Bc cd_Bc_variable) rfl rfl rfl (by decide +kernel) ⟨Nat.le_of_ble_eq_true rfl, Nat.le_of_ble_eq_true rfl⟩) hK hw b0 rfl rfl hl.1 rfl (Nat.le_of_ble_eq_true rfl) dBc_compare_2 ⟨Nat.le_of_ble_eq_true rfl, Nat.le_of_ble_eq_true rfl⟩ (fun v hq => ?_)
  subst hq
  refine W.eq (g2 := F0 m 5 ls [.ref (b + 43 + 3 * j)]) rfl ?_
  refine lv_astore_n (pc := 5) (lv' := [(2, .ref (b + 43 + 3 * j)), (0, .ref b), (1, .int (nI j))]) hx hb dBc_compare_5 rfl hl (by decide) rfl (fun ls hl => ?_)
  refine lv_aload_n (pc := 6) hx hb dBc_compare_6 rfl (lv_at hl 1 rfl) ?_
  refine xw_cV (pc := 7) (As := []) (rest := []) ⟨hx, hb, hml, hown, hW⟩ (x_Bc_result hS hst h1 h4 hno) (cwV 0 hW (kw_V lm_Bc_84 im_Bc_result se_Bc_result ini_Bc cd_Bc_result) rfl rfl rfl (by decide +kernel) ⟨Nat.le_of_ble_eq_true rfl, Nat.le_of_ble_eq_true rfl⟩) hK hw b0 rfl rfl hl.1 rfl (Nat.le_of_ble_eq_true rfl) dBc_compare_7 ⟨Nat.le_of_ble_eq_true rfl, Nat.le_of_ble_eq_true rfl⟩ (fun q ce n1 H1 hn1 hce hcv hcl hw => ?_)
  exact xw_out (fun x h => hout x h _) hlocks hce hcv hcl

set_option maxHeartbeats 4000000 in
set_option maxRecDepth 100000 in
theorem x_Bc_keepA {b : Nat} {I : Nat → Nat} {J : Nat → Nat → Nat} {V G : Nat → Nat} (hS : bcS cI cL cQ w b I J V G) {x : Int32} (hst : l.stackTraces = false) (hx9 : x < 0 ∨ nI 8 ≤ x) : xw_C l yBc_keep (Cond.code yBc_keep cBc_keep 3 none :: kWs) ({ frames := 7, cells := 1, slots := 6, locals := 111 } : Room) D kCl (kty cI cL cQ) (kz tO tB tC sa) [.ref b, .int x] (sz) w 1 6 kIA := by
  refine xw_ofW (cc := cBc_keep) (maxL := 3) (ret := none) (by decide) rfl (Nat.le_of_ble_eq_true rfl) ?_
  intro p e s m args below meth c hx hb hr hts hown hlocks hml hout hK H ls hw hl
  have hW : ∀ w ∈ kWs, w.before args s = true := fun w h => hts w (List.mem_cons_of_mem _ h)
  have hown : s.vm.findClass RBc = some m.cls := hown
  have hl : lv_has ls 3 [(0, .ref b), (1, .int x)] := hl
  obtain ⟨⟨b0, b1, b2, b3⟩, ⟨c0, c1, c2, c3, c4, c5⟩, ⟨m0, m1, m2, m3, m4, m5⟩, hR, hV, hN, hD⟩ := id hS
  refine lv_aload_n (pc := 0) hx hb dBc_keep_0 rfl (lv_at hl 0 rfl) ?_
  refine lv_iload_n (pc := 1) hx hb dBc_keep_1 rfl (lv_at hl 1 rfl) ?_
  refine xw_cV (pc := 2) (As := [.int x]) (rest := []) ⟨hx, hb, hml, hown, hW⟩ (x_Bc_variable hS hst hx9) (cwV 1 hW (kw_V lm_Bc_74 im_Bc_variable se_Bc_variable ini_Bc cd_Bc_variable) rfl rfl rfl (by decide +kernel) ⟨Nat.le_of_ble_eq_true rfl, Nat.le_of_ble_eq_true rfl⟩) hK hw b0 rfl rfl hl.1 rfl (Nat.le_of_ble_eq_true rfl) dBc_keep_2 ⟨Nat.le_of_ble_eq_true rfl, Nat.le_of_ble_eq_true rfl⟩ (fun q ce n1 H1 hn1 hce hcv hcl hw => ?_)
  exact xw_out (fun x h => hout x h _) hlocks hce hcv hcl

set_option maxHeartbeats 4000000 in
set_option maxRecDepth 100000 in
theorem x_Bc_keepS {b : Nat} {I : Nat → Nat} {J : Nat → Nat → Nat} {V G : Nat → Nat} (hS : bcS cI cL cQ w b I J V G) {j : Nat} (hj : j < 8) (hst : l.stackTraces = false) (h1 : I 1 < 2 ^ 31) (h4 : I 4 < 2 ^ 31) (hno : ¬ (0 < I 1 ∧ I 4 = I 1)) : xw_C l yBc_keep (Cond.code yBc_keep cBc_keep 3 none :: kWs) ({ frames := 7, cells := 1, slots := 6, locals := 111 } : Room) D kCl (kty cI cL cQ) (kz tO tB tC sa) [.ref b, .int (nI j)] (sz) w 1 6 kIS := by
  refine xw_ofW (cc := cBc_keep) (maxL := 3) (ret := none) (by decide) rfl (Nat.le_of_ble_eq_true rfl) ?_
  intro p e s m args below meth c hx hb hr hts hown hlocks hml hout hK H ls hw hl
  have hW : ∀ w ∈ kWs, w.before args s = true := fun w h => hts w (List.mem_cons_of_mem _ h)
  have hown : s.vm.findClass RBc = some m.cls := hown
  have hl : lv_has ls 3 [(0, .ref b), (1, .int (nI j))] := hl
  obtain ⟨⟨b0, b1, b2, b3⟩, ⟨c0, c1, c2, c3, c4, c5⟩, ⟨m0, m1, m2, m3, m4, m5⟩, hR, hV, hN, hD⟩ := id hS
  refine lv_aload_n (pc := 0) hx hb dBc_keep_0 rfl (lv_at hl 0 rfl) ?_
  refine lv_iload_n (pc := 1) hx hb dBc_keep_1 rfl (lv_at hl 1 rfl) ?_
  refine fw_cVR (pc := 2) (As := [.int (nI j)]) (rest := []) ⟨hx, hb, hml, hown, hW⟩ (c_Bc_variable hS hj) (cwV 1 hW (kw_V lm_Bc_74 im_Bc_variable se_Bc_variable ini_Bc cd_Bc_variable) rfl rfl rfl (by decide +kernel) ⟨Nat.le_of_ble_eq_true rfl, Nat.le_of_ble_eq_true rfl⟩) hK hw b0 rfl rfl hl.1 rfl (Nat.le_of_ble_eq_true rfl) dBc_keep_2 ⟨Nat.le_of_ble_eq_true rfl, Nat.le_of_ble_eq_true rfl⟩ (fun v hq => ?_)
  subst hq
  refine W.eq (g2 := F0 m 5 ls [.ref (b + 43 + 3 * j)]) rfl ?_
  refine lv_astore_n (pc := 5) (lv' := [(2, .ref (b + 43 + 3 * j)), (0, .ref b), (1, .int (nI j))]) hx hb dBc_keep_5 rfl hl (by decide) rfl (fun ls hl => ?_)
  refine lv_aload_n (pc := 6) hx hb dBc_keep_6 rfl (lv_at hl 0 rfl) ?_
  refine lv_aload_n (pc := 7) hx hb dBc_keep_7 rfl (lv_at hl 1 rfl) ?_
  refine xw_cV (pc := 8) (As := []) (rest := [.ref (b + 43 + 3 * j)]) ⟨hx, hb, hml, hown, hW⟩ (x_Bc_result hS hst h1 h4 hno) (cwV 0 hW (kw_V lm_Bc_84 im_Bc_result se_Bc_result ini_Bc cd_Bc_result) rfl rfl rfl (by decide +kernel) ⟨Nat.le_of_ble_eq_true rfl, Nat.le_of_ble_eq_true rfl⟩) hK hw b0 rfl rfl hl.1 rfl (Nat.le_of_ble_eq_true rfl) dBc_keep_8 ⟨Nat.le_of_ble_eq_true rfl, Nat.le_of_ble_eq_true rfl⟩ (fun q ce n1 H1 hn1 hce hcv hcl hw => ?_)
  exact xw_out (fun x h => hout x h _) hlocks hce hcv hcl

set_option maxHeartbeats 4000000 in
set_option maxRecDepth 100000 in
theorem x_Bc_limbI {b : Nat} {I : Nat → Nat} {J : Nat → Nat → Nat} {V G : Nat → Nat} (hS : bcS cI cL cQ w b I J V G) {x : Int32} (hst : l.stackTraces = false) (hx9 : x < 0 ∨ nI 24 ≤ x) (h0 : 0 < I 1) (h1 : I 1 < 2 ^ 31) (h4 : I 4 = I 1) : xw_C l yBc_limb (Cond.code yBc_limb cBc_limb 3 (some FieldType.long) :: kWs) ({ frames := 7, cells := 1, slots := 6, locals := 110 } : Room) D kCl (kty cI cL cQ) (kz tO tB tC sa) [.ref b, .int x] (sz) w 1 6 kIO := by
  refine xw_ofW (cc := cBc_limb) (maxL := 3) (ret := (some FieldType.long)) (by decide) rfl (Nat.le_of_ble_eq_true rfl) ?_
  intro p e s m args below meth c hx hb hr hts hown hlocks hml hout hK H ls hw hl
  have hW : ∀ w ∈ kWs, w.before args s = true := fun w h => hts w (List.mem_cons_of_mem _ h)
  have hown : s.vm.findClass RBc = some m.cls := hown
  have hl : lv_has ls 3 [(0, .ref b), (1, .int x)] := hl
  obtain ⟨⟨b0, b1, b2, b3⟩, ⟨c0, c1, c2, c3, c4, c5⟩, ⟨m0, m1, m2, m3, m4, m5⟩, hR, hV, hN, hD⟩ := id hS
  refine lv_aload_n (pc := 0) hx hb dBc_limb_0 rfl (lv_at hl 0 rfl) ?_
  refine fw_cVR (pc := 1) (As := []) (rest := []) ⟨hx, hb, hml, hown, hW⟩ (c_Bc_result hS h0 h1 h4) (cwV 0 hW (kw_V lm_Bc_84 im_Bc_result se_Bc_result ini_Bc cd_Bc_result) rfl rfl rfl (by decide +kernel) ⟨Nat.le_of_ble_eq_true rfl, Nat.le_of_ble_eq_true rfl⟩) hK hw b0 rfl rfl hl.1 rfl (Nat.le_of_ble_eq_true rfl) dBc_limb_1 ⟨Nat.le_of_ble_eq_true rfl, Nat.le_of_ble_eq_true rfl⟩ (fun v hq => ?_)
  subst hq
  refine W.eq (g2 := F0 m 4 ls [.ref (b + 12)]) rfl ?_
  have r0 : w (b + 12) = some (.inr (8, [.ref (b + 13), .int (nI (G 0))])) := (hR 0 (by decide)).1
  refine fw_get (pc := 4) (ci := 8) (v := .ref (b + 13)) (C := RWh) (T := TWh) (N := 2) hx hb hW in_Wh hown hK.1 hw r0 rfl 0 (by decide) (hW _ lf_Bc_104) (fun _ h => h) rfl dBc_limb_4 ?_
  refine lv_astore_n (pc := 7) (lv' := [(2, .ref (b + 13)), (0, .ref b), (1, .int x)]) hx hb dBc_limb_7 rfl hl (by decide) rfl (fun ls hl => ?_)
  refine lv_iload_n (pc := 8) hx hb dBc_limb_8 rfl (lv_at hl 2 rfl) ?_
  refine lv_if_lt (pc := 9) (tgt := 18) hx hb dBc_limb_9 (by decide) (fun ha => ?_) (fun ha => ?_)
  · exact xw_throw (pc := 18) hx hb hst hown hW kfIO klIO kiIO kaIO (kz_T hK.2.1) (kz_S hK.2.1).2.2.1 hout hlocks (by rw [hml]; exact hl.1) dBc_limb_18 dBc_limb_21 dBc_limb_22 dBc_limb_24 dBc_limb_27 (Nat.le_of_ble_eq_true rfl) (Nat.le_of_ble_eq_true rfl) (Nat.le_of_ble_eq_true rfl) (Nat.le_of_ble_eq_true rfl)
  · refine lv_iload_n (pc := 12) hx hb dBc_limb_12 rfl (lv_at hl 2 rfl) ?_
    refine lv_bipush (pc := 13) (v := (nI 24)) hx hb dBc_limb_13 (by decide) ?_
    refine lv_icmp_lt (pc := 15) (tgt := 28) hx hb dBc_limb_15 (by decide) (fun hc => absurd hc (fun h => by rcases hx9 with h9 | h9; exact ha h9; exact absurd h (Int32.not_lt.mpr h9))) (fun _ => ?_)
    exact xw_throw (pc := 18) hx hb hst hown hW kfIO klIO kiIO kaIO (kz_T hK.2.1) (kz_S hK.2.1).2.2.1 hout hlocks (by rw [hml]; exact hl.1) dBc_limb_18 dBc_limb_21 dBc_limb_22 dBc_limb_24 dBc_limb_27 (Nat.le_of_ble_eq_true rfl) (Nat.le_of_ble_eq_true rfl) (Nat.le_of_ble_eq_true rfl) (Nat.le_of_ble_eq_true rfl)

set_option maxHeartbeats 4000000 in
set_option maxRecDepth 100000 in
theorem x_Bc_digitI {b : Nat} {I : Nat → Nat} {J : Nat → Nat → Nat} {V G : Nat → Nat} (hS : bcS cI cL cQ w b I J V G) {x : Int32} (hst : l.stackTraces = false) (hx9 : x < 0) (h0 : 0 < I 1) (h1 : I 1 < 2 ^ 31) (h4 : I 4 = I 1) : xw_C l yBc_digit (Cond.code yBc_digit cBc_digit 3 (some FieldType.int) :: kWs) ({ frames := 7, cells := 1, slots := 6, locals := 110 } : Room) D kCl (kty cI cL cQ) (kz tO tB tC sa) [.ref b, .int x] (sz) w 1 6 kIO := by
  refine xw_ofW (cc := cBc_digit) (maxL := 3) (ret := (some FieldType.int)) (by decide) rfl (Nat.le_of_ble_eq_true rfl) ?_
  intro p e s m args below meth c hx hb hr hts hown hlocks hml hout hK H ls hw hl
  have hW : ∀ w ∈ kWs, w.before args s = true := fun w h => hts w (List.mem_cons_of_mem _ h)
  have hown : s.vm.findClass RBc = some m.cls := hown
  have hl : lv_has ls 3 [(0, .ref b), (1, .int x)] := hl
  obtain ⟨⟨b0, b1, b2, b3⟩, ⟨c0, c1, c2, c3, c4, c5⟩, ⟨m0, m1, m2, m3, m4, m5⟩, hR, hV, hN, hD⟩ := id hS
  refine lv_aload_n (pc := 0) hx hb dBc_digit_0 rfl (lv_at hl 0 rfl) ?_
  refine fw_cVR (pc := 1) (As := []) (rest := []) ⟨hx, hb, hml, hown, hW⟩ (c_Bc_result hS h0 h1 h4) (cwV 0 hW (kw_V lm_Bc_84 im_Bc_result se_Bc_result ini_Bc cd_Bc_result) rfl rfl rfl (by decide +kernel) ⟨Nat.le_of_ble_eq_true rfl, Nat.le_of_ble_eq_true rfl⟩) hK hw b0 rfl rfl hl.1 rfl (Nat.le_of_ble_eq_true rfl) dBc_digit_1 ⟨Nat.le_of_ble_eq_true rfl, Nat.le_of_ble_eq_true rfl⟩ (fun v hq => ?_)
  subst hq
  refine W.eq (g2 := F0 m 4 ls [.ref (b + 12)]) rfl ?_
  have r0 : w (b + 12) = some (.inr (8, [.ref (b + 13), .int (nI (G 0))])) := (hR 0 (by decide)).1
  refine fw_get (pc := 4) (ci := 8) (v := .ref (b + 13)) (C := RWh) (T := TWh) (N := 2) hx hb hW in_Wh hown hK.1 hw r0 rfl 0 (by decide) (hW _ lf_Bc_104) (fun _ h => h) rfl dBc_digit_4 ?_
  refine lv_astore_n (pc := 7) (lv' := [(2, .ref (b + 13)), (0, .ref b), (1, .int x)]) hx hb dBc_digit_7 rfl hl (by decide) rfl (fun ls hl => ?_)
  refine lv_iload_n (pc := 8) hx hb dBc_digit_8 rfl (lv_at hl 2 rfl) ?_
  refine lv_if_ge (pc := 9) (tgt := 22) hx hb dBc_digit_9 (by decide) (fun hc => absurd hc (Int32.not_le.mpr hx9)) (fun _ => ?_)
  exact xw_throw (pc := 12) hx hb hst hown hW kfIO klIO kiIO kaIO (kz_T hK.2.1) (kz_S hK.2.1).2.2.2.1 hout hlocks (by rw [hml]; exact hl.1) dBc_digit_12 dBc_digit_15 dBc_digit_16 dBc_digit_18 dBc_digit_21 (Nat.le_of_ble_eq_true rfl) (Nat.le_of_ble_eq_true rfl) (Nat.le_of_ble_eq_true rfl) (Nat.le_of_ble_eq_true rfl)

set_option maxHeartbeats 4000000 in
set_option maxRecDepth 100000 in
theorem c_Bc_count0 {b : Nat} {I : Nat → Nat} {J : Nat → Nat → Nat} {V G : Nat → Nat} (hS : bcS cI cL cQ w b I J V G) : fw_R l yBc_count (Cond.code yBc_count cBc_count 2 (some FieldType.int) :: kWs) ({ frames := 0, cells := 0, slots := 0, locals := 0 } : Room) D kCl (kty cI cL cQ) (kz tO tB tC sa) [.ref b, .int (nI 0)] (sz) w (fun r => r = some (.int (nI (I 0)))) := by
  refine fw_ofR (cc := cBc_count) (maxL := 2) (ret := (some FieldType.int)) (by decide) rfl (Nat.le_of_ble_eq_true rfl) ?_
  intro p e s m args below meth c hx hb hr hts hown hlocks hml hK H ls hH hw hl
  have hW : ∀ w ∈ kWs, w.before args s = true := fun w h => hts w (List.mem_cons_of_mem _ h)
  have hown : s.vm.findClass RBc = some m.cls := hown
  have hl : lv_has ls 2 [(0, .ref b), (1, .int (nI 0))] := hl
  obtain ⟨⟨b0, b1, b2, b3⟩, ⟨c0, c1, c2, c3, c4, c5⟩, ⟨m0, m1, m2, m3, m4, m5⟩, hR, hV, hN, hD⟩ := id hS
  refine lv_iload_n (pc := 0) hx hb dBc_count_0 rfl (lv_at hl 1 rfl) ?_
  refine lv_tableIn (pc := 1) (tgt := 48) hx hb dBc_count_1 (by decide) (by decide) rfl (by decide) ?_
  refine lv_aload_n (pc := 48) hx hb dBc_count_48 rfl (lv_at hl 0 rfl) ?_
  refine fw_get (pc := 49) (ci := 9) (v := .ref (b + 1)) (C := RBc) (T := TBc) (N := 4) hx hb hW in_Bc hown hK.1 hw b0 rfl 0 (by decide) (hW _ lf_Bc_12) (fun _ h => h) rfl dBc_count_49 ?_
  refine fw_get (pc := 52) (ci := 6) (v := .int (nI (I 0))) (C := RTo) (T := TTo) (N := 3) hx hb hW in_To hown hK.1 hw b1 rfl 2 (by decide) (hW _ lf_Bc_48) (fun _ h => h) rfl dBc_count_52 ?_
  exact fw_iretR (pc := 55) hx hb hr hlocks hH dBc_count_55 rfl

set_option maxHeartbeats 4000000 in
set_option maxRecDepth 100000 in
theorem c_Bc_count1 {b : Nat} {I : Nat → Nat} {J : Nat → Nat → Nat} {V G : Nat → Nat} (hS : bcS cI cL cQ w b I J V G) : fw_R l yBc_count (Cond.code yBc_count cBc_count 2 (some FieldType.int) :: kWs) ({ frames := 0, cells := 0, slots := 0, locals := 0 } : Room) D kCl (kty cI cL cQ) (kz tO tB tC sa) [.ref b, .int (nI 1)] (sz) w (fun r => r = some (.int (nI (I 1)))) := by
  refine fw_ofR (cc := cBc_count) (maxL := 2) (ret := (some FieldType.int)) (by decide) rfl (Nat.le_of_ble_eq_true rfl) ?_
  intro p e s m args below meth c hx hb hr hts hown hlocks hml hK H ls hH hw hl
  have hW : ∀ w ∈ kWs, w.before args s = true := fun w h => hts w (List.mem_cons_of_mem _ h)
  have hown : s.vm.findClass RBc = some m.cls := hown
  have hl : lv_has ls 2 [(0, .ref b), (1, .int (nI 1))] := hl
  obtain ⟨⟨b0, b1, b2, b3⟩, ⟨c0, c1, c2, c3, c4, c5⟩, ⟨m0, m1, m2, m3, m4, m5⟩, hR, hV, hN, hD⟩ := id hS
  refine lv_iload_n (pc := 0) hx hb dBc_count_0 rfl (lv_at hl 1 rfl) ?_
  refine lv_tableIn (pc := 1) (tgt := 56) hx hb dBc_count_1 (by decide) (by decide) rfl (by decide) ?_
  refine lv_aload_n (pc := 56) hx hb dBc_count_56 rfl (lv_at hl 0 rfl) ?_
  refine fw_get (pc := 57) (ci := 9) (v := .ref (b + 4)) (C := RBc) (T := TBc) (N := 4) hx hb hW in_Bc hown hK.1 hw b0 rfl 1 (by decide) (hW _ lf_Bc_19) (fun _ h => h) rfl dBc_count_57 ?_
  refine fw_get (pc := 60) (ci := 7) (v := .ref (b + 5)) (C := RTr) (T := TTr) (N := 5) hx hb hW in_Tr hown hK.1 hw c0 rfl 0 (by decide) (hW _ lf_Bc_60) (fun _ h => h) rfl dBc_count_60 ?_
  refine fw_get (pc := 63) (ci := 1) (v := .int (nI (I 1))) (C := RCo) (T := TCo) (N := 3) hx hb hW in_Co hown hK.1 hw c1 rfl 2 (by decide) (hW _ lf_Bc_70) (fun _ h => h) rfl dBc_count_63 ?_
  exact fw_iretR (pc := 66) hx hb hr hlocks hH dBc_count_66 rfl

set_option maxHeartbeats 4000000 in
set_option maxRecDepth 100000 in
theorem c_Bc_count2 {b : Nat} {I : Nat → Nat} {J : Nat → Nat → Nat} {V G : Nat → Nat} (hS : bcS cI cL cQ w b I J V G) : fw_R l yBc_count (Cond.code yBc_count cBc_count 2 (some FieldType.int) :: kWs) ({ frames := 0, cells := 0, slots := 0, locals := 0 } : Room) D kCl (kty cI cL cQ) (kz tO tB tC sa) [.ref b, .int (nI 2)] (sz) w (fun r => r = some (.int (nI (I 4)))) := by
  refine fw_ofR (cc := cBc_count) (maxL := 2) (ret := (some FieldType.int)) (by decide) rfl (Nat.le_of_ble_eq_true rfl) ?_
  intro p e s m args below meth c hx hb hr hts hown hlocks hml hK H ls hH hw hl
  have hW : ∀ w ∈ kWs, w.before args s = true := fun w h => hts w (List.mem_cons_of_mem _ h)
  have hown : s.vm.findClass RBc = some m.cls := hown
  have hl : lv_has ls 2 [(0, .ref b), (1, .int (nI 2))] := hl
  obtain ⟨⟨b0, b1, b2, b3⟩, ⟨c0, c1, c2, c3, c4, c5⟩, ⟨m0, m1, m2, m3, m4, m5⟩, hR, hV, hN, hD⟩ := id hS
  refine lv_iload_n (pc := 0) hx hb dBc_count_0 rfl (lv_at hl 1 rfl) ?_
  refine lv_tableIn (pc := 1) (tgt := 67) hx hb dBc_count_1 (by decide) (by decide) rfl (by decide) ?_
  refine lv_aload_n (pc := 67) hx hb dBc_count_67 rfl (lv_at hl 0 rfl) ?_
  refine fw_get (pc := 68) (ci := 9) (v := .ref (b + 10)) (C := RBc) (T := TBc) (N := 4) hx hb hW in_Bc hown hK.1 hw b0 rfl 2 (by decide) (hW _ lf_Bc_26) (fun _ h => h) rfl dBc_count_68 ?_
  refine fw_get (pc := 71) (ci := 4) (v := .int (nI (I 4))) (C := RMa) (T := TMa) (N := 7) hx hb hW in_Ma hown hK.1 hw m0 rfl 2 (by decide) (hW _ lf_Bc_129) (fun _ h => h) rfl dBc_count_71 ?_
  exact fw_iretR (pc := 74) hx hb hr hlocks hH dBc_count_74 rfl

set_option maxHeartbeats 4000000 in
set_option maxRecDepth 100000 in
theorem c_Bc_count3 {b : Nat} {I : Nat → Nat} {J : Nat → Nat → Nat} {V G : Nat → Nat} (hS : bcS cI cL cQ w b I J V G) : fw_R l yBc_count (Cond.code yBc_count cBc_count 2 (some FieldType.int) :: kWs) ({ frames := 0, cells := 0, slots := 0, locals := 0 } : Room) D kCl (kty cI cL cQ) (kz tO tB tC sa) [.ref b, .int (nI 3)] (sz) w (fun r => r = some (.int (nI (I 5)))) := by
  refine fw_ofR (cc := cBc_count) (maxL := 2) (ret := (some FieldType.int)) (by decide) rfl (Nat.le_of_ble_eq_true rfl) ?_
  intro p e s m args below meth c hx hb hr hts hown hlocks hml hK H ls hH hw hl
  have hW : ∀ w ∈ kWs, w.before args s = true := fun w h => hts w (List.mem_cons_of_mem _ h)
  have hown : s.vm.findClass RBc = some m.cls := hown
  have hl : lv_has ls 2 [(0, .ref b), (1, .int (nI 3))] := hl
  obtain ⟨⟨b0, b1, b2, b3⟩, ⟨c0, c1, c2, c3, c4, c5⟩, ⟨m0, m1, m2, m3, m4, m5⟩, hR, hV, hN, hD⟩ := id hS
  refine lv_iload_n (pc := 0) hx hb dBc_count_0 rfl (lv_at hl 1 rfl) ?_
  refine lv_tableIn (pc := 1) (tgt := 75) hx hb dBc_count_1 (by decide) (by decide) rfl (by decide) ?_
  refine lv_aload_n (pc := 75) hx hb dBc_count_75 rfl (lv_at hl 0 rfl) ?_
  refine fw_get (pc := 76) (ci := 9) (v := .ref (b + 10)) (C := RBc) (T := TBc) (N := 4) hx hb hW in_Bc hown hK.1 hw b0 rfl 2 (by decide) (hW _ lf_Bc_26) (fun _ h => h) rfl dBc_count_76 ?_
  refine fw_get (pc := 79) (ci := 4) (v := .int (nI (I 5))) (C := RMa) (T := TMa) (N := 7) hx hb hW in_Ma hown hK.1 hw m0 rfl 3 (by decide) (hW _ lf_Bc_132) (fun _ h => h) rfl dBc_count_79 ?_
  exact fw_iretR (pc := 82) hx hb hr hlocks hH dBc_count_82 rfl

set_option maxHeartbeats 4000000 in
set_option maxRecDepth 100000 in
theorem c_Bc_count4 {b : Nat} {I : Nat → Nat} {J : Nat → Nat → Nat} {V G : Nat → Nat} (hS : bcS cI cL cQ w b I J V G) : fw_R l yBc_count (Cond.code yBc_count cBc_count 2 (some FieldType.int) :: kWs) ({ frames := 0, cells := 0, slots := 0, locals := 0 } : Room) D kCl (kty cI cL cQ) (kz tO tB tC sa) [.ref b, .int (nI 4)] (sz) w (fun r => r = some (.int (nI (I 6)))) := by
  refine fw_ofR (cc := cBc_count) (maxL := 2) (ret := (some FieldType.int)) (by decide) rfl (Nat.le_of_ble_eq_true rfl) ?_
  intro p e s m args below meth c hx hb hr hts hown hlocks hml hK H ls hH hw hl
  have hW : ∀ w ∈ kWs, w.before args s = true := fun w h => hts w (List.mem_cons_of_mem _ h)
  have hown : s.vm.findClass RBc = some m.cls := hown
  have hl : lv_has ls 2 [(0, .ref b), (1, .int (nI 4))] := hl
  obtain ⟨⟨b0, b1, b2, b3⟩, ⟨c0, c1, c2, c3, c4, c5⟩, ⟨m0, m1, m2, m3, m4, m5⟩, hR, hV, hN, hD⟩ := id hS
  refine lv_iload_n (pc := 0) hx hb dBc_count_0 rfl (lv_at hl 1 rfl) ?_
  refine lv_tableIn (pc := 1) (tgt := 83) hx hb dBc_count_1 (by decide) (by decide) rfl (by decide) ?_
  refine lv_aload_n (pc := 83) hx hb dBc_count_83 rfl (lv_at hl 0 rfl) ?_
  refine fw_get (pc := 84) (ci := 9) (v := .ref (b + 10)) (C := RBc) (T := TBc) (N := 4) hx hb hW in_Bc hown hK.1 hw b0 rfl 2 (by decide) (hW _ lf_Bc_26) (fun _ h => h) rfl dBc_count_84 ?_
  refine fw_get (pc := 87) (ci := 4) (v := .int (nI (I 6))) (C := RMa) (T := TMa) (N := 7) hx hb hW in_Ma hown hK.1 hw m0 rfl 4 (by decide) (hW _ lf_Bc_135) (fun _ h => h) rfl dBc_count_87 ?_
  exact fw_iretR (pc := 90) hx hb hr hlocks hH dBc_count_90 rfl

set_option maxHeartbeats 4000000 in
set_option maxRecDepth 100000 in
theorem c_Bc_count5 {b : Nat} {I : Nat → Nat} {J : Nat → Nat → Nat} {V G : Nat → Nat} (hS : bcS cI cL cQ w b I J V G) (h1 : I 1 < 2 ^ 31) (h4 : I 4 < 2 ^ 31) : fw_R l yBc_count (Cond.code yBc_count cBc_count 2 (some FieldType.int) :: kWs) ({ frames := 1, cells := 0, slots := 0, locals := 20 } : Room) D kCl (kty cI cL cQ) (kz tO tB tC sa) [.ref b, .int (nI 5)] (sz) w (fun r => r = some (.int (nI (if 0 < I 1 ∧ I 4 = I 1 then 1 else 0)))) := by
  refine fw_ofR (cc := cBc_count) (maxL := 2) (ret := (some FieldType.int)) (by decide) rfl (Nat.le_of_ble_eq_true rfl) ?_
  intro p e s m args below meth c hx hb hr hts hown hlocks hml hK H ls hH hw hl
  have hW : ∀ w ∈ kWs, w.before args s = true := fun w h => hts w (List.mem_cons_of_mem _ h)
  have hown : s.vm.findClass RBc = some m.cls := hown
  have hl : lv_has ls 2 [(0, .ref b), (1, .int (nI 5))] := hl
  obtain ⟨⟨b0, b1, b2, b3⟩, ⟨c0, c1, c2, c3, c4, c5⟩, ⟨m0, m1, m2, m3, m4, m5⟩, hR, hV, hN, hD⟩ := id hS
  refine lv_iload_n (pc := 0) hx hb dBc_count_0 rfl (lv_at hl 1 rfl) ?_
  refine lv_tableIn (pc := 1) (tgt := 91) hx hb dBc_count_1 (by decide) (by decide) rfl (by decide) ?_
  refine lv_aload_n (pc := 91) hx hb dBc_count_91 rfl (lv_at hl 0 rfl) ?_
  refine fw_cVR (pc := 92) (As := []) (rest := []) ⟨hx, hb, hml, hown, hW⟩ (c_Bc_hasResult hS h1 h4) (cwV 0 hW (kw_V lm_Bc_138 im_Bc_hasResult se_Bc_hasResult ini_Bc cd_Bc_hasResult) rfl rfl rfl (by decide +kernel) ⟨Nat.le_of_ble_eq_true rfl, Nat.le_of_ble_eq_true rfl⟩) hK hw b0 rfl rfl hl.1 rfl (Nat.le_of_ble_eq_true rfl) dBc_count_92 ⟨Nat.le_of_ble_eq_true rfl, Nat.le_of_ble_eq_true rfl⟩ (fun v hq => ?_)
  subst hq
  refine W.eq (g2 := F0 m 95 ls [.int (nI (if 0 < I 1 ∧ I 4 = I 1 then 1 else 0))]) rfl ?_
  by_cases hc0 : 0 < I 1 ∧ I 4 = I 1
  · rw [if_pos hc0]
    refine lv_if_eq (pc := 95) (tgt := 102) hx hb dBc_count_95 (by decide) (fun hc => absurd hc (show ¬ nI 1 = 0 by decide)) (fun _ => ?_)
    refine lv_iconst (pc := 98) (v := (nI 1)) hx hb dBc_count_98 (by decide) ?_
    refine lv_goto (pc := 99) (tgt := 103) hx hb dBc_count_99 (by decide) ?_
    exact fw_iretR (pc := 103) hx hb hr hlocks hH dBc_count_103 rfl
  · rw [if_neg hc0]
    refine lv_if_eq (pc := 95) (tgt := 102) hx hb dBc_count_95 (by decide) (fun _ => ?_) (fun hc => absurd (show nI 0 = 0 by decide) hc)
    refine lv_iconst (pc := 102) (v := (nI 0)) hx hb dBc_count_102 (by decide) ?_
    exact fw_iretR (pc := 103) hx hb hr hlocks hH dBc_count_103 rfl

set_option maxHeartbeats 4000000 in
set_option maxRecDepth 100000 in
theorem c_Bc_count6n {b : Nat} {I : Nat → Nat} {J : Nat → Nat → Nat} {V G : Nat → Nat} (hS : bcS cI cL cQ w b I J V G) (h1 : I 1 < 2 ^ 31) (h4 : I 4 < 2 ^ 31) (hno : ¬ (0 < I 1 ∧ I 4 = I 1)) : fw_R l yBc_count (Cond.code yBc_count cBc_count 2 (some FieldType.int) :: kWs) ({ frames := 1, cells := 0, slots := 0, locals := 20 } : Room) D kCl (kty cI cL cQ) (kz tO tB tC sa) [.ref b, .int (nI 6)] (sz) w (fun r => r = some (.int (-1))) := by
  refine fw_ofR (cc := cBc_count) (maxL := 2) (ret := (some FieldType.int)) (by decide) rfl (Nat.le_of_ble_eq_true rfl) ?_
  intro p e s m args below meth c hx hb hr hts hown hlocks hml hK H ls hH hw hl
  have hW : ∀ w ∈ kWs, w.before args s = true := fun w h => hts w (List.mem_cons_of_mem _ h)
  have hown : s.vm.findClass RBc = some m.cls := hown
  have hl : lv_has ls 2 [(0, .ref b), (1, .int (nI 6))] := hl
  obtain ⟨⟨b0, b1, b2, b3⟩, ⟨c0, c1, c2, c3, c4, c5⟩, ⟨m0, m1, m2, m3, m4, m5⟩, hR, hV, hN, hD⟩ := id hS
  refine lv_iload_n (pc := 0) hx hb dBc_count_0 rfl (lv_at hl 1 rfl) ?_
  refine lv_tableIn (pc := 1) (tgt := 104) hx hb dBc_count_1 (by decide) (by decide) rfl (by decide) ?_
  refine lv_aload_n (pc := 104) hx hb dBc_count_104 rfl (lv_at hl 0 rfl) ?_
  refine fw_cVR (pc := 105) (As := []) (rest := []) ⟨hx, hb, hml, hown, hW⟩ (c_Bc_hasResult hS h1 h4) (cwV 0 hW (kw_V lm_Bc_138 im_Bc_hasResult se_Bc_hasResult ini_Bc cd_Bc_hasResult) rfl rfl rfl (by decide +kernel) ⟨Nat.le_of_ble_eq_true rfl, Nat.le_of_ble_eq_true rfl⟩) hK hw b0 rfl rfl hl.1 rfl (Nat.le_of_ble_eq_true rfl) dBc_count_105 ⟨Nat.le_of_ble_eq_true rfl, Nat.le_of_ble_eq_true rfl⟩ (fun v hq => ?_)
  subst hq
  rw [if_neg hno]
  refine W.eq (g2 := F0 m 108 ls [.int (nI 0)]) rfl ?_
  refine lv_if_eq (pc := 108) (tgt := 129) hx hb dBc_count_108 (by decide) (fun _ => ?_) (fun hc => absurd (show nI 0 = 0 by decide) hc)
  refine lv_iconst (pc := 129) (v := (-1)) hx hb dBc_count_129 (by decide) ?_
  exact fw_iretR (pc := 130) hx hb hr hlocks hH dBc_count_130 rfl

set_option maxHeartbeats 4000000 in
set_option maxRecDepth 100000 in
theorem c_Bc_count7n {b : Nat} {I : Nat → Nat} {J : Nat → Nat → Nat} {V G : Nat → Nat} (hS : bcS cI cL cQ w b I J V G) (h1 : I 1 < 2 ^ 31) (h4 : I 4 < 2 ^ 31) (hno : ¬ (0 < I 1 ∧ I 4 = I 1)) : fw_R l yBc_count (Cond.code yBc_count cBc_count 2 (some FieldType.int) :: kWs) ({ frames := 1, cells := 0, slots := 0, locals := 20 } : Room) D kCl (kty cI cL cQ) (kz tO tB tC sa) [.ref b, .int (nI 7)] (sz) w (fun r => r = some (.int (-1))) := by
  refine fw_ofR (cc := cBc_count) (maxL := 2) (ret := (some FieldType.int)) (by decide) rfl (Nat.le_of_ble_eq_true rfl) ?_
  intro p e s m args below meth c hx hb hr hts hown hlocks hml hK H ls hH hw hl
  have hW : ∀ w ∈ kWs, w.before args s = true := fun w h => hts w (List.mem_cons_of_mem _ h)
  have hown : s.vm.findClass RBc = some m.cls := hown
  have hl : lv_has ls 2 [(0, .ref b), (1, .int (nI 7))] := hl
  obtain ⟨⟨b0, b1, b2, b3⟩, ⟨c0, c1, c2, c3, c4, c5⟩, ⟨m0, m1, m2, m3, m4, m5⟩, hR, hV, hN, hD⟩ := id hS
  refine lv_iload_n (pc := 0) hx hb dBc_count_0 rfl (lv_at hl 1 rfl) ?_
  refine lv_tableIn (pc := 1) (tgt := 131) hx hb dBc_count_1 (by decide) (by decide) rfl (by decide) ?_
  refine lv_aload_n (pc := 131) hx hb dBc_count_131 rfl (lv_at hl 0 rfl) ?_
  refine fw_cVR (pc := 132) (As := []) (rest := []) ⟨hx, hb, hml, hown, hW⟩ (c_Bc_hasResult hS h1 h4) (cwV 0 hW (kw_V lm_Bc_138 im_Bc_hasResult se_Bc_hasResult ini_Bc cd_Bc_hasResult) rfl rfl rfl (by decide +kernel) ⟨Nat.le_of_ble_eq_true rfl, Nat.le_of_ble_eq_true rfl⟩) hK hw b0 rfl rfl hl.1 rfl (Nat.le_of_ble_eq_true rfl) dBc_count_132 ⟨Nat.le_of_ble_eq_true rfl, Nat.le_of_ble_eq_true rfl⟩ (fun v hq => ?_)
  subst hq
  rw [if_neg hno]
  refine W.eq (g2 := F0 m 135 ls [.int (nI 0)]) rfl ?_
  refine lv_if_eq (pc := 135) (tgt := 160) hx hb dBc_count_135 (by decide) (fun _ => ?_) (fun hc => absurd (show nI 0 = 0 by decide) hc)
  refine lv_iconst (pc := 160) (v := (-1)) hx hb dBc_count_160 (by decide) ?_
  exact fw_iretR (pc := 161) hx hb hr hlocks hH dBc_count_161 rfl

set_option maxHeartbeats 4000000 in
set_option maxRecDepth 100000 in
theorem c_Bc_countO {b : Nat} {I : Nat → Nat} {J : Nat → Nat → Nat} {V G : Nat → Nat} (hS : bcS cI cL cQ w b I J V G) {x : Int32} (hx9 : x < 0 ∨ nI 7 < x) : fw_R l yBc_count (Cond.code yBc_count cBc_count 2 (some FieldType.int) :: kWs) ({ frames := 1, cells := 0, slots := 0, locals := 20 } : Room) D kCl (kty cI cL cQ) (kz tO tB tC sa) [.ref b, .int x] (sz) w (fun r => r = some (.int (-1))) := by
  refine fw_ofR (cc := cBc_count) (maxL := 2) (ret := (some FieldType.int)) (by decide) rfl (Nat.le_of_ble_eq_true rfl) ?_
  intro p e s m args below meth c hx hb hr hts hown hlocks hml hK H ls hH hw hl
  have hW : ∀ w ∈ kWs, w.before args s = true := fun w h => hts w (List.mem_cons_of_mem _ h)
  have hown : s.vm.findClass RBc = some m.cls := hown
  have hl : lv_has ls 2 [(0, .ref b), (1, .int x)] := hl
  obtain ⟨⟨b0, b1, b2, b3⟩, ⟨c0, c1, c2, c3, c4, c5⟩, ⟨m0, m1, m2, m3, m4, m5⟩, hR, hV, hN, hD⟩ := id hS
  refine lv_iload_n (pc := 0) hx hb dBc_count_0 rfl (lv_at hl 1 rfl) ?_
  refine lv_tableOut (pc := 1) (tgt := 162) hx hb dBc_count_1 (by rcases hx9 with h9 | h9; exact Or.inl (Int32.lt_iff_toInt_lt.mp h9); exact Or.inr (Int32.lt_iff_toInt_lt.mp h9)) (by decide) ?_
  refine lv_iconst (pc := 162) (v := (-1)) hx hb dBc_count_162 (by decide) ?_
  exact fw_iretR (pc := 163) hx hb hr hlocks hH dBc_count_163 rfl

set_option maxHeartbeats 4000000 in
set_option maxRecDepth 100000 in
theorem c_Tr_translate0 {n t x2 x3 x4 x6 x7 : Nat} {i1 i2 i3 : Int32} (h : w n = some (.inr (7, [.ref (n + 1), .ref x2, .ref x3, .int i1, .int i2]))) (h1 : w (n + 1) = some (.inr (1, [.ref x4, .ref x6, .int i3]))) (h2 : w t = some (.inr (6, [.ref x7, .ref (t + 2), .int (nI 0)]))) : fw_C l yTr_translate (Cond.code yTr_translate cTr_translate 3 (some FieldType.int) :: kWs) ({ frames := 0, cells := 0, slots := 0, locals := 0 } : Room) D kCl (kty cI cL cQ) (kz tO tB tC sa) [.ref n, .ref t] (sz) w 0 0 (fun v w' => v = some (.int (nI 1)) ∧ w' n = some (.inr (7, [.ref (n + 1), .ref x2, .ref x3, .int (nI 0), .int (nI 0)])) ∧ w' (n + 1) = some (.inr (1, [.ref x4, .ref x6, .int (nI 0)])) ∧ ∀ q, q ≠ n → q ≠ n + 1 → w' q = w q) := by
  refine fw_ofW (cc := cTr_translate) (maxL := 3) (ret := (some FieldType.int)) (by decide) rfl (Nat.le_of_ble_eq_true rfl) ?_
  intro p e s m args below meth c hx hb hr hts hown hlocks hname hml hK H ls hw hl
  have hW : ∀ w ∈ kWs, w.before args s = true := fun w h => hts w (List.mem_cons_of_mem _ h)
  have hown : s.vm.findClass RTr = some m.cls := hown
  have hl : lv_has ls 3 [(0, .ref n), (1, .ref t)] := hl
  refine lv_aload_n (pc := 0) hx hb dTr_translate_0 rfl (lv_at hl 0 rfl) ?_
  refine fw_get (pc := 1) (ci := 7) (v := .ref (n + 1)) (C := RTr) (T := TTr) (N := 5) hx hb hW in_Tr hown hK.1 hw h rfl 0 (by decide) (hW _ lf_Tr_12) (fun _ h => h) rfl dTr_translate_1 ?_
  refine lv_iconst (pc := 4) (v := (nI 0)) hx hb dTr_translate_4 (by decide) ?_
  refine fw_put (pc := 5) (ci := 1) (v := .int (nI 0)) (ty := .int) (C := RCo) (T := TCo) (N := 3) hx hb hW in_Co tyCo tyCo_ok nmCo hown hK.1 hw h1 rfl 2 (by decide) (hW _ lf_Tr_32) (fun _ h => h) rfl (by decide +kernel) rfl rfl (Nat.le_of_ble_eq_true rfl) dTr_translate_5 (fun H locs hw => ?_)
  obtain ⟨w1, e1⟩ : ∃ w_, w_ = fw_up w (n + 1) (.inr (1, [.ref x4, .ref x6, .int (nI 0)])) := ⟨_, rfl⟩
  have hw : fw_H D kCl (fw_A w (sz)) s.heap w1 (sz) H locs := by rw [e1]; exact hw
  have h_ : w1 (n) = some (.inr (7, [.ref (n + 1), .ref x2, .ref x3, .int i1, .int i2])) := by rw [e1, fw_un (by omega)]; exact h
  have h2_ : w1 (t) = some (.inr (6, [.ref x7, .ref (t + 2), .int (nI 0)])) := by rw [e1, fw_un (fw_neC h2 h1 (by decide))]; exact h2
  have h1_ : w1 (n + 1) = some (.inr (1, [.ref x4, .ref x6, .int (nI 0)])) := by rw [e1]; exact fw_us _ _ _
  have h := h_
  have h1 := h1_
  have h2 := h2_
  refine lv_aload_n (pc := 8) hx hb dTr_translate_8 rfl (lv_at hl 0 rfl) ?_
  refine lv_iconst (pc := 9) (v := (nI 0)) hx hb dTr_translate_9 (by decide) ?_
  refine fw_put (pc := 10) (ci := 7) (v := .int (nI 0)) (ty := .int) (C := RTr) (T := TTr) (N := 5) hx hb hW in_Tr tyTr tyTr_ok nmTr hown hK.1 hw h rfl 3 (by decide) (hW _ lf_Tr_25) (fun _ h => h) rfl (by decide +kernel) rfl rfl (Nat.le_of_ble_eq_true rfl) dTr_translate_10 (fun H locs hw => ?_)
  obtain ⟨w2, e2⟩ : ∃ w_, w_ = fw_up w1 (n) (.inr (7, [.ref (n + 1), .ref x2, .ref x3, .int (nI 0), .int i2])) := ⟨_, rfl⟩
  have hw : fw_H D kCl (fw_A w (sz)) s.heap w2 (sz) H locs := by rw [e2]; exact hw
  have h1_ : w2 (n + 1) = some (.inr (1, [.ref x4, .ref x6, .int (nI 0)])) := by rw [e2, fw_un (by omega)]; exact h1
  have h2_ : w2 (t) = some (.inr (6, [.ref x7, .ref (t + 2), .int (nI 0)])) := by rw [e2, fw_un (fw_neC h2 h (by decide))]; exact h2
  have h_ : w2 (n) = some (.inr (7, [.ref (n + 1), .ref x2, .ref x3, .int (nI 0), .int i2])) := by rw [e2]; exact fw_us _ _ _
  have h := h_
  have h1 := h1_
  have h2 := h2_
  refine lv_aload_n (pc := 13) hx hb dTr_translate_13 rfl (lv_at hl 0 rfl) ?_
  refine lv_iconst (pc := 14) (v := (nI 0)) hx hb dTr_translate_14 (by decide) ?_
  refine fw_put (pc := 15) (ci := 7) (v := .int (nI 0)) (ty := .int) (C := RTr) (T := TTr) (N := 5) hx hb hW in_Tr tyTr tyTr_ok nmTr hown hK.1 hw h rfl 4 (by decide) (hW _ lf_Tr_29) (fun _ h => h) rfl (by decide +kernel) rfl rfl (Nat.le_of_ble_eq_true rfl) dTr_translate_15 (fun H locs hw => ?_)
  obtain ⟨w3, e3⟩ : ∃ w_, w_ = fw_up w2 (n) (.inr (7, [.ref (n + 1), .ref x2, .ref x3, .int (nI 0), .int (nI 0)])) := ⟨_, rfl⟩
  have hw : fw_H D kCl (fw_A w (sz)) s.heap w3 (sz) H locs := by rw [e3]; exact hw
  have h1_ : w3 (n + 1) = some (.inr (1, [.ref x4, .ref x6, .int (nI 0)])) := by rw [e3, fw_un (by omega)]; exact h1
  have h2_ : w3 (t) = some (.inr (6, [.ref x7, .ref (t + 2), .int (nI 0)])) := by rw [e3, fw_un (fw_neC h2 h (by decide))]; exact h2
  have h_ : w3 (n) = some (.inr (7, [.ref (n + 1), .ref x2, .ref x3, .int (nI 0), .int (nI 0)])) := by rw [e3]; exact fw_us _ _ _
  have h := h_
  have h1 := h1_
  have h2 := h2_
  refine lv_iconst (pc := 18) (v := (nI 0)) hx hb dTr_translate_18 (by decide) ?_
  refine lv_istore_n (pc := 19) (lv' := [(2, .int (nI 0)), (0, .ref n), (1, .ref t)]) hx hb dTr_translate_19 rfl hl (by decide) rfl (fun ls hl => ?_)
  refine lv_iload_n (pc := 20) hx hb dTr_translate_20 rfl (lv_at hl 0 rfl) ?_
  refine lv_aload_n (pc := 21) hx hb dTr_translate_21 rfl (lv_at hl 2 rfl) ?_
  refine fw_get (pc := 22) (ci := 6) (v := .int (nI 0)) (C := RTo) (T := TTo) (N := 3) hx hb hW in_To hown hK.1 hw h2 rfl 2 (by decide) (hW _ lf_Tr_35) (fun _ h => h) rfl dTr_translate_22 ?_
  refine lv_icmp_ge (pc := 25) (tgt := 57) hx hb dTr_translate_25 (by decide) (fun _ => ?_) (fun hc => absurd (show nI 0 ≤ nI 0 by decide) hc)
  refine lv_aload_n (pc := 57) hx hb dTr_translate_57 rfl (lv_at hl 1 rfl) ?_
  refine fw_get (pc := 58) (ci := 7) (v := .int (nI 0)) (C := RTr) (T := TTr) (N := 5) hx hb hW in_Tr hown hK.1 hw h rfl 4 (by decide) (hW _ lf_Tr_29) (fun _ h => h) rfl dTr_translate_58 ?_
  refine lv_iconst (pc := 61) (v := (nI 1)) hx hb dTr_translate_61 (by decide) ?_
  refine lv_icmp_eq (pc := 62) (tgt := 72) hx hb dTr_translate_62 (by decide) (fun hc => absurd hc (show ¬ nI 0 = nI 1 by decide)) (fun _ => ?_)
  refine lv_aload_n (pc := 65) hx hb dTr_translate_65 rfl (lv_at hl 2 rfl) ?_
  refine fw_get (pc := 66) (ci := 6) (v := .int (nI 0)) (C := RTo) (T := TTo) (N := 3) hx hb hW in_To hown hK.1 hw h2 rfl 2 (by decide) (hW _ lf_Tr_35) (fun _ h => h) rfl dTr_translate_66 ?_
  refine lv_iconst (pc := 69) (v := (nI 1)) hx hb dTr_translate_69 (by decide) ?_
  refine lv_iadd (pc := 70) hx hb dTr_translate_70 ?_
  exact fw_iret (pc := 71) hx hb hr hlocks hw dTr_translate_71 ⟨rfl, h, h1, fun q q1 q2 => by rw [e3, fw_un q1, e2, fw_un q1, e1, fw_un q2]⟩
end BC2
