/-! Constructors. Written by wip/gen/consts.py. -/
theorem df_Ar : ∀ j, j < 5 → defaultValue (tyAr j) = vp_V [.null, .null, .null, .null, .null] j := by
  intro j hj
  rcases (show j = 0 ∨ j = 1 ∨ j = 2 ∨ j = 3 ∨ j = 4 by omega) with rfl | rfl | rfl | rfl | rfl <;> rfl
theorem df_Co : ∀ j, j < 3 → defaultValue (tyCo j) = vp_V [.null, .null, .int (nI 0)] j := by
  intro j hj
  rcases (show j = 0 ∨ j = 1 ∨ j = 2 by omega) with rfl | rfl | rfl <;> rfl
theorem df_De : ∀ j, j < 1 → defaultValue (tyDe j) = vp_V [.null] j := by
  intro j hj
  rcases (show j = 0 by omega) with rfl <;> rfl
theorem df_Di : ∀ j, j < 3 → defaultValue (tyDi j) = vp_V [.null, .null, .null] j := by
  intro j hj
  rcases (show j = 0 ∨ j = 1 ∨ j = 2 by omega) with rfl | rfl | rfl <;> rfl
theorem df_Ma : ∀ j, j < 7 → defaultValue (tyMa j) = vp_V [.null, .null, .int (nI 0), .int (nI 0), .int (nI 0), .int (nI 0), .null] j := by
  intro j hj
  rcases (show j = 0 ∨ j = 1 ∨ j = 2 ∨ j = 3 ∨ j = 4 ∨ j = 5 ∨ j = 6 by omega) with rfl | rfl | rfl | rfl | rfl | rfl | rfl <;> rfl
theorem df_Na : ∀ j, j < 2 → defaultValue (tyNa j) = vp_V [.null, .int (nI 0)] j := by
  intro j hj
  rcases (show j = 0 ∨ j = 1 by omega) with rfl | rfl <;> rfl
theorem df_To : ∀ j, j < 3 → defaultValue (tyTo j) = vp_V [.null, .null, .int (nI 0)] j := by
  intro j hj
  rcases (show j = 0 ∨ j = 1 ∨ j = 2 by omega) with rfl | rfl | rfl <;> rfl
theorem df_Tr : ∀ j, j < 5 → defaultValue (tyTr j) = vp_V [.null, .null, .null, .int (nI 0), .int (nI 0)] j := by
  intro j hj
  rcases (show j = 0 ∨ j = 1 ∨ j = 2 ∨ j = 3 ∨ j = 4 by omega) with rfl | rfl | rfl | rfl | rfl <;> rfl
theorem df_Wh : ∀ j, j < 2 → defaultValue (tyWh j) = vp_V [.null, .int (nI 0)] j := by
  intro j hj
  rcases (show j = 0 ∨ j = 1 by omega) with rfl | rfl <;> rfl
theorem df_Bc : ∀ j, j < 4 → defaultValue (tyBc j) = vp_V [.null, .null, .null, .null] j := by
  intro j hj
  rcases (show j = 0 ∨ j = 1 ∨ j = 2 ∨ j = 3 by omega) with rfl | rfl | rfl | rfl <;> rfl
theorem df_Mo : ∀ j, j < 20 → defaultValue (tyMo j) = vp_V [.int (nI 0), .null, .null, .int (nI 0), .null, .null, .int (nI 0), .int (nI 0), .null, .null, .int (nI 0), .int (nI 0), .int (nI 0), .int (nI 0), .null, .null, .int (nI 0), .int (nI 0), .int (nI 0), .int (nI 0)] j := by
  intro j hj
  rcases (show j = 0 ∨ j = 1 ∨ j = 2 ∨ j = 3 ∨ j = 4 ∨ j = 5 ∨ j = 6 ∨ j = 7 ∨ j = 8 ∨ j = 9 ∨ j = 10 ∨ j = 11 ∨ j = 12 ∨ j = 13 ∨ j = 14 ∨ j = 15 ∨ j = 16 ∨ j = 17 ∨ j = 18 ∨ j = 19 by omega) with rfl | rfl | rfl | rfl | rfl | rfl | rfl | rfl | rfl | rfl | rfl | rfl | rfl | rfl | rfl | rfl | rfl | rfl | rfl | rfl <;> rfl
section CON
variable {l : Launch} {D : va_G} {cI cL cQ : ClassId} {z : kZ_T} {w : fw_W}
set_option maxHeartbeats 4000000 in
set_option maxRecDepth 100000 in
theorem c_To_init {n : Nat} (h : w n = some (.inr (6, [.null, .null, .int (nI 0)]))) : fw_C l yTo_init (Cond.code yTo_init cTo_init 1 none :: kWs) ({ frames := 1, cells := 2, slots := 240, locals := 12 } : Room) D kCl (kty cI cL cQ) z [.ref n] (n + 1) w 2 240 (fun v w' => v = none ∧ w' n = some (.inr (6, [.ref (n + 1), .ref (n + 2), .int (nI 0)])) ∧ w' (n + 1) = some (.inl (cI, 120, .inl (fun _ => nI 0))) ∧ w' (n + 2) = some (.inl (cI, 120, .inl (fun _ => nI 0))) ∧ ∀ q, q < n ∨ n + 3 ≤ q → w' q = w q) := by
  refine fw_ofW (cc := cTo_init) (maxL := 1) (ret := none) (by decide) rfl (Nat.le_of_ble_eq_true rfl) ?_
  intro p e s m args below meth c hx hb hr hts hown hlocks hname hml hK H ls hw hl
  have hW : ∀ w ∈ kWs, w.before args s = true := fun w h => hts w (List.mem_cons_of_mem _ h)
  have hown : s.vm.findClass RTo = some m.cls := hown
  have hl : lv_has ls 1 [(0, .ref n)] := hl
  refine lv_aload_n (pc := 0) hx hb dTo_init_0 rfl (lv_at hl 0 rfl) ?_
  refine W.objInit hx hb hown (hW _ lm_To_3) (hW _ im_obj) (hW _ cd_obj) rfl (by rw [hml]; exact hl.1) rfl dTo_init_1 (Nat.le_of_ble_eq_true rfl) (Nat.le_of_ble_eq_true rfl) ?_
  refine W.eq (g2 := F0 m 4 ls []) rfl ?_
  refine lv_aload_n (pc := 4) hx hb dTo_init_4 rfl (lv_at hl 0 rfl) ?_
  refine lv_bipush (pc := 5) (v := (nI 120)) hx hb dTo_init_5 (by decide) ?_
  refine fw_newa (pc := 7) (atype := .int) (a0 := (120, .inl (fun _ => nI 0))) hx hb (hW _ ac_int) rfl hK.1 hw 0 rfl (hK.1.2 0 _ rfl).2 rfl (by decide) rfl (by decide) (Nat.le_of_ble_eq_true rfl) (Nat.le_of_ble_eq_true rfl) dTo_init_7 (fun H hw => ?_)
  obtain ⟨w1, e1⟩ : ∃ w_, w_ = fw_up w (n + 1) (.inl (cI, 120, .inl (fun _ => nI 0))) := ⟨_, rfl⟩
  have hw : fw_H D kCl (fw_A w (n + 1)) s.heap w1 (n + 2) H [] := by rw [e1]; exact hw
  have h_ : w1 (n) = some (.inr (6, [.null, .null, .int (nI 0)])) := by rw [e1, fw_un (by omega)]; exact h
  have f1_ : w1 (n + 1) = some (.inl (cI, 120, .inl (fun _ => nI 0))) := by rw [e1]; exact fw_us _ _ _
  have h := h_
  have f1 := f1_
  refine fw_putF (pc := 9) (ci := 6) (v := .ref (n + 1)) (ty := (.array .int)) (C := RTo) (T := TTo) (N := 3) hx hb hW in_To tyTo tyTo_ok nmTo hown hK.1 hw h rfl 0 (by decide) (hW _ lf_To_9) (fun _ h => h) rfl hname rfl (by decide +kernel) rfl rfl (Nat.le_of_ble_eq_true rfl) dTo_init_9 (fun H locs hw => ?_)
  obtain ⟨w2, e2⟩ : ∃ w_, w_ = fw_up w1 (n) (.inr (6, [.ref (n + 1), .null, .int (nI 0)])) := ⟨_, rfl⟩
  have hw : fw_H D kCl (fw_A w (n + 1)) s.heap w2 (n + 2) H locs := by rw [e2]; exact hw
  have f1_ : w2 (n + 1) = some (.inl (cI, 120, .inl (fun _ => nI 0))) := by rw [e2, fw_un (by omega)]; exact f1
  have h_ : w2 (n) = some (.inr (6, [.ref (n + 1), .null, .int (nI 0)])) := by rw [e2]; exact fw_us _ _ _
  have h := h_
  have f1 := f1_
  refine lv_aload_n (pc := 12) hx hb dTo_init_12 rfl (lv_at hl 0 rfl) ?_
  refine lv_bipush (pc := 13) (v := (nI 120)) hx hb dTo_init_13 (by decide) ?_
  refine fw_newa (pc := 15) (atype := .int) (a0 := (120, .inl (fun _ => nI 0))) hx hb (hW _ ac_int) rfl hK.1 hw 0 rfl (hK.1.2 0 _ rfl).2 rfl (by decide) rfl (by decide) (Nat.le_of_ble_eq_true rfl) (Nat.le_of_ble_eq_true rfl) dTo_init_15 (fun H hw => ?_)
  obtain ⟨w3, e3⟩ : ∃ w_, w_ = fw_up w2 (n + 2) (.inl (cI, 120, .inl (fun _ => nI 0))) := ⟨_, rfl⟩
  have hw : fw_H D kCl (fw_A w (n + 1)) s.heap w3 (n + 3) H locs := by rw [e3]; exact hw
  have h_ : w3 (n) = some (.inr (6, [.ref (n + 1), .null, .int (nI 0)])) := by rw [e3, fw_un (by omega)]; exact h
  have f1_ : w3 (n + 1) = some (.inl (cI, 120, .inl (fun _ => nI 0))) := by rw [e3, fw_un (by omega)]; exact f1
  have f3_ : w3 (n + 2) = some (.inl (cI, 120, .inl (fun _ => nI 0))) := by rw [e3]; exact fw_us _ _ _
  have h := h_
  have f1 := f1_
  have f3 := f3_
  refine fw_putF (pc := 17) (ci := 6) (v := .ref (n + 2)) (ty := (.array .int)) (C := RTo) (T := TTo) (N := 3) hx hb hW in_To tyTo tyTo_ok nmTo hown hK.1 hw h rfl 1 (by decide) (hW _ lf_To_15) (fun _ h => h) rfl hname rfl (by decide +kernel) rfl rfl (Nat.le_of_ble_eq_true rfl) dTo_init_17 (fun H locs hw => ?_)
  obtain ⟨w4, e4⟩ : ∃ w_, w_ = fw_up w3 (n) (.inr (6, [.ref (n + 1), .ref (n + 2), .int (nI 0)])) := ⟨_, rfl⟩
  have hw : fw_H D kCl (fw_A w (n + 1)) s.heap w4 (n + 3) H locs := by rw [e4]; exact hw
  have f1_ : w4 (n + 1) = some (.inl (cI, 120, .inl (fun _ => nI 0))) := by rw [e4, fw_un (by omega)]; exact f1
  have f3_ : w4 (n + 2) = some (.inl (cI, 120, .inl (fun _ => nI 0))) := by rw [e4, fw_un (by omega)]; exact f3
  have h_ : w4 (n) = some (.inr (6, [.ref (n + 1), .ref (n + 2), .int (nI 0)])) := by rw [e4]; exact fw_us _ _ _
  have h := h_
  have f1 := f1_
  have f3 := f3_
  refine lv_aload_n (pc := 20) hx hb dTo_init_20 rfl (lv_at hl 0 rfl) ?_
  refine lv_iconst (pc := 21) (v := (nI 0)) hx hb dTo_init_21 (by decide) ?_
  refine fw_put (pc := 22) (ci := 6) (v := .int (nI 0)) (ty := .int) (C := RTo) (T := TTo) (N := 3) hx hb hW in_To tyTo tyTo_ok nmTo hown hK.1 hw h rfl 2 (by decide) (hW _ lf_To_18) (fun _ h => h) rfl (by decide +kernel) rfl rfl (Nat.le_of_ble_eq_true rfl) dTo_init_22 (fun H locs hw => ?_)
  obtain ⟨w5, e5⟩ : ∃ w_, w_ = fw_up w4 (n) (.inr (6, [.ref (n + 1), .ref (n + 2), .int (nI 0)])) := ⟨_, rfl⟩
  have hw : fw_H D kCl (fw_A w (n + 1)) s.heap w5 (n + 3) H locs := by rw [e5]; exact hw
  have f1_ : w5 (n + 1) = some (.inl (cI, 120, .inl (fun _ => nI 0))) := by rw [e5, fw_un (by omega)]; exact f1
  have f3_ : w5 (n + 2) = some (.inl (cI, 120, .inl (fun _ => nI 0))) := by rw [e5, fw_un (by omega)]; exact f3
  have h_ : w5 (n) = some (.inr (6, [.ref (n + 1), .ref (n + 2), .int (nI 0)])) := by rw [e5]; exact fw_us _ _ _
  have h := h_
  have f1 := f1_
  have f3 := f3_
  exact fw_vret (pc := 25) hx hb hr hlocks hw dTo_init_25 ⟨rfl, h, f1, f3, fun q hq => by rw [e5, fw_un (by omega), e4, fw_un (by omega), e3, fw_un (by omega), e2, fw_un (by omega), e1, fw_un (by omega)]⟩

set_option maxHeartbeats 4000000 in
set_option maxRecDepth 100000 in
theorem c_Co_init {n : Nat} (h : w n = some (.inr (1, [.null, .null, .int (nI 0)]))) : fw_C l yCo_init (Cond.code yCo_init cCo_init 1 none :: kWs) ({ frames := 1, cells := 2, slots := 240, locals := 12 } : Room) D kCl (kty cI cL cQ) z [.ref n] (n + 1) w 2 240 (fun v w' => v = none ∧ w' n = some (.inr (1, [.ref (n + 1), .ref (n + 2), .int (nI 0)])) ∧ w' (n + 1) = some (.inl (cI, 120, .inl (fun _ => nI 0))) ∧ w' (n + 2) = some (.inl (cI, 120, .inl (fun _ => nI 0))) ∧ ∀ q, q < n ∨ n + 3 ≤ q → w' q = w q) := by
  refine fw_ofW (cc := cCo_init) (maxL := 1) (ret := none) (by decide) rfl (Nat.le_of_ble_eq_true rfl) ?_
  intro p e s m args below meth c hx hb hr hts hown hlocks hname hml hK H ls hw hl
  have hW : ∀ w ∈ kWs, w.before args s = true := fun w h => hts w (List.mem_cons_of_mem _ h)
  have hown : s.vm.findClass RCo = some m.cls := hown
  have hl : lv_has ls 1 [(0, .ref n)] := hl
  refine lv_aload_n (pc := 0) hx hb dCo_init_0 rfl (lv_at hl 0 rfl) ?_
  refine W.objInit hx hb hown (hW _ lm_Co_3) (hW _ im_obj) (hW _ cd_obj) rfl (by rw [hml]; exact hl.1) rfl dCo_init_1 (Nat.le_of_ble_eq_true rfl) (Nat.le_of_ble_eq_true rfl) ?_
  refine W.eq (g2 := F0 m 4 ls []) rfl ?_
  refine lv_aload_n (pc := 4) hx hb dCo_init_4 rfl (lv_at hl 0 rfl) ?_
  refine lv_bipush (pc := 5) (v := (nI 120)) hx hb dCo_init_5 (by decide) ?_
  refine fw_newa (pc := 7) (atype := .int) (a0 := (120, .inl (fun _ => nI 0))) hx hb (hW _ ac_int) rfl hK.1 hw 0 rfl (hK.1.2 0 _ rfl).2 rfl (by decide) rfl (by decide) (Nat.le_of_ble_eq_true rfl) (Nat.le_of_ble_eq_true rfl) dCo_init_7 (fun H hw => ?_)
  obtain ⟨w1, e1⟩ : ∃ w_, w_ = fw_up w (n + 1) (.inl (cI, 120, .inl (fun _ => nI 0))) := ⟨_, rfl⟩
  have hw : fw_H D kCl (fw_A w (n + 1)) s.heap w1 (n + 2) H [] := by rw [e1]; exact hw
  have h_ : w1 (n) = some (.inr (1, [.null, .null, .int (nI 0)])) := by rw [e1, fw_un (by omega)]; exact h
  have f1_ : w1 (n + 1) = some (.inl (cI, 120, .inl (fun _ => nI 0))) := by rw [e1]; exact fw_us _ _ _
  have h := h_
  have f1 := f1_
  refine fw_putF (pc := 9) (ci := 1) (v := .ref (n + 1)) (ty := (.array .int)) (C := RCo) (T := TCo) (N := 3) hx hb hW in_Co tyCo tyCo_ok nmCo hown hK.1 hw h rfl 0 (by decide) (hW _ lf_Co_9) (fun _ h => h) rfl hname rfl (by decide +kernel) rfl rfl (Nat.le_of_ble_eq_true rfl) dCo_init_9 (fun H locs hw => ?_)
  obtain ⟨w2, e2⟩ : ∃ w_, w_ = fw_up w1 (n) (.inr (1, [.ref (n + 1), .null, .int (nI 0)])) := ⟨_, rfl⟩
  have hw : fw_H D kCl (fw_A w (n + 1)) s.heap w2 (n + 2) H locs := by rw [e2]; exact hw
  have f1_ : w2 (n + 1) = some (.inl (cI, 120, .inl (fun _ => nI 0))) := by rw [e2, fw_un (by omega)]; exact f1
  have h_ : w2 (n) = some (.inr (1, [.ref (n + 1), .null, .int (nI 0)])) := by rw [e2]; exact fw_us _ _ _
  have h := h_
  have f1 := f1_
  refine lv_aload_n (pc := 12) hx hb dCo_init_12 rfl (lv_at hl 0 rfl) ?_
  refine lv_bipush (pc := 13) (v := (nI 120)) hx hb dCo_init_13 (by decide) ?_
  refine fw_newa (pc := 15) (atype := .int) (a0 := (120, .inl (fun _ => nI 0))) hx hb (hW _ ac_int) rfl hK.1 hw 0 rfl (hK.1.2 0 _ rfl).2 rfl (by decide) rfl (by decide) (Nat.le_of_ble_eq_true rfl) (Nat.le_of_ble_eq_true rfl) dCo_init_15 (fun H hw => ?_)
  obtain ⟨w3, e3⟩ : ∃ w_, w_ = fw_up w2 (n + 2) (.inl (cI, 120, .inl (fun _ => nI 0))) := ⟨_, rfl⟩
  have hw : fw_H D kCl (fw_A w (n + 1)) s.heap w3 (n + 3) H locs := by rw [e3]; exact hw
  have h_ : w3 (n) = some (.inr (1, [.ref (n + 1), .null, .int (nI 0)])) := by rw [e3, fw_un (by omega)]; exact h
  have f1_ : w3 (n + 1) = some (.inl (cI, 120, .inl (fun _ => nI 0))) := by rw [e3, fw_un (by omega)]; exact f1
  have f3_ : w3 (n + 2) = some (.inl (cI, 120, .inl (fun _ => nI 0))) := by rw [e3]; exact fw_us _ _ _
  have h := h_
  have f1 := f1_
  have f3 := f3_
  refine fw_putF (pc := 17) (ci := 1) (v := .ref (n + 2)) (ty := (.array .int)) (C := RCo) (T := TCo) (N := 3) hx hb hW in_Co tyCo tyCo_ok nmCo hown hK.1 hw h rfl 1 (by decide) (hW _ lf_Co_15) (fun _ h => h) rfl hname rfl (by decide +kernel) rfl rfl (Nat.le_of_ble_eq_true rfl) dCo_init_17 (fun H locs hw => ?_)
  obtain ⟨w4, e4⟩ : ∃ w_, w_ = fw_up w3 (n) (.inr (1, [.ref (n + 1), .ref (n + 2), .int (nI 0)])) := ⟨_, rfl⟩
  have hw : fw_H D kCl (fw_A w (n + 1)) s.heap w4 (n + 3) H locs := by rw [e4]; exact hw
  have f1_ : w4 (n + 1) = some (.inl (cI, 120, .inl (fun _ => nI 0))) := by rw [e4, fw_un (by omega)]; exact f1
  have f3_ : w4 (n + 2) = some (.inl (cI, 120, .inl (fun _ => nI 0))) := by rw [e4, fw_un (by omega)]; exact f3
  have h_ : w4 (n) = some (.inr (1, [.ref (n + 1), .ref (n + 2), .int (nI 0)])) := by rw [e4]; exact fw_us _ _ _
  have h := h_
  have f1 := f1_
  have f3 := f3_
  refine lv_aload_n (pc := 20) hx hb dCo_init_20 rfl (lv_at hl 0 rfl) ?_
  refine lv_iconst (pc := 21) (v := (nI 0)) hx hb dCo_init_21 (by decide) ?_
  refine fw_put (pc := 22) (ci := 1) (v := .int (nI 0)) (ty := .int) (C := RCo) (T := TCo) (N := 3) hx hb hW in_Co tyCo tyCo_ok nmCo hown hK.1 hw h rfl 2 (by decide) (hW _ lf_Co_18) (fun _ h => h) rfl (by decide +kernel) rfl rfl (Nat.le_of_ble_eq_true rfl) dCo_init_22 (fun H locs hw => ?_)
  obtain ⟨w5, e5⟩ : ∃ w_, w_ = fw_up w4 (n) (.inr (1, [.ref (n + 1), .ref (n + 2), .int (nI 0)])) := ⟨_, rfl⟩
  have hw : fw_H D kCl (fw_A w (n + 1)) s.heap w5 (n + 3) H locs := by rw [e5]; exact hw
  have f1_ : w5 (n + 1) = some (.inl (cI, 120, .inl (fun _ => nI 0))) := by rw [e5, fw_un (by omega)]; exact f1
  have f3_ : w5 (n + 2) = some (.inl (cI, 120, .inl (fun _ => nI 0))) := by rw [e5, fw_un (by omega)]; exact f3
  have h_ : w5 (n) = some (.inr (1, [.ref (n + 1), .ref (n + 2), .int (nI 0)])) := by rw [e5]; exact fw_us _ _ _
  have h := h_
  have f1 := f1_
  have f3 := f3_
  exact fw_vret (pc := 25) hx hb hr hlocks hw dCo_init_25 ⟨rfl, h, f1, f3, fun q hq => by rw [e5, fw_un (by omega), e4, fw_un (by omega), e3, fw_un (by omega), e2, fw_un (by omega), e1, fw_un (by omega)]⟩

set_option maxHeartbeats 4000000 in
set_option maxRecDepth 100000 in
theorem c_Wh_init {n : Nat} (h : w n = some (.inr (8, [.null, .int (nI 0)]))) : fw_C l yWh_init (Cond.code yWh_init cWh_init 1 none :: kWs) ({ frames := 2, cells := 2, slots := 52, locals := 32 } : Room) D kCl (kty cI cL cQ) z [.ref n] (n + 1) w 2 52 (fun v w' => v = none ∧ w' n = some (.inr (8, [.ref (n + 1), .int (nI 0)])) ∧ isN cL w' (n + 1) (fun _ => 0) 0 ∧ ∀ q, q < n ∨ n + 3 ≤ q → w' q = w q) := by
  refine fw_ofW (cc := cWh_init) (maxL := 1) (ret := none) (by decide) rfl (Nat.le_of_ble_eq_true rfl) ?_
  intro p e s m args below meth c hx hb hr hts hown hlocks hname hml hK H ls hw hl
  have hW : ∀ w ∈ kWs, w.before args s = true := fun w h => hts w (List.mem_cons_of_mem _ h)
  have hown : s.vm.findClass RWh = some m.cls := hown
  have hl : lv_has ls 1 [(0, .ref n)] := hl
  refine lv_aload_n (pc := 0) hx hb dWh_init_0 rfl (lv_at hl 0 rfl) ?_
  refine W.objInit hx hb hown (hW _ lm_Wh_1) (hW _ im_obj) (hW _ cd_obj) rfl (by rw [hml]; exact hl.1) rfl dWh_init_1 (Nat.le_of_ble_eq_true rfl) (Nat.le_of_ble_eq_true rfl) ?_
  refine W.eq (g2 := F0 m 4 ls []) rfl ?_
  refine lv_aload_n (pc := 4) hx hb dWh_init_4 rfl (lv_at hl 0 rfl) ?_
  refine fw_new (pc := 5) (ci := 5) (fs := [.null, .int (nI 0)]) (C := RNa) (T := TNa) (N := 2) hx hb hW in_Na tyNa tyNa_ok hown (hW _ lc_Wh_7) (hW _ ins_Na) (hW _ ini_Na) hK.1 hw rfl df_Na (Nat.le_of_ble_eq_true rfl) (Nat.le_of_ble_eq_true rfl) dWh_init_5 (fun H hw => ?_)
  obtain ⟨w1, e1⟩ : ∃ w_, w_ = fw_up w (n + 1) (.inr (5, [.null, .int (nI 0)])) := ⟨_, rfl⟩
  have hw : fw_H D kCl (fw_A w (n + 1)) s.heap w1 (n + 2) H [] := by rw [e1]; exact hw
  have h_ : w1 (n) = some (.inr (8, [.null, .int (nI 0)])) := by rw [e1, fw_un (by omega)]; exact h
  have f1_ : w1 (n + 1) = some (.inr (5, [.null, .int (nI 0)])) := by rw [e1]; exact fw_us _ _ _
  have h := h_
  have f1 := f1_
  refine lv_dup (pc := 8) hx hb dWh_init_8 rfl ?_
  refine fw_cI (pc := 9) (As := []) (rest := [.ref (n + 1), .ref n]) ⟨hx, hb, hml, hown, hW⟩ (c_Na_init f1) (cwI 0 hW (kw_I cd_Na_init) rfl rfl rfl (hW _ ini_Na) (hW _ lm_Wh_9) (hW _ im_Na_init) rfl (by decide +kernel) ⟨Nat.le_of_ble_eq_true rfl, Nat.le_of_ble_eq_true rfl⟩) hK hw rfl hl.1 rfl (Nat.le_of_ble_eq_true rfl) dWh_init_9 ⟨Nat.le_of_ble_eq_true rfl, Nat.le_of_ble_eq_true rfl⟩ (fun v w2 H locs hq hw => ?_)
  have hw : fw_H D kCl (fw_A w (n + 1)) s.heap w2 (n + 3) H locs := hw
  obtain ⟨rfl, hn2, ho2⟩ := hq
  have h_ : w2 (n) = some (.inr (8, [.null, .int (nI 0)])) := (ho2 _ (by omega) (by omega)).trans h
  have h := h_
  have na2 : w2 (n + 1) = some (.inr (5, [.ref (n + 2), .int (nI 0)])) := hn2.1
  have nl2 : w2 (n + 2) = some (.inl (cL, 50, .inr (.inl (fun i => lN ((fun _ => 0) i))))) := hn2.2
  refine fw_putF (pc := 12) (ci := 8) (v := .ref (n + 1)) (ty := (.object "BigCalculator$Natural")) (C := RWh) (T := TWh) (N := 2) hx hb hW in_Wh tyWh tyWh_ok nmWh hown hK.1 hw h rfl 0 (by decide) (hW _ lf_Wh_10) (fun _ h => h) rfl hname rfl (by decide +kernel) rfl rfl (Nat.le_of_ble_eq_true rfl) dWh_init_12 (fun H locs hw => ?_)
  obtain ⟨w3, e3⟩ : ∃ w_, w_ = fw_up w2 (n) (.inr (8, [.ref (n + 1), .int (nI 0)])) := ⟨_, rfl⟩
  have hw : fw_H D kCl (fw_A w (n + 1)) s.heap w3 (n + 3) H locs := by rw [e3]; exact hw
  have na2_ : w3 (n + 1) = some (.inr (5, [.ref (n + 2), .int (nI 0)])) := by rw [e3, fw_un (by omega)]; exact na2
  have nl2_ : w3 (n + 2) = some (.inl (cL, 50, .inr (.inl (fun i => lN ((fun _ => 0) i))))) := by rw [e3, fw_un (by omega)]; exact nl2
  have h_ : w3 (n) = some (.inr (8, [.ref (n + 1), .int (nI 0)])) := by rw [e3]; exact fw_us _ _ _
  have h := h_
  have na2 := na2_
  have nl2 := nl2_
  refine lv_aload_n (pc := 15) hx hb dWh_init_15 rfl (lv_at hl 0 rfl) ?_
  refine lv_iconst (pc := 16) (v := (nI 0)) hx hb dWh_init_16 (by decide) ?_
  refine fw_put (pc := 17) (ci := 8) (v := .int (nI 0)) (ty := .boolean) (C := RWh) (T := TWh) (N := 2) hx hb hW in_Wh tyWh tyWh_ok nmWh hown hK.1 hw h rfl 1 (by decide) (hW _ lf_Wh_16) (fun _ h => h) rfl (by decide +kernel) rfl rfl (Nat.le_of_ble_eq_true rfl) dWh_init_17 (fun H locs hw => ?_)
  obtain ⟨w4, e4⟩ : ∃ w_, w_ = fw_up w3 (n) (.inr (8, [.ref (n + 1), .int (nI 0)])) := ⟨_, rfl⟩
  have hw : fw_H D kCl (fw_A w (n + 1)) s.heap w4 (n + 3) H locs := by rw [e4]; exact hw
  have na2_ : w4 (n + 1) = some (.inr (5, [.ref (n + 2), .int (nI 0)])) := by rw [e4, fw_un (by omega)]; exact na2
  have nl2_ : w4 (n + 2) = some (.inl (cL, 50, .inr (.inl (fun i => lN ((fun _ => 0) i))))) := by rw [e4, fw_un (by omega)]; exact nl2
  have h_ : w4 (n) = some (.inr (8, [.ref (n + 1), .int (nI 0)])) := by rw [e4]; exact fw_us _ _ _
  have h := h_
  have na2 := na2_
  have nl2 := nl2_
  exact fw_vret (pc := 20) hx hb hr hlocks hw dWh_init_20 ⟨rfl, h, ⟨na2, nl2⟩, fun q hq => by rw [e4, fw_un (by omega), e3, fw_un (by omega), ho2 q (by omega) (by omega), e1, fw_un (by omega)]⟩

set_option maxHeartbeats 4000000 in
set_option maxRecDepth 100000 in
theorem c_De_init {n : Nat} (h : w n = some (.inr (2, [.null]))) : fw_C l yDe_init (Cond.code yDe_init cDe_init 1 none :: kWs) ({ frames := 2, cells := 2, slots := 52, locals := 32 } : Room) D kCl (kty cI cL cQ) z [.ref n] (n + 1) w 2 52 (fun v w' => v = none ∧ w' n = some (.inr (2, [.ref (n + 1)])) ∧ isN cL w' (n + 1) (fun _ => 0) 0 ∧ ∀ q, q < n ∨ n + 3 ≤ q → w' q = w q) := by
  refine fw_ofW (cc := cDe_init) (maxL := 1) (ret := none) (by decide) rfl (Nat.le_of_ble_eq_true rfl) ?_
  intro p e s m args below meth c hx hb hr hts hown hlocks hname hml hK H ls hw hl
  have hW : ∀ w ∈ kWs, w.before args s = true := fun w h => hts w (List.mem_cons_of_mem _ h)
  have hown : s.vm.findClass RDe = some m.cls := hown
  have hl : lv_has ls 1 [(0, .ref n)] := hl
  refine lv_aload_n (pc := 0) hx hb dDe_init_0 rfl (lv_at hl 0 rfl) ?_
  refine W.objInit hx hb hown (hW _ lm_De_3) (hW _ im_obj) (hW _ cd_obj) rfl (by rw [hml]; exact hl.1) rfl dDe_init_1 (Nat.le_of_ble_eq_true rfl) (Nat.le_of_ble_eq_true rfl) ?_
  refine W.eq (g2 := F0 m 4 ls []) rfl ?_
  refine lv_aload_n (pc := 4) hx hb dDe_init_4 rfl (lv_at hl 0 rfl) ?_
  refine fw_new (pc := 5) (ci := 5) (fs := [.null, .int (nI 0)]) (C := RNa) (T := TNa) (N := 2) hx hb hW in_Na tyNa tyNa_ok hown (hW _ lc_De_9) (hW _ ins_Na) (hW _ ini_Na) hK.1 hw rfl df_Na (Nat.le_of_ble_eq_true rfl) (Nat.le_of_ble_eq_true rfl) dDe_init_5 (fun H hw => ?_)
  obtain ⟨w1, e1⟩ : ∃ w_, w_ = fw_up w (n + 1) (.inr (5, [.null, .int (nI 0)])) := ⟨_, rfl⟩
  have hw : fw_H D kCl (fw_A w (n + 1)) s.heap w1 (n + 2) H [] := by rw [e1]; exact hw
  have h_ : w1 (n) = some (.inr (2, [.null])) := by rw [e1, fw_un (by omega)]; exact h
  have f1_ : w1 (n + 1) = some (.inr (5, [.null, .int (nI 0)])) := by rw [e1]; exact fw_us _ _ _
  have h := h_
  have f1 := f1_
  refine lv_dup (pc := 8) hx hb dDe_init_8 rfl ?_
  refine fw_cI (pc := 9) (As := []) (rest := [.ref (n + 1), .ref n]) ⟨hx, hb, hml, hown, hW⟩ (c_Na_init f1) (cwI 0 hW (kw_I cd_Na_init) rfl rfl rfl (hW _ ini_Na) (hW _ lm_De_11) (hW _ im_Na_init) rfl (by decide +kernel) ⟨Nat.le_of_ble_eq_true rfl, Nat.le_of_ble_eq_true rfl⟩) hK hw rfl hl.1 rfl (Nat.le_of_ble_eq_true rfl) dDe_init_9 ⟨Nat.le_of_ble_eq_true rfl, Nat.le_of_ble_eq_true rfl⟩ (fun v w2 H locs hq hw => ?_)
  have hw : fw_H D kCl (fw_A w (n + 1)) s.heap w2 (n + 3) H locs := hw
  obtain ⟨rfl, hn2, ho2⟩ := hq
  have h_ : w2 (n) = some (.inr (2, [.null])) := (ho2 _ (by omega) (by omega)).trans h
  have h := h_
  have na2 : w2 (n + 1) = some (.inr (5, [.ref (n + 2), .int (nI 0)])) := hn2.1
  have nl2 : w2 (n + 2) = some (.inl (cL, 50, .inr (.inl (fun i => lN ((fun _ => 0) i))))) := hn2.2
  refine fw_putF (pc := 12) (ci := 2) (v := .ref (n + 1)) (ty := (.object "BigCalculator$Natural")) (C := RDe) (T := TDe) (N := 1) hx hb hW in_De tyDe tyDe_ok nmDe hown hK.1 hw h rfl 0 (by decide) (hW _ lf_De_12) (fun _ h => h) rfl hname rfl (by decide +kernel) rfl rfl (Nat.le_of_ble_eq_true rfl) dDe_init_12 (fun H locs hw => ?_)
  obtain ⟨w3, e3⟩ : ∃ w_, w_ = fw_up w2 (n) (.inr (2, [.ref (n + 1)])) := ⟨_, rfl⟩
  have hw : fw_H D kCl (fw_A w (n + 1)) s.heap w3 (n + 3) H locs := by rw [e3]; exact hw
  have na2_ : w3 (n + 1) = some (.inr (5, [.ref (n + 2), .int (nI 0)])) := by rw [e3, fw_un (by omega)]; exact na2
  have nl2_ : w3 (n + 2) = some (.inl (cL, 50, .inr (.inl (fun i => lN ((fun _ => 0) i))))) := by rw [e3, fw_un (by omega)]; exact nl2
  have h_ : w3 (n) = some (.inr (2, [.ref (n + 1)])) := by rw [e3]; exact fw_us _ _ _
  have h := h_
  have na2 := na2_
  have nl2 := nl2_
  exact fw_vret (pc := 15) hx hb hr hlocks hw dDe_init_15 ⟨rfl, h, ⟨na2, nl2⟩, fun q hq => by rw [e3, fw_un (by omega), ho2 q (by omega) (by omega), e1, fw_un (by omega)]⟩

set_option maxHeartbeats 4000000 in
set_option maxRecDepth 100000 in
theorem c_Di_init {n : Nat} (h : w n = some (.inr (3, [.null, .null, .null]))) : fw_C l yDi_init (Cond.code yDi_init cDi_init 1 none :: kWs) ({ frames := 2, cells := 6, slots := 156, locals := 32 } : Room) D kCl (kty cI cL cQ) z [.ref n] (n + 1) w 6 156 (fun v w' => v = none ∧ w' n = some (.inr (3, [.ref (n + 1), .ref (n + 3), .ref (n + 5)])) ∧ isN cL w' (n + 1) (fun _ => 0) 0 ∧ isN cL w' (n + 3) (fun _ => 0) 0 ∧ isN cL w' (n + 5) (fun _ => 0) 0 ∧ ∀ q, q < n ∨ n + 7 ≤ q → w' q = w q) := by
  refine fw_ofW (cc := cDi_init) (maxL := 1) (ret := none) (by decide) rfl (Nat.le_of_ble_eq_true rfl) ?_
  intro p e s m args below meth c hx hb hr hts hown hlocks hname hml hK H ls hw hl
  have hW : ∀ w ∈ kWs, w.before args s = true := fun w h => hts w (List.mem_cons_of_mem _ h)
  have hown : s.vm.findClass RDi = some m.cls := hown
  have hl : lv_has ls 1 [(0, .ref n)] := hl
  refine lv_aload_n (pc := 0) hx hb dDi_init_0 rfl (lv_at hl 0 rfl) ?_
  refine W.objInit hx hb hown (hW _ lm_Di_3) (hW _ im_obj) (hW _ cd_obj) rfl (by rw [hml]; exact hl.1) rfl dDi_init_1 (Nat.le_of_ble_eq_true rfl) (Nat.le_of_ble_eq_true rfl) ?_
  refine W.eq (g2 := F0 m 4 ls []) rfl ?_
  refine lv_aload_n (pc := 4) hx hb dDi_init_4 rfl (lv_at hl 0 rfl) ?_
  refine fw_new (pc := 5) (ci := 5) (fs := [.null, .int (nI 0)]) (C := RNa) (T := TNa) (N := 2) hx hb hW in_Na tyNa tyNa_ok hown (hW _ lc_Di_9) (hW _ ins_Na) (hW _ ini_Na) hK.1 hw rfl df_Na (Nat.le_of_ble_eq_true rfl) (Nat.le_of_ble_eq_true rfl) dDi_init_5 (fun H hw => ?_)
  obtain ⟨w1, e1⟩ : ∃ w_, w_ = fw_up w (n + 1) (.inr (5, [.null, .int (nI 0)])) := ⟨_, rfl⟩
  have hw : fw_H D kCl (fw_A w (n + 1)) s.heap w1 (n + 2) H [] := by rw [e1]; exact hw
  have h_ : w1 (n) = some (.inr (3, [.null, .null, .null])) := by rw [e1, fw_un (by omega)]; exact h
  have f1_ : w1 (n + 1) = some (.inr (5, [.null, .int (nI 0)])) := by rw [e1]; exact fw_us _ _ _
  have h := h_
  have f1 := f1_
  refine lv_dup (pc := 8) hx hb dDi_init_8 rfl ?_
  refine fw_cI (pc := 9) (As := []) (rest := [.ref (n + 1), .ref n]) ⟨hx, hb, hml, hown, hW⟩ (c_Na_init f1) (cwI 0 hW (kw_I cd_Na_init) rfl rfl rfl (hW _ ini_Na) (hW _ lm_Di_11) (hW _ im_Na_init) rfl (by decide +kernel) ⟨Nat.le_of_ble_eq_true rfl, Nat.le_of_ble_eq_true rfl⟩) hK hw rfl hl.1 rfl (Nat.le_of_ble_eq_true rfl) dDi_init_9 ⟨Nat.le_of_ble_eq_true rfl, Nat.le_of_ble_eq_true rfl⟩ (fun v w2 H locs hq hw => ?_)
  have hw : fw_H D kCl (fw_A w (n + 1)) s.heap w2 (n + 3) H locs := hw
  obtain ⟨rfl, hn2, ho2⟩ := hq
  have h_ : w2 (n) = some (.inr (3, [.null, .null, .null])) := (ho2 _ (by omega) (by omega)).trans h
  have h := h_
  have na2 : w2 (n + 1) = some (.inr (5, [.ref (n + 2), .int (nI 0)])) := hn2.1
  have nl2 : w2 (n + 2) = some (.inl (cL, 50, .inr (.inl (fun i => lN ((fun _ => 0) i))))) := hn2.2
  refine fw_putF (pc := 12) (ci := 3) (v := .ref (n + 1)) (ty := (.object "BigCalculator$Natural")) (C := RDi) (T := TDi) (N := 3) hx hb hW in_Di tyDi tyDi_ok nmDi hown hK.1 hw h rfl 0 (by decide) (hW _ lf_Di_12) (fun _ h => h) rfl hname rfl (by decide +kernel) rfl rfl (Nat.le_of_ble_eq_true rfl) dDi_init_12 (fun H locs hw => ?_)
  obtain ⟨w3, e3⟩ : ∃ w_, w_ = fw_up w2 (n) (.inr (3, [.ref (n + 1), .null, .null])) := ⟨_, rfl⟩
  have hw : fw_H D kCl (fw_A w (n + 1)) s.heap w3 (n + 3) H locs := by rw [e3]; exact hw
  have na2_ : w3 (n + 1) = some (.inr (5, [.ref (n + 2), .int (nI 0)])) := by rw [e3, fw_un (by omega)]; exact na2
  have nl2_ : w3 (n + 2) = some (.inl (cL, 50, .inr (.inl (fun i => lN ((fun _ => 0) i))))) := by rw [e3, fw_un (by omega)]; exact nl2
  have h_ : w3 (n) = some (.inr (3, [.ref (n + 1), .null, .null])) := by rw [e3]; exact fw_us _ _ _
  have h := h_
  have na2 := na2_
  have nl2 := nl2_
  refine lv_aload_n (pc := 15) hx hb dDi_init_15 rfl (lv_at hl 0 rfl) ?_
  refine fw_new (pc := 16) (ci := 5) (fs := [.null, .int (nI 0)]) (C := RNa) (T := TNa) (N := 2) hx hb hW in_Na tyNa tyNa_ok hown (hW _ lc_Di_9) (hW _ ins_Na) (hW _ ini_Na) hK.1 hw rfl df_Na (Nat.le_of_ble_eq_true rfl) (Nat.le_of_ble_eq_true rfl) dDi_init_16 (fun H hw => ?_)
  obtain ⟨w4, e4⟩ : ∃ w_, w_ = fw_up w3 (n + 3) (.inr (5, [.null, .int (nI 0)])) := ⟨_, rfl⟩
  have hw : fw_H D kCl (fw_A w (n + 1)) s.heap w4 (n + 4) H locs := by rw [e4]; exact hw
  have h_ : w4 (n) = some (.inr (3, [.ref (n + 1), .null, .null])) := by rw [e4, fw_un (by omega)]; exact h
  have na2_ : w4 (n + 1) = some (.inr (5, [.ref (n + 2), .int (nI 0)])) := by rw [e4, fw_un (by omega)]; exact na2
  have nl2_ : w4 (n + 2) = some (.inl (cL, 50, .inr (.inl (fun i => lN ((fun _ => 0) i))))) := by rw [e4, fw_un (by omega)]; exact nl2
  have f4_ : w4 (n + 3) = some (.inr (5, [.null, .int (nI 0)])) := by rw [e4]; exact fw_us _ _ _
  have h := h_
  have na2 := na2_
  have nl2 := nl2_
  have f4 := f4_
  refine lv_dup (pc := 19) hx hb dDi_init_19 rfl ?_
  refine fw_cI (pc := 20) (As := []) (rest := [.ref (n + 3), .ref n]) ⟨hx, hb, hml, hown, hW⟩ (c_Na_init f4) (cwI 0 hW (kw_I cd_Na_init) rfl rfl rfl (hW _ ini_Na) (hW _ lm_Di_11) (hW _ im_Na_init) rfl (by decide +kernel) ⟨Nat.le_of_ble_eq_true rfl, Nat.le_of_ble_eq_true rfl⟩) hK hw rfl hl.1 rfl (Nat.le_of_ble_eq_true rfl) dDi_init_20 ⟨Nat.le_of_ble_eq_true rfl, Nat.le_of_ble_eq_true rfl⟩ (fun v w5 H locs hq hw => ?_)
  have hw : fw_H D kCl (fw_A w (n + 1)) s.heap w5 (n + 5) H locs := hw
  obtain ⟨rfl, hn5, ho5⟩ := hq
  have h_ : w5 (n) = some (.inr (3, [.ref (n + 1), .null, .null])) := (ho5 _ (by omega) (by omega)).trans h
  have na2_ : w5 (n + 1) = some (.inr (5, [.ref (n + 2), .int (nI 0)])) := (ho5 _ (by omega) (by omega)).trans na2
  have nl2_ : w5 (n + 2) = some (.inl (cL, 50, .inr (.inl (fun i => lN ((fun _ => 0) i))))) := (ho5 _ (by omega) (by omega)).trans nl2
  have h := h_
  have na2 := na2_
  have nl2 := nl2_
  have na5 : w5 (n + 3) = some (.inr (5, [.ref (n + 4), .int (nI 0)])) := hn5.1
  have nl5 : w5 (n + 4) = some (.inl (cL, 50, .inr (.inl (fun i => lN ((fun _ => 0) i))))) := hn5.2
  refine fw_putF (pc := 23) (ci := 3) (v := .ref (n + 3)) (ty := (.object "BigCalculator$Natural")) (C := RDi) (T := TDi) (N := 3) hx hb hW in_Di tyDi tyDi_ok nmDi hown hK.1 hw h rfl 1 (by decide) (hW _ lf_Di_18) (fun _ h => h) rfl hname rfl (by decide +kernel) rfl rfl (Nat.le_of_ble_eq_true rfl) dDi_init_23 (fun H locs hw => ?_)
  obtain ⟨w6, e6⟩ : ∃ w_, w_ = fw_up w5 (n) (.inr (3, [.ref (n + 1), .ref (n + 3), .null])) := ⟨_, rfl⟩
  have hw : fw_H D kCl (fw_A w (n + 1)) s.heap w6 (n + 5) H locs := by rw [e6]; exact hw
  have na2_ : w6 (n + 1) = some (.inr (5, [.ref (n + 2), .int (nI 0)])) := by rw [e6, fw_un (by omega)]; exact na2
  have nl2_ : w6 (n + 2) = some (.inl (cL, 50, .inr (.inl (fun i => lN ((fun _ => 0) i))))) := by rw [e6, fw_un (by omega)]; exact nl2
  have na5_ : w6 (n + 3) = some (.inr (5, [.ref (n + 4), .int (nI 0)])) := by rw [e6, fw_un (by omega)]; exact na5
  have nl5_ : w6 (n + 4) = some (.inl (cL, 50, .inr (.inl (fun i => lN ((fun _ => 0) i))))) := by rw [e6, fw_un (by omega)]; exact nl5
  have h_ : w6 (n) = some (.inr (3, [.ref (n + 1), .ref (n + 3), .null])) := by rw [e6]; exact fw_us _ _ _
  have h := h_
  have na2 := na2_
  have nl2 := nl2_
  have na5 := na5_
  have nl5 := nl5_
  refine lv_aload_n (pc := 26) hx hb dDi_init_26 rfl (lv_at hl 0 rfl) ?_
  refine fw_new (pc := 27) (ci := 5) (fs := [.null, .int (nI 0)]) (C := RNa) (T := TNa) (N := 2) hx hb hW in_Na tyNa tyNa_ok hown (hW _ lc_Di_9) (hW _ ins_Na) (hW _ ini_Na) hK.1 hw rfl df_Na (Nat.le_of_ble_eq_true rfl) (Nat.le_of_ble_eq_true rfl) dDi_init_27 (fun H hw => ?_)
  obtain ⟨w7, e7⟩ : ∃ w_, w_ = fw_up w6 (n + 5) (.inr (5, [.null, .int (nI 0)])) := ⟨_, rfl⟩
  have hw : fw_H D kCl (fw_A w (n + 1)) s.heap w7 (n + 6) H locs := by rw [e7]; exact hw
  have h_ : w7 (n) = some (.inr (3, [.ref (n + 1), .ref (n + 3), .null])) := by rw [e7, fw_un (by omega)]; exact h
  have na2_ : w7 (n + 1) = some (.inr (5, [.ref (n + 2), .int (nI 0)])) := by rw [e7, fw_un (by omega)]; exact na2
  have nl2_ : w7 (n + 2) = some (.inl (cL, 50, .inr (.inl (fun i => lN ((fun _ => 0) i))))) := by rw [e7, fw_un (by omega)]; exact nl2
  have na5_ : w7 (n + 3) = some (.inr (5, [.ref (n + 4), .int (nI 0)])) := by rw [e7, fw_un (by omega)]; exact na5
  have nl5_ : w7 (n + 4) = some (.inl (cL, 50, .inr (.inl (fun i => lN ((fun _ => 0) i))))) := by rw [e7, fw_un (by omega)]; exact nl5
  have f7_ : w7 (n + 5) = some (.inr (5, [.null, .int (nI 0)])) := by rw [e7]; exact fw_us _ _ _
  have h := h_
  have na2 := na2_
  have nl2 := nl2_
  have na5 := na5_
  have nl5 := nl5_
  have f7 := f7_
  refine lv_dup (pc := 30) hx hb dDi_init_30 rfl ?_
  refine fw_cI (pc := 31) (As := []) (rest := [.ref (n + 5), .ref n]) ⟨hx, hb, hml, hown, hW⟩ (c_Na_init f7) (cwI 0 hW (kw_I cd_Na_init) rfl rfl rfl (hW _ ini_Na) (hW _ lm_Di_11) (hW _ im_Na_init) rfl (by decide +kernel) ⟨Nat.le_of_ble_eq_true rfl, Nat.le_of_ble_eq_true rfl⟩) hK hw rfl hl.1 rfl (Nat.le_of_ble_eq_true rfl) dDi_init_31 ⟨Nat.le_of_ble_eq_true rfl, Nat.le_of_ble_eq_true rfl⟩ (fun v w8 H locs hq hw => ?_)
  have hw : fw_H D kCl (fw_A w (n + 1)) s.heap w8 (n + 7) H locs := hw
  obtain ⟨rfl, hn8, ho8⟩ := hq
  have h_ : w8 (n) = some (.inr (3, [.ref (n + 1), .ref (n + 3), .null])) := (ho8 _ (by omega) (by omega)).trans h
  have na2_ : w8 (n + 1) = some (.inr (5, [.ref (n + 2), .int (nI 0)])) := (ho8 _ (by omega) (by omega)).trans na2
  have nl2_ : w8 (n + 2) = some (.inl (cL, 50, .inr (.inl (fun i => lN ((fun _ => 0) i))))) := (ho8 _ (by omega) (by omega)).trans nl2
  have na5_ : w8 (n + 3) = some (.inr (5, [.ref (n + 4), .int (nI 0)])) := (ho8 _ (by omega) (by omega)).trans na5
  have nl5_ : w8 (n + 4) = some (.inl (cL, 50, .inr (.inl (fun i => lN ((fun _ => 0) i))))) := (ho8 _ (by omega) (by omega)).trans nl5
  have h := h_
  have na2 := na2_
  have nl2 := nl2_
  have na5 := na5_
  have nl5 := nl5_
  have na8 : w8 (n + 5) = some (.inr (5, [.ref (n + 6), .int (nI 0)])) := hn8.1
  have nl8 : w8 (n + 6) = some (.inl (cL, 50, .inr (.inl (fun i => lN ((fun _ => 0) i))))) := hn8.2
  refine fw_putF (pc := 34) (ci := 3) (v := .ref (n + 5)) (ty := (.object "BigCalculator$Natural")) (C := RDi) (T := TDi) (N := 3) hx hb hW in_Di tyDi tyDi_ok nmDi hown hK.1 hw h rfl 2 (by decide) (hW _ lf_Di_21) (fun _ h => h) rfl hname rfl (by decide +kernel) rfl rfl (Nat.le_of_ble_eq_true rfl) dDi_init_34 (fun H locs hw => ?_)
  obtain ⟨w9, e9⟩ : ∃ w_, w_ = fw_up w8 (n) (.inr (3, [.ref (n + 1), .ref (n + 3), .ref (n + 5)])) := ⟨_, rfl⟩
  have hw : fw_H D kCl (fw_A w (n + 1)) s.heap w9 (n + 7) H locs := by rw [e9]; exact hw
  have na2_ : w9 (n + 1) = some (.inr (5, [.ref (n + 2), .int (nI 0)])) := by rw [e9, fw_un (by omega)]; exact na2
  have nl2_ : w9 (n + 2) = some (.inl (cL, 50, .inr (.inl (fun i => lN ((fun _ => 0) i))))) := by rw [e9, fw_un (by omega)]; exact nl2
  have na5_ : w9 (n + 3) = some (.inr (5, [.ref (n + 4), .int (nI 0)])) := by rw [e9, fw_un (by omega)]; exact na5
  have nl5_ : w9 (n + 4) = some (.inl (cL, 50, .inr (.inl (fun i => lN ((fun _ => 0) i))))) := by rw [e9, fw_un (by omega)]; exact nl5
  have na8_ : w9 (n + 5) = some (.inr (5, [.ref (n + 6), .int (nI 0)])) := by rw [e9, fw_un (by omega)]; exact na8
  have nl8_ : w9 (n + 6) = some (.inl (cL, 50, .inr (.inl (fun i => lN ((fun _ => 0) i))))) := by rw [e9, fw_un (by omega)]; exact nl8
  have h_ : w9 (n) = some (.inr (3, [.ref (n + 1), .ref (n + 3), .ref (n + 5)])) := by rw [e9]; exact fw_us _ _ _
  have h := h_
  have na2 := na2_
  have nl2 := nl2_
  have na5 := na5_
  have nl5 := nl5_
  have na8 := na8_
  have nl8 := nl8_
  exact fw_vret (pc := 37) hx hb hr hlocks hw dDi_init_37 ⟨rfl, h, ⟨na2, nl2⟩, ⟨na5, nl5⟩, ⟨na8, nl8⟩, fun q hq => by rw [e9, fw_un (by omega), ho8 q (by omega) (by omega), e7, fw_un (by omega), e6, fw_un (by omega), ho5 q (by omega) (by omega), e4, fw_un (by omega), e3, fw_un (by omega), ho2 q (by omega) (by omega), e1, fw_un (by omega)]⟩
end CON
