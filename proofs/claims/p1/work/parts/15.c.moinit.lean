/-! The reference's constructor. Written by wip/gen/model0.py. -/
section MO0
variable {l : Launch} {D : va_G} {cI cL cQ : ClassId} {z : kZ_T} {w : fw_W}
set_option maxHeartbeats 4000000 in
set_option maxRecDepth 100000 in
theorem c_Mo_init {n : Nat} (h : w n = some (.inr (10, [.int (nI 0), .null, .null, .int (nI 0), .null, .null, .int (nI 0), .int (nI 0), .null, .null, .int (nI 0), .int (nI 0), .int (nI 0), .int (nI 0), .null, .null, .int (nI 0), .int (nI 0), .int (nI 0), .int (nI 0)]))) : fw_C l yMo_init (Cond.code yMo_init cMo_init 1 none :: kWs) ({ frames := 1, cells := 8, slots := 2280, locals := 12 } : Room) D kCl (kty cI cL cQ) z [.ref n] (n + 1) w 8 2280 (fun v w' => v = none ∧ moS cI cL w' n (fun _ => 0) (fun _ _ => 0) moS0 moC0 ∧ ∀ q, q < n ∨ n + 9 ≤ q → w' q = w q) := by
  refine fw_ofW (cc := cMo_init) (maxL := 1) (ret := none) (by decide) rfl (Nat.le_of_ble_eq_true rfl) ?_
  intro p e s m args below meth c hx hb hr hts hown hlocks hname hml hK H ls hw hl
  have hW : ∀ w ∈ kWs, w.before args s = true := fun w h => hts w (List.mem_cons_of_mem _ h)
  have hown : s.vm.findClass RMo = some m.cls := hown
  have hl : lv_has ls 1 [(0, .ref n)] := hl
  refine lv_aload_n (pc := 0) hx hb dMo_init_0 rfl (lv_at hl 0 rfl) ?_
  refine W.objInit hx hb hown (hW _ lm_Mo_1) (hW _ im_obj) (hW _ cd_obj) rfl (by rw [hml]; exact hl.1) rfl dMo_init_1 (Nat.le_of_ble_eq_true rfl) (Nat.le_of_ble_eq_true rfl) ?_
  refine W.eq (g2 := F0 m 4 ls []) rfl ?_
  refine lv_aload_n (pc := 4) hx hb dMo_init_4 rfl (lv_at hl 0 rfl) ?_
  refine lv_sipush (pc := 5) (v := (nI 1536)) hx hb dMo_init_5 (by decide) ?_
  refine fw_newa (pc := 8) (atype := .long) (a0 := (1536, .inr (.inl (fun _ => lN 0)))) hx hb (hW _ ac_long) rfl hK.1 hw 1 rfl (hK.1.2 1 _ rfl).2 rfl (by decide) rfl (by decide) (Nat.le_of_ble_eq_true rfl) (Nat.le_of_ble_eq_true rfl) dMo_init_8 (fun H hw => ?_)
  obtain ⟨w1, e1⟩ : ∃ w_, w_ = fw_up w (n + 1) (.inl (cL, 1536, .inr (.inl (fun _ => lN 0)))) := ⟨_, rfl⟩
  have hw : fw_H D kCl (fw_A w (n + 1)) s.heap w1 (n + 2) H [] := by rw [e1]; exact hw
  have h_ : w1 (n) = some (.inr (10, [.int (nI 0), .null, .null, .int (nI 0), .null, .null, .int (nI 0), .int (nI 0), .null, .null, .int (nI 0), .int (nI 0), .int (nI 0), .int (nI 0), .null, .null, .int (nI 0), .int (nI 0), .int (nI 0), .int (nI 0)])) := by rw [e1, fw_un (by omega)]; exact h
  have f1_ : w1 (n + 1) = some (.inl (cL, 1536, .inr (.inl (fun _ => lN 0)))) := by rw [e1]; exact fw_us _ _ _
  have h := h_
  have f1 := f1_
  refine fw_putF (pc := 10) (ci := 10) (v := .ref (n + 1)) (ty := (.array .long)) (C := RMo) (T := TMo) (N := 20) hx hb hW in_Mo tyMo tyMo_ok nmMo hown hK.1 hw h rfl 1 (by decide) (hW _ lf_Mo_7) (fun _ h => h) rfl hname rfl (by decide +kernel) rfl rfl (Nat.le_of_ble_eq_true rfl) dMo_init_10 (fun H locs hw => ?_)
  obtain ⟨w2, e2⟩ : ∃ w_, w_ = fw_up w1 (n) (.inr (10, [.int (nI 0), .ref (n + 1), .null, .int (nI 0), .null, .null, .int (nI 0), .int (nI 0), .null, .null, .int (nI 0), .int (nI 0), .int (nI 0), .int (nI 0), .null, .null, .int (nI 0), .int (nI 0), .int (nI 0), .int (nI 0)])) := ⟨_, rfl⟩
  have hw : fw_H D kCl (fw_A w (n + 1)) s.heap w2 (n + 2) H locs := by rw [e2]; exact hw
  have f1_ : w2 (n + 1) = some (.inl (cL, 1536, .inr (.inl (fun _ => lN 0)))) := by rw [e2, fw_un (by omega)]; exact f1
  have h_ : w2 (n) = some (.inr (10, [.int (nI 0), .ref (n + 1), .null, .int (nI 0), .null, .null, .int (nI 0), .int (nI 0), .null, .null, .int (nI 0), .int (nI 0), .int (nI 0), .int (nI 0), .null, .null, .int (nI 0), .int (nI 0), .int (nI 0), .int (nI 0)])) := by rw [e2]; exact fw_us _ _ _
  have h := h_
  have f1 := f1_
  refine lv_aload_n (pc := 13) hx hb dMo_init_13 rfl (lv_at hl 0 rfl) ?_
  refine lv_bipush (pc := 14) (v := (nI 24)) hx hb dMo_init_14 (by decide) ?_
  refine fw_newa (pc := 16) (atype := .int) (a0 := (24, .inl (fun _ => nI 0))) hx hb (hW _ ac_int) rfl hK.1 hw 0 rfl (hK.1.2 0 _ rfl).2 rfl (by decide) rfl (by decide) (Nat.le_of_ble_eq_true rfl) (Nat.le_of_ble_eq_true rfl) dMo_init_16 (fun H hw => ?_)
  obtain ⟨w3, e3⟩ : ∃ w_, w_ = fw_up w2 (n + 2) (.inl (cI, 24, .inl (fun _ => nI 0))) := ⟨_, rfl⟩
  have hw : fw_H D kCl (fw_A w (n + 1)) s.heap w3 (n + 3) H locs := by rw [e3]; exact hw
  have h_ : w3 (n) = some (.inr (10, [.int (nI 0), .ref (n + 1), .null, .int (nI 0), .null, .null, .int (nI 0), .int (nI 0), .null, .null, .int (nI 0), .int (nI 0), .int (nI 0), .int (nI 0), .null, .null, .int (nI 0), .int (nI 0), .int (nI 0), .int (nI 0)])) := by rw [e3, fw_un (by omega)]; exact h
  have f1_ : w3 (n + 1) = some (.inl (cL, 1536, .inr (.inl (fun _ => lN 0)))) := by rw [e3, fw_un (by omega)]; exact f1
  have f3_ : w3 (n + 2) = some (.inl (cI, 24, .inl (fun _ => nI 0))) := by rw [e3]; exact fw_us _ _ _
  have h := h_
  have f1 := f1_
  have f3 := f3_
  refine fw_putF (pc := 18) (ci := 10) (v := .ref (n + 2)) (ty := (.array .int)) (C := RMo) (T := TMo) (N := 20) hx hb hW in_Mo tyMo tyMo_ok nmMo hown hK.1 hw h rfl 2 (by decide) (hW _ lf_Mo_13) (fun _ h => h) rfl hname rfl (by decide +kernel) rfl rfl (Nat.le_of_ble_eq_true rfl) dMo_init_18 (fun H locs hw => ?_)
  obtain ⟨w4, e4⟩ : ∃ w_, w_ = fw_up w3 (n) (.inr (10, [.int (nI 0), .ref (n + 1), .ref (n + 2), .int (nI 0), .null, .null, .int (nI 0), .int (nI 0), .null, .null, .int (nI 0), .int (nI 0), .int (nI 0), .int (nI 0), .null, .null, .int (nI 0), .int (nI 0), .int (nI 0), .int (nI 0)])) := ⟨_, rfl⟩
  have hw : fw_H D kCl (fw_A w (n + 1)) s.heap w4 (n + 3) H locs := by rw [e4]; exact hw
  have f1_ : w4 (n + 1) = some (.inl (cL, 1536, .inr (.inl (fun _ => lN 0)))) := by rw [e4, fw_un (by omega)]; exact f1
  have f3_ : w4 (n + 2) = some (.inl (cI, 24, .inl (fun _ => nI 0))) := by rw [e4, fw_un (by omega)]; exact f3
  have h_ : w4 (n) = some (.inr (10, [.int (nI 0), .ref (n + 1), .ref (n + 2), .int (nI 0), .null, .null, .int (nI 0), .int (nI 0), .null, .null, .int (nI 0), .int (nI 0), .int (nI 0), .int (nI 0), .null, .null, .int (nI 0), .int (nI 0), .int (nI 0), .int (nI 0)])) := by rw [e4]; exact fw_us _ _ _
  have h := h_
  have f1 := f1_
  have f3 := f3_
  refine lv_aload_n (pc := 21) hx hb dMo_init_21 rfl (lv_at hl 0 rfl) ?_
  refine lv_bipush (pc := 22) (v := (nI 120)) hx hb dMo_init_22 (by decide) ?_
  refine fw_newa (pc := 24) (atype := .int) (a0 := (120, .inl (fun _ => nI 0))) hx hb (hW _ ac_int) rfl hK.1 hw 0 rfl (hK.1.2 0 _ rfl).2 rfl (by decide) rfl (by decide) (Nat.le_of_ble_eq_true rfl) (Nat.le_of_ble_eq_true rfl) dMo_init_24 (fun H hw => ?_)
  obtain ⟨w5, e5⟩ : ∃ w_, w_ = fw_up w4 (n + 3) (.inl (cI, 120, .inl (fun _ => nI 0))) := ⟨_, rfl⟩
  have hw : fw_H D kCl (fw_A w (n + 1)) s.heap w5 (n + 4) H locs := by rw [e5]; exact hw
  have h_ : w5 (n) = some (.inr (10, [.int (nI 0), .ref (n + 1), .ref (n + 2), .int (nI 0), .null, .null, .int (nI 0), .int (nI 0), .null, .null, .int (nI 0), .int (nI 0), .int (nI 0), .int (nI 0), .null, .null, .int (nI 0), .int (nI 0), .int (nI 0), .int (nI 0)])) := by rw [e5, fw_un (by omega)]; exact h
  have f1_ : w5 (n + 1) = some (.inl (cL, 1536, .inr (.inl (fun _ => lN 0)))) := by rw [e5, fw_un (by omega)]; exact f1
  have f3_ : w5 (n + 2) = some (.inl (cI, 24, .inl (fun _ => nI 0))) := by rw [e5, fw_un (by omega)]; exact f3
  have f5_ : w5 (n + 3) = some (.inl (cI, 120, .inl (fun _ => nI 0))) := by rw [e5]; exact fw_us _ _ _
  have h := h_
  have f1 := f1_
  have f3 := f3_
  have f5 := f5_
  refine fw_putF (pc := 26) (ci := 10) (v := .ref (n + 3)) (ty := (.array .int)) (C := RMo) (T := TMo) (N := 20) hx hb hW in_Mo tyMo tyMo_ok nmMo hown hK.1 hw h rfl 4 (by decide) (hW _ lf_Mo_17) (fun _ h => h) rfl hname rfl (by decide +kernel) rfl rfl (Nat.le_of_ble_eq_true rfl) dMo_init_26 (fun H locs hw => ?_)
  obtain ⟨w6, e6⟩ : ∃ w_, w_ = fw_up w5 (n) (.inr (10, [.int (nI 0), .ref (n + 1), .ref (n + 2), .int (nI 0), .ref (n + 3), .null, .int (nI 0), .int (nI 0), .null, .null, .int (nI 0), .int (nI 0), .int (nI 0), .int (nI 0), .null, .null, .int (nI 0), .int (nI 0), .int (nI 0), .int (nI 0)])) := ⟨_, rfl⟩
  have hw : fw_H D kCl (fw_A w (n + 1)) s.heap w6 (n + 4) H locs := by rw [e6]; exact hw
  have f1_ : w6 (n + 1) = some (.inl (cL, 1536, .inr (.inl (fun _ => lN 0)))) := by rw [e6, fw_un (by omega)]; exact f1
  have f3_ : w6 (n + 2) = some (.inl (cI, 24, .inl (fun _ => nI 0))) := by rw [e6, fw_un (by omega)]; exact f3
  have f5_ : w6 (n + 3) = some (.inl (cI, 120, .inl (fun _ => nI 0))) := by rw [e6, fw_un (by omega)]; exact f5
  have h_ : w6 (n) = some (.inr (10, [.int (nI 0), .ref (n + 1), .ref (n + 2), .int (nI 0), .ref (n + 3), .null, .int (nI 0), .int (nI 0), .null, .null, .int (nI 0), .int (nI 0), .int (nI 0), .int (nI 0), .null, .null, .int (nI 0), .int (nI 0), .int (nI 0), .int (nI 0)])) := by rw [e6]; exact fw_us _ _ _
  have h := h_
  have f1 := f1_
  have f3 := f3_
  have f5 := f5_
  refine lv_aload_n (pc := 29) hx hb dMo_init_29 rfl (lv_at hl 0 rfl) ?_
  refine lv_bipush (pc := 30) (v := (nI 120)) hx hb dMo_init_30 (by decide) ?_
  refine fw_newa (pc := 32) (atype := .int) (a0 := (120, .inl (fun _ => nI 0))) hx hb (hW _ ac_int) rfl hK.1 hw 0 rfl (hK.1.2 0 _ rfl).2 rfl (by decide) rfl (by decide) (Nat.le_of_ble_eq_true rfl) (Nat.le_of_ble_eq_true rfl) dMo_init_32 (fun H hw => ?_)
  obtain ⟨w7, e7⟩ : ∃ w_, w_ = fw_up w6 (n + 4) (.inl (cI, 120, .inl (fun _ => nI 0))) := ⟨_, rfl⟩
  have hw : fw_H D kCl (fw_A w (n + 1)) s.heap w7 (n + 5) H locs := by rw [e7]; exact hw
  have h_ : w7 (n) = some (.inr (10, [.int (nI 0), .ref (n + 1), .ref (n + 2), .int (nI 0), .ref (n + 3), .null, .int (nI 0), .int (nI 0), .null, .null, .int (nI 0), .int (nI 0), .int (nI 0), .int (nI 0), .null, .null, .int (nI 0), .int (nI 0), .int (nI 0), .int (nI 0)])) := by rw [e7, fw_un (by omega)]; exact h
  have f1_ : w7 (n + 1) = some (.inl (cL, 1536, .inr (.inl (fun _ => lN 0)))) := by rw [e7, fw_un (by omega)]; exact f1
  have f3_ : w7 (n + 2) = some (.inl (cI, 24, .inl (fun _ => nI 0))) := by rw [e7, fw_un (by omega)]; exact f3
  have f5_ : w7 (n + 3) = some (.inl (cI, 120, .inl (fun _ => nI 0))) := by rw [e7, fw_un (by omega)]; exact f5
  have f7_ : w7 (n + 4) = some (.inl (cI, 120, .inl (fun _ => nI 0))) := by rw [e7]; exact fw_us _ _ _
  have h := h_
  have f1 := f1_
  have f3 := f3_
  have f5 := f5_
  have f7 := f7_
  refine fw_putF (pc := 34) (ci := 10) (v := .ref (n + 4)) (ty := (.array .int)) (C := RMo) (T := TMo) (N := 20) hx hb hW in_Mo tyMo tyMo_ok nmMo hown hK.1 hw h rfl 5 (by decide) (hW _ lf_Mo_20) (fun _ h => h) rfl hname rfl (by decide +kernel) rfl rfl (Nat.le_of_ble_eq_true rfl) dMo_init_34 (fun H locs hw => ?_)
  obtain ⟨w8, e8⟩ : ∃ w_, w_ = fw_up w7 (n) (.inr (10, [.int (nI 0), .ref (n + 1), .ref (n + 2), .int (nI 0), .ref (n + 3), .ref (n + 4), .int (nI 0), .int (nI 0), .null, .null, .int (nI 0), .int (nI 0), .int (nI 0), .int (nI 0), .null, .null, .int (nI 0), .int (nI 0), .int (nI 0), .int (nI 0)])) := ⟨_, rfl⟩
  have hw : fw_H D kCl (fw_A w (n + 1)) s.heap w8 (n + 5) H locs := by rw [e8]; exact hw
  have f1_ : w8 (n + 1) = some (.inl (cL, 1536, .inr (.inl (fun _ => lN 0)))) := by rw [e8, fw_un (by omega)]; exact f1
  have f3_ : w8 (n + 2) = some (.inl (cI, 24, .inl (fun _ => nI 0))) := by rw [e8, fw_un (by omega)]; exact f3
  have f5_ : w8 (n + 3) = some (.inl (cI, 120, .inl (fun _ => nI 0))) := by rw [e8, fw_un (by omega)]; exact f5
  have f7_ : w8 (n + 4) = some (.inl (cI, 120, .inl (fun _ => nI 0))) := by rw [e8, fw_un (by omega)]; exact f7
  have h_ : w8 (n) = some (.inr (10, [.int (nI 0), .ref (n + 1), .ref (n + 2), .int (nI 0), .ref (n + 3), .ref (n + 4), .int (nI 0), .int (nI 0), .null, .null, .int (nI 0), .int (nI 0), .int (nI 0), .int (nI 0), .null, .null, .int (nI 0), .int (nI 0), .int (nI 0), .int (nI 0)])) := by rw [e8]; exact fw_us _ _ _
  have h := h_
  have f1 := f1_
  have f3 := f3_
  have f5 := f5_
  have f7 := f7_
  refine lv_aload_n (pc := 37) hx hb dMo_init_37 rfl (lv_at hl 0 rfl) ?_
  refine lv_bipush (pc := 38) (v := (nI 120)) hx hb dMo_init_38 (by decide) ?_
  refine fw_newa (pc := 40) (atype := .int) (a0 := (120, .inl (fun _ => nI 0))) hx hb (hW _ ac_int) rfl hK.1 hw 0 rfl (hK.1.2 0 _ rfl).2 rfl (by decide) rfl (by decide) (Nat.le_of_ble_eq_true rfl) (Nat.le_of_ble_eq_true rfl) dMo_init_40 (fun H hw => ?_)
  obtain ⟨w9, e9⟩ : ∃ w_, w_ = fw_up w8 (n + 5) (.inl (cI, 120, .inl (fun _ => nI 0))) := ⟨_, rfl⟩
  have hw : fw_H D kCl (fw_A w (n + 1)) s.heap w9 (n + 6) H locs := by rw [e9]; exact hw
  have h_ : w9 (n) = some (.inr (10, [.int (nI 0), .ref (n + 1), .ref (n + 2), .int (nI 0), .ref (n + 3), .ref (n + 4), .int (nI 0), .int (nI 0), .null, .null, .int (nI 0), .int (nI 0), .int (nI 0), .int (nI 0), .null, .null, .int (nI 0), .int (nI 0), .int (nI 0), .int (nI 0)])) := by rw [e9, fw_un (by omega)]; exact h
  have f1_ : w9 (n + 1) = some (.inl (cL, 1536, .inr (.inl (fun _ => lN 0)))) := by rw [e9, fw_un (by omega)]; exact f1
  have f3_ : w9 (n + 2) = some (.inl (cI, 24, .inl (fun _ => nI 0))) := by rw [e9, fw_un (by omega)]; exact f3
  have f5_ : w9 (n + 3) = some (.inl (cI, 120, .inl (fun _ => nI 0))) := by rw [e9, fw_un (by omega)]; exact f5
  have f7_ : w9 (n + 4) = some (.inl (cI, 120, .inl (fun _ => nI 0))) := by rw [e9, fw_un (by omega)]; exact f7
  have f9_ : w9 (n + 5) = some (.inl (cI, 120, .inl (fun _ => nI 0))) := by rw [e9]; exact fw_us _ _ _
  have h := h_
  have f1 := f1_
  have f3 := f3_
  have f5 := f5_
  have f7 := f7_
  have f9 := f9_
  refine fw_putF (pc := 42) (ci := 10) (v := .ref (n + 5)) (ty := (.array .int)) (C := RMo) (T := TMo) (N := 20) hx hb hW in_Mo tyMo tyMo_ok nmMo hown hK.1 hw h rfl 8 (by decide) (hW _ lf_Mo_23) (fun _ h => h) rfl hname rfl (by decide +kernel) rfl rfl (Nat.le_of_ble_eq_true rfl) dMo_init_42 (fun H locs hw => ?_)
  obtain ⟨w10, e10⟩ : ∃ w_, w_ = fw_up w9 (n) (.inr (10, [.int (nI 0), .ref (n + 1), .ref (n + 2), .int (nI 0), .ref (n + 3), .ref (n + 4), .int (nI 0), .int (nI 0), .ref (n + 5), .null, .int (nI 0), .int (nI 0), .int (nI 0), .int (nI 0), .null, .null, .int (nI 0), .int (nI 0), .int (nI 0), .int (nI 0)])) := ⟨_, rfl⟩
  have hw : fw_H D kCl (fw_A w (n + 1)) s.heap w10 (n + 6) H locs := by rw [e10]; exact hw
  have f1_ : w10 (n + 1) = some (.inl (cL, 1536, .inr (.inl (fun _ => lN 0)))) := by rw [e10, fw_un (by omega)]; exact f1
  have f3_ : w10 (n + 2) = some (.inl (cI, 24, .inl (fun _ => nI 0))) := by rw [e10, fw_un (by omega)]; exact f3
  have f5_ : w10 (n + 3) = some (.inl (cI, 120, .inl (fun _ => nI 0))) := by rw [e10, fw_un (by omega)]; exact f5
  have f7_ : w10 (n + 4) = some (.inl (cI, 120, .inl (fun _ => nI 0))) := by rw [e10, fw_un (by omega)]; exact f7
  have f9_ : w10 (n + 5) = some (.inl (cI, 120, .inl (fun _ => nI 0))) := by rw [e10, fw_un (by omega)]; exact f9
  have h_ : w10 (n) = some (.inr (10, [.int (nI 0), .ref (n + 1), .ref (n + 2), .int (nI 0), .ref (n + 3), .ref (n + 4), .int (nI 0), .int (nI 0), .ref (n + 5), .null, .int (nI 0), .int (nI 0), .int (nI 0), .int (nI 0), .null, .null, .int (nI 0), .int (nI 0), .int (nI 0), .int (nI 0)])) := by rw [e10]; exact fw_us _ _ _
  have h := h_
  have f1 := f1_
  have f3 := f3_
  have f5 := f5_
  have f7 := f7_
  have f9 := f9_
  refine lv_aload_n (pc := 45) hx hb dMo_init_45 rfl (lv_at hl 0 rfl) ?_
  refine lv_bipush (pc := 46) (v := (nI 120)) hx hb dMo_init_46 (by decide) ?_
  refine fw_newa (pc := 48) (atype := .int) (a0 := (120, .inl (fun _ => nI 0))) hx hb (hW _ ac_int) rfl hK.1 hw 0 rfl (hK.1.2 0 _ rfl).2 rfl (by decide) rfl (by decide) (Nat.le_of_ble_eq_true rfl) (Nat.le_of_ble_eq_true rfl) dMo_init_48 (fun H hw => ?_)
  obtain ⟨w11, e11⟩ : ∃ w_, w_ = fw_up w10 (n + 6) (.inl (cI, 120, .inl (fun _ => nI 0))) := ⟨_, rfl⟩
  have hw : fw_H D kCl (fw_A w (n + 1)) s.heap w11 (n + 7) H locs := by rw [e11]; exact hw
  have h_ : w11 (n) = some (.inr (10, [.int (nI 0), .ref (n + 1), .ref (n + 2), .int (nI 0), .ref (n + 3), .ref (n + 4), .int (nI 0), .int (nI 0), .ref (n + 5), .null, .int (nI 0), .int (nI 0), .int (nI 0), .int (nI 0), .null, .null, .int (nI 0), .int (nI 0), .int (nI 0), .int (nI 0)])) := by rw [e11, fw_un (by omega)]; exact h
  have f1_ : w11 (n + 1) = some (.inl (cL, 1536, .inr (.inl (fun _ => lN 0)))) := by rw [e11, fw_un (by omega)]; exact f1
  have f3_ : w11 (n + 2) = some (.inl (cI, 24, .inl (fun _ => nI 0))) := by rw [e11, fw_un (by omega)]; exact f3
  have f5_ : w11 (n + 3) = some (.inl (cI, 120, .inl (fun _ => nI 0))) := by rw [e11, fw_un (by omega)]; exact f5
  have f7_ : w11 (n + 4) = some (.inl (cI, 120, .inl (fun _ => nI 0))) := by rw [e11, fw_un (by omega)]; exact f7
  have f9_ : w11 (n + 5) = some (.inl (cI, 120, .inl (fun _ => nI 0))) := by rw [e11, fw_un (by omega)]; exact f9
  have f11_ : w11 (n + 6) = some (.inl (cI, 120, .inl (fun _ => nI 0))) := by rw [e11]; exact fw_us _ _ _
  have h := h_
  have f1 := f1_
  have f3 := f3_
  have f5 := f5_
  have f7 := f7_
  have f9 := f9_
  have f11 := f11_
  refine fw_putF (pc := 50) (ci := 10) (v := .ref (n + 6)) (ty := (.array .int)) (C := RMo) (T := TMo) (N := 20) hx hb hW in_Mo tyMo tyMo_ok nmMo hown hK.1 hw h rfl 9 (by decide) (hW _ lf_Mo_26) (fun _ h => h) rfl hname rfl (by decide +kernel) rfl rfl (Nat.le_of_ble_eq_true rfl) dMo_init_50 (fun H locs hw => ?_)
  obtain ⟨w12, e12⟩ : ∃ w_, w_ = fw_up w11 (n) (.inr (10, [.int (nI 0), .ref (n + 1), .ref (n + 2), .int (nI 0), .ref (n + 3), .ref (n + 4), .int (nI 0), .int (nI 0), .ref (n + 5), .ref (n + 6), .int (nI 0), .int (nI 0), .int (nI 0), .int (nI 0), .null, .null, .int (nI 0), .int (nI 0), .int (nI 0), .int (nI 0)])) := ⟨_, rfl⟩
  have hw : fw_H D kCl (fw_A w (n + 1)) s.heap w12 (n + 7) H locs := by rw [e12]; exact hw
  have f1_ : w12 (n + 1) = some (.inl (cL, 1536, .inr (.inl (fun _ => lN 0)))) := by rw [e12, fw_un (by omega)]; exact f1
  have f3_ : w12 (n + 2) = some (.inl (cI, 24, .inl (fun _ => nI 0))) := by rw [e12, fw_un (by omega)]; exact f3
  have f5_ : w12 (n + 3) = some (.inl (cI, 120, .inl (fun _ => nI 0))) := by rw [e12, fw_un (by omega)]; exact f5
  have f7_ : w12 (n + 4) = some (.inl (cI, 120, .inl (fun _ => nI 0))) := by rw [e12, fw_un (by omega)]; exact f7
  have f9_ : w12 (n + 5) = some (.inl (cI, 120, .inl (fun _ => nI 0))) := by rw [e12, fw_un (by omega)]; exact f9
  have f11_ : w12 (n + 6) = some (.inl (cI, 120, .inl (fun _ => nI 0))) := by rw [e12, fw_un (by omega)]; exact f11
  have h_ : w12 (n) = some (.inr (10, [.int (nI 0), .ref (n + 1), .ref (n + 2), .int (nI 0), .ref (n + 3), .ref (n + 4), .int (nI 0), .int (nI 0), .ref (n + 5), .ref (n + 6), .int (nI 0), .int (nI 0), .int (nI 0), .int (nI 0), .null, .null, .int (nI 0), .int (nI 0), .int (nI 0), .int (nI 0)])) := by rw [e12]; exact fw_us _ _ _
  have h := h_
  have f1 := f1_
  have f3 := f3_
  have f5 := f5_
  have f7 := f7_
  have f9 := f9_
  have f11 := f11_
  refine lv_aload_n (pc := 53) hx hb dMo_init_53 rfl (lv_at hl 0 rfl) ?_
  refine lv_bipush (pc := 54) (v := (nI 120)) hx hb dMo_init_54 (by decide) ?_
  refine fw_newa (pc := 56) (atype := .int) (a0 := (120, .inl (fun _ => nI 0))) hx hb (hW _ ac_int) rfl hK.1 hw 0 rfl (hK.1.2 0 _ rfl).2 rfl (by decide) rfl (by decide) (Nat.le_of_ble_eq_true rfl) (Nat.le_of_ble_eq_true rfl) dMo_init_56 (fun H hw => ?_)
  obtain ⟨w13, e13⟩ : ∃ w_, w_ = fw_up w12 (n + 7) (.inl (cI, 120, .inl (fun _ => nI 0))) := ⟨_, rfl⟩
  have hw : fw_H D kCl (fw_A w (n + 1)) s.heap w13 (n + 8) H locs := by rw [e13]; exact hw
  have h_ : w13 (n) = some (.inr (10, [.int (nI 0), .ref (n + 1), .ref (n + 2), .int (nI 0), .ref (n + 3), .ref (n + 4), .int (nI 0), .int (nI 0), .ref (n + 5), .ref (n + 6), .int (nI 0), .int (nI 0), .int (nI 0), .int (nI 0), .null, .null, .int (nI 0), .int (nI 0), .int (nI 0), .int (nI 0)])) := by rw [e13, fw_un (by omega)]; exact h
  have f1_ : w13 (n + 1) = some (.inl (cL, 1536, .inr (.inl (fun _ => lN 0)))) := by rw [e13, fw_un (by omega)]; exact f1
  have f3_ : w13 (n + 2) = some (.inl (cI, 24, .inl (fun _ => nI 0))) := by rw [e13, fw_un (by omega)]; exact f3
  have f5_ : w13 (n + 3) = some (.inl (cI, 120, .inl (fun _ => nI 0))) := by rw [e13, fw_un (by omega)]; exact f5
  have f7_ : w13 (n + 4) = some (.inl (cI, 120, .inl (fun _ => nI 0))) := by rw [e13, fw_un (by omega)]; exact f7
  have f9_ : w13 (n + 5) = some (.inl (cI, 120, .inl (fun _ => nI 0))) := by rw [e13, fw_un (by omega)]; exact f9
  have f11_ : w13 (n + 6) = some (.inl (cI, 120, .inl (fun _ => nI 0))) := by rw [e13, fw_un (by omega)]; exact f11
  have f13_ : w13 (n + 7) = some (.inl (cI, 120, .inl (fun _ => nI 0))) := by rw [e13]; exact fw_us _ _ _
  have h := h_
  have f1 := f1_
  have f3 := f3_
  have f5 := f5_
  have f7 := f7_
  have f9 := f9_
  have f11 := f11_
  have f13 := f13_
  refine fw_putF (pc := 58) (ci := 10) (v := .ref (n + 7)) (ty := (.array .int)) (C := RMo) (T := TMo) (N := 20) hx hb hW in_Mo tyMo tyMo_ok nmMo hown hK.1 hw h rfl 14 (by decide) (hW _ lf_Mo_29) (fun _ h => h) rfl hname rfl (by decide +kernel) rfl rfl (Nat.le_of_ble_eq_true rfl) dMo_init_58 (fun H locs hw => ?_)
  obtain ⟨w14, e14⟩ : ∃ w_, w_ = fw_up w13 (n) (.inr (10, [.int (nI 0), .ref (n + 1), .ref (n + 2), .int (nI 0), .ref (n + 3), .ref (n + 4), .int (nI 0), .int (nI 0), .ref (n + 5), .ref (n + 6), .int (nI 0), .int (nI 0), .int (nI 0), .int (nI 0), .ref (n + 7), .null, .int (nI 0), .int (nI 0), .int (nI 0), .int (nI 0)])) := ⟨_, rfl⟩
  have hw : fw_H D kCl (fw_A w (n + 1)) s.heap w14 (n + 8) H locs := by rw [e14]; exact hw
  have f1_ : w14 (n + 1) = some (.inl (cL, 1536, .inr (.inl (fun _ => lN 0)))) := by rw [e14, fw_un (by omega)]; exact f1
  have f3_ : w14 (n + 2) = some (.inl (cI, 24, .inl (fun _ => nI 0))) := by rw [e14, fw_un (by omega)]; exact f3
  have f5_ : w14 (n + 3) = some (.inl (cI, 120, .inl (fun _ => nI 0))) := by rw [e14, fw_un (by omega)]; exact f5
  have f7_ : w14 (n + 4) = some (.inl (cI, 120, .inl (fun _ => nI 0))) := by rw [e14, fw_un (by omega)]; exact f7
  have f9_ : w14 (n + 5) = some (.inl (cI, 120, .inl (fun _ => nI 0))) := by rw [e14, fw_un (by omega)]; exact f9
  have f11_ : w14 (n + 6) = some (.inl (cI, 120, .inl (fun _ => nI 0))) := by rw [e14, fw_un (by omega)]; exact f11
  have f13_ : w14 (n + 7) = some (.inl (cI, 120, .inl (fun _ => nI 0))) := by rw [e14, fw_un (by omega)]; exact f13
  have h_ : w14 (n) = some (.inr (10, [.int (nI 0), .ref (n + 1), .ref (n + 2), .int (nI 0), .ref (n + 3), .ref (n + 4), .int (nI 0), .int (nI 0), .ref (n + 5), .ref (n + 6), .int (nI 0), .int (nI 0), .int (nI 0), .int (nI 0), .ref (n + 7), .null, .int (nI 0), .int (nI 0), .int (nI 0), .int (nI 0)])) := by rw [e14]; exact fw_us _ _ _
  have h := h_
  have f1 := f1_
  have f3 := f3_
  have f5 := f5_
  have f7 := f7_
  have f9 := f9_
  have f11 := f11_
  have f13 := f13_
  refine lv_aload_n (pc := 61) hx hb dMo_init_61 rfl (lv_at hl 0 rfl) ?_
  refine lv_bipush (pc := 62) (v := (nI 120)) hx hb dMo_init_62 (by decide) ?_
  refine fw_newa (pc := 64) (atype := .int) (a0 := (120, .inl (fun _ => nI 0))) hx hb (hW _ ac_int) rfl hK.1 hw 0 rfl (hK.1.2 0 _ rfl).2 rfl (by decide) rfl (by decide) (Nat.le_of_ble_eq_true rfl) (Nat.le_of_ble_eq_true rfl) dMo_init_64 (fun H hw => ?_)
  obtain ⟨w15, e15⟩ : ∃ w_, w_ = fw_up w14 (n + 8) (.inl (cI, 120, .inl (fun _ => nI 0))) := ⟨_, rfl⟩
  have hw : fw_H D kCl (fw_A w (n + 1)) s.heap w15 (n + 9) H locs := by rw [e15]; exact hw
  have h_ : w15 (n) = some (.inr (10, [.int (nI 0), .ref (n + 1), .ref (n + 2), .int (nI 0), .ref (n + 3), .ref (n + 4), .int (nI 0), .int (nI 0), .ref (n + 5), .ref (n + 6), .int (nI 0), .int (nI 0), .int (nI 0), .int (nI 0), .ref (n + 7), .null, .int (nI 0), .int (nI 0), .int (nI 0), .int (nI 0)])) := by rw [e15, fw_un (by omega)]; exact h
  have f1_ : w15 (n + 1) = some (.inl (cL, 1536, .inr (.inl (fun _ => lN 0)))) := by rw [e15, fw_un (by omega)]; exact f1
  have f3_ : w15 (n + 2) = some (.inl (cI, 24, .inl (fun _ => nI 0))) := by rw [e15, fw_un (by omega)]; exact f3
  have f5_ : w15 (n + 3) = some (.inl (cI, 120, .inl (fun _ => nI 0))) := by rw [e15, fw_un (by omega)]; exact f5
  have f7_ : w15 (n + 4) = some (.inl (cI, 120, .inl (fun _ => nI 0))) := by rw [e15, fw_un (by omega)]; exact f7
  have f9_ : w15 (n + 5) = some (.inl (cI, 120, .inl (fun _ => nI 0))) := by rw [e15, fw_un (by omega)]; exact f9
  have f11_ : w15 (n + 6) = some (.inl (cI, 120, .inl (fun _ => nI 0))) := by rw [e15, fw_un (by omega)]; exact f11
  have f13_ : w15 (n + 7) = some (.inl (cI, 120, .inl (fun _ => nI 0))) := by rw [e15, fw_un (by omega)]; exact f13
  have f15_ : w15 (n + 8) = some (.inl (cI, 120, .inl (fun _ => nI 0))) := by rw [e15]; exact fw_us _ _ _
  have h := h_
  have f1 := f1_
  have f3 := f3_
  have f5 := f5_
  have f7 := f7_
  have f9 := f9_
  have f11 := f11_
  have f13 := f13_
  have f15 := f15_
  refine fw_putF (pc := 66) (ci := 10) (v := .ref (n + 8)) (ty := (.array .int)) (C := RMo) (T := TMo) (N := 20) hx hb hW in_Mo tyMo tyMo_ok nmMo hown hK.1 hw h rfl 15 (by decide) (hW _ lf_Mo_32) (fun _ h => h) rfl hname rfl (by decide +kernel) rfl rfl (Nat.le_of_ble_eq_true rfl) dMo_init_66 (fun H locs hw => ?_)
  obtain ⟨w16, e16⟩ : ∃ w_, w_ = fw_up w15 (n) (.inr (10, [.int (nI 0), .ref (n + 1), .ref (n + 2), .int (nI 0), .ref (n + 3), .ref (n + 4), .int (nI 0), .int (nI 0), .ref (n + 5), .ref (n + 6), .int (nI 0), .int (nI 0), .int (nI 0), .int (nI 0), .ref (n + 7), .ref (n + 8), .int (nI 0), .int (nI 0), .int (nI 0), .int (nI 0)])) := ⟨_, rfl⟩
  have hw : fw_H D kCl (fw_A w (n + 1)) s.heap w16 (n + 9) H locs := by rw [e16]; exact hw
  have f1_ : w16 (n + 1) = some (.inl (cL, 1536, .inr (.inl (fun _ => lN 0)))) := by rw [e16, fw_un (by omega)]; exact f1
  have f3_ : w16 (n + 2) = some (.inl (cI, 24, .inl (fun _ => nI 0))) := by rw [e16, fw_un (by omega)]; exact f3
  have f5_ : w16 (n + 3) = some (.inl (cI, 120, .inl (fun _ => nI 0))) := by rw [e16, fw_un (by omega)]; exact f5
  have f7_ : w16 (n + 4) = some (.inl (cI, 120, .inl (fun _ => nI 0))) := by rw [e16, fw_un (by omega)]; exact f7
  have f9_ : w16 (n + 5) = some (.inl (cI, 120, .inl (fun _ => nI 0))) := by rw [e16, fw_un (by omega)]; exact f9
  have f11_ : w16 (n + 6) = some (.inl (cI, 120, .inl (fun _ => nI 0))) := by rw [e16, fw_un (by omega)]; exact f11
  have f13_ : w16 (n + 7) = some (.inl (cI, 120, .inl (fun _ => nI 0))) := by rw [e16, fw_un (by omega)]; exact f13
  have f15_ : w16 (n + 8) = some (.inl (cI, 120, .inl (fun _ => nI 0))) := by rw [e16, fw_un (by omega)]; exact f15
  have h_ : w16 (n) = some (.inr (10, [.int (nI 0), .ref (n + 1), .ref (n + 2), .int (nI 0), .ref (n + 3), .ref (n + 4), .int (nI 0), .int (nI 0), .ref (n + 5), .ref (n + 6), .int (nI 0), .int (nI 0), .int (nI 0), .int (nI 0), .ref (n + 7), .ref (n + 8), .int (nI 0), .int (nI 0), .int (nI 0), .int (nI 0)])) := by rw [e16]; exact fw_us _ _ _
  have h := h_
  have f1 := f1_
  have f3 := f3_
  have f5 := f5_
  have f7 := f7_
  have f9 := f9_
  have f11 := f11_
  have f13 := f13_
  have f15 := f15_
  refine lv_aload_n (pc := 69) hx hb dMo_init_69 rfl (lv_at hl 0 rfl) ?_
  refine fw_get (pc := 70) (ci := 10) (v := .ref (n + 1)) (C := RMo) (T := TMo) (N := 20) hx hb hW in_Mo hown hK.1 hw h rfl 1 (by decide) (hW _ lf_Mo_7) (fun _ h => h) rfl dMo_init_70 ?_
  refine lv_sipush (pc := 73) (v := (nI 1472)) hx hb dMo_init_73 (by decide) ?_
  refine lv_lconst (pc := 76) (v := lN 1) hx hb dMo_init_76 (by decide) ?_
  refine fw_lastN (pc := 77) (f2 := fun i => lN (moC0 i)) hx hb hK.1 hw 1 f1 rfl (1472) (by decide) (by decide) (moC0_up) dMo_init_77 (fun H locs hw => ?_)
  obtain ⟨w17, e17⟩ : ∃ w_, w_ = fw_up w16 (n + 1) (.inl (cL, 1536, .inr (.inl (fun i => lN (moC0 i))))) := ⟨_, rfl⟩
  have hw : fw_H D kCl (fw_A w (n + 1)) s.heap w17 (n + 9) H locs := by rw [e17]; exact hw
  have h_ : w17 (n) = some (.inr (10, [.int (nI 0), .ref (n + 1), .ref (n + 2), .int (nI 0), .ref (n + 3), .ref (n + 4), .int (nI 0), .int (nI 0), .ref (n + 5), .ref (n + 6), .int (nI 0), .int (nI 0), .int (nI 0), .int (nI 0), .ref (n + 7), .ref (n + 8), .int (nI 0), .int (nI 0), .int (nI 0), .int (nI 0)])) := by rw [e17, fw_un (by omega)]; exact h
  have f3_ : w17 (n + 2) = some (.inl (cI, 24, .inl (fun _ => nI 0))) := by rw [e17, fw_un (by omega)]; exact f3
  have f5_ : w17 (n + 3) = some (.inl (cI, 120, .inl (fun _ => nI 0))) := by rw [e17, fw_un (by omega)]; exact f5
  have f7_ : w17 (n + 4) = some (.inl (cI, 120, .inl (fun _ => nI 0))) := by rw [e17, fw_un (by omega)]; exact f7
  have f9_ : w17 (n + 5) = some (.inl (cI, 120, .inl (fun _ => nI 0))) := by rw [e17, fw_un (by omega)]; exact f9
  have f11_ : w17 (n + 6) = some (.inl (cI, 120, .inl (fun _ => nI 0))) := by rw [e17, fw_un (by omega)]; exact f11
  have f13_ : w17 (n + 7) = some (.inl (cI, 120, .inl (fun _ => nI 0))) := by rw [e17, fw_un (by omega)]; exact f13
  have f15_ : w17 (n + 8) = some (.inl (cI, 120, .inl (fun _ => nI 0))) := by rw [e17, fw_un (by omega)]; exact f15
  have f1_ : w17 (n + 1) = some (.inl (cL, 1536, .inr (.inl (fun i => lN (moC0 i))))) := by rw [e17]; exact fw_us _ _ _
  have h := h_
  have f1 := f1_
  have f3 := f3_
  have f5 := f5_
  have f7 := f7_
  have f9 := f9_
  have f11 := f11_
  have f13 := f13_
  have f15 := f15_
  refine lv_aload_n (pc := 78) hx hb dMo_init_78 rfl (lv_at hl 0 rfl) ?_
  refine fw_get (pc := 79) (ci := 10) (v := .ref (n + 2)) (C := RMo) (T := TMo) (N := 20) hx hb hW in_Mo hown hK.1 hw h rfl 2 (by decide) (hW _ lf_Mo_13) (fun _ h => h) rfl dMo_init_79 ?_
  refine lv_bipush (pc := 82) (v := (nI 23)) hx hb dMo_init_82 (by decide) ?_
  refine lv_iconst (pc := 84) (v := (nI 1)) hx hb dMo_init_84 (by decide) ?_
  refine fw_iastN (pc := 85) (f2 := moS0) hx hb hK.1 hw 0 f3 rfl (23) (by decide) (by decide) (moS0_up) dMo_init_85 (fun H locs hw => ?_)
  obtain ⟨w18, e18⟩ : ∃ w_, w_ = fw_up w17 (n + 2) (.inl (cI, 24, .inl (moS0))) := ⟨_, rfl⟩
  have hw : fw_H D kCl (fw_A w (n + 1)) s.heap w18 (n + 9) H locs := by rw [e18]; exact hw
  have h_ : w18 (n) = some (.inr (10, [.int (nI 0), .ref (n + 1), .ref (n + 2), .int (nI 0), .ref (n + 3), .ref (n + 4), .int (nI 0), .int (nI 0), .ref (n + 5), .ref (n + 6), .int (nI 0), .int (nI 0), .int (nI 0), .int (nI 0), .ref (n + 7), .ref (n + 8), .int (nI 0), .int (nI 0), .int (nI 0), .int (nI 0)])) := by rw [e18, fw_un (by omega)]; exact h
  have f1_ : w18 (n + 1) = some (.inl (cL, 1536, .inr (.inl (fun i => lN (moC0 i))))) := by rw [e18, fw_un (by omega)]; exact f1
  have f5_ : w18 (n + 3) = some (.inl (cI, 120, .inl (fun _ => nI 0))) := by rw [e18, fw_un (by omega)]; exact f5
  have f7_ : w18 (n + 4) = some (.inl (cI, 120, .inl (fun _ => nI 0))) := by rw [e18, fw_un (by omega)]; exact f7
  have f9_ : w18 (n + 5) = some (.inl (cI, 120, .inl (fun _ => nI 0))) := by rw [e18, fw_un (by omega)]; exact f9
  have f11_ : w18 (n + 6) = some (.inl (cI, 120, .inl (fun _ => nI 0))) := by rw [e18, fw_un (by omega)]; exact f11
  have f13_ : w18 (n + 7) = some (.inl (cI, 120, .inl (fun _ => nI 0))) := by rw [e18, fw_un (by omega)]; exact f13
  have f15_ : w18 (n + 8) = some (.inl (cI, 120, .inl (fun _ => nI 0))) := by rw [e18, fw_un (by omega)]; exact f15
  have f3_ : w18 (n + 2) = some (.inl (cI, 24, .inl (moS0))) := by rw [e18]; exact fw_us _ _ _
  have h := h_
  have f1 := f1_
  have f3 := f3_
  have f5 := f5_
  have f7 := f7_
  have f9 := f9_
  have f11 := f11_
  have f13 := f13_
  have f15 := f15_
  exact fw_vret (pc := 86) hx hb hr hlocks hw dMo_init_86 ⟨rfl, ⟨h, f1, f3, fun j hj => by rcases (show j = 0 ∨ j = 1 ∨ j = 2 ∨ j = 3 ∨ j = 4 ∨ j = 5 by omega) with rfl | rfl | rfl | rfl | rfl | rfl; exact f5; exact f7; exact f9; exact f11; exact f13; exact f15⟩, fun q hq => by rw [e18, fw_un (by omega), e17, fw_un (by omega), e16, fw_un (by omega), e15, fw_un (by omega), e14, fw_un (by omega), e13, fw_un (by omega), e12, fw_un (by omega), e11, fw_un (by omega), e10, fw_un (by omega), e9, fw_un (by omega), e8, fw_un (by omega), e7, fw_un (by omega), e6, fw_un (by omega), e5, fw_un (by omega), e4, fw_un (by omega), e3, fw_un (by omega), e2, fw_un (by omega), e1, fw_un (by omega)]⟩
end MO0
