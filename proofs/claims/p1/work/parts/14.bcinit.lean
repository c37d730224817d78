/-! Constructors of BigCalculator and of the reference. Written by wip/gen/consts4.py. -/
section CO4
variable {l : Launch} {D : va_G} {cI cL cQ : ClassId} {z : kZ_T} {w : fw_W}
set_option maxHeartbeats 4000000 in
set_option maxRecDepth 100000 in
theorem c_Bc_init {n : Nat} (ho1 : ∀ A U H, z A U H → va_AO "BigCalculator$Whole" U) (h : w n = some (.inr (9, [.null, .null, .null, .null]))) : fw_C l yBc_init (Cond.code yBc_init cBc_init 1 none :: kWs) ({ frames := 5, cells := 85, slots := 2153, locals := 93 } : Room) D kCl (kty cI cL cQ) z [.ref n] (n + 1) w 85 2153 (fun v w' => v = none ∧ bcS cI cL cQ w' n (fun _ => 0) (fun _ _ => 0) bcV0 (fun _ => 0) ∧ ∀ q, q < n ∨ n + 86 ≤ q → w' q = w q) := by
  refine fw_ofW (cc := cBc_init) (maxL := 1) (ret := none) (by decide) rfl (Nat.le_of_ble_eq_true rfl) ?_
  intro p e s m args below meth c hx hb hr hts hown hlocks hname hml hK H ls hw hl
  have hW : ∀ w ∈ kWs, w.before args s = true := fun w h => hts w (List.mem_cons_of_mem _ h)
  have hown : s.vm.findClass RBc = some m.cls := hown
  have hl : lv_has ls 1 [(0, .ref n)] := hl
  refine lv_aload_n (pc := 0) hx hb dBc_init_0 rfl (lv_at hl 0 rfl) ?_
  refine W.objInit hx hb hown (hW _ lm_Bc_3) (hW _ im_obj) (hW _ cd_obj) rfl (by rw [hml]; exact hl.1) rfl dBc_init_1 (Nat.le_of_ble_eq_true rfl) (Nat.le_of_ble_eq_true rfl) ?_
  refine W.eq (g2 := F0 m 4 ls []) rfl ?_
  refine lv_aload_n (pc := 4) hx hb dBc_init_4 rfl (lv_at hl 0 rfl) ?_
  refine fw_new (pc := 5) (ci := 6) (fs := [.null, .null, .int (nI 0)]) (C := RTo) (T := TTo) (N := 3) hx hb hW in_To tyTo tyTo_ok hown (hW _ lc_Bc_9) (hW _ ins_To) (hW _ ini_To) hK.1 hw rfl df_To (Nat.le_of_ble_eq_true rfl) (Nat.le_of_ble_eq_true rfl) dBc_init_5 (fun H hw => ?_)
  obtain ⟨w1, e1⟩ : ∃ w_, w_ = fw_up w (n + 1) (.inr (6, [.null, .null, .int (nI 0)])) := ⟨_, rfl⟩
  have hw : fw_H D kCl (fw_A w (n + 1)) s.heap w1 (n + 2) H [] := by rw [e1]; exact hw
  have h_ : w1 (n) = some (.inr (9, [.null, .null, .null, .null])) := by rw [e1, fw_un (by omega)]; exact h
  have f1_ : w1 (n + 1) = some (.inr (6, [.null, .null, .int (nI 0)])) := by rw [e1]; exact fw_us _ _ _
  have h := h_
  have f1 := f1_
  refine lv_dup (pc := 8) hx hb dBc_init_8 rfl ?_
  refine fw_cI (pc := 9) (As := []) (rest := [.ref (n + 1), .ref n]) ⟨hx, hb, hml, hown, hW⟩ (c_To_init f1) (cwI 0 hW (kw_I cd_To_init) rfl rfl rfl (hW _ ini_To) (hW _ lm_Bc_11) (hW _ im_To_init) rfl (by decide +kernel) ⟨Nat.le_of_ble_eq_true rfl, Nat.le_of_ble_eq_true rfl⟩) hK hw rfl hl.1 rfl (Nat.le_of_ble_eq_true rfl) dBc_init_9 ⟨Nat.le_of_ble_eq_true rfl, Nat.le_of_ble_eq_true rfl⟩ (fun v w2 H locs hq hw => ?_)
  have hw : fw_H D kCl (fw_A w (n + 1)) s.heap w2 (n + 4) H locs := hw
  obtain ⟨rfl, t0, t1, t2, to_⟩ := hq
  have h_ : w2 (n) = some (.inr (9, [.null, .null, .null, .null])) := (to_ _ (by omega)).trans h
  have h := h_
  have t0 : w2 (n + 1) = some (.inr (6, [.ref (n + 2), .ref (n + 3), .int (nI 0)])) := t0
  have t1 : w2 (n + 2) = some (.inl (cI, 120, .inl (fun _ => nI 0))) := t1
  have t2 : w2 (n + 3) = some (.inl (cI, 120, .inl (fun _ => nI 0))) := t2
  refine fw_putF (pc := 12) (ci := 9) (v := .ref (n + 1)) (ty := (.object "BigCalculator$TokenRow")) (C := RBc) (T := TBc) (N := 4) hx hb hW in_Bc tyBc tyBc_ok nmBc hown hK.1 hw h rfl 0 (by decide) (hW _ lf_Bc_12) (fun _ h => h) rfl hname rfl (by decide +kernel) rfl rfl (Nat.le_of_ble_eq_true rfl) dBc_init_12 (fun H locs hw => ?_)
  obtain ⟨w3, e3⟩ : ∃ w_, w_ = fw_up w2 (n) (.inr (9, [.ref (n + 1), .null, .null, .null])) := ⟨_, rfl⟩
  have hw : fw_H D kCl (fw_A w (n + 1)) s.heap w3 (n + 4) H locs := by rw [e3]; exact hw
  have t0_ : w3 (n + 1) = some (.inr (6, [.ref (n + 2), .ref (n + 3), .int (nI 0)])) := by rw [e3, fw_un (by omega)]; exact t0
  have t1_ : w3 (n + 2) = some (.inl (cI, 120, .inl (fun _ => nI 0))) := by rw [e3, fw_un (by omega)]; exact t1
  have t2_ : w3 (n + 3) = some (.inl (cI, 120, .inl (fun _ => nI 0))) := by rw [e3, fw_un (by omega)]; exact t2
  have h_ : w3 (n) = some (.inr (9, [.ref (n + 1), .null, .null, .null])) := by rw [e3]; exact fw_us _ _ _
  have h := h_
  have t0 := t0_
  have t1 := t1_
  have t2 := t2_
  refine lv_aload_n (pc := 15) hx hb dBc_init_15 rfl (lv_at hl 0 rfl) ?_
  refine fw_new (pc := 16) (ci := 7) (fs := [.null, .null, .null, .int (nI 0), .int (nI 0)]) (C := RTr) (T := TTr) (N := 5) hx hb hW in_Tr tyTr tyTr_ok hown (hW _ lc_Bc_16) (hW _ ins_Tr) (hW _ ini_Tr) hK.1 hw rfl df_Tr (Nat.le_of_ble_eq_true rfl) (Nat.le_of_ble_eq_true rfl) dBc_init_16 (fun H hw => ?_)
  obtain ⟨w4, e4⟩ : ∃ w_, w_ = fw_up w3 (n + 4) (.inr (7, [.null, .null, .null, .int (nI 0), .int (nI 0)])) := ⟨_, rfl⟩
  have hw : fw_H D kCl (fw_A w (n + 1)) s.heap w4 (n + 5) H locs := by rw [e4]; exact hw
  have h_ : w4 (n) = some (.inr (9, [.ref (n + 1), .null, .null, .null])) := by rw [e4, fw_un (by omega)]; exact h
  have t0_ : w4 (n + 1) = some (.inr (6, [.ref (n + 2), .ref (n + 3), .int (nI 0)])) := by rw [e4, fw_un (by omega)]; exact t0
  have t1_ : w4 (n + 2) = some (.inl (cI, 120, .inl (fun _ => nI 0))) := by rw [e4, fw_un (by omega)]; exact t1
  have t2_ : w4 (n + 3) = some (.inl (cI, 120, .inl (fun _ => nI 0))) := by rw [e4, fw_un (by omega)]; exact t2
  have f4_ : w4 (n + 4) = some (.inr (7, [.null, .null, .null, .int (nI 0), .int (nI 0)])) := by rw [e4]; exact fw_us _ _ _
  have h := h_
  have t0 := t0_
  have t1 := t1_
  have t2 := t2_
  have f4 := f4_
  refine lv_dup (pc := 19) hx hb dBc_init_19 rfl ?_
  refine fw_cI (pc := 20) (As := []) (rest := [.ref (n + 4), .ref n]) ⟨hx, hb, hml, hown, hW⟩ (c_Tr_init f4) (cwI 0 hW (kw_I cd_Tr_init) rfl rfl rfl (hW _ ini_Tr) (hW _ lm_Bc_18) (hW _ im_Tr_init) rfl (by decide +kernel) ⟨Nat.le_of_ble_eq_true rfl, Nat.le_of_ble_eq_true rfl⟩) hK hw rfl hl.1 rfl (Nat.le_of_ble_eq_true rfl) dBc_init_20 ⟨Nat.le_of_ble_eq_true rfl, Nat.le_of_ble_eq_true rfl⟩ (fun v w5 H locs hq hw => ?_)
  have hw : fw_H D kCl (fw_A w (n + 1)) s.heap w5 (n + 10) H locs := hw
  obtain ⟨rfl, r0, r1, rr, ro⟩ := hq
  have h_ : w5 (n) = some (.inr (9, [.ref (n + 1), .null, .null, .null])) := (ro _ (by omega)).trans h
  have t0_ : w5 (n + 1) = some (.inr (6, [.ref (n + 2), .ref (n + 3), .int (nI 0)])) := (ro _ (by omega)).trans t0
  have t1_ : w5 (n + 2) = some (.inl (cI, 120, .inl (fun _ => nI 0))) := (ro _ (by omega)).trans t1
  have t2_ : w5 (n + 3) = some (.inl (cI, 120, .inl (fun _ => nI 0))) := (ro _ (by omega)).trans t2
  have h := h_
  have t0 := t0_
  have t1 := t1_
  have t2 := t2_
  have r2 : w5 (n + 6) = some (.inl (cI, 120, .inl (fun _ => nI 0))) := rr 0 (by decide)
  have r3 : w5 (n + 7) = some (.inl (cI, 120, .inl (fun _ => nI 0))) := rr 1 (by decide)
  have r4 : w5 (n + 8) = some (.inl (cI, 120, .inl (fun _ => nI 0))) := rr 2 (by decide)
  have r5 : w5 (n + 9) = some (.inl (cI, 120, .inl (fun _ => nI 0))) := rr 3 (by decide)
  have r0 : w5 (n + 4) = some (.inr (7, [.ref (n + 5), .ref (n + 8), .ref (n + 9), .int (nI 0), .int (nI 0)])) := r0
  have r1 : w5 (n + 5) = some (.inr (1, [.ref (n + 6), .ref (n + 7), .int (nI 0)])) := r1
  refine fw_putF (pc := 23) (ci := 9) (v := .ref (n + 4)) (ty := (.object "BigCalculator$Translator")) (C := RBc) (T := TBc) (N := 4) hx hb hW in_Bc tyBc tyBc_ok nmBc hown hK.1 hw h rfl 1 (by decide) (hW _ lf_Bc_19) (fun _ h => h) rfl hname rfl (by decide +kernel) rfl rfl (Nat.le_of_ble_eq_true rfl) dBc_init_23 (fun H locs hw => ?_)
  obtain ⟨w6, e6⟩ : ∃ w_, w_ = fw_up w5 (n) (.inr (9, [.ref (n + 1), .ref (n + 4), .null, .null])) := ⟨_, rfl⟩
  have hw : fw_H D kCl (fw_A w (n + 1)) s.heap w6 (n + 10) H locs := by rw [e6]; exact hw
  have t0_ : w6 (n + 1) = some (.inr (6, [.ref (n + 2), .ref (n + 3), .int (nI 0)])) := by rw [e6, fw_un (by omega)]; exact t0
  have t1_ : w6 (n + 2) = some (.inl (cI, 120, .inl (fun _ => nI 0))) := by rw [e6, fw_un (by omega)]; exact t1
  have t2_ : w6 (n + 3) = some (.inl (cI, 120, .inl (fun _ => nI 0))) := by rw [e6, fw_un (by omega)]; exact t2
  have r0_ : w6 (n + 4) = some (.inr (7, [.ref (n + 5), .ref (n + 8), .ref (n + 9), .int (nI 0), .int (nI 0)])) := by rw [e6, fw_un (by omega)]; exact r0
  have r1_ : w6 (n + 5) = some (.inr (1, [.ref (n + 6), .ref (n + 7), .int (nI 0)])) := by rw [e6, fw_un (by omega)]; exact r1
  have r2_ : w6 (n + 6) = some (.inl (cI, 120, .inl (fun _ => nI 0))) := by rw [e6, fw_un (by omega)]; exact r2
  have r3_ : w6 (n + 7) = some (.inl (cI, 120, .inl (fun _ => nI 0))) := by rw [e6, fw_un (by omega)]; exact r3
  have r4_ : w6 (n + 8) = some (.inl (cI, 120, .inl (fun _ => nI 0))) := by rw [e6, fw_un (by omega)]; exact r4
  have r5_ : w6 (n + 9) = some (.inl (cI, 120, .inl (fun _ => nI 0))) := by rw [e6, fw_un (by omega)]; exact r5
  have h_ : w6 (n) = some (.inr (9, [.ref (n + 1), .ref (n + 4), .null, .null])) := by rw [e6]; exact fw_us _ _ _
  have h := h_
  have t0 := t0_
  have t1 := t1_
  have t2 := t2_
  have r0 := r0_
  have r1 := r1_
  have r2 := r2_
  have r3 := r3_
  have r4 := r4_
  have r5 := r5_
  refine lv_aload_n (pc := 26) hx hb dBc_init_26 rfl (lv_at hl 0 rfl) ?_
  refine fw_new (pc := 27) (ci := 4) (fs := [.null, .null, .int (nI 0), .int (nI 0), .int (nI 0), .int (nI 0), .null]) (C := RMa) (T := TMa) (N := 7) hx hb hW in_Ma tyMa tyMa_ok hown (hW _ lc_Bc_23) (hW _ ins_Ma) (hW _ ini_Ma) hK.1 hw rfl df_Ma (Nat.le_of_ble_eq_true rfl) (Nat.le_of_ble_eq_true rfl) dBc_init_27 (fun H hw => ?_)
  obtain ⟨w7, e7⟩ : ∃ w_, w_ = fw_up w6 (n + 10) (.inr (4, [.null, .null, .int (nI 0), .int (nI 0), .int (nI 0), .int (nI 0), .null])) := ⟨_, rfl⟩
  have hw : fw_H D kCl (fw_A w (n + 1)) s.heap w7 (n + 11) H locs := by rw [e7]; exact hw
  have h_ : w7 (n) = some (.inr (9, [.ref (n + 1), .ref (n + 4), .null, .null])) := by rw [e7, fw_un (by omega)]; exact h
  have t0_ : w7 (n + 1) = some (.inr (6, [.ref (n + 2), .ref (n + 3), .int (nI 0)])) := by rw [e7, fw_un (by omega)]; exact t0
  have t1_ : w7 (n + 2) = some (.inl (cI, 120, .inl (fun _ => nI 0))) := by rw [e7, fw_un (by omega)]; exact t1
  have t2_ : w7 (n + 3) = some (.inl (cI, 120, .inl (fun _ => nI 0))) := by rw [e7, fw_un (by omega)]; exact t2
  have r0_ : w7 (n + 4) = some (.inr (7, [.ref (n + 5), .ref (n + 8), .ref (n + 9), .int (nI 0), .int (nI 0)])) := by rw [e7, fw_un (by omega)]; exact r0
  have r1_ : w7 (n + 5) = some (.inr (1, [.ref (n + 6), .ref (n + 7), .int (nI 0)])) := by rw [e7, fw_un (by omega)]; exact r1
  have r2_ : w7 (n + 6) = some (.inl (cI, 120, .inl (fun _ => nI 0))) := by rw [e7, fw_un (by omega)]; exact r2
  have r3_ : w7 (n + 7) = some (.inl (cI, 120, .inl (fun _ => nI 0))) := by rw [e7, fw_un (by omega)]; exact r3
  have r4_ : w7 (n + 8) = some (.inl (cI, 120, .inl (fun _ => nI 0))) := by rw [e7, fw_un (by omega)]; exact r4
  have r5_ : w7 (n + 9) = some (.inl (cI, 120, .inl (fun _ => nI 0))) := by rw [e7, fw_un (by omega)]; exact r5
  have f7_ : w7 (n + 10) = some (.inr (4, [.null, .null, .int (nI 0), .int (nI 0), .int (nI 0), .int (nI 0), .null])) := by rw [e7]; exact fw_us _ _ _
  have h := h_
  have t0 := t0_
  have t1 := t1_
  have t2 := t2_
  have r0 := r0_
  have r1 := r1_
  have r2 := r2_
  have r3 := r3_
  have r4 := r4_
  have r5 := r5_
  have f7 := f7_
  refine lv_dup (pc := 30) hx hb dBc_init_30 rfl ?_
  refine fw_cI (pc := 31) (As := []) (rest := [.ref (n + 10), .ref n]) ⟨hx, hb, hml, hown, hW⟩ (c_Ma_init ho1 f7) (cwI 0 hW (kw_I cd_Ma_init) rfl rfl rfl (hW _ ini_Ma) (hW _ lm_Bc_25) (hW _ im_Ma_init) rfl (by decide +kernel) ⟨Nat.le_of_ble_eq_true rfl, Nat.le_of_ble_eq_true rfl⟩) hK hw rfl hl.1 rfl (Nat.le_of_ble_eq_true rfl) dBc_init_31 ⟨Nat.le_of_ble_eq_true rfl, Nat.le_of_ble_eq_true rfl⟩ (fun v w8 H locs hq hw => ?_)
  have hw : fw_H D kCl (fw_A w (n + 1)) s.heap w8 (n + 83) H locs := hw
  obtain ⟨rfl, m0, m1, m2, m3, m4, m5, mo⟩ := hq
  have h_ : w8 (n) = some (.inr (9, [.ref (n + 1), .ref (n + 4), .null, .null])) := (mo _ (by omega)).trans h
  have t0_ : w8 (n + 1) = some (.inr (6, [.ref (n + 2), .ref (n + 3), .int (nI 0)])) := (mo _ (by omega)).trans t0
  have t1_ : w8 (n + 2) = some (.inl (cI, 120, .inl (fun _ => nI 0))) := (mo _ (by omega)).trans t1
  have t2_ : w8 (n + 3) = some (.inl (cI, 120, .inl (fun _ => nI 0))) := (mo _ (by omega)).trans t2
  have r0_ : w8 (n + 4) = some (.inr (7, [.ref (n + 5), .ref (n + 8), .ref (n + 9), .int (nI 0), .int (nI 0)])) := (mo _ (by omega)).trans r0
  have r1_ : w8 (n + 5) = some (.inr (1, [.ref (n + 6), .ref (n + 7), .int (nI 0)])) := (mo _ (by omega)).trans r1
  have r2_ : w8 (n + 6) = some (.inl (cI, 120, .inl (fun _ => nI 0))) := (mo _ (by omega)).trans r2
  have r3_ : w8 (n + 7) = some (.inl (cI, 120, .inl (fun _ => nI 0))) := (mo _ (by omega)).trans r3
  have r4_ : w8 (n + 8) = some (.inl (cI, 120, .inl (fun _ => nI 0))) := (mo _ (by omega)).trans r4
  have r5_ : w8 (n + 9) = some (.inl (cI, 120, .inl (fun _ => nI 0))) := (mo _ (by omega)).trans r5
  have h := h_
  have t0 := t0_
  have t1 := t1_
  have t2 := t2_
  have r0 := r0_
  have r1 := r1_
  have r2 := r2_
  have r3 := r3_
  have r4 := r4_
  have r5 := r5_
  have m0 : w8 (n + 10) = some (.inr (4, [.ref (n + 11), .ref (n + 42), .int (nI 0), .int (nI 0), .int (nI 0), .int (nI 0), .ref (n + 67)])) := m0
  have m1 : w8 (n + 11) = some (.inl (cQ, 10, .inr (.inr (.inr (.inr (fun j => if j < 10 then some (n + 12 + 3 * j) else none)))))) := m1
  have m3 : w8 (n + 42) = some (.inl (cQ, 8, .inr (.inr (.inr (.inr (fun j => if j < 8 then some (n + 43 + 3 * j) else none)))))) := m3
  have m2 : isW0s cL w8 (n + 12) 10 := m2
  have m4 : isW0s cL w8 (n + 43) 8 := m4
  have m5 : arI cL w8 (n + 67) := m5
  refine fw_putF (pc := 34) (ci := 9) (v := .ref (n + 10)) (ty := (.object "BigCalculator$Machine")) (C := RBc) (T := TBc) (N := 4) hx hb hW in_Bc tyBc tyBc_ok nmBc hown hK.1 hw h rfl 2 (by decide) (hW _ lf_Bc_26) (fun _ h => h) rfl hname rfl (by decide +kernel) rfl rfl (Nat.le_of_ble_eq_true rfl) dBc_init_34 (fun H locs hw => ?_)
  obtain ⟨w9, e9⟩ : ∃ w_, w_ = fw_up w8 (n) (.inr (9, [.ref (n + 1), .ref (n + 4), .ref (n + 10), .null])) := ⟨_, rfl⟩
  have hw : fw_H D kCl (fw_A w (n + 1)) s.heap w9 (n + 83) H locs := by rw [e9]; exact hw
  have t0_ : w9 (n + 1) = some (.inr (6, [.ref (n + 2), .ref (n + 3), .int (nI 0)])) := by rw [e9, fw_un (by omega)]; exact t0
  have t1_ : w9 (n + 2) = some (.inl (cI, 120, .inl (fun _ => nI 0))) := by rw [e9, fw_un (by omega)]; exact t1
  have t2_ : w9 (n + 3) = some (.inl (cI, 120, .inl (fun _ => nI 0))) := by rw [e9, fw_un (by omega)]; exact t2
  have r0_ : w9 (n + 4) = some (.inr (7, [.ref (n + 5), .ref (n + 8), .ref (n + 9), .int (nI 0), .int (nI 0)])) := by rw [e9, fw_un (by omega)]; exact r0
  have r1_ : w9 (n + 5) = some (.inr (1, [.ref (n + 6), .ref (n + 7), .int (nI 0)])) := by rw [e9, fw_un (by omega)]; exact r1
  have r2_ : w9 (n + 6) = some (.inl (cI, 120, .inl (fun _ => nI 0))) := by rw [e9, fw_un (by omega)]; exact r2
  have r3_ : w9 (n + 7) = some (.inl (cI, 120, .inl (fun _ => nI 0))) := by rw [e9, fw_un (by omega)]; exact r3
  have r4_ : w9 (n + 8) = some (.inl (cI, 120, .inl (fun _ => nI 0))) := by rw [e9, fw_un (by omega)]; exact r4
  have r5_ : w9 (n + 9) = some (.inl (cI, 120, .inl (fun _ => nI 0))) := by rw [e9, fw_un (by omega)]; exact r5
  have m0_ : w9 (n + 10) = some (.inr (4, [.ref (n + 11), .ref (n + 42), .int (nI 0), .int (nI 0), .int (nI 0), .int (nI 0), .ref (n + 67)])) := by rw [e9, fw_un (by omega)]; exact m0
  have m1_ : w9 (n + 11) = some (.inl (cQ, 10, .inr (.inr (.inr (.inr (fun j => if j < 10 then some (n + 12 + 3 * j) else none)))))) := by rw [e9, fw_un (by omega)]; exact m1
  have m3_ : w9 (n + 42) = some (.inl (cQ, 8, .inr (.inr (.inr (.inr (fun j => if j < 8 then some (n + 43 + 3 * j) else none)))))) := by rw [e9, fw_un (by omega)]; exact m3
  have h_ : w9 (n) = some (.inr (9, [.ref (n + 1), .ref (n + 4), .ref (n + 10), .null])) := by rw [e9]; exact fw_us _ _ _
  have h := h_
  have t0 := t0_
  have t1 := t1_
  have t2 := t2_
  have r0 := r0_
  have r1 := r1_
  have r2 := r2_
  have r3 := r3_
  have r4 := r4_
  have r5 := r5_
  have m0 := m0_
  have m1 := m1_
  have m3 := m3_
  have m2 : isW0s cL w9 (n + 12) 10 := m2.kept (fun a h1 h2 => by rw [e9, fw_un (by omega)])
  have m4 : isW0s cL w9 (n + 43) 8 := m4.kept (fun a h1 h2 => by rw [e9, fw_un (by omega)])
  have m5 : arI cL w9 (n + 67) := m5.kept (fun a h1 h2 => by rw [e9, fw_un (by omega)])
  refine lv_aload_n (pc := 37) hx hb dBc_init_37 rfl (lv_at hl 0 rfl) ?_
  refine fw_new (pc := 38) (ci := 2) (fs := [.null]) (C := RDe) (T := TDe) (N := 1) hx hb hW in_De tyDe tyDe_ok hown (hW _ lc_Bc_30) (hW _ ins_De) (hW _ ini_De) hK.1 hw rfl df_De (Nat.le_of_ble_eq_true rfl) (Nat.le_of_ble_eq_true rfl) dBc_init_38 (fun H hw => ?_)
  obtain ⟨w10, e10⟩ : ∃ w_, w_ = fw_up w9 (n + 83) (.inr (2, [.null])) := ⟨_, rfl⟩
  have hw : fw_H D kCl (fw_A w (n + 1)) s.heap w10 (n + 84) H locs := by rw [e10]; exact hw
  have h_ : w10 (n) = some (.inr (9, [.ref (n + 1), .ref (n + 4), .ref (n + 10), .null])) := by rw [e10, fw_un (by omega)]; exact h
  have t0_ : w10 (n + 1) = some (.inr (6, [.ref (n + 2), .ref (n + 3), .int (nI 0)])) := by rw [e10, fw_un (by omega)]; exact t0
  have t1_ : w10 (n + 2) = some (.inl (cI, 120, .inl (fun _ => nI 0))) := by rw [e10, fw_un (by omega)]; exact t1
  have t2_ : w10 (n + 3) = some (.inl (cI, 120, .inl (fun _ => nI 0))) := by rw [e10, fw_un (by omega)]; exact t2
  have r0_ : w10 (n + 4) = some (.inr (7, [.ref (n + 5), .ref (n + 8), .ref (n + 9), .int (nI 0), .int (nI 0)])) := by rw [e10, fw_un (by omega)]; exact r0
  have r1_ : w10 (n + 5) = some (.inr (1, [.ref (n + 6), .ref (n + 7), .int (nI 0)])) := by rw [e10, fw_un (by omega)]; exact r1
  have r2_ : w10 (n + 6) = some (.inl (cI, 120, .inl (fun _ => nI 0))) := by rw [e10, fw_un (by omega)]; exact r2
  have r3_ : w10 (n + 7) = some (.inl (cI, 120, .inl (fun _ => nI 0))) := by rw [e10, fw_un (by omega)]; exact r3
  have r4_ : w10 (n + 8) = some (.inl (cI, 120, .inl (fun _ => nI 0))) := by rw [e10, fw_un (by omega)]; exact r4
  have r5_ : w10 (n + 9) = some (.inl (cI, 120, .inl (fun _ => nI 0))) := by rw [e10, fw_un (by omega)]; exact r5
  have m0_ : w10 (n + 10) = some (.inr (4, [.ref (n + 11), .ref (n + 42), .int (nI 0), .int (nI 0), .int (nI 0), .int (nI 0), .ref (n + 67)])) := by rw [e10, fw_un (by omega)]; exact m0
  have m1_ : w10 (n + 11) = some (.inl (cQ, 10, .inr (.inr (.inr (.inr (fun j => if j < 10 then some (n + 12 + 3 * j) else none)))))) := by rw [e10, fw_un (by omega)]; exact m1
  have m3_ : w10 (n + 42) = some (.inl (cQ, 8, .inr (.inr (.inr (.inr (fun j => if j < 8 then some (n + 43 + 3 * j) else none)))))) := by rw [e10, fw_un (by omega)]; exact m3
  have f10_ : w10 (n + 83) = some (.inr (2, [.null])) := by rw [e10]; exact fw_us _ _ _
  have h := h_
  have t0 := t0_
  have t1 := t1_
  have t2 := t2_
  have r0 := r0_
  have r1 := r1_
  have r2 := r2_
  have r3 := r3_
  have r4 := r4_
  have r5 := r5_
  have m0 := m0_
  have m1 := m1_
  have m3 := m3_
  have f10 := f10_
  have m2 : isW0s cL w10 (n + 12) 10 := m2.kept (fun a h1 h2 => by rw [e10, fw_un (by omega)])
  have m4 : isW0s cL w10 (n + 43) 8 := m4.kept (fun a h1 h2 => by rw [e10, fw_un (by omega)])
  have m5 : arI cL w10 (n + 67) := m5.kept (fun a h1 h2 => by rw [e10, fw_un (by omega)])
  refine lv_dup (pc := 41) hx hb dBc_init_41 rfl ?_
  refine fw_cI (pc := 42) (As := []) (rest := [.ref (n + 83), .ref n]) ⟨hx, hb, hml, hown, hW⟩ (c_De_init f10) (cwI 0 hW (kw_I cd_De_init) rfl rfl rfl (hW _ ini_De) (hW _ lm_Bc_32) (hW _ im_De_init) rfl (by decide +kernel) ⟨Nat.le_of_ble_eq_true rfl, Nat.le_of_ble_eq_true rfl⟩) hK hw rfl hl.1 rfl (Nat.le_of_ble_eq_true rfl) dBc_init_42 ⟨Nat.le_of_ble_eq_true rfl, Nat.le_of_ble_eq_true rfl⟩ (fun v w11 H locs hq hw => ?_)
  have hw : fw_H D kCl (fw_A w (n + 1)) s.heap w11 (n + 86) H locs := hw
  obtain ⟨rfl, d0, d1, do_⟩ := hq
  have h_ : w11 (n) = some (.inr (9, [.ref (n + 1), .ref (n + 4), .ref (n + 10), .null])) := (do_ _ (by omega)).trans h
  have t0_ : w11 (n + 1) = some (.inr (6, [.ref (n + 2), .ref (n + 3), .int (nI 0)])) := (do_ _ (by omega)).trans t0
  have t1_ : w11 (n + 2) = some (.inl (cI, 120, .inl (fun _ => nI 0))) := (do_ _ (by omega)).trans t1
  have t2_ : w11 (n + 3) = some (.inl (cI, 120, .inl (fun _ => nI 0))) := (do_ _ (by omega)).trans t2
  have r0_ : w11 (n + 4) = some (.inr (7, [.ref (n + 5), .ref (n + 8), .ref (n + 9), .int (nI 0), .int (nI 0)])) := (do_ _ (by omega)).trans r0
  have r1_ : w11 (n + 5) = some (.inr (1, [.ref (n + 6), .ref (n + 7), .int (nI 0)])) := (do_ _ (by omega)).trans r1
  have r2_ : w11 (n + 6) = some (.inl (cI, 120, .inl (fun _ => nI 0))) := (do_ _ (by omega)).trans r2
  have r3_ : w11 (n + 7) = some (.inl (cI, 120, .inl (fun _ => nI 0))) := (do_ _ (by omega)).trans r3
  have r4_ : w11 (n + 8) = some (.inl (cI, 120, .inl (fun _ => nI 0))) := (do_ _ (by omega)).trans r4
  have r5_ : w11 (n + 9) = some (.inl (cI, 120, .inl (fun _ => nI 0))) := (do_ _ (by omega)).trans r5
  have m0_ : w11 (n + 10) = some (.inr (4, [.ref (n + 11), .ref (n + 42), .int (nI 0), .int (nI 0), .int (nI 0), .int (nI 0), .ref (n + 67)])) := (do_ _ (by omega)).trans m0
  have m1_ : w11 (n + 11) = some (.inl (cQ, 10, .inr (.inr (.inr (.inr (fun j => if j < 10 then some (n + 12 + 3 * j) else none)))))) := (do_ _ (by omega)).trans m1
  have m3_ : w11 (n + 42) = some (.inl (cQ, 8, .inr (.inr (.inr (.inr (fun j => if j < 8 then some (n + 43 + 3 * j) else none)))))) := (do_ _ (by omega)).trans m3
  have h := h_
  have t0 := t0_
  have t1 := t1_
  have t2 := t2_
  have r0 := r0_
  have r1 := r1_
  have r2 := r2_
  have r3 := r3_
  have r4 := r4_
  have r5 := r5_
  have m0 := m0_
  have m1 := m1_
  have m3 := m3_
  have m2 : isW0s cL w11 (n + 12) 10 := m2.kept (fun a h1 h2 => do_ a (by omega))
  have m4 : isW0s cL w11 (n + 43) 8 := m4.kept (fun a h1 h2 => do_ a (by omega))
  have m5 : arI cL w11 (n + 67) := m5.kept (fun a h1 h2 => do_ a (by omega))
  have d0 : w11 (n + 83) = some (.inr (2, [.ref (n + 84)])) := d0
  have d1 : isN cL w11 (n + 84) (fun _ => 0) 0 := d1
  refine fw_putF (pc := 45) (ci := 9) (v := .ref (n + 83)) (ty := (.object "BigCalculator$Decimal")) (C := RBc) (T := TBc) (N := 4) hx hb hW in_Bc tyBc tyBc_ok nmBc hown hK.1 hw h rfl 3 (by decide) (hW _ lf_Bc_33) (fun _ h => h) rfl hname rfl (by decide +kernel) rfl rfl (Nat.le_of_ble_eq_true rfl) dBc_init_45 (fun H locs hw => ?_)
  obtain ⟨w12, e12⟩ : ∃ w_, w_ = fw_up w11 (n) (.inr (9, [.ref (n + 1), .ref (n + 4), .ref (n + 10), .ref (n + 83)])) := ⟨_, rfl⟩
  have hw : fw_H D kCl (fw_A w (n + 1)) s.heap w12 (n + 86) H locs := by rw [e12]; exact hw
  have t0_ : w12 (n + 1) = some (.inr (6, [.ref (n + 2), .ref (n + 3), .int (nI 0)])) := by rw [e12, fw_un (by omega)]; exact t0
  have t1_ : w12 (n + 2) = some (.inl (cI, 120, .inl (fun _ => nI 0))) := by rw [e12, fw_un (by omega)]; exact t1
  have t2_ : w12 (n + 3) = some (.inl (cI, 120, .inl (fun _ => nI 0))) := by rw [e12, fw_un (by omega)]; exact t2
  have r0_ : w12 (n + 4) = some (.inr (7, [.ref (n + 5), .ref (n + 8), .ref (n + 9), .int (nI 0), .int (nI 0)])) := by rw [e12, fw_un (by omega)]; exact r0
  have r1_ : w12 (n + 5) = some (.inr (1, [.ref (n + 6), .ref (n + 7), .int (nI 0)])) := by rw [e12, fw_un (by omega)]; exact r1
  have r2_ : w12 (n + 6) = some (.inl (cI, 120, .inl (fun _ => nI 0))) := by rw [e12, fw_un (by omega)]; exact r2
  have r3_ : w12 (n + 7) = some (.inl (cI, 120, .inl (fun _ => nI 0))) := by rw [e12, fw_un (by omega)]; exact r3
  have r4_ : w12 (n + 8) = some (.inl (cI, 120, .inl (fun _ => nI 0))) := by rw [e12, fw_un (by omega)]; exact r4
  have r5_ : w12 (n + 9) = some (.inl (cI, 120, .inl (fun _ => nI 0))) := by rw [e12, fw_un (by omega)]; exact r5
  have m0_ : w12 (n + 10) = some (.inr (4, [.ref (n + 11), .ref (n + 42), .int (nI 0), .int (nI 0), .int (nI 0), .int (nI 0), .ref (n + 67)])) := by rw [e12, fw_un (by omega)]; exact m0
  have m1_ : w12 (n + 11) = some (.inl (cQ, 10, .inr (.inr (.inr (.inr (fun j => if j < 10 then some (n + 12 + 3 * j) else none)))))) := by rw [e12, fw_un (by omega)]; exact m1
  have m3_ : w12 (n + 42) = some (.inl (cQ, 8, .inr (.inr (.inr (.inr (fun j => if j < 8 then some (n + 43 + 3 * j) else none)))))) := by rw [e12, fw_un (by omega)]; exact m3
  have d0_ : w12 (n + 83) = some (.inr (2, [.ref (n + 84)])) := by rw [e12, fw_un (by omega)]; exact d0
  have h_ : w12 (n) = some (.inr (9, [.ref (n + 1), .ref (n + 4), .ref (n + 10), .ref (n + 83)])) := by rw [e12]; exact fw_us _ _ _
  have h := h_
  have t0 := t0_
  have t1 := t1_
  have t2 := t2_
  have r0 := r0_
  have r1 := r1_
  have r2 := r2_
  have r3 := r3_
  have r4 := r4_
  have r5 := r5_
  have m0 := m0_
  have m1 := m1_
  have m3 := m3_
  have d0 := d0_
  have m2 : isW0s cL w12 (n + 12) 10 := m2.kept (fun a h1 h2 => by rw [e12, fw_un (by omega)])
  have m4 : isW0s cL w12 (n + 43) 8 := m4.kept (fun a h1 h2 => by rw [e12, fw_un (by omega)])
  have m5 : arI cL w12 (n + 67) := m5.kept (fun a h1 h2 => by rw [e12, fw_un (by omega)])
  have d1 : isN cL w12 (n + 84) (fun _ => 0) 0 := d1.kept (fun a h1 h2 => by rw [e12, fw_un (by omega)])
  obtain ⟨a0, a1, a2, a3, a4, a5, a6, a7, a8⟩ := m5
  refine fw_vret (pc := 48) hx hb hr hlocks hw dBc_init_48 ⟨rfl, ⟨⟨h, t0, t1, t2⟩, ⟨r0, r1, r2, r3, r4, r5⟩, ⟨m0, m1, m3, a0, a1, d0⟩, fun i hi => ⟨(m2 i hi).1, ?_⟩, fun i hi => ⟨(m4 i hi).1, ?_⟩, fun i hi => ?_, isV0 d1⟩, fun q hq => by rw [e12, fw_un (by omega), do_ q (by omega), e10, fw_un (by omega), e9, fw_un (by omega), mo q (by omega), e7, fw_un (by omega), e6, fw_un (by omega), ro q (by omega), e4, fw_un (by omega), e3, fw_un (by omega), to_ q (by omega), e1, fw_un (by omega)]⟩
  · rw [show bcV0 i = 0 from if_neg (by omega)]; exact isV0 (m2 i hi).2
  · rw [show bcV0 (10 + i) = 0 from if_neg (by omega)]; exact isV0 (m4 i hi).2
  · rcases (show i = 0 ∨ i = 1 ∨ i = 2 ∨ i = 3 ∨ i = 4 ∨ i = 5 ∨ i = 6 by omega) with rfl | rfl | rfl | rfl | rfl | rfl | rfl
    · exact isV0 a3
    · exact isV0 a4
    · exact isV0 a5
    · exact a2
    · exact isV0 a6
    · exact isV0 a7
    · exact isV0 a8
end CO4
