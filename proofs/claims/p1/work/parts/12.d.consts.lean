/-! Constructors of Translator, Arithmetic. Written by wip/gen/consts2.py. -/
section CO2
variable {l : Launch} {D : va_G} {cI cL cQ : ClassId} {z : kZ_T} {w : fw_W}
set_option maxHeartbeats 4000000 in
set_option maxRecDepth 100000 in
theorem c_Tr_init {n : Nat} (h : w n = some (.inr (7, [.null, .null, .null, .int (nI 0), .int (nI 0)]))) : fw_C l yTr_init (Cond.code yTr_init cTr_init 1 none :: kWs) ({ frames := 2, cells := 5, slots := 483, locals := 32 } : Room) D kCl (kty cI cL cQ) z [.ref n] (n + 1) w 5 483 (fun v w' => v = none ∧ w' n = some (.inr (7, [.ref (n + 1), .ref (n + 4), .ref (n + 5), .int (nI 0), .int (nI 0)])) ∧ w' (n + 1) = some (.inr (1, [.ref (n + 2), .ref (n + 3), .int (nI 0)])) ∧ (∀ i, i < 4 → w' (n + 2 + i) = some (.inl (cI, 120, .inl (fun _ => nI 0)))) ∧ ∀ q, q < n ∨ n + 6 ≤ q → w' q = w q) := by
  refine fw_ofW (cc := cTr_init) (maxL := 1) (ret := none) (by decide) rfl (Nat.le_of_ble_eq_true rfl) ?_
  intro p e s m args below meth c hx hb hr hts hown hlocks hname hml hK H ls hw hl
  have hW : ∀ w ∈ kWs, w.before args s = true := fun w h => hts w (List.mem_cons_of_mem _ h)
  have hown : s.vm.findClass RTr = some m.cls := hown
  have hl : lv_has ls 1 [(0, .ref n)] := hl
  refine lv_aload_n (pc := 0) hx hb dTr_init_0 rfl (lv_at hl 0 rfl) ?_
  refine W.objInit hx hb hown (hW _ lm_Tr_3) (hW _ im_obj) (hW _ cd_obj) rfl (by rw [hml]; exact hl.1) rfl dTr_init_1 (Nat.le_of_ble_eq_true rfl) (Nat.le_of_ble_eq_true rfl) ?_
  refine W.eq (g2 := F0 m 4 ls []) rfl ?_
  refine lv_aload_n (pc := 4) hx hb dTr_init_4 rfl (lv_at hl 0 rfl) ?_
  refine fw_new (pc := 5) (ci := 1) (fs := [.null, .null, .int (nI 0)]) (C := RCo) (T := TCo) (N := 3) hx hb hW in_Co tyCo tyCo_ok hown (hW _ lc_Tr_9) (hW _ ins_Co) (hW _ ini_Co) hK.1 hw rfl df_Co (Nat.le_of_ble_eq_true rfl) (Nat.le_of_ble_eq_true rfl) dTr_init_5 (fun H hw => ?_)
  obtain ⟨w1, e1⟩ : ∃ w_, w_ = fw_up w (n + 1) (.inr (1, [.null, .null, .int (nI 0)])) := ⟨_, rfl⟩
  have hw : fw_H D kCl (fw_A w (n + 1)) s.heap w1 (n + 2) H [] := by rw [e1]; exact hw
  have h_ : w1 (n) = some (.inr (7, [.null, .null, .null, .int (nI 0), .int (nI 0)])) := by rw [e1, fw_un (by omega)]; exact h
  have f1_ : w1 (n + 1) = some (.inr (1, [.null, .null, .int (nI 0)])) := by rw [e1]; exact fw_us _ _ _
  have h := h_
  have f1 := f1_
  refine lv_dup (pc := 8) hx hb dTr_init_8 rfl ?_
  refine fw_cI (pc := 9) (As := []) (rest := [.ref (n + 1), .ref n]) ⟨hx, hb, hml, hown, hW⟩ (c_Co_init f1) (cwI 0 hW (kw_I cd_Co_init) rfl rfl rfl (hW _ ini_Co) (hW _ lm_Tr_11) (hW _ im_Co_init) rfl (by decide +kernel) ⟨Nat.le_of_ble_eq_true rfl, Nat.le_of_ble_eq_true rfl⟩) hK hw rfl hl.1 rfl (Nat.le_of_ble_eq_true rfl) dTr_init_9 ⟨Nat.le_of_ble_eq_true rfl, Nat.le_of_ble_eq_true rfl⟩ (fun v w2 H locs hq hw => ?_)
  have hw : fw_H D kCl (fw_A w (n + 1)) s.heap w2 (n + 4) H locs := hw
  obtain ⟨rfl, c0, c1, c2, co⟩ := hq
  have h_ : w2 (n) = some (.inr (7, [.null, .null, .null, .int (nI 0), .int (nI 0)])) := (co _ (by omega)).trans h
  have h := h_
  refine fw_putF (pc := 12) (ci := 7) (v := .ref (n + 1)) (ty := (.object "BigCalculator$Code")) (C := RTr) (T := TTr) (N := 5) hx hb hW in_Tr tyTr tyTr_ok nmTr hown hK.1 hw h rfl 0 (by decide) (hW _ lf_Tr_12) (fun _ h => h) rfl hname rfl (by decide +kernel) rfl rfl (Nat.le_of_ble_eq_true rfl) dTr_init_12 (fun H locs hw => ?_)
  obtain ⟨w3, e3⟩ : ∃ w_, w_ = fw_up w2 (n) (.inr (7, [.ref (n + 1), .null, .null, .int (nI 0), .int (nI 0)])) := ⟨_, rfl⟩
  have hw : fw_H D kCl (fw_A w (n + 1)) s.heap w3 (n + 4) H locs := by rw [e3]; exact hw
  have c0_ : w3 (n + 1) = some (.inr (1, [.ref (n + 2), .ref (n + 3), .int (nI 0)])) := by rw [e3, fw_un (by omega)]; exact c0
  have c1_ : w3 (n + 2) = some (.inl (cI, 120, .inl (fun _ => nI 0))) := by rw [e3, fw_un (by omega)]; exact c1
  have c2_ : w3 (n + 3) = some (.inl (cI, 120, .inl (fun _ => nI 0))) := by rw [e3, fw_un (by omega)]; exact c2
  have h_ : w3 (n) = some (.inr (7, [.ref (n + 1), .null, .null, .int (nI 0), .int (nI 0)])) := by rw [e3]; exact fw_us _ _ _
  have h := h_
  have c0 := c0_
  have c1 := c1_
  have c2 := c2_
  refine lv_aload_n (pc := 15) hx hb dTr_init_15 rfl (lv_at hl 0 rfl) ?_
  refine lv_bipush (pc := 16) (v := (nI 120)) hx hb dTr_init_16 (by decide) ?_
  refine fw_newa (pc := 18) (atype := .int) (a0 := (120, .inl (fun _ => nI 0))) hx hb (hW _ ac_int) rfl hK.1 hw 0 rfl (hK.1.2 0 _ rfl).2 rfl (by decide) rfl (by decide) (Nat.le_of_ble_eq_true rfl) (Nat.le_of_ble_eq_true rfl) dTr_init_18 (fun H hw => ?_)
  obtain ⟨w4, e4⟩ : ∃ w_, w_ = fw_up w3 (n + 4) (.inl (cI, 120, .inl (fun _ => nI 0))) := ⟨_, rfl⟩
  have hw : fw_H D kCl (fw_A w (n + 1)) s.heap w4 (n + 5) H locs := by rw [e4]; exact hw
  have h_ : w4 (n) = some (.inr (7, [.ref (n + 1), .null, .null, .int (nI 0), .int (nI 0)])) := by rw [e4, fw_un (by omega)]; exact h
  have c0_ : w4 (n + 1) = some (.inr (1, [.ref (n + 2), .ref (n + 3), .int (nI 0)])) := by rw [e4, fw_un (by omega)]; exact c0
  have c1_ : w4 (n + 2) = some (.inl (cI, 120, .inl (fun _ => nI 0))) := by rw [e4, fw_un (by omega)]; exact c1
  have c2_ : w4 (n + 3) = some (.inl (cI, 120, .inl (fun _ => nI 0))) := by rw [e4, fw_un (by omega)]; exact c2
  have f4_ : w4 (n + 4) = some (.inl (cI, 120, .inl (fun _ => nI 0))) := by rw [e4]; exact fw_us _ _ _
  have h := h_
  have c0 := c0_
  have c1 := c1_
  have c2 := c2_
  have f4 := f4_
  refine fw_putF (pc := 20) (ci := 7) (v := .ref (n + 4)) (ty := (.array .int)) (C := RTr) (T := TTr) (N := 5) hx hb hW in_Tr tyTr tyTr_ok nmTr hown hK.1 hw h rfl 1 (by decide) (hW _ lf_Tr_18) (fun _ h => h) rfl hname rfl (by decide +kernel) rfl rfl (Nat.le_of_ble_eq_true rfl) dTr_init_20 (fun H locs hw => ?_)
  obtain ⟨w5, e5⟩ : ∃ w_, w_ = fw_up w4 (n) (.inr (7, [.ref (n + 1), .ref (n + 4), .null, .int (nI 0), .int (nI 0)])) := ⟨_, rfl⟩
  have hw : fw_H D kCl (fw_A w (n + 1)) s.heap w5 (n + 5) H locs := by rw [e5]; exact hw
  have c0_ : w5 (n + 1) = some (.inr (1, [.ref (n + 2), .ref (n + 3), .int (nI 0)])) := by rw [e5, fw_un (by omega)]; exact c0
  have c1_ : w5 (n + 2) = some (.inl (cI, 120, .inl (fun _ => nI 0))) := by rw [e5, fw_un (by omega)]; exact c1
  have c2_ : w5 (n + 3) = some (.inl (cI, 120, .inl (fun _ => nI 0))) := by rw [e5, fw_un (by omega)]; exact c2
  have f4_ : w5 (n + 4) = some (.inl (cI, 120, .inl (fun _ => nI 0))) := by rw [e5, fw_un (by omega)]; exact f4
  have h_ : w5 (n) = some (.inr (7, [.ref (n + 1), .ref (n + 4), .null, .int (nI 0), .int (nI 0)])) := by rw [e5]; exact fw_us _ _ _
  have h := h_
  have c0 := c0_
  have c1 := c1_
  have c2 := c2_
  have f4 := f4_
  refine lv_aload_n (pc := 23) hx hb dTr_init_23 rfl (lv_at hl 0 rfl) ?_
  refine lv_bipush (pc := 24) (v := (nI 120)) hx hb dTr_init_24 (by decide) ?_
  refine fw_newa (pc := 26) (atype := .int) (a0 := (120, .inl (fun _ => nI 0))) hx hb (hW _ ac_int) rfl hK.1 hw 0 rfl (hK.1.2 0 _ rfl).2 rfl (by decide) rfl (by decide) (Nat.le_of_ble_eq_true rfl) (Nat.le_of_ble_eq_true rfl) dTr_init_26 (fun H hw => ?_)
  obtain ⟨w6, e6⟩ : ∃ w_, w_ = fw_up w5 (n + 5) (.inl (cI, 120, .inl (fun _ => nI 0))) := ⟨_, rfl⟩
  have hw : fw_H D kCl (fw_A w (n + 1)) s.heap w6 (n + 6) H locs := by rw [e6]; exact hw
  have h_ : w6 (n) = some (.inr (7, [.ref (n + 1), .ref (n + 4), .null, .int (nI 0), .int (nI 0)])) := by rw [e6, fw_un (by omega)]; exact h
  have c0_ : w6 (n + 1) = some (.inr (1, [.ref (n + 2), .ref (n + 3), .int (nI 0)])) := by rw [e6, fw_un (by omega)]; exact c0
  have c1_ : w6 (n + 2) = some (.inl (cI, 120, .inl (fun _ => nI 0))) := by rw [e6, fw_un (by omega)]; exact c1
  have c2_ : w6 (n + 3) = some (.inl (cI, 120, .inl (fun _ => nI 0))) := by rw [e6, fw_un (by omega)]; exact c2
  have f4_ : w6 (n + 4) = some (.inl (cI, 120, .inl (fun _ => nI 0))) := by rw [e6, fw_un (by omega)]; exact f4
  have f6_ : w6 (n + 5) = some (.inl (cI, 120, .inl (fun _ => nI 0))) := by rw [e6]; exact fw_us _ _ _
  have h := h_
  have c0 := c0_
  have c1 := c1_
  have c2 := c2_
  have f4 := f4_
  have f6 := f6_
  refine fw_putF (pc := 28) (ci := 7) (v := .ref (n + 5)) (ty := (.array .int)) (C := RTr) (T := TTr) (N := 5) hx hb hW in_Tr tyTr tyTr_ok nmTr hown hK.1 hw h rfl 2 (by decide) (hW _ lf_Tr_22) (fun _ h => h) rfl hname rfl (by decide +kernel) rfl rfl (Nat.le_of_ble_eq_true rfl) dTr_init_28 (fun H locs hw => ?_)
  obtain ⟨w7, e7⟩ : ∃ w_, w_ = fw_up w6 (n) (.inr (7, [.ref (n + 1), .ref (n + 4), .ref (n + 5), .int (nI 0), .int (nI 0)])) := ⟨_, rfl⟩
  have hw : fw_H D kCl (fw_A w (n + 1)) s.heap w7 (n + 6) H locs := by rw [e7]; exact hw
  have c0_ : w7 (n + 1) = some (.inr (1, [.ref (n + 2), .ref (n + 3), .int (nI 0)])) := by rw [e7, fw_un (by omega)]; exact c0
  have c1_ : w7 (n + 2) = some (.inl (cI, 120, .inl (fun _ => nI 0))) := by rw [e7, fw_un (by omega)]; exact c1
  have c2_ : w7 (n + 3) = some (.inl (cI, 120, .inl (fun _ => nI 0))) := by rw [e7, fw_un (by omega)]; exact c2
  have f4_ : w7 (n + 4) = some (.inl (cI, 120, .inl (fun _ => nI 0))) := by rw [e7, fw_un (by omega)]; exact f4
  have f6_ : w7 (n + 5) = some (.inl (cI, 120, .inl (fun _ => nI 0))) := by rw [e7, fw_un (by omega)]; exact f6
  have h_ : w7 (n) = some (.inr (7, [.ref (n + 1), .ref (n + 4), .ref (n + 5), .int (nI 0), .int (nI 0)])) := by rw [e7]; exact fw_us _ _ _
  have h := h_
  have c0 := c0_
  have c1 := c1_
  have c2 := c2_
  have f4 := f4_
  have f6 := f6_
  refine lv_aload_n (pc := 31) hx hb dTr_init_31 rfl (lv_at hl 0 rfl) ?_
  refine lv_iconst (pc := 32) (v := (nI 0)) hx hb dTr_init_32 (by decide) ?_
  refine fw_put (pc := 33) (ci := 7) (v := .int (nI 0)) (ty := .int) (C := RTr) (T := TTr) (N := 5) hx hb hW in_Tr tyTr tyTr_ok nmTr hown hK.1 hw h rfl 3 (by decide) (hW _ lf_Tr_25) (fun _ h => h) rfl (by decide +kernel) rfl rfl (Nat.le_of_ble_eq_true rfl) dTr_init_33 (fun H locs hw => ?_)
  obtain ⟨w8, e8⟩ : ∃ w_, w_ = fw_up w7 (n) (.inr (7, [.ref (n + 1), .ref (n + 4), .ref (n + 5), .int (nI 0), .int (nI 0)])) := ⟨_, rfl⟩
  have hw : fw_H D kCl (fw_A w (n + 1)) s.heap w8 (n + 6) H locs := by rw [e8]; exact hw
  have c0_ : w8 (n + 1) = some (.inr (1, [.ref (n + 2), .ref (n + 3), .int (nI 0)])) := by rw [e8, fw_un (by omega)]; exact c0
  have c1_ : w8 (n + 2) = some (.inl (cI, 120, .inl (fun _ => nI 0))) := by rw [e8, fw_un (by omega)]; exact c1
  have c2_ : w8 (n + 3) = some (.inl (cI, 120, .inl (fun _ => nI 0))) := by rw [e8, fw_un (by omega)]; exact c2
  have f4_ : w8 (n + 4) = some (.inl (cI, 120, .inl (fun _ => nI 0))) := by rw [e8, fw_un (by omega)]; exact f4
  have f6_ : w8 (n + 5) = some (.inl (cI, 120, .inl (fun _ => nI 0))) := by rw [e8, fw_un (by omega)]; exact f6
  have h_ : w8 (n) = some (.inr (7, [.ref (n + 1), .ref (n + 4), .ref (n + 5), .int (nI 0), .int (nI 0)])) := by rw [e8]; exact fw_us _ _ _
  have h := h_
  have c0 := c0_
  have c1 := c1_
  have c2 := c2_
  have f4 := f4_
  have f6 := f6_
  refine lv_aload_n (pc := 36) hx hb dTr_init_36 rfl (lv_at hl 0 rfl) ?_
  refine lv_iconst (pc := 37) (v := (nI 0)) hx hb dTr_init_37 (by decide) ?_
  refine fw_put (pc := 38) (ci := 7) (v := .int (nI 0)) (ty := .int) (C := RTr) (T := TTr) (N := 5) hx hb hW in_Tr tyTr tyTr_ok nmTr hown hK.1 hw h rfl 4 (by decide) (hW _ lf_Tr_29) (fun _ h => h) rfl (by decide +kernel) rfl rfl (Nat.le_of_ble_eq_true rfl) dTr_init_38 (fun H locs hw => ?_)
  obtain ⟨w9, e9⟩ : ∃ w_, w_ = fw_up w8 (n) (.inr (7, [.ref (n + 1), .ref (n + 4), .ref (n + 5), .int (nI 0), .int (nI 0)])) := ⟨_, rfl⟩
  have hw : fw_H D kCl (fw_A w (n + 1)) s.heap w9 (n + 6) H locs := by rw [e9]; exact hw
  have c0_ : w9 (n + 1) = some (.inr (1, [.ref (n + 2), .ref (n + 3), .int (nI 0)])) := by rw [e9, fw_un (by omega)]; exact c0
  have c1_ : w9 (n + 2) = some (.inl (cI, 120, .inl (fun _ => nI 0))) := by rw [e9, fw_un (by omega)]; exact c1
  have c2_ : w9 (n + 3) = some (.inl (cI, 120, .inl (fun _ => nI 0))) := by rw [e9, fw_un (by omega)]; exact c2
  have f4_ : w9 (n + 4) = some (.inl (cI, 120, .inl (fun _ => nI 0))) := by rw [e9, fw_un (by omega)]; exact f4
  have f6_ : w9 (n + 5) = some (.inl (cI, 120, .inl (fun _ => nI 0))) := by rw [e9, fw_un (by omega)]; exact f6
  have h_ : w9 (n) = some (.inr (7, [.ref (n + 1), .ref (n + 4), .ref (n + 5), .int (nI 0), .int (nI 0)])) := by rw [e9]; exact fw_us _ _ _
  have h := h_
  have c0 := c0_
  have c1 := c1_
  have c2 := c2_
  have f4 := f4_
  have f6 := f6_
  exact fw_vret (pc := 41) hx hb hr hlocks hw dTr_init_41 ⟨rfl, h, c0, fun i hi => by rcases (show i = 0 ∨ i = 1 ∨ i = 2 ∨ i = 3 by omega) with rfl | rfl | rfl | rfl; exact c1; exact c2; exact f4; exact f6, fun q hq => by rw [e9, fw_un (by omega), e8, fw_un (by omega), e7, fw_un (by omega), e6, fw_un (by omega), e5, fw_un (by omega), e4, fw_un (by omega), e3, fw_un (by omega), co q (by omega), e1, fw_un (by omega)]⟩

set_option maxHeartbeats 4000000 in
set_option maxRecDepth 100000 in
theorem c_Ar_init {n : Nat} (h : w n = some (.inr (0, [.null, .null, .null, .null, .null]))) : fw_C l yAr_init (Cond.code yAr_init cAr_init 1 none :: kWs) ({ frames := 3, cells := 15, slots := 367, locals := 52 } : Room) D kCl (kty cI cL cQ) z [.ref n] (n + 1) w 15 367 (fun v w' => v = none ∧ arI cL w' n ∧ ∀ q, q < n ∨ n + 16 ≤ q → w' q = w q) := by
  refine fw_ofW (cc := cAr_init) (maxL := 1) (ret := none) (by decide) rfl (Nat.le_of_ble_eq_true rfl) ?_
  intro p e s m args below meth c hx hb hr hts hown hlocks hname hml hK H ls hw hl
  have hW : ∀ w ∈ kWs, w.before args s = true := fun w h => hts w (List.mem_cons_of_mem _ h)
  have hown : s.vm.findClass RAr = some m.cls := hown
  have hl : lv_has ls 1 [(0, .ref n)] := hl
  refine lv_aload_n (pc := 0) hx hb dAr_init_0 rfl (lv_at hl 0 rfl) ?_
  refine W.objInit hx hb hown (hW _ lm_Ar_3) (hW _ im_obj) (hW _ cd_obj) rfl (by rw [hml]; exact hl.1) rfl dAr_init_1 (Nat.le_of_ble_eq_true rfl) (Nat.le_of_ble_eq_true rfl) ?_
  refine W.eq (g2 := F0 m 4 ls []) rfl ?_
  refine lv_aload_n (pc := 4) hx hb dAr_init_4 rfl (lv_at hl 0 rfl) ?_
  refine fw_new (pc := 5) (ci := 3) (fs := [.null, .null, .null]) (C := RDi) (T := TDi) (N := 3) hx hb hW in_Di tyDi tyDi_ok hown (hW _ lc_Ar_9) (hW _ ins_Di) (hW _ ini_Di) hK.1 hw rfl df_Di (Nat.le_of_ble_eq_true rfl) (Nat.le_of_ble_eq_true rfl) dAr_init_5 (fun H hw => ?_)
  obtain ⟨w1, e1⟩ : ∃ w_, w_ = fw_up w (n + 1) (.inr (3, [.null, .null, .null])) := ⟨_, rfl⟩
  have hw : fw_H D kCl (fw_A w (n + 1)) s.heap w1 (n + 2) H [] := by rw [e1]; exact hw
  have h_ : w1 (n) = some (.inr (0, [.null, .null, .null, .null, .null])) := by rw [e1, fw_un (by omega)]; exact h
  have f1_ : w1 (n + 1) = some (.inr (3, [.null, .null, .null])) := by rw [e1]; exact fw_us _ _ _
  have h := h_
  have f1 := f1_
  refine lv_dup (pc := 8) hx hb dAr_init_8 rfl ?_
  refine fw_cI (pc := 9) (As := []) (rest := [.ref (n + 1), .ref n]) ⟨hx, hb, hml, hown, hW⟩ (c_Di_init f1) (cwI 0 hW (kw_I cd_Di_init) rfl rfl rfl (hW _ ini_Di) (hW _ lm_Ar_11) (hW _ im_Di_init) rfl (by decide +kernel) ⟨Nat.le_of_ble_eq_true rfl, Nat.le_of_ble_eq_true rfl⟩) hK hw rfl hl.1 rfl (Nat.le_of_ble_eq_true rfl) dAr_init_9 ⟨Nat.le_of_ble_eq_true rfl, Nat.le_of_ble_eq_true rfl⟩ (fun v w2 H locs hq hw => ?_)
  have hw : fw_H D kCl (fw_A w (n + 1)) s.heap w2 (n + 8) H locs := hw
  obtain ⟨rfl, d0, d1, d2, d3, do_⟩ := hq
  have h_ : w2 (n) = some (.inr (0, [.null, .null, .null, .null, .null])) := (do_ _ (by omega)).trans h
  have h := h_
  have d1a : w2 (n + 2) = some (.inr (5, [.ref (n + 3), .int (nI 0)])) := d1.1
  have d1b : w2 (n + 3) = some (.inl (cL, 50, .inr (.inl (fun i => lN ((fun _ => 0) i))))) := d1.2
  have d2a : w2 (n + 4) = some (.inr (5, [.ref (n + 5), .int (nI 0)])) := d2.1
  have d2b : w2 (n + 5) = some (.inl (cL, 50, .inr (.inl (fun i => lN ((fun _ => 0) i))))) := d2.2
  have d3a : w2 (n + 6) = some (.inr (5, [.ref (n + 7), .int (nI 0)])) := d3.1
  have d3b : w2 (n + 7) = some (.inl (cL, 50, .inr (.inl (fun i => lN ((fun _ => 0) i))))) := d3.2
  refine fw_putF (pc := 12) (ci := 0) (v := .ref (n + 1)) (ty := (.object "BigCalculator$Divider")) (C := RAr) (T := TAr) (N := 5) hx hb hW in_Ar tyAr tyAr_ok nmAr hown hK.1 hw h rfl 0 (by decide) (hW _ lf_Ar_12) (fun _ h => h) rfl hname rfl (by decide +kernel) rfl rfl (Nat.le_of_ble_eq_true rfl) dAr_init_12 (fun H locs hw => ?_)
  obtain ⟨w3, e3⟩ : ∃ w_, w_ = fw_up w2 (n) (.inr (0, [.ref (n + 1), .null, .null, .null, .null])) := ⟨_, rfl⟩
  have hw : fw_H D kCl (fw_A w (n + 1)) s.heap w3 (n + 8) H locs := by rw [e3]; exact hw
  have d0_ : w3 (n + 1) = some (.inr (3, [.ref (n + 2), .ref (n + 4), .ref (n + 6)])) := by rw [e3, fw_un (by omega)]; exact d0
  have d1a_ : w3 (n + 2) = some (.inr (5, [.ref (n + 3), .int (nI 0)])) := by rw [e3, fw_un (by omega)]; exact d1a
  have d1b_ : w3 (n + 3) = some (.inl (cL, 50, .inr (.inl (fun i => lN ((fun _ => 0) i))))) := by rw [e3, fw_un (by omega)]; exact d1b
  have d2a_ : w3 (n + 4) = some (.inr (5, [.ref (n + 5), .int (nI 0)])) := by rw [e3, fw_un (by omega)]; exact d2a
  have d2b_ : w3 (n + 5) = some (.inl (cL, 50, .inr (.inl (fun i => lN ((fun _ => 0) i))))) := by rw [e3, fw_un (by omega)]; exact d2b
  have d3a_ : w3 (n + 6) = some (.inr (5, [.ref (n + 7), .int (nI 0)])) := by rw [e3, fw_un (by omega)]; exact d3a
  have d3b_ : w3 (n + 7) = some (.inl (cL, 50, .inr (.inl (fun i => lN ((fun _ => 0) i))))) := by rw [e3, fw_un (by omega)]; exact d3b
  have h_ : w3 (n) = some (.inr (0, [.ref (n + 1), .null, .null, .null, .null])) := by rw [e3]; exact fw_us _ _ _
  have h := h_
  have d0 := d0_
  have d1a := d1a_
  have d1b := d1b_
  have d2a := d2a_
  have d2b := d2b_
  have d3a := d3a_
  have d3b := d3b_
  refine lv_aload_n (pc := 15) hx hb dAr_init_15 rfl (lv_at hl 0 rfl) ?_
  refine fw_new (pc := 16) (ci := 5) (fs := [.null, .int (nI 0)]) (C := RNa) (T := TNa) (N := 2) hx hb hW in_Na tyNa tyNa_ok hown (hW _ lc_Ar_18) (hW _ ins_Na) (hW _ ini_Na) hK.1 hw rfl df_Na (Nat.le_of_ble_eq_true rfl) (Nat.le_of_ble_eq_true rfl) dAr_init_16 (fun H hw => ?_)
  obtain ⟨w4, e4⟩ : ∃ w_, w_ = fw_up w3 (n + 8) (.inr (5, [.null, .int (nI 0)])) := ⟨_, rfl⟩
  have hw : fw_H D kCl (fw_A w (n + 1)) s.heap w4 (n + 9) H locs := by rw [e4]; exact hw
  have h_ : w4 (n) = some (.inr (0, [.ref (n + 1), .null, .null, .null, .null])) := by rw [e4, fw_un (by omega)]; exact h
  have d0_ : w4 (n + 1) = some (.inr (3, [.ref (n + 2), .ref (n + 4), .ref (n + 6)])) := by rw [e4, fw_un (by omega)]; exact d0
  have d1a_ : w4 (n + 2) = some (.inr (5, [.ref (n + 3), .int (nI 0)])) := by rw [e4, fw_un (by omega)]; exact d1a
  have d1b_ : w4 (n + 3) = some (.inl (cL, 50, .inr (.inl (fun i => lN ((fun _ => 0) i))))) := by rw [e4, fw_un (by omega)]; exact d1b
  have d2a_ : w4 (n + 4) = some (.inr (5, [.ref (n + 5), .int (nI 0)])) := by rw [e4, fw_un (by omega)]; exact d2a
  have d2b_ : w4 (n + 5) = some (.inl (cL, 50, .inr (.inl (fun i => lN ((fun _ => 0) i))))) := by rw [e4, fw_un (by omega)]; exact d2b
  have d3a_ : w4 (n + 6) = some (.inr (5, [.ref (n + 7), .int (nI 0)])) := by rw [e4, fw_un (by omega)]; exact d3a
  have d3b_ : w4 (n + 7) = some (.inl (cL, 50, .inr (.inl (fun i => lN ((fun _ => 0) i))))) := by rw [e4, fw_un (by omega)]; exact d3b
  have f4_ : w4 (n + 8) = some (.inr (5, [.null, .int (nI 0)])) := by rw [e4]; exact fw_us _ _ _
  have h := h_
  have d0 := d0_
  have d1a := d1a_
  have d1b := d1b_
  have d2a := d2a_
  have d2b := d2b_
  have d3a := d3a_
  have d3b := d3b_
  have f4 := f4_
  refine lv_dup (pc := 19) hx hb dAr_init_19 rfl ?_
  refine fw_cI (pc := 20) (As := []) (rest := [.ref (n + 8), .ref n]) ⟨hx, hb, hml, hown, hW⟩ (c_Na_init f4) (cwI 0 hW (kw_I cd_Na_init) rfl rfl rfl (hW _ ini_Na) (hW _ lm_Ar_20) (hW _ im_Na_init) rfl (by decide +kernel) ⟨Nat.le_of_ble_eq_true rfl, Nat.le_of_ble_eq_true rfl⟩) hK hw rfl hl.1 rfl (Nat.le_of_ble_eq_true rfl) dAr_init_20 ⟨Nat.le_of_ble_eq_true rfl, Nat.le_of_ble_eq_true rfl⟩ (fun v w5 H locs hq hw => ?_)
  have hw : fw_H D kCl (fw_A w (n + 1)) s.heap w5 (n + 10) H locs := hw
  obtain ⟨rfl, hn5, ho5⟩ := hq
  have h_ : w5 (n) = some (.inr (0, [.ref (n + 1), .null, .null, .null, .null])) := (ho5 _ (by omega) (by omega)).trans h
  have d0_ : w5 (n + 1) = some (.inr (3, [.ref (n + 2), .ref (n + 4), .ref (n + 6)])) := (ho5 _ (by omega) (by omega)).trans d0
  have d1a_ : w5 (n + 2) = some (.inr (5, [.ref (n + 3), .int (nI 0)])) := (ho5 _ (by omega) (by omega)).trans d1a
  have d1b_ : w5 (n + 3) = some (.inl (cL, 50, .inr (.inl (fun i => lN ((fun _ => 0) i))))) := (ho5 _ (by omega) (by omega)).trans d1b
  have d2a_ : w5 (n + 4) = some (.inr (5, [.ref (n + 5), .int (nI 0)])) := (ho5 _ (by omega) (by omega)).trans d2a
  have d2b_ : w5 (n + 5) = some (.inl (cL, 50, .inr (.inl (fun i => lN ((fun _ => 0) i))))) := (ho5 _ (by omega) (by omega)).trans d2b
  have d3a_ : w5 (n + 6) = some (.inr (5, [.ref (n + 7), .int (nI 0)])) := (ho5 _ (by omega) (by omega)).trans d3a
  have d3b_ : w5 (n + 7) = some (.inl (cL, 50, .inr (.inl (fun i => lN ((fun _ => 0) i))))) := (ho5 _ (by omega) (by omega)).trans d3b
  have h := h_
  have d0 := d0_
  have d1a := d1a_
  have d1b := d1b_
  have d2a := d2a_
  have d2b := d2b_
  have d3a := d3a_
  have d3b := d3b_
  have na5 : w5 (n + 8) = some (.inr (5, [.ref (n + 9), .int (nI 0)])) := hn5.1
  have nl5 : w5 (n + 9) = some (.inl (cL, 50, .inr (.inl (fun i => lN ((fun _ => 0) i))))) := hn5.2
  refine fw_putF (pc := 23) (ci := 0) (v := .ref (n + 8)) (ty := (.object "BigCalculator$Natural")) (C := RAr) (T := TAr) (N := 5) hx hb hW in_Ar tyAr tyAr_ok nmAr hown hK.1 hw h rfl 1 (by decide) (hW _ lf_Ar_21) (fun _ h => h) rfl hname rfl (by decide +kernel) rfl rfl (Nat.le_of_ble_eq_true rfl) dAr_init_23 (fun H locs hw => ?_)
  obtain ⟨w6, e6⟩ : ∃ w_, w_ = fw_up w5 (n) (.inr (0, [.ref (n + 1), .ref (n + 8), .null, .null, .null])) := ⟨_, rfl⟩
  have hw : fw_H D kCl (fw_A w (n + 1)) s.heap w6 (n + 10) H locs := by rw [e6]; exact hw
  have d0_ : w6 (n + 1) = some (.inr (3, [.ref (n + 2), .ref (n + 4), .ref (n + 6)])) := by rw [e6, fw_un (by omega)]; exact d0
  have d1a_ : w6 (n + 2) = some (.inr (5, [.ref (n + 3), .int (nI 0)])) := by rw [e6, fw_un (by omega)]; exact d1a
  have d1b_ : w6 (n + 3) = some (.inl (cL, 50, .inr (.inl (fun i => lN ((fun _ => 0) i))))) := by rw [e6, fw_un (by omega)]; exact d1b
  have d2a_ : w6 (n + 4) = some (.inr (5, [.ref (n + 5), .int (nI 0)])) := by rw [e6, fw_un (by omega)]; exact d2a
  have d2b_ : w6 (n + 5) = some (.inl (cL, 50, .inr (.inl (fun i => lN ((fun _ => 0) i))))) := by rw [e6, fw_un (by omega)]; exact d2b
  have d3a_ : w6 (n + 6) = some (.inr (5, [.ref (n + 7), .int (nI 0)])) := by rw [e6, fw_un (by omega)]; exact d3a
  have d3b_ : w6 (n + 7) = some (.inl (cL, 50, .inr (.inl (fun i => lN ((fun _ => 0) i))))) := by rw [e6, fw_un (by omega)]; exact d3b
  have na5_ : w6 (n + 8) = some (.inr (5, [.ref (n + 9), .int (nI 0)])) := by rw [e6, fw_un (by omega)]; exact na5
  have nl5_ : w6 (n + 9) = some (.inl (cL, 50, .inr (.inl (fun i => lN ((fun _ => 0) i))))) := by rw [e6, fw_un (by omega)]; exact nl5
  have h_ : w6 (n) = some (.inr (0, [.ref (n + 1), .ref (n + 8), .null, .null, .null])) := by rw [e6]; exact fw_us _ _ _
  have h := h_
  have d0 := d0_
  have d1a := d1a_
  have d1b := d1b_
  have d2a := d2a_
  have d2b := d2b_
  have d3a := d3a_
  have d3b := d3b_
  have na5 := na5_
  have nl5 := nl5_
  refine lv_aload_n (pc := 26) hx hb dAr_init_26 rfl (lv_at hl 0 rfl) ?_
  refine fw_get (pc := 27) (ci := 0) (v := .ref (n + 8)) (C := RAr) (T := TAr) (N := 5) hx hb hW in_Ar hown hK.1 hw h rfl 1 (by decide) (hW _ lf_Ar_21) (fun _ h => h) rfl dAr_init_27 ?_
  refine lv_lconst (pc := 30) (v := lN 1) hx hb dAr_init_30 (by decide) ?_
  refine fw_cV (pc := 31) (As := [.long (lN 1)]) (rest := []) ⟨hx, hb, hml, hown, hW⟩ (c_Na_becomeLong (x := 1) (by decide) (fun _ _ => by show 0 < _; decide) na5 nl5) (cwV 1 hW (kw_V lm_Ar_25 im_Na_becomeLong se_Na_becomeLong ini_Na cd_Na_becomeLong) rfl rfl rfl (by decide +kernel) ⟨Nat.le_of_ble_eq_true rfl, Nat.le_of_ble_eq_true rfl⟩) hK hw na5 rfl rfl hl.1 rfl (Nat.le_of_ble_eq_true rfl) dAr_init_31 ⟨Nat.le_of_ble_eq_true rfl, Nat.le_of_ble_eq_true rfl⟩ (fun v w7 H locs hq hw => ?_)
  obtain ⟨rfl, ⟨g1, k1, ⟨o1, o2⟩, o3, o4, o5, o6⟩, oo⟩ := hq
  have h_ : w7 (n) = some (.inr (0, [.ref (n + 1), .ref (n + 8), .null, .null, .null])) := (oo _ (by omega) (by omega)).trans h
  have d0_ : w7 (n + 1) = some (.inr (3, [.ref (n + 2), .ref (n + 4), .ref (n + 6)])) := (oo _ (by omega) (by omega)).trans d0
  have d1a_ : w7 (n + 2) = some (.inr (5, [.ref (n + 3), .int (nI 0)])) := (oo _ (by omega) (by omega)).trans d1a
  have d1b_ : w7 (n + 3) = some (.inl (cL, 50, .inr (.inl (fun i => lN ((fun _ => 0) i))))) := (oo _ (by omega) (by omega)).trans d1b
  have d2a_ : w7 (n + 4) = some (.inr (5, [.ref (n + 5), .int (nI 0)])) := (oo _ (by omega) (by omega)).trans d2a
  have d2b_ : w7 (n + 5) = some (.inl (cL, 50, .inr (.inl (fun i => lN ((fun _ => 0) i))))) := (oo _ (by omega) (by omega)).trans d2b
  have d3a_ : w7 (n + 6) = some (.inr (5, [.ref (n + 7), .int (nI 0)])) := (oo _ (by omega) (by omega)).trans d3a
  have d3b_ : w7 (n + 7) = some (.inl (cL, 50, .inr (.inl (fun i => lN ((fun _ => 0) i))))) := (oo _ (by omega) (by omega)).trans d3b
  have h := h_
  have d0 := d0_
  have d1a := d1a_
  have d1b := d1b_
  have d2a := d2a_
  have d2b := d2b_
  have d3a := d3a_
  have d3b := d3b_
  have o1 : w7 (n + 8) = some (.inr (5, [.ref (n + 9), .int (nI k1)])) := o1
  have o2 : w7 (n + 9) = some (.inl (cL, 50, .inr (.inl (fun i => lN (g1 i))))) := o2
  refine lv_aload_n (pc := 34) hx hb dAr_init_34 rfl (lv_at hl 0 rfl) ?_
  refine fw_new (pc := 35) (ci := 5) (fs := [.null, .int (nI 0)]) (C := RNa) (T := TNa) (N := 2) hx hb hW in_Na tyNa tyNa_ok hown (hW _ lc_Ar_18) (hW _ ins_Na) (hW _ ini_Na) hK.1 hw rfl df_Na (Nat.le_of_ble_eq_true rfl) (Nat.le_of_ble_eq_true rfl) dAr_init_35 (fun H hw => ?_)
  obtain ⟨w8, e8⟩ : ∃ w_, w_ = fw_up w7 (n + 10) (.inr (5, [.null, .int (nI 0)])) := ⟨_, rfl⟩
  have hw : fw_H D kCl (fw_A w (n + 1)) s.heap w8 (n + 11) H locs := by rw [e8]; exact hw
  have h_ : w8 (n) = some (.inr (0, [.ref (n + 1), .ref (n + 8), .null, .null, .null])) := by rw [e8, fw_un (by omega)]; exact h
  have d0_ : w8 (n + 1) = some (.inr (3, [.ref (n + 2), .ref (n + 4), .ref (n + 6)])) := by rw [e8, fw_un (by omega)]; exact d0
  have d1a_ : w8 (n + 2) = some (.inr (5, [.ref (n + 3), .int (nI 0)])) := by rw [e8, fw_un (by omega)]; exact d1a
  have d1b_ : w8 (n + 3) = some (.inl (cL, 50, .inr (.inl (fun i => lN ((fun _ => 0) i))))) := by rw [e8, fw_un (by omega)]; exact d1b
  have d2a_ : w8 (n + 4) = some (.inr (5, [.ref (n + 5), .int (nI 0)])) := by rw [e8, fw_un (by omega)]; exact d2a
  have d2b_ : w8 (n + 5) = some (.inl (cL, 50, .inr (.inl (fun i => lN ((fun _ => 0) i))))) := by rw [e8, fw_un (by omega)]; exact d2b
  have d3a_ : w8 (n + 6) = some (.inr (5, [.ref (n + 7), .int (nI 0)])) := by rw [e8, fw_un (by omega)]; exact d3a
  have d3b_ : w8 (n + 7) = some (.inl (cL, 50, .inr (.inl (fun i => lN ((fun _ => 0) i))))) := by rw [e8, fw_un (by omega)]; exact d3b
  have o1_ : w8 (n + 8) = some (.inr (5, [.ref (n + 9), .int (nI k1)])) := by rw [e8, fw_un (by omega)]; exact o1
  have o2_ : w8 (n + 9) = some (.inl (cL, 50, .inr (.inl (fun i => lN (g1 i))))) := by rw [e8, fw_un (by omega)]; exact o2
  have f8_ : w8 (n + 10) = some (.inr (5, [.null, .int (nI 0)])) := by rw [e8]; exact fw_us _ _ _
  have h := h_
  have d0 := d0_
  have d1a := d1a_
  have d1b := d1b_
  have d2a := d2a_
  have d2b := d2b_
  have d3a := d3a_
  have d3b := d3b_
  have o1 := o1_
  have o2 := o2_
  have f8 := f8_
  refine lv_dup (pc := 38) hx hb dAr_init_38 rfl ?_
  refine fw_cI (pc := 39) (As := []) (rest := [.ref (n + 10), .ref n]) ⟨hx, hb, hml, hown, hW⟩ (c_Na_init f8) (cwI 0 hW (kw_I cd_Na_init) rfl rfl rfl (hW _ ini_Na) (hW _ lm_Ar_20) (hW _ im_Na_init) rfl (by decide +kernel) ⟨Nat.le_of_ble_eq_true rfl, Nat.le_of_ble_eq_true rfl⟩) hK hw rfl hl.1 rfl (Nat.le_of_ble_eq_true rfl) dAr_init_39 ⟨Nat.le_of_ble_eq_true rfl, Nat.le_of_ble_eq_true rfl⟩ (fun v w9 H locs hq hw => ?_)
  have hw : fw_H D kCl (fw_A w (n + 1)) s.heap w9 (n + 12) H locs := hw
  obtain ⟨rfl, hn9, ho9⟩ := hq
  have h_ : w9 (n) = some (.inr (0, [.ref (n + 1), .ref (n + 8), .null, .null, .null])) := (ho9 _ (by omega) (by omega)).trans h
  have d0_ : w9 (n + 1) = some (.inr (3, [.ref (n + 2), .ref (n + 4), .ref (n + 6)])) := (ho9 _ (by omega) (by omega)).trans d0
  have d1a_ : w9 (n + 2) = some (.inr (5, [.ref (n + 3), .int (nI 0)])) := (ho9 _ (by omega) (by omega)).trans d1a
  have d1b_ : w9 (n + 3) = some (.inl (cL, 50, .inr (.inl (fun i => lN ((fun _ => 0) i))))) := (ho9 _ (by omega) (by omega)).trans d1b
  have d2a_ : w9 (n + 4) = some (.inr (5, [.ref (n + 5), .int (nI 0)])) := (ho9 _ (by omega) (by omega)).trans d2a
  have d2b_ : w9 (n + 5) = some (.inl (cL, 50, .inr (.inl (fun i => lN ((fun _ => 0) i))))) := (ho9 _ (by omega) (by omega)).trans d2b
  have d3a_ : w9 (n + 6) = some (.inr (5, [.ref (n + 7), .int (nI 0)])) := (ho9 _ (by omega) (by omega)).trans d3a
  have d3b_ : w9 (n + 7) = some (.inl (cL, 50, .inr (.inl (fun i => lN ((fun _ => 0) i))))) := (ho9 _ (by omega) (by omega)).trans d3b
  have o1_ : w9 (n + 8) = some (.inr (5, [.ref (n + 9), .int (nI k1)])) := (ho9 _ (by omega) (by omega)).trans o1
  have o2_ : w9 (n + 9) = some (.inl (cL, 50, .inr (.inl (fun i => lN (g1 i))))) := (ho9 _ (by omega) (by omega)).trans o2
  have h := h_
  have d0 := d0_
  have d1a := d1a_
  have d1b := d1b_
  have d2a := d2a_
  have d2b := d2b_
  have d3a := d3a_
  have d3b := d3b_
  have o1 := o1_
  have o2 := o2_
  have na9 : w9 (n + 10) = some (.inr (5, [.ref (n + 11), .int (nI 0)])) := hn9.1
  have nl9 : w9 (n + 11) = some (.inl (cL, 50, .inr (.inl (fun i => lN ((fun _ => 0) i))))) := hn9.2
  refine fw_putF (pc := 42) (ci := 0) (v := .ref (n + 10)) (ty := (.object "BigCalculator$Natural")) (C := RAr) (T := TAr) (N := 5) hx hb hW in_Ar tyAr tyAr_ok nmAr hown hK.1 hw h rfl 2 (by decide) (hW _ lf_Ar_29) (fun _ h => h) rfl hname rfl (by decide +kernel) rfl rfl (Nat.le_of_ble_eq_true rfl) dAr_init_42 (fun H locs hw => ?_)
  obtain ⟨w10, e10⟩ : ∃ w_, w_ = fw_up w9 (n) (.inr (0, [.ref (n + 1), .ref (n + 8), .ref (n + 10), .null, .null])) := ⟨_, rfl⟩
  have hw : fw_H D kCl (fw_A w (n + 1)) s.heap w10 (n + 12) H locs := by rw [e10]; exact hw
  have d0_ : w10 (n + 1) = some (.inr (3, [.ref (n + 2), .ref (n + 4), .ref (n + 6)])) := by rw [e10, fw_un (by omega)]; exact d0
  have d1a_ : w10 (n + 2) = some (.inr (5, [.ref (n + 3), .int (nI 0)])) := by rw [e10, fw_un (by omega)]; exact d1a
  have d1b_ : w10 (n + 3) = some (.inl (cL, 50, .inr (.inl (fun i => lN ((fun _ => 0) i))))) := by rw [e10, fw_un (by omega)]; exact d1b
  have d2a_ : w10 (n + 4) = some (.inr (5, [.ref (n + 5), .int (nI 0)])) := by rw [e10, fw_un (by omega)]; exact d2a
  have d2b_ : w10 (n + 5) = some (.inl (cL, 50, .inr (.inl (fun i => lN ((fun _ => 0) i))))) := by rw [e10, fw_un (by omega)]; exact d2b
  have d3a_ : w10 (n + 6) = some (.inr (5, [.ref (n + 7), .int (nI 0)])) := by rw [e10, fw_un (by omega)]; exact d3a
  have d3b_ : w10 (n + 7) = some (.inl (cL, 50, .inr (.inl (fun i => lN ((fun _ => 0) i))))) := by rw [e10, fw_un (by omega)]; exact d3b
  have o1_ : w10 (n + 8) = some (.inr (5, [.ref (n + 9), .int (nI k1)])) := by rw [e10, fw_un (by omega)]; exact o1
  have o2_ : w10 (n + 9) = some (.inl (cL, 50, .inr (.inl (fun i => lN (g1 i))))) := by rw [e10, fw_un (by omega)]; exact o2
  have na9_ : w10 (n + 10) = some (.inr (5, [.ref (n + 11), .int (nI 0)])) := by rw [e10, fw_un (by omega)]; exact na9
  have nl9_ : w10 (n + 11) = some (.inl (cL, 50, .inr (.inl (fun i => lN ((fun _ => 0) i))))) := by rw [e10, fw_un (by omega)]; exact nl9
  have h_ : w10 (n) = some (.inr (0, [.ref (n + 1), .ref (n + 8), .ref (n + 10), .null, .null])) := by rw [e10]; exact fw_us _ _ _
  have h := h_
  have d0 := d0_
  have d1a := d1a_
  have d1b := d1b_
  have d2a := d2a_
  have d2b := d2b_
  have d3a := d3a_
  have d3b := d3b_
  have o1 := o1_
  have o2 := o2_
  have na9 := na9_
  have nl9 := nl9_
  refine lv_aload_n (pc := 45) hx hb dAr_init_45 rfl (lv_at hl 0 rfl) ?_
  refine fw_new (pc := 46) (ci := 5) (fs := [.null, .int (nI 0)]) (C := RNa) (T := TNa) (N := 2) hx hb hW in_Na tyNa tyNa_ok hown (hW _ lc_Ar_18) (hW _ ins_Na) (hW _ ini_Na) hK.1 hw rfl df_Na (Nat.le_of_ble_eq_true rfl) (Nat.le_of_ble_eq_true rfl) dAr_init_46 (fun H hw => ?_)
  obtain ⟨w11, e11⟩ : ∃ w_, w_ = fw_up w10 (n + 12) (.inr (5, [.null, .int (nI 0)])) := ⟨_, rfl⟩
  have hw : fw_H D kCl (fw_A w (n + 1)) s.heap w11 (n + 13) H locs := by rw [e11]; exact hw
  have h_ : w11 (n) = some (.inr (0, [.ref (n + 1), .ref (n + 8), .ref (n + 10), .null, .null])) := by rw [e11, fw_un (by omega)]; exact h
  have d0_ : w11 (n + 1) = some (.inr (3, [.ref (n + 2), .ref (n + 4), .ref (n + 6)])) := by rw [e11, fw_un (by omega)]; exact d0
  have d1a_ : w11 (n + 2) = some (.inr (5, [.ref (n + 3), .int (nI 0)])) := by rw [e11, fw_un (by omega)]; exact d1a
  have d1b_ : w11 (n + 3) = some (.inl (cL, 50, .inr (.inl (fun i => lN ((fun _ => 0) i))))) := by rw [e11, fw_un (by omega)]; exact d1b
  have d2a_ : w11 (n + 4) = some (.inr (5, [.ref (n + 5), .int (nI 0)])) := by rw [e11, fw_un (by omega)]; exact d2a
  have d2b_ : w11 (n + 5) = some (.inl (cL, 50, .inr (.inl (fun i => lN ((fun _ => 0) i))))) := by rw [e11, fw_un (by omega)]; exact d2b
  have d3a_ : w11 (n + 6) = some (.inr (5, [.ref (n + 7), .int (nI 0)])) := by rw [e11, fw_un (by omega)]; exact d3a
  have d3b_ : w11 (n + 7) = some (.inl (cL, 50, .inr (.inl (fun i => lN ((fun _ => 0) i))))) := by rw [e11, fw_un (by omega)]; exact d3b
  have o1_ : w11 (n + 8) = some (.inr (5, [.ref (n + 9), .int (nI k1)])) := by rw [e11, fw_un (by omega)]; exact o1
  have o2_ : w11 (n + 9) = some (.inl (cL, 50, .inr (.inl (fun i => lN (g1 i))))) := by rw [e11, fw_un (by omega)]; exact o2
  have na9_ : w11 (n + 10) = some (.inr (5, [.ref (n + 11), .int (nI 0)])) := by rw [e11, fw_un (by omega)]; exact na9
  have nl9_ : w11 (n + 11) = some (.inl (cL, 50, .inr (.inl (fun i => lN ((fun _ => 0) i))))) := by rw [e11, fw_un (by omega)]; exact nl9
  have f11_ : w11 (n + 12) = some (.inr (5, [.null, .int (nI 0)])) := by rw [e11]; exact fw_us _ _ _
  have h := h_
  have d0 := d0_
  have d1a := d1a_
  have d1b := d1b_
  have d2a := d2a_
  have d2b := d2b_
  have d3a := d3a_
  have d3b := d3b_
  have o1 := o1_
  have o2 := o2_
  have na9 := na9_
  have nl9 := nl9_
  have f11 := f11_
  refine lv_dup (pc := 49) hx hb dAr_init_49 rfl ?_
  refine fw_cI (pc := 50) (As := []) (rest := [.ref (n + 12), .ref n]) ⟨hx, hb, hml, hown, hW⟩ (c_Na_init f11) (cwI 0 hW (kw_I cd_Na_init) rfl rfl rfl (hW _ ini_Na) (hW _ lm_Ar_20) (hW _ im_Na_init) rfl (by decide +kernel) ⟨Nat.le_of_ble_eq_true rfl, Nat.le_of_ble_eq_true rfl⟩) hK hw rfl hl.1 rfl (Nat.le_of_ble_eq_true rfl) dAr_init_50 ⟨Nat.le_of_ble_eq_true rfl, Nat.le_of_ble_eq_true rfl⟩ (fun v w12 H locs hq hw => ?_)
  have hw : fw_H D kCl (fw_A w (n + 1)) s.heap w12 (n + 14) H locs := hw
  obtain ⟨rfl, hn12, ho12⟩ := hq
  have h_ : w12 (n) = some (.inr (0, [.ref (n + 1), .ref (n + 8), .ref (n + 10), .null, .null])) := (ho12 _ (by omega) (by omega)).trans h
  have d0_ : w12 (n + 1) = some (.inr (3, [.ref (n + 2), .ref (n + 4), .ref (n + 6)])) := (ho12 _ (by omega) (by omega)).trans d0
  have d1a_ : w12 (n + 2) = some (.inr (5, [.ref (n + 3), .int (nI 0)])) := (ho12 _ (by omega) (by omega)).trans d1a
  have d1b_ : w12 (n + 3) = some (.inl (cL, 50, .inr (.inl (fun i => lN ((fun _ => 0) i))))) := (ho12 _ (by omega) (by omega)).trans d1b
  have d2a_ : w12 (n + 4) = some (.inr (5, [.ref (n + 5), .int (nI 0)])) := (ho12 _ (by omega) (by omega)).trans d2a
  have d2b_ : w12 (n + 5) = some (.inl (cL, 50, .inr (.inl (fun i => lN ((fun _ => 0) i))))) := (ho12 _ (by omega) (by omega)).trans d2b
  have d3a_ : w12 (n + 6) = some (.inr (5, [.ref (n + 7), .int (nI 0)])) := (ho12 _ (by omega) (by omega)).trans d3a
  have d3b_ : w12 (n + 7) = some (.inl (cL, 50, .inr (.inl (fun i => lN ((fun _ => 0) i))))) := (ho12 _ (by omega) (by omega)).trans d3b
  have o1_ : w12 (n + 8) = some (.inr (5, [.ref (n + 9), .int (nI k1)])) := (ho12 _ (by omega) (by omega)).trans o1
  have o2_ : w12 (n + 9) = some (.inl (cL, 50, .inr (.inl (fun i => lN (g1 i))))) := (ho12 _ (by omega) (by omega)).trans o2
  have na9_ : w12 (n + 10) = some (.inr (5, [.ref (n + 11), .int (nI 0)])) := (ho12 _ (by omega) (by omega)).trans na9
  have nl9_ : w12 (n + 11) = some (.inl (cL, 50, .inr (.inl (fun i => lN ((fun _ => 0) i))))) := (ho12 _ (by omega) (by omega)).trans nl9
  have h := h_
  have d0 := d0_
  have d1a := d1a_
  have d1b := d1b_
  have d2a := d2a_
  have d2b := d2b_
  have d3a := d3a_
  have d3b := d3b_
  have o1 := o1_
  have o2 := o2_
  have na9 := na9_
  have nl9 := nl9_
  have na12 : w12 (n + 12) = some (.inr (5, [.ref (n + 13), .int (nI 0)])) := hn12.1
  have nl12 : w12 (n + 13) = some (.inl (cL, 50, .inr (.inl (fun i => lN ((fun _ => 0) i))))) := hn12.2
  refine fw_putF (pc := 53) (ci := 0) (v := .ref (n + 12)) (ty := (.object "BigCalculator$Natural")) (C := RAr) (T := TAr) (N := 5) hx hb hW in_Ar tyAr tyAr_ok nmAr hown hK.1 hw h rfl 3 (by decide) (hW _ lf_Ar_32) (fun _ h => h) rfl hname rfl (by decide +kernel) rfl rfl (Nat.le_of_ble_eq_true rfl) dAr_init_53 (fun H locs hw => ?_)
  obtain ⟨w13, e13⟩ : ∃ w_, w_ = fw_up w12 (n) (.inr (0, [.ref (n + 1), .ref (n + 8), .ref (n + 10), .ref (n + 12), .null])) := ⟨_, rfl⟩
  have hw : fw_H D kCl (fw_A w (n + 1)) s.heap w13 (n + 14) H locs := by rw [e13]; exact hw
  have d0_ : w13 (n + 1) = some (.inr (3, [.ref (n + 2), .ref (n + 4), .ref (n + 6)])) := by rw [e13, fw_un (by omega)]; exact d0
  have d1a_ : w13 (n + 2) = some (.inr (5, [.ref (n + 3), .int (nI 0)])) := by rw [e13, fw_un (by omega)]; exact d1a
  have d1b_ : w13 (n + 3) = some (.inl (cL, 50, .inr (.inl (fun i => lN ((fun _ => 0) i))))) := by rw [e13, fw_un (by omega)]; exact d1b
  have d2a_ : w13 (n + 4) = some (.inr (5, [.ref (n + 5), .int (nI 0)])) := by rw [e13, fw_un (by omega)]; exact d2a
  have d2b_ : w13 (n + 5) = some (.inl (cL, 50, .inr (.inl (fun i => lN ((fun _ => 0) i))))) := by rw [e13, fw_un (by omega)]; exact d2b
  have d3a_ : w13 (n + 6) = some (.inr (5, [.ref (n + 7), .int (nI 0)])) := by rw [e13, fw_un (by omega)]; exact d3a
  have d3b_ : w13 (n + 7) = some (.inl (cL, 50, .inr (.inl (fun i => lN ((fun _ => 0) i))))) := by rw [e13, fw_un (by omega)]; exact d3b
  have o1_ : w13 (n + 8) = some (.inr (5, [.ref (n + 9), .int (nI k1)])) := by rw [e13, fw_un (by omega)]; exact o1
  have o2_ : w13 (n + 9) = some (.inl (cL, 50, .inr (.inl (fun i => lN (g1 i))))) := by rw [e13, fw_un (by omega)]; exact o2
  have na9_ : w13 (n + 10) = some (.inr (5, [.ref (n + 11), .int (nI 0)])) := by rw [e13, fw_un (by omega)]; exact na9
  have nl9_ : w13 (n + 11) = some (.inl (cL, 50, .inr (.inl (fun i => lN ((fun _ => 0) i))))) := by rw [e13, fw_un (by omega)]; exact nl9
  have na12_ : w13 (n + 12) = some (.inr (5, [.ref (n + 13), .int (nI 0)])) := by rw [e13, fw_un (by omega)]; exact na12
  have nl12_ : w13 (n + 13) = some (.inl (cL, 50, .inr (.inl (fun i => lN ((fun _ => 0) i))))) := by rw [e13, fw_un (by omega)]; exact nl12
  have h_ : w13 (n) = some (.inr (0, [.ref (n + 1), .ref (n + 8), .ref (n + 10), .ref (n + 12), .null])) := by rw [e13]; exact fw_us _ _ _
  have h := h_
  have d0 := d0_
  have d1a := d1a_
  have d1b := d1b_
  have d2a := d2a_
  have d2b := d2b_
  have d3a := d3a_
  have d3b := d3b_
  have o1 := o1_
  have o2 := o2_
  have na9 := na9_
  have nl9 := nl9_
  have na12 := na12_
  have nl12 := nl12_
  refine lv_aload_n (pc := 56) hx hb dAr_init_56 rfl (lv_at hl 0 rfl) ?_
  refine fw_new (pc := 57) (ci := 5) (fs := [.null, .int (nI 0)]) (C := RNa) (T := TNa) (N := 2) hx hb hW in_Na tyNa tyNa_ok hown (hW _ lc_Ar_18) (hW _ ins_Na) (hW _ ini_Na) hK.1 hw rfl df_Na (Nat.le_of_ble_eq_true rfl) (Nat.le_of_ble_eq_true rfl) dAr_init_57 (fun H hw => ?_)
  obtain ⟨w14, e14⟩ : ∃ w_, w_ = fw_up w13 (n + 14) (.inr (5, [.null, .int (nI 0)])) := ⟨_, rfl⟩
  have hw : fw_H D kCl (fw_A w (n + 1)) s.heap w14 (n + 15) H locs := by rw [e14]; exact hw
  have h_ : w14 (n) = some (.inr (0, [.ref (n + 1), .ref (n + 8), .ref (n + 10), .ref (n + 12), .null])) := by rw [e14, fw_un (by omega)]; exact h
  have d0_ : w14 (n + 1) = some (.inr (3, [.ref (n + 2), .ref (n + 4), .ref (n + 6)])) := by rw [e14, fw_un (by omega)]; exact d0
  have d1a_ : w14 (n + 2) = some (.inr (5, [.ref (n + 3), .int (nI 0)])) := by rw [e14, fw_un (by omega)]; exact d1a
  have d1b_ : w14 (n + 3) = some (.inl (cL, 50, .inr (.inl (fun i => lN ((fun _ => 0) i))))) := by rw [e14, fw_un (by omega)]; exact d1b
  have d2a_ : w14 (n + 4) = some (.inr (5, [.ref (n + 5), .int (nI 0)])) := by rw [e14, fw_un (by omega)]; exact d2a
  have d2b_ : w14 (n + 5) = some (.inl (cL, 50, .inr (.inl (fun i => lN ((fun _ => 0) i))))) := by rw [e14, fw_un (by omega)]; exact d2b
  have d3a_ : w14 (n + 6) = some (.inr (5, [.ref (n + 7), .int (nI 0)])) := by rw [e14, fw_un (by omega)]; exact d3a
  have d3b_ : w14 (n + 7) = some (.inl (cL, 50, .inr (.inl (fun i => lN ((fun _ => 0) i))))) := by rw [e14, fw_un (by omega)]; exact d3b
  have o1_ : w14 (n + 8) = some (.inr (5, [.ref (n + 9), .int (nI k1)])) := by rw [e14, fw_un (by omega)]; exact o1
  have o2_ : w14 (n + 9) = some (.inl (cL, 50, .inr (.inl (fun i => lN (g1 i))))) := by rw [e14, fw_un (by omega)]; exact o2
  have na9_ : w14 (n + 10) = some (.inr (5, [.ref (n + 11), .int (nI 0)])) := by rw [e14, fw_un (by omega)]; exact na9
  have nl9_ : w14 (n + 11) = some (.inl (cL, 50, .inr (.inl (fun i => lN ((fun _ => 0) i))))) := by rw [e14, fw_un (by omega)]; exact nl9
  have na12_ : w14 (n + 12) = some (.inr (5, [.ref (n + 13), .int (nI 0)])) := by rw [e14, fw_un (by omega)]; exact na12
  have nl12_ : w14 (n + 13) = some (.inl (cL, 50, .inr (.inl (fun i => lN ((fun _ => 0) i))))) := by rw [e14, fw_un (by omega)]; exact nl12
  have f14_ : w14 (n + 14) = some (.inr (5, [.null, .int (nI 0)])) := by rw [e14]; exact fw_us _ _ _
  have h := h_
  have d0 := d0_
  have d1a := d1a_
  have d1b := d1b_
  have d2a := d2a_
  have d2b := d2b_
  have d3a := d3a_
  have d3b := d3b_
  have o1 := o1_
  have o2 := o2_
  have na9 := na9_
  have nl9 := nl9_
  have na12 := na12_
  have nl12 := nl12_
  have f14 := f14_
  refine lv_dup (pc := 60) hx hb dAr_init_60 rfl ?_
  refine fw_cI (pc := 61) (As := []) (rest := [.ref (n + 14), .ref n]) ⟨hx, hb, hml, hown, hW⟩ (c_Na_init f14) (cwI 0 hW (kw_I cd_Na_init) rfl rfl rfl (hW _ ini_Na) (hW _ lm_Ar_20) (hW _ im_Na_init) rfl (by decide +kernel) ⟨Nat.le_of_ble_eq_true rfl, Nat.le_of_ble_eq_true rfl⟩) hK hw rfl hl.1 rfl (Nat.le_of_ble_eq_true rfl) dAr_init_61 ⟨Nat.le_of_ble_eq_true rfl, Nat.le_of_ble_eq_true rfl⟩ (fun v w15 H locs hq hw => ?_)
  have hw : fw_H D kCl (fw_A w (n + 1)) s.heap w15 (n + 16) H locs := hw
  obtain ⟨rfl, hn15, ho15⟩ := hq
  have h_ : w15 (n) = some (.inr (0, [.ref (n + 1), .ref (n + 8), .ref (n + 10), .ref (n + 12), .null])) := (ho15 _ (by omega) (by omega)).trans h
  have d0_ : w15 (n + 1) = some (.inr (3, [.ref (n + 2), .ref (n + 4), .ref (n + 6)])) := (ho15 _ (by omega) (by omega)).trans d0
  have d1a_ : w15 (n + 2) = some (.inr (5, [.ref (n + 3), .int (nI 0)])) := (ho15 _ (by omega) (by omega)).trans d1a
  have d1b_ : w15 (n + 3) = some (.inl (cL, 50, .inr (.inl (fun i => lN ((fun _ => 0) i))))) := (ho15 _ (by omega) (by omega)).trans d1b
  have d2a_ : w15 (n + 4) = some (.inr (5, [.ref (n + 5), .int (nI 0)])) := (ho15 _ (by omega) (by omega)).trans d2a
  have d2b_ : w15 (n + 5) = some (.inl (cL, 50, .inr (.inl (fun i => lN ((fun _ => 0) i))))) := (ho15 _ (by omega) (by omega)).trans d2b
  have d3a_ : w15 (n + 6) = some (.inr (5, [.ref (n + 7), .int (nI 0)])) := (ho15 _ (by omega) (by omega)).trans d3a
  have d3b_ : w15 (n + 7) = some (.inl (cL, 50, .inr (.inl (fun i => lN ((fun _ => 0) i))))) := (ho15 _ (by omega) (by omega)).trans d3b
  have o1_ : w15 (n + 8) = some (.inr (5, [.ref (n + 9), .int (nI k1)])) := (ho15 _ (by omega) (by omega)).trans o1
  have o2_ : w15 (n + 9) = some (.inl (cL, 50, .inr (.inl (fun i => lN (g1 i))))) := (ho15 _ (by omega) (by omega)).trans o2
  have na9_ : w15 (n + 10) = some (.inr (5, [.ref (n + 11), .int (nI 0)])) := (ho15 _ (by omega) (by omega)).trans na9
  have nl9_ : w15 (n + 11) = some (.inl (cL, 50, .inr (.inl (fun i => lN ((fun _ => 0) i))))) := (ho15 _ (by omega) (by omega)).trans nl9
  have na12_ : w15 (n + 12) = some (.inr (5, [.ref (n + 13), .int (nI 0)])) := (ho15 _ (by omega) (by omega)).trans na12
  have nl12_ : w15 (n + 13) = some (.inl (cL, 50, .inr (.inl (fun i => lN ((fun _ => 0) i))))) := (ho15 _ (by omega) (by omega)).trans nl12
  have h := h_
  have d0 := d0_
  have d1a := d1a_
  have d1b := d1b_
  have d2a := d2a_
  have d2b := d2b_
  have d3a := d3a_
  have d3b := d3b_
  have o1 := o1_
  have o2 := o2_
  have na9 := na9_
  have nl9 := nl9_
  have na12 := na12_
  have nl12 := nl12_
  have na15 : w15 (n + 14) = some (.inr (5, [.ref (n + 15), .int (nI 0)])) := hn15.1
  have nl15 : w15 (n + 15) = some (.inl (cL, 50, .inr (.inl (fun i => lN ((fun _ => 0) i))))) := hn15.2
  refine fw_putF (pc := 64) (ci := 0) (v := .ref (n + 14)) (ty := (.object "BigCalculator$Natural")) (C := RAr) (T := TAr) (N := 5) hx hb hW in_Ar tyAr tyAr_ok nmAr hown hK.1 hw h rfl 4 (by decide) (hW _ lf_Ar_35) (fun _ h => h) rfl hname rfl (by decide +kernel) rfl rfl (Nat.le_of_ble_eq_true rfl) dAr_init_64 (fun H locs hw => ?_)
  obtain ⟨w16, e16⟩ : ∃ w_, w_ = fw_up w15 (n) (.inr (0, [.ref (n + 1), .ref (n + 8), .ref (n + 10), .ref (n + 12), .ref (n + 14)])) := ⟨_, rfl⟩
  have hw : fw_H D kCl (fw_A w (n + 1)) s.heap w16 (n + 16) H locs := by rw [e16]; exact hw
  have d0_ : w16 (n + 1) = some (.inr (3, [.ref (n + 2), .ref (n + 4), .ref (n + 6)])) := by rw [e16, fw_un (by omega)]; exact d0
  have d1a_ : w16 (n + 2) = some (.inr (5, [.ref (n + 3), .int (nI 0)])) := by rw [e16, fw_un (by omega)]; exact d1a
  have d1b_ : w16 (n + 3) = some (.inl (cL, 50, .inr (.inl (fun i => lN ((fun _ => 0) i))))) := by rw [e16, fw_un (by omega)]; exact d1b
  have d2a_ : w16 (n + 4) = some (.inr (5, [.ref (n + 5), .int (nI 0)])) := by rw [e16, fw_un (by omega)]; exact d2a
  have d2b_ : w16 (n + 5) = some (.inl (cL, 50, .inr (.inl (fun i => lN ((fun _ => 0) i))))) := by rw [e16, fw_un (by omega)]; exact d2b
  have d3a_ : w16 (n + 6) = some (.inr (5, [.ref (n + 7), .int (nI 0)])) := by rw [e16, fw_un (by omega)]; exact d3a
  have d3b_ : w16 (n + 7) = some (.inl (cL, 50, .inr (.inl (fun i => lN ((fun _ => 0) i))))) := by rw [e16, fw_un (by omega)]; exact d3b
  have o1_ : w16 (n + 8) = some (.inr (5, [.ref (n + 9), .int (nI k1)])) := by rw [e16, fw_un (by omega)]; exact o1
  have o2_ : w16 (n + 9) = some (.inl (cL, 50, .inr (.inl (fun i => lN (g1 i))))) := by rw [e16, fw_un (by omega)]; exact o2
  have na9_ : w16 (n + 10) = some (.inr (5, [.ref (n + 11), .int (nI 0)])) := by rw [e16, fw_un (by omega)]; exact na9
  have nl9_ : w16 (n + 11) = some (.inl (cL, 50, .inr (.inl (fun i => lN ((fun _ => 0) i))))) := by rw [e16, fw_un (by omega)]; exact nl9
  have na12_ : w16 (n + 12) = some (.inr (5, [.ref (n + 13), .int (nI 0)])) := by rw [e16, fw_un (by omega)]; exact na12
  have nl12_ : w16 (n + 13) = some (.inl (cL, 50, .inr (.inl (fun i => lN ((fun _ => 0) i))))) := by rw [e16, fw_un (by omega)]; exact nl12
  have na15_ : w16 (n + 14) = some (.inr (5, [.ref (n + 15), .int (nI 0)])) := by rw [e16, fw_un (by omega)]; exact na15
  have nl15_ : w16 (n + 15) = some (.inl (cL, 50, .inr (.inl (fun i => lN ((fun _ => 0) i))))) := by rw [e16, fw_un (by omega)]; exact nl15
  have h_ : w16 (n) = some (.inr (0, [.ref (n + 1), .ref (n + 8), .ref (n + 10), .ref (n + 12), .ref (n + 14)])) := by rw [e16]; exact fw_us _ _ _
  have h := h_
  have d0 := d0_
  have d1a := d1a_
  have d1b := d1b_
  have d2a := d2a_
  have d2b := d2b_
  have d3a := d3a_
  have d3b := d3b_
  have o1 := o1_
  have o2 := o2_
  have na9 := na9_
  have nl9 := nl9_
  have na12 := na12_
  have nl12 := nl12_
  have na15 := na15_
  have nl15 := nl15_
  exact fw_vret (pc := 67) hx hb hr hlocks hw dAr_init_67 ⟨rfl, ⟨h, d0, ⟨g1, k1, ⟨o1, o2⟩, o3, o4, o5, o6⟩, ⟨d1a, d1b⟩, ⟨d2a, d2b⟩, ⟨d3a, d3b⟩, ⟨na9, nl9⟩, ⟨na12, nl12⟩, ⟨na15, nl15⟩⟩, fun q hq => by rw [e16, fw_un (by omega), ho15 q (by omega) (by omega), e14, fw_un (by omega), e13, fw_un (by omega), ho12 q (by omega) (by omega), e11, fw_un (by omega), e10, fw_un (by omega), ho9 q (by omega) (by omega), e8, fw_un (by omega), oo q (by omega) (by omega), e6, fw_un (by omega), ho5 q (by omega) (by omega), e4, fw_un (by omega), e3, fw_un (by omega), do_ q (by omega), e1, fw_un (by omega)]⟩
end CO2
