/-! The law's methods that catch, where they answer. Written by wip/gen/wrap2.py. -/
section WRP2
variable {l : Launch} {D : va_G} {cI cL cQ : ClassId} {tO tB tC : Nat} {sa : Nat → Nat} {sz : Nat} {w : fw_W}
set_option maxHeartbeats 4000000 in
set_option maxRecDepth 100000 in
theorem w_sign {b : Nat} {I : Nat → Nat} {J : Nat → Nat → Nat} {V G : Nat → Nat} (hS : bcS cI cL cQ w b I J V G) (h0 : 0 < I 1) (h1 : I 1 < 2 ^ 31) (h4 : I 4 = I 1) (hG : gOk V G) {o : Nat} {f : Nat → Int64} (ho : o < b ∨ b + 86 ≤ o) (hf : w o = some (.inl (cL, 1, .inr (.inl f)))) : fw_CL l yLa_sign (Cond.codeWith yLa_sign cLa_sign 3 (some FieldType.int) [((0), (8), (11), (23))] :: kWs) ({ frames := 8, cells := 0, slots := 0, locals := 130 } : Room) D kCl (kty cI cL cQ) (kz tO tB tC sa) [.ref b, .ref o] (sz) w 0 0 (fun v w' => v = some (.int (nI 0)) ∧ w' o = some (.inl (cL, 1, .inr (.inl (va_up f 0 ((if V 0 = 0 then nI 0 else if G 0 = 0 then nI 1 else -1).toInt64))))) ∧ ∀ q, q ≠ o → w' q = w q) := by
  refine fw_ofWL (cc := cLa_sign) (maxL := 3) (ret := (some FieldType.int)) (hh := [((0), (8), (11), (23))]) (by decide) rfl (Nat.le_of_ble_eq_true rfl) ?_
  intro p e s m args below meth c hx hb hr hts hown hlocks hml htab hK H ls hw hl
  have htab := xw_tab1 htab
  have hW : ∀ w ∈ kWs, w.before args s = true := fun w h => hts w (List.mem_cons_of_mem _ h)
  have hown : s.vm.findClass RLa = some m.cls := hown
  have hl : lv_has ls 3 [(0, .ref b), (1, .ref o)] := hl
  obtain ⟨⟨b0, b1, b2, b3⟩, -⟩ := id hS
  refine lv_aload_n (pc := 0) hx hb dLa_sign_0 rfl (lv_at hl 1 rfl) ?_
  refine lv_iconst (pc := 1) (v := (nI 0)) hx hb dLa_sign_1 (by decide) ?_
  refine lv_aload_n (pc := 2) hx hb dLa_sign_2 rfl (lv_at hl 0 rfl) ?_
  refine fw_cVR (pc := 3) (As := []) (rest := [.int (nI 0), .ref o]) ⟨hx, hb, hml, hown, hW⟩ (c_Bc_sign hS h0 h1 h4 hG) (cwV 0 hW (kw_V lm_La_32 im_Bc_sign se_Bc_sign ini_Bc cd_Bc_sign) rfl rfl rfl (by decide +kernel) ⟨Nat.le_of_ble_eq_true rfl, Nat.le_of_ble_eq_true rfl⟩) hK hw b0 rfl rfl hl.1 rfl (Nat.le_of_ble_eq_true rfl) dLa_sign_3 ⟨Nat.le_of_ble_eq_true rfl, Nat.le_of_ble_eq_true rfl⟩ (fun v hq => ?_)
  subst hq
  refine W.eq (g2 := F0 m 6 ls [.int (if V 0 = 0 then nI 0 else if G 0 = 0 then nI 1 else -1), .int (nI 0), .ref o]) rfl ?_
  refine lv_i2l (pc := 6) (v := ((if V 0 = 0 then nI 0 else if G 0 = 0 then nI 1 else -1).toInt64)) hx hb dLa_sign_6 rfl ?_
  refine fw_lastN (pc := 7) (f2 := va_up f 0 ((if V 0 = 0 then nI 0 else if G 0 = 0 then nI 1 else -1).toInt64)) hx hb hK.1 hw 1 hf rfl (0) (by decide) (by decide) (rfl) dLa_sign_7 (fun H locs hw => ?_)
  obtain ⟨w1, e1⟩ : ∃ w_, w_ = fw_up w (o) (.inl (cL, 1, .inr (.inl (va_up f 0 ((if V 0 = 0 then nI 0 else if G 0 = 0 then nI 1 else -1).toInt64))))) := ⟨_, rfl⟩
  have hw : fw_H D kCl (fw_A w (sz)) s.heap w1 (sz) H locs := by rw [e1]; exact hw
  have b0_ : w1 (b) = some (.inr (9, [.ref (b + 1), .ref (b + 4), .ref (b + 10), .ref (b + 83)])) := by rw [e1, fw_un (fw_neK2 b0 hf)]; exact b0
  have hf_ : w1 (o) = some (.inl (cL, 1, .inr (.inl (va_up f 0 ((if V 0 = 0 then nI 0 else if G 0 = 0 then nI 1 else -1).toInt64))))) := by rw [e1]; exact fw_us _ _ _
  have b0 := b0_
  have hf := hf_
  refine lv_goto (pc := 8) (tgt := 14) hx hb dLa_sign_8 (by decide) ?_
  refine lv_iconst (pc := 14) (v := (nI 0)) hx hb dLa_sign_14 (by decide) ?_
  exact fw_iretL (pc := 15) hx hb hr hlocks hw dLa_sign_15 ⟨rfl, hf, fun q h2 => by rw [e1, fw_un h2]⟩

set_option maxHeartbeats 4000000 in
set_option maxRecDepth 100000 in
theorem w_limb {b : Nat} {I : Nat → Nat} {J : Nat → Nat → Nat} {V G : Nat → Nat} (hS : bcS cI cL cQ w b I J V G) (h0 : 0 < I 1) (h1 : I 1 < 2 ^ 31) (h4 : I 4 = I 1) {k : Nat} (hk : k < 24) {o : Nat} {f : Nat → Int64} (ho : o < b ∨ b + 86 ≤ o) (hf : w o = some (.inl (cL, 1, .inr (.inl f)))) : fw_CL l yLa_limb (Cond.codeWith yLa_limb cLa_limb 4 (some FieldType.int) [((0), (8), (11), (23)), ((0), (8), (14), (40))] :: kWs) ({ frames := 8, cells := 0, slots := 0, locals := 132 } : Room) D kCl (kty cI cL cQ) (kz tO tB tC sa) [.ref b, .int (nI k), .ref o] (sz) w 0 0 (fun v w' => v = some (.int (nI 0)) ∧ w' o = some (.inl (cL, 1, .inr (.inl (va_up f 0 (lN (V 0 / nB ^ k % nB)))))) ∧ ∀ q, q ≠ o → w' q = w q) := by
  refine fw_ofWL (cc := cLa_limb) (maxL := 4) (ret := (some FieldType.int)) (hh := [((0), (8), (11), (23)), ((0), (8), (14), (40))]) (by decide) rfl (Nat.le_of_ble_eq_true rfl) ?_
  intro p e s m args below meth c hx hb hr hts hown hlocks hml htab hK H ls hw hl
  have htab := xw_tab2 htab
  have hW : ∀ w ∈ kWs, w.before args s = true := fun w h => hts w (List.mem_cons_of_mem _ h)
  have hown : s.vm.findClass RLa = some m.cls := hown
  have hl : lv_has ls 4 [(0, .ref b), (1, .int (nI k)), (2, .ref o)] := hl
  obtain ⟨⟨b0, b1, b2, b3⟩, -⟩ := id hS
  refine lv_aload_n (pc := 0) hx hb dLa_limb_0 rfl (lv_at hl 2 rfl) ?_
  refine lv_iconst (pc := 1) (v := (nI 0)) hx hb dLa_limb_1 (by decide) ?_
  refine lv_aload_n (pc := 2) hx hb dLa_limb_2 rfl (lv_at hl 0 rfl) ?_
  refine lv_iload_n (pc := 3) hx hb dLa_limb_3 rfl (lv_at hl 1 rfl) ?_
  refine fw_cVR (pc := 4) (As := [.int (nI k)]) (rest := [.int (nI 0), .ref o]) ⟨hx, hb, hml, hown, hW⟩ (c_Bc_limb hS h0 h1 h4 hk) (cwV 1 hW (kw_V lm_La_36 im_Bc_limb se_Bc_limb ini_Bc cd_Bc_limb) rfl rfl rfl (by decide +kernel) ⟨Nat.le_of_ble_eq_true rfl, Nat.le_of_ble_eq_true rfl⟩) hK hw b0 rfl rfl hl.1 rfl (Nat.le_of_ble_eq_true rfl) dLa_limb_4 ⟨Nat.le_of_ble_eq_true rfl, Nat.le_of_ble_eq_true rfl⟩ (fun v hq => ?_)
  subst hq
  refine W.eq (g2 := F0 m 7 ls [.long (lN (V 0 / nB ^ k % nB)), .int (nI 0), .ref o]) rfl ?_
  refine fw_lastN (pc := 7) (f2 := va_up f 0 (lN (V 0 / nB ^ k % nB))) hx hb hK.1 hw 1 hf rfl (0) (by decide) (by decide) (rfl) dLa_limb_7 (fun H locs hw => ?_)
  obtain ⟨w1, e1⟩ : ∃ w_, w_ = fw_up w (o) (.inl (cL, 1, .inr (.inl (va_up f 0 (lN (V 0 / nB ^ k % nB)))))) := ⟨_, rfl⟩
  have hw : fw_H D kCl (fw_A w (sz)) s.heap w1 (sz) H locs := by rw [e1]; exact hw
  have b0_ : w1 (b) = some (.inr (9, [.ref (b + 1), .ref (b + 4), .ref (b + 10), .ref (b + 83)])) := by rw [e1, fw_un (fw_neK2 b0 hf)]; exact b0
  have hf_ : w1 (o) = some (.inl (cL, 1, .inr (.inl (va_up f 0 (lN (V 0 / nB ^ k % nB)))))) := by rw [e1]; exact fw_us _ _ _
  have b0 := b0_
  have hf := hf_
  refine lv_goto (pc := 8) (tgt := 17) hx hb dLa_limb_8 (by decide) ?_
  refine lv_iconst (pc := 17) (v := (nI 0)) hx hb dLa_limb_17 (by decide) ?_
  exact fw_iretL (pc := 18) hx hb hr hlocks hw dLa_limb_18 ⟨rfl, hf, fun q h2 => by rw [e1, fw_un h2]⟩

set_option maxHeartbeats 4000000 in
set_option maxRecDepth 100000 in
theorem w_compare {b : Nat} {I : Nat → Nat} {J : Nat → Nat → Nat} {V G : Nat → Nat} (hS : bcS cI cL cQ w b I J V G) (h0 : 0 < I 1) (h1 : I 1 < 2 ^ 31) (h4 : I 4 = I 1) (hG : gOk V G) {j : Nat} (hj : j < 8) {o : Nat} {f : Nat → Int64} (ho : o < b ∨ b + 86 ≤ o) (hf : w o = some (.inl (cL, 1, .inr (.inl f)))) : fw_CL l yLa_compare (Cond.codeWith yLa_compare cLa_compare 4 (some FieldType.int) [((0), (9), (12), (13)), ((0), (9), (15), (23))] :: kWs) ({ frames := 8, cells := 0, slots := 0, locals := 133 } : Room) D kCl (kty cI cL cQ) (kz tO tB tC sa) [.ref b, .int (nI j), .ref o] (sz) w 0 0 (fun v w' => v = some (.int (nI 0)) ∧ w' o = some (.inl (cL, 1, .inr (.inl (va_up f 0 ((ordZ (wv (G 0) (V 0)) (wv (G (10 + j)) (V (10 + j)))).toInt64))))) ∧ ∀ q, q ≠ o → w' q = w q) := by
  refine fw_ofWL (cc := cLa_compare) (maxL := 4) (ret := (some FieldType.int)) (hh := [((0), (9), (12), (13)), ((0), (9), (15), (23))]) (by decide) rfl (Nat.le_of_ble_eq_true rfl) ?_
  intro p e s m args below meth c hx hb hr hts hown hlocks hml htab hK H ls hw hl
  have htab := xw_tab2 htab
  have hW : ∀ w ∈ kWs, w.before args s = true := fun w h => hts w (List.mem_cons_of_mem _ h)
  have hown : s.vm.findClass RLa = some m.cls := hown
  have hl : lv_has ls 4 [(0, .ref b), (1, .int (nI j)), (2, .ref o)] := hl
  obtain ⟨⟨b0, b1, b2, b3⟩, -⟩ := id hS
  refine lv_aload_n (pc := 0) hx hb dLa_compare_0 rfl (lv_at hl 2 rfl) ?_
  refine lv_iconst (pc := 1) (v := (nI 0)) hx hb dLa_compare_1 (by decide) ?_
  refine lv_aload_n (pc := 2) hx hb dLa_compare_2 rfl (lv_at hl 0 rfl) ?_
  refine lv_iload_n (pc := 3) hx hb dLa_compare_3 rfl (lv_at hl 1 rfl) ?_
  refine fw_cVR (pc := 4) (As := [.int (nI j)]) (rest := [.int (nI 0), .ref o]) ⟨hx, hb, hml, hown, hW⟩ (c_Bc_compare hS h0 h1 h4 hG hj) (cwV 1 hW (kw_V lm_La_45 im_Bc_compare se_Bc_compare ini_Bc cd_Bc_compare) rfl rfl rfl (by decide +kernel) ⟨Nat.le_of_ble_eq_true rfl, Nat.le_of_ble_eq_true rfl⟩) hK hw b0 rfl rfl hl.1 rfl (Nat.le_of_ble_eq_true rfl) dLa_compare_4 ⟨Nat.le_of_ble_eq_true rfl, Nat.le_of_ble_eq_true rfl⟩ (fun v hq => ?_)
  subst hq
  refine W.eq (g2 := F0 m 7 ls [.int (ordZ (wv (G 0) (V 0)) (wv (G (10 + j)) (V (10 + j)))), .int (nI 0), .ref o]) rfl ?_
  refine lv_i2l (pc := 7) (v := ((ordZ (wv (G 0) (V 0)) (wv (G (10 + j)) (V (10 + j)))).toInt64)) hx hb dLa_compare_7 rfl ?_
  refine fw_lastN (pc := 8) (f2 := va_up f 0 ((ordZ (wv (G 0) (V 0)) (wv (G (10 + j)) (V (10 + j)))).toInt64)) hx hb hK.1 hw 1 hf rfl (0) (by decide) (by decide) (rfl) dLa_compare_8 (fun H locs hw => ?_)
  obtain ⟨w1, e1⟩ : ∃ w_, w_ = fw_up w (o) (.inl (cL, 1, .inr (.inl (va_up f 0 ((ordZ (wv (G 0) (V 0)) (wv (G (10 + j)) (V (10 + j)))).toInt64))))) := ⟨_, rfl⟩
  have hw : fw_H D kCl (fw_A w (sz)) s.heap w1 (sz) H locs := by rw [e1]; exact hw
  have b0_ : w1 (b) = some (.inr (9, [.ref (b + 1), .ref (b + 4), .ref (b + 10), .ref (b + 83)])) := by rw [e1, fw_un (fw_neK2 b0 hf)]; exact b0
  have hf_ : w1 (o) = some (.inl (cL, 1, .inr (.inl (va_up f 0 ((ordZ (wv (G 0) (V 0)) (wv (G (10 + j)) (V (10 + j)))).toInt64))))) := by rw [e1]; exact fw_us _ _ _
  have b0 := b0_
  have hf := hf_
  refine lv_goto (pc := 9) (tgt := 18) hx hb dLa_compare_9 (by decide) ?_
  refine lv_iconst (pc := 18) (v := (nI 0)) hx hb dLa_compare_18 (by decide) ?_
  exact fw_iretL (pc := 19) hx hb hr hlocks hw dLa_compare_19 ⟨rfl, hf, fun q h2 => by rw [e1, fw_un h2]⟩

set_option maxHeartbeats 4000000 in
set_option maxRecDepth 100000 in
theorem w_digit {b : Nat} {I : Nat → Nat} {J : Nat → Nat → Nat} {V G : Nat → Nat} (hS : bcS cI cL cQ w b I J V G) (h0 : 0 < I 1) (h1 : I 1 < 2 ^ 31) (h4 : I 4 = I 1) (hG : gOk V G) {k : Nat} (hk : k < 2 ^ 31) {o : Nat} {f : Nat → Int64} (ho : o < b ∨ b + 86 ≤ o) (hf : w o = some (.inl (cL, 1, .inr (.inl f)))) : fw_CL l yLa_digit (Cond.codeWith yLa_digit cLa_digit 4 (some FieldType.int) [((0), (9), (12), (23)), ((0), (9), (15), (40))] :: kWs) ({ frames := 8, cells := 0, slots := 0, locals := 132 } : Room) D kCl (kty cI cL cQ) (kz tO tB tC sa) [.ref b, .int (nI k), .ref o] (sz) w 0 0 (fun v w' => v = some (.int (nI 0)) ∧ (∃ e4, bcS cI cL cQ w' b I J (va_up V 25 e4) G) ∧ w' o = some (.inl (cL, 1, .inr (.inl (va_up f 0 ((nI (V 0 / 10 ^ k % 10)).toInt64))))) ∧ ∀ q, q < b ∨ b + 86 ≤ q → q ≠ o → w' q = w q) := by
  refine fw_ofWL (cc := cLa_digit) (maxL := 4) (ret := (some FieldType.int)) (hh := [((0), (9), (12), (23)), ((0), (9), (15), (40))]) (by decide) rfl (Nat.le_of_ble_eq_true rfl) ?_
  intro p e s m args below meth c hx hb hr hts hown hlocks hml htab hK H ls hw hl
  have htab := xw_tab2 htab
  have hW : ∀ w ∈ kWs, w.before args s = true := fun w h => hts w (List.mem_cons_of_mem _ h)
  have hown : s.vm.findClass RLa = some m.cls := hown
  have hl : lv_has ls 4 [(0, .ref b), (1, .int (nI k)), (2, .ref o)] := hl
  obtain ⟨⟨b0, b1, b2, b3⟩, -⟩ := id hS
  refine lv_aload_n (pc := 0) hx hb dLa_digit_0 rfl (lv_at hl 2 rfl) ?_
  refine lv_iconst (pc := 1) (v := (nI 0)) hx hb dLa_digit_1 (by decide) ?_
  refine lv_aload_n (pc := 2) hx hb dLa_digit_2 rfl (lv_at hl 0 rfl) ?_
  refine lv_iload_n (pc := 3) hx hb dLa_digit_3 rfl (lv_at hl 1 rfl) ?_
  refine fw_cV (pc := 4) (As := [.int (nI k)]) (rest := [.int (nI 0), .ref o]) ⟨hx, hb, hml, hown, hW⟩ (c_Bc_digit hS h0 h1 h4 hG hk) (cwV 1 hW (kw_V lm_La_42 im_Bc_digit se_Bc_digit ini_Bc cd_Bc_digit) rfl rfl rfl (by decide +kernel) ⟨Nat.le_of_ble_eq_true rfl, Nat.le_of_ble_eq_true rfl⟩) hK hw b0 rfl rfl hl.1 rfl (Nat.le_of_ble_eq_true rfl) dLa_digit_4 ⟨Nat.le_of_ble_eq_true rfl, Nat.le_of_ble_eq_true rfl⟩ (fun v w1 H locs hq hw => ?_)
  obtain ⟨rfl, ⟨e4, hS2⟩, hfr⟩ := hq
  have hf_ : w1 (o) = some (.inl (cL, 1, .inr (.inl (f)))) := (hfr _ ho).trans hf
  have hf := hf_
  refine W.eq (g2 := F0 m 7 ls [.int (nI (V 0 / 10 ^ k % 10)), .int (nI 0), .ref o]) rfl ?_
  refine lv_i2l (pc := 7) (v := ((nI (V 0 / 10 ^ k % 10)).toInt64)) hx hb dLa_digit_7 rfl ?_
  refine fw_lastN (pc := 8) (f2 := va_up f 0 ((nI (V 0 / 10 ^ k % 10)).toInt64)) hx hb hK.1 hw 1 hf rfl (0) (by decide) (by decide) (rfl) dLa_digit_8 (fun H locs hw => ?_)
  obtain ⟨w2, e2⟩ : ∃ w_, w_ = fw_up w1 (o) (.inl (cL, 1, .inr (.inl (va_up f 0 ((nI (V 0 / 10 ^ k % 10)).toInt64))))) := ⟨_, rfl⟩
  have hw : fw_H D kCl (fw_A w (sz)) s.heap w2 (sz) H locs := by rw [e2]; exact hw
  have hf_ : w2 (o) = some (.inl (cL, 1, .inr (.inl (va_up f 0 ((nI (V 0 / 10 ^ k % 10)).toInt64))))) := by rw [e2]; exact fw_us _ _ _
  have hf := hf_
  refine lv_goto (pc := 9) (tgt := 18) hx hb dLa_digit_9 (by decide) ?_
  refine lv_iconst (pc := 18) (v := (nI 0)) hx hb dLa_digit_18 (by decide) ?_
  exact fw_iretL (pc := 19) hx hb hr hlocks hw dLa_digit_19 ⟨rfl, ⟨e4, hS2.kept (fun a h1 h2 => by rw [e2, fw_un (by omega)])⟩, hf, fun q h1 h2 => by rw [e2, fw_un h2, hfr q h1]⟩

set_option maxHeartbeats 4000000 in
set_option maxRecDepth 100000 in
theorem w_run {b : Nat} {I : Nat → Nat} {J : Nat → Nat → Nat} {V G : Nat → Nat} (hS : bcS cI cL cQ w b I J V G) (hG : gOk V G) {k : Nat} (hk : k ≤ 10000) (h1 : 0 < I 1) (hC : cOk (J 2) (J 3) (I 1)) (hO : mOk (J 2) (I 1) (I 4, I 5, I 6, I 7, rV V G)) {o : Nat} {f : Nat → Int64} (ho : o < b ∨ b + 86 ≤ o) (hf : w o = some (.inl (cL, 1, .inr (.inl f)))) : fw_CL l yLa_run (Cond.codeWith yLa_run cLa_run 4 (some FieldType.int) [((0), (9), (12), (23)), ((0), (9), (15), (13))] :: kWs) ({ frames := 9, cells := 0, slots := 0, locals := 224 } : Room) D kCl (kty cI cL cQ) (kz tO tB tC sa) [.ref b, .int (nI k), .ref o] (sz) w 0 0 (fun v w' => v = some (.int (nI 0)) ∧ (∃ V' G', bcS cI cL cQ w' b (mI I (mRun (J 2) (J 3) (yV V G) (I 1) k (I 4, I 5, I 6, I 7, rV V G))) J V' G' ∧ gOk V' G' ∧ (∀ i, i < 10 → rV V' G' i = (mRun (J 2) (J 3) (yV V G) (I 1) k (I 4, I 5, I 6, I 7, rV V G)).2.2.2.2 i) ∧ (∀ i, i < 8 → yV V' G' i = yV V G i)) ∧ w' o = some (.inl (cL, 1, .inr (.inl (va_up f 0 ((nI (mAns (I 1) (mRun (J 2) (J 3) (yV V G) (I 1) k (I 4, I 5, I 6, I 7, rV V G)))).toInt64))))) ∧ ∀ q, q < b ∨ b + 86 ≤ q → q ≠ o → w' q = w q) := by
  refine fw_ofWL (cc := cLa_run) (maxL := 4) (ret := (some FieldType.int)) (hh := [((0), (9), (12), (23)), ((0), (9), (15), (13))]) (by decide) rfl (Nat.le_of_ble_eq_true rfl) ?_
  intro p e s m args below meth c hx hb hr hts hown hlocks hml htab hK H ls hw hl
  have htab := xw_tab2 htab
  have hW : ∀ w ∈ kWs, w.before args s = true := fun w h => hts w (List.mem_cons_of_mem _ h)
  have hown : s.vm.findClass RLa = some m.cls := hown
  have hl : lv_has ls 4 [(0, .ref b), (1, .int (nI k)), (2, .ref o)] := hl
  obtain ⟨⟨b0, b1, b2, b3⟩, -⟩ := id hS
  refine lv_aload_n (pc := 0) hx hb dLa_run_0 rfl (lv_at hl 2 rfl) ?_
  refine lv_iconst (pc := 1) (v := (nI 0)) hx hb dLa_run_1 (by decide) ?_
  refine lv_aload_n (pc := 2) hx hb dLa_run_2 rfl (lv_at hl 0 rfl) ?_
  refine lv_iload_n (pc := 3) hx hb dLa_run_3 rfl (lv_at hl 1 rfl) ?_
  refine fw_cV (pc := 4) (As := [.int (nI k)]) (rest := [.int (nI 0), .ref o]) ⟨hx, hb, hml, hown, hW⟩ (c_Bc_run hS hG hk h1 hC hO) (cwV 1 hW (kw_V lm_La_28 im_Bc_run se_Bc_run ini_Bc cd_Bc_run) rfl rfl rfl (by decide +kernel) ⟨Nat.le_of_ble_eq_true rfl, Nat.le_of_ble_eq_true rfl⟩) hK hw b0 rfl rfl hl.1 rfl (Nat.le_of_ble_eq_true rfl) dLa_run_4 ⟨Nat.le_of_ble_eq_true rfl, Nat.le_of_ble_eq_true rfl⟩ (fun v w1 H locs hq hw => ?_)
  obtain ⟨rfl, ⟨V2, G2, hS2, z2, z3, z4⟩, hfr⟩ := hq
  have hf_ : w1 (o) = some (.inl (cL, 1, .inr (.inl (f)))) := (hfr _ ho).trans hf
  have hf := hf_
  refine W.eq (g2 := F0 m 7 ls [.int (nI (mAns (I 1) (mRun (J 2) (J 3) (yV V G) (I 1) k (I 4, I 5, I 6, I 7, rV V G)))), .int (nI 0), .ref o]) rfl ?_
  refine lv_i2l (pc := 7) (v := ((nI (mAns (I 1) (mRun (J 2) (J 3) (yV V G) (I 1) k (I 4, I 5, I 6, I 7, rV V G)))).toInt64)) hx hb dLa_run_7 rfl ?_
  refine fw_lastN (pc := 8) (f2 := va_up f 0 ((nI (mAns (I 1) (mRun (J 2) (J 3) (yV V G) (I 1) k (I 4, I 5, I 6, I 7, rV V G)))).toInt64)) hx hb hK.1 hw 1 hf rfl (0) (by decide) (by decide) (rfl) dLa_run_8 (fun H locs hw => ?_)
  obtain ⟨w2, e2⟩ : ∃ w_, w_ = fw_up w1 (o) (.inl (cL, 1, .inr (.inl (va_up f 0 ((nI (mAns (I 1) (mRun (J 2) (J 3) (yV V G) (I 1) k (I 4, I 5, I 6, I 7, rV V G)))).toInt64))))) := ⟨_, rfl⟩
  have hw : fw_H D kCl (fw_A w (sz)) s.heap w2 (sz) H locs := by rw [e2]; exact hw
  have hf_ : w2 (o) = some (.inl (cL, 1, .inr (.inl (va_up f 0 ((nI (mAns (I 1) (mRun (J 2) (J 3) (yV V G) (I 1) k (I 4, I 5, I 6, I 7, rV V G)))).toInt64))))) := by rw [e2]; exact fw_us _ _ _
  have hf := hf_
  refine lv_goto (pc := 9) (tgt := 18) hx hb dLa_run_9 (by decide) ?_
  refine lv_iconst (pc := 18) (v := (nI 0)) hx hb dLa_run_18 (by decide) ?_
  exact fw_iretL (pc := 19) hx hb hr hlocks hw dLa_run_19 ⟨rfl, ⟨V2, G2, hS2.kept (fun a h1 h2 => by rw [e2, fw_un (by omega)]), z2, z3, z4⟩, hf, fun q h1 h2 => by rw [e2, fw_un h2, hfr q h1]⟩

set_option maxHeartbeats 4000000 in
set_option maxRecDepth 100000 in
theorem w_keep {b : Nat} {I : Nat → Nat} {J : Nat → Nat → Nat} {V G : Nat → Nat} (hS : bcS cI cL cQ w b I J V G) (h0 : 0 < I 1) (h1 : I 1 < 2 ^ 31) (h4 : I 4 = I 1) (hG : gOk V G) {j : Nat} (hj : j < 8) : fw_CL l yLa_keep (Cond.codeWith yLa_keep cLa_keep 3 (some FieldType.int) [((0), (5), (8), (13)), ((0), (5), (11), (23))] :: kWs) ({ frames := 8, cells := 0, slots := 0, locals := 133 } : Room) D kCl (kty cI cL cQ) (kz tO tB tC sa) [.ref b, .int (nI j)] (sz) w 0 0 (fun v w' => v = some (.int (nI 0)) ∧ bcS cI cL cQ w' b I J (va_up V (10 + j) (V 0)) (va_up G (10 + j) (G 0)) ∧ ∀ q, q < b ∨ b + 86 ≤ q → w' q = w q) := by
  refine fw_ofWL (cc := cLa_keep) (maxL := 3) (ret := (some FieldType.int)) (hh := [((0), (5), (8), (13)), ((0), (5), (11), (23))]) (by decide) rfl (Nat.le_of_ble_eq_true rfl) ?_
  intro p e s m args below meth c hx hb hr hts hown hlocks hml htab hK H ls hw hl
  have htab := xw_tab2 htab
  have hW : ∀ w ∈ kWs, w.before args s = true := fun w h => hts w (List.mem_cons_of_mem _ h)
  have hown : s.vm.findClass RLa = some m.cls := hown
  have hl : lv_has ls 3 [(0, .ref b), (1, .int (nI j))] := hl
  obtain ⟨⟨b0, b1, b2, b3⟩, -⟩ := id hS
  refine lv_aload_n (pc := 0) hx hb dLa_keep_0 rfl (lv_at hl 0 rfl) ?_
  refine lv_iload_n (pc := 1) hx hb dLa_keep_1 rfl (lv_at hl 1 rfl) ?_
  refine fw_cV (pc := 2) (As := [.int (nI j)]) (rest := []) ⟨hx, hb, hml, hown, hW⟩ (c_Bc_keep hS h0 h1 h4 hG hj) (cwV 1 hW (kw_V lm_La_19 im_Bc_keep se_Bc_keep ini_Bc cd_Bc_keep) rfl rfl rfl (by decide +kernel) ⟨Nat.le_of_ble_eq_true rfl, Nat.le_of_ble_eq_true rfl⟩) hK hw b0 rfl rfl hl.1 rfl (Nat.le_of_ble_eq_true rfl) dLa_keep_2 ⟨Nat.le_of_ble_eq_true rfl, Nat.le_of_ble_eq_true rfl⟩ (fun v w1 H locs hq hw => ?_)
  obtain ⟨rfl, hS2, hfr⟩ := hq
  refine W.eq (g2 := F0 m 5 ls []) rfl ?_
  refine lv_goto (pc := 5) (tgt := 14) hx hb dLa_keep_5 (by decide) ?_
  refine lv_iconst (pc := 14) (v := (nI 0)) hx hb dLa_keep_14 (by decide) ?_
  exact fw_iretL (pc := 15) hx hb hr hlocks hw dLa_keep_15 ⟨rfl, hS2, hfr⟩
end WRP2
