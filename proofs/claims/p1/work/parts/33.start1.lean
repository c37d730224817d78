theorem law_var {x : Int32} (h : ¬ (x < 0 ∨ nI 8 ≤ x)) : ∃ j, j < 8 ∧ x = nI j := by
  obtain ⟨j, hj, rfl⟩ := nI_of (fun h2 => h (Or.inl h2))
  exact ⟨j, Classical.byContradiction fun h2 => h (Or.inr (nI_le (by omega) hj)), rfl⟩
theorem law_7 {x : Int32} (h : x < 0 ∨ nI 8 ≤ x) : x < 0 ∨ nI 7 < x := by
  rcases h with h | h
  · exact Or.inl h
  · refine Or.inr ?_
    rw [Int32.lt_iff_toInt_lt]
    rw [Int32.le_iff_toInt_le] at h
    rw [nI_toInt (by decide)] at h ⊢
    omega
theorem law_7n {x : Int32} (h : ¬ (x < 0 ∨ nI 7 < x)) : ¬ (x < 0 ∨ nI 8 ≤ x) := fun h2 => h (law_7 h2)
theorem law_st {l : Launch} (h : l.flags = flags0) : l.stackTraces = false := by
  unfold Launch.stackTraces
  rw [h]
  decide
set_option maxHeartbeats 8000000 in
set_option maxRecDepth 100000 in
theorem whole_start {p : Program} {e : Env} {s : State} {m : MethodId} {below : List Frame} {meth : Method} {c : Code} (l : Launch) (hst : l.stackTraces = false) {a0 L : Nat} {xs : Nat → Int32} (hL : L ≤ 4) (C0 : lw_At p s m meth c a0 L xs) : W p l e room_1 s m #[Value.ref a0] below meth c s.heap [] 0 0 (lw_Z below #[Value.ref a0] s) (entryFrame m ([Value.ref a0] : List Value).toArray 8) := by
  obtain ⟨hx, hb, hr, hml, hown, hts, hX, hbl, hlocks, hgv⟩ := C0
  have hW : ∀ w ∈ kWs, w.before #[Value.ref a0] s = true := fun w h => hts w (kw_in h)
  have hown : s.vm.findClass RLa = some m.cls := hown
  obtain ⟨A, hAe⟩ : ∃ A : Nat → Prop, A = fun q => s.heap.size ≤ q := ⟨_, rfl⟩
  obtain ⟨D, cI, cL, cQ, tO, tB, tC, sa, hK⟩ := k_start (A := A) hts hgv (fun a h h2 => by rw [hAe] at h2; exact absurd h2 (Nat.not_le.mpr h))
  have hbA : ¬ A a0 := by rw [hAe]; exact Nat.not_le.mpr hbl
  obtain ⟨b, hn0⟩ : ∃ b, b = s.heap.size := ⟨_, rfl⟩
  obtain ⟨w, hwe⟩ : ∃ w : fw_W, w = fun _ => none := ⟨_, rfl⟩
  have hw : fw_H D kCl A s.heap w b s.heap [] := ⟨fun a x h => by (rw [hwe] at h; cases h), fun a h => by (obtain ⟨x, h⟩ := h; rw [hwe] at h; cases h), fun q h => by (rw [hAe]; exact h), hn0.symm, va_S.rf⟩
  have hl := lv_entry ([.ref a0]) (n := 8) (Nat.le_of_ble_eq_true rfl)
  rw [lg_entry_eq]
  generalize (lg_sl ([.ref a0]) ++ List.replicate (8 - (lg_sl ([.ref a0])).length) Slot.unset).toArray = ls at hl ⊢
  have hl : lv_has ls 8 [(0, .ref a0)] := hl
  have hL31 : L < 2 ^ 31 := by omega
  have fin : ∀ (i : Nat) (w1 : fw_W) (n1 : Nat) (H : Heap) (locs : List Loc) (ls : Array Slot) (cells slots : Nat), i < 2 ^ 31 → L < i + 4 → cells ≤ 600002 → slots ≤ 7302232 → fw_H D kCl A s.heap w1 n1 H locs → lv_has ls 8 [(4, .int (nI i)), (3, .ref (b + 95)), (2, .ref (b + 86)), (1, .ref b), (0, .ref a0)] → W p l e room_1 s m #[Value.ref a0] below meth c H locs cells slots (lw_Z below #[Value.ref a0] s) (F0 m 23 ls []) := by
    intro i w1 n1 H locs ls cells slots hi2 hi hc hs hw hl
    refine lv_iload (pc := 23) hx hb dLa_law_23 (lv_at hl 0 rfl) ?_
    refine lv_aload_n (pc := 25) hx hb dLa_law_25 rfl (lv_at hl 4 rfl) ?_
    refine va_slen (pc := 26) hx hb hX hbl hbA hw.2.2.2.2 dLa_law_26 ?_
    refine lv_iconst (pc := 27) (v := (nI 4)) hx hb dLa_law_27 (by decide) ?_
    refine lv_isub (pc := 28) hx hb dLa_law_28 ?_
    refine lv_icmp_gt (pc := 29) (tgt := 615) hx hb dLa_law_29 (by decide) (fun _ => ?_) (fun hc => absurd ((law_gt hL31 hi2).mpr hi) hc)
    refine lv_iconst (pc := 615) (v := (nI 1)) hx hb dLa_law_615 (by decide) ?_
    refine va_forget (fun q hq => by have := hw.2.2.2.2.2.2 q hq; rw [hAe] at this; exact this) ?_
    refine W.widen (k := 600002) (n := 7302232) hc hs ?_
    exact lw_ret hx hb hr hlocks dLa_law_616
  refine fw_new (pc := 0) (ci := 9) (fs := [.null, .null, .null, .null]) (C := RBc) (T := TBc) (N := 4) hx hb hW in_Bc tyBc tyBc_ok hown (hW _ lc_La_8) (hW _ ins_Bc) (hW _ ini_Bc) hK.1 hw rfl df_Bc (Nat.le_of_ble_eq_true rfl) (Nat.le_of_ble_eq_true rfl) dLa_law_0 (fun H hw => ?_)
  obtain ⟨w1, e1⟩ : ∃ w_, w_ = fw_up w (b) (.inr (9, [.null, .null, .null, .null])) := ⟨_, rfl⟩
  have hw : fw_H D kCl A s.heap w1 (b + 1) H [] := by rw [e1]; exact hw
  have f1_ : w1 (b) = some (.inr (9, [.null, .null, .null, .null])) := by rw [e1]; exact fw_us _ _ _
  have f1 := f1_
  refine lv_dup (pc := 3) hx hb dLa_law_3 rfl ?_
  refine fw_cI (pc := 4) (As := []) (rest := [.ref b]) ⟨hx, hb, hml, hown, hW⟩ (c_Bc_init kz_AO f1) (cwI 0 hW (kw_I cd_Bc_init) rfl rfl rfl (hW _ ini_Bc) (hW _ lm_La_48) (hW _ im_Bc_init) rfl (by decide +kernel) ⟨Nat.le_of_ble_eq_true rfl, Nat.le_of_ble_eq_true rfl⟩) hK hw rfl hl.1 rfl (Nat.le_of_ble_eq_true rfl) dLa_law_4 ⟨Nat.le_of_ble_eq_true rfl, Nat.le_of_ble_eq_true rfl⟩ (fun v w2 H locs hq hw => ?_)
  have hw : fw_H D kCl A s.heap w2 (b + 86) H locs := hw
  obtain ⟨rfl, hB, hfr⟩ := hq
  refine W.eq (g2 := F0 m 7 ls [.ref b]) rfl ?_
  refine lv_astore_n (pc := 7) (lv' := [(1, .ref b), (0, .ref a0)]) hx hb dLa_law_7 rfl hl (by decide) rfl (fun ls hl => ?_)
  refine fw_new (pc := 8) (ci := 10) (fs := [.int (nI 0), .null, .null, .int (nI 0), .null, .null, .int (nI 0), .int (nI 0), .null, .null, .int (nI 0), .int (nI 0), .int (nI 0), .int (nI 0), .null, .null, .int (nI 0), .int (nI 0), .int (nI 0), .int (nI 0)]) (C := RMo) (T := TMo) (N := 20) hx hb hW in_Mo tyMo tyMo_ok hown (hW _ lc_La_49) (hW _ ins_Mo) (hW _ ini_Mo) hK.1 hw rfl df_Mo (Nat.le_of_ble_eq_true rfl) (Nat.le_of_ble_eq_true rfl) dLa_law_8 (fun H hw => ?_)
  obtain ⟨w3, e3⟩ : ∃ w_, w_ = fw_up w2 (b + 86) (.inr (10, [.int (nI 0), .null, .null, .int (nI 0), .null, .null, .int (nI 0), .int (nI 0), .null, .null, .int (nI 0), .int (nI 0), .int (nI 0), .int (nI 0), .null, .null, .int (nI 0), .int (nI 0), .int (nI 0), .int (nI 0)])) := ⟨_, rfl⟩
  have hw : fw_H D kCl A s.heap w3 (b + 87) H locs := by rw [e3]; exact hw
  have f3_ : w3 (b + 86) = some (.inr (10, [.int (nI 0), .null, .null, .int (nI 0), .null, .null, .int (nI 0), .int (nI 0), .null, .null, .int (nI 0), .int (nI 0), .int (nI 0), .int (nI 0), .null, .null, .int (nI 0), .int (nI 0), .int (nI 0), .int (nI 0)])) := by rw [e3]; exact fw_us _ _ _
  have f3 := f3_
  have hB : bcS cI cL cQ w3 b (fun _ => 0) (fun _ _ => 0) bcV0 (fun _ => 0) := hB.kept (fun a h1 h2 => by rw [e3, fw_un (by omega)])
  refine lv_dup (pc := 11) hx hb dLa_law_11 rfl ?_
  refine fw_cI (pc := 12) (As := []) (rest := [.ref (b + 86)]) ⟨hx, hb, hml, hown, hW⟩ (c_Mo_init f3) (cwI 0 hW (kw_I cd_Mo_init) rfl rfl rfl (hW _ ini_Mo) (hW _ lm_La_51) (hW _ im_Mo_init) rfl (by decide +kernel) ⟨Nat.le_of_ble_eq_true rfl, Nat.le_of_ble_eq_true rfl⟩) hK hw rfl hl.1 rfl (Nat.le_of_ble_eq_true rfl) dLa_law_12 ⟨Nat.le_of_ble_eq_true rfl, Nat.le_of_ble_eq_true rfl⟩ (fun v w4 H locs hq hw => ?_)
  have hw : fw_H D kCl A s.heap w4 (b + 95) H locs := hw
  obtain ⟨rfl, hM, hfr2⟩ := hq
  have hB : bcS cI cL cQ w4 b (fun _ => 0) (fun _ _ => 0) bcV0 (fun _ => 0) := hB.kept (fun a h1 h2 => hfr2 a (by omega))
  refine W.eq (g2 := F0 m 15 ls [.ref (b + 86)]) rfl ?_
  refine lv_astore_n (pc := 15) (lv' := [(2, .ref (b + 86)), (1, .ref b), (0, .ref a0)]) hx hb dLa_law_15 rfl hl (by decide) rfl (fun ls hl => ?_)
  refine lv_iconst (pc := 16) (v := (nI 1)) hx hb dLa_law_16 (by decide) ?_
  refine fw_newa (pc := 17) (atype := .long) (a0 := (1, .inr (.inl (fun _ => lN 0)))) hx hb (hW _ ac_long) rfl hK.1 hw 1 rfl (hK.1.2 1 _ rfl).2 rfl (by decide) rfl (by decide) (Nat.le_of_ble_eq_true rfl) (Nat.le_of_ble_eq_true rfl) dLa_law_17 (fun H hw => ?_)
  obtain ⟨w5, e5⟩ : ∃ w_, w_ = fw_up w4 (b + 95) (.inl (cL, 1, .inr (.inl (fun _ => lN 0)))) := ⟨_, rfl⟩
  have hw : fw_H D kCl A s.heap w5 (b + 96) H locs := by rw [e5]; exact hw
  have f5_ : w5 (b + 95) = some (.inl (cL, 1, .inr (.inl (fun _ => lN 0)))) := by rw [e5]; exact fw_us _ _ _
  have f5 := f5_
  have hB : bcS cI cL cQ w5 b (fun _ => 0) (fun _ _ => 0) bcV0 (fun _ => 0) := hB.kept (fun a h1 h2 => by rw [e5, fw_un (by omega)])
  have hM : moS cI cL w5 (b + 86) (fun _ => 0) (fun _ _ => 0) moS0 moC0 := hM.kept (fun a h1 h2 => by rw [e5, fw_un (by omega)])
  refine lv_astore_n (pc := 19) (lv' := [(3, .ref (b + 95)), (2, .ref (b + 86)), (1, .ref b), (0, .ref a0)]) hx hb dLa_law_19 rfl hl (by decide) rfl (fun ls hl => ?_)
  refine lv_iconst (pc := 20) (v := (nI 0)) hx hb dLa_law_20 (by decide) ?_
  refine lv_istore (pc := 21) (lv' := [(4, .int (nI 0)), (3, .ref (b + 95)), (2, .ref (b + 86)), (1, .ref b), (0, .ref a0)]) hx hb dLa_law_21 hl (by decide) rfl (fun ls hl => ?_)
  by_cases hi : 0 + 4 ≤ L
  · obtain rfl : L = 4 := by omega
    have hl : lv_has ls 8 [(4, .int (nI 0)), (3, .ref (b + 95)), (2, .ref (b + 86)), (1, .ref b), (0, .ref a0)] := lv_sub hl [0, 1, 2, 3, 4] rfl
    refine W.widen (k := 200) (n := 6000) (Nat.le_of_ble_eq_true rfl) (Nat.le_of_ble_eq_true rfl) ?_
    refine lv_iload (pc := 23) hx hb dLa_law_23 (lv_at hl 0 rfl) ?_
    refine lv_aload_n (pc := 25) hx hb dLa_law_25 rfl (lv_at hl 4 rfl) ?_
    refine va_slen (pc := 26) hx hb hX hbl hbA hw.2.2.2.2 dLa_law_26 ?_
    refine lv_iconst (pc := 27) (v := (nI 4)) hx hb dLa_law_27 (by decide) ?_
    refine lv_isub (pc := 28) hx hb dLa_law_28 ?_
    refine lv_icmp_gt (pc := 29) (tgt := 615) hx hb dLa_law_29 (by decide) (fun hc => absurd hc (fun h => absurd ((law_gt hL31 (by decide)).mp h) (by omega))) (fun _ => ?_)
    have kk : ∀ (I : Nat → Nat) (J : Nat → Nat → Nat) (V G MI : Nat → Nat) (K : Nat → Nat → Nat) (S : Nat → Int32) (C : Nat → Nat) (w1 : fw_W) (n1 : Nat) (H1 : Heap) (locs1 : List Loc) (ls1 : Array Slot) (f1 : Nat → Int64), fw_H D kCl A s.heap w1 n1 H1 locs1 → bcS cI cL cQ w1 b I J V G → moS cI cL w1 (b + 86) MI K S C → w1 (b + 95) = some (.inl (cL, 1, .inr (.inl f1))) → lv_has ls1 8 [(4, .int (nI 0)), (3, .ref (b + 95)), (2, .ref (b + 86)), (1, .ref b), (0, .ref a0)] → W p l e room_1 s m #[Value.ref a0] below meth c H1 locs1 (200 + 1) (6000 + 6) (lw_Z below #[Value.ref a0] s) (F0 m 609 ls1 []) := by
      intro I J V G MI K S C w1 n1 H1 locs1 ls f1 hw1 _ _ _ hl
      refine lv_iinc (pc := 609) (lv' := [(4, .int (nI 4)), (3, .ref (b + 95)), (2, .ref (b + 86)), (1, .ref b), (0, .ref a0)]) hx hb dLa_law_609 hl (k := 0) rfl ((by decide)) (by decide) rfl (fun ls hl => ?_)
      refine lv_goto (pc := 612) (tgt := 23) hx hb dLa_law_612 (by decide) ?_
      exact fin 4 w1 n1 H1 locs1 ls _ _ (by decide) (by omega) (by decide) (by decide) hw1 hl
    obtain ⟨t, ht, hte⟩ := and15 (xs 0)
    refine s_switch hx hb hown hml hW hK hst hX hbl hbA hL31 hi (Nat.le_of_ble_eq_true rfl) (Nat.le_of_ble_eq_true rfl) hw hl hB hM f5 ht hte ?_
    rcases (show t = 0 ∨ t = 1 ∨ t = 2 ∨ t = 3 ∨ t = 4 ∨ t = 5 ∨ t = 6 ∨ t = 7 ∨ t = 8 ∨ t = 9 ∨ t = 10 ∨ 10 < t by omega) with rfl | rfl | rfl | rfl | rfl | rfl | rfl | rfl | rfl | rfl | rfl | h10
    · by_cases htk : tk (xs (0 + 1)) (xs (0 + 2)) = true
      · have h9 := htk
        rw [tk_eq] at h9
        obtain ⟨k, hk⟩ : ∃ k, xs (0 + 1) = nI k := by obtain ⟨n, -, h⟩ := wb_of32 (xs (0 + 1)); exact ⟨n, h⟩
        obtain ⟨u, hu⟩ : ∃ u, xs (0 + 2) = nI u := by obtain ⟨n, -, h⟩ := wb_of32 (xs (0 + 2)); exact ⟨n, h⟩
        exact s_feed hx hb hown hml hW hK hst hX hbl hbA hL31 hi (Nat.le_of_ble_eq_true rfl) (Nat.le_of_ble_eq_true rfl) hw hl hB hM f5 hk hu (by rw [← hk, ← hu]; exact htk) (by decide) rfl (kk _ _ _ _ _ _ _ _)
      · exact s_feedT hx hb hown hml hW hK hst hX hbl hbA hL31 hi (Nat.le_of_ble_eq_true rfl) (Nat.le_of_ble_eq_true rfl) hw hl hB hM f5 (by simpa using htk) (kk _ _ _ _ _ _ _ _)
    · exact s_compile0 hx hb hown hml hW hK hst hX hbl hbA hL31 hi (Nat.le_of_ble_eq_true rfl) (Nat.le_of_ble_eq_true rfl) hw hl hB hM f5 rfl rfl (kk _ _ _ _ _ _ _ _)
    · by_cases hv : xs (0 + 1) < 0 ∨ nI 8 ≤ xs (0 + 1)
      · exact s_setT hx hb hown hml hW hK hst hX hbl hbA hL31 hi (Nat.le_of_ble_eq_true rfl) (Nat.le_of_ble_eq_true rfl) hw hl hB hM f5 hv (law_7 hv) (kk _ _ _ _ _ _ _ _)
      · obtain ⟨j, hj, hje⟩ := law_var hv
        obtain ⟨y, hy, hye⟩ := wb_of ((xs (0 + 2)).toInt64 <<< ((nI 32).toInt64 &&& 63) ||| (xs (0 + 3)).toInt64 &&& lN 4294967295)
        exact s_set hx hb hown hml hW hK hst hX hbl hbA hL31 hi (Nat.le_of_ble_eq_true rfl) (Nat.le_of_ble_eq_true rfl) hw hl hB hM f5 hj hje hy hye (kk _ _ _ _ _ _ _ _)
    · by_cases hv : xs (0 + 1) < 0 ∨ nI 8 ≤ xs (0 + 1)
      · exact s_keepA hx hb hown hml hW hK hst hX hbl hbA hL31 hi (Nat.le_of_ble_eq_true rfl) (Nat.le_of_ble_eq_true rfl) hw hl hB hM f5 hv (kk _ _ _ _ _ _ _ _)
      · obtain ⟨j, hj, hje⟩ := law_var hv
        exact s_keepS hx hb hown hml hW hK hst hX hbl hbA hL31 hi (Nat.le_of_ble_eq_true rfl) (Nat.le_of_ble_eq_true rfl) hw hl hB hM f5 hj hje (by decide) (by decide) (by decide) (by decide) (by decide) (by decide) (by decide) (kk _ _ _ _ _ _ _ _)
    · exact s_restartS hx hb hown hml hW hK hst hX hbl hbA hL31 hi (Nat.le_of_ble_eq_true rfl) (Nat.le_of_ble_eq_true rfl) hw hl hB hM f5 rfl rfl (kk _ _ _ _ _ _ _ _)
    · exact s_runS hx hb hown hml hW hK hst hX hbl hbA hL31 hi (Nat.le_of_ble_eq_true rfl) (Nat.le_of_ble_eq_true rfl) hw hl hB hM f5 rfl rfl (kk _ _ _ _ _ _ _ _)
    · exact s_signS hx hb hown hml hW hK hst hX hbl hbA hL31 hi (Nat.le_of_ble_eq_true rfl) (Nat.le_of_ble_eq_true rfl) hw hl hB hM f5 (by decide) (by decide) (by decide) (by decide) (by decide) (by decide) (by decide) (kk _ _ _ _ _ _ _ _)
    · exact s_limbS hx hb hown hml hW hK hst hX hbl hbA hL31 hi (Nat.le_of_ble_eq_true rfl) (Nat.le_of_ble_eq_true rfl) hw hl hB hM f5 (by decide) (by decide) (by decide) (by decide) (by decide) (by decide) (by decide) (kk _ _ _ _ _ _ _ _)
    · exact s_digitS hx hb hown hml hW hK hst hX hbl hbA hL31 hi (Nat.le_of_ble_eq_true rfl) (Nat.le_of_ble_eq_true rfl) hw hl hB hM f5 (by decide) (by decide) (by decide) (by decide) (by decide) (by decide) (by decide) (kk _ _ _ _ _ _ _ _)
    · by_cases hv : xs (0 + 1) < 0 ∨ nI 8 ≤ xs (0 + 1)
      · exact s_compareA hx hb hown hml hW hK hst hX hbl hbA hL31 hi (Nat.le_of_ble_eq_true rfl) (Nat.le_of_ble_eq_true rfl) hw hl hB hM f5 hv (kk _ _ _ _ _ _ _ _)
      · obtain ⟨j, hj, hje⟩ := law_var hv
        exact s_compareS hx hb hown hml hW hK hst hX hbl hbA hL31 hi (Nat.le_of_ble_eq_true rfl) (Nat.le_of_ble_eq_true rfl) hw hl hB hM f5 hj hje (by decide) (by decide) (by decide) (by decide) (by decide) (by decide) (by decide) (kk _ _ _ _ _ _ _ _)
    · by_cases hv : xs (0 + 1) < 0 ∨ nI 7 < xs (0 + 1)
      · exact s_countO hx hb hown hml hW hK hst hX hbl hbA hL31 hi (Nat.le_of_ble_eq_true rfl) (Nat.le_of_ble_eq_true rfl) hw hl hB hM f5 hv (kk _ _ _ _ _ _ _ _)
      · obtain ⟨j, hj, hje⟩ := law_var (x := xs (0 + 1)) (law_7n hv)
        rcases (show j = 0 ∨ j = 1 ∨ j = 2 ∨ j = 3 ∨ j = 4 ∨ j = 5 ∨ j = 6 ∨ j = 7 by omega) with rfl | rfl | rfl | rfl | rfl | rfl | rfl | rfl
        · exact s_count0 hx hb hown hml hW hK hst hX hbl hbA hL31 hi (Nat.le_of_ble_eq_true rfl) (Nat.le_of_ble_eq_true rfl) hw hl hB hM f5 hje rfl (kk _ _ _ _ _ _ _ _)
        · exact s_count1 hx hb hown hml hW hK hst hX hbl hbA hL31 hi (Nat.le_of_ble_eq_true rfl) (Nat.le_of_ble_eq_true rfl) hw hl hB hM f5 hje rfl (kk _ _ _ _ _ _ _ _)
        · exact s_count2 hx hb hown hml hW hK hst hX hbl hbA hL31 hi (Nat.le_of_ble_eq_true rfl) (Nat.le_of_ble_eq_true rfl) hw hl hB hM f5 hje rfl (kk _ _ _ _ _ _ _ _)
        · exact s_count3 hx hb hown hml hW hK hst hX hbl hbA hL31 hi (Nat.le_of_ble_eq_true rfl) (Nat.le_of_ble_eq_true rfl) hw hl hB hM f5 hje rfl (kk _ _ _ _ _ _ _ _)
        · exact s_count4 hx hb hown hml hW hK hst hX hbl hbA hL31 hi (Nat.le_of_ble_eq_true rfl) (Nat.le_of_ble_eq_true rfl) hw hl hB hM f5 hje rfl (kk _ _ _ _ _ _ _ _)
        · exact s_count5n hx hb hown hml hW hK hst hX hbl hbA hL31 hi (Nat.le_of_ble_eq_true rfl) (Nat.le_of_ble_eq_true rfl) hw hl hB hM f5 hje (by decide) (by decide) (by decide) (by decide) (by decide) (by decide) (by decide) (kk _ _ _ _ _ _ _ _)
        · exact s_count6n hx hb hown hml hW hK hst hX hbl hbA hL31 hi (Nat.le_of_ble_eq_true rfl) (Nat.le_of_ble_eq_true rfl) hw hl hB hM f5 hje (by decide) (by decide) (by decide) (by decide) (by decide) (by decide) (by decide) (kk _ _ _ _ _ _ _ _)
        · exact s_count7n hx hb hown hml hW hK hst hX hbl hbA hL31 hi (Nat.le_of_ble_eq_true rfl) (Nat.le_of_ble_eq_true rfl) hw hl hB hM f5 hje (by decide) (by decide) (by decide) (by decide) (by decide) (by decide) (by decide) (kk _ _ _ _ _ _ _ _)
    · rw [law_tgt h10]
      refine W.widen (k := 200 + 1) (n := 6000 + 6) (Nat.le_of_ble_eq_true rfl) (Nat.le_of_ble_eq_true rfl) ?_
      exact kk _ _ _ _ _ _ _ _ _ _ _ _ ls _ hw hB hM f5 hl
  · exact fin 0 _ _ H locs ls _ _ (by decide) (by omega) (by decide) (by decide) hw (lv_sub hl [0, 1, 2, 3, 4] rfl)
set_option maxHeartbeats 4000000 in
theorem lw_walk (l : Launch) (hst : l.stackTraces = false) (b : Addr) (xs : List Int32) : MetFree l x (headSpec (Jvm.Cond.code x code maxLocals ret :: tables_1) room_1) (lw_P b xs) (fun _ _ _ _ _ => True) lw_Q := by
  refine MetFree.of_bodyS (code := code) (maxLocals := maxLocals) (ret := ret) (by decide) ?_ ?_
  · intro args s m h hn
    obtain ⟨meth, c, h1, h2, h3, h4, h5, h6, -, -⟩ := Cond.code_spec hn (atoms_spec (ws := Jvm.Cond.code x code maxLocals ret :: tables_1) h _ List.mem_cons_self)
    exact ⟨meth, c, h1, h2, h3, h4, h5, h6⟩
  · intro p e s m args below meth c s₁ B hml0 hP _
    obtain ⟨rfl, hx, hbd, hgv⟩ := hP
    obtain ⟨scr, harrAt, hlist, hof, hsmall⟩ := hx
    obtain ⟨hcb, hkn, -, -⟩ := State.arrayAt?_spec harrAt
    have hown : s.vm.findClass R_law = some m.cls := findClass_of_methodNamed B.named
    have hts0 : ∀ c ∈ (Jvm.Cond.code x code maxLocals ret :: tables_1), c.before #[Value.ref b] s = true := atoms_spec (ws := Jvm.Cond.code x code maxLocals ret :: tables_1) B.pre
    have hts : ∀ w ∈ lw_tbl, w.before #[Value.ref b] s = true := k2_hts_sels lw_privs (fun w hw => hts0 w (List.mem_cons_of_mem _ hw)) lw_privs_ok
    have hml : c.maxLocals = 8 := B.maxLocals_eq (hts0 _ List.mem_cons_self)
    have X₀ : Stand p l e room_1 s m #[Value.ref b] below meth c s₁ [] 0 0 := Stand.of_body B
    have hh0 : s₁.heap = s.heap := by rw [B.state]; rfl
    have hsz : scr.slots.size = xs.length := by rw [← Array.length_toList, hlist, List.length_map]
    have hval : ∀ j : Nat, j < xs.length → scr.slots[j]? = some (.int (xs.getD j 0)) := fun j hj => by
      rw [← Array.getElem?_toList, hlist]
      simp [hj]
    have hbl : b < s.heap.size := (Array.getElem?_eq_some_iff.mp hcb).1
    have hX : va_X b xs.length (fun j => xs.getD j 0) s s.heap := ⟨scr, hcb, hof, hkn, hsz, hval⟩
    have K : W p l e room_1 s m #[Value.ref b] below meth c s₁.heap [] 0 0 (lw_Z below #[Value.ref b] s) (entryFrame m ([Value.ref b] : List Value).toArray 8) := by
      rw [hh0]
      exact whole_start l hst hbd ⟨B.exec, B.bytes, B.returns, hml, hown, hts, hX, hbl, B.notSynchronized, hgv⟩
    obtain ⟨t, a1, o, b1, b2, b3⟩ := K s₁ rfl X₀
    exact ⟨t, o, a1, b1, b2, b3⟩
theorem lw_pre_spec {args : Array Value} {s : State} (h : (Jvm.Cond.and given_1 narrow_1).before args s = true) (hr : rest_1_c.before args s = true) : ∃ (b : Addr) (xs : List Int32), lw_P b xs args s := by
  have hs := flat_of_before _ h
  have hq := flat_of_before _ hr
  have hc : (Cond.count 1).before args s = true := hs _ (by decide +kernel)
  have harr : (Cond.arrayOf (.arg 0) .int).before args s = true := hs _ (by decide +kernel)
  have hle : (Cond.le (.length (.arg 0)) (.int 4)).before args s = true := hs _ (by decide +kernel)
  have hlen : (Cond.isInt (.length (.arg 0))).before args s = true := hq _ (by decide +kernel)
  have hall : (Cond.all (.arg 0) (.isInt (.elem (.arg 0) (.index 0)))).before args s = true := hq _ (by decide +kernel)
  obtain ⟨b, xs, hb, hx⟩ := State.ints_of_pre rfl harr hlen hall
  have hsm : xs.length < 2 ^ 31 := hx.choose_spec.2.2.2
  have hev : (Term.length (.arg 0)).eval args s none [] s = some (.int xs.length.toInt32) := hx.length_eval hb
  have hv := Cond.le_ints hev (show (Term.int 4).eval args s none [] s = some (.int 4) from rfl)
  have hd : xs.length.toInt32 ≤ 4 := by
    simpa [Cond.before, Cond.holds, hv] using hle
  have hN : xs.length ≤ 4 := (Int32.ofNat_le_ofNat hsm (by decide)).mp (show Int32.ofNat xs.length ≤ Int32.ofNat 4 from hd)
  exact ⟨b, xs, Cond.one_arg hc (show args[0]? = some (.ref b) from hb), hx, hN, h⟩
theorem lw_comes (l : Launch) (hst : l.stackTraces = false) : Comes l x (Jvm.Cond.code x code maxLocals ret :: tables_1) room_1 (fun tb e args s => Calls_1 tb e args s ∧ rest_1 tb e args s ∧ Pre_1 tb e args s)
    (fun _ _ args s o t => lw_Q args s o t) := by
  intro p e ha hc hk s m args below hf hfit hheap happ hpre
  obtain ⟨b, xs, hP⟩ := lw_pre_spec hpre.2.2 hpre.2.1
  obtain ⟨k, o, h1, h2, h3, hQ⟩ := lw_walk l hst b xs p e ha hc hk s m args below hf ((Spec.applies_iff_loose hf).mp happ).1 hP trivial
  exact ⟨k, o, h1, h2, h3, hQ⟩
theorem lw_frame {s t : State} {o : Outcome} {args : Array Value} (h : Framed s o t [] 600002 7302232) :
    Framed s o t (fieldLocs frame_1_writes args s ++ arrayLocs frame_1_arrays args s ++ staticLocs frame_1_statics s) 600002 7302232 := h
theorem lw_limb (L : Cond) (hL : ∀ (args : Array Value) (s t : State), L.after args s (.returned (some (.int 1))) t = true) :
    ArmFor flags0 classFile x code maxLocals ret World_1 tables_1 room_1 Calls_1 rest_1 Pre_1
      (fun tb e a s o t => postC L tb e a s o t ∧ Framed s o t (fieldLocs frame_1_writes a s ++ arrayLocs frame_1_arrays a s ++ staticLocs frame_1_statics s) 600002 7302232) := by
  intro l hfl _ _ p e ha hc hk s m args below hf hfit hheap happ hpre
  obtain ⟨k, o, h1, h2, h3, rfl, hF⟩ := lw_comes l (law_st hfl) p e ha hc hk s m args below hf hfit hheap happ hpre
  exact ⟨k, _, h1, h2, h3, hL args s _, lw_frame hF⟩
theorem i_vc : Claimed_1_1 ∧ Claimed_1_2 := ⟨lw_limb limb_1_1 (fun args s t => by simp [limb_1_1, Cond.after, Cond.holds, Cond.value]), lw_limb limb_1_2 (fun args s t => Cond.after_iff.mpr (by
  first | (rw [show limb_1_2 = Cond.eq .result (.int 1) from rfl, Cond.eq_ints (x := 1) (y := 1) rfl rfl]; simp; done) | (simp [limb_1_2, Cond.value, Term.eval]; done)))⟩
