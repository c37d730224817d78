theorem law_var {x : Int32} (h : ¬ (x < 0 ∨ nI 8 ≤ x)) : ∃ j, j < 8 ∧ x = nI j := by
  obtain ⟨j, hj, rfl⟩ := nI_of (fun h2 => h (Or.inl h2))
  exact ⟨j, Classical.byContradiction fun h2 => h (Or.inr (nI_le (by omega) hj)), rfl⟩
theorem law_7 {x : Int32} (h : x < 0 ∨ nI 8 ≤ x) : x < 0 ∨ nI 7 < x := by
  rcases h with h | h
  · exact Or.inl h
  · refine Or.inr ?_
    rw [Int32.lt_iff_toInt_lt]
    rw [Int32.le_iff_toInt_le] at h
    rw [nI_toInt (by decide)] at h ⊢
    omega
theorem law_7n {x : Int32} (h : ¬ (x < 0 ∨ nI 7 < x)) : ¬ (x < 0 ∨ nI 8 ≤ x) := fun h2 => h (law_7 h2)
theorem law_var24 {x : Int32} (h : ¬ (x < 0 ∨ nI 24 ≤ x)) : ∃ k, k < 24 ∧ x = nI k := by
  obtain ⟨k, hk, rfl⟩ := nI_of (fun h2 => h (Or.inl h2))
  exact ⟨k, Classical.byContradiction fun h2 => h (Or.inr (nI_le (by omega) hk)), rfl⟩
theorem law_23 {x : Int32} (h : x < 0 ∨ nI 24 ≤ x) : x < 0 ∨ nI 23 < x := by
  rcases h with h | h
  · exact Or.inl h
  · refine Or.inr ?_
    rw [Int32.lt_iff_toInt_lt]
    rw [Int32.le_iff_toInt_le] at h
    rw [nI_toInt (by decide)] at h ⊢
    omega
theorem law_st {l : Launch} (h : l.flags = flags0) : l.stackTraces = false := by
  unfold Launch.stackTraces
  rw [h]
  decide
set_option maxHeartbeats 8000000 in
set_option maxRecDepth 100000 in
theorem whole_start {p : Program} {e : Env} {s : State} {m : MethodId} {below : List Frame} {meth : Method} {c : Code} (l : Launch) (hst : l.stackTraces = false) {a0 L : Nat} {xs : Nat → Int32} (hL : L ≤ 2048) (C0 : lw_At p s m meth c a0 L xs) : W p l e room_1 s m #[Value.ref a0] below meth c s.heap [] 0 0 (lw_Z below #[Value.ref a0] s) (entryFrame m ([Value.ref a0] : List Value).toArray 8) := by
  obtain ⟨hx, hb, hr, hml, hown, hts, hX, hbl, hlocks, hgv⟩ := C0
  have hW : ∀ w ∈ kWs, w.before #[Value.ref a0] s = true := fun w h => hts w (kw_in h)
  have hown : s.vm.findClass RLa = some m.cls := hown
  obtain ⟨A, hAe⟩ : ∃ A : Nat → Prop, A = fun q => s.heap.size ≤ q := ⟨_, rfl⟩
  obtain ⟨D, cI, cL, cQ, tO, tB, tC, sa, hK⟩ := k_start (A := A) hts hgv (fun a h h2 => by rw [hAe] at h2; exact absurd h2 (Nat.not_le.mpr h))
  have hbA : ¬ A a0 := by rw [hAe]; exact Nat.not_le.mpr hbl
  obtain ⟨b, hn0⟩ : ∃ b, b = s.heap.size := ⟨_, rfl⟩
  obtain ⟨w, hwe⟩ : ∃ w : fw_W, w = fun _ => none := ⟨_, rfl⟩
  have hw : fw_H D kCl A s.heap w b s.heap [] := ⟨fun a x h => by (rw [hwe] at h; cases h), fun a h => by (obtain ⟨x, h⟩ := h; rw [hwe] at h; cases h), fun q h => by (rw [hAe]; exact h), hn0.symm, va_S.rf⟩
  have hl := lv_entry ([.ref a0]) (n := 8) (Nat.le_of_ble_eq_true rfl)
  rw [lg_entry_eq]
  generalize (lg_sl ([.ref a0]) ++ List.replicate (8 - (lg_sl ([.ref a0])).length) Slot.unset).toArray = ls at hl ⊢
  have hl : lv_has ls 8 [(0, .ref a0)] := hl
  have hL31 : L < 2 ^ 31 := by omega
  have fin : ∀ (i : Nat) (w1 : fw_W) (n1 : Nat) (H : Heap) (locs : List Loc) (ls : Array Slot) (cells slots : Nat), i < 2 ^ 31 → L < i + 4 → cells ≤ 601024 → slots ≤ 7293034 → fw_H D kCl A s.heap w1 n1 H locs → lv_has ls 8 [(4, .int (nI i)), (3, .ref (b + 95)), (2, .ref (b + 86)), (1, .ref b), (0, .ref a0)] → W p l e room_1 s m #[Value.ref a0] below meth c H locs cells slots (lw_Z below #[Value.ref a0] s) (F0 m 23 ls []) := by
    intro i w1 n1 H locs ls cells slots hi2 hi hc hs hw hl
    refine lv_iload (pc := 23) hx hb dLa_law_23 (lv_at hl 0 rfl) ?_
    refine lv_aload_n (pc := 25) hx hb dLa_law_25 rfl (lv_at hl 4 rfl) ?_
    refine va_slen (pc := 26) hx hb hX hbl hbA hw.2.2.2.2 dLa_law_26 ?_
    refine lv_iconst (pc := 27) (v := (nI 4)) hx hb dLa_law_27 (by decide) ?_
    refine lv_isub (pc := 28) hx hb dLa_law_28 ?_
    refine lv_icmp_gt (pc := 29) (tgt := 615) hx hb dLa_law_29 (by decide) (fun _ => ?_) (fun hc => absurd ((law_gt hL31 hi2).mpr hi) hc)
    refine lv_iconst (pc := 615) (v := (nI 1)) hx hb dLa_law_615 (by decide) ?_
    refine va_forget (fun q hq => by have := hw.2.2.2.2.2.2 q hq; rw [hAe] at this; exact this) ?_
    refine W.widen (k := 601024) (n := 7293034) hc hs ?_
    exact lw_ret hx hb hr hlocks dLa_law_616
  refine fw_new (pc := 0) (ci := 9) (fs := [.null, .null, .null, .null]) (C := RBc) (T := TBc) (N := 4) hx hb hW in_Bc tyBc tyBc_ok hown (hW _ lc_La_8) (hW _ ins_Bc) (hW _ ini_Bc) hK.1 hw rfl df_Bc (Nat.le_of_ble_eq_true rfl) (Nat.le_of_ble_eq_true rfl) dLa_law_0 (fun H hw => ?_)
  obtain ⟨w1, e1⟩ : ∃ w_, w_ = fw_up w (b) (.inr (9, [.null, .null, .null, .null])) := ⟨_, rfl⟩
  have hw : fw_H D kCl A s.heap w1 (b + 1) H [] := by rw [e1]; exact hw
  have f1_ : w1 (b) = some (.inr (9, [.null, .null, .null, .null])) := by rw [e1]; exact fw_us _ _ _
  have f1 := f1_
  refine lv_dup (pc := 3) hx hb dLa_law_3 rfl ?_
  refine fw_cI (pc := 4) (As := []) (rest := [.ref b]) ⟨hx, hb, hml, hown, hW⟩ (c_Bc_init kz_AO f1) (cwI 0 hW (kw_I cd_Bc_init) rfl rfl rfl (hW _ ini_Bc) (hW _ lm_La_48) (hW _ im_Bc_init) rfl (by decide +kernel) ⟨Nat.le_of_ble_eq_true rfl, Nat.le_of_ble_eq_true rfl⟩) hK hw rfl hl.1 rfl (Nat.le_of_ble_eq_true rfl) dLa_law_4 ⟨Nat.le_of_ble_eq_true rfl, Nat.le_of_ble_eq_true rfl⟩ (fun v w2 H locs hq hw => ?_)
  have hw : fw_H D kCl A s.heap w2 (b + 86) H locs := hw
  obtain ⟨rfl, hB, hfr⟩ := hq
  refine W.eq (g2 := F0 m 7 ls [.ref b]) rfl ?_
  refine lv_astore_n (pc := 7) (lv' := [(1, .ref b), (0, .ref a0)]) hx hb dLa_law_7 rfl hl (by decide) rfl (fun ls hl => ?_)
  refine fw_new (pc := 8) (ci := 10) (fs := [.int (nI 0), .null, .null, .int (nI 0), .null, .null, .int (nI 0), .int (nI 0), .null, .null, .int (nI 0), .int (nI 0), .int (nI 0), .int (nI 0), .null, .null, .int (nI 0), .int (nI 0), .int (nI 0), .int (nI 0)]) (C := RMo) (T := TMo) (N := 20) hx hb hW in_Mo tyMo tyMo_ok hown (hW _ lc_La_49) (hW _ ins_Mo) (hW _ ini_Mo) hK.1 hw rfl df_Mo (Nat.le_of_ble_eq_true rfl) (Nat.le_of_ble_eq_true rfl) dLa_law_8 (fun H hw => ?_)
  obtain ⟨w3, e3⟩ : ∃ w_, w_ = fw_up w2 (b + 86) (.inr (10, [.int (nI 0), .null, .null, .int (nI 0), .null, .null, .int (nI 0), .int (nI 0), .null, .null, .int (nI 0), .int (nI 0), .int (nI 0), .int (nI 0), .null, .null, .int (nI 0), .int (nI 0), .int (nI 0), .int (nI 0)])) := ⟨_, rfl⟩
  have hw : fw_H D kCl A s.heap w3 (b + 87) H locs := by rw [e3]; exact hw
  have f3_ : w3 (b + 86) = some (.inr (10, [.int (nI 0), .null, .null, .int (nI 0), .null, .null, .int (nI 0), .int (nI 0), .null, .null, .int (nI 0), .int (nI 0), .int (nI 0), .int (nI 0), .null, .null, .int (nI 0), .int (nI 0), .int (nI 0), .int (nI 0)])) := by rw [e3]; exact fw_us _ _ _
  have f3 := f3_
  have hB : bcS cI cL cQ w3 b (fun _ => 0) (fun _ _ => 0) bcV0 (fun _ => 0) := hB.kept (fun a h1 h2 => by rw [e3, fw_un (by omega)])
  refine lv_dup (pc := 11) hx hb dLa_law_11 rfl ?_
  refine fw_cI (pc := 12) (As := []) (rest := [.ref (b + 86)]) ⟨hx, hb, hml, hown, hW⟩ (c_Mo_init f3) (cwI 0 hW (kw_I cd_Mo_init) rfl rfl rfl (hW _ ini_Mo) (hW _ lm_La_51) (hW _ im_Mo_init) rfl (by decide +kernel) ⟨Nat.le_of_ble_eq_true rfl, Nat.le_of_ble_eq_true rfl⟩) hK hw rfl hl.1 rfl (Nat.le_of_ble_eq_true rfl) dLa_law_12 ⟨Nat.le_of_ble_eq_true rfl, Nat.le_of_ble_eq_true rfl⟩ (fun v w4 H locs hq hw => ?_)
  have hw : fw_H D kCl A s.heap w4 (b + 95) H locs := hw
  obtain ⟨rfl, hM, hfr2⟩ := hq
  have hB : bcS cI cL cQ w4 b (fun _ => 0) (fun _ _ => 0) bcV0 (fun _ => 0) := hB.kept (fun a h1 h2 => hfr2 a (by omega))
  refine W.eq (g2 := F0 m 15 ls [.ref (b + 86)]) rfl ?_
  refine lv_astore_n (pc := 15) (lv' := [(2, .ref (b + 86)), (1, .ref b), (0, .ref a0)]) hx hb dLa_law_15 rfl hl (by decide) rfl (fun ls hl => ?_)
  refine lv_iconst (pc := 16) (v := (nI 1)) hx hb dLa_law_16 (by decide) ?_
  refine fw_newa (pc := 17) (atype := .long) (a0 := (1, .inr (.inl (fun _ => lN 0)))) hx hb (hW _ ac_long) rfl hK.1 hw 1 rfl (hK.1.2 1 _ rfl).2 rfl (by decide) rfl (by decide) (Nat.le_of_ble_eq_true rfl) (Nat.le_of_ble_eq_true rfl) dLa_law_17 (fun H hw => ?_)
  obtain ⟨w5, e5⟩ : ∃ w_, w_ = fw_up w4 (b + 95) (.inl (cL, 1, .inr (.inl (fun _ => lN 0)))) := ⟨_, rfl⟩
  have hw : fw_H D kCl A s.heap w5 (b + 96) H locs := by rw [e5]; exact hw
  have f5_ : w5 (b + 95) = some (.inl (cL, 1, .inr (.inl (fun _ => lN 0)))) := by rw [e5]; exact fw_us _ _ _
  have f5 := f5_
  have hB : bcS cI cL cQ w5 b (fun _ => 0) (fun _ _ => 0) bcV0 (fun _ => 0) := hB.kept (fun a h1 h2 => by rw [e5, fw_un (by omega)])
  have hM : moS cI cL w5 (b + 86) (fun _ => 0) (fun _ _ => 0) moS0 moC0 := hM.kept (fun a h1 h2 => by rw [e5, fw_un (by omega)])
  refine lv_astore_n (pc := 19) (lv' := [(3, .ref (b + 95)), (2, .ref (b + 86)), (1, .ref b), (0, .ref a0)]) hx hb dLa_law_19 rfl hl (by decide) rfl (fun ls hl => ?_)
  refine lv_iconst (pc := 20) (v := (nI 0)) hx hb dLa_law_20 (by decide) ?_
  refine lv_istore (pc := 21) (lv' := [(4, .int (nI 0)), (3, .ref (b + 95)), (2, .ref (b + 86)), (1, .ref b), (0, .ref a0)]) hx hb dLa_law_21 hl (by decide) rfl (fun ls hl => ?_)
  have loop : ∀ (r j : Nat), 4 * j + 4 * r ≤ L → L < 4 * j + 4 * r + 4 → ∀ (I : Nat → Nat) (J : Nat → Nat → Nat) (V G MI : Nat → Nat) (K : Nat → Nat → Nat) (S : Nat → Int32) (X : Nat → Nat), Rel I J V G MI K S X → ∀ (w1 : fw_W) (n1 : Nat) (H : Heap) (locs : List Loc) (ls : Array Slot) (f : Nat → Int64), fw_H D kCl A s.heap w1 n1 H locs → bcS cI cL cQ w1 b I J V G → moS cI cL w1 (b + 86) MI K S (mC X) → w1 (b + 95) = some (.inl (cL, 1, .inr (.inl f))) → lv_has ls 8 [(4, .int (nI (4 * j))), (3, .ref (b + 95)), (2, .ref (b + 86)), (1, .ref b), (0, .ref a0)] → W p l e room_1 s m #[Value.ref a0] below meth c H locs (200 + j) (6000 + 6 * j) (lw_Z below #[Value.ref a0] s) (F0 m 23 ls []) := by
    intro r
    induction r with
    | zero => intro j h1 h2 I J V G MI K S X hR w1 n1 H locs ls f hw hB hM hO hl; exact fin (4 * j) w1 n1 H locs ls _ _ (by omega) (by omega) (by omega) (by omega) hw hl
    | succ r ih =>
      intro j h1 h2 I J V G MI K S X hR w1 n1 H locs ls f hw hB hM hO hl
      have hi : 4 * j + 4 ≤ L := by omega
      refine lv_iload (pc := 23) hx hb dLa_law_23 (lv_at hl 0 rfl) ?_
      refine lv_aload_n (pc := 25) hx hb dLa_law_25 rfl (lv_at hl 4 rfl) ?_
      refine va_slen (pc := 26) hx hb hX hbl hbA hw.2.2.2.2 dLa_law_26 ?_
      refine lv_iconst (pc := 27) (v := (nI 4)) hx hb dLa_law_27 (by decide) ?_
      refine lv_isub (pc := 28) hx hb dLa_law_28 ?_
      refine lv_icmp_gt (pc := 29) (tgt := 615) hx hb dLa_law_29 (by decide) (fun hc => absurd hc (fun h => absurd ((law_gt hL31 (by omega)).mp h) (by omega))) (fun _ => ?_)
      have kk : ∀ (I : Nat → Nat) (J : Nat → Nat → Nat) (V G MI : Nat → Nat) (K : Nat → Nat → Nat) (S : Nat → Int32) (X : Nat → Nat), Rel I J V G MI K S X → ∀ (w1 : fw_W) (n1 : Nat) (H1 : Heap) (locs1 : List Loc) (ls1 : Array Slot) (f1 : Nat → Int64), fw_H D kCl A s.heap w1 n1 H1 locs1 → bcS cI cL cQ w1 b I J V G → moS cI cL w1 (b + 86) MI K S (mC X) → w1 (b + 95) = some (.inl (cL, 1, .inr (.inl f1))) → lv_has ls1 8 [(4, .int (nI (4 * j))), (3, .ref (b + 95)), (2, .ref (b + 86)), (1, .ref b), (0, .ref a0)] → W p l e room_1 s m #[Value.ref a0] below meth c H1 locs1 (200 + j + 1) (6000 + 6 * j + 6) (lw_Z below #[Value.ref a0] s) (F0 m 609 ls1 []) := by
        intro I J V G MI K S X hR w1 n1 H1 locs1 ls f1 hw1 hB hM hO hl
        refine lv_iinc (pc := 609) (lv' := [(4, .int (nI (4 * (j + 1)))), (3, .ref (b + 95)), (2, .ref (b + 86)), (1, .ref b), (0, .ref a0)]) hx hb dLa_law_609 hl (k := 0) rfl ((by rw [show 4 * (j + 1) = 4 * j + 4 by omega]; exact nI_add (4 * j) 4)) (by decide) rfl (fun ls hl => ?_)
        refine lv_goto (pc := 612) (tgt := 23) hx hb dLa_law_612 (by decide) ?_
        exact ih (j + 1) (by omega) (by omega) I J V G MI K S X hR w1 n1 H1 locs1 ls f1 hw1 hB hM hO hl
      have hs := hR.sz
      obtain ⟨t, ht, hte⟩ := and15 (xs (4 * j))
      refine s_switch hx hb hown hml hW hK hst hX hbl hbA hL31 hi (by omega) (by omega) hw hl hB hM hO ht hte ?_
      rcases (show t = 0 ∨ t = 1 ∨ t = 2 ∨ t = 3 ∨ t = 4 ∨ t = 5 ∨ t = 6 ∨ t = 7 ∨ t = 8 ∨ t = 9 ∨ t = 10 ∨ 10 < t by omega) with rfl | rfl | rfl | rfl | rfl | rfl | rfl | rfl | rfl | rfl | rfl | h10
      · by_cases htk : tk (xs (4 * j + 1)) (xs (4 * j + 2)) = true
        · obtain ⟨k, hk32, hk⟩ := wb_of32 (xs (4 * j + 1))
          obtain ⟨u, hu32, hu⟩ := wb_of32 (xs (4 * j + 2))
          have hk : xs (4 * j + 1) = nI k := hk
          have hu : xs (4 * j + 2) = nI u := hu
          have ht9 : tk (nI k) (nI u) = true := by rw [← hk, ← hu]; exact htk
          obtain ⟨t1, t2, t3⟩ := tk_ok hk32 hu32 ht9
          by_cases hfull : I 0 < 120
          · exact s_feed hx hb hown hml hW hK hst hX hbl hbA hL31 hi (by omega) (by omega) hw hl hB hM hO hk hu ht9 hfull hR.m3 (kk _ _ _ _ _ _ _ _ (hR.feed t1 t2 t3 hfull))
          · exact s_feedFull hx hb hown hml hW hK hst hX hbl hbA hL31 hi (by omega) (by omega) hw hl hB hM hO hk hu ht9 (by have := hR.i0; omega) hR.m3 (kk _ _ _ _ _ _ _ _ (hR.mi0 0))
        · exact s_feedT hx hb hown hml hW hK hst hX hbl hbA hL31 hi (by omega) (by omega) hw hl hB hM hO (by simpa using htk) (kk _ _ _ _ _ _ _ _ (hR.mi0 1))
      · obtain ⟨a9, o9, v9, n9, t9, c9, d9, x9, hct⟩ : ∃ a9 o9 v9 n9 t9 c9 d9 x9, cT I J = (a9, (o9, v9, n9, t9, c9, d9, x9)) := ⟨_, _, _, _, _, _, _, _, rfl⟩
        exact s_compile hx hb hown hml hW hK hst hX hbl hbA hL31 hi (by omega) (by omega) hw hl hB hM hO hR.g hR.i0 (fun i hi => (hR.tok i hi).2.2.1) (fun i hi => (hR.tok i hi).2.2.2.1) (fun i hi => (hR.tok i hi).2.2.2.2) hct (by rw [hR.m3]; exact hR.i0) (fun i hi => by rw [hR.m3] at hi; rw [(hR.tok i hi).1]; exact (hR.tok i hi).2.2.1) (by rw [hR.m3, tTr_eq (fun i hi => ⟨(hR.tok i hi).1, (hR.tok i hi).2.1⟩) (I 0) 0 (by omega)]; exact hct) (fun ha => ⟨(hR.cgd hct ha).1, by rw [hR.m3]; exact (hR.cgd hct ha).2.2⟩) (fun MI2 K2 y => kk _ _ _ _ _ _ _ _ (hR.cmp hct y))
      · by_cases hv : xs (4 * j + 1) < 0 ∨ nI 8 ≤ xs (4 * j + 1)
        · exact s_setT hx hb hown hml hW hK hst hX hbl hbA hL31 hi (by omega) (by omega) hw hl hB hM hO hv (law_7 hv) (kk _ _ _ _ _ _ _ _ (hR.mi0 1))
        · obtain ⟨j9, hj, hje⟩ := law_var hv
          obtain ⟨y, hy, hye⟩ := wb_of ((xs (4 * j + 2)).toInt64 <<< ((nI 32).toInt64 &&& 63) ||| (xs (4 * j + 3)).toInt64 &&& lN 4294967295)
          exact s_set hx hb hown hml hW hK hst hX hbl hbA hL31 hi (by omega) (by omega) hw hl hB hM hO hj hje hy hye (by rw [setC_mC (lmg_lt hy)]; exact kk _ _ _ _ _ _ _ _ (hR.set hj hy))
      · by_cases hv : xs (4 * j + 1) < 0 ∨ nI 8 ≤ xs (4 * j + 1)
        · exact s_keepA hx hb hown hml hW hK hst hX hbl hbA hL31 hi (by omega) (by omega) hw hl hB hM hO hv (kk _ _ _ _ _ _ _ _ (hR.mi0 1))
        · obtain ⟨j9, hj, hje⟩ := law_var hv
          by_cases hres : 0 < I 1 ∧ I 4 = I 1
          · exact s_keep hx hb hown hml hW hK hst hX hbl hbA hL31 hi (by omega) (by omega) hw hl hB hM hO hj hje hres.1 hs.1 hres.2 hs.2.2.1 hs.2.2.2.1 hs.2.2.2.2 (hR.yes hres.1 hres.2) hR.g hR.x9 (kk _ _ _ _ _ _ _ _ (hR.keep hres.1 hres.2 hj))
          · exact s_keepS hx hb hown hml hW hK hst hX hbl hbA hL31 hi (by omega) (by omega) hw hl hB hM hO hj hje hs.1 hs.2.1 hres hs.2.2.1 hs.2.2.2.1 hs.2.2.2.2 (hR.no hres) (kk _ _ _ _ _ _ _ _ (hR.mi0 2))
      · by_cases h19 : 0 < I 1
        · exact s_restart hx hb hown hml hW hK hst hX hbl hbA hL31 hi (by omega) (by omega) hw hl hB hM hO h19 hs.1 (by rw [hR.m6, if_pos h19]; decide) hs.2.2.1 (kk _ _ _ _ _ _ _ _ (hR.restart))
        · exact s_restartS hx hb hown hml hW hK hst hX hbl hbA hL31 hi (by omega) (by omega) hw hl hB hM hO (by omega) (by rw [hR.m6, if_neg h19]) (kk _ _ _ _ _ _ _ _ (hR.mi0 1))
      · by_cases h19 : 0 < I 1
        · by_cases hv : xs (4 * j + 1) < 0 ∨ nI 10000 < xs (4 * j + 1)
          · exact s_runA hx hb hown hml hW hK hst hX hbl hbA hL31 hi (by omega) (by omega) hw hl hB hM hO h19 hs.1 (by rw [hR.m6, if_pos h19]; decide) hs.2.2.1 hv (kk _ _ _ _ _ _ _ _ (hR.mi0 2))
          · obtain ⟨k, hk, hke⟩ := nI_to0 (n := 10000) (by decide) (fun h => hv (Or.inl h)) (fun h => hv (Or.inr h))
            exact s_run hx hb hown hml hW hK hst hX hbl hbA hL31 hi (by omega) (by omega) hw hl hB hM hO hk hke hR.g h19 hR.ok hR.mk (by rw [hR.m6, if_pos h19]) hR.m7 hR.m16 hR.m17 hR.m18 hR.m19 (by rw [hR.m7]; exact cOk_eq hR.cod hR.ok) (by rw [hR.m7]; exact mOk_eq hR.cod hR.mk) hR.rf (by rw [hR.m7]; exact mRun_eq hR.cod k _) (fun V2 G2 S2 X2 z2 z3 z4 hrf2 => kk _ _ _ _ _ _ _ _ (hR.run (mRun_ok hR.ok (yV_lt hR.g) k hR.mk) z2 z3 z4 hrf2))
        · exact s_runS hx hb hown hml hW hK hst hX hbl hbA hL31 hi (by omega) (by omega) hw hl hB hM hO (by omega) (by rw [hR.m6, if_neg h19]) (kk _ _ _ _ _ _ _ _ (hR.mi0 1))
      · by_cases hres : 0 < I 1 ∧ I 4 = I 1
        · exact s_sign hx hb hown hml hW hK hst hX hbl hbA hL31 hi (by omega) (by omega) hw hl hB hM hO (hR.sgn hres.1 hres.2) hres.1 hs.1 hres.2 hs.2.2.1 hs.2.2.2.1 hs.2.2.2.2 (hR.yes hres.1 hres.2) hR.g hR.x9 (kk _ _ _ _ _ _ _ _ (hR.mi0 0))
        · exact s_signS hx hb hown hml hW hK hst hX hbl hbA hL31 hi (by omega) (by omega) hw hl hB hM hO hs.1 hs.2.1 hres hs.2.2.1 hs.2.2.2.1 hs.2.2.2.2 (hR.no hres) (kk _ _ _ _ _ _ _ _ (hR.mi0 1))
      · by_cases hres : 0 < I 1 ∧ I 4 = I 1
        · by_cases hv : xs (4 * j + 1) < 0 ∨ nI 24 ≤ xs (4 * j + 1)
          · exact s_limbI hx hb hown hml hW hK hst hX hbl hbA hL31 hi (by omega) (by omega) hw hl hB hM hO hv (law_23 hv) hres.1 hs.1 hres.2 hs.2.2.1 hs.2.2.2.1 hs.2.2.2.2 (hR.yes hres.1 hres.2) (kk _ _ _ _ _ _ _ _ (hR.mi0 2))
          · obtain ⟨k, hk, hke⟩ := law_var24 hv
            exact s_limb hx hb hown hml hW hK hst hX hbl hbA hL31 hi (by omega) (by omega) hw hl hB hM hO hk hke (hR.v0 hres.1 hres.2) hres.1 hs.1 hres.2 hs.2.2.1 hs.2.2.2.1 hs.2.2.2.2 (hR.yes hres.1 hres.2) hR.g hR.x9 (kk _ _ _ _ _ _ _ _ (hR.mi0 0))
        · exact s_limbS hx hb hown hml hW hK hst hX hbl hbA hL31 hi (by omega) (by omega) hw hl hB hM hO hs.1 hs.2.1 hres hs.2.2.1 hs.2.2.2.1 hs.2.2.2.2 (hR.no hres) (kk _ _ _ _ _ _ _ _ (hR.mi0 1))
      · by_cases hres : 0 < I 1 ∧ I 4 = I 1
        · by_cases hv : xs (4 * j + 1) < 0
          · exact s_digitI hx hb hown hml hW hK hst hX hbl hbA hL31 hi (by omega) (by omega) hw hl hB hM hO hv hres.1 hs.1 hres.2 hs.2.2.1 hs.2.2.2.1 hs.2.2.2.2 (hR.yes hres.1 hres.2) (kk _ _ _ _ _ _ _ _ (hR.mi0 2))
          · obtain ⟨k, hk, hke⟩ := nI_of hv
            exact s_digit hx hb hown hml hW hK hst hX hbl hbA hL31 hi (by omega) (by omega) hw hl hB hM hO hk hke (hR.v0 hres.1 hres.2) (hR.x70 hres.1 hres.2) hres.1 hs.1 hres.2 hs.2.2.1 hs.2.2.2.1 hs.2.2.2.2 (hR.yes hres.1 hres.2) hR.g hR.x9 (fun e4 e5 he => kk _ _ _ _ _ _ _ _ (hR.dig he))
        · exact s_digitS hx hb hown hml hW hK hst hX hbl hbA hL31 hi (by omega) (by omega) hw hl hB hM hO hs.1 hs.2.1 hres hs.2.2.1 hs.2.2.2.1 hs.2.2.2.2 (hR.no hres) (kk _ _ _ _ _ _ _ _ (hR.mi0 1))
      · by_cases hv : xs (4 * j + 1) < 0 ∨ nI 8 ≤ xs (4 * j + 1)
        · exact s_compareA hx hb hown hml hW hK hst hX hbl hbA hL31 hi (by omega) (by omega) hw hl hB hM hO hv (kk _ _ _ _ _ _ _ _ (hR.mi0 1))
        · obtain ⟨j9, hj, hje⟩ := law_var hv
          by_cases hres : 0 < I 1 ∧ I 4 = I 1
          · exact s_compare hx hb hown hml hW hK hst hX hbl hbA hL31 hi (by omega) (by omega) hw hl hB hM hO hj hje (hR.res hres.1 hres.2) (by have h9 := hR.rf.2.1 j9 hj; unfold yV at h9; rw [if_pos hj] at h9; exact h9) hres.1 hs.1 hres.2 hs.2.2.1 hs.2.2.2.1 hs.2.2.2.2 (hR.yes hres.1 hres.2) hR.g hR.x9 (kk _ _ _ _ _ _ _ _ (hR.mi0 0))
          · exact s_compareS hx hb hown hml hW hK hst hX hbl hbA hL31 hi (by omega) (by omega) hw hl hB hM hO hj hje hs.1 hs.2.1 hres hs.2.2.1 hs.2.2.2.1 hs.2.2.2.2 (hR.no hres) (kk _ _ _ _ _ _ _ _ (hR.mi0 2))
      · by_cases hv : xs (4 * j + 1) < 0 ∨ nI 7 < xs (4 * j + 1)
        · exact s_countO hx hb hown hml hW hK hst hX hbl hbA hL31 hi (by omega) (by omega) hw hl hB hM hO hv (kk _ _ _ _ _ _ _ _ (hR.mi0 0))
        · obtain ⟨j9, hj, hje⟩ := law_var (x := xs (4 * j + 1)) (law_7n hv)
          rcases (show j9 = 0 ∨ j9 = 1 ∨ j9 = 2 ∨ j9 = 3 ∨ j9 = 4 ∨ j9 = 5 ∨ j9 = 6 ∨ j9 = 7 by omega) with rfl | rfl | rfl | rfl | rfl | rfl | rfl | rfl
          · exact s_count0 hx hb hown hml hW hK hst hX hbl hbA hL31 hi (by omega) (by omega) hw hl hB hM hO hje hR.m3.symm (kk _ _ _ _ _ _ _ _ (hR.mi0 0))
          · exact s_count1 hx hb hown hml hW hK hst hX hbl hbA hL31 hi (by omega) (by omega) hw hl hB hM hO hje hR.m7.symm (kk _ _ _ _ _ _ _ _ (hR.mi0 0))
          · exact s_count2 hx hb hown hml hW hK hst hX hbl hbA hL31 hi (by omega) (by omega) hw hl hB hM hO hje hR.m16.symm (kk _ _ _ _ _ _ _ _ (hR.mi0 0))
          · exact s_count3 hx hb hown hml hW hK hst hX hbl hbA hL31 hi (by omega) (by omega) hw hl hB hM hO hje hR.m17.symm (kk _ _ _ _ _ _ _ _ (hR.mi0 0))
          · exact s_count4 hx hb hown hml hW hK hst hX hbl hbA hL31 hi (by omega) (by omega) hw hl hB hM hO hje hR.m18.symm (kk _ _ _ _ _ _ _ _ (hR.mi0 0))
          · by_cases hres : 0 < I 1 ∧ I 4 = I 1
            · exact s_count5 hx hb hown hml hW hK hst hX hbl hbA hL31 hi (by omega) (by omega) hw hl hB hM hO hje hres.1 hs.1 hres.2 hs.2.2.1 hs.2.2.2.1 hs.2.2.2.2 (hR.yes hres.1 hres.2) (kk _ _ _ _ _ _ _ _ (hR.mi0 0))
            · exact s_count5n hx hb hown hml hW hK hst hX hbl hbA hL31 hi (by omega) (by omega) hw hl hB hM hO hje hs.1 hs.2.1 hres hs.2.2.1 hs.2.2.2.1 hs.2.2.2.2 (hR.no hres) (kk _ _ _ _ _ _ _ _ (hR.mi0 0))
          · by_cases hres : 0 < I 1 ∧ I 4 = I 1
            · exact s_count6 hx hb hown hml hW hK hst hX hbl hbA hL31 hi (by omega) (by omega) hw hl hB hM hO hje (hR.v0 hres.1 hres.2) hres.1 hs.1 hres.2 hs.2.2.1 hs.2.2.2.1 hs.2.2.2.2 (hR.yes hres.1 hres.2) hR.g hR.x9 (kk _ _ _ _ _ _ _ _ (hR.mi0 0))
            · exact s_count6n hx hb hown hml hW hK hst hX hbl hbA hL31 hi (by omega) (by omega) hw hl hB hM hO hje hs.1 hs.2.1 hres hs.2.2.1 hs.2.2.2.1 hs.2.2.2.2 (hR.no hres) (kk _ _ _ _ _ _ _ _ (hR.mi0 0))
          · by_cases hres : 0 < I 1 ∧ I 4 = I 1
            · exact s_count7 hx hb hown hml hW hK hst hX hbl hbA hL31 hi (by omega) (by omega) hw hl hB hM hO hje (hR.v0 hres.1 hres.2) (hR.x70 hres.1 hres.2) hres.1 hs.1 hres.2 hs.2.2.1 hs.2.2.2.1 hs.2.2.2.2 (hR.yes hres.1 hres.2) hR.g hR.x9 (fun e4 e5 he => kk _ _ _ _ _ _ _ _ (hR.dig he))
            · exact s_count7n hx hb hown hml hW hK hst hX hbl hbA hL31 hi (by omega) (by omega) hw hl hB hM hO hje hs.1 hs.2.1 hres hs.2.2.1 hs.2.2.2.1 hs.2.2.2.2 (hR.no hres) (kk _ _ _ _ _ _ _ _ (hR.mi0 0))
      · rw [law_tgt h10]
        refine W.widen (k := 200 + j + 1) (n := 6000 + 6 * j + 6) (by omega) (by omega) ?_
        exact kk _ _ _ _ _ _ _ _ hR _ _ _ _ ls _ hw hB hM hO hl
  rw [moC0_mC] at hM
  refine W.widen (k := 200 + 0) (n := 6000 + 6 * 0) (Nat.le_of_ble_eq_true rfl) (Nat.le_of_ble_eq_true rfl) ?_
  exact loop (L / 4) 0 (by omega) (by omega) _ _ _ _ _ _ _ _ Rel_0 _ _ H locs ls _ hw hB hM f5 (lv_sub hl [0, 1, 2, 3, 4] rfl)
set_option maxHeartbeats 4000000 in
theorem lw_walk (l : Launch) (hst : l.stackTraces = false) (b : Addr) (xs : List Int32) : MetFree l x (headSpec (Jvm.Cond.code x code maxLocals ret :: tables_1) room_1) (lw_P b xs) (fun _ _ _ _ _ => True) lw_Q := by
  refine MetFree.of_bodyS (code := code) (maxLocals := maxLocals) (ret := ret) (by decide) ?_ ?_
  · intro args s m h hn
    obtain ⟨meth, c, h1, h2, h3, h4, h5, h6, -, -⟩ := Cond.code_spec hn (atoms_spec (ws := Jvm.Cond.code x code maxLocals ret :: tables_1) h _ List.mem_cons_self)
    exact ⟨meth, c, h1, h2, h3, h4, h5, h6⟩
  · intro p e s m args below meth c s₁ B hml0 hP _
    obtain ⟨rfl, hx, hbd, hgv⟩ := hP
    obtain ⟨scr, harrAt, hlist, hof, hsmall⟩ := hx
    obtain ⟨hcb, hkn, -, -⟩ := State.arrayAt?_spec harrAt
    have hown : s.vm.findClass R_law = some m.cls := findClass_of_methodNamed B.named
    have hts0 : ∀ c ∈ (Jvm.Cond.code x code maxLocals ret :: tables_1), c.before #[Value.ref b] s = true := atoms_spec (ws := Jvm.Cond.code x code maxLocals ret :: tables_1) B.pre
    have hts : ∀ w ∈ lw_tbl, w.before #[Value.ref b] s = true := k2_hts_sels lw_privs (fun w hw => hts0 w (List.mem_cons_of_mem _ hw)) lw_privs_ok
    have hml : c.maxLocals = 8 := B.maxLocals_eq (hts0 _ List.mem_cons_self)
    have X₀ : Stand p l e room_1 s m #[Value.ref b] below meth c s₁ [] 0 0 := Stand.of_body B
    have hh0 : s₁.heap = s.heap := by rw [B.state]; rfl
    have hsz : scr.slots.size = xs.length := by rw [← Array.length_toList, hlist, List.length_map]
    have hval : ∀ j : Nat, j < xs.length → scr.slots[j]? = some (.int (xs.getD j 0)) := fun j hj => by
      rw [← Array.getElem?_toList, hlist]
      simp [hj]
    have hbl : b < s.heap.size := (Array.getElem?_eq_some_iff.mp hcb).1
    have hX : va_X b xs.length (fun j => xs.getD j 0) s s.heap := ⟨scr, hcb, hof, hkn, hsz, hval⟩
    have K : W p l e room_1 s m #[Value.ref b] below meth c s₁.heap [] 0 0 (lw_Z below #[Value.ref b] s) (entryFrame m ([Value.ref b] : List Value).toArray 8) := by
      rw [hh0]
      exact whole_start l hst hbd ⟨B.exec, B.bytes, B.returns, hml, hown, hts, hX, hbl, B.notSynchronized, hgv⟩
    obtain ⟨t, a1, o, b1, b2, b3⟩ := K s₁ rfl X₀
    exact ⟨t, o, a1, b1, b2, b3⟩
theorem lw_pre_spec {args : Array Value} {s : State} (h : (Jvm.Cond.and given_1 narrow_1).before args s = true) (hr : rest_1_c.before args s = true) : ∃ (b : Addr) (xs : List Int32), lw_P b xs args s := by
  have hs := flat_of_before _ h
  have hq := flat_of_before _ hr
  have hc : (Cond.count 1).before args s = true := hs _ (by decide +kernel)
  have harr : (Cond.arrayOf (.arg 0) .int).before args s = true := hs _ (by decide +kernel)
  have hle : (Cond.le (.length (.arg 0)) (.int 2048)).before args s = true := hs _ (by decide +kernel)
  have hlen : (Cond.isInt (.length (.arg 0))).before args s = true := hq _ (by decide +kernel)
  have hall : (Cond.all (.arg 0) (.isInt (.elem (.arg 0) (.index 0)))).before args s = true := hq _ (by decide +kernel)
  obtain ⟨b, xs, hb, hx⟩ := State.ints_of_pre rfl harr hlen hall
  have hsm : xs.length < 2 ^ 31 := hx.choose_spec.2.2.2
  have hev : (Term.length (.arg 0)).eval args s none [] s = some (.int xs.length.toInt32) := hx.length_eval hb
  have hv := Cond.le_ints hev (show (Term.int 2048).eval args s none [] s = some (.int 2048) from rfl)
  have hd : xs.length.toInt32 ≤ 2048 := by
    simpa [Cond.before, Cond.holds, hv] using hle
  have hN : xs.length ≤ 2048 := (Int32.ofNat_le_ofNat hsm (by decide)).mp (show Int32.ofNat xs.length ≤ Int32.ofNat 2048 from hd)
  exact ⟨b, xs, Cond.one_arg hc (show args[0]? = some (.ref b) from hb), hx, hN, h⟩
theorem lw_comes (l : Launch) (hst : l.stackTraces = false) : Comes l x (Jvm.Cond.code x code maxLocals ret :: tables_1) room_1 (fun tb e args s => Calls_1 tb e args s ∧ rest_1 tb e args s ∧ Pre_1 tb e args s)
    (fun _ _ args s o t => lw_Q args s o t) := by
  intro p e ha hc hk s m args below hf hfit hheap happ hpre
  obtain ⟨b, xs, hP⟩ := lw_pre_spec hpre.2.2 hpre.2.1
  obtain ⟨k, o, h1, h2, h3, hQ⟩ := lw_walk l hst b xs p e ha hc hk s m args below hf ((Spec.applies_iff_loose hf).mp happ).1 hP trivial
  exact ⟨k, o, h1, h2, h3, hQ⟩
theorem lw_frame {s t : State} {o : Outcome} {args : Array Value} (h : Framed s o t [] 601024 7293034) :
    Framed s o t (fieldLocs frame_1_writes args s ++ arrayLocs frame_1_arrays args s ++ staticLocs frame_1_statics s) 601024 7293034 := h
theorem lw_limb (L : Cond) (hL : ∀ (args : Array Value) (s t : State), L.after args s (.returned (some (.int 1))) t = true) :
    ArmFor flags0 classFile x code maxLocals ret World_1 tables_1 room_1 Calls_1 rest_1 Pre_1
      (fun tb e a s o t => postC L tb e a s o t ∧ Framed s o t (fieldLocs frame_1_writes a s ++ arrayLocs frame_1_arrays a s ++ staticLocs frame_1_statics s) 601024 7293034) := by
  intro l hfl _ _ p e ha hc hk s m args below hf hfit hheap happ hpre
  obtain ⟨k, o, h1, h2, h3, rfl, hF⟩ := lw_comes l (law_st hfl) p e ha hc hk s m args below hf hfit hheap happ hpre
  exact ⟨k, _, h1, h2, h3, hL args s _, lw_frame hF⟩
theorem i_vc : Claimed_1_1 ∧ Claimed_1_2 := ⟨lw_limb limb_1_1 (fun args s t => by simp [limb_1_1, Cond.after, Cond.holds, Cond.value]), lw_limb limb_1_2 (fun args s t => Cond.after_iff.mpr (by
  first | (rw [show limb_1_2 = Cond.eq .result (.int 1) from rfl, Cond.eq_ints (x := 1) (y := 1) rfl rfl]; simp; done) | (simp [limb_1_2, Cond.value, Term.eval]; done)))⟩
