/-! BigCalculator.Natural: contracts. Written by wip/gen/natural.py. -/
section NAT
variable {l : Launch} {D : va_G} {cI cL cQ : ClassId} {z : kZ_T} {sz : Nat} {w : fw_W}
set_option maxHeartbeats 4000000 in
set_option maxRecDepth 100000 in
theorem c_Na_isZero {n k : Nat} (hk : k < 2 ^ 31) (h : w n = some (.inr (5, [.ref (n + 1), .int (nI k)]))) : fw_R l yNa_isZero (Cond.code yNa_isZero cNa_isZero 1 (some FieldType.boolean) :: kWs) ({ frames := 0, cells := 0, slots := 0, locals := 0 } : Room) D kCl (kty cI cL cQ) z [.ref n] (sz) w (fun v => v = some (.int (nI (if k = 0 then 1 else 0)))) := by
  refine fw_ofR (cc := cNa_isZero) (maxL := 1) (ret := (some FieldType.boolean)) (by decide) rfl (Nat.le_of_ble_eq_true rfl) ?_
  intro p e s m args below meth c hx hb hr hts hown hlocks hml hK H ls hH hw hl
  have hW : ∀ w ∈ kWs, w.before args s = true := fun w h => hts w (List.mem_cons_of_mem _ h)
  have hown : s.vm.findClass RNa = some m.cls := hown
  have hl : lv_has ls 1 [(0, .ref n)] := hl
  refine lv_aload_n (pc := 0) hx hb dNa_isZero_0 rfl (lv_at hl 0 rfl) ?_
  refine fw_get (pc := 1) (ci := 5) (v := .int (nI k)) (C := RNa) (T := TNa) (N := 2) hx hb hW in_Na hown hK.1 hw h rfl 1 (by decide) (hW _ lf_Na_15) (fun _ h => h) rfl dNa_isZero_1 ?_
  refine lv_if_ne (pc := 4) (tgt := 11) hx hb dNa_isZero_4 (by decide) (fun hc => ?_) (fun hc => ?_)
  · refine lv_iconst (pc := 11) (v := (nI 0)) hx hb dNa_isZero_11 (by decide) ?_
    exact fw_zretR (pc := 12) hx hb hr hlocks hH dNa_isZero_12 (by rfl) (by rw [if_neg (fun h0 => hc (by rw [h0]; rfl))])
  · refine lv_iconst (pc := 7) (v := (nI 1)) hx hb dNa_isZero_7 (by decide) ?_
    refine lv_goto (pc := 8) (tgt := 12) hx hb dNa_isZero_8 (by decide) ?_
    exact fw_zretR (pc := 12) hx hb hr hlocks hH dNa_isZero_12 (by rfl) (by rw [if_pos (Classical.byContradiction fun h0 => nI_ne0 (by omega) hk hc)])

set_option maxHeartbeats 4000000 in
set_option maxRecDepth 100000 in
theorem c_Na_isTooGreat {n k : Nat} (hk : k < 2 ^ 31) (h : w n = some (.inr (5, [.ref (n + 1), .int (nI k)]))) : fw_R l yNa_isTooGreat (Cond.code yNa_isTooGreat cNa_isTooGreat 1 (some FieldType.boolean) :: kWs) ({ frames := 0, cells := 0, slots := 0, locals := 0 } : Room) D kCl (kty cI cL cQ) z [.ref n] (sz) w (fun v => v = some (.int (nI (if 24 < k then 1 else 0)))) := by
  refine fw_ofR (cc := cNa_isTooGreat) (maxL := 1) (ret := (some FieldType.boolean)) (by decide) rfl (Nat.le_of_ble_eq_true rfl) ?_
  intro p e s m args below meth c hx hb hr hts hown hlocks hml hK H ls hH hw hl
  have hW : ∀ w ∈ kWs, w.before args s = true := fun w h => hts w (List.mem_cons_of_mem _ h)
  have hown : s.vm.findClass RNa = some m.cls := hown
  have hl : lv_has ls 1 [(0, .ref n)] := hl
  refine lv_aload_n (pc := 0) hx hb dNa_isTooGreat_0 rfl (lv_at hl 0 rfl) ?_
  refine fw_get (pc := 1) (ci := 5) (v := .int (nI k)) (C := RNa) (T := TNa) (N := 2) hx hb hW in_Na hown hK.1 hw h rfl 1 (by decide) (hW _ lf_Na_15) (fun _ h => h) rfl dNa_isTooGreat_1 ?_
  refine lv_bipush (pc := 4) (v := (nI 24)) hx hb dNa_isTooGreat_4 (by decide) ?_
  refine lv_icmp_le (pc := 6) (tgt := 13) hx hb dNa_isTooGreat_6 (by decide) (fun hc => ?_) (fun hc => ?_)
  · refine lv_iconst (pc := 13) (v := (nI 0)) hx hb dNa_isTooGreat_13 (by decide) ?_
    exact fw_zretR (pc := 14) hx hb hr hlocks hH dNa_isTooGreat_14 (by rfl) (by rw [if_neg (fun h0 => nI_ge (a := 24) h0 hk hc)])
  · refine lv_iconst (pc := 9) (v := (nI 1)) hx hb dNa_isTooGreat_9 (by decide) ?_
    refine lv_goto (pc := 10) (tgt := 14) hx hb dNa_isTooGreat_10 (by decide) ?_
    exact fw_zretR (pc := 14) hx hb hr hlocks hH dNa_isTooGreat_14 (by rfl) (by rw [if_pos (Classical.byContradiction fun h0 => hc (nI_le (b := 24) (by omega) (by decide)))])

set_option maxHeartbeats 4000000 in
set_option maxRecDepth 100000 in
theorem c_Na_limbAt {n k i : Nat} {g : Nat → Nat} (hk : k ≤ 50) (hi : i < 2 ^ 31) (h : w n = some (.inr (5, [.ref (n + 1), .int (nI k)]))) (h2 : w (n + 1) = some (.inl (cL, 50, .inr (.inl (fun i => lN (g i)))))) : fw_R l yNa_limbAt (Cond.code yNa_limbAt cNa_limbAt 2 (some FieldType.long) :: kWs) ({ frames := 0, cells := 0, slots := 0, locals := 0 } : Room) D kCl (kty cI cL cQ) z [.ref n, .int (nI i)] (sz) w (fun v => v = some (.long (lN (nl g k i)))) := by
  refine fw_ofR (cc := cNa_limbAt) (maxL := 2) (ret := (some FieldType.long)) (by decide) rfl (Nat.le_of_ble_eq_true rfl) ?_
  intro p e s m args below meth c hx hb hr hts hown hlocks hml hK H ls hH hw hl
  have hW : ∀ w ∈ kWs, w.before args s = true := fun w h => hts w (List.mem_cons_of_mem _ h)
  have hown : s.vm.findClass RNa = some m.cls := hown
  have hl : lv_has ls 2 [(0, .ref n), (1, .int (nI i))] := hl
  refine lv_iload_n (pc := 0) hx hb dNa_limbAt_0 rfl (lv_at hl 1 rfl) ?_
  refine lv_if_lt (pc := 1) (tgt := 21) hx hb dNa_limbAt_1 (by decide) (fun hc => absurd hc (nI_pos hi)) (fun _ => ?_)
  refine lv_iload_n (pc := 4) hx hb dNa_limbAt_4 rfl (lv_at hl 1 rfl) ?_
  refine lv_aload_n (pc := 5) hx hb dNa_limbAt_5 rfl (lv_at hl 0 rfl) ?_
  refine fw_get (pc := 6) (ci := 5) (v := .int (nI k)) (C := RNa) (T := TNa) (N := 2) hx hb hW in_Na hown hK.1 hw h rfl 1 (by decide) (hW _ lf_Na_15) (fun _ h => h) rfl dNa_limbAt_6 ?_
  refine lv_icmp_ge (pc := 9) (tgt := 21) hx hb dNa_limbAt_9 (by decide) (fun hc => ?_) (fun hc => ?_)
  · refine lv_lconst (pc := 21) (v := lN 0) hx hb dNa_limbAt_21 (by decide) ?_
    exact fw_lretR (pc := 22) hx hb hr hlocks hH dNa_limbAt_22 (by rw [nl_out (Classical.byContradiction fun h0 => nI_ge (show i < k by omega) (by omega) hc)])
  · have hik : i < k := Classical.byContradiction fun h0 => hc (nI_le (show k ≤ i by omega) hi)
    refine lv_aload_n (pc := 12) hx hb dNa_limbAt_12 rfl (lv_at hl 0 rfl) ?_
    refine fw_get (pc := 13) (ci := 5) (v := .ref (n + 1)) (C := RNa) (T := TNa) (N := 2) hx hb hW in_Na hown hK.1 hw h rfl 0 (by decide) (hW _ lf_Na_9) (fun _ h => h) rfl dNa_limbAt_13 ?_
    refine lv_iload_n (pc := 16) hx hb dNa_limbAt_16 rfl (lv_at hl 1 rfl) ?_
    refine fw_laldN (pc := 17) (x := lN (g (i))) hx hb hK.1 hw 1 h2 rfl (i) (show i < 50 by omega) (by decide) rfl dNa_limbAt_17 ?_
    refine lv_goto (pc := 18) (tgt := 22) hx hb dNa_limbAt_18 (by decide) ?_
    exact fw_lretR (pc := 22) hx hb hr hlocks hH dNa_limbAt_22 (by rw [nl_in hik])

set_option maxHeartbeats 4000000 in
set_option maxRecDepth 100000 in
theorem c_Na_limbAtNeg {n k : Nat} {x : Int32} (hx0 : x < 0) (h : w n = some (.inr (5, [.ref (n + 1), .int (nI k)]))) : fw_R l yNa_limbAt (Cond.code yNa_limbAt cNa_limbAt 2 (some FieldType.long) :: kWs) ({ frames := 0, cells := 0, slots := 0, locals := 0 } : Room) D kCl (kty cI cL cQ) z [.ref n, .int x] (sz) w (fun v => v = some (.long (lN 0))) := by
  refine fw_ofR (cc := cNa_limbAt) (maxL := 2) (ret := (some FieldType.long)) (by decide) rfl (Nat.le_of_ble_eq_true rfl) ?_
  intro p e s m args below meth c hx hb hr hts hown hlocks hml hK H ls hH hw hl
  have hW : ∀ w ∈ kWs, w.before args s = true := fun w h => hts w (List.mem_cons_of_mem _ h)
  have hown : s.vm.findClass RNa = some m.cls := hown
  have hl : lv_has ls 2 [(0, .ref n), (1, .int x)] := hl
  refine lv_iload_n (pc := 0) hx hb dNa_limbAt_0 rfl (lv_at hl 1 rfl) ?_
  refine lv_if_lt (pc := 1) (tgt := 21) hx hb dNa_limbAt_1 (by decide) (fun _ => ?_) (fun hc => absurd hx0 hc)
  refine lv_lconst (pc := 21) (v := lN 0) hx hb dNa_limbAt_21 (by decide) ?_
  exact fw_lretR (pc := 22) hx hb hr hlocks hH dNa_limbAt_22 rfl

set_option maxHeartbeats 4000000 in
set_option maxRecDepth 100000 in
theorem c_Na_trim {n k : Nat} {k0 : Int32} {g : Nat → Nat} (hk : k ≤ 50) (hg : ∀ i, i < 50 → g i < 2 ^ 64) (h : w n = some (.inr (5, [.ref (n + 1), .int k0]))) (h2 : w (n + 1) = some (.inl (cL, 50, .inr (.inl (fun i => lN (g i)))))) : fw_C l yNa_trim (Cond.code yNa_trim cNa_trim 2 none :: kWs) ({ frames := 0, cells := 0, slots := 0, locals := 0 } : Room) D kCl (kty cI cL cQ) z [.ref n, .int (nI k)] (sz) w 0 0 (fun v w' => v = none ∧ ∃ j, j ≤ k ∧ (∀ i, j ≤ i → i < k → g i = 0) ∧ (0 < j → g (j - 1) ≠ 0) ∧ w' n = some (.inr (5, [.ref (n + 1), .int (nI j)])) ∧ ∀ q, q ≠ n → w' q = w q) := by
  refine fw_ofW (cc := cNa_trim) (maxL := 2) (ret := none) (by decide) rfl (Nat.le_of_ble_eq_true rfl) ?_
  intro p e s m args below meth c hx hb hr hts hown hlocks hname hml hK H ls hw hl
  have hW : ∀ w ∈ kWs, w.before args s = true := fun w h => hts w (List.mem_cons_of_mem _ h)
  have hown : s.vm.findClass RNa = some m.cls := hown
  have hl : lv_has ls 2 [(0, .ref n), (1, .int (nI k))] := hl
  have loop : ∀ (j : Nat), j ≤ k → (∀ i, j ≤ i → i < k → g i = 0) → ∀ (w1 : fw_W) (H : Heap) (locs : List Loc), fw_H D kCl (fw_A w (sz)) s.heap w1 (sz) H locs → w1 n = some (.inr (5, [.ref (n + 1), .int (nI j)])) → (∀ q, q ≠ n → w1 q = w q) → W p l e ({ frames := 0, cells := 0, slots := 0, locals := 0 } : Room) s m args below meth c H locs 0 0 (MQ below (fw_Q D kCl w (sz) 0 (fun v w' => v = none ∧ ∃ j, j ≤ k ∧ (∀ i, j ≤ i → i < k → g i = 0) ∧ (0 < j → g (j - 1) ≠ 0) ∧ w' n = some (.inr (5, [.ref (n + 1), .int (nI j)])) ∧ ∀ q, q ≠ n → w' q = w q)) args s 0 0 (fw_A w (sz))) (F0 m 5 ls []) := by
    intro j
    induction j with
    | zero =>
      intro hjk hz w1 H locs hw f1 ho
      refine lv_aload_n (pc := 5) hx hb dNa_trim_5 rfl (lv_at hl 0 rfl) ?_
      refine fw_get (pc := 6) (ci := 5) (v := .int (nI 0)) (C := RNa) (T := TNa) (N := 2) hx hb hW in_Na hown hK.1 hw f1 rfl 1 (by decide) (hW _ lf_Na_15) (fun _ h => h) rfl dNa_trim_6 ?_
      refine lv_if_le (pc := 9) (tgt := 41) hx hb dNa_trim_9 (by decide) (fun _ => ?_) (fun hc => absurd (show nI 0 ≤ 0 by decide) hc)
      exact fw_vret (pc := 41) hx hb hr hlocks hw dNa_trim_41 ⟨rfl, 0, hjk, hz, fun h => absurd h (Nat.lt_irrefl 0), f1, ho⟩
    | succ j ih =>
      intro hjk hz w1 H locs hw f1 ho
      have h2 : w1 (n + 1) = some (.inl (cL, 50, .inr (.inl (fun i => lN (g i))))) := (ho _ (fw_neK h2 h)).trans h2
      refine lv_aload_n (pc := 5) hx hb dNa_trim_5 rfl (lv_at hl 0 rfl) ?_
      refine fw_get (pc := 6) (ci := 5) (v := .int (nI (j + 1))) (C := RNa) (T := TNa) (N := 2) hx hb hW in_Na hown hK.1 hw f1 rfl 1 (by decide) (hW _ lf_Na_15) (fun _ h => h) rfl dNa_trim_6 ?_
      refine lv_if_le (pc := 9) (tgt := 41) hx hb dNa_trim_9 (by decide) (fun hc => absurd hc (nI_nle (Nat.succ_pos j) (by omega))) (fun _ => ?_)
      refine lv_aload_n (pc := 12) hx hb dNa_trim_12 rfl (lv_at hl 0 rfl) ?_
      refine fw_get (pc := 13) (ci := 5) (v := .ref (n + 1)) (C := RNa) (T := TNa) (N := 2) hx hb hW in_Na hown hK.1 hw f1 rfl 0 (by decide) (hW _ lf_Na_9) (fun _ h => h) rfl dNa_trim_13 ?_
      refine lv_aload_n (pc := 16) hx hb dNa_trim_16 rfl (lv_at hl 0 rfl) ?_
      refine fw_get (pc := 17) (ci := 5) (v := .int (nI (j + 1))) (C := RNa) (T := TNa) (N := 2) hx hb hW in_Na hown hK.1 hw f1 rfl 1 (by decide) (hW _ lf_Na_15) (fun _ h => h) rfl dNa_trim_17 ?_
      refine lv_iconst (pc := 20) (v := (nI 1)) hx hb dNa_trim_20 (by decide) ?_
      refine lv_isub (pc := 21) hx hb dNa_trim_21 ?_
      rw [show ((nI (j + 1) - (nI 1)) : Int32) = nI j from (nI_pred j)]
      refine fw_laldN (pc := 22) (x := lN (g (j))) hx hb hK.1 hw 1 h2 rfl (j) (show j < 50 by omega) (by decide) rfl dNa_trim_22 ?_
      refine lv_lconst (pc := 23) (v := lN 0) hx hb dNa_trim_23 (by decide) ?_
      refine W.lcmp (pc := 24) hx hb dNa_trim_24 ?_
      refine lv_if_ne (pc := 25) (tgt := 41) hx hb dNa_trim_25 (by decide) (fun hc => ?_) (fun hc => ?_)
      · exact fw_vret (pc := 41) hx hb hr hlocks hw dNa_trim_41 ⟨rfl, j + 1, hjk, hz, fun _ => fun h0 => hc (by rw [Nat.add_sub_cancel] at h0; rw [h0]; exact (lg_cmp_eq _ _).mpr rfl), f1, ho⟩
      · have hgj : g j = 0 := lN_zero (hg j (by omega)) ((lg_cmp_eq _ _).mp hc)
        refine lv_aload_n (pc := 28) hx hb dNa_trim_28 rfl (lv_at hl 0 rfl) ?_
        refine lv_dup (pc := 29) hx hb dNa_trim_29 rfl ?_
        refine fw_get (pc := 30) (ci := 5) (v := .int (nI (j + 1))) (C := RNa) (T := TNa) (N := 2) hx hb hW in_Na hown hK.1 hw f1 rfl 1 (by decide) (hW _ lf_Na_15) (fun _ h => h) rfl dNa_trim_30 ?_
        refine lv_iconst (pc := 33) (v := (nI 1)) hx hb dNa_trim_33 (by decide) ?_
        refine lv_isub (pc := 34) hx hb dNa_trim_34 ?_
        rw [show ((nI (j + 1) - (nI 1)) : Int32) = nI j from (nI_pred j)]
        refine fw_put (pc := 35) (ci := 5) (v := .int (nI j)) (ty := .int) (C := RNa) (T := TNa) (N := 2) hx hb hW in_Na tyNa tyNa_ok nmNa hown hK.1 hw f1 rfl 1 (by decide) (hW _ lf_Na_15) (fun _ h => h) rfl (by decide +kernel) rfl rfl (Nat.le_of_ble_eq_true rfl) dNa_trim_35 (fun H locs hw => ?_)
        obtain ⟨w2, e2⟩ : ∃ w_, w_ = fw_up w1 (n) (.inr (5, [.ref (n + 1), .int (nI j)])) := ⟨_, rfl⟩
        have hw : fw_H D kCl (fw_A w (sz)) s.heap w2 (sz) H locs := by rw [e2]; exact hw
        have f1_ : w2 (n) = some (.inr (5, [.ref (n + 1), .int (nI j)])) := by rw [e2]; exact fw_us _ _ _
        have f1 := f1_
        refine lv_goto (pc := 38) (tgt := 5) hx hb dNa_trim_38 (by decide) ?_
        exact ih (by omega) (fun i h1 h3 => by rcases Nat.eq_or_lt_of_le h1 with rfl | h4; exact hgj; exact hz i h4 h3) _ H locs hw f1 (fun q hq => by rw [e2, fw_un hq]; exact ho q hq)
  refine lv_aload_n (pc := 0) hx hb dNa_trim_0 rfl (lv_at hl 0 rfl) ?_
  refine lv_iload_n (pc := 1) hx hb dNa_trim_1 rfl (lv_at hl 1 rfl) ?_
  refine fw_put (pc := 2) (ci := 5) (v := .int (nI k)) (ty := .int) (C := RNa) (T := TNa) (N := 2) hx hb hW in_Na tyNa tyNa_ok nmNa hown hK.1 hw h rfl 1 (by decide) (hW _ lf_Na_15) (fun _ h => h) rfl (by decide +kernel) rfl rfl (Nat.le_of_ble_eq_true rfl) dNa_trim_2 (fun H locs hw => ?_)
  obtain ⟨w6, e6⟩ : ∃ w_, w_ = fw_up w (n) (.inr (5, [.ref (n + 1), .int (nI k)])) := ⟨_, rfl⟩
  have hw : fw_H D kCl (fw_A w (sz)) s.heap w6 (sz) H locs := by rw [e6]; exact hw
  have h_ : w6 (n) = some (.inr (5, [.ref (n + 1), .int (nI k)])) := by rw [e6]; exact fw_us _ _ _
  have h := h_
  exact loop k (Nat.le_refl k) (fun i h1 h3 => absurd h3 (by omega)) _ H locs hw h (fun q hq => by rw [e6, fw_un hq])

set_option maxHeartbeats 4000000 in
set_option maxRecDepth 100000 in
theorem c_Na_init {n : Nat} (h : w n = some (.inr (5, [.null, .int (nI 0)]))) : fw_C l yNa_init (Cond.code yNa_init cNa_init 1 none :: kWs) ({ frames := 1, cells := 1, slots := 50, locals := 12 } : Room) D kCl (kty cI cL cQ) z [.ref n] (n + 1) w 1 50 (fun v w' => v = none ∧ isN cL w' n (fun _ => 0) 0 ∧ ∀ q, q ≠ n → q ≠ n + 1 → w' q = w q) := by
  refine fw_ofW (cc := cNa_init) (maxL := 1) (ret := none) (by decide) rfl (Nat.le_of_ble_eq_true rfl) ?_
  intro p e s m args below meth c hx hb hr hts hown hlocks hname hml hK H ls hw hl
  have hW : ∀ w ∈ kWs, w.before args s = true := fun w h => hts w (List.mem_cons_of_mem _ h)
  have hown : s.vm.findClass RNa = some m.cls := hown
  have hl : lv_has ls 1 [(0, .ref n)] := hl
  refine lv_aload_n (pc := 0) hx hb dNa_init_0 rfl (lv_at hl 0 rfl) ?_
  refine W.objInit hx hb hown (hW _ lm_Na_3) (hW _ im_obj) (hW _ cd_obj) rfl (by rw [hml]; exact hl.1) rfl dNa_init_1 (Nat.le_of_ble_eq_true rfl) (Nat.le_of_ble_eq_true rfl) ?_
  refine W.eq (g2 := F0 m 4 ls []) rfl ?_
  refine lv_aload_n (pc := 4) hx hb dNa_init_4 rfl (lv_at hl 0 rfl) ?_
  refine lv_bipush (pc := 5) (v := (nI 50)) hx hb dNa_init_5 (by decide) ?_
  refine fw_newa (pc := 7) (atype := .long) (a0 := (50, .inr (.inl (fun _ => lN 0)))) hx hb (hW _ ac_long) rfl hK.1 hw 1 rfl (hK.1.2 1 _ rfl).2 rfl (by decide) rfl (by decide) (Nat.le_of_ble_eq_true rfl) (Nat.le_of_ble_eq_true rfl) dNa_init_7 (fun H hw => ?_)
  obtain ⟨w1, e1⟩ : ∃ w_, w_ = fw_up w (n + 1) (.inl (cL, 50, .inr (.inl (fun _ => lN 0)))) := ⟨_, rfl⟩
  have hw : fw_H D kCl (fw_A w (n + 1)) s.heap w1 (n + 1 + 1) H [] := by rw [e1]; exact hw
  have h_ : w1 (n) = some (.inr (5, [.null, .int (nI 0)])) := by rw [e1, fw_un (by omega)]; exact h
  have f1_ : w1 (n + 1) = some (.inl (cL, 50, .inr (.inl (fun _ => lN 0)))) := by rw [e1]; exact fw_us _ _ _
  have h := h_
  have f1 := f1_
  refine fw_putF (pc := 9) (ci := 5) (v := .ref (n + 1)) (ty := (.array .long)) (C := RNa) (T := TNa) (N := 2) hx hb hW in_Na tyNa tyNa_ok nmNa hown hK.1 hw h rfl 0 (by decide) (hW _ lf_Na_9) (fun _ h => h) rfl hname rfl (by decide +kernel) rfl rfl (Nat.le_of_ble_eq_true rfl) dNa_init_9 (fun H locs hw => ?_)
  obtain ⟨w2, e2⟩ : ∃ w_, w_ = fw_up w1 (n) (.inr (5, [.ref (n + 1), .int (nI 0)])) := ⟨_, rfl⟩
  have hw : fw_H D kCl (fw_A w (n + 1)) s.heap w2 (n + 1 + 1) H locs := by rw [e2]; exact hw
  have f1_ : w2 (n + 1) = some (.inl (cL, 50, .inr (.inl (fun _ => lN 0)))) := by rw [e2, fw_un (Ne.symm (by omega))]; exact f1
  have h_ : w2 (n) = some (.inr (5, [.ref (n + 1), .int (nI 0)])) := by rw [e2]; exact fw_us _ _ _
  have h := h_
  have f1 := f1_
  refine lv_aload_n (pc := 12) hx hb dNa_init_12 rfl (lv_at hl 0 rfl) ?_
  refine lv_iconst (pc := 13) (v := (nI 0)) hx hb dNa_init_13 (by decide) ?_
  refine fw_put (pc := 14) (ci := 5) (v := .int (nI 0)) (ty := .int) (C := RNa) (T := TNa) (N := 2) hx hb hW in_Na tyNa tyNa_ok nmNa hown hK.1 hw h rfl 1 (by decide) (hW _ lf_Na_15) (fun _ h => h) rfl (by decide +kernel) rfl rfl (Nat.le_of_ble_eq_true rfl) dNa_init_14 (fun H locs hw => ?_)
  obtain ⟨w3, e3⟩ : ∃ w_, w_ = fw_up w2 (n) (.inr (5, [.ref (n + 1), .int (nI 0)])) := ⟨_, rfl⟩
  have hw : fw_H D kCl (fw_A w (n + 1)) s.heap w3 (n + 1 + 1) H locs := by rw [e3]; exact hw
  have f1_ : w3 (n + 1) = some (.inl (cL, 50, .inr (.inl (fun _ => lN 0)))) := by rw [e3, fw_un (Ne.symm (by omega))]; exact f1
  have h_ : w3 (n) = some (.inr (5, [.ref (n + 1), .int (nI 0)])) := by rw [e3]; exact fw_us _ _ _
  have h := h_
  have f1 := f1_
  exact fw_vret (pc := 17) hx hb hr hlocks hw dNa_init_17 ⟨rfl, ⟨h, f1⟩, fun q h1 h2 => by rw [e3, fw_un h1, e2, fw_un h1, e1, fw_un h2]⟩

set_option maxHeartbeats 4000000 in
set_option maxRecDepth 100000 in
theorem c_Na_becomeLong {n x : Nat} {k0 : Int32} {g : Nat → Nat} (hxx : x < 2 ^ 64) (hg : ∀ i, i < 50 → g i < 2 ^ 64) (h : w n = some (.inr (5, [.ref (n + 1), .int k0]))) (h2 : w (n + 1) = some (.inl (cL, 50, .inr (.inl (fun i => lN (g i)))))) : fw_C l yNa_becomeLong (Cond.code yNa_becomeLong cNa_becomeLong 3 none :: kWs) ({ frames := 1, cells := 0, slots := 0, locals := 21 } : Room) D kCl (kty cI cL cQ) z [.ref n, .long (lN x)] (sz) w 0 0 (fun v w' => v = none ∧ isV cL w' n x ∧ ∀ q, q ≠ n → q ≠ n + 1 → w' q = w q) := by
  refine fw_ofW (cc := cNa_becomeLong) (maxL := 3) (ret := none) (by decide) rfl (Nat.le_of_ble_eq_true rfl) ?_
  intro p e s m args below meth c hx hb hr hts hown hlocks hname hml hK H ls hw hl
  have hW : ∀ w ∈ kWs, w.before args s = true := fun w h => hts w (List.mem_cons_of_mem _ h)
  have hown : s.vm.findClass RNa = some m.cls := hown
  have hl : lv_has ls 3 [(0, .ref n), (1, .long (lN x))] := hl
  refine lv_aload_n (pc := 0) hx hb dNa_becomeLong_0 rfl (lv_at hl 0 rfl) ?_
  refine fw_get (pc := 1) (ci := 5) (v := .ref (n + 1)) (C := RNa) (T := TNa) (N := 2) hx hb hW in_Na hown hK.1 hw h rfl 0 (by decide) (hW _ lf_Na_9) (fun _ h => h) rfl dNa_becomeLong_1 ?_
  refine lv_iconst (pc := 4) (v := (nI 0)) hx hb dNa_becomeLong_4 (by decide) ?_
  refine lv_lload_n (pc := 5) hx hb dNa_becomeLong_5 rfl (lv_at hl 1 rfl) ?_
  refine lv_ldc2 (pc := 6) (v := lN 4294967295) hx hb hown (hW _ kl_Na_39) dNa_becomeLong_6 ?_
  refine lv_land (pc := 9) hx hb dNa_becomeLong_9 ?_
  rw [show ((lN x &&& (lN 4294967295)) : Int64) = lN (x % 4294967296) from (g_mask (s := 32) (p := 4294967296) (by decide) (by decide) hxx)]
  refine fw_lastN (pc := 10) (f2 := fun i => lN (va_up g 0 (x % 4294967296) i)) hx hb hK.1 hw 1 h2 rfl (0) (by decide) (by decide) (lN_up _ _ _) dNa_becomeLong_10 (fun H locs hw => ?_)
  obtain ⟨w1, e1⟩ : ∃ w_, w_ = fw_up w (n + 1) (.inl (cL, 50, .inr (.inl (fun i => lN (va_up g 0 (x % 4294967296) i))))) := ⟨_, rfl⟩
  have hw : fw_H D kCl (fw_A w (sz)) s.heap w1 (sz) H locs := by rw [e1]; exact hw
  have h_ : w1 (n) = some (.inr (5, [.ref (n + 1), .int (k0)])) := by rw [e1, fw_un (by omega)]; exact h
  have h2_ : w1 (n + 1) = some (.inl (cL, 50, .inr (.inl (fun i => lN (va_up g 0 (x % 4294967296) i))))) := by rw [e1]; exact fw_us _ _ _
  have h := h_
  have h2 := h2_
  refine lv_aload_n (pc := 11) hx hb dNa_becomeLong_11 rfl (lv_at hl 0 rfl) ?_
  refine fw_get (pc := 12) (ci := 5) (v := .ref (n + 1)) (C := RNa) (T := TNa) (N := 2) hx hb hW in_Na hown hK.1 hw h rfl 0 (by decide) (hW _ lf_Na_9) (fun _ h => h) rfl dNa_becomeLong_12 ?_
  refine lv_iconst (pc := 15) (v := (nI 1)) hx hb dNa_becomeLong_15 (by decide) ?_
  refine lv_lload_n (pc := 16) hx hb dNa_becomeLong_16 rfl (lv_at hl 1 rfl) ?_
  refine lv_bipush (pc := 17) (v := (nI 32)) hx hb dNa_becomeLong_17 (by decide) ?_
  refine lv_lushr (pc := 19) (v := lN (x / 4294967296)) hx hb dNa_becomeLong_19 (wb_shr (k := 32) hxx (by decide)) ?_
  refine fw_lastN (pc := 20) (f2 := fun i => lN (va_up (va_up g 0 (x % 4294967296)) 1 (x / 4294967296) i)) hx hb hK.1 hw 1 h2 rfl (1) (by decide) (by decide) (lN_up _ _ _) dNa_becomeLong_20 (fun H locs hw => ?_)
  obtain ⟨w2, e2⟩ : ∃ w_, w_ = fw_up w1 (n + 1) (.inl (cL, 50, .inr (.inl (fun i => lN (va_up (va_up g 0 (x % 4294967296)) 1 (x / 4294967296) i))))) := ⟨_, rfl⟩
  have hw : fw_H D kCl (fw_A w (sz)) s.heap w2 (sz) H locs := by rw [e2]; exact hw
  have h_ : w2 (n) = some (.inr (5, [.ref (n + 1), .int (k0)])) := by rw [e2, fw_un (by omega)]; exact h
  have h2_ : w2 (n + 1) = some (.inl (cL, 50, .inr (.inl (fun i => lN (va_up (va_up g 0 (x % 4294967296)) 1 (x / 4294967296) i))))) := by rw [e2]; exact fw_us _ _ _
  have h := h_
  have h2 := h2_
  refine lv_aload_n (pc := 21) hx hb dNa_becomeLong_21 rfl (lv_at hl 0 rfl) ?_
  refine lv_iconst (pc := 22) (v := (nI 2)) hx hb dNa_becomeLong_22 (by decide) ?_
  have hg2 : ∀ i, i < 50 → va_up (va_up g 0 (x % 4294967296)) 1 (x / 4294967296) i < 2 ^ 64 := bl_lt hxx hg
  refine fw_cV (pc := 23) (As := [.int (nI 2)]) (rest := []) ⟨hx, hb, hml, hown, hW⟩ (c_Na_trim (k := 2) (by decide) hg2 h h2) (cwV 1 hW (kw_V lm_Na_41 im_Na_trim se_Na_trim ini_Na cd_Na_trim) rfl rfl rfl (by decide +kernel) ⟨Nat.le_of_ble_eq_true rfl, Nat.le_of_ble_eq_true rfl⟩) hK hw h rfl rfl hl.1 rfl (Nat.le_of_ble_eq_true rfl) dNa_becomeLong_23 ⟨Nat.le_of_ble_eq_true rfl, Nat.le_of_ble_eq_true rfl⟩ (fun v w3 H locs hq hw => ?_)
  obtain ⟨rfl, j, hj, hz, hnz, f1, ho⟩ := hq
  exact fw_vret (pc := 26) hx hb hr hlocks hw dNa_becomeLong_26 ⟨rfl, ⟨_, j, ⟨f1, (ho _ (fw_neK h2 h)).trans h2⟩, by omega, hg2, bl_ok hxx hj hnz, bl_val hxx hj hz⟩, fun q h1 h3 => by rw [ho q h1, e2, fw_un h3, e1, fw_un h3]⟩
end NAT
