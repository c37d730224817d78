theorem ml_le {x n m : Nat} (h : ml x n) (hx : x < nM ^ m) : n ≤ m := by
  apply Classical.byContradiction; intro h2
  have h3 := h.2 (by omega)
  have h4 : nM ^ m ≤ nM ^ (n - 1) := Nat.pow_le_pow_right (by decide) (by omega)
  exact absurd hx (Nat.not_lt.mpr (Nat.le_trans h4 h3))
/-! The reference's methods, fourth part. Written by wip/gen/model4.py. -/
section MO4
variable {l : Launch} {D : va_G} {cI cL cQ : ClassId} {z : kZ_T} {sz : Nat} {w : fw_W}
set_option maxHeartbeats 4000000 in
set_option maxRecDepth 100000 in
theorem c_Mo_addTo {b : Nat} {I : Nat → Nat} {K : Nat → Nat → Nat} {S : Nat → Int32} {X : Nat → Nat} (hS : moS cI cL w b I K S (mC X)) (hX : ∀ p, X p < nM ^ 64) {pa pb : Nat} (ha : pa < 24) (hb2 : pb < 24) (hne : pa ≠ pb) : fw_C l yMo_addTo (Cond.code yMo_addTo cMo_addTo 8 none :: kWs) ({ frames := 0, cells := 0, slots := 0, locals := 0 } : Room) D kCl (kty cI cL cQ) z [.ref b, .int (nI pa), .int (nI pb)] (sz) w 0 0 (fun v w' => v = none ∧ moS cI cL w' b (I) K (S) (mC (va_up X pa ((X pa + X pb) % nM ^ 64))) ∧ ∀ q, q < b ∨ b + 9 ≤ q → w' q = w q) := by
  refine fw_ofW (cc := cMo_addTo) (maxL := 8) (ret := none) (by decide) rfl (Nat.le_of_ble_eq_true rfl) ?_
  intro p e s m args below meth c hx hb hr hts hown hlocks hname hml hK H ls hw hl
  have hW : ∀ w ∈ kWs, w.before args s = true := fun w h => hts w (List.mem_cons_of_mem _ h)
  have hown : s.vm.findClass RMo = some m.cls := hown
  have hl : lv_has ls 8 [(0, .ref b), (1, .int (nI pa)), (2, .int (nI pb))] := hl
  have b0 : w b = some (.inr (10, [.int (nI (I 0)), .ref (b + 1), .ref (b + 2), .int (nI (I 3)), .ref (b + 3), .ref (b + 4), .int (nI (I 6)), .int (nI (I 7)), .ref (b + 5), .ref (b + 6), .int (nI (I 10)), .int (nI (I 11)), .int (nI (I 12)), .int (nI (I 13)), .ref (b + 7), .ref (b + 8), .int (nI (I 16)), .int (nI (I 17)), .int (nI (I 18)), .int (nI (I 19))])) := hS.1
  have b1 : w (b + 1) = some (.inl (cL, 1536, .inr (.inl (fun i => lN (mC X i))))) := hS.2.1
  have b2 : w (b + 2) = some (.inl (cI, 24, .inl (S))) := hS.2.2.1
  have b09 := b0
  have b29 := b2
  have loop : ∀ (e0 k : Nat), k + e0 = 64 → ∀ (w1 : fw_W) (H : Heap) (locs : List Loc) (ls : Array Slot) (cy : Nat) (C : Nat → Nat), fw_H D kCl (fw_A w (sz)) s.heap w1 (sz) H locs → lv_has ls 8 [(5, .int (nI k)), (3, .long (lN cy)), (0, .ref b), (1, .int (nI pa)), (2, .int (nI pb))] → w1 (b + 1) = some (.inl (cL, 1536, .inr (.inl (fun i => lN (C i))))) → (∀ q, q ≠ b + 1 → w1 q = w q) → (∀ j, j < 64 * pa ∨ 64 * pa + k ≤ j → C j = mC X j) → (∀ i, i < k → C (64 * pa + i) < nM) → cy ≤ 1 → nw nM C (64 * pa) k + cy * nM ^ k = nw nM (mC X) (64 * pa) k + nw nM (mC X) (64 * pb) k → W p l e ({ frames := 0, cells := 0, slots := 0, locals := 0 } : Room) s m args below meth c H locs 0 0 (MQ below (fw_Q D kCl w (sz) 0 (fun v w' => v = none ∧ moS cI cL w' b (I) K (S) (mC (va_up X pa ((X pa + X pb) % nM ^ 64))) ∧ ∀ q, q < b ∨ b + 9 ≤ q → w' q = w q)) args s 0 0 (fw_A w (sz))) (F0 m 5 ls []) := by
    intro e0
    induction e0 with
    | zero =>
      intro k hke w1 H locs ls cy C hw hl b1 ho hout hlm hcy hs
      have b0 : w1 b = some (.inr (10, [.int (nI (I 0)), .ref (b + 1), .ref (b + 2), .int (nI (I 3)), .ref (b + 3), .ref (b + 4), .int (nI (I 6)), .int (nI (I 7)), .ref (b + 5), .ref (b + 6), .int (nI (I 10)), .int (nI (I 11)), .int (nI (I 12)), .int (nI (I 13)), .ref (b + 7), .ref (b + 8), .int (nI (I 16)), .int (nI (I 17)), .int (nI (I 18)), .int (nI (I 19))])) := (ho _ (by omega)).trans b09
      refine lv_iload (pc := 5) hx hb dMo_addTo_5 (lv_at hl 0 rfl) ?_
      refine lv_bipush (pc := 7) (v := (nI 64)) hx hb dMo_addTo_7 (by decide) ?_
      refine lv_icmp_ge (pc := 9) (tgt := 71) hx hb dMo_addTo_9 (by decide) (fun _ => ?_) (fun hc => absurd (nI_le (show 64 ≤ k by omega) (by omega)) hc)
      obtain rfl : k = 64 := by omega
      rw [mC_val (hX pa), mC_val (hX pb)] at hs
      have hC : C = mC (va_up X pa ((X pa + X pb) % nM ^ 64)) := mC_of hlm (ad_end hs (nw_lt hlm)) hout
      rw [hC] at b1
      exact fw_vret (pc := 71) hx hb hr hlocks hw dMo_addTo_71 ⟨rfl, moS.cs hS b1 ((ho _ (by omega)).trans b29) (fun q h1 _ => ho q h1), fun q hq => ho q (by omega)⟩
    | succ e0 ih =>
      intro k hke w1 H locs ls cy C hw hl b1 ho hout hlm hcy hs
      have b0 : w1 b = some (.inr (10, [.int (nI (I 0)), .ref (b + 1), .ref (b + 2), .int (nI (I 3)), .ref (b + 3), .ref (b + 4), .int (nI (I 6)), .int (nI (I 7)), .ref (b + 5), .ref (b + 6), .int (nI (I 10)), .int (nI (I 11)), .int (nI (I 12)), .int (nI (I 13)), .ref (b + 7), .ref (b + 8), .int (nI (I 16)), .int (nI (I 17)), .int (nI (I 18)), .int (nI (I 19))])) := (ho _ (by omega)).trans b09
      refine lv_iload (pc := 5) hx hb dMo_addTo_5 (lv_at hl 0 rfl) ?_
      refine lv_bipush (pc := 7) (v := (nI 64)) hx hb dMo_addTo_7 (by decide) ?_
      refine lv_icmp_ge (pc := 9) (tgt := 71) hx hb dMo_addTo_9 (by decide) (fun hc => absurd hc (nI_ge (show k < 64 by omega) (by decide))) (fun _ => ?_)
      have hA := mC_lt24 (X := X) (64 * pa + k)
      have hB := mC_lt24 (X := X) (64 * pb + k)
      refine lv_aload_n (pc := 12) hx hb dMo_addTo_12 rfl (lv_at hl 2 rfl) ?_
      refine fw_get (pc := 13) (ci := 10) (v := .ref (b + 1)) (C := RMo) (T := TMo) (N := 20) hx hb hW in_Mo hown hK.1 hw b0 rfl 1 (by decide) (hW _ lf_Mo_7) (fun _ h => h) rfl dMo_addTo_13 ?_
      refine lv_bipush (pc := 16) (v := (nI 64)) hx hb dMo_addTo_16 (by decide) ?_
      refine lv_iload_n (pc := 18) hx hb dMo_addTo_18 rfl (lv_at hl 3 rfl) ?_
      refine lv_imul (pc := 19) hx hb dMo_addTo_19 ?_
      rw [show (((nI 64) * nI pa) : Int32) = nI (64 * pa) from (nI_mul 64 pa)]
      refine lv_iload (pc := 20) hx hb dMo_addTo_20 (lv_at hl 0 rfl) ?_
      refine lv_iadd (pc := 22) hx hb dMo_addTo_22 ?_
      rw [show ((nI (64 * pa) + nI k) : Int32) = nI (64 * pa + k) from (nI_add (64 * pa) k)]
      refine fw_laldN (pc := 23) (x := lN (C (64 * pa + k))) hx hb hK.1 hw 1 b1 rfl (64 * pa + k) (by omega) (by decide) rfl dMo_addTo_23 ?_
      rw [show (lN (C (64 * pa + k)) : Int64) = lN (mC X (64 * pa + k)) from (by rw [hout _ (by omega)])]
      refine lv_aload_n (pc := 24) hx hb dMo_addTo_24 rfl (lv_at hl 2 rfl) ?_
      refine fw_get (pc := 25) (ci := 10) (v := .ref (b + 1)) (C := RMo) (T := TMo) (N := 20) hx hb hW in_Mo hown hK.1 hw b0 rfl 1 (by decide) (hW _ lf_Mo_7) (fun _ h => h) rfl dMo_addTo_25 ?_
      refine lv_bipush (pc := 28) (v := (nI 64)) hx hb dMo_addTo_28 (by decide) ?_
      refine lv_iload_n (pc := 30) hx hb dMo_addTo_30 rfl (lv_at hl 4 rfl) ?_
      refine lv_imul (pc := 31) hx hb dMo_addTo_31 ?_
      rw [show (((nI 64) * nI pb) : Int32) = nI (64 * pb) from (nI_mul 64 pb)]
      refine lv_iload (pc := 32) hx hb dMo_addTo_32 (lv_at hl 0 rfl) ?_
      refine lv_iadd (pc := 34) hx hb dMo_addTo_34 ?_
      rw [show ((nI (64 * pb) + nI k) : Int32) = nI (64 * pb + k) from (nI_add (64 * pb) k)]
      refine fw_laldN (pc := 35) (x := lN (C (64 * pb + k))) hx hb hK.1 hw 1 b1 rfl (64 * pb + k) (by omega) (by decide) rfl dMo_addTo_35 ?_
      rw [show (lN (C (64 * pb + k)) : Int64) = lN (mC X (64 * pb + k)) from (by rw [hout _ (by omega)])]
      refine lv_ladd (pc := 36) hx hb dMo_addTo_36 ?_
      rw [show ((lN (mC X (64 * pa + k)) + lN (mC X (64 * pb + k))) : Int64) = lN (mC X (64 * pa + k) + mC X (64 * pb + k)) from (lN_add _ _)]
      refine lv_lload_n (pc := 37) hx hb dMo_addTo_37 rfl (lv_at hl 1 rfl) ?_
      refine lv_ladd (pc := 38) hx hb dMo_addTo_38 ?_
      rw [show ((lN (mC X (64 * pa + k) + mC X (64 * pb + k)) + lN cy) : Int64) = lN (mC X (64 * pa + k) + mC X (64 * pb + k) + cy) from (lN_add _ _)]
      obtain ⟨sm, hsm⟩ : ∃ sm, sm = mC X (64 * pa + k) + mC X (64 * pb + k) + cy := ⟨_, rfl⟩
      rw [show (lN (mC X (64 * pa + k) + mC X (64 * pb + k) + cy) : Int64) = lN sm from (by rw [hsm])]
      refine lv_lstore (pc := 39) (lv' := [(6, .long (lN sm)), (5, .int (nI k)), (3, .long (lN cy)), (0, .ref b), (1, .int (nI pa)), (2, .int (nI pb))]) hx hb dMo_addTo_39 hl (by decide) rfl (fun ls hl => ?_)
      refine lv_aload_n (pc := 41) hx hb dMo_addTo_41 rfl (lv_at hl 3 rfl) ?_
      refine fw_get (pc := 42) (ci := 10) (v := .ref (b + 1)) (C := RMo) (T := TMo) (N := 20) hx hb hW in_Mo hown hK.1 hw b0 rfl 1 (by decide) (hW _ lf_Mo_7) (fun _ h => h) rfl dMo_addTo_42 ?_
      refine lv_bipush (pc := 45) (v := (nI 64)) hx hb dMo_addTo_45 (by decide) ?_
      refine lv_iload_n (pc := 47) hx hb dMo_addTo_47 rfl (lv_at hl 4 rfl) ?_
      refine lv_imul (pc := 48) hx hb dMo_addTo_48 ?_
      rw [show (((nI 64) * nI pa) : Int32) = nI (64 * pa) from (nI_mul 64 pa)]
      refine lv_iload (pc := 49) hx hb dMo_addTo_49 (lv_at hl 1 rfl) ?_
      refine lv_iadd (pc := 51) hx hb dMo_addTo_51 ?_
      rw [show ((nI (64 * pa) + nI k) : Int32) = nI (64 * pa + k) from (nI_add (64 * pa) k)]
      refine lv_lload (pc := 52) hx hb dMo_addTo_52 (lv_at hl 0 rfl) ?_
      refine lv_ldc2 (pc := 54) (v := lN 16777215) hx hb hown (hW _ kl_Mo_123) dMo_addTo_54 ?_
      refine lv_land (pc := 57) hx hb dMo_addTo_57 ?_
      rw [show ((lN sm &&& (lN 16777215)) : Int64) = lN (sm % 16777216) from (g_mask (s := 24) (p := 16777216) (by decide) (by decide) (by omega))]
      refine fw_lastN (pc := 58) (f2 := fun i => lN (va_up C (64 * pa + k) (sm % 16777216) i)) hx hb hK.1 hw 1 b1 rfl (64 * pa + k) (by omega) (by decide) (lN_up _ _ _) dMo_addTo_58 (fun H locs hw => ?_)
      obtain ⟨w2, e2⟩ : ∃ w_, w_ = fw_up w1 (b + 1) (.inl (cL, 1536, .inr (.inl (fun i => lN (va_up C (64 * pa + k) (sm % 16777216) i))))) := ⟨_, rfl⟩
      have hw : fw_H D kCl (fw_A w (sz)) s.heap w2 (sz) H locs := by rw [e2]; exact hw
      have b0_ : w2 (b) = some (.inr (10, [.int (nI (I 0)), .ref (b + 1), .ref (b + 2), .int (nI (I 3)), .ref (b + 3), .ref (b + 4), .int (nI (I 6)), .int (nI (I 7)), .ref (b + 5), .ref (b + 6), .int (nI (I 10)), .int (nI (I 11)), .int (nI (I 12)), .int (nI (I 13)), .ref (b + 7), .ref (b + 8), .int (nI (I 16)), .int (nI (I 17)), .int (nI (I 18)), .int (nI (I 19))])) := by rw [e2, fw_un (by omega)]; exact b0
      have b1_ : w2 (b + 1) = some (.inl (cL, 1536, .inr (.inl (fun i => lN (va_up C (64 * pa + k) (sm % 16777216) i))))) := by rw [e2]; exact fw_us _ _ _
      have b0 := b0_
      have b1 := b1_
      refine lv_lload (pc := 59) hx hb dMo_addTo_59 (lv_at hl 0 rfl) ?_
      refine lv_bipush (pc := 61) (v := (nI 24)) hx hb dMo_addTo_61 (by decide) ?_
      refine lv_lshr (pc := 63) (v := lN (sm / 16777216)) hx hb dMo_addTo_63 (pf_shr (a := sm) (d := 24) (shD (by decide)) (by omega)) ?_
      refine lv_lstore_n (pc := 64) (lv' := [(3, .long (lN (sm / 16777216))), (6, .long (lN sm)), (5, .int (nI k)), (0, .ref b), (1, .int (nI pa)), (2, .int (nI pb))]) hx hb dMo_addTo_64 rfl hl (by decide) rfl (fun ls hl => ?_)
      refine lv_iinc (pc := 65) (lv' := [(5, .int (nI (k + 1))), (3, .long (lN (sm / 16777216))), (6, .long (lN sm)), (0, .ref b), (1, .int (nI pa)), (2, .int (nI pb))]) hx hb dMo_addTo_65 hl (k := 2) rfl ((nI_add k 1)) (by decide) rfl (fun ls hl => ?_)
      refine lv_goto (pc := 68) (tgt := 5) hx hb dMo_addTo_68 (by decide) ?_
      refine ih (k + 1) (by omega) _ H locs ls (sm / 16777216) (va_up C (64 * pa + k) (sm % 16777216)) hw (lv_sub hl [0, 1, 3, 4, 5] rfl) b1 (fun q hq => by rw [e2, fw_un hq, ho q hq]) (fun j hj => by rw [up_o (by omega)]; exact hout j (by omega)) (fun i hi => by (unfold va_up; split; exact Nat.mod_lt _ (by decide); exact hlm i (by omega))) (by omega) ?_
      rw [nw_up, nw_s nM (mC X) (64 * pa) k, nw_s nM (mC X) (64 * pb) k, Nat.pow_succ]
      have hp : (sm % 16777216) * nM ^ k + sm / 16777216 * (nM ^ k * nM) = mC X (64 * pa + k) * nM ^ k + mC X (64 * pb + k) * nM ^ k + cy * nM ^ k := by
        rw [← Nat.add_mul, ← Nat.add_mul, ← hsm, Nat.mul_comm (nM ^ k) nM, ← Nat.mul_assoc, ← Nat.add_mul]; congr 1; exact Nat.mod_add_div' sm nM
      omega
  refine lv_lconst (pc := 0) (v := lN 0) hx hb dMo_addTo_0 (by decide) ?_
  refine lv_lstore_n (pc := 1) (lv' := [(3, .long (lN 0)), (0, .ref b), (1, .int (nI pa)), (2, .int (nI pb))]) hx hb dMo_addTo_1 rfl hl (by decide) rfl (fun ls hl => ?_)
  refine lv_iconst (pc := 2) (v := (nI 0)) hx hb dMo_addTo_2 (by decide) ?_
  refine lv_istore (pc := 3) (lv' := [(5, .int (nI 0)), (3, .long (lN 0)), (0, .ref b), (1, .int (nI pa)), (2, .int (nI pb))]) hx hb dMo_addTo_3 hl (by decide) rfl (fun ls hl => ?_)
  exact loop 64 0 (by decide) w H [] ls 0 (mC X) hw (lv_sub hl [0, 1, 2, 3, 4] rfl) b1 (fun q _ => rfl) (fun j _ => rfl) (fun i hi => absurd hi (by omega)) (by decide) (by simp [nw_0])

set_option maxHeartbeats 4000000 in
set_option maxRecDepth 100000 in
theorem c_Mo_takeFrom {b : Nat} {I : Nat → Nat} {K : Nat → Nat → Nat} {S : Nat → Int32} {X : Nat → Nat} (hS : moS cI cL w b I K S (mC X)) (hX : ∀ p, X p < nM ^ 64) {pa pb t9 h9 : Nat} (ha : pa < 24) (hb2 : pb < 24) (hne : pa ≠ pb) (ht : t9 < 16777216) (hh : h9 < 64) (hle : t9 * X pb * nM ^ h9 ≤ X pa) : fw_C l yMo_takeFrom (Cond.code yMo_takeFrom cMo_takeFrom 11 none :: kWs) ({ frames := 0, cells := 0, slots := 0, locals := 0 } : Room) D kCl (kty cI cL cQ) z [.ref b, .int (nI pa), .int (nI pb), .long (lN t9), .int (nI h9)] (sz) w 0 0 (fun v w' => v = none ∧ moS cI cL w' b (I) K (S) (mC (va_up X pa (X pa - t9 * X pb * nM ^ h9))) ∧ ∀ q, q < b ∨ b + 9 ≤ q → w' q = w q) := by
  refine fw_ofW (cc := cMo_takeFrom) (maxL := 11) (ret := none) (by decide) rfl (Nat.le_of_ble_eq_true rfl) ?_
  intro p e s m args below meth c hx hb hr hts hown hlocks hname hml hK H ls hw hl
  have hW : ∀ w ∈ kWs, w.before args s = true := fun w h => hts w (List.mem_cons_of_mem _ h)
  have hown : s.vm.findClass RMo = some m.cls := hown
  have hl : lv_has ls 11 [(0, .ref b), (1, .int (nI pa)), (2, .int (nI pb)), (3, .long (lN t9)), (5, .int (nI h9))] := hl
  have b0 : w b = some (.inr (10, [.int (nI (I 0)), .ref (b + 1), .ref (b + 2), .int (nI (I 3)), .ref (b + 3), .ref (b + 4), .int (nI (I 6)), .int (nI (I 7)), .ref (b + 5), .ref (b + 6), .int (nI (I 10)), .int (nI (I 11)), .int (nI (I 12)), .int (nI (I 13)), .ref (b + 7), .ref (b + 8), .int (nI (I 16)), .int (nI (I 17)), .int (nI (I 18)), .int (nI (I 19))])) := hS.1
  have b1 : w (b + 1) = some (.inl (cL, 1536, .inr (.inl (fun i => lN (mC X i))))) := hS.2.1
  have b2 : w (b + 2) = some (.inl (cI, 24, .inl (S))) := hS.2.2.1
  have b09 := b0
  have b29 := b2
  have loop : ∀ (e0 k : Nat), k + h9 + e0 = 64 → ∀ (w1 : fw_W) (H : Heap) (locs : List Loc) (ls : Array Slot) (cy : Nat) (C : Nat → Nat), fw_H D kCl (fw_A w (sz)) s.heap w1 (sz) H locs → lv_has ls 11 [(8, .int (nI k)), (6, .long (lN (2 ^ 64 - cy))), (0, .ref b), (1, .int (nI pa)), (2, .int (nI pb)), (3, .long (lN t9)), (5, .int (nI h9))] → w1 (b + 1) = some (.inl (cL, 1536, .inr (.inl (fun i => lN (C i))))) → (∀ q, q ≠ b + 1 → w1 q = w q) → (∀ j, j < 64 * pa + h9 ∨ 64 * pa + h9 + k ≤ j → C j = mC X j) → (∀ i, i < k → C (64 * pa + h9 + i) < nM) → cy ≤ 16777216 → nw nM C (64 * pa + h9) k + t9 * nw nM (mC X) (64 * pb) k = nw nM (mC X) (64 * pa + h9) k + cy * nM ^ k → W p l e ({ frames := 0, cells := 0, slots := 0, locals := 0 } : Room) s m args below meth c H locs 0 0 (MQ below (fw_Q D kCl w (sz) 0 (fun v w' => v = none ∧ moS cI cL w' b (I) K (S) (mC (va_up X pa (X pa - t9 * X pb * nM ^ h9))) ∧ ∀ q, q < b ∨ b + 9 ≤ q → w' q = w q)) args s 0 0 (fw_A w (sz))) (F0 m 6 ls []) := by
    intro e0
    induction e0 with
    | zero =>
      intro k hke w1 H locs ls cy C hw hl b1 ho hout hlm hcy hs
      have b0 : w1 b = some (.inr (10, [.int (nI (I 0)), .ref (b + 1), .ref (b + 2), .int (nI (I 3)), .ref (b + 3), .ref (b + 4), .int (nI (I 6)), .int (nI (I 7)), .ref (b + 5), .ref (b + 6), .int (nI (I 10)), .int (nI (I 11)), .int (nI (I 12)), .int (nI (I 13)), .ref (b + 7), .ref (b + 8), .int (nI (I 16)), .int (nI (I 17)), .int (nI (I 18)), .int (nI (I 19))])) := (ho _ (by omega)).trans b09
      refine lv_iload (pc := 6) hx hb dMo_takeFrom_6 (lv_at hl 0 rfl) ?_
      refine lv_iload (pc := 8) hx hb dMo_takeFrom_8 (lv_at hl 6 rfl) ?_
      refine lv_iadd (pc := 10) hx hb dMo_takeFrom_10 ?_
      rw [show ((nI k + nI h9) : Int32) = nI (k + h9) from (nI_add k h9)]
      refine lv_bipush (pc := 11) (v := (nI 64)) hx hb dMo_takeFrom_11 (by decide) ?_
      refine lv_icmp_ge (pc := 13) (tgt := 85) hx hb dMo_takeFrom_13 (by decide) (fun _ => ?_) (fun hc => absurd (nI_le (show 64 ≤ k + h9 by omega) (by omega)) hc)
      obtain ⟨k9, hk9⟩ : ∃ k9, k9 = 64 - h9 := ⟨_, rfl⟩
      obtain rfl : k = 64 - h9 := by omega
      rw [mC_nw X pb (by omega), mC_hi (hX pa) (by omega)] at hs
      have hend := tk_end (b := nM) (by decide) (by omega) (hX pa) hs (nw_lt hlm) hle
      have hlo : nw nM C (64 * pa) h9 = X pa % nM ^ h9 := (nw_eq (fun i hi => hout _ (by omega))).trans (mC_nw X pa (by omega))
      have hall : ∀ i, i < 64 → C (64 * pa + i) < nM := fun i hi => by
        rcases Nat.lt_or_ge i h9 with h1 | h1
        · rw [hout _ (by omega)]; exact mC_lt X _
        · have h2 := hlm (i - h9) (by omega); rw [show 64 * pa + h9 + (i - h9) = 64 * pa + i by omega] at h2; exact h2
      have hsp := nw_split2 nM C (64 * pa) h9 (64 - h9)
      rw [show h9 + (64 - h9) = 64 by omega, hlo, hend] at hsp
      have hC : C = mC (va_up X pa (X pa - t9 * X pb * nM ^ h9)) := mC_of hall hsp (fun j hj => hout j (by omega))
      rw [hC] at b1
      exact fw_vret (pc := 85) hx hb hr hlocks hw dMo_takeFrom_85 ⟨rfl, moS.cs hS b1 ((ho _ (by omega)).trans b29) (fun q h1 _ => ho q h1), fun q hq => ho q (by omega)⟩
    | succ e0 ih =>
      intro k hke w1 H locs ls cy C hw hl b1 ho hout hlm hcy hs
      have b0 : w1 b = some (.inr (10, [.int (nI (I 0)), .ref (b + 1), .ref (b + 2), .int (nI (I 3)), .ref (b + 3), .ref (b + 4), .int (nI (I 6)), .int (nI (I 7)), .ref (b + 5), .ref (b + 6), .int (nI (I 10)), .int (nI (I 11)), .int (nI (I 12)), .int (nI (I 13)), .ref (b + 7), .ref (b + 8), .int (nI (I 16)), .int (nI (I 17)), .int (nI (I 18)), .int (nI (I 19))])) := (ho _ (by omega)).trans b09
      refine lv_iload (pc := 6) hx hb dMo_takeFrom_6 (lv_at hl 0 rfl) ?_
      refine lv_iload (pc := 8) hx hb dMo_takeFrom_8 (lv_at hl 6 rfl) ?_
      refine lv_iadd (pc := 10) hx hb dMo_takeFrom_10 ?_
      rw [show ((nI k + nI h9) : Int32) = nI (k + h9) from (nI_add k h9)]
      refine lv_bipush (pc := 11) (v := (nI 64)) hx hb dMo_takeFrom_11 (by decide) ?_
      refine lv_icmp_ge (pc := 13) (tgt := 85) hx hb dMo_takeFrom_13 (by decide) (fun hc => absurd hc (nI_ge (show k + h9 < 64 by omega) (by decide))) (fun _ => ?_)
      obtain ⟨A, hAe⟩ : ∃ A, A = mC X (64 * pa + h9 + k) := ⟨_, rfl⟩
      obtain ⟨B, hBe⟩ : ∃ B, B = mC X (64 * pb + k) := ⟨_, rfl⟩
      have hA : A < 16777216 := by rw [hAe]; exact mC_lt24 _
      have hB : B < 16777216 := by rw [hBe]; exact mC_lt24 _
      obtain ⟨T, hT⟩ : ∃ T, T = t9 * B + cy := ⟨_, rfl⟩
      have htb : t9 * B ≤ 16777215 * 16777215 := Nat.mul_le_mul (by omega) (by omega)
      obtain ⟨cq, hcq⟩ : ∃ cq, cq = (T + 16777216 - 1 - A) / 16777216 := ⟨_, rfl⟩
      obtain ⟨hm1, hm2, hm3⟩ := df_mask hA (show T < 2 ^ 60 by omega) hcq
      refine lv_aload_n (pc := 16) hx hb dMo_takeFrom_16 rfl (lv_at hl 2 rfl) ?_
      refine fw_get (pc := 17) (ci := 10) (v := .ref (b + 1)) (C := RMo) (T := TMo) (N := 20) hx hb hW in_Mo hown hK.1 hw b0 rfl 1 (by decide) (hW _ lf_Mo_7) (fun _ h => h) rfl dMo_takeFrom_17 ?_
      refine lv_bipush (pc := 20) (v := (nI 64)) hx hb dMo_takeFrom_20 (by decide) ?_
      refine lv_iload_n (pc := 22) hx hb dMo_takeFrom_22 rfl (lv_at hl 3 rfl) ?_
      refine lv_imul (pc := 23) hx hb dMo_takeFrom_23 ?_
      rw [show (((nI 64) * nI pa) : Int32) = nI (64 * pa) from (nI_mul 64 pa)]
      refine lv_iload (pc := 24) hx hb dMo_takeFrom_24 (lv_at hl 0 rfl) ?_
      refine lv_iadd (pc := 26) hx hb dMo_takeFrom_26 ?_
      rw [show ((nI (64 * pa) + nI k) : Int32) = nI (64 * pa + k) from (nI_add (64 * pa) k)]
      refine lv_iload (pc := 27) hx hb dMo_takeFrom_27 (lv_at hl 6 rfl) ?_
      refine lv_iadd (pc := 29) hx hb dMo_takeFrom_29 ?_
      rw [show ((nI (64 * pa + k) + nI h9) : Int32) = nI (64 * pa + h9 + k) from (by rw [nI_add]; congr 1; omega)]
      refine fw_laldN (pc := 30) (x := lN (C (64 * pa + h9 + k))) hx hb hK.1 hw 1 b1 rfl (64 * pa + h9 + k) (by omega) (by decide) rfl dMo_takeFrom_30 ?_
      rw [show (lN (C (64 * pa + h9 + k)) : Int64) = lN A from (by rw [hout _ (by omega), hAe])]
      refine lv_lload_n (pc := 31) hx hb dMo_takeFrom_31 rfl (lv_at hl 5 rfl) ?_
      refine lv_aload_n (pc := 32) hx hb dMo_takeFrom_32 rfl (lv_at hl 2 rfl) ?_
      refine fw_get (pc := 33) (ci := 10) (v := .ref (b + 1)) (C := RMo) (T := TMo) (N := 20) hx hb hW in_Mo hown hK.1 hw b0 rfl 1 (by decide) (hW _ lf_Mo_7) (fun _ h => h) rfl dMo_takeFrom_33 ?_
      refine lv_bipush (pc := 36) (v := (nI 64)) hx hb dMo_takeFrom_36 (by decide) ?_
      refine lv_iload_n (pc := 38) hx hb dMo_takeFrom_38 rfl (lv_at hl 4 rfl) ?_
      refine lv_imul (pc := 39) hx hb dMo_takeFrom_39 ?_
      rw [show (((nI 64) * nI pb) : Int32) = nI (64 * pb) from (nI_mul 64 pb)]
      refine lv_iload (pc := 40) hx hb dMo_takeFrom_40 (lv_at hl 0 rfl) ?_
      refine lv_iadd (pc := 42) hx hb dMo_takeFrom_42 ?_
      rw [show ((nI (64 * pb) + nI k) : Int32) = nI (64 * pb + k) from (nI_add (64 * pb) k)]
      refine fw_laldN (pc := 43) (x := lN (C (64 * pb + k))) hx hb hK.1 hw 1 b1 rfl (64 * pb + k) (by omega) (by decide) rfl dMo_takeFrom_43 ?_
      rw [show (lN (C (64 * pb + k)) : Int64) = lN B from (by rw [hout _ (by omega), hBe])]
      refine lv_lmul (pc := 44) hx hb dMo_takeFrom_44 ?_
      rw [show ((lN t9 * lN B) : Int64) = lN (t9 * B) from (lN_mul _ _)]
      refine lv_lsub (pc := 45) hx hb dMo_takeFrom_45 ?_
      refine lv_lload (pc := 46) hx hb dMo_takeFrom_46 (lv_at hl 1 rfl) ?_
      refine lv_ladd (pc := 48) hx hb dMo_takeFrom_48 ?_
      rw [show (((lN A - lN (t9 * B)) + lN (2 ^ 64 - cy)) : Int64) = lN A - lN T from (by rw [hT]; exact sb_c (by omega))]
      refine lv_lstore (pc := 49) (lv' := [(9, .long (lN A - lN T)), (8, .int (nI k)), (6, .long (lN (2 ^ 64 - cy))), (0, .ref b), (1, .int (nI pa)), (2, .int (nI pb)), (3, .long (lN t9)), (5, .int (nI h9))]) hx hb dMo_takeFrom_49 hl (by decide) rfl (fun ls hl => ?_)
      refine lv_aload_n (pc := 51) hx hb dMo_takeFrom_51 rfl (lv_at hl 3 rfl) ?_
      refine fw_get (pc := 52) (ci := 10) (v := .ref (b + 1)) (C := RMo) (T := TMo) (N := 20) hx hb hW in_Mo hown hK.1 hw b0 rfl 1 (by decide) (hW _ lf_Mo_7) (fun _ h => h) rfl dMo_takeFrom_52 ?_
      refine lv_bipush (pc := 55) (v := (nI 64)) hx hb dMo_takeFrom_55 (by decide) ?_
      refine lv_iload_n (pc := 57) hx hb dMo_takeFrom_57 rfl (lv_at hl 4 rfl) ?_
      refine lv_imul (pc := 58) hx hb dMo_takeFrom_58 ?_
      rw [show (((nI 64) * nI pa) : Int32) = nI (64 * pa) from (nI_mul 64 pa)]
      refine lv_iload (pc := 59) hx hb dMo_takeFrom_59 (lv_at hl 1 rfl) ?_
      refine lv_iadd (pc := 61) hx hb dMo_takeFrom_61 ?_
      rw [show ((nI (64 * pa) + nI k) : Int32) = nI (64 * pa + k) from (nI_add (64 * pa) k)]
      refine lv_iload (pc := 62) hx hb dMo_takeFrom_62 (lv_at hl 7 rfl) ?_
      refine lv_iadd (pc := 64) hx hb dMo_takeFrom_64 ?_
      rw [show ((nI (64 * pa + k) + nI h9) : Int32) = nI (64 * pa + h9 + k) from (by rw [nI_add]; congr 1; omega)]
      refine lv_lload (pc := 65) hx hb dMo_takeFrom_65 (lv_at hl 0 rfl) ?_
      refine lv_ldc2 (pc := 67) (v := lN 16777215) hx hb hown (hW _ kl_Mo_123) dMo_takeFrom_67 ?_
      refine lv_land (pc := 70) hx hb dMo_takeFrom_70 ?_
      rw [show ((lN A - lN T &&& (lN 16777215)) : Int64) = lN (A + cq * 16777216 - T) from hm1]
      refine fw_lastN (pc := 71) (f2 := fun i => lN (va_up C (64 * pa + h9 + k) (A + cq * 16777216 - T) i)) hx hb hK.1 hw 1 b1 rfl (64 * pa + h9 + k) (by omega) (by decide) (lN_up _ _ _) dMo_takeFrom_71 (fun H locs hw => ?_)
      obtain ⟨w2, e2⟩ : ∃ w_, w_ = fw_up w1 (b + 1) (.inl (cL, 1536, .inr (.inl (fun i => lN (va_up C (64 * pa + h9 + k) (A + cq * 16777216 - T) i))))) := ⟨_, rfl⟩
      have hw : fw_H D kCl (fw_A w (sz)) s.heap w2 (sz) H locs := by rw [e2]; exact hw
      have b0_ : w2 (b) = some (.inr (10, [.int (nI (I 0)), .ref (b + 1), .ref (b + 2), .int (nI (I 3)), .ref (b + 3), .ref (b + 4), .int (nI (I 6)), .int (nI (I 7)), .ref (b + 5), .ref (b + 6), .int (nI (I 10)), .int (nI (I 11)), .int (nI (I 12)), .int (nI (I 13)), .ref (b + 7), .ref (b + 8), .int (nI (I 16)), .int (nI (I 17)), .int (nI (I 18)), .int (nI (I 19))])) := by rw [e2, fw_un (by omega)]; exact b0
      have b1_ : w2 (b + 1) = some (.inl (cL, 1536, .inr (.inl (fun i => lN (va_up C (64 * pa + h9 + k) (A + cq * 16777216 - T) i))))) := by rw [e2]; exact fw_us _ _ _
      have b0 := b0_
      have b1 := b1_
      refine lv_lload (pc := 72) hx hb dMo_takeFrom_72 (lv_at hl 0 rfl) ?_
      refine lv_bipush (pc := 74) (v := (nI 24)) hx hb dMo_takeFrom_74 (by decide) ?_
      refine lv_lshr (pc := 76) (v := lN (2 ^ 64 - cq)) hx hb dMo_takeFrom_76 (df_shr hA (show T < 2 ^ 60 by omega) hcq) ?_
      refine lv_lstore (pc := 77) (lv' := [(6, .long (lN (2 ^ 64 - cq))), (9, .long (lN A - lN T)), (8, .int (nI k)), (0, .ref b), (1, .int (nI pa)), (2, .int (nI pb)), (3, .long (lN t9)), (5, .int (nI h9))]) hx hb dMo_takeFrom_77 hl (by decide) rfl (fun ls hl => ?_)
      refine lv_iinc (pc := 79) (lv' := [(8, .int (nI (k + 1))), (6, .long (lN (2 ^ 64 - cq))), (9, .long (lN A - lN T)), (0, .ref b), (1, .int (nI pa)), (2, .int (nI pb)), (3, .long (lN t9)), (5, .int (nI h9))]) hx hb dMo_takeFrom_79 hl (k := 2) rfl ((nI_add k 1)) (by decide) rfl (fun ls hl => ?_)
      refine lv_goto (pc := 82) (tgt := 6) hx hb dMo_takeFrom_82 (by decide) ?_
      refine ih (k + 1) (by omega) _ H locs ls cq (va_up C (64 * pa + h9 + k) (A + cq * 16777216 - T)) hw (lv_sub hl [0, 1, 3, 4, 5, 6, 7] rfl) b1 (fun q hq => by rw [e2, fw_un hq, ho q hq]) (fun j hj => by rw [up_o (by omega)]; exact hout j (by omega)) (fun i hi => by (unfold va_up; split; exact hm2; exact hlm i (by omega))) (by omega) ?_
      rw [nw_up, nw_s nM (mC X) (64 * pa + h9) k, nw_s nM (mC X) (64 * pb) k, Nat.pow_succ, Nat.mul_add, ← hAe, ← hBe]
      have hp : (A + cq * 16777216 - T) * nM ^ k + t9 * (B * nM ^ k) + cy * nM ^ k = A * nM ^ k + cq * (nM ^ k * nM) := by
        rw [← Nat.mul_assoc t9, ← Nat.add_mul, ← Nat.add_mul, Nat.mul_comm (nM ^ k) nM, ← Nat.mul_assoc cq, ← Nat.add_mul]; congr 1; (show A + cq * 16777216 - T + t9 * B + cy = A + cq * 16777216); omega
      omega
  refine lv_lconst (pc := 0) (v := lN 0) hx hb dMo_takeFrom_0 (by decide) ?_
  rw [show ((lN 0) : Int64) = lN (2 ^ 64 - 0) from (by decide)]
  refine lv_lstore (pc := 1) (lv' := [(6, .long (lN (2 ^ 64 - 0))), (0, .ref b), (1, .int (nI pa)), (2, .int (nI pb)), (3, .long (lN t9)), (5, .int (nI h9))]) hx hb dMo_takeFrom_1 hl (by decide) rfl (fun ls hl => ?_)
  refine lv_iconst (pc := 3) (v := (nI 0)) hx hb dMo_takeFrom_3 (by decide) ?_
  refine lv_istore (pc := 4) (lv' := [(8, .int (nI 0)), (6, .long (lN (2 ^ 64 - 0))), (0, .ref b), (1, .int (nI pa)), (2, .int (nI pb)), (3, .long (lN t9)), (5, .int (nI h9))]) hx hb dMo_takeFrom_4 hl (by decide) rfl (fun ls hl => ?_)
  exact loop (64 - h9) 0 (by omega) w H [] ls 0 (mC X) hw (lv_sub hl [0, 1, 2, 3, 4, 5, 6] rfl) b1 (fun q _ => rfl) (fun j _ => rfl) (fun i hi => absurd hi (by omega)) (by decide) (by simp [nw_0])

set_option maxHeartbeats 4000000 in
set_option maxRecDepth 100000 in
theorem c_Mo_multiply {b : Nat} {I : Nat → Nat} {K : Nat → Nat → Nat} {S : Nat → Int32} {X : Nat → Nat} (hS : moS cI cL w b I K S (mC X)) (hX : ∀ p, X p < nM ^ 64) {pa pb pt : Nat} (ha : pa < 24) (hb2 : pb < 24) (hc2 : pt < 24) (hta : pa ≠ pt) (htb : pb ≠ pt) (hxa : X pa < nM ^ 32) (hxb : X pb < nM ^ 32) : fw_C l yMo_multiply (Cond.code yMo_multiply cMo_multiply 14 none :: kWs) ({ frames := 1, cells := 0, slots := 0, locals := 22 } : Room) D kCl (kty cI cL cQ) z [.ref b, .int (nI pa), .int (nI pb), .int (nI pt)] (sz) w 0 0 (fun v w' => v = none ∧ moS cI cL w' b (I) K (va_up S pt (nI 0)) (mC (va_up X pt (X pa * X pb))) ∧ ∀ q, q < b ∨ b + 9 ≤ q → w' q = w q) := by
  refine fw_ofW (cc := cMo_multiply) (maxL := 14) (ret := none) (by decide) rfl (Nat.le_of_ble_eq_true rfl) ?_
  intro p e s m args below meth c hx hb hr hts hown hlocks hname hml hK H ls hw hl
  have hW : ∀ w ∈ kWs, w.before args s = true := fun w h => hts w (List.mem_cons_of_mem _ h)
  have hown : s.vm.findClass RMo = some m.cls := hown
  have hl : lv_has ls 14 [(0, .ref b), (1, .int (nI pa)), (2, .int (nI pb)), (3, .int (nI pt))] := hl
  have b0 : w b = some (.inr (10, [.int (nI (I 0)), .ref (b + 1), .ref (b + 2), .int (nI (I 3)), .ref (b + 3), .ref (b + 4), .int (nI (I 6)), .int (nI (I 7)), .ref (b + 5), .ref (b + 6), .int (nI (I 10)), .int (nI (I 11)), .int (nI (I 12)), .int (nI (I 13)), .ref (b + 7), .ref (b + 8), .int (nI (I 16)), .int (nI (I 17)), .int (nI (I 18)), .int (nI (I 19))])) := hS.1
  have b1 : w (b + 1) = some (.inl (cL, 1536, .inr (.inl (fun i => lN (mC X i))))) := hS.2.1
  have b2 : w (b + 2) = some (.inl (cI, 24, .inl (S))) := hS.2.2.1
  have b09 := b0
  have b29 := b2
  refine lv_aload_n (pc := 0) hx hb dMo_multiply_0 rfl (lv_at hl 0 rfl) ?_
  refine lv_iload_n (pc := 1) hx hb dMo_multiply_1 rfl (lv_at hl 3 rfl) ?_
  refine fw_cV (pc := 2) (As := [.int (nI pt)]) (rest := []) ⟨hx, hb, hml, hown, hW⟩ (c_Mo_clear (p0 := pt) hS hc2) (cwV 1 hW (kw_V lm_Mo_125 im_Mo_clear se_Mo_clear ini_Mo cd_Mo_clear) rfl rfl rfl (by decide +kernel) ⟨Nat.le_of_ble_eq_true rfl, Nat.le_of_ble_eq_true rfl⟩) hK hw b0 rfl rfl hl.1 rfl (Nat.le_of_ble_eq_true rfl) dMo_multiply_2 ⟨Nat.le_of_ble_eq_true rfl, Nat.le_of_ble_eq_true rfl⟩ (fun v w51 H locs hq hw => ?_)
  obtain ⟨rfl, hS1, hc9⟩ := hq
  rw [clr_all] at hS1
  obtain ⟨Z, hZ⟩ : ∃ Z, Z = va_up X pt 0 := ⟨_, rfl⟩
  rw [← hZ] at hS1
  have hZa : Z pa = X pa := by rw [hZ]; exact up_o hta
  have hZb : Z pb = X pb := by rw [hZ]; exact up_o htb
  have hZX : ∀ p, Z p < nM ^ 64 := fun p => by (rw [hZ]; unfold va_up; split; exact Nat.pow_pos (by decide); exact hX p)
  have b0 : w51 b = some (.inr (10, [.int (nI (I 0)), .ref (b + 1), .ref (b + 2), .int (nI (I 3)), .ref (b + 3), .ref (b + 4), .int (nI (I 6)), .int (nI (I 7)), .ref (b + 5), .ref (b + 6), .int (nI (I 10)), .int (nI (I 11)), .int (nI (I 12)), .int (nI (I 13)), .ref (b + 7), .ref (b + 8), .int (nI (I 16)), .int (nI (I 17)), .int (nI (I 18)), .int (nI (I 19))])) := hS1.1
  have b1 : w51 (b + 1) = some (.inl (cL, 1536, .inr (.inl (fun i => lN (mC Z i))))) := hS1.2.1
  have b2 : w51 (b + 2) = some (.inl (cI, 24, .inl (va_up S pt (nI 0)))) := hS1.2.2.1
  have b09 := b0
  refine W.eq (g2 := F0 m 5 ls []) rfl ?_
  refine lv_aload_n (pc := 5) hx hb dMo_multiply_5 rfl (lv_at hl 0 rfl) ?_
  refine lv_iload_n (pc := 6) hx hb dMo_multiply_6 rfl (lv_at hl 1 rfl) ?_
  refine fw_cVR (pc := 7) (As := [.int (nI pa)]) (rest := []) ⟨hx, hb, hml, hown, hW⟩ (c_Mo_limbs hS1 hZX ha) (cwV 1 hW (kw_V lm_Mo_128 im_Mo_limbs se_Mo_limbs ini_Mo cd_Mo_limbs) rfl rfl rfl (by decide +kernel) ⟨Nat.le_of_ble_eq_true rfl, Nat.le_of_ble_eq_true rfl⟩) hK hw b0 rfl rfl hl.1 rfl (Nat.le_of_ble_eq_true rfl) dMo_multiply_7 ⟨Nat.le_of_ble_eq_true rfl, Nat.le_of_ble_eq_true rfl⟩ (fun v hq => ?_)
  obtain ⟨n, rfl, hn, hln⟩ := hq
  refine W.eq (g2 := F0 m 10 ls [.int (nI n)]) rfl ?_
  refine lv_istore (pc := 10) (lv' := [(4, .int (nI n)), (0, .ref b), (1, .int (nI pa)), (2, .int (nI pb)), (3, .int (nI pt))]) hx hb dMo_multiply_10 hl (by decide) rfl (fun ls hl => ?_)
  refine lv_aload_n (pc := 12) hx hb dMo_multiply_12 rfl (lv_at hl 1 rfl) ?_
  refine lv_iload_n (pc := 13) hx hb dMo_multiply_13 rfl (lv_at hl 3 rfl) ?_
  refine fw_cVR (pc := 14) (As := [.int (nI pb)]) (rest := []) ⟨hx, hb, hml, hown, hW⟩ (c_Mo_limbs hS1 hZX hb2) (cwV 1 hW (kw_V lm_Mo_128 im_Mo_limbs se_Mo_limbs ini_Mo cd_Mo_limbs) rfl rfl rfl (by decide +kernel) ⟨Nat.le_of_ble_eq_true rfl, Nat.le_of_ble_eq_true rfl⟩) hK hw b0 rfl rfl hl.1 rfl (Nat.le_of_ble_eq_true rfl) dMo_multiply_14 ⟨Nat.le_of_ble_eq_true rfl, Nat.le_of_ble_eq_true rfl⟩ (fun v hq => ?_)
  obtain ⟨n2, rfl, hn2, hln2⟩ := hq
  refine W.eq (g2 := F0 m 17 ls [.int (nI n2)]) rfl ?_
  rw [hZa] at hln
  rw [hZb] at hln2
  have hn32 := ml_le hln hxa
  have hm32 := ml_le hln2 hxb
  have vA : nw nM (mC Z) (64 * pa) n = X pa := by rw [mC_nw Z pa hn, hZa, Nat.mod_eq_of_lt hln.1]
  have vB : nw nM (mC Z) (64 * pb) n2 = X pb := by rw [mC_nw Z pb hn2, hZb, Nat.mod_eq_of_lt hln2.1]
  have hz0 : ∀ i, i < 64 → mC Z (64 * pt + i) = 0 := fun i hi => by rw [mC_at Z hi, hZ, up_s, Nat.zero_div, Nat.zero_mod]
  refine lv_istore (pc := 17) (lv' := [(5, .int (nI n2)), (4, .int (nI n)), (0, .ref b), (1, .int (nI pa)), (2, .int (nI pb)), (3, .int (nI pt))]) hx hb dMo_multiply_17 hl (by decide) rfl (fun ls hl => ?_)
  refine lv_iconst (pc := 19) (v := (nI 0)) hx hb dMo_multiply_19 (by decide) ?_
  refine lv_istore (pc := 20) (lv' := [(6, .int (nI 0)), (5, .int (nI n2)), (4, .int (nI n)), (0, .ref b), (1, .int (nI pa)), (2, .int (nI pb)), (3, .int (nI pt))]) hx hb dMo_multiply_20 hl (by decide) rfl (fun ls hl => ?_)
  have loop : ∀ (e0 i : Nat), i + e0 = n → ∀ (w1 : fw_W) (H : Heap) (locs : List Loc) (ls : Array Slot) (C : Nat → Nat), fw_H D kCl (fw_A w (sz)) s.heap w1 (sz) H locs → lv_has ls 14 [(6, .int (nI i)), (5, .int (nI n2)), (4, .int (nI n)), (0, .ref b), (1, .int (nI pa)), (2, .int (nI pb)), (3, .int (nI pt))] → w1 (b + 1) = some (.inl (cL, 1536, .inr (.inl (fun i => lN (C i))))) → (∀ q, q ≠ b + 1 → w1 q = w51 q) → (∀ j, j < 64 * pt ∨ 64 * pt + 64 ≤ j → C j = mC Z j) → (∀ t, t < 64 → C (64 * pt + t) < nM) → (∀ t, i + n2 ≤ t → t < 64 → C (64 * pt + t) = 0) → nw nM C (64 * pt) (i + n2) = nw nM (mC Z) (64 * pa) i * X pb → W p l e ({ frames := 1, cells := 0, slots := 0, locals := 22 } : Room) s m args below meth c H locs 0 0 (MQ below (fw_Q D kCl w (sz) 0 (fun v w' => v = none ∧ moS cI cL w' b (I) K (va_up S pt (nI 0)) (mC (va_up X pt (X pa * X pb))) ∧ ∀ q, q < b ∨ b + 9 ≤ q → w' q = w q)) args s 0 0 (fw_A w (sz))) (F0 m 22 ls []) := by
    intro e0
    induction e0 with
    | zero =>
      intro i hie w1 H locs ls C hw hl b1 ho hout hlm hzz hs
      have b0 : w1 b = some (.inr (10, [.int (nI (I 0)), .ref (b + 1), .ref (b + 2), .int (nI (I 3)), .ref (b + 3), .ref (b + 4), .int (nI (I 6)), .int (nI (I 7)), .ref (b + 5), .ref (b + 6), .int (nI (I 10)), .int (nI (I 11)), .int (nI (I 12)), .int (nI (I 13)), .ref (b + 7), .ref (b + 8), .int (nI (I 16)), .int (nI (I 17)), .int (nI (I 18)), .int (nI (I 19))])) := (ho _ (by omega)).trans b09
      refine lv_iload (pc := 22) hx hb dMo_multiply_22 (lv_at hl 0 rfl) ?_
      refine lv_iload (pc := 24) hx hb dMo_multiply_24 (lv_at hl 2 rfl) ?_
      refine lv_icmp_ge (pc := 26) (tgt := 149) hx hb dMo_multiply_26 (by decide) (fun _ => ?_) (fun hc => absurd (nI_le (show n ≤ i by omega) (by omega)) hc)
      obtain rfl : i = n := by omega
      rw [vA] at hs
      have hv64 : nw nM C (64 * pt) 64 = X pa * X pb := by rw [← hs]; exact nv_cut (by omega) (fun t h1 h2 => hzz t h1 h2)
      have hC : C = mC (va_up X pt (X pa * X pb)) := by rw [mC_of hlm hv64 hout, hZ, va_upup]
      rw [hC] at b1
      exact fw_vret (pc := 149) hx hb hr hlocks hw dMo_multiply_149 ⟨rfl, moS.cs hS1 b1 ((ho _ (by omega)).trans b2) (fun q h1 _ => ho q h1), fun q hq => by rw [ho q (by omega), hc9 q (by omega) (by omega)]⟩
    | succ e0 ih =>
      intro i hie w1 H locs ls C hw hl b1 ho hout hlm hzz hs
      have b0 : w1 b = some (.inr (10, [.int (nI (I 0)), .ref (b + 1), .ref (b + 2), .int (nI (I 3)), .ref (b + 3), .ref (b + 4), .int (nI (I 6)), .int (nI (I 7)), .ref (b + 5), .ref (b + 6), .int (nI (I 10)), .int (nI (I 11)), .int (nI (I 12)), .int (nI (I 13)), .ref (b + 7), .ref (b + 8), .int (nI (I 16)), .int (nI (I 17)), .int (nI (I 18)), .int (nI (I 19))])) := (ho _ (by omega)).trans b09
      refine lv_iload (pc := 22) hx hb dMo_multiply_22 (lv_at hl 0 rfl) ?_
      refine lv_iload (pc := 24) hx hb dMo_multiply_24 (lv_at hl 2 rfl) ?_
      refine lv_icmp_ge (pc := 26) (tgt := 149) hx hb dMo_multiply_26 (by decide) (fun hc => absurd hc (nI_ge (show i < n by omega) (by omega))) (fun _ => ?_)
      obtain ⟨fa, hfa⟩ : ∃ fa, fa = mC Z (64 * pa + i) := ⟨_, rfl⟩
      have lf : fa < 16777216 := by rw [hfa]; exact mC_lt24 _
      refine lv_lconst (pc := 29) (v := lN 0) hx hb dMo_multiply_29 (by decide) ?_
      refine lv_lstore (pc := 30) (lv' := [(7, .long (lN 0)), (6, .int (nI i)), (5, .int (nI n2)), (4, .int (nI n)), (0, .ref b), (1, .int (nI pa)), (2, .int (nI pb)), (3, .int (nI pt))]) hx hb dMo_multiply_30 hl (by decide) rfl (fun ls hl => ?_)
      refine lv_aload_n (pc := 32) hx hb dMo_multiply_32 rfl (lv_at hl 4 rfl) ?_
      refine fw_get (pc := 33) (ci := 10) (v := .ref (b + 1)) (C := RMo) (T := TMo) (N := 20) hx hb hW in_Mo hown hK.1 hw b0 rfl 1 (by decide) (hW _ lf_Mo_7) (fun _ h => h) rfl dMo_multiply_33 ?_
      refine lv_bipush (pc := 36) (v := (nI 64)) hx hb dMo_multiply_36 (by decide) ?_
      refine lv_iload_n (pc := 38) hx hb dMo_multiply_38 rfl (lv_at hl 5 rfl) ?_
      refine lv_imul (pc := 39) hx hb dMo_multiply_39 ?_
      rw [show (((nI 64) * nI pa) : Int32) = nI (64 * pa) from (nI_mul 64 pa)]
      refine lv_iload (pc := 40) hx hb dMo_multiply_40 (lv_at hl 1 rfl) ?_
      refine lv_iadd (pc := 42) hx hb dMo_multiply_42 ?_
      rw [show ((nI (64 * pa) + nI i) : Int32) = nI (64 * pa + i) from (nI_add (64 * pa) i)]
      refine fw_laldN (pc := 43) (x := lN (C (64 * pa + i))) hx hb hK.1 hw 1 b1 rfl (64 * pa + i) (by omega) (by decide) rfl dMo_multiply_43 ?_
      rw [show (lN (C (64 * pa + i)) : Int64) = lN fa from (by rw [hout _ (by omega), hfa])]
      have inner : ∀ (d2 j : Nat), j + d2 = n2 → ∀ (w1 : fw_W) (H : Heap) (locs : List Loc) (ls : Array Slot) (cy : Nat) (E : Nat → Nat), fw_H D kCl (fw_A w (sz)) s.heap w1 (sz) H locs → lv_has ls 14 [(11, .int (nI j)), (9, .long (lN fa)), (7, .long (lN cy)), (6, .int (nI i)), (5, .int (nI n2)), (4, .int (nI n)), (0, .ref b), (1, .int (nI pa)), (2, .int (nI pb)), (3, .int (nI pt))] → w1 (b + 1) = some (.inl (cL, 1536, .inr (.inl (fun i => lN (E i))))) → (∀ q, q ≠ b + 1 → w1 q = w51 q) → (∀ t, t < 64 * pt ∨ 64 * pt + i + j ≤ t → E t = C t) → (∀ t, t < 64 → E (64 * pt + t) < nM) → cy < 16777216 → nw nM E (64 * pt) (i + j) + cy * nM ^ (i + j) = nw nM C (64 * pt) (i + j) + fa * nM ^ i * nw nM (mC Z) (64 * pb) j → W p l e ({ frames := 1, cells := 0, slots := 0, locals := 22 } : Room) s m args below meth c H locs 0 0 (MQ below (fw_Q D kCl w (sz) 0 (fun v w' => v = none ∧ moS cI cL w' b (I) K (va_up S pt (nI 0)) (mC (va_up X pt (X pa * X pb))) ∧ ∀ q, q < b ∨ b + 9 ≤ q → w' q = w q)) args s 0 0 (fw_A w (sz))) (F0 m 49 ls []) := by
        intro d2
        induction d2 with
        | zero =>
          intro j hjd w1 H locs ls cy E hw hl b1 ho hsame hle hcy hs2
          have b0 : w1 b = some (.inr (10, [.int (nI (I 0)), .ref (b + 1), .ref (b + 2), .int (nI (I 3)), .ref (b + 3), .ref (b + 4), .int (nI (I 6)), .int (nI (I 7)), .ref (b + 5), .ref (b + 6), .int (nI (I 10)), .int (nI (I 11)), .int (nI (I 12)), .int (nI (I 13)), .ref (b + 7), .ref (b + 8), .int (nI (I 16)), .int (nI (I 17)), .int (nI (I 18)), .int (nI (I 19))])) := (ho _ (by omega)).trans b09
          obtain rfl : j = n2 := by omega
          refine lv_iload (pc := 49) hx hb dMo_multiply_49 (lv_at hl 0 rfl) ?_
          refine lv_iload (pc := 51) hx hb dMo_multiply_51 (lv_at hl 4 rfl) ?_
          refine lv_icmp_ge (pc := 53) (tgt := 126) hx hb dMo_multiply_53 (by decide) (fun _ => ?_) (fun hc => absurd (nI_le (Nat.le_refl j) (by omega)) hc)
          refine lv_aload_n (pc := 126) hx hb dMo_multiply_126 rfl (lv_at hl 6 rfl) ?_
          refine fw_get (pc := 127) (ci := 10) (v := .ref (b + 1)) (C := RMo) (T := TMo) (N := 20) hx hb hW in_Mo hown hK.1 hw b0 rfl 1 (by decide) (hW _ lf_Mo_7) (fun _ h => h) rfl dMo_multiply_127 ?_
          refine lv_bipush (pc := 130) (v := (nI 64)) hx hb dMo_multiply_130 (by decide) ?_
          refine lv_iload_n (pc := 132) hx hb dMo_multiply_132 rfl (lv_at hl 9 rfl) ?_
          refine lv_imul (pc := 133) hx hb dMo_multiply_133 ?_
          rw [show (((nI 64) * nI pt) : Int32) = nI (64 * pt) from (nI_mul 64 pt)]
          refine lv_iload (pc := 134) hx hb dMo_multiply_134 (lv_at hl 3 rfl) ?_
          refine lv_iadd (pc := 136) hx hb dMo_multiply_136 ?_
          rw [show ((nI (64 * pt) + nI i) : Int32) = nI (64 * pt + i) from (nI_add (64 * pt) i)]
          refine lv_iload (pc := 137) hx hb dMo_multiply_137 (lv_at hl 4 rfl) ?_
          refine lv_iadd (pc := 139) hx hb dMo_multiply_139 ?_
          rw [show ((nI (64 * pt + i) + nI j) : Int32) = nI (64 * pt + (i + j)) from (by rw [nI_add]; congr 1; omega)]
          refine lv_lload (pc := 140) hx hb dMo_multiply_140 (lv_at hl 2 rfl) ?_
          refine fw_lastN (pc := 142) (f2 := fun t => lN (va_up E (64 * pt + (i + j)) cy t)) hx hb hK.1 hw 1 b1 rfl (64 * pt + (i + j)) (by omega) (by decide) (lN_up _ _ _) dMo_multiply_142 (fun H locs hw => ?_)
          obtain ⟨w54, e54⟩ : ∃ w_, w_ = fw_up w1 (b + 1) (.inl (cL, 1536, .inr (.inl (fun t => lN (va_up E (64 * pt + (i + j)) cy t))))) := ⟨_, rfl⟩
          have hw : fw_H D kCl (fw_A w (sz)) s.heap w54 (sz) H locs := by rw [e54]; exact hw
          have b0_ : w54 (b) = some (.inr (10, [.int (nI (I 0)), .ref (b + 1), .ref (b + 2), .int (nI (I 3)), .ref (b + 3), .ref (b + 4), .int (nI (I 6)), .int (nI (I 7)), .ref (b + 5), .ref (b + 6), .int (nI (I 10)), .int (nI (I 11)), .int (nI (I 12)), .int (nI (I 13)), .ref (b + 7), .ref (b + 8), .int (nI (I 16)), .int (nI (I 17)), .int (nI (I 18)), .int (nI (I 19))])) := by rw [e54, fw_un (by omega)]; exact b0
          have b1_ : w54 (b + 1) = some (.inl (cL, 1536, .inr (.inl (fun t => lN (va_up E (64 * pt + (i + j)) cy t))))) := by rw [e54]; exact fw_us _ _ _
          have b0 := b0_
          have b1 := b1_
          refine lv_iinc (pc := 143) (lv' := [(6, .int (nI (i + 1))), (11, .int (nI j)), (9, .long (lN fa)), (7, .long (lN cy)), (5, .int (nI j)), (4, .int (nI n)), (0, .ref b), (1, .int (nI pa)), (2, .int (nI pb)), (3, .int (nI pt))]) hx hb dMo_multiply_143 hl (k := 3) rfl ((nI_add i 1)) (by decide) rfl (fun ls hl => ?_)
          refine lv_goto (pc := 146) (tgt := 22) hx hb dMo_multiply_146 (by decide) ?_
          refine ih (i + 1) (by omega) _ H locs ls (va_up E (64 * pt + (i + j)) cy) hw (lv_sub hl [0, 4, 5, 6, 7, 8, 9] rfl) b1 (fun q hq => by rw [e54, fw_un hq, ho q hq]) (fun t ht => by rw [up_o (by omega), hsame t (by omega)]; exact hout t ht) (fun t ht => by (unfold va_up; split; exact hcy; exact hle t ht)) (fun t h1 h2 => by rw [up_o (by omega), hsame _ (by omega)]; exact hzz t (by omega) h2) ?_
          rw [show i + 1 + j = i + j + 1 by omega, nw_up, hs2, hs, vB, nw_s nM (mC Z) (64 * pa) i, Nat.add_mul, hfa]
        | succ d2 ih2 =>
          intro j hjd w1 H locs ls cy E hw hl b1 ho hsame hle hcy hs2
          have b0 : w1 b = some (.inr (10, [.int (nI (I 0)), .ref (b + 1), .ref (b + 2), .int (nI (I 3)), .ref (b + 3), .ref (b + 4), .int (nI (I 6)), .int (nI (I 7)), .ref (b + 5), .ref (b + 6), .int (nI (I 10)), .int (nI (I 11)), .int (nI (I 12)), .int (nI (I 13)), .ref (b + 7), .ref (b + 8), .int (nI (I 16)), .int (nI (I 17)), .int (nI (I 18)), .int (nI (I 19))])) := (ho _ (by omega)).trans b09
          refine lv_iload (pc := 49) hx hb dMo_multiply_49 (lv_at hl 0 rfl) ?_
          refine lv_iload (pc := 51) hx hb dMo_multiply_51 (lv_at hl 4 rfl) ?_
          refine lv_icmp_ge (pc := 53) (tgt := 126) hx hb dMo_multiply_53 (by decide) (fun hc => absurd hc (nI_ge (show j < n2 by omega) (by omega))) (fun _ => ?_)
          obtain ⟨B, hBe⟩ : ∃ B, B = mC Z (64 * pb + j) := ⟨_, rfl⟩
          have hB : B < 16777216 := by rw [hBe]; exact mC_lt24 _
          have hPl : C (64 * pt + (i + j)) < 16777216 := hlm _ (by omega)
          refine lv_aload_n (pc := 56) hx hb dMo_multiply_56 rfl (lv_at hl 6 rfl) ?_
          refine fw_get (pc := 57) (ci := 10) (v := .ref (b + 1)) (C := RMo) (T := TMo) (N := 20) hx hb hW in_Mo hown hK.1 hw b0 rfl 1 (by decide) (hW _ lf_Mo_7) (fun _ h => h) rfl dMo_multiply_57 ?_
          refine lv_bipush (pc := 60) (v := (nI 64)) hx hb dMo_multiply_60 (by decide) ?_
          refine lv_iload_n (pc := 62) hx hb dMo_multiply_62 rfl (lv_at hl 9 rfl) ?_
          refine lv_imul (pc := 63) hx hb dMo_multiply_63 ?_
          rw [show (((nI 64) * nI pt) : Int32) = nI (64 * pt) from (nI_mul 64 pt)]
          refine lv_iload (pc := 64) hx hb dMo_multiply_64 (lv_at hl 3 rfl) ?_
          refine lv_iadd (pc := 66) hx hb dMo_multiply_66 ?_
          rw [show ((nI (64 * pt) + nI i) : Int32) = nI (64 * pt + i) from (nI_add (64 * pt) i)]
          refine lv_iload (pc := 67) hx hb dMo_multiply_67 (lv_at hl 0 rfl) ?_
          refine lv_iadd (pc := 69) hx hb dMo_multiply_69 ?_
          rw [show ((nI (64 * pt + i) + nI j) : Int32) = nI (64 * pt + (i + j)) from (by rw [nI_add]; congr 1; omega)]
          refine fw_laldN (pc := 70) (x := lN (E (64 * pt + (i + j)))) hx hb hK.1 hw 1 b1 rfl (64 * pt + (i + j)) (by omega) (by decide) rfl dMo_multiply_70 ?_
          rw [show (lN (E (64 * pt + (i + j))) : Int64) = lN (C (64 * pt + (i + j))) from (by rw [hsame _ (by omega)])]
          refine lv_lload (pc := 71) hx hb dMo_multiply_71 (lv_at hl 1 rfl) ?_
          refine lv_aload_n (pc := 73) hx hb dMo_multiply_73 rfl (lv_at hl 6 rfl) ?_
          refine fw_get (pc := 74) (ci := 10) (v := .ref (b + 1)) (C := RMo) (T := TMo) (N := 20) hx hb hW in_Mo hown hK.1 hw b0 rfl 1 (by decide) (hW _ lf_Mo_7) (fun _ h => h) rfl dMo_multiply_74 ?_
          refine lv_bipush (pc := 77) (v := (nI 64)) hx hb dMo_multiply_77 (by decide) ?_
          refine lv_iload_n (pc := 79) hx hb dMo_multiply_79 rfl (lv_at hl 8 rfl) ?_
          refine lv_imul (pc := 80) hx hb dMo_multiply_80 ?_
          rw [show (((nI 64) * nI pb) : Int32) = nI (64 * pb) from (nI_mul 64 pb)]
          refine lv_iload (pc := 81) hx hb dMo_multiply_81 (lv_at hl 0 rfl) ?_
          refine lv_iadd (pc := 83) hx hb dMo_multiply_83 ?_
          rw [show ((nI (64 * pb) + nI j) : Int32) = nI (64 * pb + j) from (nI_add (64 * pb) j)]
          refine fw_laldN (pc := 84) (x := lN (E (64 * pb + j))) hx hb hK.1 hw 1 b1 rfl (64 * pb + j) (by omega) (by decide) rfl dMo_multiply_84 ?_
          rw [show (lN (E (64 * pb + j)) : Int64) = lN B from (by rw [hsame _ (by omega), hout _ (by omega), hBe])]
          refine lv_lmul (pc := 85) hx hb dMo_multiply_85 ?_
          rw [show ((lN fa * lN B) : Int64) = lN (fa * B) from (lN_mul _ _)]
          refine lv_ladd (pc := 86) hx hb dMo_multiply_86 ?_
          rw [show ((lN (C (64 * pt + (i + j))) + lN (fa * B)) : Int64) = lN (C (64 * pt + (i + j)) + fa * B) from (lN_add _ _)]
          refine lv_lload (pc := 87) hx hb dMo_multiply_87 (lv_at hl 2 rfl) ?_
          refine lv_ladd (pc := 89) hx hb dMo_multiply_89 ?_
          rw [show ((lN (C (64 * pt + (i + j)) + fa * B) + lN cy) : Int64) = lN (C (64 * pt + (i + j)) + fa * B + cy) from (lN_add _ _)]
          obtain ⟨sm, hsm⟩ : ∃ sm, sm = C (64 * pt + (i + j)) + fa * B + cy := ⟨_, rfl⟩
          rw [show (lN (C (64 * pt + (i + j)) + fa * B + cy) : Int64) = lN sm from (by rw [hsm])]
          have hfm : fa * B ≤ 16777215 * 16777215 := Nat.mul_le_mul (by omega) (by omega)
          refine lv_lstore (pc := 90) (lv' := [(12, .long (lN sm)), (11, .int (nI j)), (9, .long (lN fa)), (7, .long (lN cy)), (6, .int (nI i)), (5, .int (nI n2)), (4, .int (nI n)), (0, .ref b), (1, .int (nI pa)), (2, .int (nI pb)), (3, .int (nI pt))]) hx hb dMo_multiply_90 hl (by decide) rfl (fun ls hl => ?_)
          refine lv_aload_n (pc := 92) hx hb dMo_multiply_92 rfl (lv_at hl 7 rfl) ?_
          refine fw_get (pc := 93) (ci := 10) (v := .ref (b + 1)) (C := RMo) (T := TMo) (N := 20) hx hb hW in_Mo hown hK.1 hw b0 rfl 1 (by decide) (hW _ lf_Mo_7) (fun _ h => h) rfl dMo_multiply_93 ?_
          refine lv_bipush (pc := 96) (v := (nI 64)) hx hb dMo_multiply_96 (by decide) ?_
          refine lv_iload_n (pc := 98) hx hb dMo_multiply_98 rfl (lv_at hl 10 rfl) ?_
          refine lv_imul (pc := 99) hx hb dMo_multiply_99 ?_
          rw [show (((nI 64) * nI pt) : Int32) = nI (64 * pt) from (nI_mul 64 pt)]
          refine lv_iload (pc := 100) hx hb dMo_multiply_100 (lv_at hl 4 rfl) ?_
          refine lv_iadd (pc := 102) hx hb dMo_multiply_102 ?_
          rw [show ((nI (64 * pt) + nI i) : Int32) = nI (64 * pt + i) from (nI_add (64 * pt) i)]
          refine lv_iload (pc := 103) hx hb dMo_multiply_103 (lv_at hl 1 rfl) ?_
          refine lv_iadd (pc := 105) hx hb dMo_multiply_105 ?_
          rw [show ((nI (64 * pt + i) + nI j) : Int32) = nI (64 * pt + (i + j)) from (by rw [nI_add]; congr 1; omega)]
          refine lv_lload (pc := 106) hx hb dMo_multiply_106 (lv_at hl 0 rfl) ?_
          refine lv_ldc2 (pc := 108) (v := lN 16777215) hx hb hown (hW _ kl_Mo_123) dMo_multiply_108 ?_
          refine lv_land (pc := 111) hx hb dMo_multiply_111 ?_
          rw [show ((lN sm &&& (lN 16777215)) : Int64) = lN (sm % 16777216) from (g_mask (s := 24) (p := 16777216) (by decide) (by decide) (by omega))]
          refine fw_lastN (pc := 112) (f2 := fun t => lN (va_up E (64 * pt + (i + j)) (sm % 16777216) t)) hx hb hK.1 hw 1 b1 rfl (64 * pt + (i + j)) (by omega) (by decide) (lN_up _ _ _) dMo_multiply_112 (fun H locs hw => ?_)
          obtain ⟨w54, e54⟩ : ∃ w_, w_ = fw_up w1 (b + 1) (.inl (cL, 1536, .inr (.inl (fun t => lN (va_up E (64 * pt + (i + j)) (sm % 16777216) t))))) := ⟨_, rfl⟩
          have hw : fw_H D kCl (fw_A w (sz)) s.heap w54 (sz) H locs := by rw [e54]; exact hw
          have b0_ : w54 (b) = some (.inr (10, [.int (nI (I 0)), .ref (b + 1), .ref (b + 2), .int (nI (I 3)), .ref (b + 3), .ref (b + 4), .int (nI (I 6)), .int (nI (I 7)), .ref (b + 5), .ref (b + 6), .int (nI (I 10)), .int (nI (I 11)), .int (nI (I 12)), .int (nI (I 13)), .ref (b + 7), .ref (b + 8), .int (nI (I 16)), .int (nI (I 17)), .int (nI (I 18)), .int (nI (I 19))])) := by rw [e54, fw_un (by omega)]; exact b0
          have b1_ : w54 (b + 1) = some (.inl (cL, 1536, .inr (.inl (fun t => lN (va_up E (64 * pt + (i + j)) (sm % 16777216) t))))) := by rw [e54]; exact fw_us _ _ _
          have b0 := b0_
          have b1 := b1_
          refine lv_lload (pc := 113) hx hb dMo_multiply_113 (lv_at hl 0 rfl) ?_
          refine lv_bipush (pc := 115) (v := (nI 24)) hx hb dMo_multiply_115 (by decide) ?_
          refine lv_lshr (pc := 117) (v := lN (sm / 16777216)) hx hb dMo_multiply_117 (pf_shr (a := sm) (d := 24) (shD (by decide)) (by omega)) ?_
          refine lv_lstore (pc := 118) (lv' := [(7, .long (lN (sm / 16777216))), (12, .long (lN sm)), (11, .int (nI j)), (9, .long (lN fa)), (6, .int (nI i)), (5, .int (nI n2)), (4, .int (nI n)), (0, .ref b), (1, .int (nI pa)), (2, .int (nI pb)), (3, .int (nI pt))]) hx hb dMo_multiply_118 hl (by decide) rfl (fun ls hl => ?_)
          refine lv_iinc (pc := 120) (lv' := [(11, .int (nI (j + 1))), (7, .long (lN (sm / 16777216))), (12, .long (lN sm)), (9, .long (lN fa)), (6, .int (nI i)), (5, .int (nI n2)), (4, .int (nI n)), (0, .ref b), (1, .int (nI pa)), (2, .int (nI pb)), (3, .int (nI pt))]) hx hb dMo_multiply_120 hl (k := 2) rfl ((nI_add j 1)) (by decide) rfl (fun ls hl => ?_)
          refine lv_goto (pc := 123) (tgt := 49) hx hb dMo_multiply_123 (by decide) ?_
          refine ih2 (j + 1) (by omega) _ H locs ls (sm / 16777216) (va_up E (64 * pt + (i + j)) (sm % 16777216)) hw (lv_sub hl [0, 3, 1, 4, 5, 6, 7, 8, 9, 10] rfl) b1 (fun q hq => by rw [e54, fw_un hq, ho q hq]) (fun t ht => by rw [up_o (by omega)]; exact hsame t (by omega)) (fun t ht => by (unfold va_up; split; exact Nat.mod_lt _ (by decide); exact hle t ht)) (by omega) ?_
          rw [show i + (j + 1) = i + j + 1 by omega, nw_up, nw_s nM C (64 * pt) (i + j), nw_s nM (mC Z) (64 * pb) j, Nat.mul_add, ← hBe, Nat.pow_succ]
          have hp9 : fa * nM ^ i * (B * nM ^ j) = fa * B * nM ^ (i + j) := by rw [Nat.pow_add]; ac_rfl
          have hp8 : (sm % 16777216) * nM ^ (i + j) + sm / 16777216 * (nM ^ (i + j) * nM) = C (64 * pt + (i + j)) * nM ^ (i + j) + fa * B * nM ^ (i + j) + cy * nM ^ (i + j) := by
            rw [← Nat.add_mul, ← Nat.add_mul, ← hsm, Nat.mul_comm (nM ^ (i + j)) nM, ← Nat.mul_assoc, ← Nat.add_mul]; congr 1; exact Nat.mod_add_div' sm nM
          omega
      refine lv_lstore (pc := 44) (lv' := [(9, .long (lN fa)), (7, .long (lN 0)), (6, .int (nI i)), (5, .int (nI n2)), (4, .int (nI n)), (0, .ref b), (1, .int (nI pa)), (2, .int (nI pb)), (3, .int (nI pt))]) hx hb dMo_multiply_44 hl (by decide) rfl (fun ls hl => ?_)
      refine lv_iconst (pc := 46) (v := (nI 0)) hx hb dMo_multiply_46 (by decide) ?_
      refine lv_istore (pc := 47) (lv' := [(11, .int (nI 0)), (9, .long (lN fa)), (7, .long (lN 0)), (6, .int (nI i)), (5, .int (nI n2)), (4, .int (nI n)), (0, .ref b), (1, .int (nI pa)), (2, .int (nI pb)), (3, .int (nI pt))]) hx hb dMo_multiply_47 hl (by decide) rfl (fun ls hl => ?_)
      exact inner n2 0 (by omega) w1 H locs ls 0 C hw (lv_sub hl [0, 1, 2, 3, 4, 5, 6, 7, 8, 9] rfl) b1 ho (fun t _ => rfl) hlm (by decide) (by rw [nw_0, Nat.mul_zero, Nat.zero_mul])
  exact loop n 0 (by omega) _ H locs ls (mC Z) hw (lv_sub hl [0, 1, 2, 3, 4, 5, 6] rfl) b1 (fun q _ => rfl) (fun j _ => rfl) (fun t _ => mC_lt Z _) (fun t _ h2 => hz0 t h2) (by rw [nw_0, Nat.zero_mul, Nat.zero_add]; exact nv_zero (fun t ht => hz0 t (by omega)))
end MO4
