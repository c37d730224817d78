/-! BigCalculator.Natural, second part. Written by wip/gen/natural2.py. -/
section NA2
variable {l : Launch} {D : va_G} {cI cL cQ : ClassId} {z : kZ_T} {sz : Nat} {w : fw_W}
set_option maxHeartbeats 4000000 in
set_option maxRecDepth 100000 in
theorem c_Na_become {n n2 x y : Nat} (hap : n2 + 1 < n ∨ n + 1 < n2) (hv : isV cL w n y) (hv2 : isV cL w n2 x) : fw_C l yNa_become (Cond.code yNa_become cNa_become 2 none :: kWs) ({ frames := 1, cells := 0, slots := 0, locals := 18 } : Room) D kCl (kty cI cL cQ) z [.ref n, .ref n2] (sz) w 0 0 (fun v w' => v = none ∧ isV cL w' n x ∧ ∀ q, q ≠ n → q ≠ n + 1 → w' q = w q) := by
  refine fw_ofW (cc := cNa_become) (maxL := 2) (ret := none) (by decide) rfl (Nat.le_of_ble_eq_true rfl) ?_
  intro p e s m args below meth c hx hb hr hts hown hlocks hname hml hK H ls hw hl
  have hW : ∀ w ∈ kWs, w.before args s = true := fun w h => hts w (List.mem_cons_of_mem _ h)
  have hown : s.vm.findClass RNa = some m.cls := hown
  have hl : lv_has ls 2 [(0, .ref n), (1, .ref n2)] := hl
  obtain ⟨g, k, ⟨a0, a1⟩, ak, ag, an, av⟩ := id hv
  obtain ⟨g2, k2, ⟨b0, b1⟩, bk, bg, bn, bv⟩ := id hv2
  refine lv_aload_n (pc := 0) hx hb dNa_become_0 rfl (lv_at hl 1 rfl) ?_
  refine fw_get (pc := 1) (ci := 5) (v := .ref (n2 + 1)) (C := RNa) (T := TNa) (N := 2) hx hb hW in_Na hown hK.1 hw b0 rfl 0 (by decide) (hW _ lf_Na_9) (fun _ h => h) rfl dNa_become_1 ?_
  refine lv_iconst (pc := 4) (v := (nI 0)) hx hb dNa_become_4 (by decide) ?_
  refine lv_aload_n (pc := 5) hx hb dNa_become_5 rfl (lv_at hl 0 rfl) ?_
  refine fw_get (pc := 6) (ci := 5) (v := .ref (n + 1)) (C := RNa) (T := TNa) (N := 2) hx hb hW in_Na hown hK.1 hw a0 rfl 0 (by decide) (hW _ lf_Na_9) (fun _ h => h) rfl dNa_become_6 ?_
  refine lv_iconst (pc := 9) (v := (nI 0)) hx hb dNa_become_9 (by decide) ?_
  refine lv_aload_n (pc := 10) hx hb dNa_become_10 rfl (lv_at hl 1 rfl) ?_
  refine fw_get (pc := 11) (ci := 5) (v := .int (nI k2)) (C := RNa) (T := TNa) (N := 2) hx hb hW in_Na hown hK.1 hw b0 rfl 1 (by decide) (hW _ lf_Na_15) (fun _ h => h) rfl dNa_become_11 ?_
  refine fw_copyl (pc := 14) hx hb (by rw [hml]; exact hl.1.symm) hown (hW _ lm_Na_33) (hW _ nat_copy) (hW _ sta_copy) (hW _ ini_Sys) hK.1 hw 1 b1 a1 rfl bk bk (by omega) (Nat.le_of_ble_eq_true rfl) (Nat.le_of_ble_eq_true rfl) dNa_become_14 (fun H locs hw => ?_)
  rw [lN_if] at hw
  obtain ⟨w1, e1⟩ : ∃ w_, w_ = fw_up w (n + 1) (.inl (cL, 50, .inr (.inl (fun i => lN ((fun i => if i < k2 then g2 i else g i) i))))) := ⟨_, rfl⟩
  have hw : fw_H D kCl (fw_A w (sz)) s.heap w1 (sz) H locs := by rw [e1]; exact hw
  have a0_ : w1 (n) = some (.inr (5, [.ref (n + 1), .int (nI k)])) := by rw [e1, fw_un (by omega)]; exact a0
  have b0_ : w1 (n2) = some (.inr (5, [.ref (n2 + 1), .int (nI k2)])) := by rw [e1, fw_un (by omega)]; exact b0
  have b1_ : w1 (n2 + 1) = some (.inl (cL, 50, .inr (.inl (fun i => lN (g2 i))))) := by rw [e1, fw_un (by omega)]; exact b1
  have a1_ : w1 (n + 1) = some (.inl (cL, 50, .inr (.inl (fun i => lN ((fun i => if i < k2 then g2 i else g i) i))))) := by rw [e1]; exact fw_us _ _ _
  have a0 := a0_
  have a1 := a1_
  have b0 := b0_
  have b1 := b1_
  refine lv_aload_n (pc := 17) hx hb dNa_become_17 rfl (lv_at hl 0 rfl) ?_
  refine lv_aload_n (pc := 18) hx hb dNa_become_18 rfl (lv_at hl 1 rfl) ?_
  refine fw_get (pc := 19) (ci := 5) (v := .int (nI k2)) (C := RNa) (T := TNa) (N := 2) hx hb hW in_Na hown hK.1 hw b0 rfl 1 (by decide) (hW _ lf_Na_15) (fun _ h => h) rfl dNa_become_19 ?_
  refine fw_put (pc := 22) (ci := 5) (v := .int (nI k2)) (ty := .int) (C := RNa) (T := TNa) (N := 2) hx hb hW in_Na tyNa tyNa_ok nmNa hown hK.1 hw a0 rfl 1 (by decide) (hW _ lf_Na_15) (fun _ h => h) rfl (by decide +kernel) rfl rfl (Nat.le_of_ble_eq_true rfl) dNa_become_22 (fun H locs hw => ?_)
  obtain ⟨w2, e2⟩ : ∃ w_, w_ = fw_up w1 (n) (.inr (5, [.ref (n + 1), .int (nI k2)])) := ⟨_, rfl⟩
  have hw : fw_H D kCl (fw_A w (sz)) s.heap w2 (sz) H locs := by rw [e2]; exact hw
  have a1_ : w2 (n + 1) = some (.inl (cL, 50, .inr (.inl (fun i => lN ((fun i => if i < k2 then g2 i else g i) i))))) := by rw [e2, fw_un (by omega)]; exact a1
  have b0_ : w2 (n2) = some (.inr (5, [.ref (n2 + 1), .int (nI k2)])) := by rw [e2, fw_un (by omega)]; exact b0
  have b1_ : w2 (n2 + 1) = some (.inl (cL, 50, .inr (.inl (fun i => lN (g2 i))))) := by rw [e2, fw_un (by omega)]; exact b1
  have a0_ : w2 (n) = some (.inr (5, [.ref (n + 1), .int (nI k2)])) := by rw [e2]; exact fw_us _ _ _
  have a0 := a0_
  have a1 := a1_
  have b0 := b0_
  have b1 := b1_
  exact fw_vret (pc := 25) hx hb hr hlocks hw dNa_become_25 ⟨rfl, ⟨_, k2, ⟨a0, a1⟩, bk, fun i hi => by (show (if i < k2 then g2 i else g i) < 2 ^ 64; split; exact bg i hi; exact ag i hi), nk_eq (fun i hi => if_pos hi) bn, (nv_eq (fun i hi => if_pos hi)).trans bv⟩, fun q h1 h2 => by rw [e2, fw_un h1, e1, fw_un h2]⟩

set_option maxHeartbeats 4000000 in
set_option maxRecDepth 100000 in
theorem c_Na_order {n n2 x y : Nat} (hv : isV cL w n x) (hv2 : isV cL w n2 y) : fw_R l yNa_order (Cond.code yNa_order cNa_order 3 (some FieldType.int) :: kWs) ({ frames := 0, cells := 0, slots := 0, locals := 0 } : Room) D kCl (kty cI cL cQ) z [.ref n, .ref n2] (sz) w (fun v => v = some (.int (ordI x y))) := by
  refine fw_ofR (cc := cNa_order) (maxL := 3) (ret := (some FieldType.int)) (by decide) rfl (Nat.le_of_ble_eq_true rfl) ?_
  intro p e s m args below meth c hx hb hr hts hown hlocks hml hK H ls hH hw hl
  have hW : ∀ w ∈ kWs, w.before args s = true := fun w h => hts w (List.mem_cons_of_mem _ h)
  have hown : s.vm.findClass RNa = some m.cls := hown
  have hl : lv_has ls 3 [(0, .ref n), (1, .ref n2)] := hl
  obtain ⟨g, k, ⟨a0, a1⟩, ak, ag, an, av⟩ := id hv
  obtain ⟨g2, k2, ⟨b0, b1⟩, bk, bg, bn, bv⟩ := id hv2
  refine lv_aload_n (pc := 0) hx hb dNa_order_0 rfl (lv_at hl 0 rfl) ?_
  refine fw_get (pc := 1) (ci := 5) (v := .int (nI k)) (C := RNa) (T := TNa) (N := 2) hx hb hW in_Na hown hK.1 hw a0 rfl 1 (by decide) (hW _ lf_Na_15) (fun _ h => h) rfl dNa_order_1 ?_
  refine lv_aload_n (pc := 4) hx hb dNa_order_4 rfl (lv_at hl 1 rfl) ?_
  refine fw_get (pc := 5) (ci := 5) (v := .int (nI k2)) (C := RNa) (T := TNa) (N := 2) hx hb hW in_Na hown hK.1 hw b0 rfl 1 (by decide) (hW _ lf_Na_15) (fun _ h => h) rfl dNa_order_5 ?_
  refine lv_icmp_eq (pc := 8) (tgt := 28) hx hb dNa_order_8 (by decide) (fun ha => ?_) (fun ha => ?_)
  · obtain rfl : k = k2 := (nI_eq (by omega) (by omega)).mp ha
    have loop : ∀ (j : Nat), j ≤ k → (∀ i, j ≤ i → i < k → g i = g2 i) → ∀ (ls : Array Slot), lv_has ls 3 [(2, .int (nI j - nI 1)), (0, .ref n), (1, .ref n2)] → W p l e ({ frames := 0, cells := 0, slots := 0, locals := 0 } : Room) s m args below meth c H [] 0 0 (MQ below (fw_RQ (fun v => v = some (.int (ordI x y)))) args s 0 0 (fun _ => False)) (F0 m 35 ls []) := by
      intro j
      induction j with
      | zero =>
        intro hjk he ls hl
        refine lv_iload_n (pc := 35) hx hb dNa_order_35 rfl (lv_at hl 0 rfl) ?_
        refine lv_if_lt (pc := 36) (tgt := 83) hx hb dNa_order_36 (by decide) (fun _ => ?_) (fun hc => absurd (show nI 0 - nI 1 < 0 by decide) hc)
        refine lv_iconst (pc := 83) (v := (nI 0)) hx hb dNa_order_83 (by decide) ?_
        exact fw_iretR (pc := 84) hx hb hr hlocks hH dNa_order_84 (by rw [ordI_eq (by rw [← av, ← bv]; exact nv_eq (fun i hi => he i (Nat.zero_le _) hi))])
      | succ j ih =>
        intro hjk he ls hl
        rw [show nI (j + 1) - nI 1 = nI j from nI_pred j] at hl
        refine lv_iload_n (pc := 35) hx hb dNa_order_35 rfl (lv_at hl 0 rfl) ?_
        refine lv_if_lt (pc := 36) (tgt := 83) hx hb dNa_order_36 (by decide) (fun hc => absurd hc (nI_pos (by omega))) (fun _ => ?_)
        refine lv_aload_n (pc := 39) hx hb dNa_order_39 rfl (lv_at hl 1 rfl) ?_
        refine fw_get (pc := 40) (ci := 5) (v := .ref (n + 1)) (C := RNa) (T := TNa) (N := 2) hx hb hW in_Na hown hK.1 hw a0 rfl 0 (by decide) (hW _ lf_Na_9) (fun _ h => h) rfl dNa_order_40 ?_
        refine lv_iload_n (pc := 43) hx hb dNa_order_43 rfl (lv_at hl 0 rfl) ?_
        refine fw_laldN (pc := 44) (x := lN (g (j))) hx hb hK.1 hw 1 a1 rfl (j) (show j < 50 by omega) (by decide) rfl dNa_order_44 ?_
        refine lv_aload_n (pc := 45) hx hb dNa_order_45 rfl (lv_at hl 2 rfl) ?_
        refine fw_get (pc := 46) (ci := 5) (v := .ref (n2 + 1)) (C := RNa) (T := TNa) (N := 2) hx hb hW in_Na hown hK.1 hw b0 rfl 0 (by decide) (hW _ lf_Na_9) (fun _ h => h) rfl dNa_order_46 ?_
        refine lv_iload_n (pc := 49) hx hb dNa_order_49 rfl (lv_at hl 0 rfl) ?_
        refine fw_laldN (pc := 50) (x := lN (g2 (j))) hx hb hK.1 hw 1 b1 rfl (j) (show j < 50 by omega) (by decide) rfl dNa_order_50 ?_
        refine W.lcmp (pc := 51) hx hb dNa_order_51 ?_
        have gl : g j < 2 ^ 63 := Nat.lt_trans (an.1 j (by omega)) (by decide)
        have gl2 : g2 j < 2 ^ 63 := Nat.lt_trans (bn.1 j (by omega)) (by decide)
        refine lv_if_eq (pc := 52) (tgt := 77) hx hb dNa_order_52 (by decide) (fun hc => ?_) (fun hc => ?_)
        · have hgj : g j = g2 j := lN_inj (by omega) (by omega) ((lg_cmp_eq _ _).mp hc)
          refine lv_iinc (pc := 77) (lv' := [(2, .int (nI j - nI 1)), (0, .ref n), (1, .ref n2)]) hx hb dNa_order_77 hl (k := 0) rfl ((by rw [Int32.sub_eq_add_neg]; rfl)) (by decide) rfl (fun ls hl => ?_)
          refine lv_goto (pc := 80) (tgt := 35) hx hb dNa_order_80 (by decide) ?_
          exact ih (by omega) (fun i h1 h3 => by rcases Nat.eq_or_lt_of_le h1 with rfl | h4; exact hgj; exact he i h4 h3) ls hl
        · refine lv_aload_n (pc := 55) hx hb dNa_order_55 rfl (lv_at hl 1 rfl) ?_
          refine fw_get (pc := 56) (ci := 5) (v := .ref (n + 1)) (C := RNa) (T := TNa) (N := 2) hx hb hW in_Na hown hK.1 hw a0 rfl 0 (by decide) (hW _ lf_Na_9) (fun _ h => h) rfl dNa_order_56 ?_
          refine lv_iload_n (pc := 59) hx hb dNa_order_59 rfl (lv_at hl 0 rfl) ?_
          refine fw_laldN (pc := 60) (x := lN (g (j))) hx hb hK.1 hw 1 a1 rfl (j) (show j < 50 by omega) (by decide) rfl dNa_order_60 ?_
          refine lv_aload_n (pc := 61) hx hb dNa_order_61 rfl (lv_at hl 2 rfl) ?_
          refine fw_get (pc := 62) (ci := 5) (v := .ref (n2 + 1)) (C := RNa) (T := TNa) (N := 2) hx hb hW in_Na hown hK.1 hw b0 rfl 0 (by decide) (hW _ lf_Na_9) (fun _ h => h) rfl dNa_order_62 ?_
          refine lv_iload_n (pc := 65) hx hb dNa_order_65 rfl (lv_at hl 0 rfl) ?_
          refine fw_laldN (pc := 66) (x := lN (g2 (j))) hx hb hK.1 hw 1 b1 rfl (j) (show j < 50 by omega) (by decide) rfl dNa_order_66 ?_
          refine W.lcmp (pc := 67) hx hb dNa_order_67 ?_
          refine lv_if_ge (pc := 68) (tgt := 75) hx hb dNa_order_68 (by decide) (fun hd => ?_) (fun hd => ?_)
          · have hlt : g2 j < g j := Nat.lt_of_le_of_ne ((lN_leN gl2 gl).mp ((lg_cmp_ge _ _).mp hd)) (fun h => hc ((lg_cmp_eq _ _).mpr (by rw [h])))
            refine lv_iconst (pc := 75) (v := (nI 1)) hx hb dNa_order_75 (by decide) ?_
            exact fw_iretR (pc := 76) hx hb hr hlocks hH dNa_order_76 (by rw [ordI_gt (by rw [← av, ← bv]; exact nv_less bn.1 (show j < k by omega) hlt (fun i h1 h2 => (he i h1 h2).symm))])
          · have hlt : g j < g2 j := Nat.lt_of_not_le (fun h => hd ((lg_cmp_ge _ _).mpr ((lN_leN gl2 gl).mpr h)))
            refine lv_iconst (pc := 71) (v := (-1)) hx hb dNa_order_71 (by decide) ?_
            refine lv_goto (pc := 72) (tgt := 76) hx hb dNa_order_72 (by decide) ?_
            exact fw_iretR (pc := 76) hx hb hr hlocks hH dNa_order_76 (by rw [ordI_lt (by rw [← av, ← bv]; exact nv_less an.1 (show j < k by omega) hlt (fun i h1 h2 => he i h1 h2))])
    refine lv_aload_n (pc := 28) hx hb dNa_order_28 rfl (lv_at hl 0 rfl) ?_
    refine fw_get (pc := 29) (ci := 5) (v := .int (nI k)) (C := RNa) (T := TNa) (N := 2) hx hb hW in_Na hown hK.1 hw a0 rfl 1 (by decide) (hW _ lf_Na_15) (fun _ h => h) rfl dNa_order_29 ?_
    refine lv_iconst (pc := 32) (v := (nI 1)) hx hb dNa_order_32 (by decide) ?_
    refine lv_isub (pc := 33) hx hb dNa_order_33 ?_
    refine lv_istore_n (pc := 34) (lv' := [(2, .int ((nI k - (nI 1)))), (0, .ref n), (1, .ref n2)]) hx hb dNa_order_34 rfl hl (by decide) rfl (fun ls hl => ?_)
    exact loop k (Nat.le_refl k) (fun i h1 h3 => absurd h3 (by omega)) ls hl
  · have hkk : ¬ k = k2 := fun h => ha (by rw [h])
    refine lv_aload_n (pc := 11) hx hb dNa_order_11 rfl (lv_at hl 0 rfl) ?_
    refine fw_get (pc := 12) (ci := 5) (v := .int (nI k)) (C := RNa) (T := TNa) (N := 2) hx hb hW in_Na hown hK.1 hw a0 rfl 1 (by decide) (hW _ lf_Na_15) (fun _ h => h) rfl dNa_order_12 ?_
    refine lv_aload_n (pc := 15) hx hb dNa_order_15 rfl (lv_at hl 1 rfl) ?_
    refine fw_get (pc := 16) (ci := 5) (v := .int (nI k2)) (C := RNa) (T := TNa) (N := 2) hx hb hW in_Na hown hK.1 hw b0 rfl 1 (by decide) (hW _ lf_Na_15) (fun _ h => h) rfl dNa_order_16 ?_
    refine lv_icmp_ge (pc := 19) (tgt := 26) hx hb dNa_order_19 (by decide) (fun hc => ?_) (fun hc => ?_)
    · have hlt : k2 < k := Classical.byContradiction fun h => absurd hc (nI_ge (show k < k2 by omega) (by omega))
      refine lv_iconst (pc := 26) (v := (nI 1)) hx hb dNa_order_26 (by decide) ?_
      exact fw_iretR (pc := 27) hx hb hr hlocks hH dNa_order_27 (by rw [ordI_gt (by rw [← av, ← bv]; exact nk_less bn an (by decide) hlt)])
    · have hlt : k < k2 := Classical.byContradiction fun h => hc (nI_le (show k2 ≤ k by omega) (by omega))
      refine lv_iconst (pc := 22) (v := (-1)) hx hb dNa_order_22 (by decide) ?_
      refine lv_goto (pc := 23) (tgt := 27) hx hb dNa_order_23 (by decide) ?_
      exact fw_iretR (pc := 27) hx hb hr hlocks hH dNa_order_27 (by rw [ordI_lt (by rw [← av, ← bv]; exact nk_less an bn (by decide) hlt)])

set_option maxHeartbeats 4000000 in
set_option maxRecDepth 100000 in
theorem c_Na_clear {n k0 : Nat} {g : Nat → Nat} {x : Int32} (hk : k0 ≤ 50) (h : w n = some (.inr (5, [.ref (n + 1), .int x]))) (h2 : w (n + 1) = some (.inl (cL, 50, .inr (.inl (fun i => lN (g i)))))) : fw_C l yNa_clear (Cond.code yNa_clear cNa_clear 3 none :: kWs) ({ frames := 0, cells := 0, slots := 0, locals := 0 } : Room) D kCl (kty cI cL cQ) z [.ref n, .int (nI k0)] (sz) w 0 0 (fun v w' => v = none ∧ w' (n + 1) = some (.inl (cL, 50, .inr (.inl (fun i => lN (clr g 0 k0 i))))) ∧ ∀ q, q ≠ n + 1 → w' q = w q) := by
  refine fw_ofW (cc := cNa_clear) (maxL := 3) (ret := none) (by decide) rfl (Nat.le_of_ble_eq_true rfl) ?_
  intro p e s m args below meth c hx hb hr hts hown hlocks hname hml hK H ls hw hl
  have hW : ∀ w ∈ kWs, w.before args s = true := fun w h => hts w (List.mem_cons_of_mem _ h)
  have hown : s.vm.findClass RNa = some m.cls := hown
  have hl : lv_has ls 3 [(0, .ref n), (1, .int (nI k0))] := hl
  have loop : ∀ (d j : Nat), j + d = k0 → ∀ (w1 : fw_W) (H : Heap) (locs : List Loc) (ls : Array Slot), fw_H D kCl (fw_A w (sz)) s.heap w1 (sz) H locs → lv_has ls 3 [(2, .int (nI j)), (0, .ref n), (1, .int (nI k0))] → w1 (n + 1) = some (.inl (cL, 50, .inr (.inl (fun i => lN (clr g 0 j i))))) → (∀ q, q ≠ n + 1 → w1 q = w q) → W p l e ({ frames := 0, cells := 0, slots := 0, locals := 0 } : Room) s m args below meth c H locs 0 0 (MQ below (fw_Q D kCl w (sz) 0 (fun v w' => v = none ∧ w' (n + 1) = some (.inl (cL, 50, .inr (.inl (fun i => lN (clr g 0 k0 i))))) ∧ ∀ q, q ≠ n + 1 → w' q = w q)) args s 0 0 (fw_A w (sz))) (F0 m 2 ls []) := by
    intro d
    induction d with
    | zero =>
      intro j hjd w1 H locs ls hw hl h2 ho
      have h : w1 n = some (.inr (5, [.ref (n + 1), .int x])) := (ho _ (by omega)).trans h
      obtain rfl : j = k0 := by omega
      refine lv_iload_n (pc := 2) hx hb dNa_clear_2 rfl (lv_at hl 0 rfl) ?_
      refine lv_iload_n (pc := 3) hx hb dNa_clear_3 rfl (lv_at hl 2 rfl) ?_
      refine lv_icmp_ge (pc := 4) (tgt := 20) hx hb dNa_clear_4 (by decide) (fun _ => ?_) (fun hc => absurd (nI_le (a := j) (b := j) (Nat.le_refl _) (by omega)) hc)
      exact fw_vret (pc := 20) hx hb hr hlocks hw dNa_clear_20 ⟨rfl, h2, ho⟩
    | succ d ih =>
      intro j hjd w1 H locs ls hw hl h2 ho
      have h : w1 n = some (.inr (5, [.ref (n + 1), .int x])) := (ho _ (by omega)).trans h
      refine lv_iload_n (pc := 2) hx hb dNa_clear_2 rfl (lv_at hl 0 rfl) ?_
      refine lv_iload_n (pc := 3) hx hb dNa_clear_3 rfl (lv_at hl 2 rfl) ?_
      refine lv_icmp_ge (pc := 4) (tgt := 20) hx hb dNa_clear_4 (by decide) (fun hc => absurd hc (nI_ge (show j < k0 by omega) (by omega))) (fun _ => ?_)
      refine lv_aload_n (pc := 7) hx hb dNa_clear_7 rfl (lv_at hl 1 rfl) ?_
      refine fw_get (pc := 8) (ci := 5) (v := .ref (n + 1)) (C := RNa) (T := TNa) (N := 2) hx hb hW in_Na hown hK.1 hw h rfl 0 (by decide) (hW _ lf_Na_9) (fun _ h => h) rfl dNa_clear_8 ?_
      refine lv_iload_n (pc := 11) hx hb dNa_clear_11 rfl (lv_at hl 0 rfl) ?_
      refine lv_lconst (pc := 12) (v := lN 0) hx hb dNa_clear_12 (by decide) ?_
      refine fw_lastN (pc := 13) (f2 := fun i => lN (clr g 0 (j + 1) i)) hx hb hK.1 hw 1 h2 rfl (j) (show j < 50 by omega) (by decide) (by have := clr_up g 0 j; rw [Nat.mul_zero, Nat.zero_add] at this; exact this) dNa_clear_13 (fun H locs hw => ?_)
      obtain ⟨w2, e2⟩ : ∃ w_, w_ = fw_up w1 (n + 1) (.inl (cL, 50, .inr (.inl (fun i => lN (clr g 0 (j + 1) i))))) := ⟨_, rfl⟩
      have hw : fw_H D kCl (fw_A w (sz)) s.heap w2 (sz) H locs := by rw [e2]; exact hw
      have h_ : w2 (n) = some (.inr (5, [.ref (n + 1), .int (x)])) := by rw [e2, fw_un (by omega)]; exact h
      have h2_ : w2 (n + 1) = some (.inl (cL, 50, .inr (.inl (fun i => lN (clr g 0 (j + 1) i))))) := by rw [e2]; exact fw_us _ _ _
      have h := h_
      have h2 := h2_
      refine lv_iinc (pc := 14) (lv' := [(2, .int (nI (j + 1))), (0, .ref n), (1, .int (nI k0))]) hx hb dNa_clear_14 hl (k := 0) rfl ((nI_add j 1)) (by decide) rfl (fun ls hl => ?_)
      refine lv_goto (pc := 17) (tgt := 2) hx hb dNa_clear_17 (by decide) ?_
      exact ih (j + 1) (by omega) _ H locs ls hw hl h2 (fun q hq => by rw [e2, fw_un hq, ho q hq])
  refine lv_iconst (pc := 0) (v := (nI 0)) hx hb dNa_clear_0 (by decide) ?_
  refine lv_istore_n (pc := 1) (lv' := [(2, .int (nI 0)), (0, .ref n), (1, .int (nI k0))]) hx hb dNa_clear_1 rfl hl (by decide) rfl (fun ls hl => ?_)
  exact loop k0 0 (by omega) w H [] ls hw hl (by rw [clr_0]; exact h2) (fun q _ => rfl)
end NA2
