/-! BigCalculator.Natural, eighth part. Written by wip/gen/natural8.py. -/
section NA8
variable {l : Launch} {D : va_G} {cI cL cQ : ClassId} {z : kZ_T} {sz : Nat} {w : fw_W}
set_option maxHeartbeats 4000000 in
set_option maxRecDepth 100000 in
theorem c_Na_becomeProduct {n na nb x y y0 : Nat} (hpa : na + 1 < n ∨ n + 1 < na) (hpb : nb + 1 < n ∨ n + 1 < nb) (hv : isV cL w n y0) (hva : isV cL w na x) (hvb : isV cL w nb y) (hxl : x < nB ^ 25) (hyl : y < nB ^ 25) : fw_C l yNa_becomeProduct (Cond.code yNa_becomeProduct cNa_becomeProduct 12 none :: kWs) ({ frames := 1, cells := 0, slots := 0, locals := 22 } : Room) D kCl (kty cI cL cQ) z [.ref n, .ref na, .ref nb] (sz) w 0 0 (fun v w' => v = none ∧ isV cL w' n (x * y) ∧ ∀ q, q ≠ n → q ≠ n + 1 → w' q = w q) := by
  refine fw_ofW (cc := cNa_becomeProduct) (maxL := 12) (ret := none) (by decide) rfl (Nat.le_of_ble_eq_true rfl) ?_
  intro p e s m args below meth c hx hb hr hts hown hlocks hname hml hK H ls hw hl
  have hW : ∀ w ∈ kWs, w.before args s = true := fun w h => hts w (List.mem_cons_of_mem _ h)
  have hown : s.vm.findClass RNa = some m.cls := hown
  have hl : lv_has ls 12 [(0, .ref n), (1, .ref na), (2, .ref nb)] := hl
  obtain ⟨g, k, ⟨o0, o1⟩, ok, og, on, ov⟩ := id hv
  obtain ⟨ga, ka, ⟨a0, a1⟩, ak, ag, an, av⟩ := id hva
  obtain ⟨gb, kb, ⟨b0, b1⟩, bk, bg, bn, bv⟩ := id hvb
  have la : ka ≤ 25 := nk_size an (by rw [av]; exact hxl)
  have lb : kb ≤ 25 := nk_size bn (by rw [bv]; exact hyl)
  have l3 : nB = 4294967296 := rfl
  have o9 := o0
  have a9 := a0
  have a8 := a1
  have b9 := b0
  have b8 := b1
  have loop : ∀ (d i : Nat), i + d = ka → ∀ (w1 : fw_W) (H : Heap) (locs : List Loc) (ls : Array Slot) (g1 : Nat → Nat), fw_H D kCl (fw_A w (sz)) s.heap w1 (sz) H locs → lv_has ls 12 [(4, .int (nI i)), (3, .int (nI kb)), (0, .ref n), (1, .ref na), (2, .ref nb)] → w1 (n + 1) = some (.inl (cL, 50, .inr (.inl (fun i => lN (g1 i))))) → (∀ q, q ≠ n + 1 → w1 q = w q) → (∀ j, j < 50 → g1 j < 2 ^ 64) → (∀ j, j < i + kb → g1 j < nB) → nv nB g1 (i + kb) = nv nB ga i * y → W p l e ({ frames := 1, cells := 0, slots := 0, locals := 22 } : Room) s m args below meth c H locs 0 0 (MQ below (fw_Q D kCl w (sz) 0 (fun v w' => v = none ∧ isV cL w' n (x * y) ∧ ∀ q, q ≠ n → q ≠ n + 1 → w' q = w q)) args s 0 0 (fw_A w (sz))) (F0 m 13 ls []) := by
    intro d
    induction d with
    | zero =>
      intro i hid w1 H locs ls g1 hw hl h2 ho hg hgb hs
      have o0 : w1 (n) = some (.inr (5, [.ref (n + 1), .int (nI k)])) := (ho _ (by omega)).trans o0
      have a0 : w1 (na) = some (.inr (5, [.ref (na + 1), .int (nI ka)])) := (ho _ (by omega)).trans a0
      have a1 : w1 (na + 1) = some (.inl (cL, 50, .inr (.inl (fun i => lN (ga i))))) := (ho _ (by omega)).trans a1
      have b0 : w1 (nb) = some (.inr (5, [.ref (nb + 1), .int (nI kb)])) := (ho _ (by omega)).trans b0
      have b1 : w1 (nb + 1) = some (.inl (cL, 50, .inr (.inl (fun i => lN (gb i))))) := (ho _ (by omega)).trans b1
      obtain rfl : i = ka := by omega
      refine lv_iload (pc := 13) hx hb dNa_becomeProduct_13 (lv_at hl 0 rfl) ?_
      refine lv_aload_n (pc := 15) hx hb dNa_becomeProduct_15 rfl (lv_at hl 3 rfl) ?_
      refine fw_get (pc := 16) (ci := 5) (v := .int (nI i)) (C := RNa) (T := TNa) (N := 2) hx hb hW in_Na hown hK.1 hw a0 rfl 1 (by decide) (hW _ lf_Na_15) (fun _ h => h) rfl dNa_becomeProduct_16 ?_
      refine lv_icmp_ge (pc := 19) (tgt := 115) hx hb dNa_becomeProduct_19 (by decide) (fun _ => ?_) (fun hc => absurd (nI_le (Nat.le_refl i) (by omega)) hc)
      refine lv_aload_n (pc := 115) hx hb dNa_becomeProduct_115 rfl (lv_at hl 2 rfl) ?_
      refine lv_aload_n (pc := 116) hx hb dNa_becomeProduct_116 rfl (lv_at hl 3 rfl) ?_
      refine fw_get (pc := 117) (ci := 5) (v := .int (nI i)) (C := RNa) (T := TNa) (N := 2) hx hb hW in_Na hown hK.1 hw a0 rfl 1 (by decide) (hW _ lf_Na_15) (fun _ h => h) rfl dNa_becomeProduct_117 ?_
      refine lv_iload_n (pc := 120) hx hb dNa_becomeProduct_120 rfl (lv_at hl 1 rfl) ?_
      refine lv_iadd (pc := 121) hx hb dNa_becomeProduct_121 ?_
      rw [show ((nI i + nI kb) : Int32) = nI (i + kb) from (nI_add i kb)]
      refine fw_cV (pc := 122) (As := [.int (nI (i + kb))]) (rest := []) ⟨hx, hb, hml, hown, hW⟩ (c_Na_trim (k := i + kb) (by omega) hg o0 h2) (cwV 1 hW (kw_V lm_Na_41 im_Na_trim se_Na_trim ini_Na cd_Na_trim) rfl rfl rfl (by decide +kernel) ⟨Nat.le_of_ble_eq_true rfl, Nat.le_of_ble_eq_true rfl⟩) hK hw o0 rfl rfl hl.1 rfl (Nat.le_of_ble_eq_true rfl) dNa_becomeProduct_122 ⟨Nat.le_of_ble_eq_true rfl, Nat.le_of_ble_eq_true rfl⟩ (fun v w2 H locs hq hw => ?_)
      obtain ⟨rfl, j, hj, hz, hnz, f1, hto⟩ := hq
      refine W.eq (g2 := F0 m 125 ls []) rfl ?_
      exact fw_vret (pc := 125) hx hb hr hlocks hw dNa_becomeProduct_125 ⟨rfl, ⟨_, j, ⟨f1, (hto _ (by omega)).trans h2⟩, by omega, hg, ⟨fun q hq => hgb q (by omega), hnz⟩, (nv_cut hj hz).symm.trans (hs.trans (by rw [av]))⟩, fun q h1 h3 => by rw [hto q h1, ho q h3]⟩
    | succ d ih =>
      intro i hid w1 H locs ls g1 hw hl h2 ho hg hgb hs
      have o0 : w1 (n) = some (.inr (5, [.ref (n + 1), .int (nI k)])) := (ho _ (by omega)).trans o0
      have a0 : w1 (na) = some (.inr (5, [.ref (na + 1), .int (nI ka)])) := (ho _ (by omega)).trans a0
      have a1 : w1 (na + 1) = some (.inl (cL, 50, .inr (.inl (fun i => lN (ga i))))) := (ho _ (by omega)).trans a1
      have b0 : w1 (nb) = some (.inr (5, [.ref (nb + 1), .int (nI kb)])) := (ho _ (by omega)).trans b0
      have b1 : w1 (nb + 1) = some (.inl (cL, 50, .inr (.inl (fun i => lN (gb i))))) := (ho _ (by omega)).trans b1
      refine lv_iload (pc := 13) hx hb dNa_becomeProduct_13 (lv_at hl 0 rfl) ?_
      refine lv_aload_n (pc := 15) hx hb dNa_becomeProduct_15 rfl (lv_at hl 3 rfl) ?_
      refine fw_get (pc := 16) (ci := 5) (v := .int (nI ka)) (C := RNa) (T := TNa) (N := 2) hx hb hW in_Na hown hK.1 hw a0 rfl 1 (by decide) (hW _ lf_Na_15) (fun _ h => h) rfl dNa_becomeProduct_16 ?_
      refine lv_icmp_ge (pc := 19) (tgt := 115) hx hb dNa_becomeProduct_19 (by decide) (fun hc => absurd hc (nI_ge (show i < ka by omega) (by omega))) (fun _ => ?_)
      refine lv_aload_n (pc := 22) hx hb dNa_becomeProduct_22 rfl (lv_at hl 3 rfl) ?_
      refine fw_get (pc := 23) (ci := 5) (v := .ref (na + 1)) (C := RNa) (T := TNa) (N := 2) hx hb hW in_Na hown hK.1 hw a0 rfl 0 (by decide) (hW _ lf_Na_9) (fun _ h => h) rfl dNa_becomeProduct_23 ?_
      refine lv_iload (pc := 26) hx hb dNa_becomeProduct_26 (lv_at hl 0 rfl) ?_
      refine fw_laldN (pc := 28) (x := lN (ga (i))) hx hb hK.1 hw 1 a1 rfl (i) (show i < 50 by omega) (by decide) rfl dNa_becomeProduct_28 ?_
      have lf : ga i < nB := an.1 i (by omega)
      obtain ⟨fa, hfa⟩ : ∃ fa, fa = ga i := ⟨_, rfl⟩
      rw [show (lN (ga (i)) : Int64) = lN fa from (by rw [hfa])]
      have inner : ∀ (d2 j : Nat), j + d2 = kb → ∀ (w1 : fw_W) (H : Heap) (locs : List Loc) (ls : Array Slot) (cy : Nat) (g2 : Nat → Nat), fw_H D kCl (fw_A w (sz)) s.heap w1 (sz) H locs → lv_has ls 12 [(9, .int (nI j)), (7, .long (lN cy)), (5, .long (lN fa)), (4, .int (nI i)), (3, .int (nI kb)), (0, .ref n), (1, .ref na), (2, .ref nb)] → w1 (n + 1) = some (.inl (cL, 50, .inr (.inl (fun i => lN (g2 i))))) → (∀ q, q ≠ n + 1 → w1 q = w q) → (∀ t, t < 50 → g2 t < 2 ^ 64) → (∀ t, t < i + kb → g2 t < nB) → cy < nB → (∀ t, i + j ≤ t → g2 t = g1 t) → nv nB g2 (i + j) + cy * nB ^ (i + j) = nv nB g1 (i + j) + fa * nB ^ i * nv nB gb j → W p l e ({ frames := 1, cells := 0, slots := 0, locals := 22 } : Room) s m args below meth c H locs 0 0 (MQ below (fw_Q D kCl w (sz) 0 (fun v w' => v = none ∧ isV cL w' n (x * y) ∧ ∀ q, q ≠ n → q ≠ n + 1 → w' q = w q)) args s 0 0 (fw_A w (sz))) (F0 m 37 ls []) := by
        intro d2
        induction d2 with
        | zero =>
          intro j hjd w1 H locs ls cy g2 hw hl h2 ho hg hgb hcy hsame hs2
          have o0 : w1 (n) = some (.inr (5, [.ref (n + 1), .int (nI k)])) := (ho _ (by omega)).trans o9
          have a0 : w1 (na) = some (.inr (5, [.ref (na + 1), .int (nI ka)])) := (ho _ (by omega)).trans a9
          have a1 : w1 (na + 1) = some (.inl (cL, 50, .inr (.inl (fun i => lN (ga i))))) := (ho _ (by omega)).trans a8
          have b0 : w1 (nb) = some (.inr (5, [.ref (nb + 1), .int (nI kb)])) := (ho _ (by omega)).trans b9
          have b1 : w1 (nb + 1) = some (.inl (cL, 50, .inr (.inl (fun i => lN (gb i))))) := (ho _ (by omega)).trans b8
          obtain rfl : j = kb := by omega
          refine lv_iload (pc := 37) hx hb dNa_becomeProduct_37 (lv_at hl 0 rfl) ?_
          refine lv_iload_n (pc := 39) hx hb dNa_becomeProduct_39 rfl (lv_at hl 4 rfl) ?_
          refine lv_icmp_ge (pc := 40) (tgt := 98) hx hb dNa_becomeProduct_40 (by decide) (fun _ => ?_) (fun hc => absurd (nI_le (Nat.le_refl j) (by omega)) hc)
          refine lv_aload_n (pc := 98) hx hb dNa_becomeProduct_98 rfl (lv_at hl 5 rfl) ?_
          refine fw_get (pc := 99) (ci := 5) (v := .ref (n + 1)) (C := RNa) (T := TNa) (N := 2) hx hb hW in_Na hown hK.1 hw o0 rfl 0 (by decide) (hW _ lf_Na_9) (fun _ h => h) rfl dNa_becomeProduct_99 ?_
          refine lv_iload (pc := 102) hx hb dNa_becomeProduct_102 (lv_at hl 3 rfl) ?_
          refine lv_iload_n (pc := 104) hx hb dNa_becomeProduct_104 rfl (lv_at hl 4 rfl) ?_
          refine lv_iadd (pc := 105) hx hb dNa_becomeProduct_105 ?_
          rw [show ((nI i + nI j) : Int32) = nI (i + j) from (nI_add i j)]
          refine lv_lload (pc := 106) hx hb dNa_becomeProduct_106 (lv_at hl 1 rfl) ?_
          refine fw_lastN (pc := 108) (f2 := fun t => lN (va_up g2 (i + j) cy t)) hx hb hK.1 hw 1 h2 rfl (i + j) (show i + j < 50 by omega) (by decide) (lN_up _ _ _) dNa_becomeProduct_108 (fun H locs hw => ?_)
          obtain ⟨w2, e2⟩ : ∃ w_, w_ = fw_up w1 (n + 1) (.inl (cL, 50, .inr (.inl (fun t => lN (va_up g2 (i + j) cy t))))) := ⟨_, rfl⟩
          have hw : fw_H D kCl (fw_A w (sz)) s.heap w2 (sz) H locs := by rw [e2]; exact hw
          have o0_ : w2 (n) = some (.inr (5, [.ref (n + 1), .int (nI k)])) := by rw [e2, fw_un (by omega)]; exact o0
          have h2_ : w2 (n + 1) = some (.inl (cL, 50, .inr (.inl (fun t => lN (va_up g2 (i + j) cy t))))) := by rw [e2]; exact fw_us _ _ _
          have o0 := o0_
          have h2 := h2_
          refine lv_iinc (pc := 109) (lv' := [(4, .int (nI (i + 1))), (9, .int (nI j)), (7, .long (lN cy)), (5, .long (lN fa)), (3, .int (nI j)), (0, .ref n), (1, .ref na), (2, .ref nb)]) hx hb dNa_becomeProduct_109 hl (k := 3) rfl ((nI_add i 1)) (by decide) rfl (fun ls hl => ?_)
          refine lv_goto (pc := 112) (tgt := 13) hx hb dNa_becomeProduct_112 (by decide) ?_
          refine ih (i + 1) (by omega) _ H locs ls (va_up g2 (i + j) cy) hw (lv_sub hl [0, 4, 5, 6, 7] rfl) h2 (fun q hq => by rw [e2, fw_un hq, ho q hq]) (fun j hj => by (unfold va_up; split; omega; exact hg j hj)) (fun t ht => by (unfold va_up; split; exact hcy; exact hgb t (by omega))) ?_
          rw [show i + 1 + j = i + j + 1 by omega, nv_more rfl, hs2, hs, bv, nv_s nB ga i, Nat.add_mul, hfa]
        | succ d2 ih2 =>
          intro j hjd w1 H locs ls cy g2 hw hl h2 ho hg hgb hcy hsame hs2
          have o0 : w1 (n) = some (.inr (5, [.ref (n + 1), .int (nI k)])) := (ho _ (by omega)).trans o9
          have a0 : w1 (na) = some (.inr (5, [.ref (na + 1), .int (nI ka)])) := (ho _ (by omega)).trans a9
          have a1 : w1 (na + 1) = some (.inl (cL, 50, .inr (.inl (fun i => lN (ga i))))) := (ho _ (by omega)).trans a8
          have b0 : w1 (nb) = some (.inr (5, [.ref (nb + 1), .int (nI kb)])) := (ho _ (by omega)).trans b9
          have b1 : w1 (nb + 1) = some (.inl (cL, 50, .inr (.inl (fun i => lN (gb i))))) := (ho _ (by omega)).trans b8
          refine lv_iload (pc := 37) hx hb dNa_becomeProduct_37 (lv_at hl 0 rfl) ?_
          refine lv_iload_n (pc := 39) hx hb dNa_becomeProduct_39 rfl (lv_at hl 4 rfl) ?_
          refine lv_icmp_ge (pc := 40) (tgt := 98) hx hb dNa_becomeProduct_40 (by decide) (fun hc => absurd hc (nI_ge (show j < kb by omega) (by omega))) (fun _ => ?_)
          refine lv_lload (pc := 43) hx hb dNa_becomeProduct_43 (lv_at hl 2 rfl) ?_
          refine lv_aload_n (pc := 45) hx hb dNa_becomeProduct_45 rfl (lv_at hl 7 rfl) ?_
          refine fw_get (pc := 46) (ci := 5) (v := .ref (nb + 1)) (C := RNa) (T := TNa) (N := 2) hx hb hW in_Na hown hK.1 hw b0 rfl 0 (by decide) (hW _ lf_Na_9) (fun _ h => h) rfl dNa_becomeProduct_46 ?_
          refine lv_iload (pc := 49) hx hb dNa_becomeProduct_49 (lv_at hl 0 rfl) ?_
          refine fw_laldN (pc := 51) (x := lN (gb (j))) hx hb hK.1 hw 1 b1 rfl (j) (show j < 50 by omega) (by decide) rfl dNa_becomeProduct_51 ?_
          have lg : gb j < nB := bn.1 j (by omega)
          refine lv_lmul (pc := 52) hx hb dNa_becomeProduct_52 ?_
          rw [show ((lN fa * lN (gb (j))) : Int64) = lN (fa * gb j) from (lN_mul _ _)]
          refine lv_aload_n (pc := 53) hx hb dNa_becomeProduct_53 rfl (lv_at hl 5 rfl) ?_
          refine fw_get (pc := 54) (ci := 5) (v := .ref (n + 1)) (C := RNa) (T := TNa) (N := 2) hx hb hW in_Na hown hK.1 hw o0 rfl 0 (by decide) (hW _ lf_Na_9) (fun _ h => h) rfl dNa_becomeProduct_54 ?_
          refine lv_iload (pc := 57) hx hb dNa_becomeProduct_57 (lv_at hl 3 rfl) ?_
          refine lv_iload (pc := 59) hx hb dNa_becomeProduct_59 (lv_at hl 0 rfl) ?_
          refine lv_iadd (pc := 61) hx hb dNa_becomeProduct_61 ?_
          rw [show ((nI i + nI j) : Int32) = nI (i + j) from (nI_add i j)]
          refine fw_laldN (pc := 62) (x := lN (g2 (i + j))) hx hb hK.1 hw 1 h2 rfl (i + j) (show i + j < 50 by omega) (by decide) rfl dNa_becomeProduct_62 ?_
          have lh : g2 (i + j) < nB := hgb _ (by omega)
          refine lv_ladd (pc := 63) hx hb dNa_becomeProduct_63 ?_
          rw [show ((lN (fa * gb j) + lN (g2 (i + j))) : Int64) = lN (fa * gb j + g2 (i + j)) from (lN_add _ _)]
          refine lv_lload (pc := 64) hx hb dNa_becomeProduct_64 (lv_at hl 1 rfl) ?_
          refine lv_ladd (pc := 66) hx hb dNa_becomeProduct_66 ?_
          rw [show ((lN (fa * gb j + g2 (i + j)) + lN cy) : Int64) = lN (fa * gb j + g2 (i + j) + cy) from (lN_add _ _)]
          obtain ⟨sm, hsm⟩ : ∃ sm, sm = fa * gb j + g2 (i + j) + cy := ⟨_, rfl⟩
          rw [show (lN (fa * gb j + g2 (i + j) + cy) : Int64) = lN sm from (by rw [hsm])]
          have hfm : fa * gb j ≤ 4294967295 * 4294967295 := Nat.mul_le_mul (by omega) (by omega)
          have hs64 : sm < 2 ^ 64 := by omega
          refine lv_lstore (pc := 67) (lv' := [(10, .long (lN sm)), (9, .int (nI j)), (7, .long (lN cy)), (5, .long (lN fa)), (4, .int (nI i)), (3, .int (nI kb)), (0, .ref n), (1, .ref na), (2, .ref nb)]) hx hb dNa_becomeProduct_67 hl (by decide) rfl (fun ls hl => ?_)
          refine lv_aload_n (pc := 69) hx hb dNa_becomeProduct_69 rfl (lv_at hl 6 rfl) ?_
          refine fw_get (pc := 70) (ci := 5) (v := .ref (n + 1)) (C := RNa) (T := TNa) (N := 2) hx hb hW in_Na hown hK.1 hw o0 rfl 0 (by decide) (hW _ lf_Na_9) (fun _ h => h) rfl dNa_becomeProduct_70 ?_
          refine lv_iload (pc := 73) hx hb dNa_becomeProduct_73 (lv_at hl 4 rfl) ?_
          refine lv_iload (pc := 75) hx hb dNa_becomeProduct_75 (lv_at hl 1 rfl) ?_
          refine lv_iadd (pc := 77) hx hb dNa_becomeProduct_77 ?_
          rw [show ((nI i + nI j) : Int32) = nI (i + j) from (nI_add i j)]
          refine lv_lload (pc := 78) hx hb dNa_becomeProduct_78 (lv_at hl 0 rfl) ?_
          refine lv_ldc2 (pc := 80) (v := lN 4294967295) hx hb hown (hW _ kl_Na_39) dNa_becomeProduct_80 ?_
          refine lv_land (pc := 83) hx hb dNa_becomeProduct_83 ?_
          rw [show ((lN sm &&& (lN 4294967295)) : Int64) = lN (sm % 4294967296) from (g_mask (s := 32) (p := 4294967296) (by decide) (by decide) hs64)]
          refine fw_lastN (pc := 84) (f2 := fun t => lN (va_up g2 (i + j) (sm % 4294967296) t)) hx hb hK.1 hw 1 h2 rfl (i + j) (show i + j < 50 by omega) (by decide) (lN_up _ _ _) dNa_becomeProduct_84 (fun H locs hw => ?_)
          obtain ⟨w2, e2⟩ : ∃ w_, w_ = fw_up w1 (n + 1) (.inl (cL, 50, .inr (.inl (fun t => lN (va_up g2 (i + j) (sm % 4294967296) t))))) := ⟨_, rfl⟩
          have hw : fw_H D kCl (fw_A w (sz)) s.heap w2 (sz) H locs := by rw [e2]; exact hw
          have o0_ : w2 (n) = some (.inr (5, [.ref (n + 1), .int (nI k)])) := by rw [e2, fw_un (by omega)]; exact o0
          have h2_ : w2 (n + 1) = some (.inl (cL, 50, .inr (.inl (fun t => lN (va_up g2 (i + j) (sm % 4294967296) t))))) := by rw [e2]; exact fw_us _ _ _
          have o0 := o0_
          have h2 := h2_
          refine lv_lload (pc := 85) hx hb dNa_becomeProduct_85 (lv_at hl 0 rfl) ?_
          refine lv_bipush (pc := 87) (v := (nI 32)) hx hb dNa_becomeProduct_87 (by decide) ?_
          refine lv_lushr (pc := 89) (v := lN (sm / 4294967296)) hx hb dNa_becomeProduct_89 (wb_shr (k := 32) hs64 (by decide)) ?_
          refine lv_lstore (pc := 90) (lv' := [(7, .long (lN (sm / 4294967296))), (10, .long (lN sm)), (9, .int (nI j)), (5, .long (lN fa)), (4, .int (nI i)), (3, .int (nI kb)), (0, .ref n), (1, .ref na), (2, .ref nb)]) hx hb dNa_becomeProduct_90 hl (by decide) rfl (fun ls hl => ?_)
          refine lv_iinc (pc := 92) (lv' := [(9, .int (nI (j + 1))), (7, .long (lN (sm / 4294967296))), (10, .long (lN sm)), (5, .long (lN fa)), (4, .int (nI i)), (3, .int (nI kb)), (0, .ref n), (1, .ref na), (2, .ref nb)]) hx hb dNa_becomeProduct_92 hl (k := 2) rfl ((nI_add j 1)) (by decide) rfl (fun ls hl => ?_)
          refine lv_goto (pc := 95) (tgt := 37) hx hb dNa_becomeProduct_95 (by decide) ?_
          refine ih2 (j + 1) (by omega) _ H locs ls (sm / 4294967296) (va_up g2 (i + j) (sm % 4294967296)) hw (lv_sub hl [0, 1, 3, 4, 5, 6, 7, 8] rfl) h2 (fun q hq => by rw [e2, fw_un hq, ho q hq]) (fun j hj => by (unfold va_up; split; omega; exact hg j hj)) (fun t ht => by (unfold va_up; split; exact Nat.mod_lt _ (by decide); exact hgb t (by omega))) (by omega) (fun t ht => by (unfold va_up; rw [if_neg (by omega)]; exact hsame t (by omega))) ?_
          have hc9 := nv_carry (b := nB) hs2 sm
          rw [show i + (j + 1) = i + j + 1 by omega, nv_s nB g1 (i + j), nv_s nB gb j, Nat.mul_add]
          have hp9 : fa * nB ^ i * (gb j * nB ^ j) = fa * gb j * nB ^ (i + j) := by rw [Nat.pow_add]; ac_rfl
          have hm9 : sm * nB ^ (i + j) = fa * gb j * nB ^ (i + j) + g1 (i + j) * nB ^ (i + j) + cy * nB ^ (i + j) := by rw [hsm, Nat.add_mul, Nat.add_mul, hsame _ (Nat.le_refl _)]
          show nv nB (va_up g2 (i + j) (sm % nB)) (i + j + 1) + sm / nB * nB ^ (i + j + 1) = _
          omega
      refine lv_lstore (pc := 29) (lv' := [(5, .long (lN fa)), (4, .int (nI i)), (3, .int (nI kb)), (0, .ref n), (1, .ref na), (2, .ref nb)]) hx hb dNa_becomeProduct_29 hl (by decide) rfl (fun ls hl => ?_)
      refine lv_lconst (pc := 31) (v := lN 0) hx hb dNa_becomeProduct_31 (by decide) ?_
      refine lv_lstore (pc := 32) (lv' := [(7, .long (lN 0)), (5, .long (lN fa)), (4, .int (nI i)), (3, .int (nI kb)), (0, .ref n), (1, .ref na), (2, .ref nb)]) hx hb dNa_becomeProduct_32 hl (by decide) rfl (fun ls hl => ?_)
      refine lv_iconst (pc := 34) (v := (nI 0)) hx hb dNa_becomeProduct_34 (by decide) ?_
      refine lv_istore (pc := 35) (lv' := [(9, .int (nI 0)), (7, .long (lN 0)), (5, .long (lN fa)), (4, .int (nI i)), (3, .int (nI kb)), (0, .ref n), (1, .ref na), (2, .ref nb)]) hx hb dNa_becomeProduct_35 hl (by decide) rfl (fun ls hl => ?_)
      exact inner kb 0 (by omega) w1 H locs ls 0 g1 hw (lv_sub hl [0, 1, 2, 3, 4, 5, 6, 7] rfl) h2 ho hg hgb (by decide) (fun t _ => rfl) (by rw [nv_0, Nat.mul_zero, Nat.zero_mul])
  refine lv_aload_n (pc := 0) hx hb dNa_becomeProduct_0 rfl (lv_at hl 2 rfl) ?_
  refine fw_get (pc := 1) (ci := 5) (v := .int (nI kb)) (C := RNa) (T := TNa) (N := 2) hx hb hW in_Na hown hK.1 hw b0 rfl 1 (by decide) (hW _ lf_Na_15) (fun _ h => h) rfl dNa_becomeProduct_1 ?_
  refine lv_istore_n (pc := 4) (lv' := [(3, .int (nI kb)), (0, .ref n), (1, .ref na), (2, .ref nb)]) hx hb dNa_becomeProduct_4 rfl hl (by decide) rfl (fun ls hl => ?_)
  refine lv_aload_n (pc := 5) hx hb dNa_becomeProduct_5 rfl (lv_at hl 1 rfl) ?_
  refine lv_iload_n (pc := 6) hx hb dNa_becomeProduct_6 rfl (lv_at hl 0 rfl) ?_
  refine fw_cV (pc := 7) (As := [.int (nI kb)]) (rest := []) ⟨hx, hb, hml, hown, hW⟩ (c_Na_clear (k0 := kb) (by omega) o0 o1) (cwV 1 hW (kw_V lm_Na_45 im_Na_clear se_Na_clear ini_Na cd_Na_clear) rfl rfl rfl (by decide +kernel) ⟨Nat.le_of_ble_eq_true rfl, Nat.le_of_ble_eq_true rfl⟩) hK hw o0 rfl rfl hl.1 rfl (Nat.le_of_ble_eq_true rfl) dNa_becomeProduct_7 ⟨Nat.le_of_ble_eq_true rfl, Nat.le_of_ble_eq_true rfl⟩ (fun v w30 H locs hq hw => ?_)
  obtain ⟨rfl, c1, co⟩ := hq
  have b0_ : w30 (nb) = some (.inr (5, [.ref (nb + 1), .int (nI kb)])) := (co _ (by omega)).trans b0
  have o0_ : w30 (n) = some (.inr (5, [.ref (n + 1), .int (nI k)])) := (co _ (by omega)).trans o0
  have b0 := b0_
  have o0 := o0_
  refine W.eq (g2 := F0 m 10 ls []) rfl ?_
  refine lv_iconst (pc := 10) (v := (nI 0)) hx hb dNa_becomeProduct_10 (by decide) ?_
  refine lv_istore (pc := 11) (lv' := [(4, .int (nI 0)), (3, .int (nI kb)), (0, .ref n), (1, .ref na), (2, .ref nb)]) hx hb dNa_becomeProduct_11 hl (by decide) rfl (fun ls hl => ?_)
  have hcl : ∀ j, j < kb → clr g 0 kb j = 0 := fun j hj => if_pos (by omega)
  exact loop ka 0 (by omega) _ H locs ls (clr g 0 kb) hw (lv_sub hl [0, 1, 2, 3, 4] rfl) c1 co (fun j hj => by (unfold clr; split; decide; exact og j hj)) (fun j hj => by rw [hcl j (by omega)]; decide) (by rw [nv_0, Nat.zero_mul, Nat.zero_add]; exact nv_zero hcl)
end NA8
