/-! BigCalculator.Natural, fifth part. Written by wip/gen/natural5.py. -/
section NA5
variable {l : Launch} {D : va_G} {cI cL cQ : ClassId} {z : kZ_T} {sz : Nat} {w : fw_W}
set_option maxHeartbeats 4000000 in
set_option maxRecDepth 100000 in
theorem c_Na_becomeShiftedLeft {n na y0 ka sh : Nat} {ga : Nat → Nat} (hpa : na + 1 < n ∨ n + 1 < na) (hv : isV cL w n y0) (hna : isN cL w na ga ka) (lka : ka ≤ 49) (gal : ∀ i, i < ka → ga i < nB) (hsh : sh < 32) : fw_C l yNa_becomeShiftedLeft (Cond.code yNa_becomeShiftedLeft cNa_becomeShiftedLeft 9 none :: kWs) ({ frames := 0, cells := 0, slots := 0, locals := 0 } : Room) D kCl (kty cI cL cQ) z [.ref n, .ref na, .int (nI sh)] (sz) w 0 0 (fun v w' => v = none ∧ (∃ g', isN cL w' n g' (ka + 1) ∧ (∀ j, j < 50 → g' j < 2 ^ 64) ∧ (∀ j, j < ka + 1 → g' j < nB) ∧ nv nB g' (ka + 1) = nv nB ga ka * 2 ^ sh) ∧ ∀ q, q ≠ n → q ≠ n + 1 → w' q = w q) := by
  refine fw_ofW (cc := cNa_becomeShiftedLeft) (maxL := 9) (ret := none) (by decide) rfl (Nat.le_of_ble_eq_true rfl) ?_
  intro p e s m args below meth c hx hb hr hts hown hlocks hname hml hK H ls hw hl
  have hW : ∀ w ∈ kWs, w.before args s = true := fun w h => hts w (List.mem_cons_of_mem _ h)
  have hown : s.vm.findClass RNa = some m.cls := hown
  have hl : lv_has ls 9 [(0, .ref n), (1, .ref na), (2, .int (nI sh))] := hl
  obtain ⟨g, k, ⟨o0, o1⟩, ok, og, on, ov⟩ := id hv
  obtain ⟨a0, a1⟩ := id hna
  obtain ⟨pw, hpw⟩ : ∃ pw, 2 ^ sh = pw := ⟨_, rfl⟩
  have hp1 : pw ≤ 2147483648 := by rw [← hpw]; exact Nat.pow_le_pow_right (n := 2) (i := sh) (j := 31) (by decide) (by omega)
  have hp0 : 0 < pw := by rw [← hpw]; exact Nat.pow_pos (by decide)
  have loop : ∀ (d i : Nat), i + d = ka → ∀ (w1 : fw_W) (H : Heap) (locs : List Loc) (ls : Array Slot) (cy : Nat) (g1 : Nat → Nat), fw_H D kCl (fw_A w (sz)) s.heap w1 (sz) H locs → lv_has ls 9 [(6, .int (nI i)), (4, .long (lN cy)), (3, .int (nI ka)), (0, .ref n), (1, .ref na), (2, .int (nI sh))] → w1 (n + 1) = some (.inl (cL, 50, .inr (.inl (fun i => lN (g1 i))))) → (∀ q, q ≠ n + 1 → w1 q = w q) → (∀ j, j < 50 → g1 j < 2 ^ 64) → (∀ j, j < i → g1 j < nB) → cy < pw → nv nB g1 i + cy * nB ^ i = nv nB ga i * pw → W p l e ({ frames := 0, cells := 0, slots := 0, locals := 0 } : Room) s m args below meth c H locs 0 0 (MQ below (fw_Q D kCl w (sz) 0 (fun v w' => v = none ∧ (∃ g', isN cL w' n g' (ka + 1) ∧ (∀ j, j < 50 → g' j < 2 ^ 64) ∧ (∀ j, j < ka + 1 → g' j < nB) ∧ nv nB g' (ka + 1) = nv nB ga ka * 2 ^ sh) ∧ ∀ q, q ≠ n → q ≠ n + 1 → w' q = w q)) args s 0 0 (fw_A w (sz))) (F0 m 11 ls []) := by
    intro d
    induction d with
    | zero =>
      intro i hid w1 H locs ls cy g1 hw hl h2 ho hg hgb hcy hs
      have o0 : w1 n = some (.inr (5, [.ref (n + 1), .int (nI k)])) := (ho _ (by omega)).trans o0
      have a0 : w1 na = some (.inr (5, [.ref (na + 1), .int (nI ka)])) := (ho _ (by omega)).trans a0
      have a1 : w1 (na + 1) = some (.inl (cL, 50, .inr (.inl (fun i => lN (ga i))))) := (ho _ (by omega)).trans a1
      obtain rfl : i = ka := by omega
      refine lv_iload (pc := 11) hx hb dNa_becomeShiftedLeft_11 (lv_at hl 0 rfl) ?_
      refine lv_iload_n (pc := 13) hx hb dNa_becomeShiftedLeft_13 rfl (lv_at hl 2 rfl) ?_
      refine lv_icmp_ge (pc := 14) (tgt := 57) hx hb dNa_becomeShiftedLeft_14 (by decide) (fun _ => ?_) (fun hc => absurd (nI_le (Nat.le_refl i) (by omega)) hc)
      refine lv_aload_n (pc := 57) hx hb dNa_becomeShiftedLeft_57 rfl (lv_at hl 3 rfl) ?_
      refine fw_get (pc := 58) (ci := 5) (v := .ref (n + 1)) (C := RNa) (T := TNa) (N := 2) hx hb hW in_Na hown hK.1 hw o0 rfl 0 (by decide) (hW _ lf_Na_9) (fun _ h => h) rfl dNa_becomeShiftedLeft_58 ?_
      refine lv_iload_n (pc := 61) hx hb dNa_becomeShiftedLeft_61 rfl (lv_at hl 2 rfl) ?_
      refine lv_lload (pc := 62) hx hb dNa_becomeShiftedLeft_62 (lv_at hl 1 rfl) ?_
      refine fw_lastN (pc := 64) (f2 := fun j => lN (va_up g1 i cy j)) hx hb hK.1 hw 1 h2 rfl (i) (show i < 50 by omega) (by decide) (lN_up _ _ _) dNa_becomeShiftedLeft_64 (fun H locs hw => ?_)
      obtain ⟨w2, e2⟩ : ∃ w_, w_ = fw_up w1 (n + 1) (.inl (cL, 50, .inr (.inl (fun j => lN (va_up g1 i cy j))))) := ⟨_, rfl⟩
      have hw : fw_H D kCl (fw_A w (sz)) s.heap w2 (sz) H locs := by rw [e2]; exact hw
      have o0_ : w2 (n) = some (.inr (5, [.ref (n + 1), .int (nI k)])) := by rw [e2, fw_un (by omega)]; exact o0
      have h2_ : w2 (n + 1) = some (.inl (cL, 50, .inr (.inl (fun j => lN (va_up g1 i cy j))))) := by rw [e2]; exact fw_us _ _ _
      have o0 := o0_
      have h2 := h2_
      refine lv_aload_n (pc := 65) hx hb dNa_becomeShiftedLeft_65 rfl (lv_at hl 3 rfl) ?_
      refine lv_iload_n (pc := 66) hx hb dNa_becomeShiftedLeft_66 rfl (lv_at hl 2 rfl) ?_
      refine lv_iconst (pc := 67) (v := (nI 1)) hx hb dNa_becomeShiftedLeft_67 (by decide) ?_
      refine lv_iadd (pc := 68) hx hb dNa_becomeShiftedLeft_68 ?_
      rw [show ((nI i + (nI 1)) : Int32) = nI (i + 1) from (nI_add i 1)]
      refine fw_put (pc := 69) (ci := 5) (v := .int (nI (i + 1))) (ty := .int) (C := RNa) (T := TNa) (N := 2) hx hb hW in_Na tyNa tyNa_ok nmNa hown hK.1 hw o0 rfl 1 (by decide) (hW _ lf_Na_15) (fun _ h => h) rfl (by decide +kernel) rfl rfl (Nat.le_of_ble_eq_true rfl) dNa_becomeShiftedLeft_69 (fun H locs hw => ?_)
      obtain ⟨w3, e3⟩ : ∃ w_, w_ = fw_up w2 (n) (.inr (5, [.ref (n + 1), .int (nI (i + 1))])) := ⟨_, rfl⟩
      have hw : fw_H D kCl (fw_A w (sz)) s.heap w3 (sz) H locs := by rw [e3]; exact hw
      have h2_ : w3 (n + 1) = some (.inl (cL, 50, .inr (.inl (fun j => lN (va_up g1 i cy j))))) := by rw [e3, fw_un (by omega)]; exact h2
      have o0_ : w3 (n) = some (.inr (5, [.ref (n + 1), .int (nI (i + 1))])) := by rw [e3]; exact fw_us _ _ _
      have o0 := o0_
      have h2 := h2_
      exact fw_vret (pc := 72) hx hb hr hlocks hw dNa_becomeShiftedLeft_72 ⟨rfl, ⟨va_up g1 i cy, ⟨o0, h2⟩, fun j hj => by (unfold va_up; split; omega; exact hg j hj), fun j hj => by (unfold va_up; split; exact Nat.lt_of_lt_of_le hcy (Nat.le_trans hp1 (by decide)); exact hgb j (by omega)), by rw [nv_more rfl, hs, hpw]⟩, fun q h1 h3 => by rw [e3, fw_un h1, e2, fw_un h3, ho q h3]⟩
    | succ d ih =>
      intro i hid w1 H locs ls cy g1 hw hl h2 ho hg hgb hcy hs
      have o0 : w1 n = some (.inr (5, [.ref (n + 1), .int (nI k)])) := (ho _ (by omega)).trans o0
      have a0 : w1 na = some (.inr (5, [.ref (na + 1), .int (nI ka)])) := (ho _ (by omega)).trans a0
      have a1 : w1 (na + 1) = some (.inl (cL, 50, .inr (.inl (fun i => lN (ga i))))) := (ho _ (by omega)).trans a1
      refine lv_iload (pc := 11) hx hb dNa_becomeShiftedLeft_11 (lv_at hl 0 rfl) ?_
      refine lv_iload_n (pc := 13) hx hb dNa_becomeShiftedLeft_13 rfl (lv_at hl 2 rfl) ?_
      refine lv_icmp_ge (pc := 14) (tgt := 57) hx hb dNa_becomeShiftedLeft_14 (by decide) (fun hc => absurd hc (nI_ge (show i < ka by omega) (by omega))) (fun _ => ?_)
      refine lv_aload_n (pc := 17) hx hb dNa_becomeShiftedLeft_17 rfl (lv_at hl 4 rfl) ?_
      refine fw_get (pc := 18) (ci := 5) (v := .ref (na + 1)) (C := RNa) (T := TNa) (N := 2) hx hb hW in_Na hown hK.1 hw a0 rfl 0 (by decide) (hW _ lf_Na_9) (fun _ h => h) rfl dNa_becomeShiftedLeft_18 ?_
      refine lv_iload (pc := 21) hx hb dNa_becomeShiftedLeft_21 (lv_at hl 0 rfl) ?_
      refine fw_laldN (pc := 23) (x := lN (ga (i))) hx hb hK.1 hw 1 a1 rfl (i) (show i < 50 by omega) (by decide) rfl dNa_becomeShiftedLeft_23 ?_
      refine lv_iload_n (pc := 24) hx hb dNa_becomeShiftedLeft_24 rfl (lv_at hl 5 rfl) ?_
      have l1 : ga i < nB := gal i (by omega)
      have l3 : nB = 4294967296 := rfl
      have hmul : ga i * pw ≤ 4294967295 * pw := Nat.mul_le_mul_right pw (by omega)
      refine lv_lshl (pc := 25) (v := lN (ga i * pw)) hx hb dNa_becomeShiftedLeft_25 (by rw [← hpw]; exact wb_shl (ga i) (k := sh) (by omega)) ?_
      refine lv_lload (pc := 26) hx hb dNa_becomeShiftedLeft_26 (lv_at hl 1 rfl) ?_
      refine lv_lor (pc := 28) hx hb dNa_becomeShiftedLeft_28 ?_
      rw [show ((lN (ga i * pw) ||| lN cy) : Int64) = lN (ga i * pw + cy) from (g_or (k := sh) hpw hcy (by omega))]
      obtain ⟨sm, hsm⟩ : ∃ sm, sm = ga i * pw + cy := ⟨_, rfl⟩
      rw [show (lN (ga i * pw + cy) : Int64) = lN sm from (by rw [hsm])]
      have hs64 : sm < 2 ^ 64 := by omega
      refine lv_lstore (pc := 29) (lv' := [(7, .long (lN sm)), (6, .int (nI i)), (4, .long (lN cy)), (3, .int (nI ka)), (0, .ref n), (1, .ref na), (2, .int (nI sh))]) hx hb dNa_becomeShiftedLeft_29 hl (by decide) rfl (fun ls hl => ?_)
      refine lv_aload_n (pc := 31) hx hb dNa_becomeShiftedLeft_31 rfl (lv_at hl 4 rfl) ?_
      refine fw_get (pc := 32) (ci := 5) (v := .ref (n + 1)) (C := RNa) (T := TNa) (N := 2) hx hb hW in_Na hown hK.1 hw o0 rfl 0 (by decide) (hW _ lf_Na_9) (fun _ h => h) rfl dNa_becomeShiftedLeft_32 ?_
      refine lv_iload (pc := 35) hx hb dNa_becomeShiftedLeft_35 (lv_at hl 1 rfl) ?_
      refine lv_lload (pc := 37) hx hb dNa_becomeShiftedLeft_37 (lv_at hl 0 rfl) ?_
      refine lv_ldc2 (pc := 39) (v := lN 4294967295) hx hb hown (hW _ kl_Na_39) dNa_becomeShiftedLeft_39 ?_
      refine lv_land (pc := 42) hx hb dNa_becomeShiftedLeft_42 ?_
      rw [show ((lN sm &&& (lN 4294967295)) : Int64) = lN (sm % 4294967296) from (g_mask (s := 32) (p := 4294967296) (by decide) (by decide) hs64)]
      refine fw_lastN (pc := 43) (f2 := fun j => lN (va_up g1 i (sm % 4294967296) j)) hx hb hK.1 hw 1 h2 rfl (i) (show i < 50 by omega) (by decide) (lN_up _ _ _) dNa_becomeShiftedLeft_43 (fun H locs hw => ?_)
      obtain ⟨w2, e2⟩ : ∃ w_, w_ = fw_up w1 (n + 1) (.inl (cL, 50, .inr (.inl (fun j => lN (va_up g1 i (sm % 4294967296) j))))) := ⟨_, rfl⟩
      have hw : fw_H D kCl (fw_A w (sz)) s.heap w2 (sz) H locs := by rw [e2]; exact hw
      have o0_ : w2 (n) = some (.inr (5, [.ref (n + 1), .int (nI k)])) := by rw [e2, fw_un (by omega)]; exact o0
      have h2_ : w2 (n + 1) = some (.inl (cL, 50, .inr (.inl (fun j => lN (va_up g1 i (sm % 4294967296) j))))) := by rw [e2]; exact fw_us _ _ _
      have o0 := o0_
      have h2 := h2_
      refine lv_lload (pc := 44) hx hb dNa_becomeShiftedLeft_44 (lv_at hl 0 rfl) ?_
      refine lv_bipush (pc := 46) (v := (nI 32)) hx hb dNa_becomeShiftedLeft_46 (by decide) ?_
      refine lv_lushr (pc := 48) (v := lN (sm / 4294967296)) hx hb dNa_becomeShiftedLeft_48 (wb_shr (k := 32) hs64 (by decide)) ?_
      refine lv_lstore (pc := 49) (lv' := [(4, .long (lN (sm / 4294967296))), (7, .long (lN sm)), (6, .int (nI i)), (3, .int (nI ka)), (0, .ref n), (1, .ref na), (2, .int (nI sh))]) hx hb dNa_becomeShiftedLeft_49 hl (by decide) rfl (fun ls hl => ?_)
      refine lv_iinc (pc := 51) (lv' := [(6, .int (nI (i + 1))), (4, .long (lN (sm / 4294967296))), (7, .long (lN sm)), (3, .int (nI ka)), (0, .ref n), (1, .ref na), (2, .int (nI sh))]) hx hb dNa_becomeShiftedLeft_51 hl (k := 2) rfl ((nI_add i 1)) (by decide) rfl (fun ls hl => ?_)
      refine lv_goto (pc := 54) (tgt := 11) hx hb dNa_becomeShiftedLeft_54 (by decide) ?_
      refine ih (i + 1) (by omega) _ H locs ls (sm / 4294967296) (va_up g1 i (sm % 4294967296)) hw (lv_sub hl [0, 1, 3, 4, 5, 6] rfl) h2 (fun q hq => by rw [e2, fw_un hq, ho q hq]) (fun j hj => by (unfold va_up; split; omega; exact hg j hj)) (fun j hj => by (unfold va_up; split; exact Nat.mod_lt _ (by decide); exact hgb j (by omega))) (by omega) ?_
      have hc9 := nv_carry (b := nB) hs sm
      rw [nv_s nB ga i, Nat.add_mul]
      have hm9 : sm * nB ^ i = ga i * nB ^ i * pw + cy * nB ^ i := by rw [hsm, Nat.add_mul, Nat.mul_right_comm]
      show nv nB (va_up g1 i (sm % nB)) (i + 1) + sm / nB * nB ^ (i + 1) = _
      omega
  refine lv_aload_n (pc := 0) hx hb dNa_becomeShiftedLeft_0 rfl (lv_at hl 1 rfl) ?_
  refine fw_get (pc := 1) (ci := 5) (v := .int (nI ka)) (C := RNa) (T := TNa) (N := 2) hx hb hW in_Na hown hK.1 hw a0 rfl 1 (by decide) (hW _ lf_Na_15) (fun _ h => h) rfl dNa_becomeShiftedLeft_1 ?_
  refine lv_istore_n (pc := 4) (lv' := [(3, .int (nI ka)), (0, .ref n), (1, .ref na), (2, .int (nI sh))]) hx hb dNa_becomeShiftedLeft_4 rfl hl (by decide) rfl (fun ls hl => ?_)
  refine lv_lconst (pc := 5) (v := lN 0) hx hb dNa_becomeShiftedLeft_5 (by decide) ?_
  refine lv_lstore (pc := 6) (lv' := [(4, .long (lN 0)), (3, .int (nI ka)), (0, .ref n), (1, .ref na), (2, .int (nI sh))]) hx hb dNa_becomeShiftedLeft_6 hl (by decide) rfl (fun ls hl => ?_)
  refine lv_iconst (pc := 8) (v := (nI 0)) hx hb dNa_becomeShiftedLeft_8 (by decide) ?_
  refine lv_istore (pc := 9) (lv' := [(6, .int (nI 0)), (4, .long (lN 0)), (3, .int (nI ka)), (0, .ref n), (1, .ref na), (2, .int (nI sh))]) hx hb dNa_becomeShiftedLeft_9 hl (by decide) rfl (fun ls hl => ?_)
  exact loop ka 0 (by omega) w H [] ls 0 g hw (lv_sub hl [0, 1, 2, 3, 4, 5] rfl) o1 (fun q _ => rfl) og (fun j hj => absurd hj (by omega)) hp0 (by rw [nv_0, nv_0]; simp)
end NA5
