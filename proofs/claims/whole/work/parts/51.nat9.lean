theorem sr_h {p q a b : Nat} (hp : 0 < p) (hq : 0 < q) (hb : b < p * q) : (a * (p * q) + b) / p % (p * q) = a % p * q + b / p ∧ p * (a % p * q + b / p) + b % p = a % p * (p * q) + b := by
  have h1 : (a * (p * q) + b) / p = a * q + b / p := by
    rw [show a * (p * q) + b = p * (a * q) + b by rw [← Nat.mul_assoc, Nat.mul_comm a p, Nat.mul_assoc], Nat.mul_add_div hp]
  have h2 : a * q = p * q * (a / p) + a % p * q := by
    have h3 := Nat.div_add_mod a p
    calc a * q = (p * (a / p) + a % p) * q := by rw [h3]
      _ = p * q * (a / p) + a % p * q := by rw [Nat.add_mul]; congr 1; rw [Nat.mul_assoc, Nat.mul_assoc, Nat.mul_comm q]
  have h4 : b / p < q := Nat.div_lt_of_lt_mul hb
  have h5 : (a % p + 1) * q ≤ p * q := Nat.mul_le_mul_right q (Nat.mod_lt a hp)
  rw [Nat.add_mul, Nat.one_mul] at h5
  constructor
  · rw [h1, h2, Nat.add_assoc, Nat.mul_add_mod, Nat.mod_eq_of_lt (by omega)]
  · rw [Nat.mul_add, Nat.add_assoc, Nat.div_add_mod]
    congr 1
    rw [← Nat.mul_assoc, ← Nat.mul_assoc, Nat.mul_comm p]
/-! BigCalculator.Natural, ninth part. Written by wip/gen/natural9.py. -/
section NA9
variable {l : Launch} {D : va_G} {cI cL cQ : ClassId} {z : kZ_T} {sz : Nat} {w : fw_W}
set_option maxHeartbeats 4000000 in
set_option maxRecDepth 100000 in
theorem c_Na_shiftRight {n x sh : Nat} (hsh : sh < 32) (hv : isV cL w n x) : fw_C l yNa_shiftRight (Cond.code yNa_shiftRight cNa_shiftRight 5 none :: kWs) ({ frames := 1, cells := 0, slots := 0, locals := 21 } : Room) D kCl (kty cI cL cQ) z [.ref n, .int (nI sh)] (sz) w 0 0 (fun v w' => v = none ∧ isV cL w' n (x / 2 ^ sh) ∧ ∀ q, q ≠ n → q ≠ n + 1 → w' q = w q) := by
  refine fw_ofW (cc := cNa_shiftRight) (maxL := 5) (ret := none) (by decide) rfl (Nat.le_of_ble_eq_true rfl) ?_
  intro p e s m args below meth c hx hb hr hts hown hlocks hname hml hK H ls hw hl
  have hW : ∀ w ∈ kWs, w.before args s = true := fun w h => hts w (List.mem_cons_of_mem _ h)
  have hown : s.vm.findClass RNa = some m.cls := hown
  have hl : lv_has ls 5 [(0, .ref n), (1, .int (nI sh))] := hl
  obtain ⟨g, k, ⟨o0, o1⟩, ok, og, on, ov⟩ := id hv
  obtain ⟨pw, hpw⟩ : ∃ pw, 2 ^ sh = pw := ⟨_, rfl⟩
  obtain ⟨qw, hqw⟩ : ∃ qw, 2 ^ (32 - sh) = qw := ⟨_, rfl⟩
  have hp0 : 0 < pw := by rw [← hpw]; exact Nat.pow_pos (by decide)
  have hq0 : 0 < qw := by rw [← hqw]; exact Nat.pow_pos (by decide)
  have hpq : pw * qw = nB := by rw [← hpw, ← hqw, ← Nat.pow_add, show sh + (32 - sh) = 32 by omega]
  have l3 : nB = 4294967296 := rfl
  have h9 := o0
  have loop : ∀ (d i : Nat), i + d = k → ∀ (w1 : fw_W) (H : Heap) (locs : List Loc) (ls : Array Slot) (g1 : Nat → Nat), fw_H D kCl (fw_A w (sz)) s.heap w1 (sz) H locs → lv_has ls 5 [(2, .int (nI i)), (0, .ref n), (1, .int (nI sh))] → w1 (n + 1) = some (.inl (cL, 50, .inr (.inl (fun i => lN (g1 i))))) → (∀ q, q ≠ n + 1 → w1 q = w q) → (∀ j, j < 50 → g1 j < 2 ^ 64) → (∀ j, j < k → g1 j < nB) → (∀ j, i ≤ j → g1 j = g j) → pw * nv nB g1 i + nl g k 0 % pw = nv nB (nl g k) i + nl g k i % pw * nB ^ i → W p l e ({ frames := 1, cells := 0, slots := 0, locals := 21 } : Room) s m args below meth c H locs 0 0 (MQ below (fw_Q D kCl w (sz) 0 (fun v w' => v = none ∧ isV cL w' n (x / 2 ^ sh) ∧ ∀ q, q ≠ n → q ≠ n + 1 → w' q = w q)) args s 0 0 (fw_A w (sz))) (F0 m 2 ls []) := by
    intro d
    induction d with
    | zero =>
      intro i hid w1 H locs ls g1 hw hl h2 ho hg hgb hsm hs
      have o0 : w1 (n) = some (.inr (5, [.ref (n + 1), .int (nI k)])) := (ho _ (by omega)).trans o0
      refine lv_iload_n (pc := 2) hx hb dNa_shiftRight_2 rfl (lv_at hl 0 rfl) ?_
      refine lv_aload_n (pc := 3) hx hb dNa_shiftRight_3 rfl (lv_at hl 1 rfl) ?_
      refine fw_get (pc := 4) (ci := 5) (v := .int (nI k)) (C := RNa) (T := TNa) (N := 2) hx hb hW in_Na hown hK.1 hw o0 rfl 1 (by decide) (hW _ lf_Na_15) (fun _ h => h) rfl dNa_shiftRight_4 ?_
      refine lv_icmp_ge (pc := 7) (tgt := 47) hx hb dNa_shiftRight_7 (by decide) (fun _ => ?_) (fun hc => absurd (nI_le (show k ≤ i by omega) (by omega)) hc)
      refine lv_aload_n (pc := 47) hx hb dNa_shiftRight_47 rfl (lv_at hl 1 rfl) ?_
      refine lv_aload_n (pc := 48) hx hb dNa_shiftRight_48 rfl (lv_at hl 1 rfl) ?_
      refine fw_get (pc := 49) (ci := 5) (v := .int (nI k)) (C := RNa) (T := TNa) (N := 2) hx hb hW in_Na hown hK.1 hw o0 rfl 1 (by decide) (hW _ lf_Na_15) (fun _ h => h) rfl dNa_shiftRight_49 ?_
      refine fw_cV (pc := 52) (As := [.int (nI k)]) (rest := []) ⟨hx, hb, hml, hown, hW⟩ (c_Na_trim (k := k) (by omega) hg o0 h2) (cwV 1 hW (kw_V lm_Na_41 im_Na_trim se_Na_trim ini_Na cd_Na_trim) rfl rfl rfl (by decide +kernel) ⟨Nat.le_of_ble_eq_true rfl, Nat.le_of_ble_eq_true rfl⟩) hK hw o0 rfl rfl hl.1 rfl (Nat.le_of_ble_eq_true rfl) dNa_shiftRight_52 ⟨Nat.le_of_ble_eq_true rfl, Nat.le_of_ble_eq_true rfl⟩ (fun v w2 H locs hq hw => ?_)
      obtain ⟨rfl, j, hj, hz, hnz, f1, hto⟩ := hq
      refine W.eq (g2 := F0 m 55 ls []) rfl ?_
      obtain rfl : i = k := by omega
      rw [nl_out (g := g) (Nat.le_refl i), Nat.zero_mod, Nat.zero_mul, Nat.add_zero, nv_nl (Nat.le_refl i), ov] at hs
      have hval : nv nB g1 i = x / 2 ^ sh := by rw [hpw, ← hs, Nat.mul_add_div hp0, Nat.div_eq_of_lt (Nat.mod_lt _ hp0), Nat.add_zero]
      exact fw_vret (pc := 55) hx hb hr hlocks hw dNa_shiftRight_55 ⟨rfl, ⟨_, j, ⟨f1, (hto _ (by omega)).trans h2⟩, by omega, hg, ⟨fun q hq => hgb q (by omega), hnz⟩, (nv_cut hj hz).symm.trans hval⟩, fun q h1 h3 => by rw [hto q h1, ho q h3]⟩
    | succ d ih =>
      intro i hid w1 H locs ls g1 hw hl h2 ho hg hgb hsm hs
      have o0 : w1 (n) = some (.inr (5, [.ref (n + 1), .int (nI k)])) := (ho _ (by omega)).trans o0
      refine lv_iload_n (pc := 2) hx hb dNa_shiftRight_2 rfl (lv_at hl 0 rfl) ?_
      refine lv_aload_n (pc := 3) hx hb dNa_shiftRight_3 rfl (lv_at hl 1 rfl) ?_
      refine fw_get (pc := 4) (ci := 5) (v := .int (nI k)) (C := RNa) (T := TNa) (N := 2) hx hb hW in_Na hown hK.1 hw o0 rfl 1 (by decide) (hW _ lf_Na_15) (fun _ h => h) rfl dNa_shiftRight_4 ?_
      refine lv_icmp_ge (pc := 7) (tgt := 47) hx hb dNa_shiftRight_7 (by decide) (fun hc => absurd hc (nI_ge (show i < k by omega) (by omega))) (fun _ => ?_)
      refine lv_aload_n (pc := 10) hx hb dNa_shiftRight_10 rfl (lv_at hl 1 rfl) ?_
      refine lv_iload_n (pc := 11) hx hb dNa_shiftRight_11 rfl (lv_at hl 0 rfl) ?_
      refine lv_iconst (pc := 12) (v := (nI 1)) hx hb dNa_shiftRight_12 (by decide) ?_
      refine lv_iadd (pc := 13) hx hb dNa_shiftRight_13 ?_
      rw [show ((nI i + (nI 1)) : Int32) = nI (i + 1) from (nI_add i 1)]
      refine fw_cVR (pc := 14) (As := [.int (nI (i + 1))]) (rest := []) ⟨hx, hb, hml, hown, hW⟩ (c_Na_limbAt ok (by omega) o0 h2) (cwV 1 hW (kw_V lm_Na_29 im_Na_limbAt se_Na_limbAt ini_Na cd_Na_limbAt) rfl rfl rfl (by decide +kernel) ⟨Nat.le_of_ble_eq_true rfl, Nat.le_of_ble_eq_true rfl⟩) hK hw o0 rfl rfl hl.1 rfl (Nat.le_of_ble_eq_true rfl) dNa_shiftRight_14 ⟨Nat.le_of_ble_eq_true rfl, Nat.le_of_ble_eq_true rfl⟩ (fun v hq => ?_)
      subst hq
      refine W.eq (g2 := F0 m 17 ls [.long (lN (nl g1 k (i + 1)))]) rfl ?_
      have hnl : nl g1 k (i + 1) = nl g k (i + 1) := by (unfold nl; split; exact hsm _ (by omega); rfl)
      obtain ⟨ha, hha⟩ : ∃ ha, ha = nl g k (i + 1) := ⟨_, rfl⟩
      have la : ha < nB := by rw [hha]; exact nl_lt (by decide) on.1
      rw [show (lN (nl g1 k (i + 1)) : Int64) = lN ha from (by rw [hnl, hha])]
      refine lv_bipush (pc := 17) (v := (nI 32)) hx hb dNa_shiftRight_17 (by decide) ?_
      refine lv_lshl (pc := 19) (v := lN (ha * 4294967296)) hx hb dNa_shiftRight_19 (wb_shl ha (k := 32) (by decide)) ?_
      refine lv_aload_n (pc := 20) hx hb dNa_shiftRight_20 rfl (lv_at hl 1 rfl) ?_
      refine fw_get (pc := 21) (ci := 5) (v := .ref (n + 1)) (C := RNa) (T := TNa) (N := 2) hx hb hW in_Na hown hK.1 hw o0 rfl 0 (by decide) (hW _ lf_Na_9) (fun _ h => h) rfl dNa_shiftRight_21 ?_
      refine lv_iload_n (pc := 24) hx hb dNa_shiftRight_24 rfl (lv_at hl 0 rfl) ?_
      refine fw_laldN (pc := 25) (x := lN (g1 (i))) hx hb hK.1 hw 1 h2 rfl (i) (show i < 50 by omega) (by decide) rfl dNa_shiftRight_25 ?_
      have lb : g i < nB := on.1 i (by omega)
      have hgi : nl g k i = g i := nl_in (by omega)
      rw [show (lN (g1 (i)) : Int64) = lN (g i) from (by rw [hsm i (Nat.le_refl i)])]
      refine lv_lor (pc := 26) hx hb dNa_shiftRight_26 ?_
      rw [show ((lN (ha * 4294967296) ||| lN (g i)) : Int64) = lN (ha * 4294967296 + g i) from (g_or (k := 32) (by decide) lb (by omega))]
      refine lv_lstore_n (pc := 27) (lv' := [(3, .long (lN (ha * 4294967296 + g i))), (2, .int (nI i)), (0, .ref n), (1, .int (nI sh))]) hx hb dNa_shiftRight_27 rfl hl (by decide) rfl (fun ls hl => ?_)
      refine lv_aload_n (pc := 28) hx hb dNa_shiftRight_28 rfl (lv_at hl 2 rfl) ?_
      refine fw_get (pc := 29) (ci := 5) (v := .ref (n + 1)) (C := RNa) (T := TNa) (N := 2) hx hb hW in_Na hown hK.1 hw o0 rfl 0 (by decide) (hW _ lf_Na_9) (fun _ h => h) rfl dNa_shiftRight_29 ?_
      refine lv_iload_n (pc := 32) hx hb dNa_shiftRight_32 rfl (lv_at hl 1 rfl) ?_
      refine lv_lload_n (pc := 33) hx hb dNa_shiftRight_33 rfl (lv_at hl 0 rfl) ?_
      refine lv_iload_n (pc := 34) hx hb dNa_shiftRight_34 rfl (lv_at hl 3 rfl) ?_
      have hb64 : ha * 4294967296 + g i < 2 ^ 64 := by omega
      refine lv_lushr (pc := 35) (v := lN ((ha * 4294967296 + g i) / pw)) hx hb dNa_shiftRight_35 (by rw [← hpw]; exact wb_shr (k := sh) hb64 (by omega)) ?_
      have hd64 : (ha * 4294967296 + g i) / pw < 2 ^ 64 := Nat.lt_of_le_of_lt (Nat.div_le_self _ _) hb64
      refine lv_ldc2 (pc := 36) (v := lN 4294967295) hx hb hown (hW _ kl_Na_39) dNa_shiftRight_36 ?_
      refine lv_land (pc := 39) hx hb dNa_shiftRight_39 ?_
      obtain ⟨nw, hnw⟩ : ∃ nw, nw = (ha * nB + g i) / pw % nB := ⟨_, rfl⟩
      rw [show ((lN ((ha * 4294967296 + g i) / pw) &&& (lN 4294967295)) : Int64) = lN nw from (by rw [hnw]; exact g_mask (s := 32) (p := 4294967296) (by decide) (by decide) hd64)]
      have hsr := sr_h (p := pw) (q := qw) (a := ha) (b := g i) hp0 hq0 (by rw [hpq]; exact lb)
      rw [hpq] at hsr
      have hnl2 : nw < nB := by rw [hnw]; exact Nat.mod_lt _ (by decide)
      have hpn : pw * nw + g i % pw = ha % pw * nB + g i := by rw [hnw, hsr.1]; exact hsr.2
      refine fw_lastN (pc := 40) (f2 := fun j => lN (va_up g1 i nw j)) hx hb hK.1 hw 1 h2 rfl (i) (show i < 50 by omega) (by decide) (lN_up _ _ _) dNa_shiftRight_40 (fun H locs hw => ?_)
      obtain ⟨w2, e2⟩ : ∃ w_, w_ = fw_up w1 (n + 1) (.inl (cL, 50, .inr (.inl (fun j => lN (va_up g1 i nw j))))) := ⟨_, rfl⟩
      have hw : fw_H D kCl (fw_A w (sz)) s.heap w2 (sz) H locs := by rw [e2]; exact hw
      have o0_ : w2 (n) = some (.inr (5, [.ref (n + 1), .int (nI k)])) := by rw [e2, fw_un (by omega)]; exact o0
      have h2_ : w2 (n + 1) = some (.inl (cL, 50, .inr (.inl (fun j => lN (va_up g1 i nw j))))) := by rw [e2]; exact fw_us _ _ _
      have o0 := o0_
      have h2 := h2_
      refine lv_iinc (pc := 41) (lv' := [(2, .int (nI (i + 1))), (3, .long (lN (ha * 4294967296 + g i))), (0, .ref n), (1, .int (nI sh))]) hx hb dNa_shiftRight_41 hl (k := 1) rfl ((nI_add i 1)) (by decide) rfl (fun ls hl => ?_)
      refine lv_goto (pc := 44) (tgt := 2) hx hb dNa_shiftRight_44 (by decide) ?_
      refine ih (i + 1) (by omega) _ H locs ls (va_up g1 i nw) hw (lv_sub hl [0, 2, 3] rfl) h2 (fun q hq => by rw [e2, fw_un hq, ho q hq]) (fun j hj => by (unfold va_up; split; omega; exact hg j hj)) (fun j hj => by (unfold va_up; split; exact hnl2; exact hgb j hj)) (fun j hj => by (unfold va_up; rw [if_neg (by omega)]; exact hsm j (by omega))) ?_
      rw [nv_more rfl, nv_s nB (nl g k) i, ← hha, hgi, Nat.mul_add, Nat.pow_succ]
      rw [hgi] at hs
      have hm9 : pw * (nw * nB ^ i) + g i % pw * nB ^ i = ha % pw * (nB ^ i * nB) + g i * nB ^ i := by rw [← Nat.mul_assoc, ← Nat.add_mul, hpn, Nat.add_mul, Nat.mul_assoc (ha % pw), Nat.mul_comm nB]
      omega
  refine lv_iconst (pc := 0) (v := (nI 0)) hx hb dNa_shiftRight_0 (by decide) ?_
  refine lv_istore_n (pc := 1) (lv' := [(2, .int (nI 0)), (0, .ref n), (1, .int (nI sh))]) hx hb dNa_shiftRight_1 rfl hl (by decide) rfl (fun ls hl => ?_)
  exact loop k 0 (by omega) w H [] ls g hw hl o1 (fun q _ => rfl) og on.1 (fun j _ => rfl) (by rw [nv_0, nv_0]; simp)
end NA9
