/-! The reference's methods, second part. Written by wip/gen/model2.py. -/
section MO2
variable {l : Launch} {D : va_G} {cI cL cQ : ClassId} {z : kZ_T} {sz : Nat} {w : fw_W}
set_option maxHeartbeats 4000000 in
set_option maxRecDepth 100000 in
theorem c_Mo_clear {b : Nat} {I : Nat → Nat} {K : Nat → Nat → Nat} {S : Nat → Int32} {C : Nat → Nat} (hS : moS cI cL w b I K S C) {p0 : Nat} (hp : p0 < 24) : fw_C l yMo_clear (Cond.code yMo_clear cMo_clear 3 none :: kWs) ({ frames := 0, cells := 0, slots := 0, locals := 0 } : Room) D kCl (kty cI cL cQ) z [.ref b, .int (nI p0)] (sz) w 0 0 (fun v w' => v = none ∧ moS cI cL w' b I K (va_up S p0 (nI 0)) (clr C p0 64) ∧ ∀ q, q ≠ b + 1 → q ≠ b + 2 → w' q = w q) := by
  refine fw_ofW (cc := cMo_clear) (maxL := 3) (ret := none) (by decide) rfl (Nat.le_of_ble_eq_true rfl) ?_
  intro p e s m args below meth c hx hb hr hts hown hlocks hname hml hK H ls hw hl
  have hW : ∀ w ∈ kWs, w.before args s = true := fun w h => hts w (List.mem_cons_of_mem _ h)
  have hown : s.vm.findClass RMo = some m.cls := hown
  have hl : lv_has ls 3 [(0, .ref b), (1, .int (nI p0))] := hl
  have b0 : w b = some (.inr (10, [.int (nI (I 0)), .ref (b + 1), .ref (b + 2), .int (nI (I 3)), .ref (b + 3), .ref (b + 4), .int (nI (I 6)), .int (nI (I 7)), .ref (b + 5), .ref (b + 6), .int (nI (I 10)), .int (nI (I 11)), .int (nI (I 12)), .int (nI (I 13)), .ref (b + 7), .ref (b + 8), .int (nI (I 16)), .int (nI (I 17)), .int (nI (I 18)), .int (nI (I 19))])) := hS.1
  have ce : w (b + 1) = some (.inl (cL, 1536, .inr (.inl (fun i => lN (C i))))) := hS.2.1
  have sn : w (b + 2) = some (.inl (cI, 24, .inl (S))) := hS.2.2.1
  have loop : ∀ (d k : Nat), k + d = 64 → ∀ (w1 : fw_W) (H : Heap) (locs : List Loc) (ls : Array Slot), fw_H D kCl (fw_A w (sz)) s.heap w1 (sz) H locs → lv_has ls 3 [(2, .int (nI k)), (0, .ref b), (1, .int (nI p0))] → w1 (b + 1) = some (.inl (cL, 1536, .inr (.inl (fun i => lN (clr C p0 k i))))) → (∀ q, q ≠ b + 1 → w1 q = w q) → W p l e ({ frames := 0, cells := 0, slots := 0, locals := 0 } : Room) s m args below meth c H locs 0 0 (MQ below (fw_Q D kCl w (sz) 0 (fun v w' => v = none ∧ moS cI cL w' b I K (va_up S p0 (nI 0)) (clr C p0 64) ∧ ∀ q, q ≠ b + 1 → q ≠ b + 2 → w' q = w q)) args s 0 0 (fw_A w (sz))) (F0 m 2 ls []) := by
    intro d
    induction d with
    | zero =>
      intro k hkd w1 H locs ls hw hl ce ho
      have b0 : w1 b = some (.inr (10, [.int (nI (I 0)), .ref (b + 1), .ref (b + 2), .int (nI (I 3)), .ref (b + 3), .ref (b + 4), .int (nI (I 6)), .int (nI (I 7)), .ref (b + 5), .ref (b + 6), .int (nI (I 10)), .int (nI (I 11)), .int (nI (I 12)), .int (nI (I 13)), .ref (b + 7), .ref (b + 8), .int (nI (I 16)), .int (nI (I 17)), .int (nI (I 18)), .int (nI (I 19))])) := (ho _ (by omega)).trans b0
      have sn : w1 (b + 2) = some (.inl (cI, 24, .inl (S))) := (ho _ (by omega)).trans sn
      obtain rfl : k = 64 := by omega
      refine lv_iload_n (pc := 2) hx hb dMo_clear_2 rfl (lv_at hl 0 rfl) ?_
      refine lv_bipush (pc := 3) (v := (nI 64)) hx hb dMo_clear_3 (by decide) ?_
      refine lv_icmp_ge (pc := 5) (tgt := 26) hx hb dMo_clear_5 (by decide) (fun _ => ?_) (fun hc => absurd (show nI 64 ≤ nI 64 by decide) hc)
      refine lv_aload_n (pc := 26) hx hb dMo_clear_26 rfl (lv_at hl 1 rfl) ?_
      refine fw_get (pc := 27) (ci := 10) (v := .ref (b + 2)) (C := RMo) (T := TMo) (N := 20) hx hb hW in_Mo hown hK.1 hw b0 rfl 2 (by decide) (hW _ lf_Mo_13) (fun _ h => h) rfl dMo_clear_27 ?_
      refine lv_iload_n (pc := 30) hx hb dMo_clear_30 rfl (lv_at hl 2 rfl) ?_
      refine lv_iconst (pc := 31) (v := (nI 0)) hx hb dMo_clear_31 (by decide) ?_
      refine fw_iastN (pc := 32) (f2 := va_up S p0 (nI 0)) hx hb hK.1 hw 0 sn rfl (p0) hp (by decide) (rfl) dMo_clear_32 (fun H locs hw => ?_)
      obtain ⟨w2, e2⟩ : ∃ w_, w_ = fw_up w1 (b + 2) (.inl (cI, 24, .inl (va_up S p0 (nI 0)))) := ⟨_, rfl⟩
      have hw : fw_H D kCl (fw_A w (sz)) s.heap w2 (sz) H locs := by rw [e2]; exact hw
      have b0_ : w2 (b) = some (.inr (10, [.int (nI (I 0)), .ref (b + 1), .ref (b + 2), .int (nI (I 3)), .ref (b + 3), .ref (b + 4), .int (nI (I 6)), .int (nI (I 7)), .ref (b + 5), .ref (b + 6), .int (nI (I 10)), .int (nI (I 11)), .int (nI (I 12)), .int (nI (I 13)), .ref (b + 7), .ref (b + 8), .int (nI (I 16)), .int (nI (I 17)), .int (nI (I 18)), .int (nI (I 19))])) := by rw [e2, fw_un (by omega)]; exact b0
      have ce_ : w2 (b + 1) = some (.inl (cL, 1536, .inr (.inl (fun i => lN (clr C p0 64 i))))) := by rw [e2, fw_un (by omega)]; exact ce
      have sn_ : w2 (b + 2) = some (.inl (cI, 24, .inl (va_up S p0 (nI 0)))) := by rw [e2]; exact fw_us _ _ _
      have b0 := b0_
      have ce := ce_
      have sn := sn_
      exact fw_vret (pc := 33) hx hb hr hlocks hw dMo_clear_33 ⟨rfl, moS.cs hS ce sn (fun q h1 h2 => by rw [e2, fw_un h2, ho q h1]), fun q h1 h2 => by rw [e2, fw_un h2, ho q h1]⟩
    | succ d ih =>
      intro k hkd w1 H locs ls hw hl ce ho
      have b0 : w1 b = some (.inr (10, [.int (nI (I 0)), .ref (b + 1), .ref (b + 2), .int (nI (I 3)), .ref (b + 3), .ref (b + 4), .int (nI (I 6)), .int (nI (I 7)), .ref (b + 5), .ref (b + 6), .int (nI (I 10)), .int (nI (I 11)), .int (nI (I 12)), .int (nI (I 13)), .ref (b + 7), .ref (b + 8), .int (nI (I 16)), .int (nI (I 17)), .int (nI (I 18)), .int (nI (I 19))])) := (ho _ (by omega)).trans b0
      have sn : w1 (b + 2) = some (.inl (cI, 24, .inl (S))) := (ho _ (by omega)).trans sn
      refine lv_iload_n (pc := 2) hx hb dMo_clear_2 rfl (lv_at hl 0 rfl) ?_
      refine lv_bipush (pc := 3) (v := (nI 64)) hx hb dMo_clear_3 (by decide) ?_
      refine lv_icmp_ge (pc := 5) (tgt := 26) hx hb dMo_clear_5 (by decide) (fun hc => absurd hc (nI_ge (b := 64) (show k < 64 by omega) (by decide))) (fun _ => ?_)
      refine lv_aload_n (pc := 8) hx hb dMo_clear_8 rfl (lv_at hl 1 rfl) ?_
      refine fw_get (pc := 9) (ci := 10) (v := .ref (b + 1)) (C := RMo) (T := TMo) (N := 20) hx hb hW in_Mo hown hK.1 hw b0 rfl 1 (by decide) (hW _ lf_Mo_7) (fun _ h => h) rfl dMo_clear_9 ?_
      refine lv_bipush (pc := 12) (v := (nI 64)) hx hb dMo_clear_12 (by decide) ?_
      refine lv_iload_n (pc := 14) hx hb dMo_clear_14 rfl (lv_at hl 2 rfl) ?_
      refine lv_imul (pc := 15) hx hb dMo_clear_15 ?_
      rw [show (((nI 64) * nI p0) : Int32) = nI (64 * p0) from (nI_mul 64 p0)]
      refine lv_iload_n (pc := 16) hx hb dMo_clear_16 rfl (lv_at hl 0 rfl) ?_
      refine lv_iadd (pc := 17) hx hb dMo_clear_17 ?_
      rw [show ((nI (64 * p0) + nI k) : Int32) = nI (64 * p0 + k) from (nI_add (64 * p0) k)]
      refine lv_lconst (pc := 18) (v := lN 0) hx hb dMo_clear_18 (by decide) ?_
      refine fw_lastN (pc := 19) (f2 := fun i => lN (clr C p0 (k + 1) i)) hx hb hK.1 hw 1 ce rfl (64 * p0 + k) (show 64 * p0 + k < 1536 by omega) (by decide) (clr_up _ _ _) dMo_clear_19 (fun H locs hw => ?_)
      obtain ⟨w2, e2⟩ : ∃ w_, w_ = fw_up w1 (b + 1) (.inl (cL, 1536, .inr (.inl (fun i => lN (clr C p0 (k + 1) i))))) := ⟨_, rfl⟩
      have hw : fw_H D kCl (fw_A w (sz)) s.heap w2 (sz) H locs := by rw [e2]; exact hw
      have b0_ : w2 (b) = some (.inr (10, [.int (nI (I 0)), .ref (b + 1), .ref (b + 2), .int (nI (I 3)), .ref (b + 3), .ref (b + 4), .int (nI (I 6)), .int (nI (I 7)), .ref (b + 5), .ref (b + 6), .int (nI (I 10)), .int (nI (I 11)), .int (nI (I 12)), .int (nI (I 13)), .ref (b + 7), .ref (b + 8), .int (nI (I 16)), .int (nI (I 17)), .int (nI (I 18)), .int (nI (I 19))])) := by rw [e2, fw_un (by omega)]; exact b0
      have sn_ : w2 (b + 2) = some (.inl (cI, 24, .inl (S))) := by rw [e2, fw_un (by omega)]; exact sn
      have ce_ : w2 (b + 1) = some (.inl (cL, 1536, .inr (.inl (fun i => lN (clr C p0 (k + 1) i))))) := by rw [e2]; exact fw_us _ _ _
      have b0 := b0_
      have ce := ce_
      have sn := sn_
      refine lv_iinc (pc := 20) (lv' := [(2, .int (nI (k + 1))), (0, .ref b), (1, .int (nI p0))]) hx hb dMo_clear_20 hl (k := 0) rfl ((nI_add k 1)) (by decide) rfl (fun ls hl => ?_)
      refine lv_goto (pc := 23) (tgt := 2) hx hb dMo_clear_23 (by decide) ?_
      exact ih (k + 1) (by omega) _ H locs ls hw hl ce (fun q hq => by rw [e2, fw_un hq, ho q hq])
  refine lv_iconst (pc := 0) (v := (nI 0)) hx hb dMo_clear_0 (by decide) ?_
  refine lv_istore_n (pc := 1) (lv' := [(2, .int (nI 0)), (0, .ref b), (1, .int (nI p0))]) hx hb dMo_clear_1 rfl hl (by decide) rfl (fun ls hl => ?_)
  exact loop 64 0 (by omega) w H [] ls hw hl (by rw [clr_0]; exact ce) (fun q _ => rfl)

set_option maxHeartbeats 4000000 in
set_option maxRecDepth 100000 in
theorem c_Mo_set {b : Nat} {I : Nat → Nat} {K : Nat → Nat → Nat} {S : Nat → Int32} {C : Nat → Nat} (hS : moS cI cL w b I K S C) {j y : Nat} (hj : j < 8) (hy : y < 2 ^ 64) : fw_C l yMo_set (Cond.code yMo_set cMo_set 7 none :: kWs) ({ frames := 1, cells := 0, slots := 0, locals := 22 } : Room) D kCl (kty cI cL cQ) z [.ref b, .int (nI j), .long (lN y)] (sz) w 0 0 (fun v w' => v = none ∧ moS cI cL w' b (va_up I 0 0) K (va_up S (10 + j) (sgI y)) (setC C j (lmg y)) ∧ ∀ q, q < b ∨ b + 9 ≤ q → w' q = w q) := by
  refine fw_ofW (cc := cMo_set) (maxL := 7) (ret := none) (by decide) rfl (Nat.le_of_ble_eq_true rfl) ?_
  intro p e s m args below meth c hx hb hr hts hown hlocks hname hml hK H ls hw hl
  have hW : ∀ w ∈ kWs, w.before args s = true := fun w h => hts w (List.mem_cons_of_mem _ h)
  have hown : s.vm.findClass RMo = some m.cls := hown
  have hl : lv_has ls 7 [(0, .ref b), (1, .int (nI j)), (2, .long (lN y))] := hl
  have b0 : w b = some (.inr (10, [.int (nI (I 0)), .ref (b + 1), .ref (b + 2), .int (nI (I 3)), .ref (b + 3), .ref (b + 4), .int (nI (I 6)), .int (nI (I 7)), .ref (b + 5), .ref (b + 6), .int (nI (I 10)), .int (nI (I 11)), .int (nI (I 12)), .int (nI (I 13)), .ref (b + 7), .ref (b + 8), .int (nI (I 16)), .int (nI (I 17)), .int (nI (I 18)), .int (nI (I 19))])) := hS.1
  refine lv_aload_n (pc := 0) hx hb dMo_set_0 rfl (lv_at hl 0 rfl) ?_
  refine lv_iload_n (pc := 1) hx hb dMo_set_1 rfl (lv_at hl 1 rfl) ?_
  refine lv_if_lt (pc := 2) (tgt := 11) hx hb dMo_set_2 (by decide) (fun hc => absurd hc (nI_pos (by omega))) (fun _ => ?_)
  refine lv_iload_n (pc := 5) hx hb dMo_set_5 rfl (lv_at hl 1 rfl) ?_
  refine lv_bipush (pc := 6) (v := (nI 7)) hx hb dMo_set_6 (by decide) ?_
  refine lv_icmp_le (pc := 8) (tgt := 15) hx hb dMo_set_8 (by decide) (fun _ => ?_) (fun hc => absurd (nI_le (b := 7) (show j ≤ 7 by omega) (by decide)) hc)
  refine lv_iconst (pc := 15) (v := (nI 0)) hx hb dMo_set_15 (by decide) ?_
  refine lv_iconst (pc := 16) (v := (nI 1)) hx hb dMo_set_16 (by decide) ?_
  refine fw_cV (pc := 17) (As := [.int (nI 0), .int (nI 1)]) (rest := []) ⟨hx, hb, hml, hown, hW⟩ (c_Mo_fails0 (k := 1) hS) (cwV 2 hW (kw_V lm_Mo_39 im_Mo_fails se_Mo_fails ini_Mo cd_Mo_fails) rfl rfl rfl (by decide +kernel) ⟨Nat.le_of_ble_eq_true rfl, Nat.le_of_ble_eq_true rfl⟩) hK hw b0 rfl rfl hl.1 rfl (Nat.le_of_ble_eq_true rfl) dMo_set_17 ⟨Nat.le_of_ble_eq_true rfl, Nat.le_of_ble_eq_true rfl⟩ (fun v w1 H locs hq hw => ?_)
  obtain ⟨rfl, hS_, hfr_⟩ := hq
  have hfr : ∀ q, q ≠ b → w1 q = w q := fun q hq => hfr_ q hq
  have b0 : w1 b = some (.inr (10, [.int (nI (0)), .ref (b + 1), .ref (b + 2), .int (nI (I 3)), .ref (b + 3), .ref (b + 4), .int (nI (I 6)), .int (nI (I 7)), .ref (b + 5), .ref (b + 6), .int (nI (I 10)), .int (nI (I 11)), .int (nI (I 12)), .int (nI (I 13)), .ref (b + 7), .ref (b + 8), .int (nI (I 16)), .int (nI (I 17)), .int (nI (I 18)), .int (nI (I 19))])) := hS_.1
  have hS : moS cI cL w1 b (va_up I 0 0) K S C := hS_
  refine W.eq (g2 := F0 m 20 ls [.int (nI 0)]) rfl ?_
  refine lv_if_eq (pc := 20) (tgt := 24) hx hb dMo_set_20 (by decide) (fun _ => ?_) (fun hc => absurd (show nI 0 = 0 by decide) hc)
  refine lv_bipush (pc := 24) (v := (nI 10)) hx hb dMo_set_24 (by decide) ?_
  refine lv_iload_n (pc := 26) hx hb dMo_set_26 rfl (lv_at hl 1 rfl) ?_
  refine lv_iadd (pc := 27) hx hb dMo_set_27 ?_
  rw [show (((nI 10) + nI j) : Int32) = nI (10 + j) from (nI_add 10 j)]
  refine lv_istore (pc := 28) (lv' := [(4, .int (nI (10 + j))), (0, .ref b), (1, .int (nI j)), (2, .long (lN y))]) hx hb dMo_set_28 hl (by decide) rfl (fun ls hl => ?_)
  refine lv_aload_n (pc := 30) hx hb dMo_set_30 rfl (lv_at hl 1 rfl) ?_
  refine lv_iload (pc := 31) hx hb dMo_set_31 (lv_at hl 0 rfl) ?_
  refine fw_cV (pc := 33) (As := [.int (nI (10 + j))]) (rest := []) ⟨hx, hb, hml, hown, hW⟩ (c_Mo_clear (p0 := 10 + j) hS (by omega)) (cwV 1 hW (kw_V lm_Mo_125 im_Mo_clear se_Mo_clear ini_Mo cd_Mo_clear) rfl rfl rfl (by decide +kernel) ⟨Nat.le_of_ble_eq_true rfl, Nat.le_of_ble_eq_true rfl⟩) hK hw b0 rfl rfl hl.1 rfl (Nat.le_of_ble_eq_true rfl) dMo_set_33 ⟨Nat.le_of_ble_eq_true rfl, Nat.le_of_ble_eq_true rfl⟩ (fun v w2 H locs hq hw => ?_)
  obtain ⟨rfl, hS, hc2⟩ := hq
  have b0 : w2 b = some (.inr (10, [.int (nI (0)), .ref (b + 1), .ref (b + 2), .int (nI (I 3)), .ref (b + 3), .ref (b + 4), .int (nI (I 6)), .int (nI (I 7)), .ref (b + 5), .ref (b + 6), .int (nI (I 10)), .int (nI (I 11)), .int (nI (I 12)), .int (nI (I 13)), .ref (b + 7), .ref (b + 8), .int (nI (I 16)), .int (nI (I 17)), .int (nI (I 18)), .int (nI (I 19))])) := hS.1
  have ce : w2 (b + 1) = some (.inl (cL, 1536, .inr (.inl (fun i => lN ((clr C (10 + j) 64) i))))) := hS.2.1
  have sn : w2 (b + 2) = some (.inl (cI, 24, .inl (va_up S (10 + j) (nI 0)))) := hS.2.2.1
  refine W.eq (g2 := F0 m 36 ls []) rfl ?_
  obtain ⟨mg, hmg⟩ : ∃ x, x = lmg y := ⟨_, rfl⟩
  have hm : mg < 2 ^ 64 := by rw [hmg]; exact lmg_lt hy
  refine lv_lload_n (pc := 36) hx hb dMo_set_36 rfl (lv_at hl 3 rfl) ?_
  refine lv_lconst (pc := 37) (v := lN 0) hx hb dMo_set_37 (by decide) ?_
  refine W.lcmp (pc := 38) hx hb dMo_set_38 ?_
  refine lv_if_ge (pc := 39) (tgt := 47) hx hb dMo_set_39 (by decide) (fun ha => ?_) (fun ha => ?_)
  · have hs : y < 2 ^ 63 := (lN_le0 hy).mp ((lg_cmp_ge _ _).mp ha)
    refine lv_lload_n (pc := 47) hx hb dMo_set_47 rfl (lv_at hl 3 rfl) ?_
    rw [show (lN y : Int64) = lN mg from (by rw [hmg]; congr 1; exact (if_pos hs).symm)]
    refine lv_lstore (pc := 48) (lv' := [(5, .long (lN mg)), (4, .int (nI (10 + j))), (0, .ref b), (1, .int (nI j)), (2, .long (lN y))]) hx hb dMo_set_48 hl (by decide) rfl (fun ls hl => ?_)
    refine lv_aload_n (pc := 50) hx hb dMo_set_50 rfl (lv_at hl 2 rfl) ?_
    refine fw_get (pc := 51) (ci := 10) (v := .ref (b + 1)) (C := RMo) (T := TMo) (N := 20) hx hb hW in_Mo hown hK.1 hw b0 rfl 1 (by decide) (hW _ lf_Mo_7) (fun _ h => h) rfl dMo_set_51 ?_
    refine lv_bipush (pc := 54) (v := (nI 64)) hx hb dMo_set_54 (by decide) ?_
    refine lv_iload (pc := 56) hx hb dMo_set_56 (lv_at hl 1 rfl) ?_
    refine lv_imul (pc := 58) hx hb dMo_set_58 ?_
    rw [show (((nI 64) * nI (10 + j)) : Int32) = nI (64 * (10 + j)) from (nI_mul 64 (10 + j))]
    refine lv_lload (pc := 59) hx hb dMo_set_59 (lv_at hl 0 rfl) ?_
    refine lv_ldc2 (pc := 61) (v := lN 16777215) hx hb hown (hW _ kl_Mo_123) dMo_set_61 ?_
    refine lv_land (pc := 64) hx hb dMo_set_64 ?_
    rw [show ((lN mg &&& (lN 16777215)) : Int64) = lN (mg % 16777216) from (g_mask (s := 24) (p := 16777216) (by decide) (by decide) hm)]
    refine fw_lastN (pc := 65) (f2 := fun i => lN (va_up (clr C (10 + j) 64) (64 * (10 + j)) (mg % 16777216) i)) hx hb hK.1 hw 1 ce rfl (64 * (10 + j)) (by omega) (by decide) (lN_up _ _ _) dMo_set_65 (fun H locs hw => ?_)
    obtain ⟨w3, e3⟩ : ∃ w_, w_ = fw_up w2 (b + 1) (.inl (cL, 1536, .inr (.inl (fun i => lN (va_up (clr C (10 + j) 64) (64 * (10 + j)) (mg % 16777216) i))))) := ⟨_, rfl⟩
    have hw : fw_H D kCl (fw_A w (sz)) s.heap w3 (sz) H locs := by rw [e3]; exact hw
    have b0_ : w3 (b) = some (.inr (10, [.int (nI (0)), .ref (b + 1), .ref (b + 2), .int (nI (I 3)), .ref (b + 3), .ref (b + 4), .int (nI (I 6)), .int (nI (I 7)), .ref (b + 5), .ref (b + 6), .int (nI (I 10)), .int (nI (I 11)), .int (nI (I 12)), .int (nI (I 13)), .ref (b + 7), .ref (b + 8), .int (nI (I 16)), .int (nI (I 17)), .int (nI (I 18)), .int (nI (I 19))])) := by rw [e3, fw_un (by omega)]; exact b0
    have sn_ : w3 (b + 2) = some (.inl (cI, 24, .inl (va_up S (10 + j) (nI 0)))) := by rw [e3, fw_un (by omega)]; exact sn
    have ce_ : w3 (b + 1) = some (.inl (cL, 1536, .inr (.inl (fun i => lN (va_up (clr C (10 + j) 64) (64 * (10 + j)) (mg % 16777216) i))))) := by rw [e3]; exact fw_us _ _ _
    have b0 := b0_
    have ce := ce_
    have sn := sn_
    refine lv_aload_n (pc := 66) hx hb dMo_set_66 rfl (lv_at hl 2 rfl) ?_
    refine fw_get (pc := 67) (ci := 10) (v := .ref (b + 1)) (C := RMo) (T := TMo) (N := 20) hx hb hW in_Mo hown hK.1 hw b0 rfl 1 (by decide) (hW _ lf_Mo_7) (fun _ h => h) rfl dMo_set_67 ?_
    refine lv_bipush (pc := 70) (v := (nI 64)) hx hb dMo_set_70 (by decide) ?_
    refine lv_iload (pc := 72) hx hb dMo_set_72 (lv_at hl 1 rfl) ?_
    refine lv_imul (pc := 74) hx hb dMo_set_74 ?_
    rw [show (((nI 64) * nI (10 + j)) : Int32) = nI (64 * (10 + j)) from (nI_mul 64 (10 + j))]
    refine lv_iconst (pc := 75) (v := (nI 1)) hx hb dMo_set_75 (by decide) ?_
    refine lv_iadd (pc := 76) hx hb dMo_set_76 ?_
    rw [show ((nI (64 * (10 + j)) + (nI 1)) : Int32) = nI (64 * (10 + j) + 1) from (nI_add (64 * (10 + j)) 1)]
    refine lv_lload (pc := 77) hx hb dMo_set_77 (lv_at hl 0 rfl) ?_
    refine lv_bipush (pc := 79) (v := (nI 24)) hx hb dMo_set_79 (by decide) ?_
    refine lv_lushr (pc := 81) (v := lN (mg / 16777216)) hx hb dMo_set_81 (wb_shr (k := 24) hm (by decide)) ?_
    refine lv_ldc2 (pc := 82) (v := lN 16777215) hx hb hown (hW _ kl_Mo_123) dMo_set_82 ?_
    refine lv_land (pc := 85) hx hb dMo_set_85 ?_
    rw [show ((lN (mg / 16777216) &&& (lN 16777215)) : Int64) = lN (mg / 16777216 % 16777216) from (g_mask (s := 24) (p := 16777216) (by decide) (by decide) (show mg / 16777216 < 2 ^ 64 by omega))]
    refine fw_lastN (pc := 86) (f2 := fun i => lN (va_up (va_up (clr C (10 + j) 64) (64 * (10 + j)) (mg % 16777216)) (64 * (10 + j) + 1) (mg / 16777216 % 16777216) i)) hx hb hK.1 hw 1 ce rfl (64 * (10 + j) + 1) (by omega) (by decide) (lN_up _ _ _) dMo_set_86 (fun H locs hw => ?_)
    obtain ⟨w4, e4⟩ : ∃ w_, w_ = fw_up w3 (b + 1) (.inl (cL, 1536, .inr (.inl (fun i => lN (va_up (va_up (clr C (10 + j) 64) (64 * (10 + j)) (mg % 16777216)) (64 * (10 + j) + 1) (mg / 16777216 % 16777216) i))))) := ⟨_, rfl⟩
    have hw : fw_H D kCl (fw_A w (sz)) s.heap w4 (sz) H locs := by rw [e4]; exact hw
    have b0_ : w4 (b) = some (.inr (10, [.int (nI (0)), .ref (b + 1), .ref (b + 2), .int (nI (I 3)), .ref (b + 3), .ref (b + 4), .int (nI (I 6)), .int (nI (I 7)), .ref (b + 5), .ref (b + 6), .int (nI (I 10)), .int (nI (I 11)), .int (nI (I 12)), .int (nI (I 13)), .ref (b + 7), .ref (b + 8), .int (nI (I 16)), .int (nI (I 17)), .int (nI (I 18)), .int (nI (I 19))])) := by rw [e4, fw_un (by omega)]; exact b0
    have sn_ : w4 (b + 2) = some (.inl (cI, 24, .inl (va_up S (10 + j) (nI 0)))) := by rw [e4, fw_un (by omega)]; exact sn
    have ce_ : w4 (b + 1) = some (.inl (cL, 1536, .inr (.inl (fun i => lN (va_up (va_up (clr C (10 + j) 64) (64 * (10 + j)) (mg % 16777216)) (64 * (10 + j) + 1) (mg / 16777216 % 16777216) i))))) := by rw [e4]; exact fw_us _ _ _
    have b0 := b0_
    have ce := ce_
    have sn := sn_
    refine lv_aload_n (pc := 87) hx hb dMo_set_87 rfl (lv_at hl 2 rfl) ?_
    refine fw_get (pc := 88) (ci := 10) (v := .ref (b + 1)) (C := RMo) (T := TMo) (N := 20) hx hb hW in_Mo hown hK.1 hw b0 rfl 1 (by decide) (hW _ lf_Mo_7) (fun _ h => h) rfl dMo_set_88 ?_
    refine lv_bipush (pc := 91) (v := (nI 64)) hx hb dMo_set_91 (by decide) ?_
    refine lv_iload (pc := 93) hx hb dMo_set_93 (lv_at hl 1 rfl) ?_
    refine lv_imul (pc := 95) hx hb dMo_set_95 ?_
    rw [show (((nI 64) * nI (10 + j)) : Int32) = nI (64 * (10 + j)) from (nI_mul 64 (10 + j))]
    refine lv_iconst (pc := 96) (v := (nI 2)) hx hb dMo_set_96 (by decide) ?_
    refine lv_iadd (pc := 97) hx hb dMo_set_97 ?_
    rw [show ((nI (64 * (10 + j)) + (nI 2)) : Int32) = nI (64 * (10 + j) + 2) from (nI_add (64 * (10 + j)) 2)]
    refine lv_lload (pc := 98) hx hb dMo_set_98 (lv_at hl 0 rfl) ?_
    refine lv_bipush (pc := 100) (v := (nI 48)) hx hb dMo_set_100 (by decide) ?_
    refine lv_lushr (pc := 102) (v := lN (mg / 281474976710656)) hx hb dMo_set_102 (wb_shr (k := 48) hm (by decide)) ?_
    refine fw_lastN (pc := 103) (f2 := fun i => lN (va_up (va_up (va_up (clr C (10 + j) 64) (64 * (10 + j)) (mg % 16777216)) (64 * (10 + j) + 1) (mg / 16777216 % 16777216)) (64 * (10 + j) + 2) (mg / 281474976710656) i)) hx hb hK.1 hw 1 ce rfl (64 * (10 + j) + 2) (by omega) (by decide) (lN_up _ _ _) dMo_set_103 (fun H locs hw => ?_)
    obtain ⟨w5, e5⟩ : ∃ w_, w_ = fw_up w4 (b + 1) (.inl (cL, 1536, .inr (.inl (fun i => lN (va_up (va_up (va_up (clr C (10 + j) 64) (64 * (10 + j)) (mg % 16777216)) (64 * (10 + j) + 1) (mg / 16777216 % 16777216)) (64 * (10 + j) + 2) (mg / 281474976710656) i))))) := ⟨_, rfl⟩
    have hw : fw_H D kCl (fw_A w (sz)) s.heap w5 (sz) H locs := by rw [e5]; exact hw
    have b0_ : w5 (b) = some (.inr (10, [.int (nI (0)), .ref (b + 1), .ref (b + 2), .int (nI (I 3)), .ref (b + 3), .ref (b + 4), .int (nI (I 6)), .int (nI (I 7)), .ref (b + 5), .ref (b + 6), .int (nI (I 10)), .int (nI (I 11)), .int (nI (I 12)), .int (nI (I 13)), .ref (b + 7), .ref (b + 8), .int (nI (I 16)), .int (nI (I 17)), .int (nI (I 18)), .int (nI (I 19))])) := by rw [e5, fw_un (by omega)]; exact b0
    have sn_ : w5 (b + 2) = some (.inl (cI, 24, .inl (va_up S (10 + j) (nI 0)))) := by rw [e5, fw_un (by omega)]; exact sn
    have ce_ : w5 (b + 1) = some (.inl (cL, 1536, .inr (.inl (fun i => lN (va_up (va_up (va_up (clr C (10 + j) 64) (64 * (10 + j)) (mg % 16777216)) (64 * (10 + j) + 1) (mg / 16777216 % 16777216)) (64 * (10 + j) + 2) (mg / 281474976710656) i))))) := by rw [e5]; exact fw_us _ _ _
    have b0 := b0_
    have ce := ce_
    have sn := sn_
    refine lv_aload_n (pc := 104) hx hb dMo_set_104 rfl (lv_at hl 2 rfl) ?_
    refine fw_get (pc := 105) (ci := 10) (v := .ref (b + 2)) (C := RMo) (T := TMo) (N := 20) hx hb hW in_Mo hown hK.1 hw b0 rfl 2 (by decide) (hW _ lf_Mo_13) (fun _ h => h) rfl dMo_set_105 ?_
    refine lv_iload (pc := 108) hx hb dMo_set_108 (lv_at hl 1 rfl) ?_
    refine lv_lload_n (pc := 110) hx hb dMo_set_110 rfl (lv_at hl 4 rfl) ?_
    refine lv_lconst (pc := 111) (v := lN 0) hx hb dMo_set_111 (by decide) ?_
    refine W.lcmp (pc := 112) hx hb dMo_set_112 ?_
    refine lv_if_ge (pc := 113) (tgt := 120) hx hb dMo_set_113 (by decide) (fun _ => ?_) (fun hc => absurd ha hc)
    refine lv_lload_n (pc := 120) hx hb dMo_set_120 rfl (lv_at hl 4 rfl) ?_
    refine lv_lconst (pc := 121) (v := lN 0) hx hb dMo_set_121 (by decide) ?_
    refine W.lcmp (pc := 122) hx hb dMo_set_122 ?_
    refine lv_if_le (pc := 123) (tgt := 130) hx hb dMo_set_123 (by decide) (fun hb3 => ?_) (fun hb3 => ?_)
    · refine lv_iconst (pc := 130) (v := (nI 0)) hx hb dMo_set_130 (by decide) ?_
      refine fw_iastN (pc := 131) (f2 := va_up S (10 + j) (nI 0)) hx hb hK.1 hw 0 sn rfl (10 + j) (by omega) (by decide) (va_upup _ _ _ _) dMo_set_131 (fun H locs hw => ?_)
      obtain ⟨w6, e6⟩ : ∃ w_, w_ = fw_up w5 (b + 2) (.inl (cI, 24, .inl (va_up S (10 + j) (nI 0)))) := ⟨_, rfl⟩
      have hw : fw_H D kCl (fw_A w (sz)) s.heap w6 (sz) H locs := by rw [e6]; exact hw
      have b0_ : w6 (b) = some (.inr (10, [.int (nI (0)), .ref (b + 1), .ref (b + 2), .int (nI (I 3)), .ref (b + 3), .ref (b + 4), .int (nI (I 6)), .int (nI (I 7)), .ref (b + 5), .ref (b + 6), .int (nI (I 10)), .int (nI (I 11)), .int (nI (I 12)), .int (nI (I 13)), .ref (b + 7), .ref (b + 8), .int (nI (I 16)), .int (nI (I 17)), .int (nI (I 18)), .int (nI (I 19))])) := by rw [e6, fw_un (by omega)]; exact b0
      have ce_ : w6 (b + 1) = some (.inl (cL, 1536, .inr (.inl (fun i => lN (va_up (va_up (va_up (clr C (10 + j) 64) (64 * (10 + j)) (mg % 16777216)) (64 * (10 + j) + 1) (mg / 16777216 % 16777216)) (64 * (10 + j) + 2) (mg / 281474976710656) i))))) := by rw [e6, fw_un (by omega)]; exact ce
      have sn_ : w6 (b + 2) = some (.inl (cI, 24, .inl (va_up S (10 + j) (nI 0)))) := by rw [e6]; exact fw_us _ _ _
      have b0 := b0_
      have ce := ce_
      have sn := sn_
      exact fw_vret (pc := 132) hx hb hr hlocks hw dMo_set_132 ⟨rfl, by rw [show sgI y = (nI 0) from (if_pos hs).trans (if_pos (lN_le00 hs ((lg_cmp_le _ _).mp hb3)))]; refine moS.cs hS (C' := setC C j (lmg y)) (by rw [← hmg]; exact ce) sn (fun q h1 h2 => by rw [e6, fw_un (by omega), e5, fw_un (by omega), e4, fw_un (by omega), e3, fw_un (by omega)]), fun q hq => by rw [e6, fw_un (by omega), e5, fw_un (by omega), e4, fw_un (by omega), e3, fw_un (by omega), hc2 q (by omega) (by omega), hfr q (by omega)]⟩
    · refine lv_iconst (pc := 126) (v := (nI 1)) hx hb dMo_set_126 (by decide) ?_
      refine lv_goto (pc := 127) (tgt := 131) hx hb dMo_set_127 (by decide) ?_
      refine fw_iastN (pc := 131) (f2 := va_up S (10 + j) (nI 1)) hx hb hK.1 hw 0 sn rfl (10 + j) (by omega) (by decide) (va_upup _ _ _ _) dMo_set_131 (fun H locs hw => ?_)
      obtain ⟨w6, e6⟩ : ∃ w_, w_ = fw_up w5 (b + 2) (.inl (cI, 24, .inl (va_up S (10 + j) (nI 1)))) := ⟨_, rfl⟩
      have hw : fw_H D kCl (fw_A w (sz)) s.heap w6 (sz) H locs := by rw [e6]; exact hw
      have b0_ : w6 (b) = some (.inr (10, [.int (nI (0)), .ref (b + 1), .ref (b + 2), .int (nI (I 3)), .ref (b + 3), .ref (b + 4), .int (nI (I 6)), .int (nI (I 7)), .ref (b + 5), .ref (b + 6), .int (nI (I 10)), .int (nI (I 11)), .int (nI (I 12)), .int (nI (I 13)), .ref (b + 7), .ref (b + 8), .int (nI (I 16)), .int (nI (I 17)), .int (nI (I 18)), .int (nI (I 19))])) := by rw [e6, fw_un (by omega)]; exact b0
      have ce_ : w6 (b + 1) = some (.inl (cL, 1536, .inr (.inl (fun i => lN (va_up (va_up (va_up (clr C (10 + j) 64) (64 * (10 + j)) (mg % 16777216)) (64 * (10 + j) + 1) (mg / 16777216 % 16777216)) (64 * (10 + j) + 2) (mg / 281474976710656) i))))) := by rw [e6, fw_un (by omega)]; exact ce
      have sn_ : w6 (b + 2) = some (.inl (cI, 24, .inl (va_up S (10 + j) (nI 1)))) := by rw [e6]; exact fw_us _ _ _
      have b0 := b0_
      have ce := ce_
      have sn := sn_
      exact fw_vret (pc := 132) hx hb hr hlocks hw dMo_set_132 ⟨rfl, by rw [show sgI y = (nI 1) from (if_pos hs).trans (if_neg (fun h => hb3 (by rw [h]; decide)))]; refine moS.cs hS (C' := setC C j (lmg y)) (by rw [← hmg]; exact ce) sn (fun q h1 h2 => by rw [e6, fw_un (by omega), e5, fw_un (by omega), e4, fw_un (by omega), e3, fw_un (by omega)]), fun q hq => by rw [e6, fw_un (by omega), e5, fw_un (by omega), e4, fw_un (by omega), e3, fw_un (by omega), hc2 q (by omega) (by omega), hfr q (by omega)]⟩
  · have hs : ¬ y < 2 ^ 63 := fun h0 => ha ((lg_cmp_ge _ _).mpr ((lN_le0 hy).mpr h0))
    refine lv_lload_n (pc := 42) hx hb dMo_set_42 rfl (lv_at hl 3 rfl) ?_
    refine lv_lneg (pc := 43) hx hb dMo_set_43 ?_
    rw [show ((-(lN y)) : Int64) = lN mg from (by rw [lN_neg (by omega), hmg]; congr 1; exact (if_neg hs).symm)]
    refine lv_goto (pc := 44) (tgt := 48) hx hb dMo_set_44 (by decide) ?_
    refine lv_lstore (pc := 48) (lv' := [(5, .long (lN mg)), (4, .int (nI (10 + j))), (0, .ref b), (1, .int (nI j)), (2, .long (lN y))]) hx hb dMo_set_48 hl (by decide) rfl (fun ls hl => ?_)
    refine lv_aload_n (pc := 50) hx hb dMo_set_50 rfl (lv_at hl 2 rfl) ?_
    refine fw_get (pc := 51) (ci := 10) (v := .ref (b + 1)) (C := RMo) (T := TMo) (N := 20) hx hb hW in_Mo hown hK.1 hw b0 rfl 1 (by decide) (hW _ lf_Mo_7) (fun _ h => h) rfl dMo_set_51 ?_
    refine lv_bipush (pc := 54) (v := (nI 64)) hx hb dMo_set_54 (by decide) ?_
    refine lv_iload (pc := 56) hx hb dMo_set_56 (lv_at hl 1 rfl) ?_
    refine lv_imul (pc := 58) hx hb dMo_set_58 ?_
    rw [show (((nI 64) * nI (10 + j)) : Int32) = nI (64 * (10 + j)) from (nI_mul 64 (10 + j))]
    refine lv_lload (pc := 59) hx hb dMo_set_59 (lv_at hl 0 rfl) ?_
    refine lv_ldc2 (pc := 61) (v := lN 16777215) hx hb hown (hW _ kl_Mo_123) dMo_set_61 ?_
    refine lv_land (pc := 64) hx hb dMo_set_64 ?_
    rw [show ((lN mg &&& (lN 16777215)) : Int64) = lN (mg % 16777216) from (g_mask (s := 24) (p := 16777216) (by decide) (by decide) hm)]
    refine fw_lastN (pc := 65) (f2 := fun i => lN (va_up (clr C (10 + j) 64) (64 * (10 + j)) (mg % 16777216) i)) hx hb hK.1 hw 1 ce rfl (64 * (10 + j)) (by omega) (by decide) (lN_up _ _ _) dMo_set_65 (fun H locs hw => ?_)
    obtain ⟨w3, e3⟩ : ∃ w_, w_ = fw_up w2 (b + 1) (.inl (cL, 1536, .inr (.inl (fun i => lN (va_up (clr C (10 + j) 64) (64 * (10 + j)) (mg % 16777216) i))))) := ⟨_, rfl⟩
    have hw : fw_H D kCl (fw_A w (sz)) s.heap w3 (sz) H locs := by rw [e3]; exact hw
    have b0_ : w3 (b) = some (.inr (10, [.int (nI (0)), .ref (b + 1), .ref (b + 2), .int (nI (I 3)), .ref (b + 3), .ref (b + 4), .int (nI (I 6)), .int (nI (I 7)), .ref (b + 5), .ref (b + 6), .int (nI (I 10)), .int (nI (I 11)), .int (nI (I 12)), .int (nI (I 13)), .ref (b + 7), .ref (b + 8), .int (nI (I 16)), .int (nI (I 17)), .int (nI (I 18)), .int (nI (I 19))])) := by rw [e3, fw_un (by omega)]; exact b0
    have sn_ : w3 (b + 2) = some (.inl (cI, 24, .inl (va_up S (10 + j) (nI 0)))) := by rw [e3, fw_un (by omega)]; exact sn
    have ce_ : w3 (b + 1) = some (.inl (cL, 1536, .inr (.inl (fun i => lN (va_up (clr C (10 + j) 64) (64 * (10 + j)) (mg % 16777216) i))))) := by rw [e3]; exact fw_us _ _ _
    have b0 := b0_
    have ce := ce_
    have sn := sn_
    refine lv_aload_n (pc := 66) hx hb dMo_set_66 rfl (lv_at hl 2 rfl) ?_
    refine fw_get (pc := 67) (ci := 10) (v := .ref (b + 1)) (C := RMo) (T := TMo) (N := 20) hx hb hW in_Mo hown hK.1 hw b0 rfl 1 (by decide) (hW _ lf_Mo_7) (fun _ h => h) rfl dMo_set_67 ?_
    refine lv_bipush (pc := 70) (v := (nI 64)) hx hb dMo_set_70 (by decide) ?_
    refine lv_iload (pc := 72) hx hb dMo_set_72 (lv_at hl 1 rfl) ?_
    refine lv_imul (pc := 74) hx hb dMo_set_74 ?_
    rw [show (((nI 64) * nI (10 + j)) : Int32) = nI (64 * (10 + j)) from (nI_mul 64 (10 + j))]
    refine lv_iconst (pc := 75) (v := (nI 1)) hx hb dMo_set_75 (by decide) ?_
    refine lv_iadd (pc := 76) hx hb dMo_set_76 ?_
    rw [show ((nI (64 * (10 + j)) + (nI 1)) : Int32) = nI (64 * (10 + j) + 1) from (nI_add (64 * (10 + j)) 1)]
    refine lv_lload (pc := 77) hx hb dMo_set_77 (lv_at hl 0 rfl) ?_
    refine lv_bipush (pc := 79) (v := (nI 24)) hx hb dMo_set_79 (by decide) ?_
    refine lv_lushr (pc := 81) (v := lN (mg / 16777216)) hx hb dMo_set_81 (wb_shr (k := 24) hm (by decide)) ?_
    refine lv_ldc2 (pc := 82) (v := lN 16777215) hx hb hown (hW _ kl_Mo_123) dMo_set_82 ?_
    refine lv_land (pc := 85) hx hb dMo_set_85 ?_
    rw [show ((lN (mg / 16777216) &&& (lN 16777215)) : Int64) = lN (mg / 16777216 % 16777216) from (g_mask (s := 24) (p := 16777216) (by decide) (by decide) (show mg / 16777216 < 2 ^ 64 by omega))]
    refine fw_lastN (pc := 86) (f2 := fun i => lN (va_up (va_up (clr C (10 + j) 64) (64 * (10 + j)) (mg % 16777216)) (64 * (10 + j) + 1) (mg / 16777216 % 16777216) i)) hx hb hK.1 hw 1 ce rfl (64 * (10 + j) + 1) (by omega) (by decide) (lN_up _ _ _) dMo_set_86 (fun H locs hw => ?_)
    obtain ⟨w4, e4⟩ : ∃ w_, w_ = fw_up w3 (b + 1) (.inl (cL, 1536, .inr (.inl (fun i => lN (va_up (va_up (clr C (10 + j) 64) (64 * (10 + j)) (mg % 16777216)) (64 * (10 + j) + 1) (mg / 16777216 % 16777216) i))))) := ⟨_, rfl⟩
    have hw : fw_H D kCl (fw_A w (sz)) s.heap w4 (sz) H locs := by rw [e4]; exact hw
    have b0_ : w4 (b) = some (.inr (10, [.int (nI (0)), .ref (b + 1), .ref (b + 2), .int (nI (I 3)), .ref (b + 3), .ref (b + 4), .int (nI (I 6)), .int (nI (I 7)), .ref (b + 5), .ref (b + 6), .int (nI (I 10)), .int (nI (I 11)), .int (nI (I 12)), .int (nI (I 13)), .ref (b + 7), .ref (b + 8), .int (nI (I 16)), .int (nI (I 17)), .int (nI (I 18)), .int (nI (I 19))])) := by rw [e4, fw_un (by omega)]; exact b0
    have sn_ : w4 (b + 2) = some (.inl (cI, 24, .inl (va_up S (10 + j) (nI 0)))) := by rw [e4, fw_un (by omega)]; exact sn
    have ce_ : w4 (b + 1) = some (.inl (cL, 1536, .inr (.inl (fun i => lN (va_up (va_up (clr C (10 + j) 64) (64 * (10 + j)) (mg % 16777216)) (64 * (10 + j) + 1) (mg / 16777216 % 16777216) i))))) := by rw [e4]; exact fw_us _ _ _
    have b0 := b0_
    have ce := ce_
    have sn := sn_
    refine lv_aload_n (pc := 87) hx hb dMo_set_87 rfl (lv_at hl 2 rfl) ?_
    refine fw_get (pc := 88) (ci := 10) (v := .ref (b + 1)) (C := RMo) (T := TMo) (N := 20) hx hb hW in_Mo hown hK.1 hw b0 rfl 1 (by decide) (hW _ lf_Mo_7) (fun _ h => h) rfl dMo_set_88 ?_
    refine lv_bipush (pc := 91) (v := (nI 64)) hx hb dMo_set_91 (by decide) ?_
    refine lv_iload (pc := 93) hx hb dMo_set_93 (lv_at hl 1 rfl) ?_
    refine lv_imul (pc := 95) hx hb dMo_set_95 ?_
    rw [show (((nI 64) * nI (10 + j)) : Int32) = nI (64 * (10 + j)) from (nI_mul 64 (10 + j))]
    refine lv_iconst (pc := 96) (v := (nI 2)) hx hb dMo_set_96 (by decide) ?_
    refine lv_iadd (pc := 97) hx hb dMo_set_97 ?_
    rw [show ((nI (64 * (10 + j)) + (nI 2)) : Int32) = nI (64 * (10 + j) + 2) from (nI_add (64 * (10 + j)) 2)]
    refine lv_lload (pc := 98) hx hb dMo_set_98 (lv_at hl 0 rfl) ?_
    refine lv_bipush (pc := 100) (v := (nI 48)) hx hb dMo_set_100 (by decide) ?_
    refine lv_lushr (pc := 102) (v := lN (mg / 281474976710656)) hx hb dMo_set_102 (wb_shr (k := 48) hm (by decide)) ?_
    refine fw_lastN (pc := 103) (f2 := fun i => lN (va_up (va_up (va_up (clr C (10 + j) 64) (64 * (10 + j)) (mg % 16777216)) (64 * (10 + j) + 1) (mg / 16777216 % 16777216)) (64 * (10 + j) + 2) (mg / 281474976710656) i)) hx hb hK.1 hw 1 ce rfl (64 * (10 + j) + 2) (by omega) (by decide) (lN_up _ _ _) dMo_set_103 (fun H locs hw => ?_)
    obtain ⟨w5, e5⟩ : ∃ w_, w_ = fw_up w4 (b + 1) (.inl (cL, 1536, .inr (.inl (fun i => lN (va_up (va_up (va_up (clr C (10 + j) 64) (64 * (10 + j)) (mg % 16777216)) (64 * (10 + j) + 1) (mg / 16777216 % 16777216)) (64 * (10 + j) + 2) (mg / 281474976710656) i))))) := ⟨_, rfl⟩
    have hw : fw_H D kCl (fw_A w (sz)) s.heap w5 (sz) H locs := by rw [e5]; exact hw
    have b0_ : w5 (b) = some (.inr (10, [.int (nI (0)), .ref (b + 1), .ref (b + 2), .int (nI (I 3)), .ref (b + 3), .ref (b + 4), .int (nI (I 6)), .int (nI (I 7)), .ref (b + 5), .ref (b + 6), .int (nI (I 10)), .int (nI (I 11)), .int (nI (I 12)), .int (nI (I 13)), .ref (b + 7), .ref (b + 8), .int (nI (I 16)), .int (nI (I 17)), .int (nI (I 18)), .int (nI (I 19))])) := by rw [e5, fw_un (by omega)]; exact b0
    have sn_ : w5 (b + 2) = some (.inl (cI, 24, .inl (va_up S (10 + j) (nI 0)))) := by rw [e5, fw_un (by omega)]; exact sn
    have ce_ : w5 (b + 1) = some (.inl (cL, 1536, .inr (.inl (fun i => lN (va_up (va_up (va_up (clr C (10 + j) 64) (64 * (10 + j)) (mg % 16777216)) (64 * (10 + j) + 1) (mg / 16777216 % 16777216)) (64 * (10 + j) + 2) (mg / 281474976710656) i))))) := by rw [e5]; exact fw_us _ _ _
    have b0 := b0_
    have ce := ce_
    have sn := sn_
    refine lv_aload_n (pc := 104) hx hb dMo_set_104 rfl (lv_at hl 2 rfl) ?_
    refine fw_get (pc := 105) (ci := 10) (v := .ref (b + 2)) (C := RMo) (T := TMo) (N := 20) hx hb hW in_Mo hown hK.1 hw b0 rfl 2 (by decide) (hW _ lf_Mo_13) (fun _ h => h) rfl dMo_set_105 ?_
    refine lv_iload (pc := 108) hx hb dMo_set_108 (lv_at hl 1 rfl) ?_
    refine lv_lload_n (pc := 110) hx hb dMo_set_110 rfl (lv_at hl 4 rfl) ?_
    refine lv_lconst (pc := 111) (v := lN 0) hx hb dMo_set_111 (by decide) ?_
    refine W.lcmp (pc := 112) hx hb dMo_set_112 ?_
    refine lv_if_ge (pc := 113) (tgt := 120) hx hb dMo_set_113 (by decide) (fun hc => absurd hc ha) (fun _ => ?_)
    refine lv_iconst (pc := 116) (v := (-1)) hx hb dMo_set_116 (by decide) ?_
    refine lv_goto (pc := 117) (tgt := 131) hx hb dMo_set_117 (by decide) ?_
    refine fw_iastN (pc := 131) (f2 := va_up S (10 + j) (-1)) hx hb hK.1 hw 0 sn rfl (10 + j) (by omega) (by decide) (va_upup _ _ _ _) dMo_set_131 (fun H locs hw => ?_)
    obtain ⟨w6, e6⟩ : ∃ w_, w_ = fw_up w5 (b + 2) (.inl (cI, 24, .inl (va_up S (10 + j) (-1)))) := ⟨_, rfl⟩
    have hw : fw_H D kCl (fw_A w (sz)) s.heap w6 (sz) H locs := by rw [e6]; exact hw
    have b0_ : w6 (b) = some (.inr (10, [.int (nI (0)), .ref (b + 1), .ref (b + 2), .int (nI (I 3)), .ref (b + 3), .ref (b + 4), .int (nI (I 6)), .int (nI (I 7)), .ref (b + 5), .ref (b + 6), .int (nI (I 10)), .int (nI (I 11)), .int (nI (I 12)), .int (nI (I 13)), .ref (b + 7), .ref (b + 8), .int (nI (I 16)), .int (nI (I 17)), .int (nI (I 18)), .int (nI (I 19))])) := by rw [e6, fw_un (by omega)]; exact b0
    have ce_ : w6 (b + 1) = some (.inl (cL, 1536, .inr (.inl (fun i => lN (va_up (va_up (va_up (clr C (10 + j) 64) (64 * (10 + j)) (mg % 16777216)) (64 * (10 + j) + 1) (mg / 16777216 % 16777216)) (64 * (10 + j) + 2) (mg / 281474976710656) i))))) := by rw [e6, fw_un (by omega)]; exact ce
    have sn_ : w6 (b + 2) = some (.inl (cI, 24, .inl (va_up S (10 + j) (-1)))) := by rw [e6]; exact fw_us _ _ _
    have b0 := b0_
    have ce := ce_
    have sn := sn_
    exact fw_vret (pc := 132) hx hb hr hlocks hw dMo_set_132 ⟨rfl, by rw [show sgI y = (-1) from if_neg hs]; refine moS.cs hS (C' := setC C j (lmg y)) (by rw [← hmg]; exact ce) sn (fun q h1 h2 => by rw [e6, fw_un (by omega), e5, fw_un (by omega), e4, fw_un (by omega), e3, fw_un (by omega)]), fun q hq => by rw [e6, fw_un (by omega), e5, fw_un (by omega), e4, fw_un (by omega), e3, fw_un (by omega), hc2 q (by omega) (by omega), hfr q (by omega)]⟩
end MO2
