theorem lb_step {x i k : Nat} (hk : k + 1 ≤ 32) : 2 * (x / 2 ^ (32 * i + (k + 1)) % 2 ^ (32 - (k + 1))) + x / 2 ^ (32 * i + k) % 2 = x / 2 ^ (32 * i + k) % 2 ^ (32 - k) := by
  have e1 : x / 2 ^ (32 * i + (k + 1)) = x / 2 ^ (32 * i + k) / 2 := by rw [← Nat.add_assoc, Nat.pow_succ, Nat.div_div_eq_div_mul]
  rw [e1, show 32 - k = (32 - (k + 1)) + 1 by omega, Nat.pow_succ, Nat.mul_comm (2 ^ (32 - (k + 1))) 2, Nat.mod_mul]
  omega
/-! The reference's methods, thirteenth part. Written by wip/gen/model13.py. -/
section MO13
variable {l : Launch} {D : va_G} {cI cL cQ : ClassId} {z : kZ_T} {sz : Nat} {w : fw_W}
set_option maxHeartbeats 4000000 in
set_option maxRecDepth 100000 in
theorem c_Mo_sign {b : Nat} {I : Nat → Nat} {K : Nat → Nat → Nat} {S : Nat → Int32} {X : Nat → Nat} (hS : moS cI cL w b I K S (mC X)) (hX : ∀ p, X p < nM ^ 64) (h6 : I 6 < 2 ^ 31) (h7 : I 7 < 2 ^ 31) (h16 : I 16 < 2 ^ 31) (hno : 0 < I 6 ∧ I 16 = I 7) : fw_C l yMo_sign (Cond.code yMo_sign cMo_sign 1 (some FieldType.int) :: kWs) ({ frames := 1, cells := 0, slots := 0, locals := 22 } : Room) D kCl (kty cI cL cQ) z [.ref b] (sz) w 0 0 (fun v w' => v = some (.int (S 0)) ∧ moS cI cL w' b (va_up I 0 0) K (S) (mC (X)) ∧ ∀ q, q < b ∨ b + 9 ≤ q → w' q = w q) := by
  refine fw_ofW (cc := cMo_sign) (maxL := 1) (ret := (some FieldType.int)) (by decide) rfl (Nat.le_of_ble_eq_true rfl) ?_
  intro p e s m args below meth c hx hb hr hts hown hlocks hname hml hK H ls hw hl
  have hW : ∀ w ∈ kWs, w.before args s = true := fun w h => hts w (List.mem_cons_of_mem _ h)
  have hown : s.vm.findClass RMo = some m.cls := hown
  have hl : lv_has ls 1 [(0, .ref b)] := hl
  have b0 : w b = some (.inr (10, [.int (nI (I 0)), .ref (b + 1), .ref (b + 2), .int (nI (I 3)), .ref (b + 3), .ref (b + 4), .int (nI (I 6)), .int (nI (I 7)), .ref (b + 5), .ref (b + 6), .int (nI (I 10)), .int (nI (I 11)), .int (nI (I 12)), .int (nI (I 13)), .ref (b + 7), .ref (b + 8), .int (nI (I 16)), .int (nI (I 17)), .int (nI (I 18)), .int (nI (I 19))])) := hS.1
  have b1 : w (b + 1) = some (.inl (cL, 1536, .inr (.inl (fun i => lN (mC X i))))) := hS.2.1
  have b2 : w (b + 2) = some (.inl (cI, 24, .inl (S))) := hS.2.2.1
  have b09 := b0
  have b29 := b2
  refine lv_aload_n (pc := 0) hx hb dMo_sign_0 rfl (lv_at hl 0 rfl) ?_
  refine lv_aload_n (pc := 1) hx hb dMo_sign_1 rfl (lv_at hl 0 rfl) ?_
  refine fw_cVR (pc := 2) (As := []) (rest := [.ref b]) ⟨hx, hb, hml, hown, hW⟩ (c_Mo_hasResult hS h6 h7 h16) (cwV 0 hW (kw_V lm_Mo_196 im_Mo_hasResult se_Mo_hasResult ini_Mo cd_Mo_hasResult) rfl rfl rfl (by decide +kernel) ⟨Nat.le_of_ble_eq_true rfl, Nat.le_of_ble_eq_true rfl⟩) hK hw b0 rfl rfl hl.1 rfl (Nat.le_of_ble_eq_true rfl) dMo_sign_2 ⟨Nat.le_of_ble_eq_true rfl, Nat.le_of_ble_eq_true rfl⟩ (fun v hq => ?_)
  have hq : v = some (.int (nI (if 0 < I 6 ∧ I 16 = I 7 then 1 else 0))) := hq
  rw [if_pos hno] at hq
  subst hq
  refine W.eq (g2 := F0 m 5 ls [.int (nI 1), .ref b]) rfl ?_
  refine lv_if_ne (pc := 5) (tgt := 12) hx hb dMo_sign_5 (by decide) (fun _ => ?_) (fun hc => absurd hc (show ¬ nI 1 = 0 by decide))
  refine lv_iconst (pc := 12) (v := (nI 0)) hx hb dMo_sign_12 (by decide) ?_
  refine lv_iconst (pc := 13) (v := (nI 1)) hx hb dMo_sign_13 (by decide) ?_
  refine fw_cV (pc := 14) (As := [.int (nI 0), .int (nI 1)]) (rest := []) ⟨hx, hb, hml, hown, hW⟩ (c_Mo_fails0 (k := 1) hS) (cwV 2 hW (kw_V lm_Mo_39 im_Mo_fails se_Mo_fails ini_Mo cd_Mo_fails) rfl rfl rfl (by decide +kernel) ⟨Nat.le_of_ble_eq_true rfl, Nat.le_of_ble_eq_true rfl⟩) hK hw b0 rfl rfl hl.1 rfl (Nat.le_of_ble_eq_true rfl) dMo_sign_14 ⟨Nat.le_of_ble_eq_true rfl, Nat.le_of_ble_eq_true rfl⟩ (fun v w1 H locs hq hw => ?_)
  obtain ⟨rfl, hS_, hfr_⟩ := hq
  have hfr : ∀ q, q ≠ b → w1 q = w q := fun q hq => hfr_ q hq
  have hS : moS cI cL w1 b (va_up I 0 0) K S (mC X) := hS_
  have b0 : w1 b = some (.inr (10, [.int (nI (0)), .ref (b + 1), .ref (b + 2), .int (nI (I 3)), .ref (b + 3), .ref (b + 4), .int (nI (I 6)), .int (nI (I 7)), .ref (b + 5), .ref (b + 6), .int (nI (I 10)), .int (nI (I 11)), .int (nI (I 12)), .int (nI (I 13)), .ref (b + 7), .ref (b + 8), .int (nI (I 16)), .int (nI (I 17)), .int (nI (I 18)), .int (nI (I 19))])) := hS.1
  have b1 : w1 (b + 1) = some (.inl (cL, 1536, .inr (.inl (fun i => lN (mC (X) i))))) := hS.2.1
  have b2 : w1 (b + 2) = some (.inl (cI, 24, .inl (S))) := hS.2.2.1
  refine W.eq (g2 := F0 m 17 ls [.int (nI 0)]) rfl ?_
  refine lv_if_eq (pc := 17) (tgt := 24) hx hb dMo_sign_17 (by decide) (fun _ => ?_) (fun hc => absurd (show nI 0 = 0 by decide) hc)
  refine lv_aload_n (pc := 24) hx hb dMo_sign_24 rfl (lv_at hl 0 rfl) ?_
  refine fw_get (pc := 25) (ci := 10) (v := .ref (b + 2)) (C := RMo) (T := TMo) (N := 20) hx hb hW in_Mo hown hK.1 hw b0 rfl 2 (by decide) (hW _ lf_Mo_13) (fun _ h => h) rfl dMo_sign_25 ?_
  refine lv_iconst (pc := 28) (v := (nI 0)) hx hb dMo_sign_28 (by decide) ?_
  refine fw_ialdN (pc := 29) (x := S 0) hx hb hK.1 hw 0 b2 rfl (0) (by decide) (by decide) rfl dMo_sign_29 ?_
  exact fw_iret (pc := 30) hx hb hr hlocks hw dMo_sign_30 ⟨rfl, hS, (fun q h9 => hfr q (by omega))⟩

set_option maxHeartbeats 4000000 in
set_option maxRecDepth 100000 in
theorem c_Mo_keep {b : Nat} {I : Nat → Nat} {K : Nat → Nat → Nat} {S : Nat → Int32} {X : Nat → Nat} (hS : moS cI cL w b I K S (mC X)) (hX : ∀ p, X p < nM ^ 64) (h6 : I 6 < 2 ^ 31) (h7 : I 7 < 2 ^ 31) (h16 : I 16 < 2 ^ 31) (hno : 0 < I 6 ∧ I 16 = I 7) {j : Nat} (hj : j < 8) : fw_C l yMo_keep (Cond.code yMo_keep cMo_keep 3 none :: kWs) ({ frames := 1, cells := 0, slots := 0, locals := 23 } : Room) D kCl (kty cI cL cQ) z [.ref b, .int (nI j)] (sz) w 0 0 (fun v w' => v = none ∧ moS cI cL w' b (va_up I 0 0) K (va_up S (10 + j) (S 0)) (mC (va_up X (10 + j) (X 0))) ∧ ∀ q, q < b ∨ b + 9 ≤ q → w' q = w q) := by
  refine fw_ofW (cc := cMo_keep) (maxL := 3) (ret := none) (by decide) rfl (Nat.le_of_ble_eq_true rfl) ?_
  intro p e s m args below meth c hx hb hr hts hown hlocks hname hml hK H ls hw hl
  have hW : ∀ w ∈ kWs, w.before args s = true := fun w h => hts w (List.mem_cons_of_mem _ h)
  have hown : s.vm.findClass RMo = some m.cls := hown
  have hl : lv_has ls 3 [(0, .ref b), (1, .int (nI j))] := hl
  have b0 : w b = some (.inr (10, [.int (nI (I 0)), .ref (b + 1), .ref (b + 2), .int (nI (I 3)), .ref (b + 3), .ref (b + 4), .int (nI (I 6)), .int (nI (I 7)), .ref (b + 5), .ref (b + 6), .int (nI (I 10)), .int (nI (I 11)), .int (nI (I 12)), .int (nI (I 13)), .ref (b + 7), .ref (b + 8), .int (nI (I 16)), .int (nI (I 17)), .int (nI (I 18)), .int (nI (I 19))])) := hS.1
  have b1 : w (b + 1) = some (.inl (cL, 1536, .inr (.inl (fun i => lN (mC X i))))) := hS.2.1
  have b2 : w (b + 2) = some (.inl (cI, 24, .inl (S))) := hS.2.2.1
  have b09 := b0
  have b29 := b2
  refine lv_iload_n (pc := 0) hx hb dMo_keep_0 rfl (lv_at hl 1 rfl) ?_
  refine lv_if_lt (pc := 1) (tgt := 14) hx hb dMo_keep_1 (by decide) (fun hc => absurd hc (nI_pos (by omega))) (fun _ => ?_)
  refine lv_iload_n (pc := 4) hx hb dMo_keep_4 rfl (lv_at hl 1 rfl) ?_
  refine lv_bipush (pc := 5) (v := (nI 8)) hx hb dMo_keep_5 (by decide) ?_
  refine lv_icmp_ge (pc := 7) (tgt := 14) hx hb dMo_keep_7 (by decide) (fun hc => absurd hc (nI_ge (b := 8) hj (by decide))) (fun _ => ?_)
  refine lv_iconst (pc := 10) (v := (nI 1)) hx hb dMo_keep_10 (by decide) ?_
  refine lv_goto (pc := 11) (tgt := 15) hx hb dMo_keep_11 (by decide) ?_
  refine lv_istore_n (pc := 15) (lv' := [(2, .int (nI 1)), (0, .ref b), (1, .int (nI j))]) hx hb dMo_keep_15 rfl hl (by decide) rfl (fun ls hl => ?_)
  refine lv_aload_n (pc := 16) hx hb dMo_keep_16 rfl (lv_at hl 1 rfl) ?_
  refine lv_iload_n (pc := 17) hx hb dMo_keep_17 rfl (lv_at hl 0 rfl) ?_
  refine lv_if_ne (pc := 18) (tgt := 25) hx hb dMo_keep_18 (by decide) (fun _ => ?_) (fun hc => absurd hc (show ¬ nI 1 = 0 by decide))
  refine lv_iconst (pc := 25) (v := (nI 0)) hx hb dMo_keep_25 (by decide) ?_
  refine lv_iconst (pc := 26) (v := (nI 1)) hx hb dMo_keep_26 (by decide) ?_
  refine fw_cV (pc := 27) (As := [.int (nI 0), .int (nI 1)]) (rest := []) ⟨hx, hb, hml, hown, hW⟩ (c_Mo_fails0 (k := 1) hS) (cwV 2 hW (kw_V lm_Mo_39 im_Mo_fails se_Mo_fails ini_Mo cd_Mo_fails) rfl rfl rfl (by decide +kernel) ⟨Nat.le_of_ble_eq_true rfl, Nat.le_of_ble_eq_true rfl⟩) hK hw b0 rfl rfl hl.1 rfl (Nat.le_of_ble_eq_true rfl) dMo_keep_27 ⟨Nat.le_of_ble_eq_true rfl, Nat.le_of_ble_eq_true rfl⟩ (fun v w1 H locs hq hw => ?_)
  obtain ⟨rfl, hS_, hfr_⟩ := hq
  have hfr : ∀ q, q ≠ b → w1 q = w q := fun q hq => hfr_ q hq
  have hS : moS cI cL w1 b (va_up I 0 0) K S (mC X) := hS_
  have b0 : w1 b = some (.inr (10, [.int (nI (0)), .ref (b + 1), .ref (b + 2), .int (nI (I 3)), .ref (b + 3), .ref (b + 4), .int (nI (I 6)), .int (nI (I 7)), .ref (b + 5), .ref (b + 6), .int (nI (I 10)), .int (nI (I 11)), .int (nI (I 12)), .int (nI (I 13)), .ref (b + 7), .ref (b + 8), .int (nI (I 16)), .int (nI (I 17)), .int (nI (I 18)), .int (nI (I 19))])) := hS.1
  have b1 : w1 (b + 1) = some (.inl (cL, 1536, .inr (.inl (fun i => lN (mC (X) i))))) := hS.2.1
  have b2 : w1 (b + 2) = some (.inl (cI, 24, .inl (S))) := hS.2.2.1
  refine W.eq (g2 := F0 m 30 ls [.int (nI 0)]) rfl ?_
  refine lv_if_ne (pc := 30) (tgt := 53) hx hb dMo_keep_30 (by decide) (fun hc => absurd hc (fun h => h rfl)) (fun _ => ?_)
  refine lv_aload_n (pc := 33) hx hb dMo_keep_33 rfl (lv_at hl 1 rfl) ?_
  refine lv_aload_n (pc := 34) hx hb dMo_keep_34 rfl (lv_at hl 1 rfl) ?_
  refine fw_cVR (pc := 35) (As := []) (rest := [.ref b]) ⟨hx, hb, hml, hown, hW⟩ (c_Mo_hasResult hS h6 h7 h16) (cwV 0 hW (kw_V lm_Mo_196 im_Mo_hasResult se_Mo_hasResult ini_Mo cd_Mo_hasResult) rfl rfl rfl (by decide +kernel) ⟨Nat.le_of_ble_eq_true rfl, Nat.le_of_ble_eq_true rfl⟩) hK hw b0 rfl rfl hl.1 rfl (Nat.le_of_ble_eq_true rfl) dMo_keep_35 ⟨Nat.le_of_ble_eq_true rfl, Nat.le_of_ble_eq_true rfl⟩ (fun v hq => ?_)
  have hq : v = some (.int (nI (if 0 < I 6 ∧ I 16 = I 7 then 1 else 0))) := hq
  rw [if_pos hno] at hq
  subst hq
  refine W.eq (g2 := F0 m 38 ls [.int (nI 1), .ref b]) rfl ?_
  refine lv_if_ne (pc := 38) (tgt := 45) hx hb dMo_keep_38 (by decide) (fun _ => ?_) (fun hc => absurd hc (show ¬ nI 1 = 0 by decide))
  refine lv_iconst (pc := 45) (v := (nI 0)) hx hb dMo_keep_45 (by decide) ?_
  refine lv_iconst (pc := 46) (v := (nI 2)) hx hb dMo_keep_46 (by decide) ?_
  refine fw_cV (pc := 47) (As := [.int (nI 0), .int (nI 2)]) (rest := []) ⟨hx, hb, hml, hown, hW⟩ (c_Mo_fails0 (k := 2) hS) (cwV 2 hW (kw_V lm_Mo_39 im_Mo_fails se_Mo_fails ini_Mo cd_Mo_fails) rfl rfl rfl (by decide +kernel) ⟨Nat.le_of_ble_eq_true rfl, Nat.le_of_ble_eq_true rfl⟩) hK hw b0 rfl rfl hl.1 rfl (Nat.le_of_ble_eq_true rfl) dMo_keep_47 ⟨Nat.le_of_ble_eq_true rfl, Nat.le_of_ble_eq_true rfl⟩ (fun v w2 H locs hq hw => ?_)
  obtain ⟨rfl, hS_, hfr_⟩ := hq
  have hfr : ∀ q, q ≠ b → w2 q = w q := fun q hq => (hfr_ q hq).trans (hfr q hq)
  have hS : moS cI cL w2 b (va_up I 0 0) K S (mC X) := moS.int hS_ (by have h9 := hS_.1; rw [va_upup] at h9; exact h9) (fun q _ => rfl)
  have b0 : w2 b = some (.inr (10, [.int (nI (0)), .ref (b + 1), .ref (b + 2), .int (nI (I 3)), .ref (b + 3), .ref (b + 4), .int (nI (I 6)), .int (nI (I 7)), .ref (b + 5), .ref (b + 6), .int (nI (I 10)), .int (nI (I 11)), .int (nI (I 12)), .int (nI (I 13)), .ref (b + 7), .ref (b + 8), .int (nI (I 16)), .int (nI (I 17)), .int (nI (I 18)), .int (nI (I 19))])) := hS.1
  have b1 : w2 (b + 1) = some (.inl (cL, 1536, .inr (.inl (fun i => lN (mC (X) i))))) := hS.2.1
  have b2 : w2 (b + 2) = some (.inl (cI, 24, .inl (S))) := hS.2.2.1
  refine W.eq (g2 := F0 m 50 ls [.int (nI 0)]) rfl ?_
  refine lv_if_eq (pc := 50) (tgt := 54) hx hb dMo_keep_50 (by decide) (fun _ => ?_) (fun hc => absurd (show nI 0 = 0 by decide) hc)
  refine lv_aload_n (pc := 54) hx hb dMo_keep_54 rfl (lv_at hl 1 rfl) ?_
  refine lv_iconst (pc := 55) (v := (nI 0)) hx hb dMo_keep_55 (by decide) ?_
  refine lv_bipush (pc := 56) (v := (nI 10)) hx hb dMo_keep_56 (by decide) ?_
  refine lv_iload_n (pc := 58) hx hb dMo_keep_58 rfl (lv_at hl 2 rfl) ?_
  refine lv_iadd (pc := 59) hx hb dMo_keep_59 ?_
  rw [show (((nI 10) + nI j) : Int32) = nI (10 + j) from (nI_add 10 j)]
  refine fw_cV (pc := 60) (As := [.int (nI 0), .int (nI (10 + j))]) (rest := []) ⟨hx, hb, hml, hown, hW⟩ (c_Mo_copy (pa := 0) (pc9 := 10 + j) hS hX (by decide) (by omega) (by omega)) (cwV 2 hW (kw_V lm_Mo_143 im_Mo_copy se_Mo_copy ini_Mo cd_Mo_copy) rfl rfl rfl (by decide +kernel) ⟨Nat.le_of_ble_eq_true rfl, Nat.le_of_ble_eq_true rfl⟩) hK hw b0 rfl rfl hl.1 rfl (Nat.le_of_ble_eq_true rfl) dMo_keep_60 ⟨Nat.le_of_ble_eq_true rfl, Nat.le_of_ble_eq_true rfl⟩ (fun v w3 H locs hq hw => ?_)
  obtain ⟨rfl, hS, hn9⟩ := hq
  refine W.eq (g2 := F0 m 63 ls []) rfl ?_
  exact fw_vret (pc := 63) hx hb hr hlocks hw dMo_keep_63 ⟨rfl, hS, fun q h9 => by rw [hn9 q h9, hfr q (by omega)]⟩

set_option maxHeartbeats 4000000 in
set_option maxRecDepth 100000 in
theorem c_Mo_compare {b : Nat} {I : Nat → Nat} {K : Nat → Nat → Nat} {S : Nat → Int32} {X : Nat → Nat} (hS : moS cI cL w b I K S (mC X)) (hX : ∀ p, X p < nM ^ 64) (h6 : I 6 < 2 ^ 31) (h7 : I 7 < 2 ^ 31) (h16 : I 16 < 2 ^ 31) (hno : 0 < I 6 ∧ I 16 = I 7) {j : Nat} {a9 b9 : Int} (hj : j < 8) (ra : X 0 = Int.natAbs a9 ∧ S 0 = sg32 a9) (rb : X (10 + j) = Int.natAbs b9 ∧ S (10 + j) = sg32 b9) : fw_C l yMo_compare (Cond.code yMo_compare cMo_compare 4 (some FieldType.int) :: kWs) ({ frames := 1, cells := 0, slots := 0, locals := 25 } : Room) D kCl (kty cI cL cQ) z [.ref b, .int (nI j)] (sz) w 0 0 (fun v w' => v = some (.int (ordZ a9 b9)) ∧ moS cI cL w' b (va_up I 0 0) K (S) (mC (X)) ∧ ∀ q, q < b ∨ b + 9 ≤ q → w' q = w q) := by
  refine fw_ofW (cc := cMo_compare) (maxL := 4) (ret := (some FieldType.int)) (by decide) rfl (Nat.le_of_ble_eq_true rfl) ?_
  intro p e s m args below meth c hx hb hr hts hown hlocks hname hml hK H ls hw hl
  have hW : ∀ w ∈ kWs, w.before args s = true := fun w h => hts w (List.mem_cons_of_mem _ h)
  have hown : s.vm.findClass RMo = some m.cls := hown
  have hl : lv_has ls 4 [(0, .ref b), (1, .int (nI j))] := hl
  have b0 : w b = some (.inr (10, [.int (nI (I 0)), .ref (b + 1), .ref (b + 2), .int (nI (I 3)), .ref (b + 3), .ref (b + 4), .int (nI (I 6)), .int (nI (I 7)), .ref (b + 5), .ref (b + 6), .int (nI (I 10)), .int (nI (I 11)), .int (nI (I 12)), .int (nI (I 13)), .ref (b + 7), .ref (b + 8), .int (nI (I 16)), .int (nI (I 17)), .int (nI (I 18)), .int (nI (I 19))])) := hS.1
  have b1 : w (b + 1) = some (.inl (cL, 1536, .inr (.inl (fun i => lN (mC X i))))) := hS.2.1
  have b2 : w (b + 2) = some (.inl (cI, 24, .inl (S))) := hS.2.2.1
  have b09 := b0
  have b29 := b2
  refine lv_iload_n (pc := 0) hx hb dMo_compare_0 rfl (lv_at hl 1 rfl) ?_
  refine lv_if_lt (pc := 1) (tgt := 14) hx hb dMo_compare_1 (by decide) (fun hc => absurd hc (nI_pos (by omega))) (fun _ => ?_)
  refine lv_iload_n (pc := 4) hx hb dMo_compare_4 rfl (lv_at hl 1 rfl) ?_
  refine lv_bipush (pc := 5) (v := (nI 8)) hx hb dMo_compare_5 (by decide) ?_
  refine lv_icmp_ge (pc := 7) (tgt := 14) hx hb dMo_compare_7 (by decide) (fun hc => absurd hc (nI_ge (b := 8) hj (by decide))) (fun _ => ?_)
  refine lv_iconst (pc := 10) (v := (nI 1)) hx hb dMo_compare_10 (by decide) ?_
  refine lv_goto (pc := 11) (tgt := 15) hx hb dMo_compare_11 (by decide) ?_
  refine lv_istore_n (pc := 15) (lv' := [(2, .int (nI 1)), (0, .ref b), (1, .int (nI j))]) hx hb dMo_compare_15 rfl hl (by decide) rfl (fun ls hl => ?_)
  refine lv_aload_n (pc := 16) hx hb dMo_compare_16 rfl (lv_at hl 1 rfl) ?_
  refine lv_iload_n (pc := 17) hx hb dMo_compare_17 rfl (lv_at hl 0 rfl) ?_
  refine lv_if_ne (pc := 18) (tgt := 25) hx hb dMo_compare_18 (by decide) (fun _ => ?_) (fun hc => absurd hc (show ¬ nI 1 = 0 by decide))
  refine lv_iconst (pc := 25) (v := (nI 0)) hx hb dMo_compare_25 (by decide) ?_
  refine lv_iconst (pc := 26) (v := (nI 1)) hx hb dMo_compare_26 (by decide) ?_
  refine fw_cV (pc := 27) (As := [.int (nI 0), .int (nI 1)]) (rest := []) ⟨hx, hb, hml, hown, hW⟩ (c_Mo_fails0 (k := 1) hS) (cwV 2 hW (kw_V lm_Mo_39 im_Mo_fails se_Mo_fails ini_Mo cd_Mo_fails) rfl rfl rfl (by decide +kernel) ⟨Nat.le_of_ble_eq_true rfl, Nat.le_of_ble_eq_true rfl⟩) hK hw b0 rfl rfl hl.1 rfl (Nat.le_of_ble_eq_true rfl) dMo_compare_27 ⟨Nat.le_of_ble_eq_true rfl, Nat.le_of_ble_eq_true rfl⟩ (fun v w1 H locs hq hw => ?_)
  obtain ⟨rfl, hS_, hfr_⟩ := hq
  have hfr : ∀ q, q ≠ b → w1 q = w q := fun q hq => hfr_ q hq
  have hS : moS cI cL w1 b (va_up I 0 0) K S (mC X) := hS_
  have b0 : w1 b = some (.inr (10, [.int (nI (0)), .ref (b + 1), .ref (b + 2), .int (nI (I 3)), .ref (b + 3), .ref (b + 4), .int (nI (I 6)), .int (nI (I 7)), .ref (b + 5), .ref (b + 6), .int (nI (I 10)), .int (nI (I 11)), .int (nI (I 12)), .int (nI (I 13)), .ref (b + 7), .ref (b + 8), .int (nI (I 16)), .int (nI (I 17)), .int (nI (I 18)), .int (nI (I 19))])) := hS.1
  have b1 : w1 (b + 1) = some (.inl (cL, 1536, .inr (.inl (fun i => lN (mC (X) i))))) := hS.2.1
  have b2 : w1 (b + 2) = some (.inl (cI, 24, .inl (S))) := hS.2.2.1
  refine W.eq (g2 := F0 m 30 ls [.int (nI 0)]) rfl ?_
  refine lv_if_ne (pc := 30) (tgt := 53) hx hb dMo_compare_30 (by decide) (fun hc => absurd hc (fun h => h rfl)) (fun _ => ?_)
  refine lv_aload_n (pc := 33) hx hb dMo_compare_33 rfl (lv_at hl 1 rfl) ?_
  refine lv_aload_n (pc := 34) hx hb dMo_compare_34 rfl (lv_at hl 1 rfl) ?_
  refine fw_cVR (pc := 35) (As := []) (rest := [.ref b]) ⟨hx, hb, hml, hown, hW⟩ (c_Mo_hasResult hS h6 h7 h16) (cwV 0 hW (kw_V lm_Mo_196 im_Mo_hasResult se_Mo_hasResult ini_Mo cd_Mo_hasResult) rfl rfl rfl (by decide +kernel) ⟨Nat.le_of_ble_eq_true rfl, Nat.le_of_ble_eq_true rfl⟩) hK hw b0 rfl rfl hl.1 rfl (Nat.le_of_ble_eq_true rfl) dMo_compare_35 ⟨Nat.le_of_ble_eq_true rfl, Nat.le_of_ble_eq_true rfl⟩ (fun v hq => ?_)
  have hq : v = some (.int (nI (if 0 < I 6 ∧ I 16 = I 7 then 1 else 0))) := hq
  rw [if_pos hno] at hq
  subst hq
  refine W.eq (g2 := F0 m 38 ls [.int (nI 1), .ref b]) rfl ?_
  refine lv_if_ne (pc := 38) (tgt := 45) hx hb dMo_compare_38 (by decide) (fun _ => ?_) (fun hc => absurd hc (show ¬ nI 1 = 0 by decide))
  refine lv_iconst (pc := 45) (v := (nI 0)) hx hb dMo_compare_45 (by decide) ?_
  refine lv_iconst (pc := 46) (v := (nI 2)) hx hb dMo_compare_46 (by decide) ?_
  refine fw_cV (pc := 47) (As := [.int (nI 0), .int (nI 2)]) (rest := []) ⟨hx, hb, hml, hown, hW⟩ (c_Mo_fails0 (k := 2) hS) (cwV 2 hW (kw_V lm_Mo_39 im_Mo_fails se_Mo_fails ini_Mo cd_Mo_fails) rfl rfl rfl (by decide +kernel) ⟨Nat.le_of_ble_eq_true rfl, Nat.le_of_ble_eq_true rfl⟩) hK hw b0 rfl rfl hl.1 rfl (Nat.le_of_ble_eq_true rfl) dMo_compare_47 ⟨Nat.le_of_ble_eq_true rfl, Nat.le_of_ble_eq_true rfl⟩ (fun v w2 H locs hq hw => ?_)
  obtain ⟨rfl, hS_, hfr_⟩ := hq
  have hfr : ∀ q, q ≠ b → w2 q = w q := fun q hq => (hfr_ q hq).trans (hfr q hq)
  have hS : moS cI cL w2 b (va_up I 0 0) K S (mC X) := moS.int hS_ (by have h9 := hS_.1; rw [va_upup] at h9; exact h9) (fun q _ => rfl)
  have b0 : w2 b = some (.inr (10, [.int (nI (0)), .ref (b + 1), .ref (b + 2), .int (nI (I 3)), .ref (b + 3), .ref (b + 4), .int (nI (I 6)), .int (nI (I 7)), .ref (b + 5), .ref (b + 6), .int (nI (I 10)), .int (nI (I 11)), .int (nI (I 12)), .int (nI (I 13)), .ref (b + 7), .ref (b + 8), .int (nI (I 16)), .int (nI (I 17)), .int (nI (I 18)), .int (nI (I 19))])) := hS.1
  have b1 : w2 (b + 1) = some (.inl (cL, 1536, .inr (.inl (fun i => lN (mC (X) i))))) := hS.2.1
  have b2 : w2 (b + 2) = some (.inl (cI, 24, .inl (S))) := hS.2.2.1
  refine W.eq (g2 := F0 m 50 ls [.int (nI 0)]) rfl ?_
  refine lv_if_eq (pc := 50) (tgt := 55) hx hb dMo_compare_50 (by decide) (fun _ => ?_) (fun hc => absurd (show nI 0 = 0 by decide) hc)
  refine lv_bipush (pc := 55) (v := (nI 10)) hx hb dMo_compare_55 (by decide) ?_
  refine lv_iload_n (pc := 57) hx hb dMo_compare_57 rfl (lv_at hl 2 rfl) ?_
  refine lv_iadd (pc := 58) hx hb dMo_compare_58 ?_
  rw [show (((nI 10) + nI j) : Int32) = nI (10 + j) from (nI_add 10 j)]
  refine lv_istore_n (pc := 59) (lv' := [(3, .int (nI (10 + j))), (2, .int (nI 1)), (0, .ref b), (1, .int (nI j))]) hx hb dMo_compare_59 rfl hl (by decide) rfl (fun ls hl => ?_)
  refine lv_aload_n (pc := 60) hx hb dMo_compare_60 rfl (lv_at hl 2 rfl) ?_
  refine fw_get (pc := 61) (ci := 10) (v := .ref (b + 2)) (C := RMo) (T := TMo) (N := 20) hx hb hW in_Mo hown hK.1 hw b0 rfl 2 (by decide) (hW _ lf_Mo_13) (fun _ h => h) rfl dMo_compare_61 ?_
  refine lv_iconst (pc := 64) (v := (nI 0)) hx hb dMo_compare_64 (by decide) ?_
  refine fw_ialdN (pc := 65) (x := S (0)) hx hb hK.1 hw 0 b2 rfl (0) (by omega) (by decide) rfl dMo_compare_65 ?_
  rw [show (S (0) : Int32) = sg32 a9 from ra.2]
  refine lv_aload_n (pc := 66) hx hb dMo_compare_66 rfl (lv_at hl 2 rfl) ?_
  refine fw_get (pc := 67) (ci := 10) (v := .ref (b + 2)) (C := RMo) (T := TMo) (N := 20) hx hb hW in_Mo hown hK.1 hw b0 rfl 2 (by decide) (hW _ lf_Mo_13) (fun _ h => h) rfl dMo_compare_67 ?_
  refine lv_iload_n (pc := 70) hx hb dMo_compare_70 rfl (lv_at hl 0 rfl) ?_
  refine fw_ialdN (pc := 71) (x := S (10 + j)) hx hb hK.1 hw 0 b2 rfl (10 + j) (by omega) (by decide) rfl dMo_compare_71 ?_
  rw [show (S (10 + j) : Int32) = sg32 b9 from rb.2]
  rcases Int.lt_trichotomy a9 0 with ha90 | ha90 | ha90
  · rcases Int.lt_trichotomy b9 0 with hb90 | hb90 | hb90
    · rw [sg32_n ha90, sg32_n hb90]
      refine lv_icmp_eq (pc := 72) (tgt := 96) hx hb dMo_compare_72 (by decide) (fun _ => ?_) (fun hc => absurd rfl hc)
      refine lv_aload_n (pc := 96) hx hb dMo_compare_96 rfl (lv_at hl 2 rfl) ?_
      refine fw_get (pc := 97) (ci := 10) (v := .ref (b + 2)) (C := RMo) (T := TMo) (N := 20) hx hb hW in_Mo hown hK.1 hw b0 rfl 2 (by decide) (hW _ lf_Mo_13) (fun _ h => h) rfl dMo_compare_97 ?_
      refine lv_iconst (pc := 100) (v := (nI 0)) hx hb dMo_compare_100 (by decide) ?_
      refine fw_ialdN (pc := 101) (x := S (0)) hx hb hK.1 hw 0 b2 rfl (0) (by omega) (by decide) rfl dMo_compare_101 ?_
      rw [show (S (0) : Int32) = sg32 a9 from ra.2]
      rw [show (sg32 a9 : Int32) = (-1) from (sg32_n ha90)]
      refine lv_if_ge (pc := 102) (tgt := 115) hx hb dMo_compare_102 (by decide) (fun hc => absurd hc (by decide)) (fun _ => ?_)
      refine lv_aload_n (pc := 105) hx hb dMo_compare_105 rfl (lv_at hl 2 rfl) ?_
      refine lv_iconst (pc := 106) (v := (nI 0)) hx hb dMo_compare_106 (by decide) ?_
      refine lv_iload_n (pc := 107) hx hb dMo_compare_107 rfl (lv_at hl 0 rfl) ?_
      refine fw_cVR (pc := 108) (As := [.int (nI 0), .int (nI (10 + j))]) (rest := []) ⟨hx, hb, hml, hown, hW⟩ (c_Mo_order (pa := 0) (pb := 10 + j) hS hX (by decide) (by omega)) (cwV 2 hW (kw_V lm_Mo_149 im_Mo_order se_Mo_order ini_Mo cd_Mo_order) rfl rfl rfl (by decide +kernel) ⟨Nat.le_of_ble_eq_true rfl, Nat.le_of_ble_eq_true rfl⟩) hK hw b0 rfl rfl hl.1 rfl (Nat.le_of_ble_eq_true rfl) dMo_compare_108 ⟨Nat.le_of_ble_eq_true rfl, Nat.le_of_ble_eq_true rfl⟩ (fun v hq => ?_)
      rw [ra.1, rb.1] at hq
      subst hq
      refine W.eq (g2 := F0 m 111 ls [.int (ordI (Int.natAbs a9) (Int.natAbs b9))]) rfl ?_
      refine lv_ineg (pc := 111) hx hb dMo_compare_111 ?_
      refine lv_goto (pc := 112) (tgt := 121) hx hb dMo_compare_112 (by decide) ?_
      exact fw_iret (pc := 121) hx hb hr hlocks hw dMo_compare_121 ⟨by rw [ordZ_neg, show -((Int.natAbs a9 : Nat) : Int) = a9 by omega, show -((Int.natAbs b9 : Nat) : Int) = b9 by omega], hS, (fun q h9 => hfr q (by omega))⟩
    · rw [sg32_n ha90, sg32_z hb90]
      refine lv_icmp_eq (pc := 72) (tgt := 96) hx hb dMo_compare_72 (by decide) (fun hc => absurd hc (by decide)) (fun _ => ?_)
      refine lv_aload_n (pc := 75) hx hb dMo_compare_75 rfl (lv_at hl 2 rfl) ?_
      refine fw_get (pc := 76) (ci := 10) (v := .ref (b + 2)) (C := RMo) (T := TMo) (N := 20) hx hb hW in_Mo hown hK.1 hw b0 rfl 2 (by decide) (hW _ lf_Mo_13) (fun _ h => h) rfl dMo_compare_76 ?_
      refine lv_iconst (pc := 79) (v := (nI 0)) hx hb dMo_compare_79 (by decide) ?_
      refine fw_ialdN (pc := 80) (x := S (0)) hx hb hK.1 hw 0 b2 rfl (0) (by omega) (by decide) rfl dMo_compare_80 ?_
      rw [show (S (0) : Int32) = sg32 a9 from ra.2]
      rw [show (sg32 a9 : Int32) = (-1) from (sg32_n ha90)]
      refine lv_aload_n (pc := 81) hx hb dMo_compare_81 rfl (lv_at hl 2 rfl) ?_
      refine fw_get (pc := 82) (ci := 10) (v := .ref (b + 2)) (C := RMo) (T := TMo) (N := 20) hx hb hW in_Mo hown hK.1 hw b0 rfl 2 (by decide) (hW _ lf_Mo_13) (fun _ h => h) rfl dMo_compare_82 ?_
      refine lv_iload_n (pc := 85) hx hb dMo_compare_85 rfl (lv_at hl 0 rfl) ?_
      refine fw_ialdN (pc := 86) (x := S (10 + j)) hx hb hK.1 hw 0 b2 rfl (10 + j) (by omega) (by decide) rfl dMo_compare_86 ?_
      rw [show (S (10 + j) : Int32) = sg32 b9 from rb.2]
      rw [show (sg32 b9 : Int32) = nI 0 from (sg32_z hb90)]
      refine lv_icmp_ge (pc := 87) (tgt := 94) hx hb dMo_compare_87 (by decide) (fun hc => absurd hc (by decide)) (fun _ => ?_)
      refine lv_iconst (pc := 90) (v := (-1)) hx hb dMo_compare_90 (by decide) ?_
      refine lv_goto (pc := 91) (tgt := 95) hx hb dMo_compare_91 (by decide) ?_
      exact fw_iret (pc := 95) hx hb hr hlocks hw dMo_compare_95 ⟨by rw [ordZ_lt (by omega)], hS, (fun q h9 => hfr q (by omega))⟩
    · rw [sg32_n ha90, sg32_p hb90]
      refine lv_icmp_eq (pc := 72) (tgt := 96) hx hb dMo_compare_72 (by decide) (fun hc => absurd hc (by decide)) (fun _ => ?_)
      refine lv_aload_n (pc := 75) hx hb dMo_compare_75 rfl (lv_at hl 2 rfl) ?_
      refine fw_get (pc := 76) (ci := 10) (v := .ref (b + 2)) (C := RMo) (T := TMo) (N := 20) hx hb hW in_Mo hown hK.1 hw b0 rfl 2 (by decide) (hW _ lf_Mo_13) (fun _ h => h) rfl dMo_compare_76 ?_
      refine lv_iconst (pc := 79) (v := (nI 0)) hx hb dMo_compare_79 (by decide) ?_
      refine fw_ialdN (pc := 80) (x := S (0)) hx hb hK.1 hw 0 b2 rfl (0) (by omega) (by decide) rfl dMo_compare_80 ?_
      rw [show (S (0) : Int32) = sg32 a9 from ra.2]
      rw [show (sg32 a9 : Int32) = (-1) from (sg32_n ha90)]
      refine lv_aload_n (pc := 81) hx hb dMo_compare_81 rfl (lv_at hl 2 rfl) ?_
      refine fw_get (pc := 82) (ci := 10) (v := .ref (b + 2)) (C := RMo) (T := TMo) (N := 20) hx hb hW in_Mo hown hK.1 hw b0 rfl 2 (by decide) (hW _ lf_Mo_13) (fun _ h => h) rfl dMo_compare_82 ?_
      refine lv_iload_n (pc := 85) hx hb dMo_compare_85 rfl (lv_at hl 0 rfl) ?_
      refine fw_ialdN (pc := 86) (x := S (10 + j)) hx hb hK.1 hw 0 b2 rfl (10 + j) (by omega) (by decide) rfl dMo_compare_86 ?_
      rw [show (S (10 + j) : Int32) = sg32 b9 from rb.2]
      rw [show (sg32 b9 : Int32) = nI 1 from (sg32_p hb90)]
      refine lv_icmp_ge (pc := 87) (tgt := 94) hx hb dMo_compare_87 (by decide) (fun hc => absurd hc (by decide)) (fun _ => ?_)
      refine lv_iconst (pc := 90) (v := (-1)) hx hb dMo_compare_90 (by decide) ?_
      refine lv_goto (pc := 91) (tgt := 95) hx hb dMo_compare_91 (by decide) ?_
      exact fw_iret (pc := 95) hx hb hr hlocks hw dMo_compare_95 ⟨by rw [ordZ_lt (by omega)], hS, (fun q h9 => hfr q (by omega))⟩
  · rcases Int.lt_trichotomy b9 0 with hb90 | hb90 | hb90
    · rw [sg32_z ha90, sg32_n hb90]
      refine lv_icmp_eq (pc := 72) (tgt := 96) hx hb dMo_compare_72 (by decide) (fun hc => absurd hc (by decide)) (fun _ => ?_)
      refine lv_aload_n (pc := 75) hx hb dMo_compare_75 rfl (lv_at hl 2 rfl) ?_
      refine fw_get (pc := 76) (ci := 10) (v := .ref (b + 2)) (C := RMo) (T := TMo) (N := 20) hx hb hW in_Mo hown hK.1 hw b0 rfl 2 (by decide) (hW _ lf_Mo_13) (fun _ h => h) rfl dMo_compare_76 ?_
      refine lv_iconst (pc := 79) (v := (nI 0)) hx hb dMo_compare_79 (by decide) ?_
      refine fw_ialdN (pc := 80) (x := S (0)) hx hb hK.1 hw 0 b2 rfl (0) (by omega) (by decide) rfl dMo_compare_80 ?_
      rw [show (S (0) : Int32) = sg32 a9 from ra.2]
      rw [show (sg32 a9 : Int32) = nI 0 from (sg32_z ha90)]
      refine lv_aload_n (pc := 81) hx hb dMo_compare_81 rfl (lv_at hl 2 rfl) ?_
      refine fw_get (pc := 82) (ci := 10) (v := .ref (b + 2)) (C := RMo) (T := TMo) (N := 20) hx hb hW in_Mo hown hK.1 hw b0 rfl 2 (by decide) (hW _ lf_Mo_13) (fun _ h => h) rfl dMo_compare_82 ?_
      refine lv_iload_n (pc := 85) hx hb dMo_compare_85 rfl (lv_at hl 0 rfl) ?_
      refine fw_ialdN (pc := 86) (x := S (10 + j)) hx hb hK.1 hw 0 b2 rfl (10 + j) (by omega) (by decide) rfl dMo_compare_86 ?_
      rw [show (S (10 + j) : Int32) = sg32 b9 from rb.2]
      rw [show (sg32 b9 : Int32) = (-1) from (sg32_n hb90)]
      refine lv_icmp_ge (pc := 87) (tgt := 94) hx hb dMo_compare_87 (by decide) (fun _ => ?_) (fun hc => absurd (by decide) hc)
      refine lv_iconst (pc := 94) (v := (nI 1)) hx hb dMo_compare_94 (by decide) ?_
      exact fw_iret (pc := 95) hx hb hr hlocks hw dMo_compare_95 ⟨by rw [ordZ_gt (by omega)], hS, (fun q h9 => hfr q (by omega))⟩
    · rw [sg32_z ha90, sg32_z hb90]
      refine lv_icmp_eq (pc := 72) (tgt := 96) hx hb dMo_compare_72 (by decide) (fun _ => ?_) (fun hc => absurd rfl hc)
      refine lv_aload_n (pc := 96) hx hb dMo_compare_96 rfl (lv_at hl 2 rfl) ?_
      refine fw_get (pc := 97) (ci := 10) (v := .ref (b + 2)) (C := RMo) (T := TMo) (N := 20) hx hb hW in_Mo hown hK.1 hw b0 rfl 2 (by decide) (hW _ lf_Mo_13) (fun _ h => h) rfl dMo_compare_97 ?_
      refine lv_iconst (pc := 100) (v := (nI 0)) hx hb dMo_compare_100 (by decide) ?_
      refine fw_ialdN (pc := 101) (x := S (0)) hx hb hK.1 hw 0 b2 rfl (0) (by omega) (by decide) rfl dMo_compare_101 ?_
      rw [show (S (0) : Int32) = sg32 a9 from ra.2]
      rw [show (sg32 a9 : Int32) = nI 0 from (sg32_z ha90)]
      refine lv_if_ge (pc := 102) (tgt := 115) hx hb dMo_compare_102 (by decide) (fun _ => ?_) (fun hc => absurd (by decide) hc)
      refine lv_aload_n (pc := 115) hx hb dMo_compare_115 rfl (lv_at hl 2 rfl) ?_
      refine lv_iconst (pc := 116) (v := (nI 0)) hx hb dMo_compare_116 (by decide) ?_
      refine lv_iload_n (pc := 117) hx hb dMo_compare_117 rfl (lv_at hl 0 rfl) ?_
      refine fw_cVR (pc := 118) (As := [.int (nI 0), .int (nI (10 + j))]) (rest := []) ⟨hx, hb, hml, hown, hW⟩ (c_Mo_order (pa := 0) (pb := 10 + j) hS hX (by decide) (by omega)) (cwV 2 hW (kw_V lm_Mo_149 im_Mo_order se_Mo_order ini_Mo cd_Mo_order) rfl rfl rfl (by decide +kernel) ⟨Nat.le_of_ble_eq_true rfl, Nat.le_of_ble_eq_true rfl⟩) hK hw b0 rfl rfl hl.1 rfl (Nat.le_of_ble_eq_true rfl) dMo_compare_118 ⟨Nat.le_of_ble_eq_true rfl, Nat.le_of_ble_eq_true rfl⟩ (fun v hq => ?_)
      rw [ra.1, rb.1] at hq
      subst hq
      refine W.eq (g2 := F0 m 121 ls [.int (ordI (Int.natAbs a9) (Int.natAbs b9))]) rfl ?_
      exact fw_iret (pc := 121) hx hb hr hlocks hw dMo_compare_121 ⟨by rw [ordZ_n, show ((Int.natAbs a9 : Nat) : Int) = a9 by omega, show ((Int.natAbs b9 : Nat) : Int) = b9 by omega], hS, (fun q h9 => hfr q (by omega))⟩
    · rw [sg32_z ha90, sg32_p hb90]
      refine lv_icmp_eq (pc := 72) (tgt := 96) hx hb dMo_compare_72 (by decide) (fun hc => absurd hc (by decide)) (fun _ => ?_)
      refine lv_aload_n (pc := 75) hx hb dMo_compare_75 rfl (lv_at hl 2 rfl) ?_
      refine fw_get (pc := 76) (ci := 10) (v := .ref (b + 2)) (C := RMo) (T := TMo) (N := 20) hx hb hW in_Mo hown hK.1 hw b0 rfl 2 (by decide) (hW _ lf_Mo_13) (fun _ h => h) rfl dMo_compare_76 ?_
      refine lv_iconst (pc := 79) (v := (nI 0)) hx hb dMo_compare_79 (by decide) ?_
      refine fw_ialdN (pc := 80) (x := S (0)) hx hb hK.1 hw 0 b2 rfl (0) (by omega) (by decide) rfl dMo_compare_80 ?_
      rw [show (S (0) : Int32) = sg32 a9 from ra.2]
      rw [show (sg32 a9 : Int32) = nI 0 from (sg32_z ha90)]
      refine lv_aload_n (pc := 81) hx hb dMo_compare_81 rfl (lv_at hl 2 rfl) ?_
      refine fw_get (pc := 82) (ci := 10) (v := .ref (b + 2)) (C := RMo) (T := TMo) (N := 20) hx hb hW in_Mo hown hK.1 hw b0 rfl 2 (by decide) (hW _ lf_Mo_13) (fun _ h => h) rfl dMo_compare_82 ?_
      refine lv_iload_n (pc := 85) hx hb dMo_compare_85 rfl (lv_at hl 0 rfl) ?_
      refine fw_ialdN (pc := 86) (x := S (10 + j)) hx hb hK.1 hw 0 b2 rfl (10 + j) (by omega) (by decide) rfl dMo_compare_86 ?_
      rw [show (S (10 + j) : Int32) = sg32 b9 from rb.2]
      rw [show (sg32 b9 : Int32) = nI 1 from (sg32_p hb90)]
      refine lv_icmp_ge (pc := 87) (tgt := 94) hx hb dMo_compare_87 (by decide) (fun hc => absurd hc (by decide)) (fun _ => ?_)
      refine lv_iconst (pc := 90) (v := (-1)) hx hb dMo_compare_90 (by decide) ?_
      refine lv_goto (pc := 91) (tgt := 95) hx hb dMo_compare_91 (by decide) ?_
      exact fw_iret (pc := 95) hx hb hr hlocks hw dMo_compare_95 ⟨by rw [ordZ_lt (by omega)], hS, (fun q h9 => hfr q (by omega))⟩
  · rcases Int.lt_trichotomy b9 0 with hb90 | hb90 | hb90
    · rw [sg32_p ha90, sg32_n hb90]
      refine lv_icmp_eq (pc := 72) (tgt := 96) hx hb dMo_compare_72 (by decide) (fun hc => absurd hc (by decide)) (fun _ => ?_)
      refine lv_aload_n (pc := 75) hx hb dMo_compare_75 rfl (lv_at hl 2 rfl) ?_
      refine fw_get (pc := 76) (ci := 10) (v := .ref (b + 2)) (C := RMo) (T := TMo) (N := 20) hx hb hW in_Mo hown hK.1 hw b0 rfl 2 (by decide) (hW _ lf_Mo_13) (fun _ h => h) rfl dMo_compare_76 ?_
      refine lv_iconst (pc := 79) (v := (nI 0)) hx hb dMo_compare_79 (by decide) ?_
      refine fw_ialdN (pc := 80) (x := S (0)) hx hb hK.1 hw 0 b2 rfl (0) (by omega) (by decide) rfl dMo_compare_80 ?_
      rw [show (S (0) : Int32) = sg32 a9 from ra.2]
      rw [show (sg32 a9 : Int32) = nI 1 from (sg32_p ha90)]
      refine lv_aload_n (pc := 81) hx hb dMo_compare_81 rfl (lv_at hl 2 rfl) ?_
      refine fw_get (pc := 82) (ci := 10) (v := .ref (b + 2)) (C := RMo) (T := TMo) (N := 20) hx hb hW in_Mo hown hK.1 hw b0 rfl 2 (by decide) (hW _ lf_Mo_13) (fun _ h => h) rfl dMo_compare_82 ?_
      refine lv_iload_n (pc := 85) hx hb dMo_compare_85 rfl (lv_at hl 0 rfl) ?_
      refine fw_ialdN (pc := 86) (x := S (10 + j)) hx hb hK.1 hw 0 b2 rfl (10 + j) (by omega) (by decide) rfl dMo_compare_86 ?_
      rw [show (S (10 + j) : Int32) = sg32 b9 from rb.2]
      rw [show (sg32 b9 : Int32) = (-1) from (sg32_n hb90)]
      refine lv_icmp_ge (pc := 87) (tgt := 94) hx hb dMo_compare_87 (by decide) (fun _ => ?_) (fun hc => absurd (by decide) hc)
      refine lv_iconst (pc := 94) (v := (nI 1)) hx hb dMo_compare_94 (by decide) ?_
      exact fw_iret (pc := 95) hx hb hr hlocks hw dMo_compare_95 ⟨by rw [ordZ_gt (by omega)], hS, (fun q h9 => hfr q (by omega))⟩
    · rw [sg32_p ha90, sg32_z hb90]
      refine lv_icmp_eq (pc := 72) (tgt := 96) hx hb dMo_compare_72 (by decide) (fun hc => absurd hc (by decide)) (fun _ => ?_)
      refine lv_aload_n (pc := 75) hx hb dMo_compare_75 rfl (lv_at hl 2 rfl) ?_
      refine fw_get (pc := 76) (ci := 10) (v := .ref (b + 2)) (C := RMo) (T := TMo) (N := 20) hx hb hW in_Mo hown hK.1 hw b0 rfl 2 (by decide) (hW _ lf_Mo_13) (fun _ h => h) rfl dMo_compare_76 ?_
      refine lv_iconst (pc := 79) (v := (nI 0)) hx hb dMo_compare_79 (by decide) ?_
      refine fw_ialdN (pc := 80) (x := S (0)) hx hb hK.1 hw 0 b2 rfl (0) (by omega) (by decide) rfl dMo_compare_80 ?_
      rw [show (S (0) : Int32) = sg32 a9 from ra.2]
      rw [show (sg32 a9 : Int32) = nI 1 from (sg32_p ha90)]
      refine lv_aload_n (pc := 81) hx hb dMo_compare_81 rfl (lv_at hl 2 rfl) ?_
      refine fw_get (pc := 82) (ci := 10) (v := .ref (b + 2)) (C := RMo) (T := TMo) (N := 20) hx hb hW in_Mo hown hK.1 hw b0 rfl 2 (by decide) (hW _ lf_Mo_13) (fun _ h => h) rfl dMo_compare_82 ?_
      refine lv_iload_n (pc := 85) hx hb dMo_compare_85 rfl (lv_at hl 0 rfl) ?_
      refine fw_ialdN (pc := 86) (x := S (10 + j)) hx hb hK.1 hw 0 b2 rfl (10 + j) (by omega) (by decide) rfl dMo_compare_86 ?_
      rw [show (S (10 + j) : Int32) = sg32 b9 from rb.2]
      rw [show (sg32 b9 : Int32) = nI 0 from (sg32_z hb90)]
      refine lv_icmp_ge (pc := 87) (tgt := 94) hx hb dMo_compare_87 (by decide) (fun _ => ?_) (fun hc => absurd (by decide) hc)
      refine lv_iconst (pc := 94) (v := (nI 1)) hx hb dMo_compare_94 (by decide) ?_
      exact fw_iret (pc := 95) hx hb hr hlocks hw dMo_compare_95 ⟨by rw [ordZ_gt (by omega)], hS, (fun q h9 => hfr q (by omega))⟩
    · rw [sg32_p ha90, sg32_p hb90]
      refine lv_icmp_eq (pc := 72) (tgt := 96) hx hb dMo_compare_72 (by decide) (fun _ => ?_) (fun hc => absurd rfl hc)
      refine lv_aload_n (pc := 96) hx hb dMo_compare_96 rfl (lv_at hl 2 rfl) ?_
      refine fw_get (pc := 97) (ci := 10) (v := .ref (b + 2)) (C := RMo) (T := TMo) (N := 20) hx hb hW in_Mo hown hK.1 hw b0 rfl 2 (by decide) (hW _ lf_Mo_13) (fun _ h => h) rfl dMo_compare_97 ?_
      refine lv_iconst (pc := 100) (v := (nI 0)) hx hb dMo_compare_100 (by decide) ?_
      refine fw_ialdN (pc := 101) (x := S (0)) hx hb hK.1 hw 0 b2 rfl (0) (by omega) (by decide) rfl dMo_compare_101 ?_
      rw [show (S (0) : Int32) = sg32 a9 from ra.2]
      rw [show (sg32 a9 : Int32) = nI 1 from (sg32_p ha90)]
      refine lv_if_ge (pc := 102) (tgt := 115) hx hb dMo_compare_102 (by decide) (fun _ => ?_) (fun hc => absurd (by decide) hc)
      refine lv_aload_n (pc := 115) hx hb dMo_compare_115 rfl (lv_at hl 2 rfl) ?_
      refine lv_iconst (pc := 116) (v := (nI 0)) hx hb dMo_compare_116 (by decide) ?_
      refine lv_iload_n (pc := 117) hx hb dMo_compare_117 rfl (lv_at hl 0 rfl) ?_
      refine fw_cVR (pc := 118) (As := [.int (nI 0), .int (nI (10 + j))]) (rest := []) ⟨hx, hb, hml, hown, hW⟩ (c_Mo_order (pa := 0) (pb := 10 + j) hS hX (by decide) (by omega)) (cwV 2 hW (kw_V lm_Mo_149 im_Mo_order se_Mo_order ini_Mo cd_Mo_order) rfl rfl rfl (by decide +kernel) ⟨Nat.le_of_ble_eq_true rfl, Nat.le_of_ble_eq_true rfl⟩) hK hw b0 rfl rfl hl.1 rfl (Nat.le_of_ble_eq_true rfl) dMo_compare_118 ⟨Nat.le_of_ble_eq_true rfl, Nat.le_of_ble_eq_true rfl⟩ (fun v hq => ?_)
      rw [ra.1, rb.1] at hq
      subst hq
      refine W.eq (g2 := F0 m 121 ls [.int (ordI (Int.natAbs a9) (Int.natAbs b9))]) rfl ?_
      exact fw_iret (pc := 121) hx hb hr hlocks hw dMo_compare_121 ⟨by rw [ordZ_n, show ((Int.natAbs a9 : Nat) : Int) = a9 by omega, show ((Int.natAbs b9 : Nat) : Int) = b9 by omega], hS, (fun q h9 => hfr q (by omega))⟩

set_option maxHeartbeats 4000000 in
set_option maxRecDepth 100000 in
theorem c_Mo_limb {b : Nat} {I : Nat → Nat} {K : Nat → Nat → Nat} {S : Nat → Int32} {X : Nat → Nat} (hS : moS cI cL w b I K S (mC X)) (hX : ∀ p, X p < nM ^ 64) (h6 : I 6 < 2 ^ 31) (h7 : I 7 < 2 ^ 31) (h16 : I 16 < 2 ^ 31) (hno : 0 < I 6 ∧ I 16 = I 7) {i : Nat} (hi : i < 24) : fw_C l yMo_limb (Cond.code yMo_limb cMo_limb 5 (some FieldType.long) :: kWs) ({ frames := 1, cells := 0, slots := 0, locals := 22 } : Room) D kCl (kty cI cL cQ) z [.ref b, .int (nI i)] (sz) w 0 0 (fun v w' => v = some (.long (lN (X 0 / nB ^ i % nB))) ∧ moS cI cL w' b (va_up I 0 0) K (S) (mC (X)) ∧ ∀ q, q < b ∨ b + 9 ≤ q → w' q = w q) := by
  refine fw_ofW (cc := cMo_limb) (maxL := 5) (ret := (some FieldType.long)) (by decide) rfl (Nat.le_of_ble_eq_true rfl) ?_
  intro p e s m args below meth c hx hb hr hts hown hlocks hname hml hK H ls hw hl
  have hW : ∀ w ∈ kWs, w.before args s = true := fun w h => hts w (List.mem_cons_of_mem _ h)
  have hown : s.vm.findClass RMo = some m.cls := hown
  have hl : lv_has ls 5 [(0, .ref b), (1, .int (nI i))] := hl
  have b0 : w b = some (.inr (10, [.int (nI (I 0)), .ref (b + 1), .ref (b + 2), .int (nI (I 3)), .ref (b + 3), .ref (b + 4), .int (nI (I 6)), .int (nI (I 7)), .ref (b + 5), .ref (b + 6), .int (nI (I 10)), .int (nI (I 11)), .int (nI (I 12)), .int (nI (I 13)), .ref (b + 7), .ref (b + 8), .int (nI (I 16)), .int (nI (I 17)), .int (nI (I 18)), .int (nI (I 19))])) := hS.1
  have b1 : w (b + 1) = some (.inl (cL, 1536, .inr (.inl (fun i => lN (mC X i))))) := hS.2.1
  have b2 : w (b + 2) = some (.inl (cI, 24, .inl (S))) := hS.2.2.1
  have b09 := b0
  have b29 := b2
  refine lv_aload_n (pc := 0) hx hb dMo_limb_0 rfl (lv_at hl 0 rfl) ?_
  refine lv_aload_n (pc := 1) hx hb dMo_limb_1 rfl (lv_at hl 0 rfl) ?_
  refine fw_cVR (pc := 2) (As := []) (rest := [.ref b]) ⟨hx, hb, hml, hown, hW⟩ (c_Mo_hasResult hS h6 h7 h16) (cwV 0 hW (kw_V lm_Mo_196 im_Mo_hasResult se_Mo_hasResult ini_Mo cd_Mo_hasResult) rfl rfl rfl (by decide +kernel) ⟨Nat.le_of_ble_eq_true rfl, Nat.le_of_ble_eq_true rfl⟩) hK hw b0 rfl rfl hl.1 rfl (Nat.le_of_ble_eq_true rfl) dMo_limb_2 ⟨Nat.le_of_ble_eq_true rfl, Nat.le_of_ble_eq_true rfl⟩ (fun v hq => ?_)
  have hq : v = some (.int (nI (if 0 < I 6 ∧ I 16 = I 7 then 1 else 0))) := hq
  rw [if_pos hno] at hq
  subst hq
  refine W.eq (g2 := F0 m 5 ls [.int (nI 1), .ref b]) rfl ?_
  refine lv_if_ne (pc := 5) (tgt := 12) hx hb dMo_limb_5 (by decide) (fun _ => ?_) (fun hc => absurd hc (show ¬ nI 1 = 0 by decide))
  refine lv_iconst (pc := 12) (v := (nI 0)) hx hb dMo_limb_12 (by decide) ?_
  refine lv_iconst (pc := 13) (v := (nI 1)) hx hb dMo_limb_13 (by decide) ?_
  refine fw_cV (pc := 14) (As := [.int (nI 0), .int (nI 1)]) (rest := []) ⟨hx, hb, hml, hown, hW⟩ (c_Mo_fails0 (k := 1) hS) (cwV 2 hW (kw_V lm_Mo_39 im_Mo_fails se_Mo_fails ini_Mo cd_Mo_fails) rfl rfl rfl (by decide +kernel) ⟨Nat.le_of_ble_eq_true rfl, Nat.le_of_ble_eq_true rfl⟩) hK hw b0 rfl rfl hl.1 rfl (Nat.le_of_ble_eq_true rfl) dMo_limb_14 ⟨Nat.le_of_ble_eq_true rfl, Nat.le_of_ble_eq_true rfl⟩ (fun v w201 H locs hq hw => ?_)
  obtain ⟨rfl, hS_, hfr_⟩ := hq
  have hfr : ∀ q, q ≠ b → w201 q = w q := fun q hq => hfr_ q hq
  have hS : moS cI cL w201 b (va_up I 0 0) K S (mC X) := hS_
  have b0 : w201 b = some (.inr (10, [.int (nI (0)), .ref (b + 1), .ref (b + 2), .int (nI (I 3)), .ref (b + 3), .ref (b + 4), .int (nI (I 6)), .int (nI (I 7)), .ref (b + 5), .ref (b + 6), .int (nI (I 10)), .int (nI (I 11)), .int (nI (I 12)), .int (nI (I 13)), .ref (b + 7), .ref (b + 8), .int (nI (I 16)), .int (nI (I 17)), .int (nI (I 18)), .int (nI (I 19))])) := hS.1
  have b1 : w201 (b + 1) = some (.inl (cL, 1536, .inr (.inl (fun i => lN (mC (X) i))))) := hS.2.1
  have b2 : w201 (b + 2) = some (.inl (cI, 24, .inl (S))) := hS.2.2.1
  refine W.eq (g2 := F0 m 17 ls [.int (nI 0)]) rfl ?_
  refine lv_if_ne (pc := 17) (tgt := 43) hx hb dMo_limb_17 (by decide) (fun hc => absurd hc (fun h => h rfl)) (fun _ => ?_)
  refine lv_aload_n (pc := 20) hx hb dMo_limb_20 rfl (lv_at hl 0 rfl) ?_
  refine lv_iload_n (pc := 21) hx hb dMo_limb_21 rfl (lv_at hl 1 rfl) ?_
  refine lv_if_lt (pc := 22) (tgt := 31) hx hb dMo_limb_22 (by decide) (fun hc => absurd hc (nI_pos (by omega))) (fun _ => ?_)
  refine lv_iload_n (pc := 25) hx hb dMo_limb_25 rfl (lv_at hl 1 rfl) ?_
  refine lv_bipush (pc := 26) (v := (nI 23)) hx hb dMo_limb_26 (by decide) ?_
  refine lv_icmp_le (pc := 28) (tgt := 35) hx hb dMo_limb_28 (by decide) (fun _ => ?_) (fun hc => absurd (nI_le (b := 23) (show i ≤ 23 by omega) (by decide)) hc)
  refine lv_iconst (pc := 35) (v := (nI 0)) hx hb dMo_limb_35 (by decide) ?_
  refine lv_iconst (pc := 36) (v := (nI 2)) hx hb dMo_limb_36 (by decide) ?_
  refine fw_cV (pc := 37) (As := [.int (nI 0), .int (nI 2)]) (rest := []) ⟨hx, hb, hml, hown, hW⟩ (c_Mo_fails0 (k := 2) hS) (cwV 2 hW (kw_V lm_Mo_39 im_Mo_fails se_Mo_fails ini_Mo cd_Mo_fails) rfl rfl rfl (by decide +kernel) ⟨Nat.le_of_ble_eq_true rfl, Nat.le_of_ble_eq_true rfl⟩) hK hw b0 rfl rfl hl.1 rfl (Nat.le_of_ble_eq_true rfl) dMo_limb_37 ⟨Nat.le_of_ble_eq_true rfl, Nat.le_of_ble_eq_true rfl⟩ (fun v w202 H locs hq hw => ?_)
  obtain ⟨rfl, hS_, hfr_⟩ := hq
  have hfr : ∀ q, q ≠ b → w202 q = w q := fun q hq => (hfr_ q hq).trans (hfr q hq)
  have hS : moS cI cL w202 b (va_up I 0 0) K S (mC X) := moS.int hS_ (by have h9 := hS_.1; rw [va_upup] at h9; exact h9) (fun q _ => rfl)
  have b0 : w202 b = some (.inr (10, [.int (nI (0)), .ref (b + 1), .ref (b + 2), .int (nI (I 3)), .ref (b + 3), .ref (b + 4), .int (nI (I 6)), .int (nI (I 7)), .ref (b + 5), .ref (b + 6), .int (nI (I 10)), .int (nI (I 11)), .int (nI (I 12)), .int (nI (I 13)), .ref (b + 7), .ref (b + 8), .int (nI (I 16)), .int (nI (I 17)), .int (nI (I 18)), .int (nI (I 19))])) := hS.1
  have b1 : w202 (b + 1) = some (.inl (cL, 1536, .inr (.inl (fun i => lN (mC (X) i))))) := hS.2.1
  have b2 : w202 (b + 2) = some (.inl (cI, 24, .inl (S))) := hS.2.2.1
  refine W.eq (g2 := F0 m 40 ls [.int (nI 0)]) rfl ?_
  refine lv_if_eq (pc := 40) (tgt := 45) hx hb dMo_limb_40 (by decide) (fun _ => ?_) (fun hc => absurd (show nI 0 = 0 by decide) hc)
  refine lv_lconst (pc := 45) (v := lN 0) hx hb dMo_limb_45 (by decide) ?_
  refine lv_lstore_n (pc := 46) (lv' := [(2, .long (lN 0)), (0, .ref b), (1, .int (nI i))]) hx hb dMo_limb_46 rfl hl (by decide) rfl (fun ls hl => ?_)
  refine lv_bipush (pc := 47) (v := (nI 31)) hx hb dMo_limb_47 (by decide) ?_
  rw [show ((nI 31) : Int32) = nI 32 - nI 1 from (by decide)]
  refine lv_istore (pc := 49) (lv' := [(4, .int (nI 32 - nI 1)), (2, .long (lN 0)), (0, .ref b), (1, .int (nI i))]) hx hb dMo_limb_49 hl (by decide) rfl (fun ls hl => ?_)
  have loop : ∀ (k1 vl : Nat), k1 ≤ 32 → vl = X 0 / 2 ^ (32 * i + k1) % 2 ^ (32 - k1) → ∀ (ls : Array Slot), lv_has ls 5 [(4, .int (nI k1 - nI 1)), (2, .long (lN vl)), (0, .ref b), (1, .int (nI i))] → W p l e ({ frames := 1, cells := 0, slots := 0, locals := 22 } : Room) s m args below meth c H locs 0 0 (MQ below (fw_Q D kCl w (sz) 0 (fun v w' => v = some (.long (lN (X 0 / nB ^ i % nB))) ∧ moS cI cL w' b (va_up I 0 0) K (S) (mC (X)) ∧ ∀ q, q < b ∨ b + 9 ≤ q → w' q = w q)) args s 0 0 (fw_A w (sz))) (F0 m 51 ls []) := by
    intro k1
    induction k1 with
    | zero =>
      intro vl hk hv ls hl
      refine lv_iload (pc := 51) hx hb dMo_limb_51 (lv_at hl 0 rfl) ?_
      refine lv_if_lt (pc := 53) (tgt := 82) hx hb dMo_limb_53 (by decide) (fun _ => ?_) (fun hc => absurd (show nI 0 - nI 1 < 0 by decide) hc)
      refine lv_lload_n (pc := 82) hx hb dMo_limb_82 rfl (lv_at hl 1 rfl) ?_
      exact fw_lret (pc := 83) hx hb hr hlocks hw dMo_limb_83 ⟨by rw [hv, Nat.add_zero, Nat.pow_mul], hS, (fun q h9 => hfr q (by omega))⟩
    | succ k ih =>
      intro vl hk hv ls hl
      rw [show nI (k + 1) - nI 1 = nI k from nI_pred k] at hl
      have hvl : vl < 2 ^ 32 := by rw [hv]; exact Nat.lt_of_lt_of_le (Nat.mod_lt _ (Nat.pow_pos (by decide))) (Nat.pow_le_pow_right (by decide) (by omega))
      refine lv_iload (pc := 51) hx hb dMo_limb_51 (lv_at hl 0 rfl) ?_
      refine lv_if_lt (pc := 53) (tgt := 82) hx hb dMo_limb_53 (by decide) (fun hc => absurd hc (nI_pos (by omega))) (fun _ => ?_)
      refine lv_ldc2 (pc := 56) (v := lN 2) hx hb hown (hW _ kl_Mo_202) dMo_limb_56 ?_
      refine lv_lload_n (pc := 59) hx hb dMo_limb_59 rfl (lv_at hl 1 rfl) ?_
      refine lv_lmul (pc := 60) hx hb dMo_limb_60 ?_
      rw [show (((lN 2) * lN vl) : Int64) = lN (2 * vl) from (lN_mul 2 vl)]
      refine lv_aload_n (pc := 61) hx hb dMo_limb_61 rfl (lv_at hl 2 rfl) ?_
      refine lv_iconst (pc := 62) (v := (nI 0)) hx hb dMo_limb_62 (by decide) ?_
      refine lv_bipush (pc := 63) (v := (nI 32)) hx hb dMo_limb_63 (by decide) ?_
      refine lv_iload_n (pc := 65) hx hb dMo_limb_65 rfl (lv_at hl 3 rfl) ?_
      refine lv_imul (pc := 66) hx hb dMo_limb_66 ?_
      rw [show (((nI 32) * nI i) : Int32) = nI (32 * i) from (nI_mul 32 i)]
      refine lv_iload (pc := 67) hx hb dMo_limb_67 (lv_at hl 0 rfl) ?_
      refine lv_iadd (pc := 69) hx hb dMo_limb_69 ?_
      rw [show ((nI (32 * i) + nI k) : Int32) = nI (32 * i + k) from (nI_add (32 * i) k)]
      refine fw_cVR (pc := 70) (As := [.int (nI 0), .int (nI (32 * i + k))]) (rest := [.long (lN (2 * vl))]) ⟨hx, hb, hml, hown, hW⟩ (c_Mo_bit (p0 := 0) (k := 32 * i + k) hS hX (by decide) (by omega)) (cwV 2 hW (kw_V lm_Mo_139 im_Mo_bit se_Mo_bit ini_Mo cd_Mo_bit) rfl rfl rfl (by decide +kernel) ⟨Nat.le_of_ble_eq_true rfl, Nat.le_of_ble_eq_true rfl⟩) hK hw b0 rfl rfl hl.1 rfl (Nat.le_of_ble_eq_true rfl) dMo_limb_70 ⟨Nat.le_of_ble_eq_true rfl, Nat.le_of_ble_eq_true rfl⟩ (fun v hq => ?_)
      obtain ⟨bt9, hbt9⟩ : ∃ bt9, bt9 = X 0 / 2 ^ (32 * i + k) % 2 := ⟨_, rfl⟩
      rw [← hbt9] at hq
      subst hq
      refine W.eq (g2 := F0 m 73 ls [.int (nI bt9), .long (lN (2 * vl))]) rfl ?_
      have hb2 : bt9 < 2 := by rw [hbt9]; exact Nat.mod_lt _ (by decide)
      refine lv_i2l (pc := 73) (v := lN bt9) hx hb dMo_limb_73 (nI_l (by omega)) ?_
      refine lv_ladd (pc := 74) hx hb dMo_limb_74 ?_
      rw [show ((lN (2 * vl) + lN bt9) : Int64) = lN (2 * vl + bt9) from (lN_add _ _)]
      refine lv_lstore_n (pc := 75) (lv' := [(2, .long (lN (2 * vl + bt9))), (4, .int (nI k)), (0, .ref b), (1, .int (nI i))]) hx hb dMo_limb_75 rfl hl (by decide) rfl (fun ls hl => ?_)
      refine lv_iinc (pc := 76) (lv' := [(4, .int (nI k - nI 1)), (2, .long (lN (2 * vl + bt9))), (0, .ref b), (1, .int (nI i))]) hx hb dMo_limb_76 hl (k := 1) rfl ((by rw [Int32.sub_eq_add_neg]; rfl)) (by decide) rfl (fun ls hl => ?_)
      refine lv_goto (pc := 79) (tgt := 51) hx hb dMo_limb_79 (by decide) ?_
      exact ih (2 * vl + bt9) (by omega) (by rw [hv, hbt9]; exact lb_step (by omega)) ls (lv_sub hl [0, 1, 2, 3] rfl)
  exact loop 32 0 (Nat.le_refl _) (by rw [Nat.sub_self, Nat.pow_zero, Nat.mod_one]) ls (lv_sub hl [0, 1, 2, 3] rfl)

set_option maxHeartbeats 4000000 in
set_option maxRecDepth 100000 in
theorem c_Mo_tenth {b : Nat} {I : Nat → Nat} {K : Nat → Nat → Nat} {S : Nat → Int32} {X : Nat → Nat} (hS : moS cI cL w b I K S (mC X)) (hX : ∀ p, X p < nM ^ 64) (h18 : X 18 < 2 ^ 768) : fw_C l yMo_tenth (Cond.code yMo_tenth cMo_tenth 6 (some FieldType.int) :: kWs) ({ frames := 0, cells := 0, slots := 0, locals := 0 } : Room) D kCl (kty cI cL cQ) z [.ref b] (sz) w 0 0 (fun v w' => v = some (.int (nI (X 18 % 10))) ∧ moS cI cL w' b (I) K (S) (mC (va_up X 18 (X 18 / 10))) ∧ ∀ q, q < b ∨ b + 9 ≤ q → w' q = w q) := by
  refine fw_ofW (cc := cMo_tenth) (maxL := 6) (ret := (some FieldType.int)) (by decide) rfl (Nat.le_of_ble_eq_true rfl) ?_
  intro p e s m args below meth c hx hb hr hts hown hlocks hname hml hK H ls hw hl
  have hW : ∀ w ∈ kWs, w.before args s = true := fun w h => hts w (List.mem_cons_of_mem _ h)
  have hown : s.vm.findClass RMo = some m.cls := hown
  have hl : lv_has ls 6 [(0, .ref b)] := hl
  have b0 : w b = some (.inr (10, [.int (nI (I 0)), .ref (b + 1), .ref (b + 2), .int (nI (I 3)), .ref (b + 3), .ref (b + 4), .int (nI (I 6)), .int (nI (I 7)), .ref (b + 5), .ref (b + 6), .int (nI (I 10)), .int (nI (I 11)), .int (nI (I 12)), .int (nI (I 13)), .ref (b + 7), .ref (b + 8), .int (nI (I 16)), .int (nI (I 17)), .int (nI (I 18)), .int (nI (I 19))])) := hS.1
  have b1 : w (b + 1) = some (.inl (cL, 1536, .inr (.inl (fun i => lN (mC X i))))) := hS.2.1
  have b2 : w (b + 2) = some (.inl (cI, 24, .inl (S))) := hS.2.2.1
  have b09 := b0
  have b29 := b2
  have q32 : (2 : Nat) ^ 768 = nM ^ 32 := by decide +kernel
  have vX : nw nM (mC X) (64 * 18) 32 = X 18 := by rw [mC_nw X 18 (by decide), Nat.mod_eq_of_lt (by rw [← q32]; exact h18)]
  have loop : ∀ (j lf : Nat), j ≤ 32 → lf < 10 → ∀ (w1 : fw_W) (H : Heap) (locs : List Loc) (ls : Array Slot) (C : Nat → Nat), fw_H D kCl (fw_A w (sz)) s.heap w1 (sz) H locs → lv_has ls 6 [(3, .int (nI j - nI 1)), (1, .long (lN lf)), (0, .ref b)] → w1 (b + 1) = some (.inl (cL, 1536, .inr (.inl (fun i => lN (C i))))) → (∀ q, q ≠ b + 1 → w1 q = w q) → (∀ t, t < 64 * 18 ∨ 64 * 18 + 32 ≤ t → C t = mC X t) → (∀ t, t < 32 → C (64 * 18 + t) < nM) → nw nM C (64 * 18 + j) (32 - j) * nM ^ j * 10 + lf * nM ^ j + nw nM C (64 * 18) j = X 18 → W p l e ({ frames := 0, cells := 0, slots := 0, locals := 0 } : Room) s m args below meth c H locs 0 0 (MQ below (fw_Q D kCl w (sz) 0 (fun v w' => v = some (.int (nI (X 18 % 10))) ∧ moS cI cL w' b (I) K (S) (mC (va_up X 18 (X 18 / 10))) ∧ ∀ q, q < b ∨ b + 9 ≤ q → w' q = w q)) args s 0 0 (fw_A w (sz))) (F0 m 5 ls []) := by
    intro j
    induction j with
    | zero =>
      intro lf hj hlf w1 H locs ls C hw hl b1 ho hout hlm hs
      have b0 : w1 b = some (.inr (10, [.int (nI (I 0)), .ref (b + 1), .ref (b + 2), .int (nI (I 3)), .ref (b + 3), .ref (b + 4), .int (nI (I 6)), .int (nI (I 7)), .ref (b + 5), .ref (b + 6), .int (nI (I 10)), .int (nI (I 11)), .int (nI (I 12)), .int (nI (I 13)), .ref (b + 7), .ref (b + 8), .int (nI (I 16)), .int (nI (I 17)), .int (nI (I 18)), .int (nI (I 19))])) := (ho _ (by omega)).trans b09
      refine lv_iload_n (pc := 5) hx hb dMo_tenth_5 rfl (lv_at hl 0 rfl) ?_
      refine lv_if_lt (pc := 6) (tgt := 55) hx hb dMo_tenth_6 (by decide) (fun _ => ?_) (fun hc => absurd (show nI 0 - nI 1 < 0 by decide) hc)
      refine lv_lload_n (pc := 55) hx hb dMo_tenth_55 rfl (lv_at hl 1 rfl) ?_
      refine lv_l2i (pc := 56) (v := nI lf) hx hb dMo_tenth_56 (lN_i lf) ?_
      rw [Nat.pow_zero, Nat.mul_one, Nat.mul_one, nw_0, Nat.add_zero, Nat.add_zero, Nat.sub_zero] at hs
      obtain ⟨he1, he2⟩ := kt_end hs hlf
      have hC : C = mC (va_up X 18 (X 18 / 10)) := mC_of (fun t ht => by (rcases Nat.lt_or_ge t 32 with h9 | h9); exact hlm t h9; rw [hout _ (by omega)]; exact mC_lt X _) (by rw [← he1]; exact nv_cut (by decide) (fun t h1 h2 => by (show C (64 * 18 + t) = 0); rw [hout _ (by omega), mC_at X h2, Nat.div_eq_of_lt (Nat.lt_of_lt_of_le h18 (by rw [q32]; exact Nat.pow_le_pow_right (by decide) h1)), Nat.zero_mod])) (fun t ht => hout t (by omega))
      rw [hC] at b1
      exact fw_iret (pc := 57) hx hb hr hlocks hw dMo_tenth_57 ⟨by rw [he2], moS.cs hS b1 ((ho _ (by omega)).trans b29) (fun q h1 _ => ho q h1), fun q h9 => ho q (by omega)⟩
    | succ j ih =>
      intro lf hj hlf w1 H locs ls C hw hl b1 ho hout hlm hs
      have b0 : w1 b = some (.inr (10, [.int (nI (I 0)), .ref (b + 1), .ref (b + 2), .int (nI (I 3)), .ref (b + 3), .ref (b + 4), .int (nI (I 6)), .int (nI (I 7)), .ref (b + 5), .ref (b + 6), .int (nI (I 10)), .int (nI (I 11)), .int (nI (I 12)), .int (nI (I 13)), .ref (b + 7), .ref (b + 8), .int (nI (I 16)), .int (nI (I 17)), .int (nI (I 18)), .int (nI (I 19))])) := (ho _ (by omega)).trans b09
      rw [show nI (j + 1) - nI 1 = nI j from nI_pred j] at hl
      refine lv_iload_n (pc := 5) hx hb dMo_tenth_5 rfl (lv_at hl 0 rfl) ?_
      refine lv_if_lt (pc := 6) (tgt := 55) hx hb dMo_tenth_6 (by decide) (fun hc => absurd hc (nI_pos (by omega))) (fun _ => ?_)
      refine lv_lload_n (pc := 9) hx hb dMo_tenth_9 rfl (lv_at hl 1 rfl) ?_
      refine lv_bipush (pc := 10) (v := (nI 24)) hx hb dMo_tenth_10 (by decide) ?_
      refine lv_lshl (pc := 12) (v := lN (lf * 16777216)) hx hb dMo_tenth_12 (wb_shl lf (k := 24) (by decide)) ?_
      refine lv_aload_n (pc := 13) hx hb dMo_tenth_13 rfl (lv_at hl 2 rfl) ?_
      refine fw_get (pc := 14) (ci := 10) (v := .ref (b + 1)) (C := RMo) (T := TMo) (N := 20) hx hb hW in_Mo hown hK.1 hw b0 rfl 1 (by decide) (hW _ lf_Mo_7) (fun _ h => h) rfl dMo_tenth_14 ?_
      refine lv_sipush (pc := 17) (v := (nI 1152)) hx hb dMo_tenth_17 (by decide) ?_
      refine lv_iload_n (pc := 20) hx hb dMo_tenth_20 rfl (lv_at hl 0 rfl) ?_
      refine lv_iadd (pc := 21) hx hb dMo_tenth_21 ?_
      rw [show (((nI 1152) + nI j) : Int32) = nI (64 * 18 + j) from (nI_add 1152 j)]
      refine fw_laldN (pc := 22) (x := lN (C (64 * 18 + j))) hx hb hK.1 hw 1 b1 rfl (64 * 18 + j) (by omega) (by decide) rfl dMo_tenth_22 ?_
      have lg : C (64 * 18 + j) < nM := hlm j (by omega)
      have lg2 : C (64 * 18 + j) < 16777216 := lg
      refine lv_ladd (pc := 23) hx hb dMo_tenth_23 ?_
      obtain ⟨bo, hbo⟩ : ∃ bo, bo = lf * nM + C (64 * 18 + j) := ⟨_, rfl⟩
      have hbo2 : bo = lf * 16777216 + C (64 * 18 + j) := hbo
      rw [show ((lN (lf * 16777216) + lN (C (64 * 18 + j))) : Int64) = lN bo from (by rw [hbo]; exact lN_add _ _)]
      refine lv_lstore (pc := 24) (lv' := [(4, .long (lN bo)), (3, .int (nI j)), (1, .long (lN lf)), (0, .ref b)]) hx hb dMo_tenth_24 hl (by decide) rfl (fun ls hl => ?_)
      refine lv_aload_n (pc := 26) hx hb dMo_tenth_26 rfl (lv_at hl 3 rfl) ?_
      refine fw_get (pc := 27) (ci := 10) (v := .ref (b + 1)) (C := RMo) (T := TMo) (N := 20) hx hb hW in_Mo hown hK.1 hw b0 rfl 1 (by decide) (hW _ lf_Mo_7) (fun _ h => h) rfl dMo_tenth_27 ?_
      refine lv_sipush (pc := 30) (v := (nI 1152)) hx hb dMo_tenth_30 (by decide) ?_
      refine lv_iload_n (pc := 33) hx hb dMo_tenth_33 rfl (lv_at hl 1 rfl) ?_
      refine lv_iadd (pc := 34) hx hb dMo_tenth_34 ?_
      rw [show (((nI 1152) + nI j) : Int32) = nI (64 * 18 + j) from (nI_add 1152 j)]
      refine lv_lload (pc := 35) hx hb dMo_tenth_35 (lv_at hl 0 rfl) ?_
      refine lv_ldc2 (pc := 37) (v := lN 10) hx hb hown (hW _ kl_Mo_204) dMo_tenth_37 ?_
      refine lv_ldiv (pc := 40) hx hb dMo_tenth_40 (by decide) ?_
      rw [show ((lN bo / (lN 10)) : Int64) = lN (bo / 10) from (pk_lDiv (by omega) (by decide) (by decide))]
      have hqb : bo / 10 < nM := by rw [hbo]; exact kt_lt hlf lg
      refine fw_lastN (pc := 41) (f2 := fun i => lN (va_up C (64 * 18 + j) (bo / 10) i)) hx hb hK.1 hw 1 b1 rfl (64 * 18 + j) (by omega) (by decide) (lN_up _ _ _) dMo_tenth_41 (fun H locs hw => ?_)
      obtain ⟨w2, e2⟩ : ∃ w_, w_ = fw_up w1 (b + 1) (.inl (cL, 1536, .inr (.inl (fun i => lN (va_up C (64 * 18 + j) (bo / 10) i))))) := ⟨_, rfl⟩
      have hw : fw_H D kCl (fw_A w (sz)) s.heap w2 (sz) H locs := by rw [e2]; exact hw
      have b0_ : w2 (b) = some (.inr (10, [.int (nI (I 0)), .ref (b + 1), .ref (b + 2), .int (nI (I 3)), .ref (b + 3), .ref (b + 4), .int (nI (I 6)), .int (nI (I 7)), .ref (b + 5), .ref (b + 6), .int (nI (I 10)), .int (nI (I 11)), .int (nI (I 12)), .int (nI (I 13)), .ref (b + 7), .ref (b + 8), .int (nI (I 16)), .int (nI (I 17)), .int (nI (I 18)), .int (nI (I 19))])) := by rw [e2, fw_un (by omega)]; exact b0
      have b1_ : w2 (b + 1) = some (.inl (cL, 1536, .inr (.inl (fun i => lN (va_up C (64 * 18 + j) (bo / 10) i))))) := by rw [e2]; exact fw_us _ _ _
      have b0 := b0_
      have b1 := b1_
      refine lv_lload (pc := 42) hx hb dMo_tenth_42 (lv_at hl 0 rfl) ?_
      refine lv_ldc2 (pc := 44) (v := lN 10) hx hb hown (hW _ kl_Mo_204) dMo_tenth_44 ?_
      refine lv_lrem (pc := 47) hx hb dMo_tenth_47 (by decide) ?_
      rw [show ((lN bo - lN bo / (lN 10) * (lN 10)) : Int64) = lN (bo % 10) from (pk_lRem (by omega) (by decide) (by decide))]
      refine lv_lstore_n (pc := 48) (lv' := [(1, .long (lN (bo % 10))), (4, .long (lN bo)), (3, .int (nI j)), (0, .ref b)]) hx hb dMo_tenth_48 rfl hl (by decide) rfl (fun ls hl => ?_)
      refine lv_iinc (pc := 49) (lv' := [(3, .int (nI j - nI 1)), (1, .long (lN (bo % 10))), (4, .long (lN bo)), (0, .ref b)]) hx hb dMo_tenth_49 hl (k := 2) rfl ((by rw [Int32.sub_eq_add_neg]; rfl)) (by decide) rfl (fun ls hl => ?_)
      refine lv_goto (pc := 52) (tgt := 5) hx hb dMo_tenth_52 (by decide) ?_
      refine ih (bo % 10) (by omega) (Nat.mod_lt _ (by decide)) _ H locs ls (va_up C (64 * 18 + j) (bo / 10)) hw (lv_sub hl [0, 1, 3] rfl) b1 (fun q hq => by rw [e2, fw_un hq, ho q hq]) (fun t ht => by rw [up_o (by omega)]; exact hout t ht) (fun t ht => by (unfold va_up; split; exact hqb; exact hlm t ht)) ?_
      rw [show 32 - j = 32 - (j + 1) + 1 by omega, nw_h, nw_eq (h := C) (fun t ht => up_o (by omega)), up_s, nw_eq (a := 64 * 18) (n := j) (h := C) (fun t ht => up_o (by omega)), hbo, show 64 * 18 + j + 1 = 64 * 18 + (j + 1) from rfl]
      rw [nw_s nM C (64 * 18) j] at hs
      exact kt_step hs
  refine lv_lconst (pc := 0) (v := lN 0) hx hb dMo_tenth_0 (by decide) ?_
  refine lv_lstore_n (pc := 1) (lv' := [(1, .long (lN 0)), (0, .ref b)]) hx hb dMo_tenth_1 rfl hl (by decide) rfl (fun ls hl => ?_)
  refine lv_bipush (pc := 2) (v := (nI 31)) hx hb dMo_tenth_2 (by decide) ?_
  rw [show ((nI 31) : Int32) = nI 32 - nI 1 from (by decide)]
  refine lv_istore_n (pc := 4) (lv' := [(3, .int (nI 32 - nI 1)), (1, .long (lN 0)), (0, .ref b)]) hx hb dMo_tenth_4 rfl hl (by decide) rfl (fun ls hl => ?_)
  exact loop 32 0 (Nat.le_refl _) (by decide) w H [] ls (mC X) hw (lv_sub hl [0, 1, 2] rfl) b1 (fun q _ => rfl) (fun t _ => rfl) (fun t _ => mC_lt X _) (by rw [Nat.sub_self, nw_0, Nat.zero_mul, Nat.zero_mul]; simp only [Nat.zero_add, Nat.zero_mul]; exact vX)

set_option maxHeartbeats 4000000 in
set_option maxRecDepth 100000 in
theorem c_Mo_count6 {b : Nat} {I : Nat → Nat} {K : Nat → Nat → Nat} {S : Nat → Int32} {X : Nat → Nat} (hS : moS cI cL w b I K S (mC X)) (hX : ∀ p, X p < nM ^ 64) (h6 : I 6 < 2 ^ 31) (h7 : I 7 < 2 ^ 31) (h16 : I 16 < 2 ^ 31) (hno : 0 < I 6 ∧ I 16 = I 7) : fw_C l yMo_count (Cond.code yMo_count cMo_count 2 (some FieldType.int) :: kWs) ({ frames := 2, cells := 0, slots := 0, locals := 44 } : Room) D kCl (kty cI cL cQ) z [.ref b, .int (nI 6)] (sz) w 0 0 (fun v w' => v = some (.int (nI (bl (X 0)))) ∧ moS cI cL w' b (va_up I 0 0) K (S) (mC (X)) ∧ ∀ q, q < b ∨ b + 9 ≤ q → w' q = w q) := by
  refine fw_ofW (cc := cMo_count) (maxL := 2) (ret := (some FieldType.int)) (by decide) rfl (Nat.le_of_ble_eq_true rfl) ?_
  intro p e s m args below meth c hx hb hr hts hown hlocks hname hml hK H ls hw hl
  have hW : ∀ w ∈ kWs, w.before args s = true := fun w h => hts w (List.mem_cons_of_mem _ h)
  have hown : s.vm.findClass RMo = some m.cls := hown
  have hl : lv_has ls 2 [(0, .ref b), (1, .int (nI 6))] := hl
  have b0 : w b = some (.inr (10, [.int (nI (I 0)), .ref (b + 1), .ref (b + 2), .int (nI (I 3)), .ref (b + 3), .ref (b + 4), .int (nI (I 6)), .int (nI (I 7)), .ref (b + 5), .ref (b + 6), .int (nI (I 10)), .int (nI (I 11)), .int (nI (I 12)), .int (nI (I 13)), .ref (b + 7), .ref (b + 8), .int (nI (I 16)), .int (nI (I 17)), .int (nI (I 18)), .int (nI (I 19))])) := hS.1
  have b1 : w (b + 1) = some (.inl (cL, 1536, .inr (.inl (fun i => lN (mC X i))))) := hS.2.1
  have b2 : w (b + 2) = some (.inl (cI, 24, .inl (S))) := hS.2.2.1
  have b09 := b0
  have b29 := b2
  refine lv_aload_n (pc := 0) hx hb dMo_count_0 rfl (lv_at hl 0 rfl) ?_
  refine lv_iconst (pc := 1) (v := (nI 0)) hx hb dMo_count_1 (by decide) ?_
  refine fw_put (pc := 2) (ci := 10) (v := .int (nI 0)) (ty := .int) (C := RMo) (T := TMo) (N := 20) hx hb hW in_Mo tyMo tyMo_ok nmMo hown hK.1 hw b0 rfl 0 (by decide) (hW _ lf_Mo_35) (fun _ h => h) rfl (by decide +kernel) rfl rfl (Nat.le_of_ble_eq_true rfl) dMo_count_2 (fun H locs hw => ?_)
  obtain ⟨w1, e1⟩ : ∃ w_, w_ = fw_up w (b) (.inr (10, [.int (nI 0), .ref (b + 1), .ref (b + 2), .int (nI (I 3)), .ref (b + 3), .ref (b + 4), .int (nI (I 6)), .int (nI (I 7)), .ref (b + 5), .ref (b + 6), .int (nI (I 10)), .int (nI (I 11)), .int (nI (I 12)), .int (nI (I 13)), .ref (b + 7), .ref (b + 8), .int (nI (I 16)), .int (nI (I 17)), .int (nI (I 18)), .int (nI (I 19))])) := ⟨_, rfl⟩
  have hw : fw_H D kCl (fw_A w (sz)) s.heap w1 (sz) H locs := by rw [e1]; exact hw
  have b1_ : w1 (b + 1) = some (.inl (cL, 1536, .inr (.inl (fun i => lN (mC X i))))) := by rw [e1, fw_un (by omega)]; exact b1
  have b2_ : w1 (b + 2) = some (.inl (cI, 24, .inl (S))) := by rw [e1, fw_un (by omega)]; exact b2
  have b0_ : w1 (b) = some (.inr (10, [.int (nI 0), .ref (b + 1), .ref (b + 2), .int (nI (I 3)), .ref (b + 3), .ref (b + 4), .int (nI (I 6)), .int (nI (I 7)), .ref (b + 5), .ref (b + 6), .int (nI (I 10)), .int (nI (I 11)), .int (nI (I 12)), .int (nI (I 13)), .ref (b + 7), .ref (b + 8), .int (nI (I 16)), .int (nI (I 17)), .int (nI (I 18)), .int (nI (I 19))])) := by rw [e1]; exact fw_us _ _ _
  have b0 := b0_
  have b1 := b1_
  have b2 := b2_
  have hS : moS cI cL w1 b (va_up I 0 0) K S (mC X) := moS.int hS b0 (fun q hq => by rw [e1, fw_un hq])
  refine lv_iload_n (pc := 5) hx hb dMo_count_5 rfl (lv_at hl 1 rfl) ?_
  refine lv_tableIn (pc := 6) (tgt := 90) hx hb dMo_count_6 (by decide) (by decide) rfl (by decide) ?_
  refine lv_aload_n (pc := 90) hx hb dMo_count_90 rfl (lv_at hl 0 rfl) ?_
  refine fw_cVR (pc := 91) (As := []) (rest := []) ⟨hx, hb, hml, hown, hW⟩ (c_Mo_hasResult hS h6 h7 h16) (cwV 0 hW (kw_V lm_Mo_196 im_Mo_hasResult se_Mo_hasResult ini_Mo cd_Mo_hasResult) rfl rfl rfl (by decide +kernel) ⟨Nat.le_of_ble_eq_true rfl, Nat.le_of_ble_eq_true rfl⟩) hK hw b0 rfl rfl hl.1 rfl (Nat.le_of_ble_eq_true rfl) dMo_count_91 ⟨Nat.le_of_ble_eq_true rfl, Nat.le_of_ble_eq_true rfl⟩ (fun v hq => ?_)
  have hq : v = some (.int (nI (if 0 < I 6 ∧ I 16 = I 7 then 1 else 0))) := hq
  rw [if_pos hno] at hq
  subst hq
  refine W.eq (g2 := F0 m 94 ls [.int (nI 1)]) rfl ?_
  refine lv_if_eq (pc := 94) (tgt := 105) hx hb dMo_count_94 (by decide) (fun hc => absurd hc (show ¬ nI 1 = 0 by decide)) (fun _ => ?_)
  refine lv_aload_n (pc := 97) hx hb dMo_count_97 rfl (lv_at hl 0 rfl) ?_
  refine lv_iconst (pc := 98) (v := (nI 0)) hx hb dMo_count_98 (by decide) ?_
  refine fw_cVR (pc := 99) (As := [.int (nI 0)]) (rest := []) ⟨hx, hb, hml, hown, hW⟩ (c_Mo_bits (p0 := 0) hS hX (by decide)) (cwV 1 hW (kw_V lm_Mo_162 im_Mo_bits se_Mo_bits ini_Mo cd_Mo_bits) rfl rfl rfl (by decide +kernel) ⟨Nat.le_of_ble_eq_true rfl, Nat.le_of_ble_eq_true rfl⟩) hK hw b0 rfl rfl hl.1 rfl (Nat.le_of_ble_eq_true rfl) dMo_count_99 ⟨Nat.le_of_ble_eq_true rfl, Nat.le_of_ble_eq_true rfl⟩ (fun v hq => ?_)
  subst hq
  refine W.eq (g2 := F0 m 102 ls [.int (nI (bl (X 0)))]) rfl ?_
  refine lv_goto (pc := 102) (tgt := 106) hx hb dMo_count_102 (by decide) ?_
  exact fw_iret (pc := 106) hx hb hr hlocks hw dMo_count_106 ⟨rfl, hS, fun q h9 => by rw [e1, fw_un (by omega)]⟩
end MO13
