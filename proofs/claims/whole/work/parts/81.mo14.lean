theorem moI_moI (I : Nat → Nat) (s t : MS) : moI (moI I s) t = moI I t := by
  funext i; unfold moI
  by_cases e1 : i = 16
  · rw [if_pos e1, if_pos e1]
  · rw [if_neg e1, if_neg e1, if_neg e1]
    by_cases e2 : i = 17
    · rw [if_pos e2, if_pos e2]
    · rw [if_neg e2, if_neg e2, if_neg e2]
      by_cases e3 : i = 18
      · rw [if_pos e3, if_pos e3]
      · rw [if_neg e3, if_neg e3, if_neg e3]
        by_cases e4 : i = 19
        · rw [if_pos e4, if_pos e4]
        · rw [if_neg e4, if_neg e4, if_neg e4]
/-! The reference's methods, fourteenth part. Written by wip/gen/model14.py. -/
section MO14
variable {l : Launch} {D : va_G} {cI cL cQ : ClassId} {z : kZ_T} {sz : Nat} {w : fw_W}
set_option maxHeartbeats 4000000 in
set_option maxRecDepth 100000 in
theorem c_Mo_digit {b : Nat} {I : Nat → Nat} {K : Nat → Nat → Nat} {S : Nat → Int32} {X : Nat → Nat} (hS : moS cI cL w b I K S (mC X)) (hX : ∀ p, X p < nM ^ 64) (h6 : I 6 < 2 ^ 31) (h7 : I 7 < 2 ^ 31) (h16 : I 16 < 2 ^ 31) (hno : 0 < I 6 ∧ I 16 = I 7) (h70 : X 0 < 2 ^ 768) {i : Nat} (hi : i < 2 ^ 31) : fw_C l yMo_digit (Cond.code yMo_digit cMo_digit 4 (some FieldType.int) :: kWs) ({ frames := 1, cells := 0, slots := 0, locals := 25 } : Room) D kCl (kty cI cL cQ) z [.ref b, .int (nI i)] (sz) w 0 0 (fun v w' => v = some (.int (nI (X 0 / 10 ^ i % 10))) ∧ (∃ e, moS cI cL w' b (va_up I 0 0) K (va_up S 18 (S 0)) (mC (va_up X 18 e)) ∧ e ≤ X 0) ∧ ∀ q, q < b ∨ b + 9 ≤ q → w' q = w q) := by
  refine fw_ofW (cc := cMo_digit) (maxL := 4) (ret := (some FieldType.int)) (by decide) rfl (Nat.le_of_ble_eq_true rfl) ?_
  intro p e s m args below meth c hx hb hr hts hown hlocks hname hml hK H ls hw hl
  have hW : ∀ w ∈ kWs, w.before args s = true := fun w h => hts w (List.mem_cons_of_mem _ h)
  have hown : s.vm.findClass RMo = some m.cls := hown
  have hl : lv_has ls 4 [(0, .ref b), (1, .int (nI i))] := hl
  have b0 : w b = some (.inr (10, [.int (nI (I 0)), .ref (b + 1), .ref (b + 2), .int (nI (I 3)), .ref (b + 3), .ref (b + 4), .int (nI (I 6)), .int (nI (I 7)), .ref (b + 5), .ref (b + 6), .int (nI (I 10)), .int (nI (I 11)), .int (nI (I 12)), .int (nI (I 13)), .ref (b + 7), .ref (b + 8), .int (nI (I 16)), .int (nI (I 17)), .int (nI (I 18)), .int (nI (I 19))])) := hS.1
  have b1 : w (b + 1) = some (.inl (cL, 1536, .inr (.inl (fun i => lN (mC X i))))) := hS.2.1
  have b2 : w (b + 2) = some (.inl (cI, 24, .inl (S))) := hS.2.2.1
  have b09 := b0
  have b29 := b2
  have hXu : ∀ y, y ≤ X 0 → ∀ p, va_up X 18 y p < nM ^ 64 := fun y hy p => by (unfold va_up; split; exact Nat.lt_of_le_of_lt hy (hX 0); exact hX p)
  have loop : ∀ (r k : Nat), k + r = 240 → k ≤ i → ∀ (w1 : fw_W) (H : Heap) (locs : List Loc) (ls : Array Slot), fw_H D kCl (fw_A w (sz)) s.heap w1 (sz) H locs → lv_has ls 4 [(3, .int (nI k)), (2, .int (nI (X 0 / 10 ^ k % 10))), (0, .ref b), (1, .int (nI i))] → moS cI cL w1 b (va_up I 0 0) K (va_up S 18 (S 0)) (mC (va_up X 18 (X 0 / 10 ^ (k + 1)))) → (∀ q, q < b ∨ b + 9 ≤ q → w1 q = w q) → W p l e ({ frames := 1, cells := 0, slots := 0, locals := 25 } : Room) s m args below meth c H locs 0 0 (MQ below (fw_Q D kCl w (sz) 0 (fun v w' => v = some (.int (nI (X 0 / 10 ^ i % 10))) ∧ (∃ e, moS cI cL w' b (va_up I 0 0) K (va_up S 18 (S 0)) (mC (va_up X 18 e)) ∧ e ≤ X 0) ∧ ∀ q, q < b ∨ b + 9 ≤ q → w' q = w q)) args s 0 0 (fw_A w (sz))) (F0 m 53 ls []) := by
    intro r
    induction r with
    | zero =>
      intro k hk hki w1 H locs ls hw hl hS hoF
      have hX9 : X 0 / 10 ^ (k + 1) ≤ X 0 := Nat.div_le_self _ _
      have b0 : w1 b = some (.inr (10, [.int (nI (0)), .ref (b + 1), .ref (b + 2), .int (nI (I 3)), .ref (b + 3), .ref (b + 4), .int (nI (I 6)), .int (nI (I 7)), .ref (b + 5), .ref (b + 6), .int (nI (I 10)), .int (nI (I 11)), .int (nI (I 12)), .int (nI (I 13)), .ref (b + 7), .ref (b + 8), .int (nI (I 16)), .int (nI (I 17)), .int (nI (I 18)), .int (nI (I 19))])) := hS.1
      refine lv_iload_n (pc := 53) hx hb dMo_digit_53 rfl (lv_at hl 0 rfl) ?_
      refine lv_iload_n (pc := 54) hx hb dMo_digit_54 rfl (lv_at hl 3 rfl) ?_
      rcases (show i = k ∨ k < i by omega) with h9 | h9
      · refine lv_icmp_ge (pc := 55) (tgt := 76) hx hb dMo_digit_55 (by decide) (fun _ => ?_) (fun hc => absurd (nI_le (show i ≤ k by omega) (by omega)) hc)
        refine lv_iload_n (pc := 76) hx hb dMo_digit_76 rfl (lv_at hl 1 rfl) ?_
        exact fw_iret (pc := 77) hx hb hr hlocks hw dMo_digit_77 ⟨by rw [h9], ⟨_, hS, hX9⟩, hoF⟩
      · refine lv_icmp_ge (pc := 55) (tgt := 76) hx hb dMo_digit_55 (by decide) (fun hc => absurd hc (nI_ge h9 hi)) (fun _ => ?_)
        refine lv_iload_n (pc := 58) hx hb dMo_digit_58 rfl (lv_at hl 0 rfl) ?_
        refine lv_sipush (pc := 59) (v := (nI 240)) hx hb dMo_digit_59 (by decide) ?_
        refine lv_icmp_ge (pc := 62) (tgt := 76) hx hb dMo_digit_62 (by decide) (fun _ => ?_) (fun hc => absurd (nI_le (show 240 ≤ k by omega) (by omega)) hc)
        refine lv_iload_n (pc := 76) hx hb dMo_digit_76 rfl (lv_at hl 1 rfl) ?_
        exact fw_iret (pc := 77) hx hb hr hlocks hw dMo_digit_77 ⟨by rw [p768b h70 (show 232 ≤ k by omega), p768b h70 (show 232 ≤ i by omega)], ⟨_, hS, hX9⟩, hoF⟩
    | succ r ih =>
      intro k hk hki w1 H locs ls hw hl hS hoF
      have hX9 : X 0 / 10 ^ (k + 1) ≤ X 0 := Nat.div_le_self _ _
      have b0 : w1 b = some (.inr (10, [.int (nI (0)), .ref (b + 1), .ref (b + 2), .int (nI (I 3)), .ref (b + 3), .ref (b + 4), .int (nI (I 6)), .int (nI (I 7)), .ref (b + 5), .ref (b + 6), .int (nI (I 10)), .int (nI (I 11)), .int (nI (I 12)), .int (nI (I 13)), .ref (b + 7), .ref (b + 8), .int (nI (I 16)), .int (nI (I 17)), .int (nI (I 18)), .int (nI (I 19))])) := hS.1
      refine lv_iload_n (pc := 53) hx hb dMo_digit_53 rfl (lv_at hl 0 rfl) ?_
      refine lv_iload_n (pc := 54) hx hb dMo_digit_54 rfl (lv_at hl 3 rfl) ?_
      rcases (show i = k ∨ k < i by omega) with h9 | h9
      · refine lv_icmp_ge (pc := 55) (tgt := 76) hx hb dMo_digit_55 (by decide) (fun _ => ?_) (fun hc => absurd (nI_le (show i ≤ k by omega) (by omega)) hc)
        refine lv_iload_n (pc := 76) hx hb dMo_digit_76 rfl (lv_at hl 1 rfl) ?_
        exact fw_iret (pc := 77) hx hb hr hlocks hw dMo_digit_77 ⟨by rw [h9], ⟨_, hS, hX9⟩, hoF⟩
      · refine lv_icmp_ge (pc := 55) (tgt := 76) hx hb dMo_digit_55 (by decide) (fun hc => absurd hc (nI_ge h9 hi)) (fun _ => ?_)
        refine lv_iload_n (pc := 58) hx hb dMo_digit_58 rfl (lv_at hl 0 rfl) ?_
        refine lv_sipush (pc := 59) (v := (nI 240)) hx hb dMo_digit_59 (by decide) ?_
        refine lv_icmp_ge (pc := 62) (tgt := 76) hx hb dMo_digit_62 (by decide) (fun hc => absurd hc (nI_ge (b := 240) (show k < 240 by omega) (by decide))) (fun _ => ?_)
        refine lv_aload_n (pc := 65) hx hb dMo_digit_65 rfl (lv_at hl 2 rfl) ?_
        refine fw_cV (pc := 66) (As := []) (rest := []) ⟨hx, hb, hml, hown, hW⟩ (c_Mo_tenth (X := va_up X 18 (X 0 / 10 ^ (k + 1))) hS (hXu _ hX9) (by rw [up_s]; exact Nat.lt_of_le_of_lt hX9 h70)) (cwV 0 hW (kw_V lm_Mo_206 im_Mo_tenth se_Mo_tenth ini_Mo cd_Mo_tenth) rfl rfl rfl (by decide +kernel) ⟨Nat.le_of_ble_eq_true rfl, Nat.le_of_ble_eq_true rfl⟩) hK hw b0 rfl rfl hl.1 rfl (Nat.le_of_ble_eq_true rfl) dMo_digit_66 ⟨Nat.le_of_ble_eq_true rfl, Nat.le_of_ble_eq_true rfl⟩ (fun v w101 H locs hq hw => ?_)
        obtain ⟨hv9, hS, hn9⟩ := hq
        rw [up_s] at hv9
        rw [va_upup, up_s] at hS
        subst hv9
        have hoF : ∀ q, q < b ∨ b + 9 ≤ q → w101 q = w q := fun q h9 => (hn9 q h9).trans (hoF q h9)
        have b0 : w101 b = some (.inr (10, [.int (nI (0)), .ref (b + 1), .ref (b + 2), .int (nI (I 3)), .ref (b + 3), .ref (b + 4), .int (nI (I 6)), .int (nI (I 7)), .ref (b + 5), .ref (b + 6), .int (nI (I 10)), .int (nI (I 11)), .int (nI (I 12)), .int (nI (I 13)), .ref (b + 7), .ref (b + 8), .int (nI (I 16)), .int (nI (I 17)), .int (nI (I 18)), .int (nI (I 19))])) := hS.1
        rw [Nat.div_div_eq_div_mul, ← Nat.pow_succ] at hS
        refine W.eq (g2 := F0 m 69 ls [.int (nI (X 0 / 10 ^ (k + 1) % 10))]) rfl ?_
        refine lv_istore_n (pc := 69) (lv' := [(2, .int (nI (X 0 / 10 ^ (k + 1) % 10))), (3, .int (nI k)), (0, .ref b), (1, .int (nI i))]) hx hb dMo_digit_69 rfl hl (by decide) rfl (fun ls hl => ?_)
        refine lv_iinc (pc := 70) (lv' := [(3, .int (nI (k + 1))), (2, .int (nI (X 0 / 10 ^ (k + 1) % 10))), (0, .ref b), (1, .int (nI i))]) hx hb dMo_digit_70 hl (k := 1) rfl ((nI_add k 1)) (by decide) rfl (fun ls hl => ?_)
        refine lv_goto (pc := 73) (tgt := 53) hx hb dMo_digit_73 (by decide) ?_
        exact ih (k + 1) (by omega) (by omega) _ H locs ls hw (lv_sub hl [0, 1, 2, 3] rfl) hS hoF
  refine lv_aload_n (pc := 0) hx hb dMo_digit_0 rfl (lv_at hl 0 rfl) ?_
  refine lv_aload_n (pc := 1) hx hb dMo_digit_1 rfl (lv_at hl 0 rfl) ?_
  refine fw_cVR (pc := 2) (As := []) (rest := [.ref b]) ⟨hx, hb, hml, hown, hW⟩ (c_Mo_hasResult hS h6 h7 h16) (cwV 0 hW (kw_V lm_Mo_196 im_Mo_hasResult se_Mo_hasResult ini_Mo cd_Mo_hasResult) rfl rfl rfl (by decide +kernel) ⟨Nat.le_of_ble_eq_true rfl, Nat.le_of_ble_eq_true rfl⟩) hK hw b0 rfl rfl hl.1 rfl (Nat.le_of_ble_eq_true rfl) dMo_digit_2 ⟨Nat.le_of_ble_eq_true rfl, Nat.le_of_ble_eq_true rfl⟩ (fun v hq => ?_)
  have hq : v = some (.int (nI (if 0 < I 6 ∧ I 16 = I 7 then 1 else 0))) := hq
  rw [if_pos hno] at hq
  subst hq
  refine W.eq (g2 := F0 m 5 ls [.int (nI 1), .ref b]) rfl ?_
  refine lv_if_ne (pc := 5) (tgt := 12) hx hb dMo_digit_5 (by decide) (fun _ => ?_) (fun hc => absurd hc (show ¬ nI 1 = 0 by decide))
  refine lv_iconst (pc := 12) (v := (nI 0)) hx hb dMo_digit_12 (by decide) ?_
  refine lv_iconst (pc := 13) (v := (nI 1)) hx hb dMo_digit_13 (by decide) ?_
  refine fw_cV (pc := 14) (As := [.int (nI 0), .int (nI 1)]) (rest := []) ⟨hx, hb, hml, hown, hW⟩ (c_Mo_fails0 (k := 1) hS) (cwV 2 hW (kw_V lm_Mo_39 im_Mo_fails se_Mo_fails ini_Mo cd_Mo_fails) rfl rfl rfl (by decide +kernel) ⟨Nat.le_of_ble_eq_true rfl, Nat.le_of_ble_eq_true rfl⟩) hK hw b0 rfl rfl hl.1 rfl (Nat.le_of_ble_eq_true rfl) dMo_digit_14 ⟨Nat.le_of_ble_eq_true rfl, Nat.le_of_ble_eq_true rfl⟩ (fun v w201 H locs hq hw => ?_)
  obtain ⟨rfl, hS_, hfr_⟩ := hq
  have hfr : ∀ q, q ≠ b → w201 q = w q := fun q hq => hfr_ q hq
  have hS : moS cI cL w201 b (va_up I 0 0) K S (mC X) := hS_
  have b0 : w201 b = some (.inr (10, [.int (nI (0)), .ref (b + 1), .ref (b + 2), .int (nI (I 3)), .ref (b + 3), .ref (b + 4), .int (nI (I 6)), .int (nI (I 7)), .ref (b + 5), .ref (b + 6), .int (nI (I 10)), .int (nI (I 11)), .int (nI (I 12)), .int (nI (I 13)), .ref (b + 7), .ref (b + 8), .int (nI (I 16)), .int (nI (I 17)), .int (nI (I 18)), .int (nI (I 19))])) := hS.1
  have b1 : w201 (b + 1) = some (.inl (cL, 1536, .inr (.inl (fun i => lN (mC (X) i))))) := hS.2.1
  have b2 : w201 (b + 2) = some (.inl (cI, 24, .inl (S))) := hS.2.2.1
  refine W.eq (g2 := F0 m 17 ls [.int (nI 0)]) rfl ?_
  refine lv_if_ne (pc := 17) (tgt := 37) hx hb dMo_digit_17 (by decide) (fun hc => absurd hc (fun h => h rfl)) (fun _ => ?_)
  refine lv_aload_n (pc := 20) hx hb dMo_digit_20 rfl (lv_at hl 0 rfl) ?_
  refine lv_iload_n (pc := 21) hx hb dMo_digit_21 rfl (lv_at hl 1 rfl) ?_
  refine lv_if_ge (pc := 22) (tgt := 29) hx hb dMo_digit_22 (by decide) (fun _ => ?_) (fun hc => absurd (Int32.not_lt.mp (nI_pos hi)) hc)
  refine lv_iconst (pc := 29) (v := (nI 0)) hx hb dMo_digit_29 (by decide) ?_
  refine lv_iconst (pc := 30) (v := (nI 2)) hx hb dMo_digit_30 (by decide) ?_
  refine fw_cV (pc := 31) (As := [.int (nI 0), .int (nI 2)]) (rest := []) ⟨hx, hb, hml, hown, hW⟩ (c_Mo_fails0 (k := 2) hS) (cwV 2 hW (kw_V lm_Mo_39 im_Mo_fails se_Mo_fails ini_Mo cd_Mo_fails) rfl rfl rfl (by decide +kernel) ⟨Nat.le_of_ble_eq_true rfl, Nat.le_of_ble_eq_true rfl⟩) hK hw b0 rfl rfl hl.1 rfl (Nat.le_of_ble_eq_true rfl) dMo_digit_31 ⟨Nat.le_of_ble_eq_true rfl, Nat.le_of_ble_eq_true rfl⟩ (fun v w202 H locs hq hw => ?_)
  obtain ⟨rfl, hS_, hfr_⟩ := hq
  have hfr : ∀ q, q ≠ b → w202 q = w q := fun q hq => (hfr_ q hq).trans (hfr q hq)
  have hS : moS cI cL w202 b (va_up I 0 0) K S (mC X) := moS.int hS_ (by have h9 := hS_.1; rw [va_upup] at h9; exact h9) (fun q _ => rfl)
  have b0 : w202 b = some (.inr (10, [.int (nI (0)), .ref (b + 1), .ref (b + 2), .int (nI (I 3)), .ref (b + 3), .ref (b + 4), .int (nI (I 6)), .int (nI (I 7)), .ref (b + 5), .ref (b + 6), .int (nI (I 10)), .int (nI (I 11)), .int (nI (I 12)), .int (nI (I 13)), .ref (b + 7), .ref (b + 8), .int (nI (I 16)), .int (nI (I 17)), .int (nI (I 18)), .int (nI (I 19))])) := hS.1
  have b1 : w202 (b + 1) = some (.inl (cL, 1536, .inr (.inl (fun i => lN (mC (X) i))))) := hS.2.1
  have b2 : w202 (b + 2) = some (.inl (cI, 24, .inl (S))) := hS.2.2.1
  refine W.eq (g2 := F0 m 34 ls [.int (nI 0)]) rfl ?_
  refine lv_if_eq (pc := 34) (tgt := 39) hx hb dMo_digit_34 (by decide) (fun _ => ?_) (fun hc => absurd (show nI 0 = 0 by decide) hc)
  refine lv_aload_n (pc := 39) hx hb dMo_digit_39 rfl (lv_at hl 0 rfl) ?_
  refine lv_iconst (pc := 40) (v := (nI 0)) hx hb dMo_digit_40 (by decide) ?_
  refine lv_bipush (pc := 41) (v := (nI 18)) hx hb dMo_digit_41 (by decide) ?_
  have hoF : ∀ q, q < b ∨ b + 9 ≤ q → w202 q = w q := fun q h9 => hfr q (by omega)
  refine fw_cV (pc := 43) (As := [.int (nI 0), .int (nI 18)]) (rest := []) ⟨hx, hb, hml, hown, hW⟩ (c_Mo_copy (pa := 0) (pc9 := 18) hS hX (by decide) (by decide) (by decide)) (cwV 2 hW (kw_V lm_Mo_143 im_Mo_copy se_Mo_copy ini_Mo cd_Mo_copy) rfl rfl rfl (by decide +kernel) ⟨Nat.le_of_ble_eq_true rfl, Nat.le_of_ble_eq_true rfl⟩) hK hw b0 rfl rfl hl.1 rfl (Nat.le_of_ble_eq_true rfl) dMo_digit_43 ⟨Nat.le_of_ble_eq_true rfl, Nat.le_of_ble_eq_true rfl⟩ (fun v w203 H locs hq hw => ?_)
  obtain ⟨rfl, hS, hn9⟩ := hq
  have b0 : w203 b = some (.inr (10, [.int (nI (0)), .ref (b + 1), .ref (b + 2), .int (nI (I 3)), .ref (b + 3), .ref (b + 4), .int (nI (I 6)), .int (nI (I 7)), .ref (b + 5), .ref (b + 6), .int (nI (I 10)), .int (nI (I 11)), .int (nI (I 12)), .int (nI (I 13)), .ref (b + 7), .ref (b + 8), .int (nI (I 16)), .int (nI (I 17)), .int (nI (I 18)), .int (nI (I 19))])) := hS.1
  have hoF : ∀ q, q < b ∨ b + 9 ≤ q → w203 q = w q := fun q h9 => (hn9 q h9).trans (hoF q h9)
  refine W.eq (g2 := F0 m 46 ls []) rfl ?_
  refine lv_aload_n (pc := 46) hx hb dMo_digit_46 rfl (lv_at hl 0 rfl) ?_
  refine fw_cV (pc := 47) (As := []) (rest := []) ⟨hx, hb, hml, hown, hW⟩ (c_Mo_tenth (X := va_up X 18 (X 0)) hS (hXu _ (Nat.le_refl _)) (by rw [up_s]; exact Nat.lt_of_le_of_lt (Nat.le_refl _) h70)) (cwV 0 hW (kw_V lm_Mo_206 im_Mo_tenth se_Mo_tenth ini_Mo cd_Mo_tenth) rfl rfl rfl (by decide +kernel) ⟨Nat.le_of_ble_eq_true rfl, Nat.le_of_ble_eq_true rfl⟩) hK hw b0 rfl rfl hl.1 rfl (Nat.le_of_ble_eq_true rfl) dMo_digit_47 ⟨Nat.le_of_ble_eq_true rfl, Nat.le_of_ble_eq_true rfl⟩ (fun v w204 H locs hq hw => ?_)
  obtain ⟨hv9, hS, hn9⟩ := hq
  rw [up_s] at hv9
  rw [va_upup, up_s] at hS
  subst hv9
  have hoF : ∀ q, q < b ∨ b + 9 ≤ q → w204 q = w q := fun q h9 => (hn9 q h9).trans (hoF q h9)
  have b0 : w204 b = some (.inr (10, [.int (nI (0)), .ref (b + 1), .ref (b + 2), .int (nI (I 3)), .ref (b + 3), .ref (b + 4), .int (nI (I 6)), .int (nI (I 7)), .ref (b + 5), .ref (b + 6), .int (nI (I 10)), .int (nI (I 11)), .int (nI (I 12)), .int (nI (I 13)), .ref (b + 7), .ref (b + 8), .int (nI (I 16)), .int (nI (I 17)), .int (nI (I 18)), .int (nI (I 19))])) := hS.1
  refine W.eq (g2 := F0 m 50 ls [.int (nI (X 0 % 10))]) rfl ?_
  rw [show (nI (X 0 % 10) : Int32) = nI (X 0 / 10 ^ 0 % 10) from (by rw [Nat.pow_zero, Nat.div_one])]
  refine lv_istore_n (pc := 50) (lv' := [(2, .int (nI (X 0 / 10 ^ 0 % 10))), (0, .ref b), (1, .int (nI i))]) hx hb dMo_digit_50 rfl hl (by decide) rfl (fun ls hl => ?_)
  refine lv_iconst (pc := 51) (v := (nI 0)) hx hb dMo_digit_51 (by decide) ?_
  refine lv_istore_n (pc := 52) (lv' := [(3, .int (nI 0)), (2, .int (nI (X 0 / 10 ^ 0 % 10))), (0, .ref b), (1, .int (nI i))]) hx hb dMo_digit_52 rfl hl (by decide) rfl (fun ls hl => ?_)
  exact loop 240 0 (by decide) (Nat.zero_le _) _ _ _ ls hw (lv_sub hl [0, 1, 2, 3] rfl) hS hoF

set_option maxHeartbeats 4000000 in
set_option maxRecDepth 100000 in
theorem c_Mo_digits {b : Nat} {I : Nat → Nat} {K : Nat → Nat → Nat} {S : Nat → Int32} {X : Nat → Nat} (hS : moS cI cL w b I K S (mC X)) (hX : ∀ p, X p < nM ^ 64) (h70 : X 0 < 2 ^ 768) : fw_C l yMo_digits (Cond.code yMo_digits cMo_digits 3 (some FieldType.int) :: kWs) ({ frames := 1, cells := 0, slots := 0, locals := 25 } : Room) D kCl (kty cI cL cQ) z [.ref b] (sz) w 0 0 (fun v w' => (∃ c, v = some (.int (nI c)) ∧ isDl (X 0) c ∧ c < 2 ^ 31) ∧ (∃ e, moS cI cL w' b (I) K (va_up S 18 (S 0)) (mC (va_up X 18 e)) ∧ e ≤ X 0) ∧ ∀ q, q < b ∨ b + 9 ≤ q → w' q = w q) := by
  refine fw_ofW (cc := cMo_digits) (maxL := 3) (ret := (some FieldType.int)) (by decide) rfl (Nat.le_of_ble_eq_true rfl) ?_
  intro p e s m args below meth c hx hb hr hts hown hlocks hname hml hK H ls hw hl
  have hW : ∀ w ∈ kWs, w.before args s = true := fun w h => hts w (List.mem_cons_of_mem _ h)
  have hown : s.vm.findClass RMo = some m.cls := hown
  have hl : lv_has ls 3 [(0, .ref b)] := hl
  have b0 : w b = some (.inr (10, [.int (nI (I 0)), .ref (b + 1), .ref (b + 2), .int (nI (I 3)), .ref (b + 3), .ref (b + 4), .int (nI (I 6)), .int (nI (I 7)), .ref (b + 5), .ref (b + 6), .int (nI (I 10)), .int (nI (I 11)), .int (nI (I 12)), .int (nI (I 13)), .ref (b + 7), .ref (b + 8), .int (nI (I 16)), .int (nI (I 17)), .int (nI (I 18)), .int (nI (I 19))])) := hS.1
  have b1 : w (b + 1) = some (.inl (cL, 1536, .inr (.inl (fun i => lN (mC X i))))) := hS.2.1
  have b2 : w (b + 2) = some (.inl (cI, 24, .inl (S))) := hS.2.2.1
  have b09 := b0
  have b29 := b2
  have hXu : ∀ y, y ≤ X 0 → ∀ p, va_up X 18 y p < nM ^ 64 := fun y hy p => by (unfold va_up; split; exact Nat.lt_of_le_of_lt hy (hX 0); exact hX p)
  have p232 : 2 ^ 768 < 10 ^ 232 := by decide +kernel
  have loop : ∀ (r k : Nat), k + r = 233 → (k = 0 ∨ 10 ^ (k - 1) ≤ X 0) → ∀ (w1 : fw_W) (H : Heap) (locs : List Loc) (ls : Array Slot), fw_H D kCl (fw_A w (sz)) s.heap w1 (sz) H locs → lv_has ls 3 [(1, .int (nI k)), (0, .ref b)] → moS cI cL w1 b I K (va_up S 18 (S 0)) (mC (va_up X 18 (X 0 / 10 ^ k))) → (∀ q, q < b ∨ b + 9 ≤ q → w1 q = w q) → W p l e ({ frames := 1, cells := 0, slots := 0, locals := 25 } : Room) s m args below meth c H locs 0 0 (MQ below (fw_Q D kCl w (sz) 0 (fun v w' => (∃ c, v = some (.int (nI c)) ∧ isDl (X 0) c ∧ c < 2 ^ 31) ∧ (∃ e, moS cI cL w' b (I) K (va_up S 18 (S 0)) (mC (va_up X 18 e)) ∧ e ≤ X 0) ∧ ∀ q, q < b ∨ b + 9 ≤ q → w' q = w q)) args s 0 0 (fw_A w (sz))) (F0 m 9 ls []) := by
    intro r
    induction r with
    | zero => intro k hk hk1; exact absurd (show 10 ^ 232 ≤ X 0 by (rcases hk1 with h9 | h9; omega; rw [show k - 1 = 232 by omega] at h9; exact h9)) (by omega)
    | succ r ih =>
      intro k hk hk1 w1 H locs ls hw hl hS hoF
      have hX9 : X 0 / 10 ^ k ≤ X 0 := Nat.div_le_self _ _
      have b0 : w1 b = some (.inr (10, [.int (nI (I 0)), .ref (b + 1), .ref (b + 2), .int (nI (I 3)), .ref (b + 3), .ref (b + 4), .int (nI (I 6)), .int (nI (I 7)), .ref (b + 5), .ref (b + 6), .int (nI (I 10)), .int (nI (I 11)), .int (nI (I 12)), .int (nI (I 13)), .ref (b + 7), .ref (b + 8), .int (nI (I 16)), .int (nI (I 17)), .int (nI (I 18)), .int (nI (I 19))])) := hS.1
      refine lv_aload_n (pc := 9) hx hb dMo_digits_9 rfl (lv_at hl 1 rfl) ?_
      refine lv_bipush (pc := 10) (v := (nI 18)) hx hb dMo_digits_10 (by decide) ?_
      refine fw_cVR (pc := 12) (As := [.int (nI 18)]) (rest := []) ⟨hx, hb, hml, hown, hW⟩ (c_Mo_limbs (p0 := 18) (X := va_up X 18 (X 0 / 10 ^ k)) hS (hXu _ hX9) (by decide)) (cwV 1 hW (kw_V lm_Mo_128 im_Mo_limbs se_Mo_limbs ini_Mo cd_Mo_limbs) rfl rfl rfl (by decide +kernel) ⟨Nat.le_of_ble_eq_true rfl, Nat.le_of_ble_eq_true rfl⟩) hK hw b0 rfl rfl hl.1 rfl (Nat.le_of_ble_eq_true rfl) dMo_digits_12 ⟨Nat.le_of_ble_eq_true rfl, Nat.le_of_ble_eq_true rfl⟩ (fun v hq => ?_)
      obtain ⟨n9, rfl, hn64, hmq⟩ := hq
      rw [up_s] at hmq
      refine W.eq (g2 := F0 m 15 ls [.int (nI n9)]) rfl ?_
      rcases Nat.eq_zero_or_pos n9 with h9 | h9
      · subst h9
        refine lv_if_le (pc := 15) (tgt := 29) hx hb dMo_digits_15 (by decide) (fun _ => ?_) (fun hc => absurd (show nI 0 ≤ 0 by decide) hc)
        have hlt : X 0 < 10 ^ k := (Nat.div_eq_zero_iff_lt (Nat.pow_pos (by decide))).mp (Nat.lt_one_iff.mp (by have h8 := hmq.1; rw [Nat.pow_zero] at h8; exact h8))
        refine lv_iload_n (pc := 29) hx hb dMo_digits_29 rfl (lv_at hl 0 rfl) ?_
        rcases Nat.eq_zero_or_pos k with h7 | h7
        · refine lv_if_ne (pc := 30) (tgt := 37) hx hb dMo_digits_30 (by decide) (fun hc => absurd hc (fun h6 => h6 (by rw [h7]; decide))) (fun _ => ?_)
          refine lv_iconst (pc := 33) (v := (nI 1)) hx hb dMo_digits_33 (by decide) ?_
          refine lv_goto (pc := 34) (tgt := 38) hx hb dMo_digits_34 (by decide) ?_
          exact fw_iret (pc := 38) hx hb hr hlocks hw dMo_digits_38 ⟨⟨1, rfl, ⟨by decide, by rw [h7] at hlt; exact Nat.lt_of_lt_of_le hlt (by decide), Or.inl rfl⟩, by decide⟩, ⟨_, hS, hX9⟩, hoF⟩
        · refine lv_if_ne (pc := 30) (tgt := 37) hx hb dMo_digits_30 (by decide) (fun _ => ?_) (fun hc => absurd hc (nI_ne0 h7 (by omega)))
          refine lv_iload_n (pc := 37) hx hb dMo_digits_37 rfl (lv_at hl 0 rfl) ?_
          exact fw_iret (pc := 38) hx hb hr hlocks hw dMo_digits_38 ⟨⟨k, rfl, ⟨h7, hlt, Or.inr (hk1.resolve_left (by omega))⟩, by omega⟩, ⟨_, hS, hX9⟩, hoF⟩
      · refine lv_if_le (pc := 15) (tgt := 29) hx hb dMo_digits_15 (by decide) (fun hc => absurd hc (nI_nle h9 (by omega))) (fun _ => ?_)
        have hge : 10 ^ k ≤ X 0 := Nat.le_of_not_lt (fun h8 => absurd (hmq.2 h9) (by rw [Nat.div_eq_of_lt h8]; exact Nat.not_le.mpr (Nat.pow_pos (by decide))))
        refine lv_aload_n (pc := 18) hx hb dMo_digits_18 rfl (lv_at hl 1 rfl) ?_
        refine fw_cV (pc := 19) (As := []) (rest := []) ⟨hx, hb, hml, hown, hW⟩ (c_Mo_tenth (X := va_up X 18 (X 0 / 10 ^ k)) hS (hXu _ hX9) (by rw [up_s]; exact Nat.lt_of_le_of_lt hX9 h70)) (cwV 0 hW (kw_V lm_Mo_206 im_Mo_tenth se_Mo_tenth ini_Mo cd_Mo_tenth) rfl rfl rfl (by decide +kernel) ⟨Nat.le_of_ble_eq_true rfl, Nat.le_of_ble_eq_true rfl⟩) hK hw b0 rfl rfl hl.1 rfl (Nat.le_of_ble_eq_true rfl) dMo_digits_19 ⟨Nat.le_of_ble_eq_true rfl, Nat.le_of_ble_eq_true rfl⟩ (fun v w101 H locs hq hw => ?_)
        obtain ⟨hv9, hS, hn9⟩ := hq
        rw [up_s] at hv9
        rw [va_upup, up_s] at hS
        subst hv9
        have hoF : ∀ q, q < b ∨ b + 9 ≤ q → w101 q = w q := fun q h9 => (hn9 q h9).trans (hoF q h9)
        have b0 : w101 b = some (.inr (10, [.int (nI (I 0)), .ref (b + 1), .ref (b + 2), .int (nI (I 3)), .ref (b + 3), .ref (b + 4), .int (nI (I 6)), .int (nI (I 7)), .ref (b + 5), .ref (b + 6), .int (nI (I 10)), .int (nI (I 11)), .int (nI (I 12)), .int (nI (I 13)), .ref (b + 7), .ref (b + 8), .int (nI (I 16)), .int (nI (I 17)), .int (nI (I 18)), .int (nI (I 19))])) := hS.1
        rw [Nat.div_div_eq_div_mul, ← Nat.pow_succ] at hS
        refine W.eq (g2 := F0 m 22 ls [.int (nI (X 0 / 10 ^ k % 10))]) rfl ?_
        refine lv_istore_n (pc := 22) (lv' := [(2, .int (nI (X 0 / 10 ^ k % 10))), (1, .int (nI k)), (0, .ref b)]) hx hb dMo_digits_22 rfl hl (by decide) rfl (fun ls hl => ?_)
        refine lv_iinc (pc := 23) (lv' := [(1, .int (nI (k + 1))), (2, .int (nI (X 0 / 10 ^ k % 10))), (0, .ref b)]) hx hb dMo_digits_23 hl (k := 1) rfl ((nI_add k 1)) (by decide) rfl (fun ls hl => ?_)
        refine lv_goto (pc := 26) (tgt := 9) hx hb dMo_digits_26 (by decide) ?_
        exact ih (k + 1) (by omega) (Or.inr hge) _ H locs ls hw (lv_sub hl [0, 2] rfl) hS hoF
  refine lv_aload_n (pc := 0) hx hb dMo_digits_0 rfl (lv_at hl 0 rfl) ?_
  refine lv_iconst (pc := 1) (v := (nI 0)) hx hb dMo_digits_1 (by decide) ?_
  refine lv_bipush (pc := 2) (v := (nI 18)) hx hb dMo_digits_2 (by decide) ?_
  have hoF : ∀ q, q < b ∨ b + 9 ≤ q → w q = w q := fun q _ => rfl
  refine fw_cV (pc := 4) (As := [.int (nI 0), .int (nI 18)]) (rest := []) ⟨hx, hb, hml, hown, hW⟩ (c_Mo_copy (pa := 0) (pc9 := 18) hS hX (by decide) (by decide) (by decide)) (cwV 2 hW (kw_V lm_Mo_143 im_Mo_copy se_Mo_copy ini_Mo cd_Mo_copy) rfl rfl rfl (by decide +kernel) ⟨Nat.le_of_ble_eq_true rfl, Nat.le_of_ble_eq_true rfl⟩) hK hw b0 rfl rfl hl.1 rfl (Nat.le_of_ble_eq_true rfl) dMo_digits_4 ⟨Nat.le_of_ble_eq_true rfl, Nat.le_of_ble_eq_true rfl⟩ (fun v w201 H locs hq hw => ?_)
  obtain ⟨rfl, hS, hn9⟩ := hq
  have b0 : w201 b = some (.inr (10, [.int (nI (I 0)), .ref (b + 1), .ref (b + 2), .int (nI (I 3)), .ref (b + 3), .ref (b + 4), .int (nI (I 6)), .int (nI (I 7)), .ref (b + 5), .ref (b + 6), .int (nI (I 10)), .int (nI (I 11)), .int (nI (I 12)), .int (nI (I 13)), .ref (b + 7), .ref (b + 8), .int (nI (I 16)), .int (nI (I 17)), .int (nI (I 18)), .int (nI (I 19))])) := hS.1
  have hoF : ∀ q, q < b ∨ b + 9 ≤ q → w201 q = w q := fun q h9 => (hn9 q h9).trans (hoF q h9)
  refine W.eq (g2 := F0 m 7 ls []) rfl ?_
  refine lv_iconst (pc := 7) (v := (nI 0)) hx hb dMo_digits_7 (by decide) ?_
  refine lv_istore_n (pc := 8) (lv' := [(1, .int (nI 0)), (0, .ref b)]) hx hb dMo_digits_8 rfl hl (by decide) rfl (fun ls hl => ?_)
  exact loop 233 0 (by decide) (Or.inl rfl) _ _ _ ls hw (lv_sub hl [0, 1] rfl) (by rw [Nat.pow_zero, Nat.div_one]; exact hS) hoF

set_option maxHeartbeats 4000000 in
set_option maxRecDepth 100000 in
theorem c_Mo_count7 {b : Nat} {I : Nat → Nat} {K : Nat → Nat → Nat} {S : Nat → Int32} {X : Nat → Nat} (hS : moS cI cL w b I K S (mC X)) (hX : ∀ p, X p < nM ^ 64) (h6 : I 6 < 2 ^ 31) (h7 : I 7 < 2 ^ 31) (h16 : I 16 < 2 ^ 31) (hno : 0 < I 6 ∧ I 16 = I 7) (h70 : X 0 < 2 ^ 768) : fw_C l yMo_count (Cond.code yMo_count cMo_count 2 (some FieldType.int) :: kWs) ({ frames := 2, cells := 0, slots := 0, locals := 47 } : Room) D kCl (kty cI cL cQ) z [.ref b, .int (nI 7)] (sz) w 0 0 (fun v w' => (∃ c, v = some (.int (nI c)) ∧ isDl (X 0) c ∧ c < 2 ^ 31) ∧ (∃ e, moS cI cL w' b (va_up I 0 0) K (va_up S 18 (S 0)) (mC (va_up X 18 e)) ∧ e ≤ X 0) ∧ ∀ q, q < b ∨ b + 9 ≤ q → w' q = w q) := by
  refine fw_ofW (cc := cMo_count) (maxL := 2) (ret := (some FieldType.int)) (by decide) rfl (Nat.le_of_ble_eq_true rfl) ?_
  intro p e s m args below meth c hx hb hr hts hown hlocks hname hml hK H ls hw hl
  have hW : ∀ w ∈ kWs, w.before args s = true := fun w h => hts w (List.mem_cons_of_mem _ h)
  have hown : s.vm.findClass RMo = some m.cls := hown
  have hl : lv_has ls 2 [(0, .ref b), (1, .int (nI 7))] := hl
  have b0 : w b = some (.inr (10, [.int (nI (I 0)), .ref (b + 1), .ref (b + 2), .int (nI (I 3)), .ref (b + 3), .ref (b + 4), .int (nI (I 6)), .int (nI (I 7)), .ref (b + 5), .ref (b + 6), .int (nI (I 10)), .int (nI (I 11)), .int (nI (I 12)), .int (nI (I 13)), .ref (b + 7), .ref (b + 8), .int (nI (I 16)), .int (nI (I 17)), .int (nI (I 18)), .int (nI (I 19))])) := hS.1
  have b1 : w (b + 1) = some (.inl (cL, 1536, .inr (.inl (fun i => lN (mC X i))))) := hS.2.1
  have b2 : w (b + 2) = some (.inl (cI, 24, .inl (S))) := hS.2.2.1
  have b09 := b0
  have b29 := b2
  refine lv_aload_n (pc := 0) hx hb dMo_count_0 rfl (lv_at hl 0 rfl) ?_
  refine lv_iconst (pc := 1) (v := (nI 0)) hx hb dMo_count_1 (by decide) ?_
  refine fw_put (pc := 2) (ci := 10) (v := .int (nI 0)) (ty := .int) (C := RMo) (T := TMo) (N := 20) hx hb hW in_Mo tyMo tyMo_ok nmMo hown hK.1 hw b0 rfl 0 (by decide) (hW _ lf_Mo_35) (fun _ h => h) rfl (by decide +kernel) rfl rfl (Nat.le_of_ble_eq_true rfl) dMo_count_2 (fun H locs hw => ?_)
  obtain ⟨w1, e1⟩ : ∃ w_, w_ = fw_up w (b) (.inr (10, [.int (nI 0), .ref (b + 1), .ref (b + 2), .int (nI (I 3)), .ref (b + 3), .ref (b + 4), .int (nI (I 6)), .int (nI (I 7)), .ref (b + 5), .ref (b + 6), .int (nI (I 10)), .int (nI (I 11)), .int (nI (I 12)), .int (nI (I 13)), .ref (b + 7), .ref (b + 8), .int (nI (I 16)), .int (nI (I 17)), .int (nI (I 18)), .int (nI (I 19))])) := ⟨_, rfl⟩
  have hw : fw_H D kCl (fw_A w (sz)) s.heap w1 (sz) H locs := by rw [e1]; exact hw
  have b1_ : w1 (b + 1) = some (.inl (cL, 1536, .inr (.inl (fun i => lN (mC X i))))) := by rw [e1, fw_un (by omega)]; exact b1
  have b2_ : w1 (b + 2) = some (.inl (cI, 24, .inl (S))) := by rw [e1, fw_un (by omega)]; exact b2
  have b0_ : w1 (b) = some (.inr (10, [.int (nI 0), .ref (b + 1), .ref (b + 2), .int (nI (I 3)), .ref (b + 3), .ref (b + 4), .int (nI (I 6)), .int (nI (I 7)), .ref (b + 5), .ref (b + 6), .int (nI (I 10)), .int (nI (I 11)), .int (nI (I 12)), .int (nI (I 13)), .ref (b + 7), .ref (b + 8), .int (nI (I 16)), .int (nI (I 17)), .int (nI (I 18)), .int (nI (I 19))])) := by rw [e1]; exact fw_us _ _ _
  have b0 := b0_
  have b1 := b1_
  have b2 := b2_
  have hS : moS cI cL w1 b (va_up I 0 0) K S (mC X) := moS.int hS b0 (fun q hq => by rw [e1, fw_un hq])
  refine lv_iload_n (pc := 5) hx hb dMo_count_5 rfl (lv_at hl 1 rfl) ?_
  refine lv_tableIn (pc := 6) (tgt := 107) hx hb dMo_count_6 (by decide) (by decide) rfl (by decide) ?_
  refine lv_aload_n (pc := 107) hx hb dMo_count_107 rfl (lv_at hl 0 rfl) ?_
  refine fw_cVR (pc := 108) (As := []) (rest := []) ⟨hx, hb, hml, hown, hW⟩ (c_Mo_hasResult hS h6 h7 h16) (cwV 0 hW (kw_V lm_Mo_196 im_Mo_hasResult se_Mo_hasResult ini_Mo cd_Mo_hasResult) rfl rfl rfl (by decide +kernel) ⟨Nat.le_of_ble_eq_true rfl, Nat.le_of_ble_eq_true rfl⟩) hK hw b0 rfl rfl hl.1 rfl (Nat.le_of_ble_eq_true rfl) dMo_count_108 ⟨Nat.le_of_ble_eq_true rfl, Nat.le_of_ble_eq_true rfl⟩ (fun v hq => ?_)
  have hq : v = some (.int (nI (if 0 < I 6 ∧ I 16 = I 7 then 1 else 0))) := hq
  rw [if_pos hno] at hq
  subst hq
  refine W.eq (g2 := F0 m 111 ls [.int (nI 1)]) rfl ?_
  refine lv_if_eq (pc := 111) (tgt := 121) hx hb dMo_count_111 (by decide) (fun hc => absurd hc (show ¬ nI 1 = 0 by decide)) (fun _ => ?_)
  refine lv_aload_n (pc := 114) hx hb dMo_count_114 rfl (lv_at hl 0 rfl) ?_
  refine fw_cV (pc := 115) (As := []) (rest := []) ⟨hx, hb, hml, hown, hW⟩ (c_Mo_digits hS hX h70) (cwV 0 hW (kw_V lm_Mo_209 im_Mo_digits se_Mo_digits ini_Mo cd_Mo_digits) rfl rfl rfl (by decide +kernel) ⟨Nat.le_of_ble_eq_true rfl, Nat.le_of_ble_eq_true rfl⟩) hK hw b0 rfl rfl hl.1 rfl (Nat.le_of_ble_eq_true rfl) dMo_count_115 ⟨Nat.le_of_ble_eq_true rfl, Nat.le_of_ble_eq_true rfl⟩ (fun v w2 H locs hq hw => ?_)
  obtain ⟨⟨c9, rfl, hd9, hc9⟩, he9, hn9⟩ := hq
  refine W.eq (g2 := F0 m 118 ls [.int (nI c9)]) rfl ?_
  refine lv_goto (pc := 118) (tgt := 122) hx hb dMo_count_118 (by decide) ?_
  exact fw_iret (pc := 122) hx hb hr hlocks hw dMo_count_122 ⟨⟨c9, rfl, hd9, hc9⟩, he9, fun q h9 => by rw [hn9 q h9, e1, fw_un (by omega)]⟩

set_option maxHeartbeats 4000000 in
set_option maxRecDepth 100000 in
theorem c_Mo_run {b : Nat} {I : Nat → Nat} {K : Nat → Nat → Nat} {S : Nat → Int32} {X : Nat → Nat} (hS : moS cI cL w b I K S (mC X)) {Z9 : MS} {n nx9 us9 mo9 fa9 : Nat} {R9 Y : Nat → Int} (hn : n ≤ 10000) (h6 : I 6 = 1) (h16 : I 16 = nx9) (h17 : I 17 = us9) (h18 : I 18 = mo9) (h19 : I 19 = fa9) (hC : cOk (K 2) (K 3) (I 7)) (hO : mOk (K 2) (I 7) (nx9, us9, mo9, fa9, R9)) (hY7 : ∀ i, Int.natAbs (Y i) < 2 ^ 768) (hrf : mRf S X (nx9, us9, mo9, fa9, R9) Y) (hZ9 : mRun (K 2) (K 3) Y (I 7) n (nx9, us9, mo9, fa9, R9) = Z9) : fw_C l yMo_run (Cond.code yMo_run cMo_run 3 (some FieldType.int) :: kWs) ({ frames := 6, cells := 0, slots := 0, locals := 154 } : Room) D kCl (kty cI cL cQ) z [.ref b, .int (nI n)] (sz) w 0 0 (fun v w' => v = some (.int (nI (mAns (I 7) Z9))) ∧ (∃ S2 X2, moS cI cL w' b (moI (va_up I 0 0) Z9) K S2 (mC X2) ∧ mRf S2 X2 Z9 Y) ∧ ∀ q, q < b ∨ b + 9 ≤ q → w' q = w q) := by
  refine fw_ofW (cc := cMo_run) (maxL := 3) (ret := (some FieldType.int)) (by decide) rfl (Nat.le_of_ble_eq_true rfl) ?_
  intro p e s m args below meth c hx hb hr hts hown hlocks hname hml hK H ls hw hl
  have hW : ∀ w ∈ kWs, w.before args s = true := fun w h => hts w (List.mem_cons_of_mem _ h)
  have hown : s.vm.findClass RMo = some m.cls := hown
  have hl : lv_has ls 3 [(0, .ref b), (1, .int (nI n))] := hl
  have b0 : w b = some (.inr (10, [.int (nI (I 0)), .ref (b + 1), .ref (b + 2), .int (nI (I 3)), .ref (b + 3), .ref (b + 4), .int (nI (I 6)), .int (nI (I 7)), .ref (b + 5), .ref (b + 6), .int (nI (I 10)), .int (nI (I 11)), .int (nI (I 12)), .int (nI (I 13)), .ref (b + 7), .ref (b + 8), .int (nI (I 16)), .int (nI (I 17)), .int (nI (I 18)), .int (nI (I 19))])) := hS.1
  have b1 : w (b + 1) = some (.inl (cL, 1536, .inr (.inl (fun i => lN (mC X i))))) := hS.2.1
  have b2 : w (b + 2) = some (.inl (cI, 24, .inl (S))) := hS.2.2.1
  have b09 := b0
  have b29 := b2
  have loop : ∀ (r k nx us mo fa : Nat) (R : Nat → Int) (S1 : Nat → Int32) (X1 : Nat → Nat), k + r = n → mOk (K 2) (I 7) (nx, us, mo, fa, R) → mRf S1 X1 (nx, us, mo, fa, R) Y → mRun (K 2) (K 3) Y (I 7) r (nx, us, mo, fa, R) = Z9 → ∀ (w1 : fw_W) (H : Heap) (locs : List Loc) (ls : Array Slot), fw_H D kCl (fw_A w (sz)) s.heap w1 (sz) H locs → lv_has ls 3 [(2, .int (nI k)), (0, .ref b), (1, .int (nI n))] → moS cI cL w1 b (moI (va_up I 0 0) (nx, us, mo, fa, R)) K S1 (mC X1) → (∀ q, q < b ∨ b + 9 ≤ q → w1 q = w q) → W p l e ({ frames := 6, cells := 0, slots := 0, locals := 154 } : Room) s m args below meth c H locs 0 0 (MQ below (fw_Q D kCl w (sz) 0 (fun v w' => v = some (.int (nI (mAns (I 7) Z9))) ∧ (∃ S2 X2, moS cI cL w' b (moI (va_up I 0 0) Z9) K S2 (mC X2) ∧ mRf S2 X2 Z9 Y) ∧ ∀ q, q < b ∨ b + 9 ≤ q → w' q = w q)) args s 0 0 (fw_A w (sz))) (F0 m 48 ls []) := by
    intro r
    induction r with
    | zero =>
      intro k nx us mo fa R S1 X1 hk hO hrf hrun w1 H locs ls hw hl hS hoF
      have b0 : w1 b = some (.inr (10, [.int (nI (0)), .ref (b + 1), .ref (b + 2), .int (nI (I 3)), .ref (b + 3), .ref (b + 4), .int (nI (I 6)), .int (nI (I 7)), .ref (b + 5), .ref (b + 6), .int (nI (I 10)), .int (nI (I 11)), .int (nI (I 12)), .int (nI (I 13)), .ref (b + 7), .ref (b + 8), .int (nI (nx)), .int (nI (us)), .int (nI (mo)), .int (nI (fa))])) := hS.1
      obtain ⟨k1, k2, k3, k4, k5, k6, k7⟩ := id hO
      have hsz := hC.1
      refine lv_iload_n (pc := 48) hx hb dMo_run_48 rfl (lv_at hl 0 rfl) ?_
      refine lv_iload_n (pc := 49) hx hb dMo_run_49 rfl (lv_at hl 2 rfl) ?_
      refine lv_icmp_ge (pc := 50) (tgt := 81) hx hb dMo_run_50 (by decide) (fun _ => ?_) (fun hc => absurd (nI_le (show n ≤ k by omega) (by omega)) hc)
      rcases (show fa = 0 ∨ ¬ fa = 0 by omega) with hf9 | hf9
      · subst hf9
        rcases (show nx < I 7 ∨ ¬ nx < I 7 by omega) with hx9 | hx9
        · have hZ : Z9 = (nx, us, mo, 0, R) := hrun.symm.trans rfl
          subst hZ
          refine lv_aload_n (pc := 81) hx hb dMo_run_81 rfl (lv_at hl 1 rfl) ?_
          refine fw_get (pc := 82) (ci := 10) (v := .int (nI (0))) (C := RMo) (T := TMo) (N := 20) hx hb hW in_Mo hown hK.1 hw b0 rfl 19 (by decide) (hW _ lf_Mo_107) (fun _ h => h) rfl dMo_run_82 ?_
          refine lv_if_le (pc := 85) (tgt := 95) hx hb dMo_run_85 (by decide) (fun _ => ?_) (fun hc => absurd (show nI 0 ≤ 0 by decide) hc)
          refine lv_aload_n (pc := 95) hx hb dMo_run_95 rfl (lv_at hl 1 rfl) ?_
          refine fw_get (pc := 96) (ci := 10) (v := .int (nI (nx))) (C := RMo) (T := TMo) (N := 20) hx hb hW in_Mo hown hK.1 hw b0 rfl 16 (by decide) (hW _ lf_Mo_98) (fun _ h => h) rfl dMo_run_96 ?_
          refine lv_aload_n (pc := 99) hx hb dMo_run_99 rfl (lv_at hl 1 rfl) ?_
          refine fw_get (pc := 100) (ci := 10) (v := .int (nI (I 7))) (C := RMo) (T := TMo) (N := 20) hx hb hW in_Mo hown hK.1 hw b0 rfl 7 (by decide) (hW _ lf_Mo_46) (fun _ h => h) rfl dMo_run_100 ?_
          refine lv_icmp_ge (pc := 103) (tgt := 110) hx hb dMo_run_103 (by decide) (fun hc => absurd hc (nI_ge hx9 (by omega))) (fun _ => ?_)
          refine lv_iconst (pc := 106) (v := (nI 1)) hx hb dMo_run_106 (by decide) ?_
          refine lv_goto (pc := 107) (tgt := 111) hx hb dMo_run_107 (by decide) ?_
          exact fw_iret (pc := 111) hx hb hr hlocks hw dMo_run_111 ⟨by rw [(show mAns (I 7) (nx, us, mo, 0, R) = 1 from (if_pos rfl).trans (if_neg (show ¬ nx = I 7 by omega)))], ⟨_, _, hS, hrf⟩, hoF⟩
        · have hZ : Z9 = (nx, us, mo, 0, R) := hrun.symm.trans rfl
          subst hZ
          refine lv_aload_n (pc := 81) hx hb dMo_run_81 rfl (lv_at hl 1 rfl) ?_
          refine fw_get (pc := 82) (ci := 10) (v := .int (nI (0))) (C := RMo) (T := TMo) (N := 20) hx hb hW in_Mo hown hK.1 hw b0 rfl 19 (by decide) (hW _ lf_Mo_107) (fun _ h => h) rfl dMo_run_82 ?_
          refine lv_if_le (pc := 85) (tgt := 95) hx hb dMo_run_85 (by decide) (fun _ => ?_) (fun hc => absurd (show nI 0 ≤ 0 by decide) hc)
          refine lv_aload_n (pc := 95) hx hb dMo_run_95 rfl (lv_at hl 1 rfl) ?_
          refine fw_get (pc := 96) (ci := 10) (v := .int (nI (nx))) (C := RMo) (T := TMo) (N := 20) hx hb hW in_Mo hown hK.1 hw b0 rfl 16 (by decide) (hW _ lf_Mo_98) (fun _ h => h) rfl dMo_run_96 ?_
          refine lv_aload_n (pc := 99) hx hb dMo_run_99 rfl (lv_at hl 1 rfl) ?_
          refine fw_get (pc := 100) (ci := 10) (v := .int (nI (I 7))) (C := RMo) (T := TMo) (N := 20) hx hb hW in_Mo hown hK.1 hw b0 rfl 7 (by decide) (hW _ lf_Mo_46) (fun _ h => h) rfl dMo_run_100 ?_
          refine lv_icmp_ge (pc := 103) (tgt := 110) hx hb dMo_run_103 (by decide) (fun _ => ?_) (fun hc => absurd (nI_le (show I 7 ≤ nx by omega) (by omega)) hc)
          refine lv_iconst (pc := 110) (v := (nI 0)) hx hb dMo_run_110 (by decide) ?_
          exact fw_iret (pc := 111) hx hb hr hlocks hw dMo_run_111 ⟨by rw [(show mAns (I 7) (nx, us, mo, 0, R) = 0 from (if_pos rfl).trans (if_pos (show nx = I 7 by omega)))], ⟨_, _, hS, hrf⟩, hoF⟩
      · have hZ : Z9 = (nx, us, mo, fa, R) := hrun.symm.trans rfl
        subst hZ
        refine lv_aload_n (pc := 81) hx hb dMo_run_81 rfl (lv_at hl 1 rfl) ?_
        refine fw_get (pc := 82) (ci := 10) (v := .int (nI (fa))) (C := RMo) (T := TMo) (N := 20) hx hb hW in_Mo hown hK.1 hw b0 rfl 19 (by decide) (hW _ lf_Mo_107) (fun _ h => h) rfl dMo_run_82 ?_
        refine lv_if_le (pc := 85) (tgt := 95) hx hb dMo_run_85 (by decide) (fun hc => absurd hc (nI_nle (show 0 < fa by omega) (by omega))) (fun _ => ?_)
        refine lv_aload_n (pc := 88) hx hb dMo_run_88 rfl (lv_at hl 1 rfl) ?_
        refine fw_get (pc := 89) (ci := 10) (v := .int (nI (fa))) (C := RMo) (T := TMo) (N := 20) hx hb hW in_Mo hown hK.1 hw b0 rfl 19 (by decide) (hW _ lf_Mo_107) (fun _ h => h) rfl dMo_run_89 ?_
        refine lv_goto (pc := 92) (tgt := 111) hx hb dMo_run_92 (by decide) ?_
        exact fw_iret (pc := 111) hx hb hr hlocks hw dMo_run_111 ⟨by rw [(show mAns (I 7) (nx, us, mo, fa, R) = fa from if_neg hf9)], ⟨_, _, hS, hrf⟩, hoF⟩
    | succ r ih =>
      intro k nx us mo fa R S1 X1 hk hO hrf hrun w1 H locs ls hw hl hS hoF
      have b0 : w1 b = some (.inr (10, [.int (nI (0)), .ref (b + 1), .ref (b + 2), .int (nI (I 3)), .ref (b + 3), .ref (b + 4), .int (nI (I 6)), .int (nI (I 7)), .ref (b + 5), .ref (b + 6), .int (nI (I 10)), .int (nI (I 11)), .int (nI (I 12)), .int (nI (I 13)), .ref (b + 7), .ref (b + 8), .int (nI (nx)), .int (nI (us)), .int (nI (mo)), .int (nI (fa))])) := hS.1
      obtain ⟨k1, k2, k3, k4, k5, k6, k7⟩ := id hO
      have hsz := hC.1
      refine lv_iload_n (pc := 48) hx hb dMo_run_48 rfl (lv_at hl 0 rfl) ?_
      refine lv_iload_n (pc := 49) hx hb dMo_run_49 rfl (lv_at hl 2 rfl) ?_
      refine lv_icmp_ge (pc := 50) (tgt := 81) hx hb dMo_run_50 (by decide) (fun hc => absurd hc (nI_ge (show k < n by omega) (by omega))) (fun _ => ?_)
      refine lv_aload_n (pc := 53) hx hb dMo_run_53 rfl (lv_at hl 1 rfl) ?_
      refine fw_get (pc := 54) (ci := 10) (v := .int (nI (fa))) (C := RMo) (T := TMo) (N := 20) hx hb hW in_Mo hown hK.1 hw b0 rfl 19 (by decide) (hW _ lf_Mo_107) (fun _ h => h) rfl dMo_run_54 ?_
      rcases (show fa = 0 ∨ ¬ fa = 0 by omega) with hf9 | hf9
      · subst hf9
        refine lv_if_ne (pc := 57) (tgt := 81) hx hb dMo_run_57 (by decide) (fun hc => absurd hc (fun h9 => h9 (by decide))) (fun _ => ?_)
        refine lv_aload_n (pc := 60) hx hb dMo_run_60 rfl (lv_at hl 1 rfl) ?_
        refine fw_get (pc := 61) (ci := 10) (v := .int (nI (nx))) (C := RMo) (T := TMo) (N := 20) hx hb hW in_Mo hown hK.1 hw b0 rfl 16 (by decide) (hW _ lf_Mo_98) (fun _ h => h) rfl dMo_run_61 ?_
        refine lv_aload_n (pc := 64) hx hb dMo_run_64 rfl (lv_at hl 1 rfl) ?_
        refine fw_get (pc := 65) (ci := 10) (v := .int (nI (I 7))) (C := RMo) (T := TMo) (N := 20) hx hb hW in_Mo hown hK.1 hw b0 rfl 7 (by decide) (hW _ lf_Mo_46) (fun _ h => h) rfl dMo_run_65 ?_
        rcases (show nx < I 7 ∨ ¬ nx < I 7 by omega) with hx9 | hx9
        · refine lv_icmp_ge (pc := 68) (tgt := 81) hx hb dMo_run_68 (by decide) (fun hc => absurd hc (nI_ge hx9 (by omega))) (fun _ => ?_)
          refine lv_aload_n (pc := 71) hx hb dMo_run_71 rfl (lv_at hl 1 rfl) ?_
          have hrun2 := (if_pos (⟨hx9, rfl⟩ : nx < I 7 ∧ (0 : Nat) = 0)).symm.trans hrun
          have hok2 := mStep_ok hC hY7 hO hx9
          refine fw_cV (pc := 72) (As := []) (rest := []) ⟨hx, hb, hml, hown, hW⟩ (c_Mo_step (Y := Y) (nx := nx) (us := us) (mo := mo) (sz9 := I 7) (R := R) hS rfl rfl rfl rfl rfl hC hO hx9 hY7 ⟨hrf.1 rfl, hrf.2⟩) (cwV 0 hW (kw_V lm_Mo_199 im_Mo_step se_Mo_step ini_Mo cd_Mo_step) rfl rfl rfl (by decide +kernel) ⟨Nat.le_of_ble_eq_true rfl, Nat.le_of_ble_eq_true rfl⟩) hK hw b0 rfl rfl hl.1 rfl (Nat.le_of_ble_eq_true rfl) dMo_run_72 ⟨Nat.le_of_ble_eq_true rfl, Nat.le_of_ble_eq_true rfl⟩ (fun v w101 H locs hq hw => ?_)
          obtain ⟨rfl, ⟨S2, X2, hS2, hrf2⟩, hn9⟩ := hq
          rw [moI_moI] at hS2
          refine W.eq (g2 := F0 m 75 ls []) rfl ?_
          obtain ⟨nx2, us2, mo2, fa2, R2, hst⟩ : ∃ a b c d e, mStep (K 2) (K 3) Y (nx, us, mo, 0, R) = (a, b, c, d, e) := ⟨_, _, _, _, _, rfl⟩
          rw [hst] at hS2 hrf2 hok2 hrun2
          refine lv_iinc (pc := 75) (lv' := [(2, .int (nI (k + 1))), (0, .ref b), (1, .int (nI n))]) hx hb dMo_run_75 hl (k := 0) rfl ((nI_add k 1)) (by decide) rfl (fun ls hl => ?_)
          refine lv_goto (pc := 78) (tgt := 48) hx hb dMo_run_78 (by decide) ?_
          exact ih (k + 1) nx2 us2 mo2 fa2 R2 S2 X2 (by omega) hok2 hrf2 hrun2 _ H locs ls hw (lv_sub hl [0, 1, 2] rfl) hS2 (fun q h9 => (hn9 q h9).trans (hoF q h9))
        · refine lv_icmp_ge (pc := 68) (tgt := 81) hx hb dMo_run_68 (by decide) (fun _ => ?_) (fun hc => absurd (nI_le (show I 7 ≤ nx by omega) (by omega)) hc)
          have hZ : Z9 = (nx, us, mo, 0, R) := hrun.symm.trans (if_neg (fun h9 => hx9 h9.1))
          subst hZ
          refine lv_aload_n (pc := 81) hx hb dMo_run_81 rfl (lv_at hl 1 rfl) ?_
          refine fw_get (pc := 82) (ci := 10) (v := .int (nI (0))) (C := RMo) (T := TMo) (N := 20) hx hb hW in_Mo hown hK.1 hw b0 rfl 19 (by decide) (hW _ lf_Mo_107) (fun _ h => h) rfl dMo_run_82 ?_
          refine lv_if_le (pc := 85) (tgt := 95) hx hb dMo_run_85 (by decide) (fun _ => ?_) (fun hc => absurd (show nI 0 ≤ 0 by decide) hc)
          refine lv_aload_n (pc := 95) hx hb dMo_run_95 rfl (lv_at hl 1 rfl) ?_
          refine fw_get (pc := 96) (ci := 10) (v := .int (nI (nx))) (C := RMo) (T := TMo) (N := 20) hx hb hW in_Mo hown hK.1 hw b0 rfl 16 (by decide) (hW _ lf_Mo_98) (fun _ h => h) rfl dMo_run_96 ?_
          refine lv_aload_n (pc := 99) hx hb dMo_run_99 rfl (lv_at hl 1 rfl) ?_
          refine fw_get (pc := 100) (ci := 10) (v := .int (nI (I 7))) (C := RMo) (T := TMo) (N := 20) hx hb hW in_Mo hown hK.1 hw b0 rfl 7 (by decide) (hW _ lf_Mo_46) (fun _ h => h) rfl dMo_run_100 ?_
          refine lv_icmp_ge (pc := 103) (tgt := 110) hx hb dMo_run_103 (by decide) (fun _ => ?_) (fun hc => absurd (nI_le (show I 7 ≤ nx by omega) (by omega)) hc)
          refine lv_iconst (pc := 110) (v := (nI 0)) hx hb dMo_run_110 (by decide) ?_
          exact fw_iret (pc := 111) hx hb hr hlocks hw dMo_run_111 ⟨by rw [(show mAns (I 7) (nx, us, mo, 0, R) = 0 from (if_pos rfl).trans (if_pos (show nx = I 7 by omega)))], ⟨_, _, hS, hrf⟩, hoF⟩
      · refine lv_if_ne (pc := 57) (tgt := 81) hx hb dMo_run_57 (by decide) (fun _ => ?_) (fun hc => absurd hc (nI_ne0 (show 0 < fa by omega) (by omega)))
        have hZ : Z9 = (nx, us, mo, fa, R) := hrun.symm.trans (if_neg (fun h9 => hf9 h9.2))
        subst hZ
        refine lv_aload_n (pc := 81) hx hb dMo_run_81 rfl (lv_at hl 1 rfl) ?_
        refine fw_get (pc := 82) (ci := 10) (v := .int (nI (fa))) (C := RMo) (T := TMo) (N := 20) hx hb hW in_Mo hown hK.1 hw b0 rfl 19 (by decide) (hW _ lf_Mo_107) (fun _ h => h) rfl dMo_run_82 ?_
        refine lv_if_le (pc := 85) (tgt := 95) hx hb dMo_run_85 (by decide) (fun hc => absurd hc (nI_nle (show 0 < fa by omega) (by omega))) (fun _ => ?_)
        refine lv_aload_n (pc := 88) hx hb dMo_run_88 rfl (lv_at hl 1 rfl) ?_
        refine fw_get (pc := 89) (ci := 10) (v := .int (nI (fa))) (C := RMo) (T := TMo) (N := 20) hx hb hW in_Mo hown hK.1 hw b0 rfl 19 (by decide) (hW _ lf_Mo_107) (fun _ h => h) rfl dMo_run_89 ?_
        refine lv_goto (pc := 92) (tgt := 111) hx hb dMo_run_92 (by decide) ?_
        exact fw_iret (pc := 111) hx hb hr hlocks hw dMo_run_111 ⟨by rw [(show mAns (I 7) (nx, us, mo, fa, R) = fa from if_neg hf9)], ⟨_, _, hS, hrf⟩, hoF⟩
  refine lv_aload_n (pc := 0) hx hb dMo_run_0 rfl (lv_at hl 0 rfl) ?_
  refine lv_aload_n (pc := 1) hx hb dMo_run_1 rfl (lv_at hl 0 rfl) ?_
  refine fw_get (pc := 2) (ci := 10) (v := .int (nI (I 6))) (C := RMo) (T := TMo) (N := 20) hx hb hW in_Mo hown hK.1 hw b0 rfl 6 (by decide) (hW _ lf_Mo_110) (fun _ h => h) rfl dMo_run_2 ?_
  rw [show (nI (I 6) : Int32) = nI 1 from (by rw [h6])]
  refine lv_if_ne (pc := 5) (tgt := 12) hx hb dMo_run_5 (by decide) (fun _ => ?_) (fun hc => absurd hc (show ¬ nI 1 = 0 by decide))
  refine lv_iconst (pc := 12) (v := (nI 0)) hx hb dMo_run_12 (by decide) ?_
  refine lv_iconst (pc := 13) (v := (nI 1)) hx hb dMo_run_13 (by decide) ?_
  refine fw_cV (pc := 14) (As := [.int (nI 0), .int (nI 1)]) (rest := []) ⟨hx, hb, hml, hown, hW⟩ (c_Mo_fails0 (k := 1) hS) (cwV 2 hW (kw_V lm_Mo_39 im_Mo_fails se_Mo_fails ini_Mo cd_Mo_fails) rfl rfl rfl (by decide +kernel) ⟨Nat.le_of_ble_eq_true rfl, Nat.le_of_ble_eq_true rfl⟩) hK hw b0 rfl rfl hl.1 rfl (Nat.le_of_ble_eq_true rfl) dMo_run_14 ⟨Nat.le_of_ble_eq_true rfl, Nat.le_of_ble_eq_true rfl⟩ (fun v w201 H locs hq hw => ?_)
  obtain ⟨rfl, hS_, hfr_⟩ := hq
  have hfr : ∀ q, q ≠ b → w201 q = w q := fun q hq => hfr_ q hq
  have hS : moS cI cL w201 b (va_up I 0 0) K S (mC X) := hS_
  have b0 : w201 b = some (.inr (10, [.int (nI (0)), .ref (b + 1), .ref (b + 2), .int (nI (I 3)), .ref (b + 3), .ref (b + 4), .int (nI (I 6)), .int (nI (I 7)), .ref (b + 5), .ref (b + 6), .int (nI (I 10)), .int (nI (I 11)), .int (nI (I 12)), .int (nI (I 13)), .ref (b + 7), .ref (b + 8), .int (nI (I 16)), .int (nI (I 17)), .int (nI (I 18)), .int (nI (I 19))])) := hS.1
  have b1 : w201 (b + 1) = some (.inl (cL, 1536, .inr (.inl (fun i => lN (mC (X) i))))) := hS.2.1
  have b2 : w201 (b + 2) = some (.inl (cI, 24, .inl (S))) := hS.2.2.1
  refine W.eq (g2 := F0 m 17 ls [.int (nI 0)]) rfl ?_
  refine lv_if_ne (pc := 17) (tgt := 44) hx hb dMo_run_17 (by decide) (fun hc => absurd hc (fun h => h rfl)) (fun _ => ?_)
  refine lv_aload_n (pc := 20) hx hb dMo_run_20 rfl (lv_at hl 0 rfl) ?_
  refine lv_iload_n (pc := 21) hx hb dMo_run_21 rfl (lv_at hl 1 rfl) ?_
  refine lv_if_lt (pc := 22) (tgt := 32) hx hb dMo_run_22 (by decide) (fun hc => absurd hc (nI_pos (by omega))) (fun _ => ?_)
  refine lv_iload_n (pc := 25) hx hb dMo_run_25 rfl (lv_at hl 1 rfl) ?_
  refine lv_sipush (pc := 26) (v := (nI 10000)) hx hb dMo_run_26 (by decide) ?_
  refine lv_icmp_le (pc := 29) (tgt := 36) hx hb dMo_run_29 (by decide) (fun _ => ?_) (fun hc => absurd (nI_le hn (by decide)) hc)
  refine lv_iconst (pc := 36) (v := (nI 0)) hx hb dMo_run_36 (by decide) ?_
  refine lv_iconst (pc := 37) (v := (nI 2)) hx hb dMo_run_37 (by decide) ?_
  refine fw_cV (pc := 38) (As := [.int (nI 0), .int (nI 2)]) (rest := []) ⟨hx, hb, hml, hown, hW⟩ (c_Mo_fails0 (k := 2) hS) (cwV 2 hW (kw_V lm_Mo_39 im_Mo_fails se_Mo_fails ini_Mo cd_Mo_fails) rfl rfl rfl (by decide +kernel) ⟨Nat.le_of_ble_eq_true rfl, Nat.le_of_ble_eq_true rfl⟩) hK hw b0 rfl rfl hl.1 rfl (Nat.le_of_ble_eq_true rfl) dMo_run_38 ⟨Nat.le_of_ble_eq_true rfl, Nat.le_of_ble_eq_true rfl⟩ (fun v w202 H locs hq hw => ?_)
  obtain ⟨rfl, hS_, hfr_⟩ := hq
  have hfr : ∀ q, q ≠ b → w202 q = w q := fun q hq => (hfr_ q hq).trans (hfr q hq)
  have hS : moS cI cL w202 b (va_up I 0 0) K S (mC X) := moS.int hS_ (by have h9 := hS_.1; rw [va_upup] at h9; exact h9) (fun q _ => rfl)
  have b0 : w202 b = some (.inr (10, [.int (nI (0)), .ref (b + 1), .ref (b + 2), .int (nI (I 3)), .ref (b + 3), .ref (b + 4), .int (nI (I 6)), .int (nI (I 7)), .ref (b + 5), .ref (b + 6), .int (nI (I 10)), .int (nI (I 11)), .int (nI (I 12)), .int (nI (I 13)), .ref (b + 7), .ref (b + 8), .int (nI (I 16)), .int (nI (I 17)), .int (nI (I 18)), .int (nI (I 19))])) := hS.1
  have b1 : w202 (b + 1) = some (.inl (cL, 1536, .inr (.inl (fun i => lN (mC (X) i))))) := hS.2.1
  have b2 : w202 (b + 2) = some (.inl (cI, 24, .inl (S))) := hS.2.2.1
  refine W.eq (g2 := F0 m 41 ls [.int (nI 0)]) rfl ?_
  refine lv_if_eq (pc := 41) (tgt := 46) hx hb dMo_run_41 (by decide) (fun _ => ?_) (fun hc => absurd (show nI 0 = 0 by decide) hc)
  refine lv_iconst (pc := 46) (v := (nI 0)) hx hb dMo_run_46 (by decide) ?_
  refine lv_istore_n (pc := 47) (lv' := [(2, .int (nI 0)), (0, .ref b), (1, .int (nI n))]) hx hb dMo_run_47 rfl hl (by decide) rfl (fun ls hl => ?_)
  have hmi : moI (va_up I 0 0) (nx9, us9, mo9, fa9, R9) = va_up I 0 0 := by (rw [← h16, ← h17, ← h18, ← h19]; funext i; unfold moI; by_cases e1 : i = 16; rw [if_pos e1, e1]; rfl; rw [if_neg e1]; by_cases e2 : i = 17; rw [if_pos e2, e2]; rfl; rw [if_neg e2]; by_cases e3 : i = 18; rw [if_pos e3, e3]; rfl; rw [if_neg e3]; by_cases e4 : i = 19; rw [if_pos e4, e4]; rfl; rw [if_neg e4])
  exact loop n 0 nx9 us9 mo9 fa9 R9 S X (Nat.zero_add _) hO hrf hZ9 _ _ _ ls hw (lv_sub hl [0, 1, 2] rfl) (by rw [hmi]; exact hS) (fun q h9 => hfr q (by omega))
end MO14
