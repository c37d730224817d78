/-- the reference's places hold the registers in use, the variables and 1 -/
def mRp (S : Nat → Int32) (X : Nat → Nat) (us : Nat) (R Y : Nat → Int) : Prop := (∀ i, i < us → X i = Int.natAbs (R i) ∧ S i = sg32 (R i)) ∧ (∀ j, j < 8 → X (10 + j) = Int.natAbs (Y j) ∧ S (10 + j) = sg32 (Y j)) ∧ X 23 = 1 ∧ S 23 = nI 1 ∧ ∀ p, X p < nM ^ 64
/-- behind a fault the registers don't matter -/
def mRf (S : Nat → Int32) (X : Nat → Nat) (s : MS) (Y : Nat → Int) : Prop := (s.2.2.2.1 = 0 → ∀ i, i < s.2.1 → X i = Int.natAbs (s.2.2.2.2 i) ∧ S i = sg32 (s.2.2.2.2 i)) ∧ (∀ j, j < 8 → X (10 + j) = Int.natAbs (Y j) ∧ S (10 + j) = sg32 (Y j)) ∧ X 23 = 1 ∧ S 23 = nI 1 ∧ ∀ p, X p < nM ^ 64
def moI (I : Nat → Nat) (s : MS) : Nat → Nat := fun i => if i = 16 then s.1 else if i = 17 then s.2.1 else if i = 18 then s.2.2.1 else if i = 19 then s.2.2.2.1 else I i
theorem mRf_of {S S2 : Nat → Int32} {X X2 : Nat → Nat} {us lo nx mo : Nat} {R Y : Nat → Int} {r : Int} (h : mRp S X us R Y) (hl : lo ≤ us) (hl2 : lo < 10) (hr : X2 lo = Int.natAbs r ∧ S2 lo = sg32 r) (hf : ∀ p, p ≠ lo → p < 18 ∨ 22 < p → X2 p = X p ∧ S2 p = S p) (hX : ∀ p, X2 p < nM ^ 64) : mRf S2 X2 (nx, lo + 1, mo, 0, va_up R lo r) Y := by
  obtain ⟨h1, h2, h3, h4, h5⟩ := h
  refine ⟨fun _ i hi => ?_, fun j hj => ?_, (hf 23 (by omega) (by omega)).1.trans h3, (hf 23 (by omega) (by omega)).2.trans h4, hX⟩
  · have hi : i < lo + 1 := hi
    show X2 i = Int.natAbs (va_up R lo r i) ∧ S2 i = sg32 (va_up R lo r i)
    by_cases h9 : i = lo
    · subst h9; rw [up_s]; exact hr
    · rw [up_o h9]
      have h8 := hf i h9 (by omega); have h7 := h1 i (by omega)
      exact ⟨h8.1.trans h7.1, h8.2.trans h7.2⟩
  · have h8 := hf (10 + j) (by omega) (by omega); have h7 := h2 j hj
    exact ⟨h8.1.trans h7.1, h8.2.trans h7.2⟩
theorem kOp_lt {k : Nat} (h : k < 15) : kOp k < 4 := (show ∀ k, k < 15 → kOp k < 4 by decide) k h
theorem kOp_pos {k : Nat} (h : k < 15) (h2 : k < 8 ∨ 10 < k) (h3 : 1 < k) : 0 < kOp k := by
  have : ∀ k, k < 15 → ¬ ((k < 8 ∨ 10 < k) ∧ 1 < k ∧ kOp k = 0) := by decide
  exact Nat.pos_of_ne_zero fun h4 => this k h ⟨h2, h3, h4⟩
/-! The reference's methods, twelfth part. Written by wip/gen/model12.py. -/
section MO12
variable {l : Launch} {D : va_G} {cI cL cQ : ClassId} {z : kZ_T} {sz : Nat} {w : fw_W}
set_option maxHeartbeats 4000000 in
set_option maxRecDepth 100000 in
theorem c_Mo_step {b : Nat} {I : Nat → Nat} {K : Nat → Nat → Nat} {S : Nat → Int32} {X : Nat → Nat} (hS : moS cI cL w b I K S (mC X)) {nx us mo sz9 : Nat} {R Y : Nat → Int} (h16 : I 16 = nx) (h17 : I 17 = us) (h18 : I 18 = mo) (h19 : I 19 = 0) (h7 : I 7 = sz9) (hC : cOk (K 2) (K 3) sz9) (hO : mOk (K 2) sz9 (nx, us, mo, 0, R)) (hns : nx < sz9) (hY7 : ∀ i, Int.natAbs (Y i) < 2 ^ 768) (hrp : mRp S X us R Y) : fw_C l yMo_step (Cond.code yMo_step cMo_step 3 none :: kWs) ({ frames := 5, cells := 0, slots := 0, locals := 132 } : Room) D kCl (kty cI cL cQ) z [.ref b] (sz) w 0 0 (fun v w' => v = none ∧ (∃ S2 X2, moS cI cL w' b (moI I (mStep (K 2) (K 3) Y (nx, us, mo, 0, R))) K S2 (mC X2) ∧ mRf S2 X2 (mStep (K 2) (K 3) Y (nx, us, mo, 0, R)) Y) ∧ ∀ q, q < b ∨ b + 9 ≤ q → w' q = w q) := by
  refine fw_ofW (cc := cMo_step) (maxL := 3) (ret := none) (by decide) rfl (Nat.le_of_ble_eq_true rfl) ?_
  intro p e s m args below meth c hx hb hr hts hown hlocks hname hml hK H ls hw hl
  have hW : ∀ w ∈ kWs, w.before args s = true := fun w h => hts w (List.mem_cons_of_mem _ h)
  have hown : s.vm.findClass RMo = some m.cls := hown
  have hl : lv_has ls 3 [(0, .ref b)] := hl
  have b0 : w b = some (.inr (10, [.int (nI (I 0)), .ref (b + 1), .ref (b + 2), .int (nI (I 3)), .ref (b + 3), .ref (b + 4), .int (nI (I 6)), .int (nI (I 7)), .ref (b + 5), .ref (b + 6), .int (nI (I 10)), .int (nI (I 11)), .int (nI (I 12)), .int (nI (I 13)), .ref (b + 7), .ref (b + 8), .int (nI (I 16)), .int (nI (I 17)), .int (nI (I 18)), .int (nI (I 19))])) := hS.1
  have b1 : w (b + 1) = some (.inl (cL, 1536, .inr (.inl (fun i => lN (mC X i))))) := hS.2.1
  have b2 : w (b + 2) = some (.inl (cI, 24, .inl (S))) := hS.2.2.1
  have b09 := b0
  have b29 := b2
  obtain ⟨k1, k2, k3, k4, k5, k6, k7⟩ := id hO
  obtain ⟨hrr, hry, h1x, h1s, hX⟩ := id hrp
  have hsz := hC.1
  obtain ⟨c1, c2, c3, c4, c5, c6, c7⟩ := hC.2 nx hns
  obtain ⟨op, hop⟩ : ∃ op, op = K 2 nx := ⟨_, rfl⟩
  obtain ⟨u9, hu9⟩ : ∃ u9, u9 = K 3 nx := ⟨_, rfl⟩
  obtain ⟨lo, hlo⟩ : ∃ lo, lo = us - kOp op := ⟨_, rfl⟩
  have hg1 : hg (K 2) (nx + 1) = lo + 1 := by rw [hlo, hop, k2]; rfl
  rw [← hop] at c1 c2 c3 c7
  rw [← hu9] at c6 c7
  rw [hg1] at c5
  rw [← k2] at c3
  obtain ⟨z9, hz9⟩ : ∃ z9, z9 = sOp op u9 Y (R lo) (R (lo + 1)) (R (lo + 2)) := ⟨_, rfl⟩
  have hst : mStep (K 2) (K 3) Y (nx, us, mo, 0, R) = if z9.1 = 0 then (nx + 1, lo + 1, max mo (lo + 1), 0, va_up R lo z9.2) else (nx, us, mo, z9.1, va_up R lo z9.2) := by rw [hz9, hu9, hlo, hop]; rfl
  have hz7 : z9.1 < 7 := by rw [hz9]; exact (sOp_ok (k7 _) (k7 _) (k7 _) c6 (hY7 _)).1
  have b0 : w b = some (.inr (10, [.int (nI (I 0)), .ref (b + 1), .ref (b + 2), .int (nI (I 3)), .ref (b + 3), .ref (b + 4), .int (nI (I 6)), .int (nI (I 7)), .ref (b + 5), .ref (b + 6), .int (nI (I 10)), .int (nI (I 11)), .int (nI (I 12)), .int (nI (I 13)), .ref (b + 7), .ref (b + 8), .int (nI (nx)), .int (nI (us)), .int (nI (mo)), .int (nI (0))])) := by (have h9 := hS.1; unfold moF at h9; rw [h16, h17, h18, h19] at h9; exact h9)
  have b5 : w (b + 5) = some (.inl (cI, 120, .inl (fun i => nI (K 2 i)))) := hS.2.2.2 2 (by decide)
  have b6 : w (b + 6) = some (.inl (cI, 120, .inl (fun i => nI (K 3 i)))) := hS.2.2.2 3 (by decide)
  refine lv_aload_n (pc := 0) hx hb dMo_step_0 rfl (lv_at hl 0 rfl) ?_
  refine fw_get (pc := 1) (ci := 10) (v := .ref (b + 5)) (C := RMo) (T := TMo) (N := 20) hx hb hW in_Mo hown hK.1 hw b0 rfl 8 (by decide) (hW _ lf_Mo_23) (fun _ h => h) rfl dMo_step_1 ?_
  refine lv_aload_n (pc := 4) hx hb dMo_step_4 rfl (lv_at hl 0 rfl) ?_
  refine fw_get (pc := 5) (ci := 10) (v := .int (nI (nx))) (C := RMo) (T := TMo) (N := 20) hx hb hW in_Mo hown hK.1 hw b0 rfl 16 (by decide) (hW _ lf_Mo_98) (fun _ h => h) rfl dMo_step_5 ?_
  refine fw_ialdN (pc := 8) (x := nI (K 2 (nx))) hx hb hK.1 hw 0 b5 rfl (nx) (show nx < 120 by omega) (by decide) rfl dMo_step_8 ?_
  rw [show (nI (K 2 (nx)) : Int32) = nI op from (by rw [hop])]
  refine lv_istore_n (pc := 9) (lv' := [(1, .int (nI op)), (0, .ref b)]) hx hb dMo_step_9 rfl hl (by decide) rfl (fun ls hl => ?_)
  refine lv_iload_n (pc := 10) hx hb dMo_step_10 rfl (lv_at hl 0 rfl) ?_
  refine fw_cSR (pc := 11) (As := [.int (nI op)]) (rest := []) ⟨hx, hb, hml, hown, hW⟩ (c_Mo_takes c1 c2) (va_cwS 1 hW (kw_S lm_Mo_95 sta_Mo_takes ini_Mo cd_Mo_takes) rfl rfl rfl (by decide +kernel) ⟨Nat.le_of_ble_eq_true rfl, Nat.le_of_ble_eq_true rfl⟩) hK hw rfl hl.1 rfl (Nat.le_of_ble_eq_true rfl) dMo_step_11 ⟨Nat.le_of_ble_eq_true rfl, Nat.le_of_ble_eq_true rfl⟩ (fun v hq => ?_)
  subst hq
  refine W.eq (g2 := F0 m 14 ls [.int (nI (kOp op))]) rfl ?_
  refine lv_istore_n (pc := 14) (lv' := [(2, .int (nI (kOp op))), (1, .int (nI op)), (0, .ref b)]) hx hb dMo_step_14 rfl hl (by decide) rfl (fun ls hl => ?_)
  refine lv_iload_n (pc := 15) hx hb dMo_step_15 rfl (lv_at hl 0 rfl) ?_
  rcases (show op = 0 ∨ op = 1 ∨ 1 < op by omega) with ho9 | ho9 | ho9
  · subst ho9
    have hlu : lo = us := hlo
    refine lv_if_ne (pc := 16) (tgt := 36) hx hb dMo_step_16 (by decide) (fun hc => absurd hc (fun h => h (by decide))) (fun _ => ?_)
    refine lv_aload_n (pc := 19) hx hb dMo_step_19 rfl (lv_at hl 2 rfl) ?_
    refine lv_iload_n (pc := 20) hx hb dMo_step_20 rfl (lv_at hl 1 rfl) ?_
    refine lv_aload_n (pc := 21) hx hb dMo_step_21 rfl (lv_at hl 2 rfl) ?_
    refine fw_get (pc := 22) (ci := 10) (v := .ref (b + 6)) (C := RMo) (T := TMo) (N := 20) hx hb hW in_Mo hown hK.1 hw b0 rfl 9 (by decide) (hW _ lf_Mo_26) (fun _ h => h) rfl dMo_step_22 ?_
    refine lv_aload_n (pc := 25) hx hb dMo_step_25 rfl (lv_at hl 2 rfl) ?_
    refine fw_get (pc := 26) (ci := 10) (v := .int (nI (nx))) (C := RMo) (T := TMo) (N := 20) hx hb hW in_Mo hown hK.1 hw b0 rfl 16 (by decide) (hW _ lf_Mo_98) (fun _ h => h) rfl dMo_step_26 ?_
    refine fw_ialdN (pc := 29) (x := nI (K 3 (nx))) hx hb hK.1 hw 0 b6 rfl (nx) (show nx < 120 by omega) (by decide) rfl dMo_step_29 ?_
    rw [show (nI (K 3 (nx)) : Int32) = nI u9 from (by rw [hu9])]
    refine fw_cV (pc := 30) (As := [.int (nI 0), .int (nI u9)]) (rest := []) ⟨hx, hb, hml, hown, hW⟩ (c_Mo_load0 (us := us) (u := u9) hS hX h17 (by omega) c6) (cwV 2 hW (kw_V lm_Mo_190 im_Mo_load se_Mo_load ini_Mo cd_Mo_load) rfl rfl rfl (by decide +kernel) ⟨Nat.le_of_ble_eq_true rfl, Nat.le_of_ble_eq_true rfl⟩) hK hw b0 rfl rfl hl.1 rfl (Nat.le_of_ble_eq_true rfl) dMo_step_30 ⟨Nat.le_of_ble_eq_true rfl, Nat.le_of_ble_eq_true rfl⟩ (fun v w1 H locs hq hw => ?_)
    obtain ⟨rfl, hS2, hn9⟩ := hq
    have b0 : w1 b = some (.inr (10, [.int (nI (I 0)), .ref (b + 1), .ref (b + 2), .int (nI (I 3)), .ref (b + 3), .ref (b + 4), .int (nI (I 6)), .int (nI (I 7)), .ref (b + 5), .ref (b + 6), .int (nI (I 10)), .int (nI (I 11)), .int (nI (I 12)), .int (nI (I 13)), .ref (b + 7), .ref (b + 8), .int (nI (nx)), .int (nI (us)), .int (nI (mo)), .int (nI (0))])) := by (have h9 := hS2.1; unfold moF at h9; rw [h16, h17, h18, h19] at h9; exact h9)
    refine W.eq (g2 := F0 m 33 ls []) rfl ?_
    refine lv_goto (pc := 33) (tgt := 51) hx hb dMo_step_33 (by decide) ?_
    refine lv_aload_n (pc := 51) hx hb dMo_step_51 rfl (lv_at hl 2 rfl) ?_
    refine fw_get (pc := 52) (ci := 10) (v := .int (nI (0))) (C := RMo) (T := TMo) (N := 20) hx hb hW in_Mo hown hK.1 hw b0 rfl 19 (by decide) (hW _ lf_Mo_107) (fun _ h => h) rfl dMo_step_52 ?_
    refine lv_if_le (pc := 55) (tgt := 59) hx hb dMo_step_55 (by decide) (fun _ => ?_) (fun hc => absurd (show nI 0 ≤ 0 by decide) hc)
    have hz0 : z9.1 = 0 := by rw [hz9]; rfl
    have hrep : (va_up X us u9) lo = Int.natAbs z9.2 ∧ (va_up S us (if u9 = 0 then nI 0 else nI 1)) lo = sg32 z9.2 := by rw [hlu, hz9, up_s, up_s]; exact ⟨rfl, by (show _ = sg32 (u9 : Int)); (rcases Nat.eq_zero_or_pos u9 with h8 | h8); (rw [if_pos h8, sg32_z (by omega)]); (rw [if_neg (by omega), sg32_p (by omega)])⟩
    have hmr : mRf (va_up S us (if u9 = 0 then nI 0 else nI 1)) (va_up X us u9) (nx + 1, lo + 1, max mo (lo + 1), 0, va_up R lo z9.2) Y := mRf_of hrp (by omega) (by omega) hrep (fun p h1 h2 => ⟨up_o (by omega), up_o (by omega)⟩) (fun p => by (unfold va_up; split; exact (by have h8 : u9 < nM ^ 64 := Nat.lt_trans c6 (by decide +kernel); exact h8); exact hX p))
    refine lv_aload_n (pc := 59) hx hb dMo_step_59 rfl (lv_at hl 2 rfl) ?_
    refine lv_aload_n (pc := 60) hx hb dMo_step_60 rfl (lv_at hl 2 rfl) ?_
    refine fw_get (pc := 61) (ci := 10) (v := .int (nI (us))) (C := RMo) (T := TMo) (N := 20) hx hb hW in_Mo hown hK.1 hw b0 rfl 17 (by decide) (hW _ lf_Mo_101) (fun _ h => h) rfl dMo_step_61 ?_
    refine lv_iconst (pc := 64) (v := (nI 1)) hx hb dMo_step_64 (by decide) ?_
    refine lv_iadd (pc := 65) hx hb dMo_step_65 ?_
    rw [show ((nI (us) + (nI 1)) : Int32) = nI (us + 1) from (nI_add us 1)]
    refine lv_iload_n (pc := 66) hx hb dMo_step_66 rfl (lv_at hl 0 rfl) ?_
    refine lv_isub (pc := 67) hx hb dMo_step_67 ?_
    rw [show ((nI (us + 1) - nI (kOp 0)) : Int32) = nI (lo + 1) from (by rw [nI_subL (by omega)]; congr 1; omega)]
    refine fw_put (pc := 68) (ci := 10) (v := .int (nI (lo + 1))) (ty := .int) (C := RMo) (T := TMo) (N := 20) hx hb hW in_Mo tyMo tyMo_ok nmMo hown hK.1 hw b0 rfl 17 (by decide) (hW _ lf_Mo_101) (fun _ h => h) rfl (by decide +kernel) rfl rfl (Nat.le_of_ble_eq_true rfl) dMo_step_68 (fun H locs hw => ?_)
    obtain ⟨w2, e2⟩ : ∃ w_, w_ = fw_up w1 (b) (.inr (10, [.int (nI (I 0)), .ref (b + 1), .ref (b + 2), .int (nI (I 3)), .ref (b + 3), .ref (b + 4), .int (nI (I 6)), .int (nI (I 7)), .ref (b + 5), .ref (b + 6), .int (nI (I 10)), .int (nI (I 11)), .int (nI (I 12)), .int (nI (I 13)), .ref (b + 7), .ref (b + 8), .int (nI (nx)), .int (nI (lo + 1)), .int (nI (mo)), .int (nI (0))])) := ⟨_, rfl⟩
    have hw : fw_H D kCl (fw_A w (sz)) s.heap w2 (sz) H locs := by rw [e2]; exact hw
    have b0_ : w2 (b) = some (.inr (10, [.int (nI (I 0)), .ref (b + 1), .ref (b + 2), .int (nI (I 3)), .ref (b + 3), .ref (b + 4), .int (nI (I 6)), .int (nI (I 7)), .ref (b + 5), .ref (b + 6), .int (nI (I 10)), .int (nI (I 11)), .int (nI (I 12)), .int (nI (I 13)), .ref (b + 7), .ref (b + 8), .int (nI (nx)), .int (nI (lo + 1)), .int (nI (mo)), .int (nI (0))])) := by rw [e2]; exact fw_us _ _ _
    have b0 := b0_
    refine lv_aload_n (pc := 71) hx hb dMo_step_71 rfl (lv_at hl 2 rfl) ?_
    refine lv_aload_n (pc := 72) hx hb dMo_step_72 rfl (lv_at hl 2 rfl) ?_
    refine fw_get (pc := 73) (ci := 10) (v := .int (nI (lo + 1))) (C := RMo) (T := TMo) (N := 20) hx hb hW in_Mo hown hK.1 hw b0 rfl 17 (by decide) (hW _ lf_Mo_101) (fun _ h => h) rfl dMo_step_73 ?_
    refine lv_aload_n (pc := 76) hx hb dMo_step_76 rfl (lv_at hl 2 rfl) ?_
    refine fw_get (pc := 77) (ci := 10) (v := .int (nI (mo))) (C := RMo) (T := TMo) (N := 20) hx hb hW in_Mo hown hK.1 hw b0 rfl 18 (by decide) (hW _ lf_Mo_104) (fun _ h => h) rfl dMo_step_77 ?_
    rcases (show lo + 1 ≤ mo ∨ mo < lo + 1 by omega) with hmx | hmx
    · refine lv_icmp_le (pc := 80) (tgt := 90) hx hb dMo_step_80 (by decide) (fun _ => ?_) (fun hc => absurd (nI_le hmx (by omega)) hc)
      refine lv_aload_n (pc := 90) hx hb dMo_step_90 rfl (lv_at hl 2 rfl) ?_
      refine fw_get (pc := 91) (ci := 10) (v := .int (nI (mo))) (C := RMo) (T := TMo) (N := 20) hx hb hW in_Mo hown hK.1 hw b0 rfl 18 (by decide) (hW _ lf_Mo_104) (fun _ h => h) rfl dMo_step_91 ?_
      have hmv : max mo (lo + 1) = mo := by omega
      refine fw_put (pc := 94) (ci := 10) (v := .int (nI (mo))) (ty := .int) (C := RMo) (T := TMo) (N := 20) hx hb hW in_Mo tyMo tyMo_ok nmMo hown hK.1 hw b0 rfl 18 (by decide) (hW _ lf_Mo_104) (fun _ h => h) rfl (by decide +kernel) rfl rfl (Nat.le_of_ble_eq_true rfl) dMo_step_94 (fun H locs hw => ?_)
      obtain ⟨w3, e3⟩ : ∃ w_, w_ = fw_up w2 (b) (.inr (10, [.int (nI (I 0)), .ref (b + 1), .ref (b + 2), .int (nI (I 3)), .ref (b + 3), .ref (b + 4), .int (nI (I 6)), .int (nI (I 7)), .ref (b + 5), .ref (b + 6), .int (nI (I 10)), .int (nI (I 11)), .int (nI (I 12)), .int (nI (I 13)), .ref (b + 7), .ref (b + 8), .int (nI (nx)), .int (nI (lo + 1)), .int (nI (mo)), .int (nI (0))])) := ⟨_, rfl⟩
      have hw : fw_H D kCl (fw_A w (sz)) s.heap w3 (sz) H locs := by rw [e3]; exact hw
      have b0_ : w3 (b) = some (.inr (10, [.int (nI (I 0)), .ref (b + 1), .ref (b + 2), .int (nI (I 3)), .ref (b + 3), .ref (b + 4), .int (nI (I 6)), .int (nI (I 7)), .ref (b + 5), .ref (b + 6), .int (nI (I 10)), .int (nI (I 11)), .int (nI (I 12)), .int (nI (I 13)), .ref (b + 7), .ref (b + 8), .int (nI (nx)), .int (nI (lo + 1)), .int (nI (mo)), .int (nI (0))])) := by rw [e3]; exact fw_us _ _ _
      have b0 := b0_
      refine lv_aload_n (pc := 97) hx hb dMo_step_97 rfl (lv_at hl 2 rfl) ?_
      refine lv_dup (pc := 98) hx hb dMo_step_98 rfl ?_
      refine fw_get (pc := 99) (ci := 10) (v := .int (nI (nx))) (C := RMo) (T := TMo) (N := 20) hx hb hW in_Mo hown hK.1 hw b0 rfl 16 (by decide) (hW _ lf_Mo_98) (fun _ h => h) rfl dMo_step_99 ?_
      refine lv_iconst (pc := 102) (v := (nI 1)) hx hb dMo_step_102 (by decide) ?_
      refine lv_iadd (pc := 103) hx hb dMo_step_103 ?_
      rw [show ((nI (nx) + (nI 1)) : Int32) = nI (nx + 1) from (nI_add nx 1)]
      refine fw_put (pc := 104) (ci := 10) (v := .int (nI (nx + 1))) (ty := .int) (C := RMo) (T := TMo) (N := 20) hx hb hW in_Mo tyMo tyMo_ok nmMo hown hK.1 hw b0 rfl 16 (by decide) (hW _ lf_Mo_98) (fun _ h => h) rfl (by decide +kernel) rfl rfl (Nat.le_of_ble_eq_true rfl) dMo_step_104 (fun H locs hw => ?_)
      obtain ⟨w4, e4⟩ : ∃ w_, w_ = fw_up w3 (b) (.inr (10, [.int (nI (I 0)), .ref (b + 1), .ref (b + 2), .int (nI (I 3)), .ref (b + 3), .ref (b + 4), .int (nI (I 6)), .int (nI (I 7)), .ref (b + 5), .ref (b + 6), .int (nI (I 10)), .int (nI (I 11)), .int (nI (I 12)), .int (nI (I 13)), .ref (b + 7), .ref (b + 8), .int (nI (nx + 1)), .int (nI (lo + 1)), .int (nI (mo)), .int (nI (0))])) := ⟨_, rfl⟩
      have hw : fw_H D kCl (fw_A w (sz)) s.heap w4 (sz) H locs := by rw [e4]; exact hw
      have b0_ : w4 (b) = some (.inr (10, [.int (nI (I 0)), .ref (b + 1), .ref (b + 2), .int (nI (I 3)), .ref (b + 3), .ref (b + 4), .int (nI (I 6)), .int (nI (I 7)), .ref (b + 5), .ref (b + 6), .int (nI (I 10)), .int (nI (I 11)), .int (nI (I 12)), .int (nI (I 13)), .ref (b + 7), .ref (b + 8), .int (nI (nx + 1)), .int (nI (lo + 1)), .int (nI (mo)), .int (nI (0))])) := by rw [e4]; exact fw_us _ _ _
      have b0 := b0_
      rw [if_pos hz0] at hst
      exact fw_vret (pc := 107) hx hb hr hlocks hw dMo_step_107 ⟨rfl, ⟨(va_up S us (if u9 = 0 then nI 0 else nI 1)), (va_up X us u9), by rw [hst, hmv]; exact moS.int hS2 (by (unfold moF moI); exact b0) (fun q h9 => by rw [e4, fw_un h9, e3, fw_un h9, e2, fw_un h9]), by rw [hst]; exact hmr⟩, fun q h9 => by rw [e4, fw_un (by omega), e3, fw_un (by omega), e2, fw_un (by omega), hn9 q h9]⟩
    · refine lv_icmp_le (pc := 80) (tgt := 90) hx hb dMo_step_80 (by decide) (fun hc => absurd hc (nI_ge hmx (by omega))) (fun _ => ?_)
      refine lv_aload_n (pc := 83) hx hb dMo_step_83 rfl (lv_at hl 2 rfl) ?_
      refine fw_get (pc := 84) (ci := 10) (v := .int (nI (lo + 1))) (C := RMo) (T := TMo) (N := 20) hx hb hW in_Mo hown hK.1 hw b0 rfl 17 (by decide) (hW _ lf_Mo_101) (fun _ h => h) rfl dMo_step_84 ?_
      refine lv_goto (pc := 87) (tgt := 94) hx hb dMo_step_87 (by decide) ?_
      have hmv : max mo (lo + 1) = lo + 1 := by omega
      refine fw_put (pc := 94) (ci := 10) (v := .int (nI (lo + 1))) (ty := .int) (C := RMo) (T := TMo) (N := 20) hx hb hW in_Mo tyMo tyMo_ok nmMo hown hK.1 hw b0 rfl 18 (by decide) (hW _ lf_Mo_104) (fun _ h => h) rfl (by decide +kernel) rfl rfl (Nat.le_of_ble_eq_true rfl) dMo_step_94 (fun H locs hw => ?_)
      obtain ⟨w5, e5⟩ : ∃ w_, w_ = fw_up w2 (b) (.inr (10, [.int (nI (I 0)), .ref (b + 1), .ref (b + 2), .int (nI (I 3)), .ref (b + 3), .ref (b + 4), .int (nI (I 6)), .int (nI (I 7)), .ref (b + 5), .ref (b + 6), .int (nI (I 10)), .int (nI (I 11)), .int (nI (I 12)), .int (nI (I 13)), .ref (b + 7), .ref (b + 8), .int (nI (nx)), .int (nI (lo + 1)), .int (nI (lo + 1)), .int (nI (0))])) := ⟨_, rfl⟩
      have hw : fw_H D kCl (fw_A w (sz)) s.heap w5 (sz) H locs := by rw [e5]; exact hw
      have b0_ : w5 (b) = some (.inr (10, [.int (nI (I 0)), .ref (b + 1), .ref (b + 2), .int (nI (I 3)), .ref (b + 3), .ref (b + 4), .int (nI (I 6)), .int (nI (I 7)), .ref (b + 5), .ref (b + 6), .int (nI (I 10)), .int (nI (I 11)), .int (nI (I 12)), .int (nI (I 13)), .ref (b + 7), .ref (b + 8), .int (nI (nx)), .int (nI (lo + 1)), .int (nI (lo + 1)), .int (nI (0))])) := by rw [e5]; exact fw_us _ _ _
      have b0 := b0_
      refine lv_aload_n (pc := 97) hx hb dMo_step_97 rfl (lv_at hl 2 rfl) ?_
      refine lv_dup (pc := 98) hx hb dMo_step_98 rfl ?_
      refine fw_get (pc := 99) (ci := 10) (v := .int (nI (nx))) (C := RMo) (T := TMo) (N := 20) hx hb hW in_Mo hown hK.1 hw b0 rfl 16 (by decide) (hW _ lf_Mo_98) (fun _ h => h) rfl dMo_step_99 ?_
      refine lv_iconst (pc := 102) (v := (nI 1)) hx hb dMo_step_102 (by decide) ?_
      refine lv_iadd (pc := 103) hx hb dMo_step_103 ?_
      rw [show ((nI (nx) + (nI 1)) : Int32) = nI (nx + 1) from (nI_add nx 1)]
      refine fw_put (pc := 104) (ci := 10) (v := .int (nI (nx + 1))) (ty := .int) (C := RMo) (T := TMo) (N := 20) hx hb hW in_Mo tyMo tyMo_ok nmMo hown hK.1 hw b0 rfl 16 (by decide) (hW _ lf_Mo_98) (fun _ h => h) rfl (by decide +kernel) rfl rfl (Nat.le_of_ble_eq_true rfl) dMo_step_104 (fun H locs hw => ?_)
      obtain ⟨w6, e6⟩ : ∃ w_, w_ = fw_up w5 (b) (.inr (10, [.int (nI (I 0)), .ref (b + 1), .ref (b + 2), .int (nI (I 3)), .ref (b + 3), .ref (b + 4), .int (nI (I 6)), .int (nI (I 7)), .ref (b + 5), .ref (b + 6), .int (nI (I 10)), .int (nI (I 11)), .int (nI (I 12)), .int (nI (I 13)), .ref (b + 7), .ref (b + 8), .int (nI (nx + 1)), .int (nI (lo + 1)), .int (nI (lo + 1)), .int (nI (0))])) := ⟨_, rfl⟩
      have hw : fw_H D kCl (fw_A w (sz)) s.heap w6 (sz) H locs := by rw [e6]; exact hw
      have b0_ : w6 (b) = some (.inr (10, [.int (nI (I 0)), .ref (b + 1), .ref (b + 2), .int (nI (I 3)), .ref (b + 3), .ref (b + 4), .int (nI (I 6)), .int (nI (I 7)), .ref (b + 5), .ref (b + 6), .int (nI (I 10)), .int (nI (I 11)), .int (nI (I 12)), .int (nI (I 13)), .ref (b + 7), .ref (b + 8), .int (nI (nx + 1)), .int (nI (lo + 1)), .int (nI (lo + 1)), .int (nI (0))])) := by rw [e6]; exact fw_us _ _ _
      have b0 := b0_
      rw [if_pos hz0] at hst
      exact fw_vret (pc := 107) hx hb hr hlocks hw dMo_step_107 ⟨rfl, ⟨(va_up S us (if u9 = 0 then nI 0 else nI 1)), (va_up X us u9), by rw [hst, hmv]; exact moS.int hS2 (by (unfold moF moI); exact b0) (fun q h9 => by rw [e6, fw_un h9, e5, fw_un h9, e2, fw_un h9]), by rw [hst]; exact hmr⟩, fun q h9 => by rw [e6, fw_un (by omega), e5, fw_un (by omega), e2, fw_un (by omega), hn9 q h9]⟩
  · subst ho9
    have hlu : lo = us := hlo
    refine lv_if_ne (pc := 16) (tgt := 36) hx hb dMo_step_16 (by decide) (fun hc => absurd hc (fun h => h (by decide))) (fun _ => ?_)
    refine lv_aload_n (pc := 19) hx hb dMo_step_19 rfl (lv_at hl 2 rfl) ?_
    refine lv_iload_n (pc := 20) hx hb dMo_step_20 rfl (lv_at hl 1 rfl) ?_
    refine lv_aload_n (pc := 21) hx hb dMo_step_21 rfl (lv_at hl 2 rfl) ?_
    refine fw_get (pc := 22) (ci := 10) (v := .ref (b + 6)) (C := RMo) (T := TMo) (N := 20) hx hb hW in_Mo hown hK.1 hw b0 rfl 9 (by decide) (hW _ lf_Mo_26) (fun _ h => h) rfl dMo_step_22 ?_
    refine lv_aload_n (pc := 25) hx hb dMo_step_25 rfl (lv_at hl 2 rfl) ?_
    refine fw_get (pc := 26) (ci := 10) (v := .int (nI (nx))) (C := RMo) (T := TMo) (N := 20) hx hb hW in_Mo hown hK.1 hw b0 rfl 16 (by decide) (hW _ lf_Mo_98) (fun _ h => h) rfl dMo_step_26 ?_
    refine fw_ialdN (pc := 29) (x := nI (K 3 (nx))) hx hb hK.1 hw 0 b6 rfl (nx) (show nx < 120 by omega) (by decide) rfl dMo_step_29 ?_
    rw [show (nI (K 3 (nx)) : Int32) = nI u9 from (by rw [hu9])]
    have hu8 := c7 rfl
    refine fw_cV (pc := 30) (As := [.int (nI 1), .int (nI u9)]) (rest := []) ⟨hx, hb, hml, hown, hW⟩ (c_Mo_load1 (us := us) (j := u9) hS hX h17 (by omega) hu8) (cwV 2 hW (kw_V lm_Mo_190 im_Mo_load se_Mo_load ini_Mo cd_Mo_load) rfl rfl rfl (by decide +kernel) ⟨Nat.le_of_ble_eq_true rfl, Nat.le_of_ble_eq_true rfl⟩) hK hw b0 rfl rfl hl.1 rfl (Nat.le_of_ble_eq_true rfl) dMo_step_30 ⟨Nat.le_of_ble_eq_true rfl, Nat.le_of_ble_eq_true rfl⟩ (fun v w7 H locs hq hw => ?_)
    obtain ⟨rfl, hS2, hn9⟩ := hq
    have b0 : w7 b = some (.inr (10, [.int (nI (I 0)), .ref (b + 1), .ref (b + 2), .int (nI (I 3)), .ref (b + 3), .ref (b + 4), .int (nI (I 6)), .int (nI (I 7)), .ref (b + 5), .ref (b + 6), .int (nI (I 10)), .int (nI (I 11)), .int (nI (I 12)), .int (nI (I 13)), .ref (b + 7), .ref (b + 8), .int (nI (nx)), .int (nI (us)), .int (nI (mo)), .int (nI (0))])) := by (have h9 := hS2.1; unfold moF at h9; rw [h16, h17, h18, h19] at h9; exact h9)
    refine W.eq (g2 := F0 m 33 ls []) rfl ?_
    refine lv_goto (pc := 33) (tgt := 51) hx hb dMo_step_33 (by decide) ?_
    refine lv_aload_n (pc := 51) hx hb dMo_step_51 rfl (lv_at hl 2 rfl) ?_
    refine fw_get (pc := 52) (ci := 10) (v := .int (nI (0))) (C := RMo) (T := TMo) (N := 20) hx hb hW in_Mo hown hK.1 hw b0 rfl 19 (by decide) (hW _ lf_Mo_107) (fun _ h => h) rfl dMo_step_52 ?_
    refine lv_if_le (pc := 55) (tgt := 59) hx hb dMo_step_55 (by decide) (fun _ => ?_) (fun hc => absurd (show nI 0 ≤ 0 by decide) hc)
    have hz0 : z9.1 = 0 := by rw [hz9]; rfl
    have hrep : (va_up X us (X (10 + u9))) lo = Int.natAbs z9.2 ∧ (va_up S us (S (10 + u9))) lo = sg32 z9.2 := by rw [hlu, hz9, up_s, up_s]; exact hry u9 hu8
    have hmr : mRf (va_up S us (S (10 + u9))) (va_up X us (X (10 + u9))) (nx + 1, lo + 1, max mo (lo + 1), 0, va_up R lo z9.2) Y := mRf_of hrp (by omega) (by omega) hrep (fun p h1 h2 => ⟨up_o (by omega), up_o (by omega)⟩) (fun p => by (unfold va_up; split; exact (hX _); exact hX p))
    refine lv_aload_n (pc := 59) hx hb dMo_step_59 rfl (lv_at hl 2 rfl) ?_
    refine lv_aload_n (pc := 60) hx hb dMo_step_60 rfl (lv_at hl 2 rfl) ?_
    refine fw_get (pc := 61) (ci := 10) (v := .int (nI (us))) (C := RMo) (T := TMo) (N := 20) hx hb hW in_Mo hown hK.1 hw b0 rfl 17 (by decide) (hW _ lf_Mo_101) (fun _ h => h) rfl dMo_step_61 ?_
    refine lv_iconst (pc := 64) (v := (nI 1)) hx hb dMo_step_64 (by decide) ?_
    refine lv_iadd (pc := 65) hx hb dMo_step_65 ?_
    rw [show ((nI (us) + (nI 1)) : Int32) = nI (us + 1) from (nI_add us 1)]
    refine lv_iload_n (pc := 66) hx hb dMo_step_66 rfl (lv_at hl 0 rfl) ?_
    refine lv_isub (pc := 67) hx hb dMo_step_67 ?_
    rw [show ((nI (us + 1) - nI (kOp 1)) : Int32) = nI (lo + 1) from (by rw [nI_subL (by omega)]; congr 1; omega)]
    refine fw_put (pc := 68) (ci := 10) (v := .int (nI (lo + 1))) (ty := .int) (C := RMo) (T := TMo) (N := 20) hx hb hW in_Mo tyMo tyMo_ok nmMo hown hK.1 hw b0 rfl 17 (by decide) (hW _ lf_Mo_101) (fun _ h => h) rfl (by decide +kernel) rfl rfl (Nat.le_of_ble_eq_true rfl) dMo_step_68 (fun H locs hw => ?_)
    obtain ⟨w8, e8⟩ : ∃ w_, w_ = fw_up w7 (b) (.inr (10, [.int (nI (I 0)), .ref (b + 1), .ref (b + 2), .int (nI (I 3)), .ref (b + 3), .ref (b + 4), .int (nI (I 6)), .int (nI (I 7)), .ref (b + 5), .ref (b + 6), .int (nI (I 10)), .int (nI (I 11)), .int (nI (I 12)), .int (nI (I 13)), .ref (b + 7), .ref (b + 8), .int (nI (nx)), .int (nI (lo + 1)), .int (nI (mo)), .int (nI (0))])) := ⟨_, rfl⟩
    have hw : fw_H D kCl (fw_A w (sz)) s.heap w8 (sz) H locs := by rw [e8]; exact hw
    have b0_ : w8 (b) = some (.inr (10, [.int (nI (I 0)), .ref (b + 1), .ref (b + 2), .int (nI (I 3)), .ref (b + 3), .ref (b + 4), .int (nI (I 6)), .int (nI (I 7)), .ref (b + 5), .ref (b + 6), .int (nI (I 10)), .int (nI (I 11)), .int (nI (I 12)), .int (nI (I 13)), .ref (b + 7), .ref (b + 8), .int (nI (nx)), .int (nI (lo + 1)), .int (nI (mo)), .int (nI (0))])) := by rw [e8]; exact fw_us _ _ _
    have b0 := b0_
    refine lv_aload_n (pc := 71) hx hb dMo_step_71 rfl (lv_at hl 2 rfl) ?_
    refine lv_aload_n (pc := 72) hx hb dMo_step_72 rfl (lv_at hl 2 rfl) ?_
    refine fw_get (pc := 73) (ci := 10) (v := .int (nI (lo + 1))) (C := RMo) (T := TMo) (N := 20) hx hb hW in_Mo hown hK.1 hw b0 rfl 17 (by decide) (hW _ lf_Mo_101) (fun _ h => h) rfl dMo_step_73 ?_
    refine lv_aload_n (pc := 76) hx hb dMo_step_76 rfl (lv_at hl 2 rfl) ?_
    refine fw_get (pc := 77) (ci := 10) (v := .int (nI (mo))) (C := RMo) (T := TMo) (N := 20) hx hb hW in_Mo hown hK.1 hw b0 rfl 18 (by decide) (hW _ lf_Mo_104) (fun _ h => h) rfl dMo_step_77 ?_
    rcases (show lo + 1 ≤ mo ∨ mo < lo + 1 by omega) with hmx | hmx
    · refine lv_icmp_le (pc := 80) (tgt := 90) hx hb dMo_step_80 (by decide) (fun _ => ?_) (fun hc => absurd (nI_le hmx (by omega)) hc)
      refine lv_aload_n (pc := 90) hx hb dMo_step_90 rfl (lv_at hl 2 rfl) ?_
      refine fw_get (pc := 91) (ci := 10) (v := .int (nI (mo))) (C := RMo) (T := TMo) (N := 20) hx hb hW in_Mo hown hK.1 hw b0 rfl 18 (by decide) (hW _ lf_Mo_104) (fun _ h => h) rfl dMo_step_91 ?_
      have hmv : max mo (lo + 1) = mo := by omega
      refine fw_put (pc := 94) (ci := 10) (v := .int (nI (mo))) (ty := .int) (C := RMo) (T := TMo) (N := 20) hx hb hW in_Mo tyMo tyMo_ok nmMo hown hK.1 hw b0 rfl 18 (by decide) (hW _ lf_Mo_104) (fun _ h => h) rfl (by decide +kernel) rfl rfl (Nat.le_of_ble_eq_true rfl) dMo_step_94 (fun H locs hw => ?_)
      obtain ⟨w9, e9⟩ : ∃ w_, w_ = fw_up w8 (b) (.inr (10, [.int (nI (I 0)), .ref (b + 1), .ref (b + 2), .int (nI (I 3)), .ref (b + 3), .ref (b + 4), .int (nI (I 6)), .int (nI (I 7)), .ref (b + 5), .ref (b + 6), .int (nI (I 10)), .int (nI (I 11)), .int (nI (I 12)), .int (nI (I 13)), .ref (b + 7), .ref (b + 8), .int (nI (nx)), .int (nI (lo + 1)), .int (nI (mo)), .int (nI (0))])) := ⟨_, rfl⟩
      have hw : fw_H D kCl (fw_A w (sz)) s.heap w9 (sz) H locs := by rw [e9]; exact hw
      have b0_ : w9 (b) = some (.inr (10, [.int (nI (I 0)), .ref (b + 1), .ref (b + 2), .int (nI (I 3)), .ref (b + 3), .ref (b + 4), .int (nI (I 6)), .int (nI (I 7)), .ref (b + 5), .ref (b + 6), .int (nI (I 10)), .int (nI (I 11)), .int (nI (I 12)), .int (nI (I 13)), .ref (b + 7), .ref (b + 8), .int (nI (nx)), .int (nI (lo + 1)), .int (nI (mo)), .int (nI (0))])) := by rw [e9]; exact fw_us _ _ _
      have b0 := b0_
      refine lv_aload_n (pc := 97) hx hb dMo_step_97 rfl (lv_at hl 2 rfl) ?_
      refine lv_dup (pc := 98) hx hb dMo_step_98 rfl ?_
      refine fw_get (pc := 99) (ci := 10) (v := .int (nI (nx))) (C := RMo) (T := TMo) (N := 20) hx hb hW in_Mo hown hK.1 hw b0 rfl 16 (by decide) (hW _ lf_Mo_98) (fun _ h => h) rfl dMo_step_99 ?_
      refine lv_iconst (pc := 102) (v := (nI 1)) hx hb dMo_step_102 (by decide) ?_
      refine lv_iadd (pc := 103) hx hb dMo_step_103 ?_
      rw [show ((nI (nx) + (nI 1)) : Int32) = nI (nx + 1) from (nI_add nx 1)]
      refine fw_put (pc := 104) (ci := 10) (v := .int (nI (nx + 1))) (ty := .int) (C := RMo) (T := TMo) (N := 20) hx hb hW in_Mo tyMo tyMo_ok nmMo hown hK.1 hw b0 rfl 16 (by decide) (hW _ lf_Mo_98) (fun _ h => h) rfl (by decide +kernel) rfl rfl (Nat.le_of_ble_eq_true rfl) dMo_step_104 (fun H locs hw => ?_)
      obtain ⟨w10, e10⟩ : ∃ w_, w_ = fw_up w9 (b) (.inr (10, [.int (nI (I 0)), .ref (b + 1), .ref (b + 2), .int (nI (I 3)), .ref (b + 3), .ref (b + 4), .int (nI (I 6)), .int (nI (I 7)), .ref (b + 5), .ref (b + 6), .int (nI (I 10)), .int (nI (I 11)), .int (nI (I 12)), .int (nI (I 13)), .ref (b + 7), .ref (b + 8), .int (nI (nx + 1)), .int (nI (lo + 1)), .int (nI (mo)), .int (nI (0))])) := ⟨_, rfl⟩
      have hw : fw_H D kCl (fw_A w (sz)) s.heap w10 (sz) H locs := by rw [e10]; exact hw
      have b0_ : w10 (b) = some (.inr (10, [.int (nI (I 0)), .ref (b + 1), .ref (b + 2), .int (nI (I 3)), .ref (b + 3), .ref (b + 4), .int (nI (I 6)), .int (nI (I 7)), .ref (b + 5), .ref (b + 6), .int (nI (I 10)), .int (nI (I 11)), .int (nI (I 12)), .int (nI (I 13)), .ref (b + 7), .ref (b + 8), .int (nI (nx + 1)), .int (nI (lo + 1)), .int (nI (mo)), .int (nI (0))])) := by rw [e10]; exact fw_us _ _ _
      have b0 := b0_
      rw [if_pos hz0] at hst
      exact fw_vret (pc := 107) hx hb hr hlocks hw dMo_step_107 ⟨rfl, ⟨(va_up S us (S (10 + u9))), (va_up X us (X (10 + u9))), by rw [hst, hmv]; exact moS.int hS2 (by (unfold moF moI); exact b0) (fun q h9 => by rw [e10, fw_un h9, e9, fw_un h9, e8, fw_un h9]), by rw [hst]; exact hmr⟩, fun q h9 => by rw [e10, fw_un (by omega), e9, fw_un (by omega), e8, fw_un (by omega), hn9 q h9]⟩
    · refine lv_icmp_le (pc := 80) (tgt := 90) hx hb dMo_step_80 (by decide) (fun hc => absurd hc (nI_ge hmx (by omega))) (fun _ => ?_)
      refine lv_aload_n (pc := 83) hx hb dMo_step_83 rfl (lv_at hl 2 rfl) ?_
      refine fw_get (pc := 84) (ci := 10) (v := .int (nI (lo + 1))) (C := RMo) (T := TMo) (N := 20) hx hb hW in_Mo hown hK.1 hw b0 rfl 17 (by decide) (hW _ lf_Mo_101) (fun _ h => h) rfl dMo_step_84 ?_
      refine lv_goto (pc := 87) (tgt := 94) hx hb dMo_step_87 (by decide) ?_
      have hmv : max mo (lo + 1) = lo + 1 := by omega
      refine fw_put (pc := 94) (ci := 10) (v := .int (nI (lo + 1))) (ty := .int) (C := RMo) (T := TMo) (N := 20) hx hb hW in_Mo tyMo tyMo_ok nmMo hown hK.1 hw b0 rfl 18 (by decide) (hW _ lf_Mo_104) (fun _ h => h) rfl (by decide +kernel) rfl rfl (Nat.le_of_ble_eq_true rfl) dMo_step_94 (fun H locs hw => ?_)
      obtain ⟨w11, e11⟩ : ∃ w_, w_ = fw_up w8 (b) (.inr (10, [.int (nI (I 0)), .ref (b + 1), .ref (b + 2), .int (nI (I 3)), .ref (b + 3), .ref (b + 4), .int (nI (I 6)), .int (nI (I 7)), .ref (b + 5), .ref (b + 6), .int (nI (I 10)), .int (nI (I 11)), .int (nI (I 12)), .int (nI (I 13)), .ref (b + 7), .ref (b + 8), .int (nI (nx)), .int (nI (lo + 1)), .int (nI (lo + 1)), .int (nI (0))])) := ⟨_, rfl⟩
      have hw : fw_H D kCl (fw_A w (sz)) s.heap w11 (sz) H locs := by rw [e11]; exact hw
      have b0_ : w11 (b) = some (.inr (10, [.int (nI (I 0)), .ref (b + 1), .ref (b + 2), .int (nI (I 3)), .ref (b + 3), .ref (b + 4), .int (nI (I 6)), .int (nI (I 7)), .ref (b + 5), .ref (b + 6), .int (nI (I 10)), .int (nI (I 11)), .int (nI (I 12)), .int (nI (I 13)), .ref (b + 7), .ref (b + 8), .int (nI (nx)), .int (nI (lo + 1)), .int (nI (lo + 1)), .int (nI (0))])) := by rw [e11]; exact fw_us _ _ _
      have b0 := b0_
      refine lv_aload_n (pc := 97) hx hb dMo_step_97 rfl (lv_at hl 2 rfl) ?_
      refine lv_dup (pc := 98) hx hb dMo_step_98 rfl ?_
      refine fw_get (pc := 99) (ci := 10) (v := .int (nI (nx))) (C := RMo) (T := TMo) (N := 20) hx hb hW in_Mo hown hK.1 hw b0 rfl 16 (by decide) (hW _ lf_Mo_98) (fun _ h => h) rfl dMo_step_99 ?_
      refine lv_iconst (pc := 102) (v := (nI 1)) hx hb dMo_step_102 (by decide) ?_
      refine lv_iadd (pc := 103) hx hb dMo_step_103 ?_
      rw [show ((nI (nx) + (nI 1)) : Int32) = nI (nx + 1) from (nI_add nx 1)]
      refine fw_put (pc := 104) (ci := 10) (v := .int (nI (nx + 1))) (ty := .int) (C := RMo) (T := TMo) (N := 20) hx hb hW in_Mo tyMo tyMo_ok nmMo hown hK.1 hw b0 rfl 16 (by decide) (hW _ lf_Mo_98) (fun _ h => h) rfl (by decide +kernel) rfl rfl (Nat.le_of_ble_eq_true rfl) dMo_step_104 (fun H locs hw => ?_)
      obtain ⟨w12, e12⟩ : ∃ w_, w_ = fw_up w11 (b) (.inr (10, [.int (nI (I 0)), .ref (b + 1), .ref (b + 2), .int (nI (I 3)), .ref (b + 3), .ref (b + 4), .int (nI (I 6)), .int (nI (I 7)), .ref (b + 5), .ref (b + 6), .int (nI (I 10)), .int (nI (I 11)), .int (nI (I 12)), .int (nI (I 13)), .ref (b + 7), .ref (b + 8), .int (nI (nx + 1)), .int (nI (lo + 1)), .int (nI (lo + 1)), .int (nI (0))])) := ⟨_, rfl⟩
      have hw : fw_H D kCl (fw_A w (sz)) s.heap w12 (sz) H locs := by rw [e12]; exact hw
      have b0_ : w12 (b) = some (.inr (10, [.int (nI (I 0)), .ref (b + 1), .ref (b + 2), .int (nI (I 3)), .ref (b + 3), .ref (b + 4), .int (nI (I 6)), .int (nI (I 7)), .ref (b + 5), .ref (b + 6), .int (nI (I 10)), .int (nI (I 11)), .int (nI (I 12)), .int (nI (I 13)), .ref (b + 7), .ref (b + 8), .int (nI (nx + 1)), .int (nI (lo + 1)), .int (nI (lo + 1)), .int (nI (0))])) := by rw [e12]; exact fw_us _ _ _
      have b0 := b0_
      rw [if_pos hz0] at hst
      exact fw_vret (pc := 107) hx hb hr hlocks hw dMo_step_107 ⟨rfl, ⟨(va_up S us (S (10 + u9))), (va_up X us (X (10 + u9))), by rw [hst, hmv]; exact moS.int hS2 (by (unfold moF moI); exact b0) (fun q h9 => by rw [e12, fw_un h9, e11, fw_un h9, e8, fw_un h9]), by rw [hst]; exact hmr⟩, fun q h9 => by rw [e12, fw_un (by omega), e11, fw_un (by omega), e8, fw_un (by omega), hn9 q h9]⟩
  · have hkp : 0 < kOp op := kOp_pos c1 c2 ho9
    have hk4 := kOp_lt c1
    refine lv_if_ne (pc := 16) (tgt := 36) hx hb dMo_step_16 (by decide) (fun _ => ?_) (fun hc => absurd hc (nI_ne0 hkp (by omega)))
    refine lv_aload_n (pc := 36) hx hb dMo_step_36 rfl (lv_at hl 2 rfl) ?_
    refine lv_aload_n (pc := 37) hx hb dMo_step_37 rfl (lv_at hl 2 rfl) ?_
    refine lv_iload_n (pc := 38) hx hb dMo_step_38 rfl (lv_at hl 1 rfl) ?_
    refine lv_aload_n (pc := 39) hx hb dMo_step_39 rfl (lv_at hl 2 rfl) ?_
    refine fw_get (pc := 40) (ci := 10) (v := .int (nI (us))) (C := RMo) (T := TMo) (N := 20) hx hb hW in_Mo hown hK.1 hw b0 rfl 17 (by decide) (hW _ lf_Mo_101) (fun _ h => h) rfl dMo_step_40 ?_
    refine lv_iload_n (pc := 43) hx hb dMo_step_43 rfl (lv_at hl 0 rfl) ?_
    refine lv_isub (pc := 44) hx hb dMo_step_44 ?_
    rw [show ((nI (us) - nI (kOp op)) : Int32) = nI lo from (by rw [hlo]; exact nI_subL c3)]
    refine fw_cV (pc := 45) (As := [.int (nI op), .int (nI lo)]) (rest := [.ref b]) ⟨hx, hb, hml, hown, hW⟩ (c_Mo_works (x9 := lo) (op := op) (u9 := u9) (Y := Y) hS hX h1x h1s c1 (by omega) (by omega) (fun i hi => hrr (lo + i) (by omega)) k7) (cwV 2 hW (kw_V lm_Mo_193 im_Mo_works se_Mo_works ini_Mo cd_Mo_works) rfl rfl rfl (by decide +kernel) ⟨Nat.le_of_ble_eq_true rfl, Nat.le_of_ble_eq_true rfl⟩) hK hw b0 rfl rfl hl.1 rfl (Nat.le_of_ble_eq_true rfl) dMo_step_45 ⟨Nat.le_of_ble_eq_true rfl, Nat.le_of_ble_eq_true rfl⟩ (fun v w13 H locs hq hw => ?_)
    obtain ⟨rfl, ⟨S2, X2, hS2, hXb2, hrep, hf2⟩, hn9⟩ := hq
    rw [← hz9] at hrep
    have b0 : w13 b = some (.inr (10, [.int (nI (I 0)), .ref (b + 1), .ref (b + 2), .int (nI (I 3)), .ref (b + 3), .ref (b + 4), .int (nI (I 6)), .int (nI (I 7)), .ref (b + 5), .ref (b + 6), .int (nI (I 10)), .int (nI (I 11)), .int (nI (I 12)), .int (nI (I 13)), .ref (b + 7), .ref (b + 8), .int (nI (nx)), .int (nI (us)), .int (nI (mo)), .int (nI (0))])) := by (have h9 := hS2.1; unfold moF at h9; rw [h16, h17, h18, h19] at h9; exact h9)
    rw [← hz9]
    refine W.eq (g2 := F0 m 48 ls [.int (nI z9.1), .ref b]) rfl ?_
    refine fw_put (pc := 48) (ci := 10) (v := .int (nI z9.1)) (ty := .int) (C := RMo) (T := TMo) (N := 20) hx hb hW in_Mo tyMo tyMo_ok nmMo hown hK.1 hw b0 rfl 19 (by decide) (hW _ lf_Mo_107) (fun _ h => h) rfl (by decide +kernel) rfl rfl (Nat.le_of_ble_eq_true rfl) dMo_step_48 (fun H locs hw => ?_)
    obtain ⟨w14, e14⟩ : ∃ w_, w_ = fw_up w13 (b) (.inr (10, [.int (nI (I 0)), .ref (b + 1), .ref (b + 2), .int (nI (I 3)), .ref (b + 3), .ref (b + 4), .int (nI (I 6)), .int (nI (I 7)), .ref (b + 5), .ref (b + 6), .int (nI (I 10)), .int (nI (I 11)), .int (nI (I 12)), .int (nI (I 13)), .ref (b + 7), .ref (b + 8), .int (nI (nx)), .int (nI (us)), .int (nI (mo)), .int (nI z9.1)])) := ⟨_, rfl⟩
    have hw : fw_H D kCl (fw_A w (sz)) s.heap w14 (sz) H locs := by rw [e14]; exact hw
    have b0_ : w14 (b) = some (.inr (10, [.int (nI (I 0)), .ref (b + 1), .ref (b + 2), .int (nI (I 3)), .ref (b + 3), .ref (b + 4), .int (nI (I 6)), .int (nI (I 7)), .ref (b + 5), .ref (b + 6), .int (nI (I 10)), .int (nI (I 11)), .int (nI (I 12)), .int (nI (I 13)), .ref (b + 7), .ref (b + 8), .int (nI (nx)), .int (nI (us)), .int (nI (mo)), .int (nI z9.1)])) := by rw [e14]; exact fw_us _ _ _
    have b0 := b0_
    refine lv_aload_n (pc := 51) hx hb dMo_step_51 rfl (lv_at hl 2 rfl) ?_
    refine fw_get (pc := 52) (ci := 10) (v := .int (nI z9.1)) (C := RMo) (T := TMo) (N := 20) hx hb hW in_Mo hown hK.1 hw b0 rfl 19 (by decide) (hW _ lf_Mo_107) (fun _ h => h) rfl dMo_step_52 ?_
    rcases (show z9.1 = 0 ∨ ¬ z9.1 = 0 by omega) with hz0 | hz0
    · rw [hz0] at b0
      rw [show (nI z9.1 : Int32) = nI 0 from (by rw [hz0])]
      refine lv_if_le (pc := 55) (tgt := 59) hx hb dMo_step_55 (by decide) (fun _ => ?_) (fun hc => absurd (show nI 0 ≤ 0 by decide) hc)
      have hmr : mRf S2 X2 (nx + 1, lo + 1, max mo (lo + 1), 0, va_up R lo z9.2) Y := mRf_of hrp (by omega) (by omega) (hrep hz0) hf2 hXb2
      refine lv_aload_n (pc := 59) hx hb dMo_step_59 rfl (lv_at hl 2 rfl) ?_
      refine lv_aload_n (pc := 60) hx hb dMo_step_60 rfl (lv_at hl 2 rfl) ?_
      refine fw_get (pc := 61) (ci := 10) (v := .int (nI (us))) (C := RMo) (T := TMo) (N := 20) hx hb hW in_Mo hown hK.1 hw b0 rfl 17 (by decide) (hW _ lf_Mo_101) (fun _ h => h) rfl dMo_step_61 ?_
      refine lv_iconst (pc := 64) (v := (nI 1)) hx hb dMo_step_64 (by decide) ?_
      refine lv_iadd (pc := 65) hx hb dMo_step_65 ?_
      rw [show ((nI (us) + (nI 1)) : Int32) = nI (us + 1) from (nI_add us 1)]
      refine lv_iload_n (pc := 66) hx hb dMo_step_66 rfl (lv_at hl 0 rfl) ?_
      refine lv_isub (pc := 67) hx hb dMo_step_67 ?_
      rw [show ((nI (us + 1) - nI (kOp op)) : Int32) = nI (lo + 1) from (by rw [nI_subL (by omega)]; congr 1; omega)]
      refine fw_put (pc := 68) (ci := 10) (v := .int (nI (lo + 1))) (ty := .int) (C := RMo) (T := TMo) (N := 20) hx hb hW in_Mo tyMo tyMo_ok nmMo hown hK.1 hw b0 rfl 17 (by decide) (hW _ lf_Mo_101) (fun _ h => h) rfl (by decide +kernel) rfl rfl (Nat.le_of_ble_eq_true rfl) dMo_step_68 (fun H locs hw => ?_)
      obtain ⟨w15, e15⟩ : ∃ w_, w_ = fw_up w14 (b) (.inr (10, [.int (nI (I 0)), .ref (b + 1), .ref (b + 2), .int (nI (I 3)), .ref (b + 3), .ref (b + 4), .int (nI (I 6)), .int (nI (I 7)), .ref (b + 5), .ref (b + 6), .int (nI (I 10)), .int (nI (I 11)), .int (nI (I 12)), .int (nI (I 13)), .ref (b + 7), .ref (b + 8), .int (nI (nx)), .int (nI (lo + 1)), .int (nI (mo)), .int (nI (0))])) := ⟨_, rfl⟩
      have hw : fw_H D kCl (fw_A w (sz)) s.heap w15 (sz) H locs := by rw [e15]; exact hw
      have b0_ : w15 (b) = some (.inr (10, [.int (nI (I 0)), .ref (b + 1), .ref (b + 2), .int (nI (I 3)), .ref (b + 3), .ref (b + 4), .int (nI (I 6)), .int (nI (I 7)), .ref (b + 5), .ref (b + 6), .int (nI (I 10)), .int (nI (I 11)), .int (nI (I 12)), .int (nI (I 13)), .ref (b + 7), .ref (b + 8), .int (nI (nx)), .int (nI (lo + 1)), .int (nI (mo)), .int (nI (0))])) := by rw [e15]; exact fw_us _ _ _
      have b0 := b0_
      refine lv_aload_n (pc := 71) hx hb dMo_step_71 rfl (lv_at hl 2 rfl) ?_
      refine lv_aload_n (pc := 72) hx hb dMo_step_72 rfl (lv_at hl 2 rfl) ?_
      refine fw_get (pc := 73) (ci := 10) (v := .int (nI (lo + 1))) (C := RMo) (T := TMo) (N := 20) hx hb hW in_Mo hown hK.1 hw b0 rfl 17 (by decide) (hW _ lf_Mo_101) (fun _ h => h) rfl dMo_step_73 ?_
      refine lv_aload_n (pc := 76) hx hb dMo_step_76 rfl (lv_at hl 2 rfl) ?_
      refine fw_get (pc := 77) (ci := 10) (v := .int (nI (mo))) (C := RMo) (T := TMo) (N := 20) hx hb hW in_Mo hown hK.1 hw b0 rfl 18 (by decide) (hW _ lf_Mo_104) (fun _ h => h) rfl dMo_step_77 ?_
      rcases (show lo + 1 ≤ mo ∨ mo < lo + 1 by omega) with hmx | hmx
      · refine lv_icmp_le (pc := 80) (tgt := 90) hx hb dMo_step_80 (by decide) (fun _ => ?_) (fun hc => absurd (nI_le hmx (by omega)) hc)
        refine lv_aload_n (pc := 90) hx hb dMo_step_90 rfl (lv_at hl 2 rfl) ?_
        refine fw_get (pc := 91) (ci := 10) (v := .int (nI (mo))) (C := RMo) (T := TMo) (N := 20) hx hb hW in_Mo hown hK.1 hw b0 rfl 18 (by decide) (hW _ lf_Mo_104) (fun _ h => h) rfl dMo_step_91 ?_
        have hmv : max mo (lo + 1) = mo := by omega
        refine fw_put (pc := 94) (ci := 10) (v := .int (nI (mo))) (ty := .int) (C := RMo) (T := TMo) (N := 20) hx hb hW in_Mo tyMo tyMo_ok nmMo hown hK.1 hw b0 rfl 18 (by decide) (hW _ lf_Mo_104) (fun _ h => h) rfl (by decide +kernel) rfl rfl (Nat.le_of_ble_eq_true rfl) dMo_step_94 (fun H locs hw => ?_)
        obtain ⟨w16, e16⟩ : ∃ w_, w_ = fw_up w15 (b) (.inr (10, [.int (nI (I 0)), .ref (b + 1), .ref (b + 2), .int (nI (I 3)), .ref (b + 3), .ref (b + 4), .int (nI (I 6)), .int (nI (I 7)), .ref (b + 5), .ref (b + 6), .int (nI (I 10)), .int (nI (I 11)), .int (nI (I 12)), .int (nI (I 13)), .ref (b + 7), .ref (b + 8), .int (nI (nx)), .int (nI (lo + 1)), .int (nI (mo)), .int (nI (0))])) := ⟨_, rfl⟩
        have hw : fw_H D kCl (fw_A w (sz)) s.heap w16 (sz) H locs := by rw [e16]; exact hw
        have b0_ : w16 (b) = some (.inr (10, [.int (nI (I 0)), .ref (b + 1), .ref (b + 2), .int (nI (I 3)), .ref (b + 3), .ref (b + 4), .int (nI (I 6)), .int (nI (I 7)), .ref (b + 5), .ref (b + 6), .int (nI (I 10)), .int (nI (I 11)), .int (nI (I 12)), .int (nI (I 13)), .ref (b + 7), .ref (b + 8), .int (nI (nx)), .int (nI (lo + 1)), .int (nI (mo)), .int (nI (0))])) := by rw [e16]; exact fw_us _ _ _
        have b0 := b0_
        refine lv_aload_n (pc := 97) hx hb dMo_step_97 rfl (lv_at hl 2 rfl) ?_
        refine lv_dup (pc := 98) hx hb dMo_step_98 rfl ?_
        refine fw_get (pc := 99) (ci := 10) (v := .int (nI (nx))) (C := RMo) (T := TMo) (N := 20) hx hb hW in_Mo hown hK.1 hw b0 rfl 16 (by decide) (hW _ lf_Mo_98) (fun _ h => h) rfl dMo_step_99 ?_
        refine lv_iconst (pc := 102) (v := (nI 1)) hx hb dMo_step_102 (by decide) ?_
        refine lv_iadd (pc := 103) hx hb dMo_step_103 ?_
        rw [show ((nI (nx) + (nI 1)) : Int32) = nI (nx + 1) from (nI_add nx 1)]
        refine fw_put (pc := 104) (ci := 10) (v := .int (nI (nx + 1))) (ty := .int) (C := RMo) (T := TMo) (N := 20) hx hb hW in_Mo tyMo tyMo_ok nmMo hown hK.1 hw b0 rfl 16 (by decide) (hW _ lf_Mo_98) (fun _ h => h) rfl (by decide +kernel) rfl rfl (Nat.le_of_ble_eq_true rfl) dMo_step_104 (fun H locs hw => ?_)
        obtain ⟨w17, e17⟩ : ∃ w_, w_ = fw_up w16 (b) (.inr (10, [.int (nI (I 0)), .ref (b + 1), .ref (b + 2), .int (nI (I 3)), .ref (b + 3), .ref (b + 4), .int (nI (I 6)), .int (nI (I 7)), .ref (b + 5), .ref (b + 6), .int (nI (I 10)), .int (nI (I 11)), .int (nI (I 12)), .int (nI (I 13)), .ref (b + 7), .ref (b + 8), .int (nI (nx + 1)), .int (nI (lo + 1)), .int (nI (mo)), .int (nI (0))])) := ⟨_, rfl⟩
        have hw : fw_H D kCl (fw_A w (sz)) s.heap w17 (sz) H locs := by rw [e17]; exact hw
        have b0_ : w17 (b) = some (.inr (10, [.int (nI (I 0)), .ref (b + 1), .ref (b + 2), .int (nI (I 3)), .ref (b + 3), .ref (b + 4), .int (nI (I 6)), .int (nI (I 7)), .ref (b + 5), .ref (b + 6), .int (nI (I 10)), .int (nI (I 11)), .int (nI (I 12)), .int (nI (I 13)), .ref (b + 7), .ref (b + 8), .int (nI (nx + 1)), .int (nI (lo + 1)), .int (nI (mo)), .int (nI (0))])) := by rw [e17]; exact fw_us _ _ _
        have b0 := b0_
        rw [if_pos hz0] at hst
        exact fw_vret (pc := 107) hx hb hr hlocks hw dMo_step_107 ⟨rfl, ⟨S2, X2, by rw [hst, hmv]; exact moS.int hS2 (by (unfold moF moI); exact b0) (fun q h9 => by rw [e17, fw_un h9, e16, fw_un h9, e15, fw_un h9, e14, fw_un h9]), by rw [hst]; exact hmr⟩, fun q h9 => by rw [e17, fw_un (by omega), e16, fw_un (by omega), e15, fw_un (by omega), e14, fw_un (by omega), hn9 q h9]⟩
      · refine lv_icmp_le (pc := 80) (tgt := 90) hx hb dMo_step_80 (by decide) (fun hc => absurd hc (nI_ge hmx (by omega))) (fun _ => ?_)
        refine lv_aload_n (pc := 83) hx hb dMo_step_83 rfl (lv_at hl 2 rfl) ?_
        refine fw_get (pc := 84) (ci := 10) (v := .int (nI (lo + 1))) (C := RMo) (T := TMo) (N := 20) hx hb hW in_Mo hown hK.1 hw b0 rfl 17 (by decide) (hW _ lf_Mo_101) (fun _ h => h) rfl dMo_step_84 ?_
        refine lv_goto (pc := 87) (tgt := 94) hx hb dMo_step_87 (by decide) ?_
        have hmv : max mo (lo + 1) = lo + 1 := by omega
        refine fw_put (pc := 94) (ci := 10) (v := .int (nI (lo + 1))) (ty := .int) (C := RMo) (T := TMo) (N := 20) hx hb hW in_Mo tyMo tyMo_ok nmMo hown hK.1 hw b0 rfl 18 (by decide) (hW _ lf_Mo_104) (fun _ h => h) rfl (by decide +kernel) rfl rfl (Nat.le_of_ble_eq_true rfl) dMo_step_94 (fun H locs hw => ?_)
        obtain ⟨w18, e18⟩ : ∃ w_, w_ = fw_up w15 (b) (.inr (10, [.int (nI (I 0)), .ref (b + 1), .ref (b + 2), .int (nI (I 3)), .ref (b + 3), .ref (b + 4), .int (nI (I 6)), .int (nI (I 7)), .ref (b + 5), .ref (b + 6), .int (nI (I 10)), .int (nI (I 11)), .int (nI (I 12)), .int (nI (I 13)), .ref (b + 7), .ref (b + 8), .int (nI (nx)), .int (nI (lo + 1)), .int (nI (lo + 1)), .int (nI (0))])) := ⟨_, rfl⟩
        have hw : fw_H D kCl (fw_A w (sz)) s.heap w18 (sz) H locs := by rw [e18]; exact hw
        have b0_ : w18 (b) = some (.inr (10, [.int (nI (I 0)), .ref (b + 1), .ref (b + 2), .int (nI (I 3)), .ref (b + 3), .ref (b + 4), .int (nI (I 6)), .int (nI (I 7)), .ref (b + 5), .ref (b + 6), .int (nI (I 10)), .int (nI (I 11)), .int (nI (I 12)), .int (nI (I 13)), .ref (b + 7), .ref (b + 8), .int (nI (nx)), .int (nI (lo + 1)), .int (nI (lo + 1)), .int (nI (0))])) := by rw [e18]; exact fw_us _ _ _
        have b0 := b0_
        refine lv_aload_n (pc := 97) hx hb dMo_step_97 rfl (lv_at hl 2 rfl) ?_
        refine lv_dup (pc := 98) hx hb dMo_step_98 rfl ?_
        refine fw_get (pc := 99) (ci := 10) (v := .int (nI (nx))) (C := RMo) (T := TMo) (N := 20) hx hb hW in_Mo hown hK.1 hw b0 rfl 16 (by decide) (hW _ lf_Mo_98) (fun _ h => h) rfl dMo_step_99 ?_
        refine lv_iconst (pc := 102) (v := (nI 1)) hx hb dMo_step_102 (by decide) ?_
        refine lv_iadd (pc := 103) hx hb dMo_step_103 ?_
        rw [show ((nI (nx) + (nI 1)) : Int32) = nI (nx + 1) from (nI_add nx 1)]
        refine fw_put (pc := 104) (ci := 10) (v := .int (nI (nx + 1))) (ty := .int) (C := RMo) (T := TMo) (N := 20) hx hb hW in_Mo tyMo tyMo_ok nmMo hown hK.1 hw b0 rfl 16 (by decide) (hW _ lf_Mo_98) (fun _ h => h) rfl (by decide +kernel) rfl rfl (Nat.le_of_ble_eq_true rfl) dMo_step_104 (fun H locs hw => ?_)
        obtain ⟨w19, e19⟩ : ∃ w_, w_ = fw_up w18 (b) (.inr (10, [.int (nI (I 0)), .ref (b + 1), .ref (b + 2), .int (nI (I 3)), .ref (b + 3), .ref (b + 4), .int (nI (I 6)), .int (nI (I 7)), .ref (b + 5), .ref (b + 6), .int (nI (I 10)), .int (nI (I 11)), .int (nI (I 12)), .int (nI (I 13)), .ref (b + 7), .ref (b + 8), .int (nI (nx + 1)), .int (nI (lo + 1)), .int (nI (lo + 1)), .int (nI (0))])) := ⟨_, rfl⟩
        have hw : fw_H D kCl (fw_A w (sz)) s.heap w19 (sz) H locs := by rw [e19]; exact hw
        have b0_ : w19 (b) = some (.inr (10, [.int (nI (I 0)), .ref (b + 1), .ref (b + 2), .int (nI (I 3)), .ref (b + 3), .ref (b + 4), .int (nI (I 6)), .int (nI (I 7)), .ref (b + 5), .ref (b + 6), .int (nI (I 10)), .int (nI (I 11)), .int (nI (I 12)), .int (nI (I 13)), .ref (b + 7), .ref (b + 8), .int (nI (nx + 1)), .int (nI (lo + 1)), .int (nI (lo + 1)), .int (nI (0))])) := by rw [e19]; exact fw_us _ _ _
        have b0 := b0_
        rw [if_pos hz0] at hst
        exact fw_vret (pc := 107) hx hb hr hlocks hw dMo_step_107 ⟨rfl, ⟨S2, X2, by rw [hst, hmv]; exact moS.int hS2 (by (unfold moF moI); exact b0) (fun q h9 => by rw [e19, fw_un h9, e18, fw_un h9, e15, fw_un h9, e14, fw_un h9]), by rw [hst]; exact hmr⟩, fun q h9 => by rw [e19, fw_un (by omega), e18, fw_un (by omega), e15, fw_un (by omega), e14, fw_un (by omega), hn9 q h9]⟩
    · refine lv_if_le (pc := 55) (tgt := 59) hx hb dMo_step_55 (by decide) (fun hc => absurd hc (nI_nle (by omega) (by omega))) (fun _ => ?_)
      rw [if_neg hz0] at hst
      have hmr : mRf S2 X2 (nx, us, mo, z9.1, va_up R lo z9.2) Y := ⟨fun h8 => absurd h8 hz0, fun j hj => by (have h8 := hf2 (10 + j) (by omega) (by omega)); (have h7 := hry j hj); exact ⟨h8.1.trans h7.1, h8.2.trans h7.2⟩, (hf2 23 (by omega) (by omega)).1.trans h1x, (hf2 23 (by omega) (by omega)).2.trans h1s, hXb2⟩
      exact fw_vret (pc := 58) hx hb hr hlocks hw dMo_step_58 ⟨rfl, ⟨S2, X2, by rw [hst]; exact moS.int hS2 (by (unfold moF moI); rw [if_pos rfl] at *; exact b0) (fun q h9 => by rw [e14, fw_un h9]), by rw [hst]; exact hmr⟩, fun q h9 => by rw [e14, fw_un (by omega), hn9 q h9]⟩
end MO12
