/-- a limb of a place falls -/
theorem mC_cellS {X : Nat → Nat} {p k q : Nat} (hk : k < 64) (hX : X p < nM ^ 64) (hq : q ≤ mC X (64 * p + k)) : va_up (mC X) (64 * p + k) (mC X (64 * p + k) - q) = mC (va_up X p (X p - q * nM ^ k)) := by
  refine mC_of (fun i hi => ?_) ?_ (fun j hj => up_o (by omega))
  · by_cases h : i = k
    · subst h; rw [up_s]; exact Nat.lt_of_le_of_lt (Nat.sub_le _ _) (mC_lt X _)
    · rw [up_o (by omega)]; exact mC_lt X _
  · have h1 := nw_upd (b := nM) (g := mC X) (a := 64 * p) (y := mC X (64 * p + k) - q) hk
    rw [mC_val hX, Nat.sub_mul] at h1
    have h2 : q * nM ^ k ≤ mC X (64 * p + k) * nM ^ k := Nat.mul_le_mul_right _ hq
    omega
/-- the bits of a root, from above -/
theorem rb_dig {R k : Nat} (h : ∃ t, R = t * 2 ^ (k + 1)) (hk : k < 384) : R / nM ^ (k / 24) % nM + 2 ^ (k % 24) < nM ∧ 2 ^ (k % 24) * nM ^ (k / 24) = 2 ^ k := by
  have e0 : nM = 2 ^ 24 := rfl
  have e1 : nM ^ (k / 24) = 2 ^ (24 * (k / 24)) := by rw [e0, Nat.pow_mul]
  constructor
  · obtain ⟨t, ht⟩ := h
    have e2 : R = 2 ^ (24 * (k / 24)) * (t * 2 ^ (k % 24 + 1)) := by
      rw [ht, Nat.mul_left_comm, ← Nat.pow_add, show 24 * (k / 24) + (k % 24 + 1) = k + 1 by omega]
    rw [e1, e2, Nat.mul_div_cancel_left _ (Nat.pow_pos (by decide))]
    have e3 : nM = 2 ^ (k % 24 + 1) * 2 ^ (23 - k % 24) := by rw [← Nat.pow_add, e0]; congr 1; omega
    have h1 : t * 2 ^ (k % 24 + 1) % nM = 2 ^ (k % 24 + 1) * (t % 2 ^ (23 - k % 24)) := by
      rw [e3, Nat.mul_comm t, Nat.mul_mod_mul_left]
    have h2 := Nat.mod_lt t (show 0 < 2 ^ (23 - k % 24) from Nat.pow_pos (by decide))
    have h3 : 2 ^ (k % 24 + 1) * (t % 2 ^ (23 - k % 24) + 1) ≤ 2 ^ (k % 24 + 1) * 2 ^ (23 - k % 24) := Nat.mul_le_mul_left _ h2
    rw [h1]
    rw [← e3, Nat.mul_add, Nat.mul_one] at h3
    have h4 : 2 ^ (k % 24) < 2 ^ (k % 24 + 1) := Nat.pow_lt_pow_right (by decide) (by omega)
    omega
  · rw [e1, ← Nat.pow_add]; congr 1; omega
theorem rb_hi {A R k : Nat} (h1 : R * R ≤ A) (h2 : A < (R + 2 ^ (k + 1)) * (R + 2 ^ (k + 1))) (h : ∃ t, R = t * 2 ^ (k + 1)) : ((R + 2 ^ k) * (R + 2 ^ k) ≤ A → (∃ t, R + 2 ^ k = t * 2 ^ k) ∧ A < (R + 2 ^ k + 2 ^ k) * (R + 2 ^ k + 2 ^ k)) ∧ (¬ (R + 2 ^ k) * (R + 2 ^ k) ≤ A → (∃ t, R = t * 2 ^ k) ∧ A < (R + 2 ^ k) * (R + 2 ^ k)) := by
  have e : 2 ^ (k + 1) = 2 ^ k + 2 ^ k := by rw [Nat.pow_succ]; omega
  obtain ⟨t, ht⟩ := h
  refine ⟨fun _ => ⟨⟨2 * t + 1, ?_⟩, ?_⟩, fun h3 => ⟨⟨2 * t, ?_⟩, by omega⟩⟩
  · rw [ht, e, Nat.mul_add, Nat.add_mul, Nat.one_mul, Nat.two_mul, Nat.add_mul]
  · rw [Nat.add_assoc, ← e]; exact h2
  · rw [ht, e, Nat.mul_add, Nat.two_mul, Nat.add_mul]
theorem rb_end {A R : Nat} (h1 : R * R ≤ A) (h2 : A < (R + 1) * (R + 1)) : R = isq A := rt_uniq h1 h2 (isq_ok A).1 (isq_ok A).2
theorem rb_lt {A R : Nat} (h : R * R ≤ A) (hA : A < 2 ^ 768) : R < 2 ^ 384 := by
  apply Nat.lt_of_not_le; intro h2
  have h3 := Nat.mul_self_le_mul_self h2
  rw [← Nat.pow_add] at h3
  exact absurd hA (Nat.not_lt.mpr (Nat.le_trans h3 h))
/-! The reference's methods, eighth part. Written by wip/gen/model8.py. -/
section MO8
variable {l : Launch} {D : va_G} {cI cL cQ : ClassId} {z : kZ_T} {sz : Nat} {w : fw_W}
set_option maxHeartbeats 4000000 in
set_option maxRecDepth 100000 in
theorem c_Mo_root {b : Nat} {I : Nat → Nat} {K : Nat → Nat → Nat} {S : Nat → Int32} {X : Nat → Nat} (hS : moS cI cL w b I K S (mC X)) (hX : ∀ p, X p < nM ^ 64) {x9 : Nat} {a9 : Int} (hx9 : x9 + 1 ≤ 10) (h1x : X 23 = 1) (h1s : S 23 = nI 1) (rx : X (x9) = Int.natAbs a9 ∧ S (x9) = sg32 a9) (a97 : Int.natAbs a9 < 2 ^ 768) : fw_C l yMo_root (Cond.code yMo_root cMo_root 5 (some FieldType.int) :: kWs) ({ frames := 2, cells := 0, slots := 0, locals := 55 } : Room) D kCl (kty cI cL cQ) z [.ref b, .int (nI x9)] (sz) w 0 0 (fun v w' => v = some (.int (nI (sRoot a9).1)) ∧ (∃ S2 X2, moS cI cL w' b I K S2 (mC X2) ∧ (∀ p, X2 p < nM ^ 64) ∧ ((sRoot a9).1 = 0 → X2 x9 = Int.natAbs (sRoot a9).2 ∧ S2 x9 = sg32 (sRoot a9).2) ∧ ∀ p, p ≠ x9 → p < 18 ∨ 22 < p → X2 p = X p ∧ S2 p = S p) ∧ ∀ q, q < b ∨ b + 9 ≤ q → w' q = w q) := by
  refine fw_ofW (cc := cMo_root) (maxL := 5) (ret := (some FieldType.int)) (by decide) rfl (Nat.le_of_ble_eq_true rfl) ?_
  intro p e s m args below meth c hx hb hr hts hown hlocks hname hml hK H ls hw hl
  have hW : ∀ w ∈ kWs, w.before args s = true := fun w h => hts w (List.mem_cons_of_mem _ h)
  have hown : s.vm.findClass RMo = some m.cls := hown
  have hl : lv_has ls 5 [(0, .ref b), (1, .int (nI x9))] := hl
  have b0 : w b = some (.inr (10, [.int (nI (I 0)), .ref (b + 1), .ref (b + 2), .int (nI (I 3)), .ref (b + 3), .ref (b + 4), .int (nI (I 6)), .int (nI (I 7)), .ref (b + 5), .ref (b + 6), .int (nI (I 10)), .int (nI (I 11)), .int (nI (I 12)), .int (nI (I 13)), .ref (b + 7), .ref (b + 8), .int (nI (I 16)), .int (nI (I 17)), .int (nI (I 18)), .int (nI (I 19))])) := hS.1
  have b1 : w (b + 1) = some (.inl (cL, 1536, .inr (.inl (fun i => lN (mC X i))))) := hS.2.1
  have b2 : w (b + 2) = some (.inl (cI, 24, .inl (S))) := hS.2.2.1
  have b09 := b0
  have b29 := b2
  obtain ⟨hxx, hsx⟩ := rx
  have hxO := h1x
  have hsO := h1s
  have hXb := hX
  have hfr : ∀ p, p ≠ x9 → p < 18 ∨ 22 < p → X p = X p ∧ S p = S p := fun p _ _ => ⟨rfl, rfl⟩
  have hoF : ∀ q, q < b ∨ b + 9 ≤ q → w q = w q := fun q _ => rfl
  have p64 : 2 ^ 768 < nM ^ 64 := by decide +kernel
  refine lv_aload_n (pc := 0) hx hb dMo_root_0 rfl (lv_at hl 0 rfl) ?_
  refine fw_get (pc := 1) (ci := 10) (v := .ref (b + 2)) (C := RMo) (T := TMo) (N := 20) hx hb hW in_Mo hown hK.1 hw b0 rfl 2 (by decide) (hW _ lf_Mo_13) (fun _ h => h) rfl dMo_root_1 ?_
  refine lv_iload_n (pc := 4) hx hb dMo_root_4 rfl (lv_at hl 1 rfl) ?_
  refine fw_ialdN (pc := 5) (x := S (x9)) hx hb hK.1 hw 0 b2 rfl (x9) (by omega) (by decide) rfl dMo_root_5 ?_
  rw [show (S (x9) : Int32) = sg32 a9 from hsx]
  rcases (show a9 < 0 ∨ 0 ≤ a9 by omega) with ha90 | ha90
  · rw [show (sg32 a9 : Int32) = (-1) from (sg32_n ha90)]
    refine lv_if_ge (pc := 6) (tgt := 11) hx hb dMo_root_6 (by decide) (fun hc => absurd hc (by decide)) (fun _ => ?_)
    refine lv_iconst (pc := 9) (v := (nI 4)) hx hb dMo_root_9 (by decide) ?_
    have hsp : sRoot a9 = (4, a9) := if_pos ha90
    exact fw_iret (pc := 10) hx hb hr hlocks hw dMo_root_10 ⟨by rw [hsp], ⟨_, _, hS, hXb, fun h9 => absurd h9 (by rw [hsp]; show ¬ (4 : Nat) = 0; decide), hfr⟩, hoF⟩
  · have hsg0 : 0 ≤ sg32 a9 := by (unfold sg32; rw [if_neg (by omega)]; split <;> decide)
    refine lv_if_ge (pc := 6) (tgt := 11) hx hb dMo_root_6 (by decide) (fun _ => ?_) (fun hc => absurd hsg0 hc)
    obtain ⟨A, hA⟩ : ∃ A, A = Int.natAbs a9 := ⟨_, rfl⟩
    rw [← hA] at hxx a97
    have hsp : sRoot a9 = (0, (isq A : Int)) := by unfold sRoot; rw [if_neg (by omega), hA]
    have q32 : (2 : Nat) ^ 768 = nM ^ 32 := by decide +kernel
    have loop : ∀ (k1 R : Nat), k1 ≤ 384 → R * R ≤ A → A < (R + 2 ^ k1) * (R + 2 ^ k1) → (∃ t, R = t * 2 ^ k1) → ∀ (w1 : fw_W) (H : Heap) (locs : List Loc) (ls : Array Slot) (S1 : Nat → Int32) (X1 : Nat → Nat), fw_H D kCl (fw_A w (sz)) s.heap w1 (sz) H locs → lv_has ls 5 [(2, .int (nI k1 - nI 1)), (0, .ref b), (1, .int (nI x9))] → moS cI cL w1 b I K S1 (mC X1) → (∀ p, X1 p < nM ^ 64) → X1 x9 = A → S1 x9 = sg32 a9 → X1 22 = R → (∀ p, p ≠ x9 → p < 18 ∨ 22 < p → X1 p = X p ∧ S1 p = S p) → (∀ q, q < b ∨ b + 9 ≤ q → w1 q = w q) → W p l e ({ frames := 2, cells := 0, slots := 0, locals := 55 } : Room) s m args below meth c H locs 0 0 (MQ below (fw_Q D kCl w (sz) 0 (fun v w' => v = some (.int (nI (sRoot a9).1)) ∧ (∃ S2 X2, moS cI cL w' b I K S2 (mC X2) ∧ (∀ p, X2 p < nM ^ 64) ∧ ((sRoot a9).1 = 0 → X2 x9 = Int.natAbs (sRoot a9).2 ∧ S2 x9 = sg32 (sRoot a9).2) ∧ ∀ p, p ≠ x9 → p < 18 ∨ 22 < p → X2 p = X p ∧ S2 p = S p) ∧ ∀ q, q < b ∨ b + 9 ≤ q → w' q = w q)) args s 0 0 (fw_A w (sz))) (F0 m 21 ls []) := by
      intro k1
      induction k1 with
      | zero =>
        intro R hk hR1 hR2 hRt w1 H locs ls S1 X1 hw hl hS hXb hxx hsx hxR hfr hoF
        have b0 : w1 b = some (.inr (10, [.int (nI (I 0)), .ref (b + 1), .ref (b + 2), .int (nI (I 3)), .ref (b + 3), .ref (b + 4), .int (nI (I 6)), .int (nI (I 7)), .ref (b + 5), .ref (b + 6), .int (nI (I 10)), .int (nI (I 11)), .int (nI (I 12)), .int (nI (I 13)), .ref (b + 7), .ref (b + 8), .int (nI (I 16)), .int (nI (I 17)), .int (nI (I 18)), .int (nI (I 19))])) := hS.1
        have b1 : w1 (b + 1) = some (.inl (cL, 1536, .inr (.inl (fun i => lN (mC X1 i))))) := hS.2.1
        have b2 : w1 (b + 2) = some (.inl (cI, 24, .inl (S1))) := hS.2.2.1
        refine lv_iload_n (pc := 21) hx hb dMo_root_21 rfl (lv_at hl 0 rfl) ?_
        refine lv_if_lt (pc := 22) (tgt := 92) hx hb dMo_root_22 (by decide) (fun _ => ?_) (fun hc => absurd (show nI 0 - nI 1 < 0 by decide) hc)
        have hRe : R = isq A := rb_end hR1 (by rw [Nat.pow_zero] at hR2; exact hR2)
        refine lv_aload_n (pc := 92) hx hb dMo_root_92 rfl (lv_at hl 1 rfl) ?_
        refine fw_get (pc := 93) (ci := 10) (v := .ref (b + 2)) (C := RMo) (T := TMo) (N := 20) hx hb hW in_Mo hown hK.1 hw b0 rfl 2 (by decide) (hW _ lf_Mo_13) (fun _ h => h) rfl dMo_root_93 ?_
        refine lv_bipush (pc := 96) (v := (nI 22)) hx hb dMo_root_96 (by decide) ?_
        refine lv_aload_n (pc := 98) hx hb dMo_root_98 rfl (lv_at hl 1 rfl) ?_
        refine fw_get (pc := 99) (ci := 10) (v := .ref (b + 2)) (C := RMo) (T := TMo) (N := 20) hx hb hW in_Mo hown hK.1 hw b0 rfl 2 (by decide) (hW _ lf_Mo_13) (fun _ h => h) rfl dMo_root_99 ?_
        refine lv_iload_n (pc := 102) hx hb dMo_root_102 rfl (lv_at hl 2 rfl) ?_
        refine fw_ialdN (pc := 103) (x := S1 (x9)) hx hb hK.1 hw 0 b2 rfl (x9) (by omega) (by decide) rfl dMo_root_103 ?_
        rw [show (S1 (x9) : Int32) = sg32 a9 from hsx]
        refine fw_iastN (pc := 104) (f2 := va_up S1 (22) (sg32 a9)) hx hb hK.1 hw 0 b2 rfl (22) (by omega) (by decide) (rfl) dMo_root_104 (fun H locs hw => ?_)
        obtain ⟨w301, e301⟩ : ∃ w_, w_ = fw_up w1 (b + 2) (.inl (cI, 24, .inl (va_up S1 (22) (sg32 a9)))) := ⟨_, rfl⟩
        have hw : fw_H D kCl (fw_A w (sz)) s.heap w301 (sz) H locs := by rw [e301]; exact hw
        have b0_ : w301 (b) = some (.inr (10, [.int (nI (I 0)), .ref (b + 1), .ref (b + 2), .int (nI (I 3)), .ref (b + 3), .ref (b + 4), .int (nI (I 6)), .int (nI (I 7)), .ref (b + 5), .ref (b + 6), .int (nI (I 10)), .int (nI (I 11)), .int (nI (I 12)), .int (nI (I 13)), .ref (b + 7), .ref (b + 8), .int (nI (I 16)), .int (nI (I 17)), .int (nI (I 18)), .int (nI (I 19))])) := by rw [e301, fw_un (by omega)]; exact b0
        have b1_ : w301 (b + 1) = some (.inl (cL, 1536, .inr (.inl (fun i => lN (mC X1 i))))) := by rw [e301, fw_un (by omega)]; exact b1
        have b2_ : w301 (b + 2) = some (.inl (cI, 24, .inl (va_up S1 (22) (sg32 a9)))) := by rw [e301]; exact fw_us _ _ _
        have b0 := b0_
        have b1 := b1_
        have b2 := b2_
        have hS : moS cI cL w301 b I K (va_up S1 (22) (sg32 a9)) (mC X1) := moS.cs hS b1 b2 (fun q h1 h2 => by rw [e301, fw_un h2])
        have hoF : ∀ q, q < b ∨ b + 9 ≤ q → w301 q = w q := fun q h9 => by rw [e301, fw_un (by omega)]; exact hoF q h9
        obtain ⟨S1, eS1⟩ : ∃ S_, S_ = va_up S1 (22) (sg32 a9) := ⟨_, rfl⟩
        rw [← eS1] at hS
        have hv9 : (sg32 a9 : Int32) = sg32 a9 := rfl
        have hsx : S1 (x9) = sg32 a9 := by rw [eS1, up_o (by omega)]; exact hsx
        have hsR : S1 (22) = sg32 a9 := by rw [eS1]; exact up_s.trans hv9
        have hfr : ∀ p, p ≠ x9 → p < 18 ∨ 22 < p → X1 p = X p ∧ S1 p = S p := fun p h1 h2 => by rw [eS1, up_o (by omega)]; exact hfr p h1 h2
        have b0 : w301 b = some (.inr (10, [.int (nI (I 0)), .ref (b + 1), .ref (b + 2), .int (nI (I 3)), .ref (b + 3), .ref (b + 4), .int (nI (I 6)), .int (nI (I 7)), .ref (b + 5), .ref (b + 6), .int (nI (I 10)), .int (nI (I 11)), .int (nI (I 12)), .int (nI (I 13)), .ref (b + 7), .ref (b + 8), .int (nI (I 16)), .int (nI (I 17)), .int (nI (I 18)), .int (nI (I 19))])) := hS.1
        have b1 : w301 (b + 1) = some (.inl (cL, 1536, .inr (.inl (fun i => lN (mC X1 i))))) := hS.2.1
        have b2 : w301 (b + 2) = some (.inl (cI, 24, .inl (S1))) := hS.2.2.1
        refine lv_aload_n (pc := 105) hx hb dMo_root_105 rfl (lv_at hl 1 rfl) ?_
        refine lv_bipush (pc := 106) (v := (nI 22)) hx hb dMo_root_106 (by decide) ?_
        refine lv_iload_n (pc := 108) hx hb dMo_root_108 rfl (lv_at hl 2 rfl) ?_
        refine fw_cV (pc := 109) (As := [.int (nI 22), .int (nI x9)]) (rest := []) ⟨hx, hb, hml, hown, hW⟩ (c_Mo_copy (pa := 22) (pc9 := x9) hS hXb (by omega) (by omega) (by omega)) (cwV 2 hW (kw_V lm_Mo_143 im_Mo_copy se_Mo_copy ini_Mo cd_Mo_copy) rfl rfl rfl (by decide +kernel) ⟨Nat.le_of_ble_eq_true rfl, Nat.le_of_ble_eq_true rfl⟩) hK hw b0 rfl rfl hl.1 rfl (Nat.le_of_ble_eq_true rfl) dMo_root_109 ⟨Nat.le_of_ble_eq_true rfl, Nat.le_of_ble_eq_true rfl⟩ (fun v w302 H locs hq hw => ?_)
        obtain ⟨rfl, hS, hn9⟩ := hq
        have hoF : ∀ q, q < b ∨ b + 9 ≤ q → w302 q = w q := fun q h9 => (hn9 q h9).trans (hoF q h9)
        have hB9 : R < nM ^ 64 := by rw [← hxR]; exact hXb _
        obtain ⟨X2, eX2⟩ : ∃ X_, X_ = va_up X1 (x9) (X1 (22)) := ⟨_, rfl⟩
        rw [← eX2] at hS
        have hv9 : X1 (22) = R := hxR
        have hxR : X2 (22) = R := by rw [eX2, up_o (by omega)]; exact hxR
        have hxx : X2 (x9) = R := by rw [eX2]; exact up_s.trans hv9
        have hXb : ∀ p, X2 p < nM ^ 64 := fun p => by (rw [eX2]; unfold va_up; split; (rw [hv9]; exact hB9); exact hXb p)
        have hfr : ∀ p, p ≠ x9 → p < 18 ∨ 22 < p → X2 p = X p ∧ S1 p = S p := fun p h1 h2 => by rw [eX2, up_o (by omega)]; exact hfr p h1 h2
        obtain ⟨S3, eS3⟩ : ∃ S_, S_ = va_up S1 (x9) (S1 (22)) := ⟨_, rfl⟩
        rw [← eS3] at hS
        have hv9 : (S1 (22) : Int32) = sg32 a9 := hsR
        have hsR : S3 (22) = sg32 a9 := by rw [eS3, up_o (by omega)]; exact hsR
        have hsx : S3 (x9) = sg32 a9 := by rw [eS3]; exact up_s.trans hv9
        have hfr : ∀ p, p ≠ x9 → p < 18 ∨ 22 < p → X2 p = X p ∧ S3 p = S p := fun p h1 h2 => by rw [eS3, up_o (by omega)]; exact hfr p h1 h2
        have b0 : w302 b = some (.inr (10, [.int (nI (I 0)), .ref (b + 1), .ref (b + 2), .int (nI (I 3)), .ref (b + 3), .ref (b + 4), .int (nI (I 6)), .int (nI (I 7)), .ref (b + 5), .ref (b + 6), .int (nI (I 10)), .int (nI (I 11)), .int (nI (I 12)), .int (nI (I 13)), .ref (b + 7), .ref (b + 8), .int (nI (I 16)), .int (nI (I 17)), .int (nI (I 18)), .int (nI (I 19))])) := hS.1
        have b1 : w302 (b + 1) = some (.inl (cL, 1536, .inr (.inl (fun i => lN (mC X2 i))))) := hS.2.1
        have b2 : w302 (b + 2) = some (.inl (cI, 24, .inl (S3))) := hS.2.2.1
        refine W.eq (g2 := F0 m 112 ls []) rfl ?_
        refine lv_iconst (pc := 112) (v := (nI 0)) hx hb dMo_root_112 (by decide) ?_
        have hse : sg32 a9 = sg32 (isq A : Int) := by (rcases (show a9 = 0 ∨ 0 < a9 by omega) with h9 | h9); (rw [sg32_z h9, sg32_z (by rw [hA, h9]; rfl)]); (rw [sg32_p h9, sg32_p (by have := isq_pos (show 0 < A by omega); omega)])
        exact fw_iret (pc := 113) hx hb hr hlocks hw dMo_root_113 ⟨by rw [hsp], ⟨_, _, hS, hXb, fun _ => by rw [hsp]; exact ⟨by rw [hxx, hRe]; rfl, by rw [hsx]; exact hse⟩, hfr⟩, hoF⟩
      | succ k ih =>
        intro R hk hR1 hR2 hRt w1 H locs ls S1 X1 hw hl hS hXb hxx hsx hxR hfr hoF
        have b0 : w1 b = some (.inr (10, [.int (nI (I 0)), .ref (b + 1), .ref (b + 2), .int (nI (I 3)), .ref (b + 3), .ref (b + 4), .int (nI (I 6)), .int (nI (I 7)), .ref (b + 5), .ref (b + 6), .int (nI (I 10)), .int (nI (I 11)), .int (nI (I 12)), .int (nI (I 13)), .ref (b + 7), .ref (b + 8), .int (nI (I 16)), .int (nI (I 17)), .int (nI (I 18)), .int (nI (I 19))])) := hS.1
        have b1 : w1 (b + 1) = some (.inl (cL, 1536, .inr (.inl (fun i => lN (mC X1 i))))) := hS.2.1
        have b2 : w1 (b + 2) = some (.inl (cI, 24, .inl (S1))) := hS.2.2.1
        rw [show nI (k + 1) - nI 1 = nI k from nI_pred k] at hl
        have hRl := rb_lt hR1 a97
        obtain ⟨hd1, hd2⟩ := rb_dig hRt (by omega)
        obtain ⟨hy9, hn9_⟩ := rb_hi hR1 hR2 hRt
        have hpk : 2 ^ k ≤ 2 ^ 383 := Nat.pow_le_pow_right (by decide) (by omega)
        have hp3 : 2 ^ 384 + 2 ^ 383 < 2 ^ 768 := by decide +kernel
        have hB9 : R + 2 ^ k < nM ^ 64 := Nat.lt_trans (show R + 2 ^ k < 2 ^ 768 by omega) p64
        refine lv_iload_n (pc := 21) hx hb dMo_root_21 rfl (lv_at hl 0 rfl) ?_
        refine lv_if_lt (pc := 22) (tgt := 92) hx hb dMo_root_22 (by decide) (fun hc => absurd hc (nI_pos (by omega))) (fun _ => ?_)
        refine lv_lconst (pc := 25) (v := lN 1) hx hb dMo_root_25 (by decide) ?_
        refine lv_iload_n (pc := 26) hx hb dMo_root_26 rfl (lv_at hl 0 rfl) ?_
        refine lv_bipush (pc := 27) (v := (nI 24)) hx hb dMo_root_27 (by decide) ?_
        refine lv_irem (pc := 29) hx hb dMo_root_29 (by decide) ?_
        rw [show ((nI k - nI k / (nI 24) * (nI 24)) : Int32) = nI (k % 24) from (pk_rem (by omega) (by decide) (by decide))]
        refine lv_lshl (pc := 30) (v := lN (2 ^ (k % 24))) hx hb dMo_root_30 (by have h9 := wb_shl 1 (k := k % 24) (by omega); rw [Nat.one_mul] at h9; exact h9) ?_
        obtain ⟨pw, hpw⟩ : ∃ pw, pw = 2 ^ (k % 24) := ⟨_, rfl⟩
        rw [show (lN (2 ^ (k % 24)) : Int64) = lN pw from (by rw [hpw])]
        rw [← hpw] at hd1 hd2
        refine lv_lstore_n (pc := 31) (lv' := [(3, .long (lN pw)), (2, .int (nI k)), (0, .ref b), (1, .int (nI x9))]) hx hb dMo_root_31 rfl hl (by decide) rfl (fun ls hl => ?_)
        refine lv_aload_n (pc := 32) hx hb dMo_root_32 rfl (lv_at hl 2 rfl) ?_
        refine fw_get (pc := 33) (ci := 10) (v := .ref (b + 1)) (C := RMo) (T := TMo) (N := 20) hx hb hW in_Mo hown hK.1 hw b0 rfl 1 (by decide) (hW _ lf_Mo_7) (fun _ h => h) rfl dMo_root_33 ?_
        refine lv_sipush (pc := 36) (v := (nI 1408)) hx hb dMo_root_36 (by decide) ?_
        refine lv_iload_n (pc := 39) hx hb dMo_root_39 rfl (lv_at hl 1 rfl) ?_
        refine lv_bipush (pc := 40) (v := (nI 24)) hx hb dMo_root_40 (by decide) ?_
        refine lv_idiv (pc := 42) hx hb dMo_root_42 (by decide) ?_
        rw [show ((nI k / (nI 24)) : Int32) = nI (k / 24) from (pk_div (by omega) (by decide) (by decide))]
        refine lv_iadd (pc := 43) hx hb dMo_root_43 ?_
        rw [show (((nI 1408) + nI (k / 24)) : Int32) = nI (64 * 22 + k / 24) from (nI_add 1408 (k / 24))]
        refine lv_dup2_11 (pc := 44) hx hb dMo_root_44 rfl rfl ?_
        refine fw_laldN (pc := 45) (x := lN (mC X1 (64 * 22 + k / 24))) hx hb hK.1 hw 1 b1 rfl (64 * 22 + k / 24) (by omega) (by decide) rfl dMo_root_45 ?_
        have hdg : mC X1 (64 * 22 + k / 24) = R / nM ^ (k / 24) % nM := by rw [mC_at X1 (by omega), hxR]
        refine lv_lload_n (pc := 46) hx hb dMo_root_46 rfl (lv_at hl 0 rfl) ?_
        refine lv_ladd (pc := 47) hx hb dMo_root_47 ?_
        rw [show ((lN (mC X1 (64 * 22 + k / 24)) + lN pw) : Int64) = lN (mC X1 (64 * 22 + k / 24) + pw) from (lN_add _ _)]
        refine fw_lastN (pc := 48) (f2 := fun i => lN (mC (va_up X1 (22) (X1 22 + pw * nM ^ (k / 24))) i)) hx hb hK.1 hw 1 b1 rfl (64 * 22 + k / 24) (by omega) (by decide) (by rw [lN_up, mC_cell (show k / 24 < 64 by omega) (hXb 22) (by rw [hdg]; exact hd1)]) dMo_root_48 (fun H locs hw => ?_)
        obtain ⟨w301, e301⟩ : ∃ w_, w_ = fw_up w1 (b + 1) (.inl (cL, 1536, .inr (.inl (fun i => lN (mC (va_up X1 (22) (X1 22 + pw * nM ^ (k / 24))) i))))) := ⟨_, rfl⟩
        have hw : fw_H D kCl (fw_A w (sz)) s.heap w301 (sz) H locs := by rw [e301]; exact hw
        have b0_ : w301 (b) = some (.inr (10, [.int (nI (I 0)), .ref (b + 1), .ref (b + 2), .int (nI (I 3)), .ref (b + 3), .ref (b + 4), .int (nI (I 6)), .int (nI (I 7)), .ref (b + 5), .ref (b + 6), .int (nI (I 10)), .int (nI (I 11)), .int (nI (I 12)), .int (nI (I 13)), .ref (b + 7), .ref (b + 8), .int (nI (I 16)), .int (nI (I 17)), .int (nI (I 18)), .int (nI (I 19))])) := by rw [e301, fw_un (by omega)]; exact b0
        have b2_ : w301 (b + 2) = some (.inl (cI, 24, .inl (S1))) := by rw [e301, fw_un (by omega)]; exact b2
        have b1_ : w301 (b + 1) = some (.inl (cL, 1536, .inr (.inl (fun i => lN (mC (va_up X1 (22) (X1 22 + pw * nM ^ (k / 24))) i))))) := by rw [e301]; exact fw_us _ _ _
        have b0 := b0_
        have b1 := b1_
        have b2 := b2_
        have hS : moS cI cL w301 b I K S1 (mC (va_up X1 (22) (X1 22 + pw * nM ^ (k / 24)))) := moS.cs hS b1 b2 (fun q h1 h2 => by rw [e301, fw_un h1])
        have hoF : ∀ q, q < b ∨ b + 9 ≤ q → w301 q = w q := fun q h9 => by rw [e301, fw_un (by omega)]; exact hoF q h9
        obtain ⟨X4, eX4⟩ : ∃ X_, X_ = va_up X1 (22) (X1 22 + pw * nM ^ (k / 24)) := ⟨_, rfl⟩
        rw [← eX4] at hS
        have hv9 : X1 22 + pw * nM ^ (k / 24) = R + 2 ^ k := (by rw [hxR, hd2])
        have hxx : X4 (x9) = A := by rw [eX4, up_o (by omega)]; exact hxx
        have hxR : X4 (22) = R + 2 ^ k := by rw [eX4]; exact up_s.trans hv9
        have hXb : ∀ p, X4 p < nM ^ 64 := fun p => by (rw [eX4]; unfold va_up; split; (rw [hv9]; exact hB9); exact hXb p)
        have hfr : ∀ p, p ≠ x9 → p < 18 ∨ 22 < p → X4 p = X p ∧ S1 p = S p := fun p h1 h2 => by rw [eX4, up_o (by omega)]; exact hfr p h1 h2
        have b0 : w301 b = some (.inr (10, [.int (nI (I 0)), .ref (b + 1), .ref (b + 2), .int (nI (I 3)), .ref (b + 3), .ref (b + 4), .int (nI (I 6)), .int (nI (I 7)), .ref (b + 5), .ref (b + 6), .int (nI (I 10)), .int (nI (I 11)), .int (nI (I 12)), .int (nI (I 13)), .ref (b + 7), .ref (b + 8), .int (nI (I 16)), .int (nI (I 17)), .int (nI (I 18)), .int (nI (I 19))])) := hS.1
        have b1 : w301 (b + 1) = some (.inl (cL, 1536, .inr (.inl (fun i => lN (mC X4 i))))) := hS.2.1
        have b2 : w301 (b + 2) = some (.inl (cI, 24, .inl (S1))) := hS.2.2.1
        refine lv_aload_n (pc := 49) hx hb dMo_root_49 rfl (lv_at hl 2 rfl) ?_
        refine lv_bipush (pc := 50) (v := (nI 22)) hx hb dMo_root_50 (by decide) ?_
        refine lv_bipush (pc := 52) (v := (nI 22)) hx hb dMo_root_52 (by decide) ?_
        refine lv_bipush (pc := 54) (v := (nI 21)) hx hb dMo_root_54 (by decide) ?_
        refine fw_cV (pc := 56) (As := [.int (nI 22), .int (nI 22), .int (nI 21)]) (rest := []) ⟨hx, hb, hml, hown, hW⟩ (c_Mo_multiply (pa := 22) (pb := 22) (pt := 21) hS hXb (by decide) (by decide) (by decide) (by decide) (by decide) (by rw [hxR, ← q32]; omega) (by rw [hxR, ← q32]; omega)) (cwV 3 hW (kw_V lm_Mo_155 im_Mo_multiply se_Mo_multiply ini_Mo cd_Mo_multiply) rfl rfl rfl (by decide +kernel) ⟨Nat.le_of_ble_eq_true rfl, Nat.le_of_ble_eq_true rfl⟩) hK hw b0 rfl rfl hl.1 rfl (Nat.le_of_ble_eq_true rfl) dMo_root_56 ⟨Nat.le_of_ble_eq_true rfl, Nat.le_of_ble_eq_true rfl⟩ (fun v w302 H locs hq hw => ?_)
        obtain ⟨rfl, hS, hn9⟩ := hq
        have hoF : ∀ q, q < b ∨ b + 9 ≤ q → w302 q = w q := fun q h9 => (hn9 q h9).trans (hoF q h9)
        have hB8 : (R + 2 ^ k) * (R + 2 ^ k) < nM ^ 64 := Nat.lt_of_le_of_lt (Nat.mul_le_mul (show R + 2 ^ k ≤ 2 ^ 385 by omega) (show R + 2 ^ k ≤ 2 ^ 385 by omega)) (by decide +kernel)
        obtain ⟨X5, eX5⟩ : ∃ X_, X_ = va_up X4 (21) (X4 (22) * X4 (22)) := ⟨_, rfl⟩
        rw [← eX5] at hS
        have hv9 : X4 (22) * X4 (22) = (R + 2 ^ k) * (R + 2 ^ k) := (by rw [hxR])
        have hxx : X5 (x9) = A := by rw [eX5, up_o (by omega)]; exact hxx
        have hxR : X5 (22) = R + 2 ^ k := by rw [eX5, up_o (by omega)]; exact hxR
        have hxP : X5 (21) = (R + 2 ^ k) * (R + 2 ^ k) := by rw [eX5]; exact up_s.trans hv9
        have hXb : ∀ p, X5 p < nM ^ 64 := fun p => by (rw [eX5]; unfold va_up; split; (rw [hv9]; exact hB8); exact hXb p)
        have hfr : ∀ p, p ≠ x9 → p < 18 ∨ 22 < p → X5 p = X p ∧ S1 p = S p := fun p h1 h2 => by rw [eX5, up_o (by omega)]; exact hfr p h1 h2
        obtain ⟨S6, eS6⟩ : ∃ S_, S_ = va_up S1 (21) (nI 0) := ⟨_, rfl⟩
        rw [← eS6] at hS
        have hv9 : (nI 0 : Int32) = nI 0 := rfl
        have hsx : S6 (x9) = sg32 a9 := by rw [eS6, up_o (by omega)]; exact hsx
        have hsP : S6 (21) = nI 0 := by rw [eS6]; exact up_s.trans hv9
        have hfr : ∀ p, p ≠ x9 → p < 18 ∨ 22 < p → X5 p = X p ∧ S6 p = S p := fun p h1 h2 => by rw [eS6, up_o (by omega)]; exact hfr p h1 h2
        have b0 : w302 b = some (.inr (10, [.int (nI (I 0)), .ref (b + 1), .ref (b + 2), .int (nI (I 3)), .ref (b + 3), .ref (b + 4), .int (nI (I 6)), .int (nI (I 7)), .ref (b + 5), .ref (b + 6), .int (nI (I 10)), .int (nI (I 11)), .int (nI (I 12)), .int (nI (I 13)), .ref (b + 7), .ref (b + 8), .int (nI (I 16)), .int (nI (I 17)), .int (nI (I 18)), .int (nI (I 19))])) := hS.1
        have b1 : w302 (b + 1) = some (.inl (cL, 1536, .inr (.inl (fun i => lN (mC X5 i))))) := hS.2.1
        have b2 : w302 (b + 2) = some (.inl (cI, 24, .inl (S6))) := hS.2.2.1
        refine W.eq (g2 := F0 m 59 ls []) rfl ?_
        refine lv_aload_n (pc := 59) hx hb dMo_root_59 rfl (lv_at hl 2 rfl) ?_
        refine lv_bipush (pc := 60) (v := (nI 21)) hx hb dMo_root_60 (by decide) ?_
        refine lv_iload_n (pc := 62) hx hb dMo_root_62 rfl (lv_at hl 3 rfl) ?_
        refine fw_cVR (pc := 63) (As := [.int (nI 21), .int (nI x9)]) (rest := []) ⟨hx, hb, hml, hown, hW⟩ (c_Mo_order (pa := 21) (pb := x9) hS hXb (by decide) (by omega)) (cwV 2 hW (kw_V lm_Mo_149 im_Mo_order se_Mo_order ini_Mo cd_Mo_order) rfl rfl rfl (by decide +kernel) ⟨Nat.le_of_ble_eq_true rfl, Nat.le_of_ble_eq_true rfl⟩) hK hw b0 rfl rfl hl.1 rfl (Nat.le_of_ble_eq_true rfl) dMo_root_63 ⟨Nat.le_of_ble_eq_true rfl, Nat.le_of_ble_eq_true rfl⟩ (fun v hq => ?_)
        rw [hxP, hxx] at hq
        subst hq
        refine W.eq (g2 := F0 m 66 ls [.int (ordI ((R + 2 ^ k) * (R + 2 ^ k)) A)]) rfl ?_
        refine lv_if_le (pc := 66) (tgt := 86) hx hb dMo_root_66 (by decide) (fun hc => ?_) (fun hc => ?_)
        · have hle : (R + 2 ^ k) * (R + 2 ^ k) ≤ A := Nat.le_of_not_lt (fun h9 => absurd ((ordI_gt0 _ _).mpr h9) (Int32.not_lt.mpr hc))
          refine lv_iinc (pc := 86) (lv' := [(2, .int (nI k - nI 1)), (3, .long (lN pw)), (0, .ref b), (1, .int (nI x9))]) hx hb dMo_root_86 hl (k := 1) rfl ((by rw [Int32.sub_eq_add_neg]; rfl)) (by decide) rfl (fun ls hl => ?_)
          refine lv_goto (pc := 89) (tgt := 21) hx hb dMo_root_89 (by decide) ?_
          exact ih (R + 2 ^ k) (by omega) hle (hy9 hle).2 (hy9 hle).1 _ H locs ls _ _ hw (lv_sub hl [0, 2, 3] rfl) hS hXb hxx hsx hxR hfr hoF
        · have hgt : ¬ (R + 2 ^ k) * (R + 2 ^ k) ≤ A := fun h9 => hc (Int32.not_lt.mp (fun h8 => absurd ((ordI_gt0 _ _).mp h8) (by omega)))
          refine lv_aload_n (pc := 69) hx hb dMo_root_69 rfl (lv_at hl 2 rfl) ?_
          refine fw_get (pc := 70) (ci := 10) (v := .ref (b + 1)) (C := RMo) (T := TMo) (N := 20) hx hb hW in_Mo hown hK.1 hw b0 rfl 1 (by decide) (hW _ lf_Mo_7) (fun _ h => h) rfl dMo_root_70 ?_
          refine lv_sipush (pc := 73) (v := (nI 1408)) hx hb dMo_root_73 (by decide) ?_
          refine lv_iload_n (pc := 76) hx hb dMo_root_76 rfl (lv_at hl 1 rfl) ?_
          refine lv_bipush (pc := 77) (v := (nI 24)) hx hb dMo_root_77 (by decide) ?_
          refine lv_idiv (pc := 79) hx hb dMo_root_79 (by decide) ?_
          rw [show ((nI k / (nI 24)) : Int32) = nI (k / 24) from (pk_div (by omega) (by decide) (by decide))]
          refine lv_iadd (pc := 80) hx hb dMo_root_80 ?_
          rw [show (((nI 1408) + nI (k / 24)) : Int32) = nI (64 * 22 + k / 24) from (nI_add 1408 (k / 24))]
          refine lv_dup2_11 (pc := 81) hx hb dMo_root_81 rfl rfl ?_
          refine fw_laldN (pc := 82) (x := lN (mC X5 (64 * 22 + k / 24))) hx hb hK.1 hw 1 b1 rfl (64 * 22 + k / 24) (by omega) (by decide) rfl dMo_root_82 ?_
          have hdg2 : pw ≤ mC X5 (64 * 22 + k / 24) := by
            rw [mC_at X5 (by omega), hxR, ← hd2, Nat.mul_comm pw, Nat.add_mul_div_left _ _ (Nat.pow_pos (by decide))]
            obtain ⟨t8, ht8⟩ := hRt
            have h8 := Nat.mod_add_div (R / nM ^ (k / 24)) nM
            rw [show R / nM ^ (k / 24) + pw = (R / nM ^ (k / 24) % nM + pw) + nM * (R / nM ^ (k / 24) / nM) by omega, Nat.add_mul_mod_self_left, Nat.mod_eq_of_lt hd1]; exact Nat.le_add_left _ _
          refine lv_lload_n (pc := 83) hx hb dMo_root_83 rfl (lv_at hl 0 rfl) ?_
          refine lv_lsub (pc := 84) hx hb dMo_root_84 ?_
          rw [show ((lN (mC X5 (64 * 22 + k / 24)) - lN pw) : Int64) = lN (mC X5 (64 * 22 + k / 24) - pw) from (lN_sub hdg2)]
          refine fw_lastN (pc := 85) (f2 := fun i => lN (mC (va_up X5 (22) (X5 22 - pw * nM ^ (k / 24))) i)) hx hb hK.1 hw 1 b1 rfl (64 * 22 + k / 24) (by omega) (by decide) (by rw [lN_up, mC_cellS (show k / 24 < 64 by omega) (hXb 22) hdg2]) dMo_root_85 (fun H locs hw => ?_)
          obtain ⟨w303, e303⟩ : ∃ w_, w_ = fw_up w302 (b + 1) (.inl (cL, 1536, .inr (.inl (fun i => lN (mC (va_up X5 (22) (X5 22 - pw * nM ^ (k / 24))) i))))) := ⟨_, rfl⟩
          have hw : fw_H D kCl (fw_A w (sz)) s.heap w303 (sz) H locs := by rw [e303]; exact hw
          have b0_ : w303 (b) = some (.inr (10, [.int (nI (I 0)), .ref (b + 1), .ref (b + 2), .int (nI (I 3)), .ref (b + 3), .ref (b + 4), .int (nI (I 6)), .int (nI (I 7)), .ref (b + 5), .ref (b + 6), .int (nI (I 10)), .int (nI (I 11)), .int (nI (I 12)), .int (nI (I 13)), .ref (b + 7), .ref (b + 8), .int (nI (I 16)), .int (nI (I 17)), .int (nI (I 18)), .int (nI (I 19))])) := by rw [e303, fw_un (by omega)]; exact b0
          have b2_ : w303 (b + 2) = some (.inl (cI, 24, .inl (S6))) := by rw [e303, fw_un (by omega)]; exact b2
          have b1_ : w303 (b + 1) = some (.inl (cL, 1536, .inr (.inl (fun i => lN (mC (va_up X5 (22) (X5 22 - pw * nM ^ (k / 24))) i))))) := by rw [e303]; exact fw_us _ _ _
          have b0 := b0_
          have b1 := b1_
          have b2 := b2_
          have hS : moS cI cL w303 b I K S6 (mC (va_up X5 (22) (X5 22 - pw * nM ^ (k / 24)))) := moS.cs hS b1 b2 (fun q h1 h2 => by rw [e303, fw_un h1])
          have hoF : ∀ q, q < b ∨ b + 9 ≤ q → w303 q = w q := fun q h9 => by rw [e303, fw_un (by omega)]; exact hoF q h9
          obtain ⟨X7, eX7⟩ : ∃ X_, X_ = va_up X5 (22) (X5 22 - pw * nM ^ (k / 24)) := ⟨_, rfl⟩
          rw [← eX7] at hS
          have hv9 : X5 22 - pw * nM ^ (k / 24) = R := (by rw [hxR, hd2]; omega)
          have hxx : X7 (x9) = A := by rw [eX7, up_o (by omega)]; exact hxx
          have hxP : X7 (21) = (R + 2 ^ k) * (R + 2 ^ k) := by rw [eX7, up_o (by omega)]; exact hxP
          have hxR : X7 (22) = R := by rw [eX7]; exact up_s.trans hv9
          have hXb : ∀ p, X7 p < nM ^ 64 := fun p => by (rw [eX7]; unfold va_up; split; (rw [hv9]; exact Nat.lt_of_le_of_lt (Nat.le_add_right _ _) hB9); exact hXb p)
          have hfr : ∀ p, p ≠ x9 → p < 18 ∨ 22 < p → X7 p = X p ∧ S6 p = S p := fun p h1 h2 => by rw [eX7, up_o (by omega)]; exact hfr p h1 h2
          have b0 : w303 b = some (.inr (10, [.int (nI (I 0)), .ref (b + 1), .ref (b + 2), .int (nI (I 3)), .ref (b + 3), .ref (b + 4), .int (nI (I 6)), .int (nI (I 7)), .ref (b + 5), .ref (b + 6), .int (nI (I 10)), .int (nI (I 11)), .int (nI (I 12)), .int (nI (I 13)), .ref (b + 7), .ref (b + 8), .int (nI (I 16)), .int (nI (I 17)), .int (nI (I 18)), .int (nI (I 19))])) := hS.1
          have b1 : w303 (b + 1) = some (.inl (cL, 1536, .inr (.inl (fun i => lN (mC X7 i))))) := hS.2.1
          have b2 : w303 (b + 2) = some (.inl (cI, 24, .inl (S6))) := hS.2.2.1
          refine lv_iinc (pc := 86) (lv' := [(2, .int (nI k - nI 1)), (3, .long (lN pw)), (0, .ref b), (1, .int (nI x9))]) hx hb dMo_root_86 hl (k := 1) rfl ((by rw [Int32.sub_eq_add_neg]; rfl)) (by decide) rfl (fun ls hl => ?_)
          refine lv_goto (pc := 89) (tgt := 21) hx hb dMo_root_89 (by decide) ?_
          exact ih (R) (by omega) hR1 (hn9_ hgt).2 (hn9_ hgt).1 _ H locs ls _ _ hw (lv_sub hl [0, 2, 3] rfl) hS hXb hxx hsx hxR hfr hoF
    refine lv_aload_n (pc := 11) hx hb dMo_root_11 rfl (lv_at hl 0 rfl) ?_
    refine lv_bipush (pc := 12) (v := (nI 22)) hx hb dMo_root_12 (by decide) ?_
    refine fw_cV (pc := 14) (As := [.int (nI 22)]) (rest := []) ⟨hx, hb, hml, hown, hW⟩ (c_Mo_clear (p0 := 22) hS (by omega)) (cwV 1 hW (kw_V lm_Mo_125 im_Mo_clear se_Mo_clear ini_Mo cd_Mo_clear) rfl rfl rfl (by decide +kernel) ⟨Nat.le_of_ble_eq_true rfl, Nat.le_of_ble_eq_true rfl⟩) hK hw b0 rfl rfl hl.1 rfl (Nat.le_of_ble_eq_true rfl) dMo_root_14 ⟨Nat.le_of_ble_eq_true rfl, Nat.le_of_ble_eq_true rfl⟩ (fun v w401 H locs hq hw => ?_)
    obtain ⟨rfl, hS, hn9⟩ := hq
    rw [clr_all] at hS
    have hoF : ∀ q, q < b ∨ b + 9 ≤ q → w401 q = w q := fun q h9 => (hn9 q (by omega) (by omega)).trans (hoF q h9)
    obtain ⟨X8, eX8⟩ : ∃ X_, X_ = va_up X (22) (0) := ⟨_, rfl⟩
    rw [← eX8] at hS
    have hv9 : 0 = 0 := rfl
    have hxx : X8 (x9) = A := by rw [eX8, up_o (by omega)]; exact hxx
    have hxO : X8 (23) = 1 := by rw [eX8, up_o (by omega)]; exact hxO
    have hxR : X8 (22) = 0 := by rw [eX8]; exact up_s.trans hv9
    have hXb : ∀ p, X8 p < nM ^ 64 := fun p => by (rw [eX8]; unfold va_up; split; (rw [hv9]; exact Nat.pow_pos (by decide)); exact hXb p)
    have hfr : ∀ p, p ≠ x9 → p < 18 ∨ 22 < p → X8 p = X p ∧ S p = S p := fun p h1 h2 => by rw [eX8, up_o (by omega)]; exact hfr p h1 h2
    obtain ⟨S9, eS9⟩ : ∃ S_, S_ = va_up S (22) (nI 0) := ⟨_, rfl⟩
    rw [← eS9] at hS
    have hv9 : (nI 0 : Int32) = nI 0 := rfl
    have hsx : S9 (x9) = sg32 a9 := by rw [eS9, up_o (by omega)]; exact hsx
    have hsO : S9 (23) = nI 1 := by rw [eS9, up_o (by omega)]; exact hsO
    have hsR : S9 (22) = nI 0 := by rw [eS9]; exact up_s.trans hv9
    have hfr : ∀ p, p ≠ x9 → p < 18 ∨ 22 < p → X8 p = X p ∧ S9 p = S p := fun p h1 h2 => by rw [eS9, up_o (by omega)]; exact hfr p h1 h2
    have b0 : w401 b = some (.inr (10, [.int (nI (I 0)), .ref (b + 1), .ref (b + 2), .int (nI (I 3)), .ref (b + 3), .ref (b + 4), .int (nI (I 6)), .int (nI (I 7)), .ref (b + 5), .ref (b + 6), .int (nI (I 10)), .int (nI (I 11)), .int (nI (I 12)), .int (nI (I 13)), .ref (b + 7), .ref (b + 8), .int (nI (I 16)), .int (nI (I 17)), .int (nI (I 18)), .int (nI (I 19))])) := hS.1
    have b1 : w401 (b + 1) = some (.inl (cL, 1536, .inr (.inl (fun i => lN (mC X8 i))))) := hS.2.1
    have b2 : w401 (b + 2) = some (.inl (cI, 24, .inl (S9))) := hS.2.2.1
    refine W.eq (g2 := F0 m 17 ls []) rfl ?_
    refine lv_sipush (pc := 17) (v := (nI 383)) hx hb dMo_root_17 (by decide) ?_
    rw [show ((nI 383) : Int32) = nI 384 - nI 1 from (by decide)]
    refine lv_istore_n (pc := 20) (lv' := [(2, .int (nI 384 - nI 1)), (0, .ref b), (1, .int (nI x9))]) hx hb dMo_root_20 rfl hl (by decide) rfl (fun ls hl => ?_)
    exact loop 384 0 (Nat.le_refl _) (Nat.zero_le _) (by rw [Nat.zero_add]; exact Nat.lt_of_lt_of_le a97 (by decide +kernel)) ⟨0, by rw [Nat.zero_mul]⟩ _ H locs ls _ _ hw (lv_sub hl [0, 1, 2] rfl) hS hXb hxx hsx hxR hfr hoF
end MO8
