theorem ml_zero {x n : Nat} (h : ml x n) : n = 0 ↔ x = 0 := by
  constructor
  · intro h0; have h1 := h.1; rw [h0, Nat.pow_zero] at h1; omega
  · intro h0
    apply Classical.byContradiction; intro h2
    have h3 := h.2 (by omega)
    have h4 : 0 < nM ^ (n - 1) := Nat.pow_pos (by decide)
    rw [h0] at h3; exact absurd h4 (by omega)
theorem sgw_z {s m : Nat} (h : m = 0) : sg32 (wv s m) = nI 0 := sg32_z (by rw [h]; unfold wv; split <;> rfl)
theorem sgw_0 {m : Nat} (h : 0 < m) : sg32 (wv 0 m) = nI 1 := sg32_p (by rw [wv_0]; omega)
theorem sgw_1 {m : Nat} (h : 0 < m) : sg32 (wv 1 m) = -1 := sg32_n (by rw [wv_1]; omega)
/-! The reference's methods, seventh part. Written by wip/gen/model7.py. -/
section MO7
variable {l : Launch} {D : va_G} {cI cL cQ : ClassId} {z : kZ_T} {sz : Nat} {w : fw_W}
set_option maxHeartbeats 4000000 in
set_option maxRecDepth 100000 in
theorem c_Mo_quotientR {b : Nat} {I : Nat → Nat} {K : Nat → Nat → Nat} {S : Nat → Int32} {X : Nat → Nat} (hS : moS cI cL w b I K S (mC X)) (hX : ∀ p, X p < nM ^ 64) {x9 : Nat} {yp : Nat} (hyp : yp < 10) (hyx : yp ≠ x9) {a9 b9 : Int} (hx9 : x9 + 1 ≤ 10) (h1x : X 23 = 1) (h1s : S 23 = nI 1) (rx : X (x9) = Int.natAbs a9 ∧ S (x9) = sg32 a9) (a97 : Int.natAbs a9 < 2 ^ 768) (ry : X (yp) = Int.natAbs b9 ∧ S (yp) = sg32 b9) (b97 : Int.natAbs b9 < 2 ^ 768) : fw_C l yMo_quotient (Cond.code yMo_quotient cMo_quotient 6 (some FieldType.int) :: kWs) ({ frames := 2, cells := 0, slots := 0, locals := 60 } : Room) D kCl (kty cI cL cQ) z [.ref b, .int (nI x9), .int (nI yp), .int (nI 1)] (sz) w 0 0 (fun v w' => v = some (.int (nI (sRst a9 b9).1)) ∧ (∃ S2 X2, moS cI cL w' b I K S2 (mC X2) ∧ (∀ p, X2 p < nM ^ 64) ∧ ((sRst a9 b9).1 = 0 → X2 x9 = Int.natAbs (sRst a9 b9).2 ∧ S2 x9 = sg32 (sRst a9 b9).2) ∧ ∀ p, p ≠ x9 → p < 18 ∨ 22 < p → X2 p = X p ∧ S2 p = S p) ∧ ∀ q, q < b ∨ b + 9 ≤ q → w' q = w q) := by
  refine fw_ofW (cc := cMo_quotient) (maxL := 6) (ret := (some FieldType.int)) (by decide) rfl (Nat.le_of_ble_eq_true rfl) ?_
  intro p e s m args below meth c hx hb hr hts hown hlocks hname hml hK H ls hw hl
  have hW : ∀ w ∈ kWs, w.before args s = true := fun w h => hts w (List.mem_cons_of_mem _ h)
  have hown : s.vm.findClass RMo = some m.cls := hown
  have hl : lv_has ls 6 [(0, .ref b), (1, .int (nI x9)), (2, .int (nI yp)), (3, .int (nI 1))] := hl
  have b0 : w b = some (.inr (10, [.int (nI (I 0)), .ref (b + 1), .ref (b + 2), .int (nI (I 3)), .ref (b + 3), .ref (b + 4), .int (nI (I 6)), .int (nI (I 7)), .ref (b + 5), .ref (b + 6), .int (nI (I 10)), .int (nI (I 11)), .int (nI (I 12)), .int (nI (I 13)), .ref (b + 7), .ref (b + 8), .int (nI (I 16)), .int (nI (I 17)), .int (nI (I 18)), .int (nI (I 19))])) := hS.1
  have b1 : w (b + 1) = some (.inl (cL, 1536, .inr (.inl (fun i => lN (mC X i))))) := hS.2.1
  have b2 : w (b + 2) = some (.inl (cI, 24, .inl (S))) := hS.2.2.1
  have b09 := b0
  have b29 := b2
  obtain ⟨hxx, hsx⟩ := rx
  obtain ⟨hxy, hsy⟩ := ry
  have hxO := h1x
  have hsO := h1s
  have hXb := hX
  have hfr : ∀ p, p ≠ x9 → p < 18 ∨ 22 < p → X p = X p ∧ S p = S p := fun p _ _ => ⟨rfl, rfl⟩
  have hoF : ∀ q, q < b ∨ b + 9 ≤ q → w q = w q := fun q _ => rfl
  have p64 : 2 ^ 768 < nM ^ 64 := by decide +kernel
  refine lv_aload_n (pc := 0) hx hb dMo_quotient_0 rfl (lv_at hl 0 rfl) ?_
  refine fw_get (pc := 1) (ci := 10) (v := .ref (b + 2)) (C := RMo) (T := TMo) (N := 20) hx hb hW in_Mo hown hK.1 hw b0 rfl 2 (by decide) (hW _ lf_Mo_13) (fun _ h => h) rfl dMo_quotient_1 ?_
  refine lv_iload_n (pc := 4) hx hb dMo_quotient_4 rfl (lv_at hl 2 rfl) ?_
  refine fw_ialdN (pc := 5) (x := S (yp)) hx hb hK.1 hw 0 b2 rfl (yp) (by omega) (by decide) rfl dMo_quotient_5 ?_
  rw [show (S (yp) : Int32) = sg32 b9 from hsy]
  rcases Int.lt_trichotomy b9 0 with hb90 | hb90 | hb90
  · rw [show (sg32 b9 : Int32) = (-1) from (sg32_n hb90)]
    refine lv_if_ne (pc := 6) (tgt := 11) hx hb dMo_quotient_6 (by decide) (fun _ => ?_) (fun hc => absurd hc (by decide))
    have hbne : ¬ b9 = 0 := by omega
    have hzb : sgz b9 = 1 := if_pos hb90
    refine lv_aload_n (pc := 11) hx hb dMo_quotient_11 rfl (lv_at hl 0 rfl) ?_
    refine fw_get (pc := 12) (ci := 10) (v := .ref (b + 2)) (C := RMo) (T := TMo) (N := 20) hx hb hW in_Mo hown hK.1 hw b0 rfl 2 (by decide) (hW _ lf_Mo_13) (fun _ h => h) rfl dMo_quotient_12 ?_
    refine lv_iload_n (pc := 15) hx hb dMo_quotient_15 rfl (lv_at hl 1 rfl) ?_
    refine fw_ialdN (pc := 16) (x := S (x9)) hx hb hK.1 hw 0 b2 rfl (x9) (by omega) (by decide) rfl dMo_quotient_16 ?_
    rw [show (S (x9) : Int32) = sg32 a9 from hsx]
    refine lv_aload_n (pc := 17) hx hb dMo_quotient_17 rfl (lv_at hl 0 rfl) ?_
    refine fw_get (pc := 18) (ci := 10) (v := .ref (b + 2)) (C := RMo) (T := TMo) (N := 20) hx hb hW in_Mo hown hK.1 hw b0 rfl 2 (by decide) (hW _ lf_Mo_13) (fun _ h => h) rfl dMo_quotient_18 ?_
    refine lv_iload_n (pc := 21) hx hb dMo_quotient_21 rfl (lv_at hl 2 rfl) ?_
    refine fw_ialdN (pc := 22) (x := S (yp)) hx hb hK.1 hw 0 b2 rfl (yp) (by omega) (by decide) rfl dMo_quotient_22 ?_
    rw [show (S (yp) : Int32) = sg32 b9 from hsy]
    rcases Int.lt_trichotomy a9 0 with ha90 | ha90 | ha90
    · rw [sg32_n ha90, sg32_n hb90]
      refine lv_imul (pc := 23) hx hb dMo_quotient_23 ?_
      rw [show (((-1) * (-1)) : Int32) = nI 1 from (by decide)]
      refine lv_if_ge (pc := 24) (tgt := 31) hx hb dMo_quotient_24 (by decide) (fun _ => ?_) (fun hc => absurd (by decide) hc)
      have hza : sgz a9 = 1 := if_pos ha90
      refine lv_iconst (pc := 31) (v := (nI 0)) hx hb dMo_quotient_31 (by decide) ?_
      refine lv_istore (pc := 32) (lv' := [(4, .int (nI 0)), (0, .ref b), (1, .int (nI x9)), (2, .int (nI yp)), (3, .int (nI 1))]) hx hb dMo_quotient_32 hl (by decide) rfl (fun ls hl => ?_)
      refine lv_aload_n (pc := 34) hx hb dMo_quotient_34 rfl (lv_at hl 1 rfl) ?_
      refine lv_iload_n (pc := 35) hx hb dMo_quotient_35 rfl (lv_at hl 2 rfl) ?_
      refine lv_iload_n (pc := 36) hx hb dMo_quotient_36 rfl (lv_at hl 3 rfl) ?_
      have hxx0 := hxx
      have hxy0 := hxy
      refine fw_cV (pc := 37) (As := [.int (nI x9), .int (nI yp)]) (rest := []) ⟨hx, hb, hml, hown, hW⟩ (c_Mo_divide (pa := x9) (pb := yp) hS hXb (by omega) (by omega) (by omega) (by omega) (by omega) (by rw [hxy]; omega)) (cwV 2 hW (kw_V lm_Mo_159 im_Mo_divide se_Mo_divide ini_Mo cd_Mo_divide) rfl rfl rfl (by decide +kernel) ⟨Nat.le_of_ble_eq_true rfl, Nat.le_of_ble_eq_true rfl⟩) hK hw b0 rfl rfl hl.1 rfl (Nat.le_of_ble_eq_true rfl) dMo_quotient_37 ⟨Nat.le_of_ble_eq_true rfl, Nat.le_of_ble_eq_true rfl⟩ (fun v w201 H locs hq hw => ?_)
      obtain ⟨rfl, hS, hn9⟩ := hq
      have hoF : ∀ q, q < b ∨ b + 9 ≤ q → w201 q = w q := fun q h9 => (hn9 q h9).trans (hoF q h9)
      obtain ⟨q9, hq9⟩ : ∃ q9, q9 = Int.natAbs a9 / Int.natAbs b9 := ⟨_, rfl⟩
      obtain ⟨r9, hr9⟩ : ∃ r9, r9 = Int.natAbs a9 % Int.natAbs b9 := ⟨_, rfl⟩
      have hql : q9 ≤ Int.natAbs a9 := by rw [hq9]; exact Nat.div_le_self _ _
      have hrl : r9 < Int.natAbs b9 := by rw [hr9]; exact Nat.mod_lt _ (by omega)
      have hB9 : q9 < nM ^ 64 := Nat.lt_trans (Nat.lt_of_le_of_lt hql a97) p64
      have hB8 : r9 < nM ^ 64 := Nat.lt_trans (Nat.lt_trans hrl b97) p64
      obtain ⟨X1, eX1⟩ : ∃ X_, X_ = va_up X (20) (X (x9) / X (yp)) := ⟨_, rfl⟩
      rw [← eX1] at hS
      have hv9 : X (x9) / X (yp) = q9 := (by rw [hxx0, hxy0, hq9])
      have hxx : X1 (x9) = Int.natAbs a9 := by rw [eX1, up_o (by omega)]; exact hxx
      have hxy : X1 (yp) = Int.natAbs b9 := by rw [eX1, up_o (by omega)]; exact hxy
      have hxO : X1 (23) = 1 := by rw [eX1, up_o (by omega)]; exact hxO
      have hxQ : X1 (20) = q9 := by rw [eX1]; exact up_s.trans hv9
      have hXb : ∀ p, X1 p < nM ^ 64 := fun p => by (rw [eX1]; unfold va_up; split; (rw [hv9]; exact hB9); exact hXb p)
      have hfr : ∀ p, p ≠ x9 → p < 18 ∨ 22 < p → X1 p = X p ∧ S p = S p := fun p h1 h2 => by rw [eX1, up_o (by omega)]; exact hfr p h1 h2
      obtain ⟨X2, eX2⟩ : ∃ X_, X_ = va_up X1 (x9) (X (x9) % X (yp)) := ⟨_, rfl⟩
      rw [← eX2] at hS
      have hv9 : X (x9) % X (yp) = r9 := (by rw [hxx0, hxy0, hr9])
      have hxy : X2 (yp) = Int.natAbs b9 := by rw [eX2, up_o (by omega)]; exact hxy
      have hxO : X2 (23) = 1 := by rw [eX2, up_o (by omega)]; exact hxO
      have hxQ : X2 (20) = q9 := by rw [eX2, up_o (by omega)]; exact hxQ
      have hxx : X2 (x9) = r9 := by rw [eX2]; exact up_s.trans hv9
      have hXb : ∀ p, X2 p < nM ^ 64 := fun p => by (rw [eX2]; unfold va_up; split; (rw [hv9]; exact hB8); exact hXb p)
      have hfr : ∀ p, p ≠ x9 → p < 18 ∨ 22 < p → X2 p = X p ∧ S p = S p := fun p h1 h2 => by rw [eX2, up_o (by omega)]; exact hfr p h1 h2
      obtain ⟨S3, eS3⟩ : ∃ S_, S_ = va_up S (20) (nI 0) := ⟨_, rfl⟩
      rw [← eS3] at hS
      have hv9 : (nI 0 : Int32) = nI 0 := rfl
      have hsx : S3 (x9) = sg32 a9 := by rw [eS3, up_o (by omega)]; exact hsx
      have hsy : S3 (yp) = sg32 b9 := by rw [eS3, up_o (by omega)]; exact hsy
      have hsO : S3 (23) = nI 1 := by rw [eS3, up_o (by omega)]; exact hsO
      have hsQ : S3 (20) = nI 0 := by rw [eS3]; exact up_s.trans hv9
      have hfr : ∀ p, p ≠ x9 → p < 18 ∨ 22 < p → X2 p = X p ∧ S3 p = S p := fun p h1 h2 => by rw [eS3, up_o (by omega)]; exact hfr p h1 h2
      have b0 : w201 b = some (.inr (10, [.int (nI (I 0)), .ref (b + 1), .ref (b + 2), .int (nI (I 3)), .ref (b + 3), .ref (b + 4), .int (nI (I 6)), .int (nI (I 7)), .ref (b + 5), .ref (b + 6), .int (nI (I 10)), .int (nI (I 11)), .int (nI (I 12)), .int (nI (I 13)), .ref (b + 7), .ref (b + 8), .int (nI (I 16)), .int (nI (I 17)), .int (nI (I 18)), .int (nI (I 19))])) := hS.1
      have b1 : w201 (b + 1) = some (.inl (cL, 1536, .inr (.inl (fun i => lN (mC X2 i))))) := hS.2.1
      have b2 : w201 (b + 2) = some (.inl (cI, 24, .inl (S3))) := hS.2.2.1
      refine W.eq (g2 := F0 m 40 ls []) rfl ?_
      refine lv_aload_n (pc := 40) hx hb dMo_quotient_40 rfl (lv_at hl 1 rfl) ?_
      refine lv_iload_n (pc := 41) hx hb dMo_quotient_41 rfl (lv_at hl 2 rfl) ?_
      refine fw_cVR (pc := 42) (As := [.int (nI x9)]) (rest := []) ⟨hx, hb, hml, hown, hW⟩ (c_Mo_limbs (p0 := x9) hS hXb (by omega)) (cwV 1 hW (kw_V lm_Mo_128 im_Mo_limbs se_Mo_limbs ini_Mo cd_Mo_limbs) rfl rfl rfl (by decide +kernel) ⟨Nat.le_of_ble_eq_true rfl, Nat.le_of_ble_eq_true rfl⟩) hK hw b0 rfl rfl hl.1 rfl (Nat.le_of_ble_eq_true rfl) dMo_quotient_42 ⟨Nat.le_of_ble_eq_true rfl, Nat.le_of_ble_eq_true rfl⟩ (fun v hq => ?_)
      obtain ⟨nl9, rfl, hnl, hml9⟩ := hq
      rw [hxx] at hml9
      have hlz := ml_zero hml9
      refine W.eq (g2 := F0 m 45 ls [.int (nI nl9)]) rfl ?_
      rcases Nat.eq_zero_or_pos r9 with hr0 | hr0
      · rw [show (nI nl9 : Int32) = nI 0 from (by rw [hlz.mpr hr0])]
        refine lv_if_le (pc := 45) (tgt := 52) hx hb dMo_quotient_45 (by decide) (fun _ => ?_) (fun hc => absurd (show nI 0 ≤ 0 by decide) hc)
        refine lv_iconst (pc := 52) (v := (nI 0)) hx hb dMo_quotient_52 (by decide) ?_
        refine lv_istore (pc := 53) (lv' := [(5, .int (nI 0)), (4, .int (nI 0)), (0, .ref b), (1, .int (nI x9)), (2, .int (nI yp)), (3, .int (nI 1))]) hx hb dMo_quotient_53 hl (by decide) rfl (fun ls hl => ?_)
        refine lv_iload_n (pc := 55) hx hb dMo_quotient_55 rfl (lv_at hl 5 rfl) ?_
        refine lv_if_eq (pc := 56) (tgt := 115) hx hb dMo_quotient_56 (by decide) (fun hc => absurd hc (show ¬ nI 1 = 0 by decide)) (fun _ => ?_)
        refine lv_iload (pc := 59) hx hb dMo_quotient_59 (lv_at hl 1 rfl) ?_
        refine lv_if_eq (pc := 61) (tgt := 92) hx hb dMo_quotient_61 (by decide) (fun _ => ?_) (fun hc => absurd (show nI 0 = 0 by decide) hc)
        refine lv_aload_n (pc := 92) hx hb dMo_quotient_92 rfl (lv_at hl 2 rfl) ?_
        refine fw_get (pc := 93) (ci := 10) (v := .ref (b + 2)) (C := RMo) (T := TMo) (N := 20) hx hb hW in_Mo hown hK.1 hw b0 rfl 2 (by decide) (hW _ lf_Mo_13) (fun _ h => h) rfl dMo_quotient_93 ?_
        refine lv_iload_n (pc := 96) hx hb dMo_quotient_96 rfl (lv_at hl 3 rfl) ?_
        refine lv_iload (pc := 97) hx hb dMo_quotient_97 (lv_at hl 0 rfl) ?_
        refine lv_if_eq (pc := 99) (tgt := 111) hx hb dMo_quotient_99 (by decide) (fun _ => ?_) (fun hc => absurd (show nI 0 = 0 by decide) hc)
        refine lv_iconst (pc := 111) (v := (nI 0)) hx hb dMo_quotient_111 (by decide) ?_
        refine fw_iastN (pc := 112) (f2 := va_up S3 (x9) (nI 0)) hx hb hK.1 hw 0 b2 rfl (x9) (by omega) (by decide) (rfl) dMo_quotient_112 (fun H locs hw => ?_)
        obtain ⟨w202, e202⟩ : ∃ w_, w_ = fw_up w201 (b + 2) (.inl (cI, 24, .inl (va_up S3 (x9) (nI 0)))) := ⟨_, rfl⟩
        have hw : fw_H D kCl (fw_A w (sz)) s.heap w202 (sz) H locs := by rw [e202]; exact hw
        have b0_ : w202 (b) = some (.inr (10, [.int (nI (I 0)), .ref (b + 1), .ref (b + 2), .int (nI (I 3)), .ref (b + 3), .ref (b + 4), .int (nI (I 6)), .int (nI (I 7)), .ref (b + 5), .ref (b + 6), .int (nI (I 10)), .int (nI (I 11)), .int (nI (I 12)), .int (nI (I 13)), .ref (b + 7), .ref (b + 8), .int (nI (I 16)), .int (nI (I 17)), .int (nI (I 18)), .int (nI (I 19))])) := by rw [e202, fw_un (by omega)]; exact b0
        have b1_ : w202 (b + 1) = some (.inl (cL, 1536, .inr (.inl (fun i => lN (mC X2 i))))) := by rw [e202, fw_un (by omega)]; exact b1
        have b2_ : w202 (b + 2) = some (.inl (cI, 24, .inl (va_up S3 (x9) (nI 0)))) := by rw [e202]; exact fw_us _ _ _
        have b0 := b0_
        have b1 := b1_
        have b2 := b2_
        have hS : moS cI cL w202 b I K (va_up S3 (x9) (nI 0)) (mC X2) := moS.cs hS b1 b2 (fun q h1 h2 => by rw [e202, fw_un h2])
        have hoF : ∀ q, q < b ∨ b + 9 ≤ q → w202 q = w q := fun q h9 => by rw [e202, fw_un (by omega)]; exact hoF q h9
        obtain ⟨S4, eS4⟩ : ∃ S_, S_ = va_up S3 (x9) (nI 0) := ⟨_, rfl⟩
        rw [← eS4] at hS
        have hv9 : (nI 0 : Int32) = nI 0 := rfl
        have hsy : S4 (yp) = sg32 b9 := by rw [eS4, up_o (by omega)]; exact hsy
        have hsO : S4 (23) = nI 1 := by rw [eS4, up_o (by omega)]; exact hsO
        have hsQ : S4 (20) = nI 0 := by rw [eS4, up_o (by omega)]; exact hsQ
        have hsx : S4 (x9) = nI 0 := by rw [eS4]; exact up_s.trans hv9
        have hfr : ∀ p, p ≠ x9 → p < 18 ∨ 22 < p → X2 p = X p ∧ S4 p = S p := fun p h1 h2 => by rw [eS4, up_o (by omega)]; exact hfr p h1 h2
        have b0 : w202 b = some (.inr (10, [.int (nI (I 0)), .ref (b + 1), .ref (b + 2), .int (nI (I 3)), .ref (b + 3), .ref (b + 4), .int (nI (I 6)), .int (nI (I 7)), .ref (b + 5), .ref (b + 6), .int (nI (I 10)), .int (nI (I 11)), .int (nI (I 12)), .int (nI (I 13)), .ref (b + 7), .ref (b + 8), .int (nI (I 16)), .int (nI (I 17)), .int (nI (I 18)), .int (nI (I 19))])) := hS.1
        have b1 : w202 (b + 1) = some (.inl (cL, 1536, .inr (.inl (fun i => lN (mC X2 i))))) := hS.2.1
        have b2 : w202 (b + 2) = some (.inl (cI, 24, .inl (S4))) := hS.2.2.1
        have hrm : rmg a9 b9 = r9 := by unfold rmg; rw [hza, hzb, ← hr9]; exact if_pos (Or.inr hr0)
        have hsp : sRst a9 b9 = (0, wv 1 (r9)) := by unfold sRst; rw [if_neg hbne, hzb, hrm]
        refine lv_iconst (pc := 113) (v := (nI 0)) hx hb dMo_quotient_113 (by decide) ?_
        have hm0 : r9 = 0 := hr0
        exact fw_iret (pc := 114) hx hb hr hlocks hw dMo_quotient_114 ⟨by rw [hsp], ⟨_, _, hS, hXb, fun _ => by rw [hsp]; exact ⟨by rw [wv_abs]; exact hxx, by rw [sgw_z hm0]; exact hsx⟩, hfr⟩, hoF⟩
      · refine lv_if_le (pc := 45) (tgt := 52) hx hb dMo_quotient_45 (by decide) (fun hc => absurd hc (nI_nle (Nat.pos_of_ne_zero (fun h9 => by have := hlz.mp h9; omega)) (by omega))) (fun _ => ?_)
        refine lv_iconst (pc := 48) (v := (nI 1)) hx hb dMo_quotient_48 (by decide) ?_
        refine lv_goto (pc := 49) (tgt := 53) hx hb dMo_quotient_49 (by decide) ?_
        refine lv_istore (pc := 53) (lv' := [(5, .int (nI 1)), (4, .int (nI 0)), (0, .ref b), (1, .int (nI x9)), (2, .int (nI yp)), (3, .int (nI 1))]) hx hb dMo_quotient_53 hl (by decide) rfl (fun ls hl => ?_)
        refine lv_iload_n (pc := 55) hx hb dMo_quotient_55 rfl (lv_at hl 5 rfl) ?_
        refine lv_if_eq (pc := 56) (tgt := 115) hx hb dMo_quotient_56 (by decide) (fun hc => absurd hc (show ¬ nI 1 = 0 by decide)) (fun _ => ?_)
        refine lv_iload (pc := 59) hx hb dMo_quotient_59 (lv_at hl 1 rfl) ?_
        refine lv_if_eq (pc := 61) (tgt := 92) hx hb dMo_quotient_61 (by decide) (fun _ => ?_) (fun hc => absurd (show nI 0 = 0 by decide) hc)
        refine lv_aload_n (pc := 92) hx hb dMo_quotient_92 rfl (lv_at hl 2 rfl) ?_
        refine fw_get (pc := 93) (ci := 10) (v := .ref (b + 2)) (C := RMo) (T := TMo) (N := 20) hx hb hW in_Mo hown hK.1 hw b0 rfl 2 (by decide) (hW _ lf_Mo_13) (fun _ h => h) rfl dMo_quotient_93 ?_
        refine lv_iload_n (pc := 96) hx hb dMo_quotient_96 rfl (lv_at hl 3 rfl) ?_
        refine lv_iload (pc := 97) hx hb dMo_quotient_97 (lv_at hl 0 rfl) ?_
        refine lv_if_eq (pc := 99) (tgt := 111) hx hb dMo_quotient_99 (by decide) (fun hc => absurd hc (show ¬ nI 1 = 0 by decide)) (fun _ => ?_)
        refine lv_aload_n (pc := 102) hx hb dMo_quotient_102 rfl (lv_at hl 2 rfl) ?_
        refine fw_get (pc := 103) (ci := 10) (v := .ref (b + 2)) (C := RMo) (T := TMo) (N := 20) hx hb hW in_Mo hown hK.1 hw b0 rfl 2 (by decide) (hW _ lf_Mo_13) (fun _ h => h) rfl dMo_quotient_103 ?_
        refine lv_iload_n (pc := 106) hx hb dMo_quotient_106 rfl (lv_at hl 4 rfl) ?_
        refine fw_ialdN (pc := 107) (x := S3 (yp)) hx hb hK.1 hw 0 b2 rfl (yp) (by omega) (by decide) rfl dMo_quotient_107 ?_
        rw [show (S3 (yp) : Int32) = sg32 b9 from hsy]
        refine lv_goto (pc := 108) (tgt := 112) hx hb dMo_quotient_108 (by decide) ?_
        refine fw_iastN (pc := 112) (f2 := va_up S3 (x9) (sg32 b9)) hx hb hK.1 hw 0 b2 rfl (x9) (by omega) (by decide) (rfl) dMo_quotient_112 (fun H locs hw => ?_)
        obtain ⟨w203, e203⟩ : ∃ w_, w_ = fw_up w201 (b + 2) (.inl (cI, 24, .inl (va_up S3 (x9) (sg32 b9)))) := ⟨_, rfl⟩
        have hw : fw_H D kCl (fw_A w (sz)) s.heap w203 (sz) H locs := by rw [e203]; exact hw
        have b0_ : w203 (b) = some (.inr (10, [.int (nI (I 0)), .ref (b + 1), .ref (b + 2), .int (nI (I 3)), .ref (b + 3), .ref (b + 4), .int (nI (I 6)), .int (nI (I 7)), .ref (b + 5), .ref (b + 6), .int (nI (I 10)), .int (nI (I 11)), .int (nI (I 12)), .int (nI (I 13)), .ref (b + 7), .ref (b + 8), .int (nI (I 16)), .int (nI (I 17)), .int (nI (I 18)), .int (nI (I 19))])) := by rw [e203, fw_un (by omega)]; exact b0
        have b1_ : w203 (b + 1) = some (.inl (cL, 1536, .inr (.inl (fun i => lN (mC X2 i))))) := by rw [e203, fw_un (by omega)]; exact b1
        have b2_ : w203 (b + 2) = some (.inl (cI, 24, .inl (va_up S3 (x9) (sg32 b9)))) := by rw [e203]; exact fw_us _ _ _
        have b0 := b0_
        have b1 := b1_
        have b2 := b2_
        have hS : moS cI cL w203 b I K (va_up S3 (x9) (sg32 b9)) (mC X2) := moS.cs hS b1 b2 (fun q h1 h2 => by rw [e203, fw_un h2])
        have hoF : ∀ q, q < b ∨ b + 9 ≤ q → w203 q = w q := fun q h9 => by rw [e203, fw_un (by omega)]; exact hoF q h9
        obtain ⟨S5, eS5⟩ : ∃ S_, S_ = va_up S3 (x9) (sg32 b9) := ⟨_, rfl⟩
        rw [← eS5] at hS
        have hv9 : (sg32 b9 : Int32) = (-1) := (sg32_n hb90)
        have hsy : S5 (yp) = sg32 b9 := by rw [eS5, up_o (by omega)]; exact hsy
        have hsO : S5 (23) = nI 1 := by rw [eS5, up_o (by omega)]; exact hsO
        have hsQ : S5 (20) = nI 0 := by rw [eS5, up_o (by omega)]; exact hsQ
        have hsx : S5 (x9) = (-1) := by rw [eS5]; exact up_s.trans hv9
        have hfr : ∀ p, p ≠ x9 → p < 18 ∨ 22 < p → X2 p = X p ∧ S5 p = S p := fun p h1 h2 => by rw [eS5, up_o (by omega)]; exact hfr p h1 h2
        have b0 : w203 b = some (.inr (10, [.int (nI (I 0)), .ref (b + 1), .ref (b + 2), .int (nI (I 3)), .ref (b + 3), .ref (b + 4), .int (nI (I 6)), .int (nI (I 7)), .ref (b + 5), .ref (b + 6), .int (nI (I 10)), .int (nI (I 11)), .int (nI (I 12)), .int (nI (I 13)), .ref (b + 7), .ref (b + 8), .int (nI (I 16)), .int (nI (I 17)), .int (nI (I 18)), .int (nI (I 19))])) := hS.1
        have b1 : w203 (b + 1) = some (.inl (cL, 1536, .inr (.inl (fun i => lN (mC X2 i))))) := hS.2.1
        have b2 : w203 (b + 2) = some (.inl (cI, 24, .inl (S5))) := hS.2.2.1
        have hrm : rmg a9 b9 = r9 := by unfold rmg; rw [hza, hzb, ← hr9]; exact if_pos (Or.inl rfl)
        have hsp : sRst a9 b9 = (0, wv 1 (r9)) := by unfold sRst; rw [if_neg hbne, hzb, hrm]
        refine lv_iconst (pc := 113) (v := (nI 0)) hx hb dMo_quotient_113 (by decide) ?_
        have hm0 : 0 < r9 := by omega
        exact fw_iret (pc := 114) hx hb hr hlocks hw dMo_quotient_114 ⟨by rw [hsp], ⟨_, _, hS, hXb, fun _ => by rw [hsp]; exact ⟨by rw [wv_abs]; exact hxx, by rw [sgw_1 hm0]; exact hsx⟩, hfr⟩, hoF⟩
    · rw [sg32_z ha90, sg32_n hb90]
      refine lv_imul (pc := 23) hx hb dMo_quotient_23 ?_
      rw [show ((nI 0 * (-1)) : Int32) = nI 0 from (by decide)]
      refine lv_if_ge (pc := 24) (tgt := 31) hx hb dMo_quotient_24 (by decide) (fun _ => ?_) (fun hc => absurd (by decide) hc)
      have hza : sgz a9 = 0 := if_neg (by omega)
      refine lv_iconst (pc := 31) (v := (nI 0)) hx hb dMo_quotient_31 (by decide) ?_
      refine lv_istore (pc := 32) (lv' := [(4, .int (nI 0)), (0, .ref b), (1, .int (nI x9)), (2, .int (nI yp)), (3, .int (nI 1))]) hx hb dMo_quotient_32 hl (by decide) rfl (fun ls hl => ?_)
      refine lv_aload_n (pc := 34) hx hb dMo_quotient_34 rfl (lv_at hl 1 rfl) ?_
      refine lv_iload_n (pc := 35) hx hb dMo_quotient_35 rfl (lv_at hl 2 rfl) ?_
      refine lv_iload_n (pc := 36) hx hb dMo_quotient_36 rfl (lv_at hl 3 rfl) ?_
      have hxx0 := hxx
      have hxy0 := hxy
      refine fw_cV (pc := 37) (As := [.int (nI x9), .int (nI yp)]) (rest := []) ⟨hx, hb, hml, hown, hW⟩ (c_Mo_divide (pa := x9) (pb := yp) hS hXb (by omega) (by omega) (by omega) (by omega) (by omega) (by rw [hxy]; omega)) (cwV 2 hW (kw_V lm_Mo_159 im_Mo_divide se_Mo_divide ini_Mo cd_Mo_divide) rfl rfl rfl (by decide +kernel) ⟨Nat.le_of_ble_eq_true rfl, Nat.le_of_ble_eq_true rfl⟩) hK hw b0 rfl rfl hl.1 rfl (Nat.le_of_ble_eq_true rfl) dMo_quotient_37 ⟨Nat.le_of_ble_eq_true rfl, Nat.le_of_ble_eq_true rfl⟩ (fun v w204 H locs hq hw => ?_)
      obtain ⟨rfl, hS, hn9⟩ := hq
      have hoF : ∀ q, q < b ∨ b + 9 ≤ q → w204 q = w q := fun q h9 => (hn9 q h9).trans (hoF q h9)
      obtain ⟨q9, hq9⟩ : ∃ q9, q9 = Int.natAbs a9 / Int.natAbs b9 := ⟨_, rfl⟩
      obtain ⟨r9, hr9⟩ : ∃ r9, r9 = Int.natAbs a9 % Int.natAbs b9 := ⟨_, rfl⟩
      have hql : q9 ≤ Int.natAbs a9 := by rw [hq9]; exact Nat.div_le_self _ _
      have hrl : r9 < Int.natAbs b9 := by rw [hr9]; exact Nat.mod_lt _ (by omega)
      have hB9 : q9 < nM ^ 64 := Nat.lt_trans (Nat.lt_of_le_of_lt hql a97) p64
      have hB8 : r9 < nM ^ 64 := Nat.lt_trans (Nat.lt_trans hrl b97) p64
      obtain ⟨X6, eX6⟩ : ∃ X_, X_ = va_up X (20) (X (x9) / X (yp)) := ⟨_, rfl⟩
      rw [← eX6] at hS
      have hv9 : X (x9) / X (yp) = q9 := (by rw [hxx0, hxy0, hq9])
      have hxx : X6 (x9) = Int.natAbs a9 := by rw [eX6, up_o (by omega)]; exact hxx
      have hxy : X6 (yp) = Int.natAbs b9 := by rw [eX6, up_o (by omega)]; exact hxy
      have hxO : X6 (23) = 1 := by rw [eX6, up_o (by omega)]; exact hxO
      have hxQ : X6 (20) = q9 := by rw [eX6]; exact up_s.trans hv9
      have hXb : ∀ p, X6 p < nM ^ 64 := fun p => by (rw [eX6]; unfold va_up; split; (rw [hv9]; exact hB9); exact hXb p)
      have hfr : ∀ p, p ≠ x9 → p < 18 ∨ 22 < p → X6 p = X p ∧ S p = S p := fun p h1 h2 => by rw [eX6, up_o (by omega)]; exact hfr p h1 h2
      obtain ⟨X7, eX7⟩ : ∃ X_, X_ = va_up X6 (x9) (X (x9) % X (yp)) := ⟨_, rfl⟩
      rw [← eX7] at hS
      have hv9 : X (x9) % X (yp) = r9 := (by rw [hxx0, hxy0, hr9])
      have hxy : X7 (yp) = Int.natAbs b9 := by rw [eX7, up_o (by omega)]; exact hxy
      have hxO : X7 (23) = 1 := by rw [eX7, up_o (by omega)]; exact hxO
      have hxQ : X7 (20) = q9 := by rw [eX7, up_o (by omega)]; exact hxQ
      have hxx : X7 (x9) = r9 := by rw [eX7]; exact up_s.trans hv9
      have hXb : ∀ p, X7 p < nM ^ 64 := fun p => by (rw [eX7]; unfold va_up; split; (rw [hv9]; exact hB8); exact hXb p)
      have hfr : ∀ p, p ≠ x9 → p < 18 ∨ 22 < p → X7 p = X p ∧ S p = S p := fun p h1 h2 => by rw [eX7, up_o (by omega)]; exact hfr p h1 h2
      obtain ⟨S8, eS8⟩ : ∃ S_, S_ = va_up S (20) (nI 0) := ⟨_, rfl⟩
      rw [← eS8] at hS
      have hv9 : (nI 0 : Int32) = nI 0 := rfl
      have hsx : S8 (x9) = sg32 a9 := by rw [eS8, up_o (by omega)]; exact hsx
      have hsy : S8 (yp) = sg32 b9 := by rw [eS8, up_o (by omega)]; exact hsy
      have hsO : S8 (23) = nI 1 := by rw [eS8, up_o (by omega)]; exact hsO
      have hsQ : S8 (20) = nI 0 := by rw [eS8]; exact up_s.trans hv9
      have hfr : ∀ p, p ≠ x9 → p < 18 ∨ 22 < p → X7 p = X p ∧ S8 p = S p := fun p h1 h2 => by rw [eS8, up_o (by omega)]; exact hfr p h1 h2
      have b0 : w204 b = some (.inr (10, [.int (nI (I 0)), .ref (b + 1), .ref (b + 2), .int (nI (I 3)), .ref (b + 3), .ref (b + 4), .int (nI (I 6)), .int (nI (I 7)), .ref (b + 5), .ref (b + 6), .int (nI (I 10)), .int (nI (I 11)), .int (nI (I 12)), .int (nI (I 13)), .ref (b + 7), .ref (b + 8), .int (nI (I 16)), .int (nI (I 17)), .int (nI (I 18)), .int (nI (I 19))])) := hS.1
      have b1 : w204 (b + 1) = some (.inl (cL, 1536, .inr (.inl (fun i => lN (mC X7 i))))) := hS.2.1
      have b2 : w204 (b + 2) = some (.inl (cI, 24, .inl (S8))) := hS.2.2.1
      refine W.eq (g2 := F0 m 40 ls []) rfl ?_
      refine lv_aload_n (pc := 40) hx hb dMo_quotient_40 rfl (lv_at hl 1 rfl) ?_
      refine lv_iload_n (pc := 41) hx hb dMo_quotient_41 rfl (lv_at hl 2 rfl) ?_
      refine fw_cVR (pc := 42) (As := [.int (nI x9)]) (rest := []) ⟨hx, hb, hml, hown, hW⟩ (c_Mo_limbs (p0 := x9) hS hXb (by omega)) (cwV 1 hW (kw_V lm_Mo_128 im_Mo_limbs se_Mo_limbs ini_Mo cd_Mo_limbs) rfl rfl rfl (by decide +kernel) ⟨Nat.le_of_ble_eq_true rfl, Nat.le_of_ble_eq_true rfl⟩) hK hw b0 rfl rfl hl.1 rfl (Nat.le_of_ble_eq_true rfl) dMo_quotient_42 ⟨Nat.le_of_ble_eq_true rfl, Nat.le_of_ble_eq_true rfl⟩ (fun v hq => ?_)
      obtain ⟨nl9, rfl, hnl, hml9⟩ := hq
      rw [hxx] at hml9
      have hlz := ml_zero hml9
      refine W.eq (g2 := F0 m 45 ls [.int (nI nl9)]) rfl ?_
      rcases Nat.eq_zero_or_pos r9 with hr0 | hr0
      · rw [show (nI nl9 : Int32) = nI 0 from (by rw [hlz.mpr hr0])]
        refine lv_if_le (pc := 45) (tgt := 52) hx hb dMo_quotient_45 (by decide) (fun _ => ?_) (fun hc => absurd (show nI 0 ≤ 0 by decide) hc)
        refine lv_iconst (pc := 52) (v := (nI 0)) hx hb dMo_quotient_52 (by decide) ?_
        refine lv_istore (pc := 53) (lv' := [(5, .int (nI 0)), (4, .int (nI 0)), (0, .ref b), (1, .int (nI x9)), (2, .int (nI yp)), (3, .int (nI 1))]) hx hb dMo_quotient_53 hl (by decide) rfl (fun ls hl => ?_)
        refine lv_iload_n (pc := 55) hx hb dMo_quotient_55 rfl (lv_at hl 5 rfl) ?_
        refine lv_if_eq (pc := 56) (tgt := 115) hx hb dMo_quotient_56 (by decide) (fun hc => absurd hc (show ¬ nI 1 = 0 by decide)) (fun _ => ?_)
        refine lv_iload (pc := 59) hx hb dMo_quotient_59 (lv_at hl 1 rfl) ?_
        refine lv_if_eq (pc := 61) (tgt := 92) hx hb dMo_quotient_61 (by decide) (fun _ => ?_) (fun hc => absurd (show nI 0 = 0 by decide) hc)
        refine lv_aload_n (pc := 92) hx hb dMo_quotient_92 rfl (lv_at hl 2 rfl) ?_
        refine fw_get (pc := 93) (ci := 10) (v := .ref (b + 2)) (C := RMo) (T := TMo) (N := 20) hx hb hW in_Mo hown hK.1 hw b0 rfl 2 (by decide) (hW _ lf_Mo_13) (fun _ h => h) rfl dMo_quotient_93 ?_
        refine lv_iload_n (pc := 96) hx hb dMo_quotient_96 rfl (lv_at hl 3 rfl) ?_
        refine lv_iload (pc := 97) hx hb dMo_quotient_97 (lv_at hl 0 rfl) ?_
        refine lv_if_eq (pc := 99) (tgt := 111) hx hb dMo_quotient_99 (by decide) (fun _ => ?_) (fun hc => absurd (show nI 0 = 0 by decide) hc)
        refine lv_iconst (pc := 111) (v := (nI 0)) hx hb dMo_quotient_111 (by decide) ?_
        refine fw_iastN (pc := 112) (f2 := va_up S8 (x9) (nI 0)) hx hb hK.1 hw 0 b2 rfl (x9) (by omega) (by decide) (rfl) dMo_quotient_112 (fun H locs hw => ?_)
        obtain ⟨w205, e205⟩ : ∃ w_, w_ = fw_up w204 (b + 2) (.inl (cI, 24, .inl (va_up S8 (x9) (nI 0)))) := ⟨_, rfl⟩
        have hw : fw_H D kCl (fw_A w (sz)) s.heap w205 (sz) H locs := by rw [e205]; exact hw
        have b0_ : w205 (b) = some (.inr (10, [.int (nI (I 0)), .ref (b + 1), .ref (b + 2), .int (nI (I 3)), .ref (b + 3), .ref (b + 4), .int (nI (I 6)), .int (nI (I 7)), .ref (b + 5), .ref (b + 6), .int (nI (I 10)), .int (nI (I 11)), .int (nI (I 12)), .int (nI (I 13)), .ref (b + 7), .ref (b + 8), .int (nI (I 16)), .int (nI (I 17)), .int (nI (I 18)), .int (nI (I 19))])) := by rw [e205, fw_un (by omega)]; exact b0
        have b1_ : w205 (b + 1) = some (.inl (cL, 1536, .inr (.inl (fun i => lN (mC X7 i))))) := by rw [e205, fw_un (by omega)]; exact b1
        have b2_ : w205 (b + 2) = some (.inl (cI, 24, .inl (va_up S8 (x9) (nI 0)))) := by rw [e205]; exact fw_us _ _ _
        have b0 := b0_
        have b1 := b1_
        have b2 := b2_
        have hS : moS cI cL w205 b I K (va_up S8 (x9) (nI 0)) (mC X7) := moS.cs hS b1 b2 (fun q h1 h2 => by rw [e205, fw_un h2])
        have hoF : ∀ q, q < b ∨ b + 9 ≤ q → w205 q = w q := fun q h9 => by rw [e205, fw_un (by omega)]; exact hoF q h9
        obtain ⟨S9, eS9⟩ : ∃ S_, S_ = va_up S8 (x9) (nI 0) := ⟨_, rfl⟩
        rw [← eS9] at hS
        have hv9 : (nI 0 : Int32) = nI 0 := rfl
        have hsy : S9 (yp) = sg32 b9 := by rw [eS9, up_o (by omega)]; exact hsy
        have hsO : S9 (23) = nI 1 := by rw [eS9, up_o (by omega)]; exact hsO
        have hsQ : S9 (20) = nI 0 := by rw [eS9, up_o (by omega)]; exact hsQ
        have hsx : S9 (x9) = nI 0 := by rw [eS9]; exact up_s.trans hv9
        have hfr : ∀ p, p ≠ x9 → p < 18 ∨ 22 < p → X7 p = X p ∧ S9 p = S p := fun p h1 h2 => by rw [eS9, up_o (by omega)]; exact hfr p h1 h2
        have b0 : w205 b = some (.inr (10, [.int (nI (I 0)), .ref (b + 1), .ref (b + 2), .int (nI (I 3)), .ref (b + 3), .ref (b + 4), .int (nI (I 6)), .int (nI (I 7)), .ref (b + 5), .ref (b + 6), .int (nI (I 10)), .int (nI (I 11)), .int (nI (I 12)), .int (nI (I 13)), .ref (b + 7), .ref (b + 8), .int (nI (I 16)), .int (nI (I 17)), .int (nI (I 18)), .int (nI (I 19))])) := hS.1
        have b1 : w205 (b + 1) = some (.inl (cL, 1536, .inr (.inl (fun i => lN (mC X7 i))))) := hS.2.1
        have b2 : w205 (b + 2) = some (.inl (cI, 24, .inl (S9))) := hS.2.2.1
        have hrm : rmg a9 b9 = r9 := by unfold rmg; rw [hza, hzb, ← hr9]; exact if_pos (Or.inr hr0)
        have hsp : sRst a9 b9 = (0, wv 1 (r9)) := by unfold sRst; rw [if_neg hbne, hzb, hrm]
        refine lv_iconst (pc := 113) (v := (nI 0)) hx hb dMo_quotient_113 (by decide) ?_
        have hm0 : r9 = 0 := hr0
        exact fw_iret (pc := 114) hx hb hr hlocks hw dMo_quotient_114 ⟨by rw [hsp], ⟨_, _, hS, hXb, fun _ => by rw [hsp]; exact ⟨by rw [wv_abs]; exact hxx, by rw [sgw_z hm0]; exact hsx⟩, hfr⟩, hoF⟩
      · refine lv_if_le (pc := 45) (tgt := 52) hx hb dMo_quotient_45 (by decide) (fun hc => absurd hc (nI_nle (Nat.pos_of_ne_zero (fun h9 => by have := hlz.mp h9; omega)) (by omega))) (fun _ => ?_)
        exact absurd hr0 (by rw [hr9, ha90]; simp)
    · rw [sg32_p ha90, sg32_n hb90]
      refine lv_imul (pc := 23) hx hb dMo_quotient_23 ?_
      rw [show ((nI 1 * (-1)) : Int32) = (-1) from (by decide)]
      refine lv_if_ge (pc := 24) (tgt := 31) hx hb dMo_quotient_24 (by decide) (fun hc => absurd hc (by decide)) (fun _ => ?_)
      have hza : sgz a9 = 0 := if_neg (by omega)
      refine lv_iconst (pc := 27) (v := (nI 1)) hx hb dMo_quotient_27 (by decide) ?_
      refine lv_goto (pc := 28) (tgt := 32) hx hb dMo_quotient_28 (by decide) ?_
      refine lv_istore (pc := 32) (lv' := [(4, .int (nI 1)), (0, .ref b), (1, .int (nI x9)), (2, .int (nI yp)), (3, .int (nI 1))]) hx hb dMo_quotient_32 hl (by decide) rfl (fun ls hl => ?_)
      refine lv_aload_n (pc := 34) hx hb dMo_quotient_34 rfl (lv_at hl 1 rfl) ?_
      refine lv_iload_n (pc := 35) hx hb dMo_quotient_35 rfl (lv_at hl 2 rfl) ?_
      refine lv_iload_n (pc := 36) hx hb dMo_quotient_36 rfl (lv_at hl 3 rfl) ?_
      have hxx0 := hxx
      have hxy0 := hxy
      refine fw_cV (pc := 37) (As := [.int (nI x9), .int (nI yp)]) (rest := []) ⟨hx, hb, hml, hown, hW⟩ (c_Mo_divide (pa := x9) (pb := yp) hS hXb (by omega) (by omega) (by omega) (by omega) (by omega) (by rw [hxy]; omega)) (cwV 2 hW (kw_V lm_Mo_159 im_Mo_divide se_Mo_divide ini_Mo cd_Mo_divide) rfl rfl rfl (by decide +kernel) ⟨Nat.le_of_ble_eq_true rfl, Nat.le_of_ble_eq_true rfl⟩) hK hw b0 rfl rfl hl.1 rfl (Nat.le_of_ble_eq_true rfl) dMo_quotient_37 ⟨Nat.le_of_ble_eq_true rfl, Nat.le_of_ble_eq_true rfl⟩ (fun v w206 H locs hq hw => ?_)
      obtain ⟨rfl, hS, hn9⟩ := hq
      have hoF : ∀ q, q < b ∨ b + 9 ≤ q → w206 q = w q := fun q h9 => (hn9 q h9).trans (hoF q h9)
      obtain ⟨q9, hq9⟩ : ∃ q9, q9 = Int.natAbs a9 / Int.natAbs b9 := ⟨_, rfl⟩
      obtain ⟨r9, hr9⟩ : ∃ r9, r9 = Int.natAbs a9 % Int.natAbs b9 := ⟨_, rfl⟩
      have hql : q9 ≤ Int.natAbs a9 := by rw [hq9]; exact Nat.div_le_self _ _
      have hrl : r9 < Int.natAbs b9 := by rw [hr9]; exact Nat.mod_lt _ (by omega)
      have hB9 : q9 < nM ^ 64 := Nat.lt_trans (Nat.lt_of_le_of_lt hql a97) p64
      have hB8 : r9 < nM ^ 64 := Nat.lt_trans (Nat.lt_trans hrl b97) p64
      obtain ⟨X10, eX10⟩ : ∃ X_, X_ = va_up X (20) (X (x9) / X (yp)) := ⟨_, rfl⟩
      rw [← eX10] at hS
      have hv9 : X (x9) / X (yp) = q9 := (by rw [hxx0, hxy0, hq9])
      have hxx : X10 (x9) = Int.natAbs a9 := by rw [eX10, up_o (by omega)]; exact hxx
      have hxy : X10 (yp) = Int.natAbs b9 := by rw [eX10, up_o (by omega)]; exact hxy
      have hxO : X10 (23) = 1 := by rw [eX10, up_o (by omega)]; exact hxO
      have hxQ : X10 (20) = q9 := by rw [eX10]; exact up_s.trans hv9
      have hXb : ∀ p, X10 p < nM ^ 64 := fun p => by (rw [eX10]; unfold va_up; split; (rw [hv9]; exact hB9); exact hXb p)
      have hfr : ∀ p, p ≠ x9 → p < 18 ∨ 22 < p → X10 p = X p ∧ S p = S p := fun p h1 h2 => by rw [eX10, up_o (by omega)]; exact hfr p h1 h2
      obtain ⟨X11, eX11⟩ : ∃ X_, X_ = va_up X10 (x9) (X (x9) % X (yp)) := ⟨_, rfl⟩
      rw [← eX11] at hS
      have hv9 : X (x9) % X (yp) = r9 := (by rw [hxx0, hxy0, hr9])
      have hxy : X11 (yp) = Int.natAbs b9 := by rw [eX11, up_o (by omega)]; exact hxy
      have hxO : X11 (23) = 1 := by rw [eX11, up_o (by omega)]; exact hxO
      have hxQ : X11 (20) = q9 := by rw [eX11, up_o (by omega)]; exact hxQ
      have hxx : X11 (x9) = r9 := by rw [eX11]; exact up_s.trans hv9
      have hXb : ∀ p, X11 p < nM ^ 64 := fun p => by (rw [eX11]; unfold va_up; split; (rw [hv9]; exact hB8); exact hXb p)
      have hfr : ∀ p, p ≠ x9 → p < 18 ∨ 22 < p → X11 p = X p ∧ S p = S p := fun p h1 h2 => by rw [eX11, up_o (by omega)]; exact hfr p h1 h2
      obtain ⟨S12, eS12⟩ : ∃ S_, S_ = va_up S (20) (nI 0) := ⟨_, rfl⟩
      rw [← eS12] at hS
      have hv9 : (nI 0 : Int32) = nI 0 := rfl
      have hsx : S12 (x9) = sg32 a9 := by rw [eS12, up_o (by omega)]; exact hsx
      have hsy : S12 (yp) = sg32 b9 := by rw [eS12, up_o (by omega)]; exact hsy
      have hsO : S12 (23) = nI 1 := by rw [eS12, up_o (by omega)]; exact hsO
      have hsQ : S12 (20) = nI 0 := by rw [eS12]; exact up_s.trans hv9
      have hfr : ∀ p, p ≠ x9 → p < 18 ∨ 22 < p → X11 p = X p ∧ S12 p = S p := fun p h1 h2 => by rw [eS12, up_o (by omega)]; exact hfr p h1 h2
      have b0 : w206 b = some (.inr (10, [.int (nI (I 0)), .ref (b + 1), .ref (b + 2), .int (nI (I 3)), .ref (b + 3), .ref (b + 4), .int (nI (I 6)), .int (nI (I 7)), .ref (b + 5), .ref (b + 6), .int (nI (I 10)), .int (nI (I 11)), .int (nI (I 12)), .int (nI (I 13)), .ref (b + 7), .ref (b + 8), .int (nI (I 16)), .int (nI (I 17)), .int (nI (I 18)), .int (nI (I 19))])) := hS.1
      have b1 : w206 (b + 1) = some (.inl (cL, 1536, .inr (.inl (fun i => lN (mC X11 i))))) := hS.2.1
      have b2 : w206 (b + 2) = some (.inl (cI, 24, .inl (S12))) := hS.2.2.1
      refine W.eq (g2 := F0 m 40 ls []) rfl ?_
      refine lv_aload_n (pc := 40) hx hb dMo_quotient_40 rfl (lv_at hl 1 rfl) ?_
      refine lv_iload_n (pc := 41) hx hb dMo_quotient_41 rfl (lv_at hl 2 rfl) ?_
      refine fw_cVR (pc := 42) (As := [.int (nI x9)]) (rest := []) ⟨hx, hb, hml, hown, hW⟩ (c_Mo_limbs (p0 := x9) hS hXb (by omega)) (cwV 1 hW (kw_V lm_Mo_128 im_Mo_limbs se_Mo_limbs ini_Mo cd_Mo_limbs) rfl rfl rfl (by decide +kernel) ⟨Nat.le_of_ble_eq_true rfl, Nat.le_of_ble_eq_true rfl⟩) hK hw b0 rfl rfl hl.1 rfl (Nat.le_of_ble_eq_true rfl) dMo_quotient_42 ⟨Nat.le_of_ble_eq_true rfl, Nat.le_of_ble_eq_true rfl⟩ (fun v hq => ?_)
      obtain ⟨nl9, rfl, hnl, hml9⟩ := hq
      rw [hxx] at hml9
      have hlz := ml_zero hml9
      refine W.eq (g2 := F0 m 45 ls [.int (nI nl9)]) rfl ?_
      rcases Nat.eq_zero_or_pos r9 with hr0 | hr0
      · rw [show (nI nl9 : Int32) = nI 0 from (by rw [hlz.mpr hr0])]
        refine lv_if_le (pc := 45) (tgt := 52) hx hb dMo_quotient_45 (by decide) (fun _ => ?_) (fun hc => absurd (show nI 0 ≤ 0 by decide) hc)
        refine lv_iconst (pc := 52) (v := (nI 0)) hx hb dMo_quotient_52 (by decide) ?_
        refine lv_istore (pc := 53) (lv' := [(5, .int (nI 0)), (4, .int (nI 1)), (0, .ref b), (1, .int (nI x9)), (2, .int (nI yp)), (3, .int (nI 1))]) hx hb dMo_quotient_53 hl (by decide) rfl (fun ls hl => ?_)
        refine lv_iload_n (pc := 55) hx hb dMo_quotient_55 rfl (lv_at hl 5 rfl) ?_
        refine lv_if_eq (pc := 56) (tgt := 115) hx hb dMo_quotient_56 (by decide) (fun hc => absurd hc (show ¬ nI 1 = 0 by decide)) (fun _ => ?_)
        refine lv_iload (pc := 59) hx hb dMo_quotient_59 (lv_at hl 1 rfl) ?_
        refine lv_if_eq (pc := 61) (tgt := 92) hx hb dMo_quotient_61 (by decide) (fun hc => absurd hc (show ¬ nI 1 = 0 by decide)) (fun _ => ?_)
        refine lv_iload (pc := 64) hx hb dMo_quotient_64 (lv_at hl 0 rfl) ?_
        refine lv_if_eq (pc := 66) (tgt := 92) hx hb dMo_quotient_66 (by decide) (fun _ => ?_) (fun hc => absurd (show nI 0 = 0 by decide) hc)
        refine lv_aload_n (pc := 92) hx hb dMo_quotient_92 rfl (lv_at hl 2 rfl) ?_
        refine fw_get (pc := 93) (ci := 10) (v := .ref (b + 2)) (C := RMo) (T := TMo) (N := 20) hx hb hW in_Mo hown hK.1 hw b0 rfl 2 (by decide) (hW _ lf_Mo_13) (fun _ h => h) rfl dMo_quotient_93 ?_
        refine lv_iload_n (pc := 96) hx hb dMo_quotient_96 rfl (lv_at hl 3 rfl) ?_
        refine lv_iload (pc := 97) hx hb dMo_quotient_97 (lv_at hl 0 rfl) ?_
        refine lv_if_eq (pc := 99) (tgt := 111) hx hb dMo_quotient_99 (by decide) (fun _ => ?_) (fun hc => absurd (show nI 0 = 0 by decide) hc)
        refine lv_iconst (pc := 111) (v := (nI 0)) hx hb dMo_quotient_111 (by decide) ?_
        refine fw_iastN (pc := 112) (f2 := va_up S12 (x9) (nI 0)) hx hb hK.1 hw 0 b2 rfl (x9) (by omega) (by decide) (rfl) dMo_quotient_112 (fun H locs hw => ?_)
        obtain ⟨w207, e207⟩ : ∃ w_, w_ = fw_up w206 (b + 2) (.inl (cI, 24, .inl (va_up S12 (x9) (nI 0)))) := ⟨_, rfl⟩
        have hw : fw_H D kCl (fw_A w (sz)) s.heap w207 (sz) H locs := by rw [e207]; exact hw
        have b0_ : w207 (b) = some (.inr (10, [.int (nI (I 0)), .ref (b + 1), .ref (b + 2), .int (nI (I 3)), .ref (b + 3), .ref (b + 4), .int (nI (I 6)), .int (nI (I 7)), .ref (b + 5), .ref (b + 6), .int (nI (I 10)), .int (nI (I 11)), .int (nI (I 12)), .int (nI (I 13)), .ref (b + 7), .ref (b + 8), .int (nI (I 16)), .int (nI (I 17)), .int (nI (I 18)), .int (nI (I 19))])) := by rw [e207, fw_un (by omega)]; exact b0
        have b1_ : w207 (b + 1) = some (.inl (cL, 1536, .inr (.inl (fun i => lN (mC X11 i))))) := by rw [e207, fw_un (by omega)]; exact b1
        have b2_ : w207 (b + 2) = some (.inl (cI, 24, .inl (va_up S12 (x9) (nI 0)))) := by rw [e207]; exact fw_us _ _ _
        have b0 := b0_
        have b1 := b1_
        have b2 := b2_
        have hS : moS cI cL w207 b I K (va_up S12 (x9) (nI 0)) (mC X11) := moS.cs hS b1 b2 (fun q h1 h2 => by rw [e207, fw_un h2])
        have hoF : ∀ q, q < b ∨ b + 9 ≤ q → w207 q = w q := fun q h9 => by rw [e207, fw_un (by omega)]; exact hoF q h9
        obtain ⟨S13, eS13⟩ : ∃ S_, S_ = va_up S12 (x9) (nI 0) := ⟨_, rfl⟩
        rw [← eS13] at hS
        have hv9 : (nI 0 : Int32) = nI 0 := rfl
        have hsy : S13 (yp) = sg32 b9 := by rw [eS13, up_o (by omega)]; exact hsy
        have hsO : S13 (23) = nI 1 := by rw [eS13, up_o (by omega)]; exact hsO
        have hsQ : S13 (20) = nI 0 := by rw [eS13, up_o (by omega)]; exact hsQ
        have hsx : S13 (x9) = nI 0 := by rw [eS13]; exact up_s.trans hv9
        have hfr : ∀ p, p ≠ x9 → p < 18 ∨ 22 < p → X11 p = X p ∧ S13 p = S p := fun p h1 h2 => by rw [eS13, up_o (by omega)]; exact hfr p h1 h2
        have b0 : w207 b = some (.inr (10, [.int (nI (I 0)), .ref (b + 1), .ref (b + 2), .int (nI (I 3)), .ref (b + 3), .ref (b + 4), .int (nI (I 6)), .int (nI (I 7)), .ref (b + 5), .ref (b + 6), .int (nI (I 10)), .int (nI (I 11)), .int (nI (I 12)), .int (nI (I 13)), .ref (b + 7), .ref (b + 8), .int (nI (I 16)), .int (nI (I 17)), .int (nI (I 18)), .int (nI (I 19))])) := hS.1
        have b1 : w207 (b + 1) = some (.inl (cL, 1536, .inr (.inl (fun i => lN (mC X11 i))))) := hS.2.1
        have b2 : w207 (b + 2) = some (.inl (cI, 24, .inl (S13))) := hS.2.2.1
        have hrm : rmg a9 b9 = r9 := by unfold rmg; rw [hza, hzb, ← hr9]; exact if_pos (Or.inr hr0)
        have hsp : sRst a9 b9 = (0, wv 1 (r9)) := by unfold sRst; rw [if_neg hbne, hzb, hrm]
        refine lv_iconst (pc := 113) (v := (nI 0)) hx hb dMo_quotient_113 (by decide) ?_
        have hm0 : r9 = 0 := hr0
        exact fw_iret (pc := 114) hx hb hr hlocks hw dMo_quotient_114 ⟨by rw [hsp], ⟨_, _, hS, hXb, fun _ => by rw [hsp]; exact ⟨by rw [wv_abs]; exact hxx, by rw [sgw_z hm0]; exact hsx⟩, hfr⟩, hoF⟩
      · refine lv_if_le (pc := 45) (tgt := 52) hx hb dMo_quotient_45 (by decide) (fun hc => absurd hc (nI_nle (Nat.pos_of_ne_zero (fun h9 => by have := hlz.mp h9; omega)) (by omega))) (fun _ => ?_)
        refine lv_iconst (pc := 48) (v := (nI 1)) hx hb dMo_quotient_48 (by decide) ?_
        refine lv_goto (pc := 49) (tgt := 53) hx hb dMo_quotient_49 (by decide) ?_
        refine lv_istore (pc := 53) (lv' := [(5, .int (nI 1)), (4, .int (nI 1)), (0, .ref b), (1, .int (nI x9)), (2, .int (nI yp)), (3, .int (nI 1))]) hx hb dMo_quotient_53 hl (by decide) rfl (fun ls hl => ?_)
        refine lv_iload_n (pc := 55) hx hb dMo_quotient_55 rfl (lv_at hl 5 rfl) ?_
        refine lv_if_eq (pc := 56) (tgt := 115) hx hb dMo_quotient_56 (by decide) (fun hc => absurd hc (show ¬ nI 1 = 0 by decide)) (fun _ => ?_)
        refine lv_iload (pc := 59) hx hb dMo_quotient_59 (lv_at hl 1 rfl) ?_
        refine lv_if_eq (pc := 61) (tgt := 92) hx hb dMo_quotient_61 (by decide) (fun hc => absurd hc (show ¬ nI 1 = 0 by decide)) (fun _ => ?_)
        refine lv_iload (pc := 64) hx hb dMo_quotient_64 (lv_at hl 0 rfl) ?_
        refine lv_if_eq (pc := 66) (tgt := 92) hx hb dMo_quotient_66 (by decide) (fun hc => absurd hc (show ¬ nI 1 = 0 by decide)) (fun _ => ?_)
        refine lv_aload_n (pc := 69) hx hb dMo_quotient_69 rfl (lv_at hl 2 rfl) ?_
        refine lv_iload_n (pc := 70) hx hb dMo_quotient_70 rfl (lv_at hl 4 rfl) ?_
        refine lv_bipush (pc := 71) (v := (nI 18)) hx hb dMo_quotient_71 (by decide) ?_
        refine fw_cV (pc := 73) (As := [.int (nI yp), .int (nI 18)]) (rest := []) ⟨hx, hb, hml, hown, hW⟩ (c_Mo_copy (pa := yp) (pc9 := 18) hS hXb (by omega) (by omega) (by omega)) (cwV 2 hW (kw_V lm_Mo_143 im_Mo_copy se_Mo_copy ini_Mo cd_Mo_copy) rfl rfl rfl (by decide +kernel) ⟨Nat.le_of_ble_eq_true rfl, Nat.le_of_ble_eq_true rfl⟩) hK hw b0 rfl rfl hl.1 rfl (Nat.le_of_ble_eq_true rfl) dMo_quotient_73 ⟨Nat.le_of_ble_eq_true rfl, Nat.le_of_ble_eq_true rfl⟩ (fun v w208 H locs hq hw => ?_)
        obtain ⟨rfl, hS, hn9⟩ := hq
        have hoF : ∀ q, q < b ∨ b + 9 ≤ q → w208 q = w q := fun q h9 => (hn9 q h9).trans (hoF q h9)
        have hB9 : Int.natAbs b9 < nM ^ 64 := by rw [← hxy]; exact hXb _
        obtain ⟨X14, eX14⟩ : ∃ X_, X_ = va_up X11 (18) (X11 (yp)) := ⟨_, rfl⟩
        rw [← eX14] at hS
        have hv9 : X11 (yp) = Int.natAbs b9 := hxy
        have hxx : X14 (x9) = r9 := by rw [eX14, up_o (by omega)]; exact hxx
        have hxy : X14 (yp) = Int.natAbs b9 := by rw [eX14, up_o (by omega)]; exact hxy
        have hxO : X14 (23) = 1 := by rw [eX14, up_o (by omega)]; exact hxO
        have hxQ : X14 (20) = q9 := by rw [eX14, up_o (by omega)]; exact hxQ
        have hxA : X14 (18) = Int.natAbs b9 := by rw [eX14]; exact up_s.trans hv9
        have hXb : ∀ p, X14 p < nM ^ 64 := fun p => by (rw [eX14]; unfold va_up; split; (rw [hv9]; exact hB9); exact hXb p)
        have hfr : ∀ p, p ≠ x9 → p < 18 ∨ 22 < p → X14 p = X p ∧ S12 p = S p := fun p h1 h2 => by rw [eX14, up_o (by omega)]; exact hfr p h1 h2
        obtain ⟨S15, eS15⟩ : ∃ S_, S_ = va_up S12 (18) (S12 (yp)) := ⟨_, rfl⟩
        rw [← eS15] at hS
        have hv9 : (S12 (yp) : Int32) = sg32 b9 := hsy
        have hsx : S15 (x9) = sg32 a9 := by rw [eS15, up_o (by omega)]; exact hsx
        have hsy : S15 (yp) = sg32 b9 := by rw [eS15, up_o (by omega)]; exact hsy
        have hsO : S15 (23) = nI 1 := by rw [eS15, up_o (by omega)]; exact hsO
        have hsQ : S15 (20) = nI 0 := by rw [eS15, up_o (by omega)]; exact hsQ
        have hsA : S15 (18) = sg32 b9 := by rw [eS15]; exact up_s.trans hv9
        have hfr : ∀ p, p ≠ x9 → p < 18 ∨ 22 < p → X14 p = X p ∧ S15 p = S p := fun p h1 h2 => by rw [eS15, up_o (by omega)]; exact hfr p h1 h2
        have b0 : w208 b = some (.inr (10, [.int (nI (I 0)), .ref (b + 1), .ref (b + 2), .int (nI (I 3)), .ref (b + 3), .ref (b + 4), .int (nI (I 6)), .int (nI (I 7)), .ref (b + 5), .ref (b + 6), .int (nI (I 10)), .int (nI (I 11)), .int (nI (I 12)), .int (nI (I 13)), .ref (b + 7), .ref (b + 8), .int (nI (I 16)), .int (nI (I 17)), .int (nI (I 18)), .int (nI (I 19))])) := hS.1
        have b1 : w208 (b + 1) = some (.inl (cL, 1536, .inr (.inl (fun i => lN (mC X14 i))))) := hS.2.1
        have b2 : w208 (b + 2) = some (.inl (cI, 24, .inl (S15))) := hS.2.2.1
        refine W.eq (g2 := F0 m 76 ls []) rfl ?_
        refine lv_aload_n (pc := 76) hx hb dMo_quotient_76 rfl (lv_at hl 2 rfl) ?_
        refine lv_bipush (pc := 77) (v := (nI 18)) hx hb dMo_quotient_77 (by decide) ?_
        refine lv_iload_n (pc := 79) hx hb dMo_quotient_79 rfl (lv_at hl 3 rfl) ?_
        refine lv_lconst (pc := 80) (v := lN 1) hx hb dMo_quotient_80 (by decide) ?_
        refine lv_iconst (pc := 81) (v := (nI 0)) hx hb dMo_quotient_81 (by decide) ?_
        refine fw_cV (pc := 82) (As := [.int (nI 18), .int (nI x9), .long (lN 1), .int (nI 0)]) (rest := []) ⟨hx, hb, hml, hown, hW⟩ (c_Mo_takeFrom (pa := 18) (pb := x9) (t9 := 1) (h9 := 0) hS hXb (by omega) (by omega) (by omega) (by decide) (by decide) (by rw [hxx, hxA, Nat.pow_zero]; omega)) (cwV 4 hW (kw_V lm_Mo_135 im_Mo_takeFrom se_Mo_takeFrom ini_Mo cd_Mo_takeFrom) rfl rfl rfl (by decide +kernel) ⟨Nat.le_of_ble_eq_true rfl, Nat.le_of_ble_eq_true rfl⟩) hK hw b0 rfl rfl hl.1 rfl (Nat.le_of_ble_eq_true rfl) dMo_quotient_82 ⟨Nat.le_of_ble_eq_true rfl, Nat.le_of_ble_eq_true rfl⟩ (fun v w209 H locs hq hw => ?_)
        obtain ⟨rfl, hS, hn9⟩ := hq
        have hoF : ∀ q, q < b ∨ b + 9 ≤ q → w209 q = w q := fun q h9 => (hn9 q h9).trans (hoF q h9)
        have hB7 : Int.natAbs b9 - r9 < nM ^ 64 := Nat.lt_of_le_of_lt (Nat.sub_le _ _) (Nat.lt_trans b97 p64)
        obtain ⟨X16, eX16⟩ : ∃ X_, X_ = va_up X14 (18) (X14 18 - 1 * X14 (x9) * nM ^ 0) := ⟨_, rfl⟩
        rw [← eX16] at hS
        have hv9 : X14 18 - 1 * X14 (x9) * nM ^ 0 = Int.natAbs b9 - r9 := (by rw [hxx, hxA, Nat.pow_zero]; omega)
        have hxx : X16 (x9) = r9 := by rw [eX16, up_o (by omega)]; exact hxx
        have hxy : X16 (yp) = Int.natAbs b9 := by rw [eX16, up_o (by omega)]; exact hxy
        have hxO : X16 (23) = 1 := by rw [eX16, up_o (by omega)]; exact hxO
        have hxQ : X16 (20) = q9 := by rw [eX16, up_o (by omega)]; exact hxQ
        have hxA : X16 (18) = Int.natAbs b9 - r9 := by rw [eX16]; exact up_s.trans hv9
        have hXb : ∀ p, X16 p < nM ^ 64 := fun p => by (rw [eX16]; unfold va_up; split; (rw [hv9]; exact hB7); exact hXb p)
        have hfr : ∀ p, p ≠ x9 → p < 18 ∨ 22 < p → X16 p = X p ∧ S15 p = S p := fun p h1 h2 => by rw [eX16, up_o (by omega)]; exact hfr p h1 h2
        have b0 : w209 b = some (.inr (10, [.int (nI (I 0)), .ref (b + 1), .ref (b + 2), .int (nI (I 3)), .ref (b + 3), .ref (b + 4), .int (nI (I 6)), .int (nI (I 7)), .ref (b + 5), .ref (b + 6), .int (nI (I 10)), .int (nI (I 11)), .int (nI (I 12)), .int (nI (I 13)), .ref (b + 7), .ref (b + 8), .int (nI (I 16)), .int (nI (I 17)), .int (nI (I 18)), .int (nI (I 19))])) := hS.1
        have b1 : w209 (b + 1) = some (.inl (cL, 1536, .inr (.inl (fun i => lN (mC X16 i))))) := hS.2.1
        have b2 : w209 (b + 2) = some (.inl (cI, 24, .inl (S15))) := hS.2.2.1
        refine W.eq (g2 := F0 m 85 ls []) rfl ?_
        refine lv_aload_n (pc := 85) hx hb dMo_quotient_85 rfl (lv_at hl 2 rfl) ?_
        refine lv_bipush (pc := 86) (v := (nI 18)) hx hb dMo_quotient_86 (by decide) ?_
        refine lv_iload_n (pc := 88) hx hb dMo_quotient_88 rfl (lv_at hl 3 rfl) ?_
        refine fw_cV (pc := 89) (As := [.int (nI 18), .int (nI x9)]) (rest := []) ⟨hx, hb, hml, hown, hW⟩ (c_Mo_copy (pa := 18) (pc9 := x9) hS hXb (by omega) (by omega) (by omega)) (cwV 2 hW (kw_V lm_Mo_143 im_Mo_copy se_Mo_copy ini_Mo cd_Mo_copy) rfl rfl rfl (by decide +kernel) ⟨Nat.le_of_ble_eq_true rfl, Nat.le_of_ble_eq_true rfl⟩) hK hw b0 rfl rfl hl.1 rfl (Nat.le_of_ble_eq_true rfl) dMo_quotient_89 ⟨Nat.le_of_ble_eq_true rfl, Nat.le_of_ble_eq_true rfl⟩ (fun v w210 H locs hq hw => ?_)
        obtain ⟨rfl, hS, hn9⟩ := hq
        have hoF : ∀ q, q < b ∨ b + 9 ≤ q → w210 q = w q := fun q h9 => (hn9 q h9).trans (hoF q h9)
        have hB9 : Int.natAbs b9 - r9 < nM ^ 64 := by rw [← hxA]; exact hXb _
        obtain ⟨X17, eX17⟩ : ∃ X_, X_ = va_up X16 (x9) (X16 (18)) := ⟨_, rfl⟩
        rw [← eX17] at hS
        have hv9 : X16 (18) = Int.natAbs b9 - r9 := hxA
        have hxy : X17 (yp) = Int.natAbs b9 := by rw [eX17, up_o (by omega)]; exact hxy
        have hxO : X17 (23) = 1 := by rw [eX17, up_o (by omega)]; exact hxO
        have hxQ : X17 (20) = q9 := by rw [eX17, up_o (by omega)]; exact hxQ
        have hxA : X17 (18) = Int.natAbs b9 - r9 := by rw [eX17, up_o (by omega)]; exact hxA
        have hxx : X17 (x9) = Int.natAbs b9 - r9 := by rw [eX17]; exact up_s.trans hv9
        have hXb : ∀ p, X17 p < nM ^ 64 := fun p => by (rw [eX17]; unfold va_up; split; (rw [hv9]; exact hB9); exact hXb p)
        have hfr : ∀ p, p ≠ x9 → p < 18 ∨ 22 < p → X17 p = X p ∧ S15 p = S p := fun p h1 h2 => by rw [eX17, up_o (by omega)]; exact hfr p h1 h2
        obtain ⟨S18, eS18⟩ : ∃ S_, S_ = va_up S15 (x9) (S15 (18)) := ⟨_, rfl⟩
        rw [← eS18] at hS
        have hv9 : (S15 (18) : Int32) = sg32 b9 := hsA
        have hsy : S18 (yp) = sg32 b9 := by rw [eS18, up_o (by omega)]; exact hsy
        have hsO : S18 (23) = nI 1 := by rw [eS18, up_o (by omega)]; exact hsO
        have hsQ : S18 (20) = nI 0 := by rw [eS18, up_o (by omega)]; exact hsQ
        have hsA : S18 (18) = sg32 b9 := by rw [eS18, up_o (by omega)]; exact hsA
        have hsx : S18 (x9) = sg32 b9 := by rw [eS18]; exact up_s.trans hv9
        have hfr : ∀ p, p ≠ x9 → p < 18 ∨ 22 < p → X17 p = X p ∧ S18 p = S p := fun p h1 h2 => by rw [eS18, up_o (by omega)]; exact hfr p h1 h2
        have b0 : w210 b = some (.inr (10, [.int (nI (I 0)), .ref (b + 1), .ref (b + 2), .int (nI (I 3)), .ref (b + 3), .ref (b + 4), .int (nI (I 6)), .int (nI (I 7)), .ref (b + 5), .ref (b + 6), .int (nI (I 10)), .int (nI (I 11)), .int (nI (I 12)), .int (nI (I 13)), .ref (b + 7), .ref (b + 8), .int (nI (I 16)), .int (nI (I 17)), .int (nI (I 18)), .int (nI (I 19))])) := hS.1
        have b1 : w210 (b + 1) = some (.inl (cL, 1536, .inr (.inl (fun i => lN (mC X17 i))))) := hS.2.1
        have b2 : w210 (b + 2) = some (.inl (cI, 24, .inl (S18))) := hS.2.2.1
        refine W.eq (g2 := F0 m 92 ls []) rfl ?_
        refine lv_aload_n (pc := 92) hx hb dMo_quotient_92 rfl (lv_at hl 2 rfl) ?_
        refine fw_get (pc := 93) (ci := 10) (v := .ref (b + 2)) (C := RMo) (T := TMo) (N := 20) hx hb hW in_Mo hown hK.1 hw b0 rfl 2 (by decide) (hW _ lf_Mo_13) (fun _ h => h) rfl dMo_quotient_93 ?_
        refine lv_iload_n (pc := 96) hx hb dMo_quotient_96 rfl (lv_at hl 3 rfl) ?_
        refine lv_iload (pc := 97) hx hb dMo_quotient_97 (lv_at hl 0 rfl) ?_
        refine lv_if_eq (pc := 99) (tgt := 111) hx hb dMo_quotient_99 (by decide) (fun hc => absurd hc (show ¬ nI 1 = 0 by decide)) (fun _ => ?_)
        refine lv_aload_n (pc := 102) hx hb dMo_quotient_102 rfl (lv_at hl 2 rfl) ?_
        refine fw_get (pc := 103) (ci := 10) (v := .ref (b + 2)) (C := RMo) (T := TMo) (N := 20) hx hb hW in_Mo hown hK.1 hw b0 rfl 2 (by decide) (hW _ lf_Mo_13) (fun _ h => h) rfl dMo_quotient_103 ?_
        refine lv_iload_n (pc := 106) hx hb dMo_quotient_106 rfl (lv_at hl 4 rfl) ?_
        refine fw_ialdN (pc := 107) (x := S18 (yp)) hx hb hK.1 hw 0 b2 rfl (yp) (by omega) (by decide) rfl dMo_quotient_107 ?_
        rw [show (S18 (yp) : Int32) = sg32 b9 from hsy]
        refine lv_goto (pc := 108) (tgt := 112) hx hb dMo_quotient_108 (by decide) ?_
        refine fw_iastN (pc := 112) (f2 := va_up S18 (x9) (sg32 b9)) hx hb hK.1 hw 0 b2 rfl (x9) (by omega) (by decide) (rfl) dMo_quotient_112 (fun H locs hw => ?_)
        obtain ⟨w211, e211⟩ : ∃ w_, w_ = fw_up w210 (b + 2) (.inl (cI, 24, .inl (va_up S18 (x9) (sg32 b9)))) := ⟨_, rfl⟩
        have hw : fw_H D kCl (fw_A w (sz)) s.heap w211 (sz) H locs := by rw [e211]; exact hw
        have b0_ : w211 (b) = some (.inr (10, [.int (nI (I 0)), .ref (b + 1), .ref (b + 2), .int (nI (I 3)), .ref (b + 3), .ref (b + 4), .int (nI (I 6)), .int (nI (I 7)), .ref (b + 5), .ref (b + 6), .int (nI (I 10)), .int (nI (I 11)), .int (nI (I 12)), .int (nI (I 13)), .ref (b + 7), .ref (b + 8), .int (nI (I 16)), .int (nI (I 17)), .int (nI (I 18)), .int (nI (I 19))])) := by rw [e211, fw_un (by omega)]; exact b0
        have b1_ : w211 (b + 1) = some (.inl (cL, 1536, .inr (.inl (fun i => lN (mC X17 i))))) := by rw [e211, fw_un (by omega)]; exact b1
        have b2_ : w211 (b + 2) = some (.inl (cI, 24, .inl (va_up S18 (x9) (sg32 b9)))) := by rw [e211]; exact fw_us _ _ _
        have b0 := b0_
        have b1 := b1_
        have b2 := b2_
        have hS : moS cI cL w211 b I K (va_up S18 (x9) (sg32 b9)) (mC X17) := moS.cs hS b1 b2 (fun q h1 h2 => by rw [e211, fw_un h2])
        have hoF : ∀ q, q < b ∨ b + 9 ≤ q → w211 q = w q := fun q h9 => by rw [e211, fw_un (by omega)]; exact hoF q h9
        obtain ⟨S19, eS19⟩ : ∃ S_, S_ = va_up S18 (x9) (sg32 b9) := ⟨_, rfl⟩
        rw [← eS19] at hS
        have hv9 : (sg32 b9 : Int32) = (-1) := (sg32_n hb90)
        have hsy : S19 (yp) = sg32 b9 := by rw [eS19, up_o (by omega)]; exact hsy
        have hsO : S19 (23) = nI 1 := by rw [eS19, up_o (by omega)]; exact hsO
        have hsQ : S19 (20) = nI 0 := by rw [eS19, up_o (by omega)]; exact hsQ
        have hsA : S19 (18) = sg32 b9 := by rw [eS19, up_o (by omega)]; exact hsA
        have hsx : S19 (x9) = (-1) := by rw [eS19]; exact up_s.trans hv9
        have hfr : ∀ p, p ≠ x9 → p < 18 ∨ 22 < p → X17 p = X p ∧ S19 p = S p := fun p h1 h2 => by rw [eS19, up_o (by omega)]; exact hfr p h1 h2
        have b0 : w211 b = some (.inr (10, [.int (nI (I 0)), .ref (b + 1), .ref (b + 2), .int (nI (I 3)), .ref (b + 3), .ref (b + 4), .int (nI (I 6)), .int (nI (I 7)), .ref (b + 5), .ref (b + 6), .int (nI (I 10)), .int (nI (I 11)), .int (nI (I 12)), .int (nI (I 13)), .ref (b + 7), .ref (b + 8), .int (nI (I 16)), .int (nI (I 17)), .int (nI (I 18)), .int (nI (I 19))])) := hS.1
        have b1 : w211 (b + 1) = some (.inl (cL, 1536, .inr (.inl (fun i => lN (mC X17 i))))) := hS.2.1
        have b2 : w211 (b + 2) = some (.inl (cI, 24, .inl (S19))) := hS.2.2.1
        have hrm : rmg a9 b9 = Int.natAbs b9 - r9 := by unfold rmg; rw [hza, hzb, ← hr9]; exact if_neg (fun h9 => h9.elim (by decide) (by omega))
        have hsp : sRst a9 b9 = (0, wv 1 (Int.natAbs b9 - r9)) := by unfold sRst; rw [if_neg hbne, hzb, hrm]
        refine lv_iconst (pc := 113) (v := (nI 0)) hx hb dMo_quotient_113 (by decide) ?_
        have hm0 : 0 < Int.natAbs b9 - r9 := by omega
        exact fw_iret (pc := 114) hx hb hr hlocks hw dMo_quotient_114 ⟨by rw [hsp], ⟨_, _, hS, hXb, fun _ => by rw [hsp]; exact ⟨by rw [wv_abs]; exact hxx, by rw [sgw_1 hm0]; exact hsx⟩, hfr⟩, hoF⟩
  · rw [show (sg32 b9 : Int32) = nI 0 from (sg32_z hb90)]
    refine lv_if_ne (pc := 6) (tgt := 11) hx hb dMo_quotient_6 (by decide) (fun hc => absurd hc (fun h => h (by decide))) (fun _ => ?_)
    refine lv_iconst (pc := 9) (v := (nI 2)) hx hb dMo_quotient_9 (by decide) ?_
    have hsp : sRst a9 b9 = (2, a9) := if_pos hb90
    exact fw_iret (pc := 10) hx hb hr hlocks hw dMo_quotient_10 ⟨by rw [hsp], ⟨_, _, hS, hXb, fun h9 => absurd h9 (by rw [hsp]; show ¬ (2 : Nat) = 0; decide), hfr⟩, hoF⟩
  · rw [show (sg32 b9 : Int32) = nI 1 from (sg32_p hb90)]
    refine lv_if_ne (pc := 6) (tgt := 11) hx hb dMo_quotient_6 (by decide) (fun _ => ?_) (fun hc => absurd hc (by decide))
    have hbne : ¬ b9 = 0 := by omega
    have hzb : sgz b9 = 0 := if_neg (by omega)
    refine lv_aload_n (pc := 11) hx hb dMo_quotient_11 rfl (lv_at hl 0 rfl) ?_
    refine fw_get (pc := 12) (ci := 10) (v := .ref (b + 2)) (C := RMo) (T := TMo) (N := 20) hx hb hW in_Mo hown hK.1 hw b0 rfl 2 (by decide) (hW _ lf_Mo_13) (fun _ h => h) rfl dMo_quotient_12 ?_
    refine lv_iload_n (pc := 15) hx hb dMo_quotient_15 rfl (lv_at hl 1 rfl) ?_
    refine fw_ialdN (pc := 16) (x := S (x9)) hx hb hK.1 hw 0 b2 rfl (x9) (by omega) (by decide) rfl dMo_quotient_16 ?_
    rw [show (S (x9) : Int32) = sg32 a9 from hsx]
    refine lv_aload_n (pc := 17) hx hb dMo_quotient_17 rfl (lv_at hl 0 rfl) ?_
    refine fw_get (pc := 18) (ci := 10) (v := .ref (b + 2)) (C := RMo) (T := TMo) (N := 20) hx hb hW in_Mo hown hK.1 hw b0 rfl 2 (by decide) (hW _ lf_Mo_13) (fun _ h => h) rfl dMo_quotient_18 ?_
    refine lv_iload_n (pc := 21) hx hb dMo_quotient_21 rfl (lv_at hl 2 rfl) ?_
    refine fw_ialdN (pc := 22) (x := S (yp)) hx hb hK.1 hw 0 b2 rfl (yp) (by omega) (by decide) rfl dMo_quotient_22 ?_
    rw [show (S (yp) : Int32) = sg32 b9 from hsy]
    rcases Int.lt_trichotomy a9 0 with ha90 | ha90 | ha90
    · rw [sg32_n ha90, sg32_p hb90]
      refine lv_imul (pc := 23) hx hb dMo_quotient_23 ?_
      rw [show (((-1) * nI 1) : Int32) = (-1) from (by decide)]
      refine lv_if_ge (pc := 24) (tgt := 31) hx hb dMo_quotient_24 (by decide) (fun hc => absurd hc (by decide)) (fun _ => ?_)
      have hza : sgz a9 = 1 := if_pos ha90
      refine lv_iconst (pc := 27) (v := (nI 1)) hx hb dMo_quotient_27 (by decide) ?_
      refine lv_goto (pc := 28) (tgt := 32) hx hb dMo_quotient_28 (by decide) ?_
      refine lv_istore (pc := 32) (lv' := [(4, .int (nI 1)), (0, .ref b), (1, .int (nI x9)), (2, .int (nI yp)), (3, .int (nI 1))]) hx hb dMo_quotient_32 hl (by decide) rfl (fun ls hl => ?_)
      refine lv_aload_n (pc := 34) hx hb dMo_quotient_34 rfl (lv_at hl 1 rfl) ?_
      refine lv_iload_n (pc := 35) hx hb dMo_quotient_35 rfl (lv_at hl 2 rfl) ?_
      refine lv_iload_n (pc := 36) hx hb dMo_quotient_36 rfl (lv_at hl 3 rfl) ?_
      have hxx0 := hxx
      have hxy0 := hxy
      refine fw_cV (pc := 37) (As := [.int (nI x9), .int (nI yp)]) (rest := []) ⟨hx, hb, hml, hown, hW⟩ (c_Mo_divide (pa := x9) (pb := yp) hS hXb (by omega) (by omega) (by omega) (by omega) (by omega) (by rw [hxy]; omega)) (cwV 2 hW (kw_V lm_Mo_159 im_Mo_divide se_Mo_divide ini_Mo cd_Mo_divide) rfl rfl rfl (by decide +kernel) ⟨Nat.le_of_ble_eq_true rfl, Nat.le_of_ble_eq_true rfl⟩) hK hw b0 rfl rfl hl.1 rfl (Nat.le_of_ble_eq_true rfl) dMo_quotient_37 ⟨Nat.le_of_ble_eq_true rfl, Nat.le_of_ble_eq_true rfl⟩ (fun v w212 H locs hq hw => ?_)
      obtain ⟨rfl, hS, hn9⟩ := hq
      have hoF : ∀ q, q < b ∨ b + 9 ≤ q → w212 q = w q := fun q h9 => (hn9 q h9).trans (hoF q h9)
      obtain ⟨q9, hq9⟩ : ∃ q9, q9 = Int.natAbs a9 / Int.natAbs b9 := ⟨_, rfl⟩
      obtain ⟨r9, hr9⟩ : ∃ r9, r9 = Int.natAbs a9 % Int.natAbs b9 := ⟨_, rfl⟩
      have hql : q9 ≤ Int.natAbs a9 := by rw [hq9]; exact Nat.div_le_self _ _
      have hrl : r9 < Int.natAbs b9 := by rw [hr9]; exact Nat.mod_lt _ (by omega)
      have hB9 : q9 < nM ^ 64 := Nat.lt_trans (Nat.lt_of_le_of_lt hql a97) p64
      have hB8 : r9 < nM ^ 64 := Nat.lt_trans (Nat.lt_trans hrl b97) p64
      obtain ⟨X20, eX20⟩ : ∃ X_, X_ = va_up X (20) (X (x9) / X (yp)) := ⟨_, rfl⟩
      rw [← eX20] at hS
      have hv9 : X (x9) / X (yp) = q9 := (by rw [hxx0, hxy0, hq9])
      have hxx : X20 (x9) = Int.natAbs a9 := by rw [eX20, up_o (by omega)]; exact hxx
      have hxy : X20 (yp) = Int.natAbs b9 := by rw [eX20, up_o (by omega)]; exact hxy
      have hxO : X20 (23) = 1 := by rw [eX20, up_o (by omega)]; exact hxO
      have hxQ : X20 (20) = q9 := by rw [eX20]; exact up_s.trans hv9
      have hXb : ∀ p, X20 p < nM ^ 64 := fun p => by (rw [eX20]; unfold va_up; split; (rw [hv9]; exact hB9); exact hXb p)
      have hfr : ∀ p, p ≠ x9 → p < 18 ∨ 22 < p → X20 p = X p ∧ S p = S p := fun p h1 h2 => by rw [eX20, up_o (by omega)]; exact hfr p h1 h2
      obtain ⟨X21, eX21⟩ : ∃ X_, X_ = va_up X20 (x9) (X (x9) % X (yp)) := ⟨_, rfl⟩
      rw [← eX21] at hS
      have hv9 : X (x9) % X (yp) = r9 := (by rw [hxx0, hxy0, hr9])
      have hxy : X21 (yp) = Int.natAbs b9 := by rw [eX21, up_o (by omega)]; exact hxy
      have hxO : X21 (23) = 1 := by rw [eX21, up_o (by omega)]; exact hxO
      have hxQ : X21 (20) = q9 := by rw [eX21, up_o (by omega)]; exact hxQ
      have hxx : X21 (x9) = r9 := by rw [eX21]; exact up_s.trans hv9
      have hXb : ∀ p, X21 p < nM ^ 64 := fun p => by (rw [eX21]; unfold va_up; split; (rw [hv9]; exact hB8); exact hXb p)
      have hfr : ∀ p, p ≠ x9 → p < 18 ∨ 22 < p → X21 p = X p ∧ S p = S p := fun p h1 h2 => by rw [eX21, up_o (by omega)]; exact hfr p h1 h2
      obtain ⟨S22, eS22⟩ : ∃ S_, S_ = va_up S (20) (nI 0) := ⟨_, rfl⟩
      rw [← eS22] at hS
      have hv9 : (nI 0 : Int32) = nI 0 := rfl
      have hsx : S22 (x9) = sg32 a9 := by rw [eS22, up_o (by omega)]; exact hsx
      have hsy : S22 (yp) = sg32 b9 := by rw [eS22, up_o (by omega)]; exact hsy
      have hsO : S22 (23) = nI 1 := by rw [eS22, up_o (by omega)]; exact hsO
      have hsQ : S22 (20) = nI 0 := by rw [eS22]; exact up_s.trans hv9
      have hfr : ∀ p, p ≠ x9 → p < 18 ∨ 22 < p → X21 p = X p ∧ S22 p = S p := fun p h1 h2 => by rw [eS22, up_o (by omega)]; exact hfr p h1 h2
      have b0 : w212 b = some (.inr (10, [.int (nI (I 0)), .ref (b + 1), .ref (b + 2), .int (nI (I 3)), .ref (b + 3), .ref (b + 4), .int (nI (I 6)), .int (nI (I 7)), .ref (b + 5), .ref (b + 6), .int (nI (I 10)), .int (nI (I 11)), .int (nI (I 12)), .int (nI (I 13)), .ref (b + 7), .ref (b + 8), .int (nI (I 16)), .int (nI (I 17)), .int (nI (I 18)), .int (nI (I 19))])) := hS.1
      have b1 : w212 (b + 1) = some (.inl (cL, 1536, .inr (.inl (fun i => lN (mC X21 i))))) := hS.2.1
      have b2 : w212 (b + 2) = some (.inl (cI, 24, .inl (S22))) := hS.2.2.1
      refine W.eq (g2 := F0 m 40 ls []) rfl ?_
      refine lv_aload_n (pc := 40) hx hb dMo_quotient_40 rfl (lv_at hl 1 rfl) ?_
      refine lv_iload_n (pc := 41) hx hb dMo_quotient_41 rfl (lv_at hl 2 rfl) ?_
      refine fw_cVR (pc := 42) (As := [.int (nI x9)]) (rest := []) ⟨hx, hb, hml, hown, hW⟩ (c_Mo_limbs (p0 := x9) hS hXb (by omega)) (cwV 1 hW (kw_V lm_Mo_128 im_Mo_limbs se_Mo_limbs ini_Mo cd_Mo_limbs) rfl rfl rfl (by decide +kernel) ⟨Nat.le_of_ble_eq_true rfl, Nat.le_of_ble_eq_true rfl⟩) hK hw b0 rfl rfl hl.1 rfl (Nat.le_of_ble_eq_true rfl) dMo_quotient_42 ⟨Nat.le_of_ble_eq_true rfl, Nat.le_of_ble_eq_true rfl⟩ (fun v hq => ?_)
      obtain ⟨nl9, rfl, hnl, hml9⟩ := hq
      rw [hxx] at hml9
      have hlz := ml_zero hml9
      refine W.eq (g2 := F0 m 45 ls [.int (nI nl9)]) rfl ?_
      rcases Nat.eq_zero_or_pos r9 with hr0 | hr0
      · rw [show (nI nl9 : Int32) = nI 0 from (by rw [hlz.mpr hr0])]
        refine lv_if_le (pc := 45) (tgt := 52) hx hb dMo_quotient_45 (by decide) (fun _ => ?_) (fun hc => absurd (show nI 0 ≤ 0 by decide) hc)
        refine lv_iconst (pc := 52) (v := (nI 0)) hx hb dMo_quotient_52 (by decide) ?_
        refine lv_istore (pc := 53) (lv' := [(5, .int (nI 0)), (4, .int (nI 1)), (0, .ref b), (1, .int (nI x9)), (2, .int (nI yp)), (3, .int (nI 1))]) hx hb dMo_quotient_53 hl (by decide) rfl (fun ls hl => ?_)
        refine lv_iload_n (pc := 55) hx hb dMo_quotient_55 rfl (lv_at hl 5 rfl) ?_
        refine lv_if_eq (pc := 56) (tgt := 115) hx hb dMo_quotient_56 (by decide) (fun hc => absurd hc (show ¬ nI 1 = 0 by decide)) (fun _ => ?_)
        refine lv_iload (pc := 59) hx hb dMo_quotient_59 (lv_at hl 1 rfl) ?_
        refine lv_if_eq (pc := 61) (tgt := 92) hx hb dMo_quotient_61 (by decide) (fun hc => absurd hc (show ¬ nI 1 = 0 by decide)) (fun _ => ?_)
        refine lv_iload (pc := 64) hx hb dMo_quotient_64 (lv_at hl 0 rfl) ?_
        refine lv_if_eq (pc := 66) (tgt := 92) hx hb dMo_quotient_66 (by decide) (fun _ => ?_) (fun hc => absurd (show nI 0 = 0 by decide) hc)
        refine lv_aload_n (pc := 92) hx hb dMo_quotient_92 rfl (lv_at hl 2 rfl) ?_
        refine fw_get (pc := 93) (ci := 10) (v := .ref (b + 2)) (C := RMo) (T := TMo) (N := 20) hx hb hW in_Mo hown hK.1 hw b0 rfl 2 (by decide) (hW _ lf_Mo_13) (fun _ h => h) rfl dMo_quotient_93 ?_
        refine lv_iload_n (pc := 96) hx hb dMo_quotient_96 rfl (lv_at hl 3 rfl) ?_
        refine lv_iload (pc := 97) hx hb dMo_quotient_97 (lv_at hl 0 rfl) ?_
        refine lv_if_eq (pc := 99) (tgt := 111) hx hb dMo_quotient_99 (by decide) (fun _ => ?_) (fun hc => absurd (show nI 0 = 0 by decide) hc)
        refine lv_iconst (pc := 111) (v := (nI 0)) hx hb dMo_quotient_111 (by decide) ?_
        refine fw_iastN (pc := 112) (f2 := va_up S22 (x9) (nI 0)) hx hb hK.1 hw 0 b2 rfl (x9) (by omega) (by decide) (rfl) dMo_quotient_112 (fun H locs hw => ?_)
        obtain ⟨w213, e213⟩ : ∃ w_, w_ = fw_up w212 (b + 2) (.inl (cI, 24, .inl (va_up S22 (x9) (nI 0)))) := ⟨_, rfl⟩
        have hw : fw_H D kCl (fw_A w (sz)) s.heap w213 (sz) H locs := by rw [e213]; exact hw
        have b0_ : w213 (b) = some (.inr (10, [.int (nI (I 0)), .ref (b + 1), .ref (b + 2), .int (nI (I 3)), .ref (b + 3), .ref (b + 4), .int (nI (I 6)), .int (nI (I 7)), .ref (b + 5), .ref (b + 6), .int (nI (I 10)), .int (nI (I 11)), .int (nI (I 12)), .int (nI (I 13)), .ref (b + 7), .ref (b + 8), .int (nI (I 16)), .int (nI (I 17)), .int (nI (I 18)), .int (nI (I 19))])) := by rw [e213, fw_un (by omega)]; exact b0
        have b1_ : w213 (b + 1) = some (.inl (cL, 1536, .inr (.inl (fun i => lN (mC X21 i))))) := by rw [e213, fw_un (by omega)]; exact b1
        have b2_ : w213 (b + 2) = some (.inl (cI, 24, .inl (va_up S22 (x9) (nI 0)))) := by rw [e213]; exact fw_us _ _ _
        have b0 := b0_
        have b1 := b1_
        have b2 := b2_
        have hS : moS cI cL w213 b I K (va_up S22 (x9) (nI 0)) (mC X21) := moS.cs hS b1 b2 (fun q h1 h2 => by rw [e213, fw_un h2])
        have hoF : ∀ q, q < b ∨ b + 9 ≤ q → w213 q = w q := fun q h9 => by rw [e213, fw_un (by omega)]; exact hoF q h9
        obtain ⟨S23, eS23⟩ : ∃ S_, S_ = va_up S22 (x9) (nI 0) := ⟨_, rfl⟩
        rw [← eS23] at hS
        have hv9 : (nI 0 : Int32) = nI 0 := rfl
        have hsy : S23 (yp) = sg32 b9 := by rw [eS23, up_o (by omega)]; exact hsy
        have hsO : S23 (23) = nI 1 := by rw [eS23, up_o (by omega)]; exact hsO
        have hsQ : S23 (20) = nI 0 := by rw [eS23, up_o (by omega)]; exact hsQ
        have hsx : S23 (x9) = nI 0 := by rw [eS23]; exact up_s.trans hv9
        have hfr : ∀ p, p ≠ x9 → p < 18 ∨ 22 < p → X21 p = X p ∧ S23 p = S p := fun p h1 h2 => by rw [eS23, up_o (by omega)]; exact hfr p h1 h2
        have b0 : w213 b = some (.inr (10, [.int (nI (I 0)), .ref (b + 1), .ref (b + 2), .int (nI (I 3)), .ref (b + 3), .ref (b + 4), .int (nI (I 6)), .int (nI (I 7)), .ref (b + 5), .ref (b + 6), .int (nI (I 10)), .int (nI (I 11)), .int (nI (I 12)), .int (nI (I 13)), .ref (b + 7), .ref (b + 8), .int (nI (I 16)), .int (nI (I 17)), .int (nI (I 18)), .int (nI (I 19))])) := hS.1
        have b1 : w213 (b + 1) = some (.inl (cL, 1536, .inr (.inl (fun i => lN (mC X21 i))))) := hS.2.1
        have b2 : w213 (b + 2) = some (.inl (cI, 24, .inl (S23))) := hS.2.2.1
        have hrm : rmg a9 b9 = r9 := by unfold rmg; rw [hza, hzb, ← hr9]; exact if_pos (Or.inr hr0)
        have hsp : sRst a9 b9 = (0, wv 0 (r9)) := by unfold sRst; rw [if_neg hbne, hzb, hrm]
        refine lv_iconst (pc := 113) (v := (nI 0)) hx hb dMo_quotient_113 (by decide) ?_
        have hm0 : r9 = 0 := hr0
        exact fw_iret (pc := 114) hx hb hr hlocks hw dMo_quotient_114 ⟨by rw [hsp], ⟨_, _, hS, hXb, fun _ => by rw [hsp]; exact ⟨by rw [wv_abs]; exact hxx, by rw [sgw_z hm0]; exact hsx⟩, hfr⟩, hoF⟩
      · refine lv_if_le (pc := 45) (tgt := 52) hx hb dMo_quotient_45 (by decide) (fun hc => absurd hc (nI_nle (Nat.pos_of_ne_zero (fun h9 => by have := hlz.mp h9; omega)) (by omega))) (fun _ => ?_)
        refine lv_iconst (pc := 48) (v := (nI 1)) hx hb dMo_quotient_48 (by decide) ?_
        refine lv_goto (pc := 49) (tgt := 53) hx hb dMo_quotient_49 (by decide) ?_
        refine lv_istore (pc := 53) (lv' := [(5, .int (nI 1)), (4, .int (nI 1)), (0, .ref b), (1, .int (nI x9)), (2, .int (nI yp)), (3, .int (nI 1))]) hx hb dMo_quotient_53 hl (by decide) rfl (fun ls hl => ?_)
        refine lv_iload_n (pc := 55) hx hb dMo_quotient_55 rfl (lv_at hl 5 rfl) ?_
        refine lv_if_eq (pc := 56) (tgt := 115) hx hb dMo_quotient_56 (by decide) (fun hc => absurd hc (show ¬ nI 1 = 0 by decide)) (fun _ => ?_)
        refine lv_iload (pc := 59) hx hb dMo_quotient_59 (lv_at hl 1 rfl) ?_
        refine lv_if_eq (pc := 61) (tgt := 92) hx hb dMo_quotient_61 (by decide) (fun hc => absurd hc (show ¬ nI 1 = 0 by decide)) (fun _ => ?_)
        refine lv_iload (pc := 64) hx hb dMo_quotient_64 (lv_at hl 0 rfl) ?_
        refine lv_if_eq (pc := 66) (tgt := 92) hx hb dMo_quotient_66 (by decide) (fun hc => absurd hc (show ¬ nI 1 = 0 by decide)) (fun _ => ?_)
        refine lv_aload_n (pc := 69) hx hb dMo_quotient_69 rfl (lv_at hl 2 rfl) ?_
        refine lv_iload_n (pc := 70) hx hb dMo_quotient_70 rfl (lv_at hl 4 rfl) ?_
        refine lv_bipush (pc := 71) (v := (nI 18)) hx hb dMo_quotient_71 (by decide) ?_
        refine fw_cV (pc := 73) (As := [.int (nI yp), .int (nI 18)]) (rest := []) ⟨hx, hb, hml, hown, hW⟩ (c_Mo_copy (pa := yp) (pc9 := 18) hS hXb (by omega) (by omega) (by omega)) (cwV 2 hW (kw_V lm_Mo_143 im_Mo_copy se_Mo_copy ini_Mo cd_Mo_copy) rfl rfl rfl (by decide +kernel) ⟨Nat.le_of_ble_eq_true rfl, Nat.le_of_ble_eq_true rfl⟩) hK hw b0 rfl rfl hl.1 rfl (Nat.le_of_ble_eq_true rfl) dMo_quotient_73 ⟨Nat.le_of_ble_eq_true rfl, Nat.le_of_ble_eq_true rfl⟩ (fun v w214 H locs hq hw => ?_)
        obtain ⟨rfl, hS, hn9⟩ := hq
        have hoF : ∀ q, q < b ∨ b + 9 ≤ q → w214 q = w q := fun q h9 => (hn9 q h9).trans (hoF q h9)
        have hB9 : Int.natAbs b9 < nM ^ 64 := by rw [← hxy]; exact hXb _
        obtain ⟨X24, eX24⟩ : ∃ X_, X_ = va_up X21 (18) (X21 (yp)) := ⟨_, rfl⟩
        rw [← eX24] at hS
        have hv9 : X21 (yp) = Int.natAbs b9 := hxy
        have hxx : X24 (x9) = r9 := by rw [eX24, up_o (by omega)]; exact hxx
        have hxy : X24 (yp) = Int.natAbs b9 := by rw [eX24, up_o (by omega)]; exact hxy
        have hxO : X24 (23) = 1 := by rw [eX24, up_o (by omega)]; exact hxO
        have hxQ : X24 (20) = q9 := by rw [eX24, up_o (by omega)]; exact hxQ
        have hxA : X24 (18) = Int.natAbs b9 := by rw [eX24]; exact up_s.trans hv9
        have hXb : ∀ p, X24 p < nM ^ 64 := fun p => by (rw [eX24]; unfold va_up; split; (rw [hv9]; exact hB9); exact hXb p)
        have hfr : ∀ p, p ≠ x9 → p < 18 ∨ 22 < p → X24 p = X p ∧ S22 p = S p := fun p h1 h2 => by rw [eX24, up_o (by omega)]; exact hfr p h1 h2
        obtain ⟨S25, eS25⟩ : ∃ S_, S_ = va_up S22 (18) (S22 (yp)) := ⟨_, rfl⟩
        rw [← eS25] at hS
        have hv9 : (S22 (yp) : Int32) = sg32 b9 := hsy
        have hsx : S25 (x9) = sg32 a9 := by rw [eS25, up_o (by omega)]; exact hsx
        have hsy : S25 (yp) = sg32 b9 := by rw [eS25, up_o (by omega)]; exact hsy
        have hsO : S25 (23) = nI 1 := by rw [eS25, up_o (by omega)]; exact hsO
        have hsQ : S25 (20) = nI 0 := by rw [eS25, up_o (by omega)]; exact hsQ
        have hsA : S25 (18) = sg32 b9 := by rw [eS25]; exact up_s.trans hv9
        have hfr : ∀ p, p ≠ x9 → p < 18 ∨ 22 < p → X24 p = X p ∧ S25 p = S p := fun p h1 h2 => by rw [eS25, up_o (by omega)]; exact hfr p h1 h2
        have b0 : w214 b = some (.inr (10, [.int (nI (I 0)), .ref (b + 1), .ref (b + 2), .int (nI (I 3)), .ref (b + 3), .ref (b + 4), .int (nI (I 6)), .int (nI (I 7)), .ref (b + 5), .ref (b + 6), .int (nI (I 10)), .int (nI (I 11)), .int (nI (I 12)), .int (nI (I 13)), .ref (b + 7), .ref (b + 8), .int (nI (I 16)), .int (nI (I 17)), .int (nI (I 18)), .int (nI (I 19))])) := hS.1
        have b1 : w214 (b + 1) = some (.inl (cL, 1536, .inr (.inl (fun i => lN (mC X24 i))))) := hS.2.1
        have b2 : w214 (b + 2) = some (.inl (cI, 24, .inl (S25))) := hS.2.2.1
        refine W.eq (g2 := F0 m 76 ls []) rfl ?_
        refine lv_aload_n (pc := 76) hx hb dMo_quotient_76 rfl (lv_at hl 2 rfl) ?_
        refine lv_bipush (pc := 77) (v := (nI 18)) hx hb dMo_quotient_77 (by decide) ?_
        refine lv_iload_n (pc := 79) hx hb dMo_quotient_79 rfl (lv_at hl 3 rfl) ?_
        refine lv_lconst (pc := 80) (v := lN 1) hx hb dMo_quotient_80 (by decide) ?_
        refine lv_iconst (pc := 81) (v := (nI 0)) hx hb dMo_quotient_81 (by decide) ?_
        refine fw_cV (pc := 82) (As := [.int (nI 18), .int (nI x9), .long (lN 1), .int (nI 0)]) (rest := []) ⟨hx, hb, hml, hown, hW⟩ (c_Mo_takeFrom (pa := 18) (pb := x9) (t9 := 1) (h9 := 0) hS hXb (by omega) (by omega) (by omega) (by decide) (by decide) (by rw [hxx, hxA, Nat.pow_zero]; omega)) (cwV 4 hW (kw_V lm_Mo_135 im_Mo_takeFrom se_Mo_takeFrom ini_Mo cd_Mo_takeFrom) rfl rfl rfl (by decide +kernel) ⟨Nat.le_of_ble_eq_true rfl, Nat.le_of_ble_eq_true rfl⟩) hK hw b0 rfl rfl hl.1 rfl (Nat.le_of_ble_eq_true rfl) dMo_quotient_82 ⟨Nat.le_of_ble_eq_true rfl, Nat.le_of_ble_eq_true rfl⟩ (fun v w215 H locs hq hw => ?_)
        obtain ⟨rfl, hS, hn9⟩ := hq
        have hoF : ∀ q, q < b ∨ b + 9 ≤ q → w215 q = w q := fun q h9 => (hn9 q h9).trans (hoF q h9)
        have hB7 : Int.natAbs b9 - r9 < nM ^ 64 := Nat.lt_of_le_of_lt (Nat.sub_le _ _) (Nat.lt_trans b97 p64)
        obtain ⟨X26, eX26⟩ : ∃ X_, X_ = va_up X24 (18) (X24 18 - 1 * X24 (x9) * nM ^ 0) := ⟨_, rfl⟩
        rw [← eX26] at hS
        have hv9 : X24 18 - 1 * X24 (x9) * nM ^ 0 = Int.natAbs b9 - r9 := (by rw [hxx, hxA, Nat.pow_zero]; omega)
        have hxx : X26 (x9) = r9 := by rw [eX26, up_o (by omega)]; exact hxx
        have hxy : X26 (yp) = Int.natAbs b9 := by rw [eX26, up_o (by omega)]; exact hxy
        have hxO : X26 (23) = 1 := by rw [eX26, up_o (by omega)]; exact hxO
        have hxQ : X26 (20) = q9 := by rw [eX26, up_o (by omega)]; exact hxQ
        have hxA : X26 (18) = Int.natAbs b9 - r9 := by rw [eX26]; exact up_s.trans hv9
        have hXb : ∀ p, X26 p < nM ^ 64 := fun p => by (rw [eX26]; unfold va_up; split; (rw [hv9]; exact hB7); exact hXb p)
        have hfr : ∀ p, p ≠ x9 → p < 18 ∨ 22 < p → X26 p = X p ∧ S25 p = S p := fun p h1 h2 => by rw [eX26, up_o (by omega)]; exact hfr p h1 h2
        have b0 : w215 b = some (.inr (10, [.int (nI (I 0)), .ref (b + 1), .ref (b + 2), .int (nI (I 3)), .ref (b + 3), .ref (b + 4), .int (nI (I 6)), .int (nI (I 7)), .ref (b + 5), .ref (b + 6), .int (nI (I 10)), .int (nI (I 11)), .int (nI (I 12)), .int (nI (I 13)), .ref (b + 7), .ref (b + 8), .int (nI (I 16)), .int (nI (I 17)), .int (nI (I 18)), .int (nI (I 19))])) := hS.1
        have b1 : w215 (b + 1) = some (.inl (cL, 1536, .inr (.inl (fun i => lN (mC X26 i))))) := hS.2.1
        have b2 : w215 (b + 2) = some (.inl (cI, 24, .inl (S25))) := hS.2.2.1
        refine W.eq (g2 := F0 m 85 ls []) rfl ?_
        refine lv_aload_n (pc := 85) hx hb dMo_quotient_85 rfl (lv_at hl 2 rfl) ?_
        refine lv_bipush (pc := 86) (v := (nI 18)) hx hb dMo_quotient_86 (by decide) ?_
        refine lv_iload_n (pc := 88) hx hb dMo_quotient_88 rfl (lv_at hl 3 rfl) ?_
        refine fw_cV (pc := 89) (As := [.int (nI 18), .int (nI x9)]) (rest := []) ⟨hx, hb, hml, hown, hW⟩ (c_Mo_copy (pa := 18) (pc9 := x9) hS hXb (by omega) (by omega) (by omega)) (cwV 2 hW (kw_V lm_Mo_143 im_Mo_copy se_Mo_copy ini_Mo cd_Mo_copy) rfl rfl rfl (by decide +kernel) ⟨Nat.le_of_ble_eq_true rfl, Nat.le_of_ble_eq_true rfl⟩) hK hw b0 rfl rfl hl.1 rfl (Nat.le_of_ble_eq_true rfl) dMo_quotient_89 ⟨Nat.le_of_ble_eq_true rfl, Nat.le_of_ble_eq_true rfl⟩ (fun v w216 H locs hq hw => ?_)
        obtain ⟨rfl, hS, hn9⟩ := hq
        have hoF : ∀ q, q < b ∨ b + 9 ≤ q → w216 q = w q := fun q h9 => (hn9 q h9).trans (hoF q h9)
        have hB9 : Int.natAbs b9 - r9 < nM ^ 64 := by rw [← hxA]; exact hXb _
        obtain ⟨X27, eX27⟩ : ∃ X_, X_ = va_up X26 (x9) (X26 (18)) := ⟨_, rfl⟩
        rw [← eX27] at hS
        have hv9 : X26 (18) = Int.natAbs b9 - r9 := hxA
        have hxy : X27 (yp) = Int.natAbs b9 := by rw [eX27, up_o (by omega)]; exact hxy
        have hxO : X27 (23) = 1 := by rw [eX27, up_o (by omega)]; exact hxO
        have hxQ : X27 (20) = q9 := by rw [eX27, up_o (by omega)]; exact hxQ
        have hxA : X27 (18) = Int.natAbs b9 - r9 := by rw [eX27, up_o (by omega)]; exact hxA
        have hxx : X27 (x9) = Int.natAbs b9 - r9 := by rw [eX27]; exact up_s.trans hv9
        have hXb : ∀ p, X27 p < nM ^ 64 := fun p => by (rw [eX27]; unfold va_up; split; (rw [hv9]; exact hB9); exact hXb p)
        have hfr : ∀ p, p ≠ x9 → p < 18 ∨ 22 < p → X27 p = X p ∧ S25 p = S p := fun p h1 h2 => by rw [eX27, up_o (by omega)]; exact hfr p h1 h2
        obtain ⟨S28, eS28⟩ : ∃ S_, S_ = va_up S25 (x9) (S25 (18)) := ⟨_, rfl⟩
        rw [← eS28] at hS
        have hv9 : (S25 (18) : Int32) = sg32 b9 := hsA
        have hsy : S28 (yp) = sg32 b9 := by rw [eS28, up_o (by omega)]; exact hsy
        have hsO : S28 (23) = nI 1 := by rw [eS28, up_o (by omega)]; exact hsO
        have hsQ : S28 (20) = nI 0 := by rw [eS28, up_o (by omega)]; exact hsQ
        have hsA : S28 (18) = sg32 b9 := by rw [eS28, up_o (by omega)]; exact hsA
        have hsx : S28 (x9) = sg32 b9 := by rw [eS28]; exact up_s.trans hv9
        have hfr : ∀ p, p ≠ x9 → p < 18 ∨ 22 < p → X27 p = X p ∧ S28 p = S p := fun p h1 h2 => by rw [eS28, up_o (by omega)]; exact hfr p h1 h2
        have b0 : w216 b = some (.inr (10, [.int (nI (I 0)), .ref (b + 1), .ref (b + 2), .int (nI (I 3)), .ref (b + 3), .ref (b + 4), .int (nI (I 6)), .int (nI (I 7)), .ref (b + 5), .ref (b + 6), .int (nI (I 10)), .int (nI (I 11)), .int (nI (I 12)), .int (nI (I 13)), .ref (b + 7), .ref (b + 8), .int (nI (I 16)), .int (nI (I 17)), .int (nI (I 18)), .int (nI (I 19))])) := hS.1
        have b1 : w216 (b + 1) = some (.inl (cL, 1536, .inr (.inl (fun i => lN (mC X27 i))))) := hS.2.1
        have b2 : w216 (b + 2) = some (.inl (cI, 24, .inl (S28))) := hS.2.2.1
        refine W.eq (g2 := F0 m 92 ls []) rfl ?_
        refine lv_aload_n (pc := 92) hx hb dMo_quotient_92 rfl (lv_at hl 2 rfl) ?_
        refine fw_get (pc := 93) (ci := 10) (v := .ref (b + 2)) (C := RMo) (T := TMo) (N := 20) hx hb hW in_Mo hown hK.1 hw b0 rfl 2 (by decide) (hW _ lf_Mo_13) (fun _ h => h) rfl dMo_quotient_93 ?_
        refine lv_iload_n (pc := 96) hx hb dMo_quotient_96 rfl (lv_at hl 3 rfl) ?_
        refine lv_iload (pc := 97) hx hb dMo_quotient_97 (lv_at hl 0 rfl) ?_
        refine lv_if_eq (pc := 99) (tgt := 111) hx hb dMo_quotient_99 (by decide) (fun hc => absurd hc (show ¬ nI 1 = 0 by decide)) (fun _ => ?_)
        refine lv_aload_n (pc := 102) hx hb dMo_quotient_102 rfl (lv_at hl 2 rfl) ?_
        refine fw_get (pc := 103) (ci := 10) (v := .ref (b + 2)) (C := RMo) (T := TMo) (N := 20) hx hb hW in_Mo hown hK.1 hw b0 rfl 2 (by decide) (hW _ lf_Mo_13) (fun _ h => h) rfl dMo_quotient_103 ?_
        refine lv_iload_n (pc := 106) hx hb dMo_quotient_106 rfl (lv_at hl 4 rfl) ?_
        refine fw_ialdN (pc := 107) (x := S28 (yp)) hx hb hK.1 hw 0 b2 rfl (yp) (by omega) (by decide) rfl dMo_quotient_107 ?_
        rw [show (S28 (yp) : Int32) = sg32 b9 from hsy]
        refine lv_goto (pc := 108) (tgt := 112) hx hb dMo_quotient_108 (by decide) ?_
        refine fw_iastN (pc := 112) (f2 := va_up S28 (x9) (sg32 b9)) hx hb hK.1 hw 0 b2 rfl (x9) (by omega) (by decide) (rfl) dMo_quotient_112 (fun H locs hw => ?_)
        obtain ⟨w217, e217⟩ : ∃ w_, w_ = fw_up w216 (b + 2) (.inl (cI, 24, .inl (va_up S28 (x9) (sg32 b9)))) := ⟨_, rfl⟩
        have hw : fw_H D kCl (fw_A w (sz)) s.heap w217 (sz) H locs := by rw [e217]; exact hw
        have b0_ : w217 (b) = some (.inr (10, [.int (nI (I 0)), .ref (b + 1), .ref (b + 2), .int (nI (I 3)), .ref (b + 3), .ref (b + 4), .int (nI (I 6)), .int (nI (I 7)), .ref (b + 5), .ref (b + 6), .int (nI (I 10)), .int (nI (I 11)), .int (nI (I 12)), .int (nI (I 13)), .ref (b + 7), .ref (b + 8), .int (nI (I 16)), .int (nI (I 17)), .int (nI (I 18)), .int (nI (I 19))])) := by rw [e217, fw_un (by omega)]; exact b0
        have b1_ : w217 (b + 1) = some (.inl (cL, 1536, .inr (.inl (fun i => lN (mC X27 i))))) := by rw [e217, fw_un (by omega)]; exact b1
        have b2_ : w217 (b + 2) = some (.inl (cI, 24, .inl (va_up S28 (x9) (sg32 b9)))) := by rw [e217]; exact fw_us _ _ _
        have b0 := b0_
        have b1 := b1_
        have b2 := b2_
        have hS : moS cI cL w217 b I K (va_up S28 (x9) (sg32 b9)) (mC X27) := moS.cs hS b1 b2 (fun q h1 h2 => by rw [e217, fw_un h2])
        have hoF : ∀ q, q < b ∨ b + 9 ≤ q → w217 q = w q := fun q h9 => by rw [e217, fw_un (by omega)]; exact hoF q h9
        obtain ⟨S29, eS29⟩ : ∃ S_, S_ = va_up S28 (x9) (sg32 b9) := ⟨_, rfl⟩
        rw [← eS29] at hS
        have hv9 : (sg32 b9 : Int32) = nI 1 := (sg32_p hb90)
        have hsy : S29 (yp) = sg32 b9 := by rw [eS29, up_o (by omega)]; exact hsy
        have hsO : S29 (23) = nI 1 := by rw [eS29, up_o (by omega)]; exact hsO
        have hsQ : S29 (20) = nI 0 := by rw [eS29, up_o (by omega)]; exact hsQ
        have hsA : S29 (18) = sg32 b9 := by rw [eS29, up_o (by omega)]; exact hsA
        have hsx : S29 (x9) = nI 1 := by rw [eS29]; exact up_s.trans hv9
        have hfr : ∀ p, p ≠ x9 → p < 18 ∨ 22 < p → X27 p = X p ∧ S29 p = S p := fun p h1 h2 => by rw [eS29, up_o (by omega)]; exact hfr p h1 h2
        have b0 : w217 b = some (.inr (10, [.int (nI (I 0)), .ref (b + 1), .ref (b + 2), .int (nI (I 3)), .ref (b + 3), .ref (b + 4), .int (nI (I 6)), .int (nI (I 7)), .ref (b + 5), .ref (b + 6), .int (nI (I 10)), .int (nI (I 11)), .int (nI (I 12)), .int (nI (I 13)), .ref (b + 7), .ref (b + 8), .int (nI (I 16)), .int (nI (I 17)), .int (nI (I 18)), .int (nI (I 19))])) := hS.1
        have b1 : w217 (b + 1) = some (.inl (cL, 1536, .inr (.inl (fun i => lN (mC X27 i))))) := hS.2.1
        have b2 : w217 (b + 2) = some (.inl (cI, 24, .inl (S29))) := hS.2.2.1
        have hrm : rmg a9 b9 = Int.natAbs b9 - r9 := by unfold rmg; rw [hza, hzb, ← hr9]; exact if_neg (fun h9 => h9.elim (by decide) (by omega))
        have hsp : sRst a9 b9 = (0, wv 0 (Int.natAbs b9 - r9)) := by unfold sRst; rw [if_neg hbne, hzb, hrm]
        refine lv_iconst (pc := 113) (v := (nI 0)) hx hb dMo_quotient_113 (by decide) ?_
        have hm0 : 0 < Int.natAbs b9 - r9 := by omega
        exact fw_iret (pc := 114) hx hb hr hlocks hw dMo_quotient_114 ⟨by rw [hsp], ⟨_, _, hS, hXb, fun _ => by rw [hsp]; exact ⟨by rw [wv_abs]; exact hxx, by rw [sgw_0 hm0]; exact hsx⟩, hfr⟩, hoF⟩
    · rw [sg32_z ha90, sg32_p hb90]
      refine lv_imul (pc := 23) hx hb dMo_quotient_23 ?_
      rw [show ((nI 0 * nI 1) : Int32) = nI 0 from (by decide)]
      refine lv_if_ge (pc := 24) (tgt := 31) hx hb dMo_quotient_24 (by decide) (fun _ => ?_) (fun hc => absurd (by decide) hc)
      have hza : sgz a9 = 0 := if_neg (by omega)
      refine lv_iconst (pc := 31) (v := (nI 0)) hx hb dMo_quotient_31 (by decide) ?_
      refine lv_istore (pc := 32) (lv' := [(4, .int (nI 0)), (0, .ref b), (1, .int (nI x9)), (2, .int (nI yp)), (3, .int (nI 1))]) hx hb dMo_quotient_32 hl (by decide) rfl (fun ls hl => ?_)
      refine lv_aload_n (pc := 34) hx hb dMo_quotient_34 rfl (lv_at hl 1 rfl) ?_
      refine lv_iload_n (pc := 35) hx hb dMo_quotient_35 rfl (lv_at hl 2 rfl) ?_
      refine lv_iload_n (pc := 36) hx hb dMo_quotient_36 rfl (lv_at hl 3 rfl) ?_
      have hxx0 := hxx
      have hxy0 := hxy
      refine fw_cV (pc := 37) (As := [.int (nI x9), .int (nI yp)]) (rest := []) ⟨hx, hb, hml, hown, hW⟩ (c_Mo_divide (pa := x9) (pb := yp) hS hXb (by omega) (by omega) (by omega) (by omega) (by omega) (by rw [hxy]; omega)) (cwV 2 hW (kw_V lm_Mo_159 im_Mo_divide se_Mo_divide ini_Mo cd_Mo_divide) rfl rfl rfl (by decide +kernel) ⟨Nat.le_of_ble_eq_true rfl, Nat.le_of_ble_eq_true rfl⟩) hK hw b0 rfl rfl hl.1 rfl (Nat.le_of_ble_eq_true rfl) dMo_quotient_37 ⟨Nat.le_of_ble_eq_true rfl, Nat.le_of_ble_eq_true rfl⟩ (fun v w218 H locs hq hw => ?_)
      obtain ⟨rfl, hS, hn9⟩ := hq
      have hoF : ∀ q, q < b ∨ b + 9 ≤ q → w218 q = w q := fun q h9 => (hn9 q h9).trans (hoF q h9)
      obtain ⟨q9, hq9⟩ : ∃ q9, q9 = Int.natAbs a9 / Int.natAbs b9 := ⟨_, rfl⟩
      obtain ⟨r9, hr9⟩ : ∃ r9, r9 = Int.natAbs a9 % Int.natAbs b9 := ⟨_, rfl⟩
      have hql : q9 ≤ Int.natAbs a9 := by rw [hq9]; exact Nat.div_le_self _ _
      have hrl : r9 < Int.natAbs b9 := by rw [hr9]; exact Nat.mod_lt _ (by omega)
      have hB9 : q9 < nM ^ 64 := Nat.lt_trans (Nat.lt_of_le_of_lt hql a97) p64
      have hB8 : r9 < nM ^ 64 := Nat.lt_trans (Nat.lt_trans hrl b97) p64
      obtain ⟨X30, eX30⟩ : ∃ X_, X_ = va_up X (20) (X (x9) / X (yp)) := ⟨_, rfl⟩
      rw [← eX30] at hS
      have hv9 : X (x9) / X (yp) = q9 := (by rw [hxx0, hxy0, hq9])
      have hxx : X30 (x9) = Int.natAbs a9 := by rw [eX30, up_o (by omega)]; exact hxx
      have hxy : X30 (yp) = Int.natAbs b9 := by rw [eX30, up_o (by omega)]; exact hxy
      have hxO : X30 (23) = 1 := by rw [eX30, up_o (by omega)]; exact hxO
      have hxQ : X30 (20) = q9 := by rw [eX30]; exact up_s.trans hv9
      have hXb : ∀ p, X30 p < nM ^ 64 := fun p => by (rw [eX30]; unfold va_up; split; (rw [hv9]; exact hB9); exact hXb p)
      have hfr : ∀ p, p ≠ x9 → p < 18 ∨ 22 < p → X30 p = X p ∧ S p = S p := fun p h1 h2 => by rw [eX30, up_o (by omega)]; exact hfr p h1 h2
      obtain ⟨X31, eX31⟩ : ∃ X_, X_ = va_up X30 (x9) (X (x9) % X (yp)) := ⟨_, rfl⟩
      rw [← eX31] at hS
      have hv9 : X (x9) % X (yp) = r9 := (by rw [hxx0, hxy0, hr9])
      have hxy : X31 (yp) = Int.natAbs b9 := by rw [eX31, up_o (by omega)]; exact hxy
      have hxO : X31 (23) = 1 := by rw [eX31, up_o (by omega)]; exact hxO
      have hxQ : X31 (20) = q9 := by rw [eX31, up_o (by omega)]; exact hxQ
      have hxx : X31 (x9) = r9 := by rw [eX31]; exact up_s.trans hv9
      have hXb : ∀ p, X31 p < nM ^ 64 := fun p => by (rw [eX31]; unfold va_up; split; (rw [hv9]; exact hB8); exact hXb p)
      have hfr : ∀ p, p ≠ x9 → p < 18 ∨ 22 < p → X31 p = X p ∧ S p = S p := fun p h1 h2 => by rw [eX31, up_o (by omega)]; exact hfr p h1 h2
      obtain ⟨S32, eS32⟩ : ∃ S_, S_ = va_up S (20) (nI 0) := ⟨_, rfl⟩
      rw [← eS32] at hS
      have hv9 : (nI 0 : Int32) = nI 0 := rfl
      have hsx : S32 (x9) = sg32 a9 := by rw [eS32, up_o (by omega)]; exact hsx
      have hsy : S32 (yp) = sg32 b9 := by rw [eS32, up_o (by omega)]; exact hsy
      have hsO : S32 (23) = nI 1 := by rw [eS32, up_o (by omega)]; exact hsO
      have hsQ : S32 (20) = nI 0 := by rw [eS32]; exact up_s.trans hv9
      have hfr : ∀ p, p ≠ x9 → p < 18 ∨ 22 < p → X31 p = X p ∧ S32 p = S p := fun p h1 h2 => by rw [eS32, up_o (by omega)]; exact hfr p h1 h2
      have b0 : w218 b = some (.inr (10, [.int (nI (I 0)), .ref (b + 1), .ref (b + 2), .int (nI (I 3)), .ref (b + 3), .ref (b + 4), .int (nI (I 6)), .int (nI (I 7)), .ref (b + 5), .ref (b + 6), .int (nI (I 10)), .int (nI (I 11)), .int (nI (I 12)), .int (nI (I 13)), .ref (b + 7), .ref (b + 8), .int (nI (I 16)), .int (nI (I 17)), .int (nI (I 18)), .int (nI (I 19))])) := hS.1
      have b1 : w218 (b + 1) = some (.inl (cL, 1536, .inr (.inl (fun i => lN (mC X31 i))))) := hS.2.1
      have b2 : w218 (b + 2) = some (.inl (cI, 24, .inl (S32))) := hS.2.2.1
      refine W.eq (g2 := F0 m 40 ls []) rfl ?_
      refine lv_aload_n (pc := 40) hx hb dMo_quotient_40 rfl (lv_at hl 1 rfl) ?_
      refine lv_iload_n (pc := 41) hx hb dMo_quotient_41 rfl (lv_at hl 2 rfl) ?_
      refine fw_cVR (pc := 42) (As := [.int (nI x9)]) (rest := []) ⟨hx, hb, hml, hown, hW⟩ (c_Mo_limbs (p0 := x9) hS hXb (by omega)) (cwV 1 hW (kw_V lm_Mo_128 im_Mo_limbs se_Mo_limbs ini_Mo cd_Mo_limbs) rfl rfl rfl (by decide +kernel) ⟨Nat.le_of_ble_eq_true rfl, Nat.le_of_ble_eq_true rfl⟩) hK hw b0 rfl rfl hl.1 rfl (Nat.le_of_ble_eq_true rfl) dMo_quotient_42 ⟨Nat.le_of_ble_eq_true rfl, Nat.le_of_ble_eq_true rfl⟩ (fun v hq => ?_)
      obtain ⟨nl9, rfl, hnl, hml9⟩ := hq
      rw [hxx] at hml9
      have hlz := ml_zero hml9
      refine W.eq (g2 := F0 m 45 ls [.int (nI nl9)]) rfl ?_
      rcases Nat.eq_zero_or_pos r9 with hr0 | hr0
      · rw [show (nI nl9 : Int32) = nI 0 from (by rw [hlz.mpr hr0])]
        refine lv_if_le (pc := 45) (tgt := 52) hx hb dMo_quotient_45 (by decide) (fun _ => ?_) (fun hc => absurd (show nI 0 ≤ 0 by decide) hc)
        refine lv_iconst (pc := 52) (v := (nI 0)) hx hb dMo_quotient_52 (by decide) ?_
        refine lv_istore (pc := 53) (lv' := [(5, .int (nI 0)), (4, .int (nI 0)), (0, .ref b), (1, .int (nI x9)), (2, .int (nI yp)), (3, .int (nI 1))]) hx hb dMo_quotient_53 hl (by decide) rfl (fun ls hl => ?_)
        refine lv_iload_n (pc := 55) hx hb dMo_quotient_55 rfl (lv_at hl 5 rfl) ?_
        refine lv_if_eq (pc := 56) (tgt := 115) hx hb dMo_quotient_56 (by decide) (fun hc => absurd hc (show ¬ nI 1 = 0 by decide)) (fun _ => ?_)
        refine lv_iload (pc := 59) hx hb dMo_quotient_59 (lv_at hl 1 rfl) ?_
        refine lv_if_eq (pc := 61) (tgt := 92) hx hb dMo_quotient_61 (by decide) (fun _ => ?_) (fun hc => absurd (show nI 0 = 0 by decide) hc)
        refine lv_aload_n (pc := 92) hx hb dMo_quotient_92 rfl (lv_at hl 2 rfl) ?_
        refine fw_get (pc := 93) (ci := 10) (v := .ref (b + 2)) (C := RMo) (T := TMo) (N := 20) hx hb hW in_Mo hown hK.1 hw b0 rfl 2 (by decide) (hW _ lf_Mo_13) (fun _ h => h) rfl dMo_quotient_93 ?_
        refine lv_iload_n (pc := 96) hx hb dMo_quotient_96 rfl (lv_at hl 3 rfl) ?_
        refine lv_iload (pc := 97) hx hb dMo_quotient_97 (lv_at hl 0 rfl) ?_
        refine lv_if_eq (pc := 99) (tgt := 111) hx hb dMo_quotient_99 (by decide) (fun _ => ?_) (fun hc => absurd (show nI 0 = 0 by decide) hc)
        refine lv_iconst (pc := 111) (v := (nI 0)) hx hb dMo_quotient_111 (by decide) ?_
        refine fw_iastN (pc := 112) (f2 := va_up S32 (x9) (nI 0)) hx hb hK.1 hw 0 b2 rfl (x9) (by omega) (by decide) (rfl) dMo_quotient_112 (fun H locs hw => ?_)
        obtain ⟨w219, e219⟩ : ∃ w_, w_ = fw_up w218 (b + 2) (.inl (cI, 24, .inl (va_up S32 (x9) (nI 0)))) := ⟨_, rfl⟩
        have hw : fw_H D kCl (fw_A w (sz)) s.heap w219 (sz) H locs := by rw [e219]; exact hw
        have b0_ : w219 (b) = some (.inr (10, [.int (nI (I 0)), .ref (b + 1), .ref (b + 2), .int (nI (I 3)), .ref (b + 3), .ref (b + 4), .int (nI (I 6)), .int (nI (I 7)), .ref (b + 5), .ref (b + 6), .int (nI (I 10)), .int (nI (I 11)), .int (nI (I 12)), .int (nI (I 13)), .ref (b + 7), .ref (b + 8), .int (nI (I 16)), .int (nI (I 17)), .int (nI (I 18)), .int (nI (I 19))])) := by rw [e219, fw_un (by omega)]; exact b0
        have b1_ : w219 (b + 1) = some (.inl (cL, 1536, .inr (.inl (fun i => lN (mC X31 i))))) := by rw [e219, fw_un (by omega)]; exact b1
        have b2_ : w219 (b + 2) = some (.inl (cI, 24, .inl (va_up S32 (x9) (nI 0)))) := by rw [e219]; exact fw_us _ _ _
        have b0 := b0_
        have b1 := b1_
        have b2 := b2_
        have hS : moS cI cL w219 b I K (va_up S32 (x9) (nI 0)) (mC X31) := moS.cs hS b1 b2 (fun q h1 h2 => by rw [e219, fw_un h2])
        have hoF : ∀ q, q < b ∨ b + 9 ≤ q → w219 q = w q := fun q h9 => by rw [e219, fw_un (by omega)]; exact hoF q h9
        obtain ⟨S33, eS33⟩ : ∃ S_, S_ = va_up S32 (x9) (nI 0) := ⟨_, rfl⟩
        rw [← eS33] at hS
        have hv9 : (nI 0 : Int32) = nI 0 := rfl
        have hsy : S33 (yp) = sg32 b9 := by rw [eS33, up_o (by omega)]; exact hsy
        have hsO : S33 (23) = nI 1 := by rw [eS33, up_o (by omega)]; exact hsO
        have hsQ : S33 (20) = nI 0 := by rw [eS33, up_o (by omega)]; exact hsQ
        have hsx : S33 (x9) = nI 0 := by rw [eS33]; exact up_s.trans hv9
        have hfr : ∀ p, p ≠ x9 → p < 18 ∨ 22 < p → X31 p = X p ∧ S33 p = S p := fun p h1 h2 => by rw [eS33, up_o (by omega)]; exact hfr p h1 h2
        have b0 : w219 b = some (.inr (10, [.int (nI (I 0)), .ref (b + 1), .ref (b + 2), .int (nI (I 3)), .ref (b + 3), .ref (b + 4), .int (nI (I 6)), .int (nI (I 7)), .ref (b + 5), .ref (b + 6), .int (nI (I 10)), .int (nI (I 11)), .int (nI (I 12)), .int (nI (I 13)), .ref (b + 7), .ref (b + 8), .int (nI (I 16)), .int (nI (I 17)), .int (nI (I 18)), .int (nI (I 19))])) := hS.1
        have b1 : w219 (b + 1) = some (.inl (cL, 1536, .inr (.inl (fun i => lN (mC X31 i))))) := hS.2.1
        have b2 : w219 (b + 2) = some (.inl (cI, 24, .inl (S33))) := hS.2.2.1
        have hrm : rmg a9 b9 = r9 := by unfold rmg; rw [hza, hzb, ← hr9]; exact if_pos (Or.inr hr0)
        have hsp : sRst a9 b9 = (0, wv 0 (r9)) := by unfold sRst; rw [if_neg hbne, hzb, hrm]
        refine lv_iconst (pc := 113) (v := (nI 0)) hx hb dMo_quotient_113 (by decide) ?_
        have hm0 : r9 = 0 := hr0
        exact fw_iret (pc := 114) hx hb hr hlocks hw dMo_quotient_114 ⟨by rw [hsp], ⟨_, _, hS, hXb, fun _ => by rw [hsp]; exact ⟨by rw [wv_abs]; exact hxx, by rw [sgw_z hm0]; exact hsx⟩, hfr⟩, hoF⟩
      · refine lv_if_le (pc := 45) (tgt := 52) hx hb dMo_quotient_45 (by decide) (fun hc => absurd hc (nI_nle (Nat.pos_of_ne_zero (fun h9 => by have := hlz.mp h9; omega)) (by omega))) (fun _ => ?_)
        exact absurd hr0 (by rw [hr9, ha90]; simp)
    · rw [sg32_p ha90, sg32_p hb90]
      refine lv_imul (pc := 23) hx hb dMo_quotient_23 ?_
      rw [show ((nI 1 * nI 1) : Int32) = nI 1 from (by decide)]
      refine lv_if_ge (pc := 24) (tgt := 31) hx hb dMo_quotient_24 (by decide) (fun _ => ?_) (fun hc => absurd (by decide) hc)
      have hza : sgz a9 = 0 := if_neg (by omega)
      refine lv_iconst (pc := 31) (v := (nI 0)) hx hb dMo_quotient_31 (by decide) ?_
      refine lv_istore (pc := 32) (lv' := [(4, .int (nI 0)), (0, .ref b), (1, .int (nI x9)), (2, .int (nI yp)), (3, .int (nI 1))]) hx hb dMo_quotient_32 hl (by decide) rfl (fun ls hl => ?_)
      refine lv_aload_n (pc := 34) hx hb dMo_quotient_34 rfl (lv_at hl 1 rfl) ?_
      refine lv_iload_n (pc := 35) hx hb dMo_quotient_35 rfl (lv_at hl 2 rfl) ?_
      refine lv_iload_n (pc := 36) hx hb dMo_quotient_36 rfl (lv_at hl 3 rfl) ?_
      have hxx0 := hxx
      have hxy0 := hxy
      refine fw_cV (pc := 37) (As := [.int (nI x9), .int (nI yp)]) (rest := []) ⟨hx, hb, hml, hown, hW⟩ (c_Mo_divide (pa := x9) (pb := yp) hS hXb (by omega) (by omega) (by omega) (by omega) (by omega) (by rw [hxy]; omega)) (cwV 2 hW (kw_V lm_Mo_159 im_Mo_divide se_Mo_divide ini_Mo cd_Mo_divide) rfl rfl rfl (by decide +kernel) ⟨Nat.le_of_ble_eq_true rfl, Nat.le_of_ble_eq_true rfl⟩) hK hw b0 rfl rfl hl.1 rfl (Nat.le_of_ble_eq_true rfl) dMo_quotient_37 ⟨Nat.le_of_ble_eq_true rfl, Nat.le_of_ble_eq_true rfl⟩ (fun v w220 H locs hq hw => ?_)
      obtain ⟨rfl, hS, hn9⟩ := hq
      have hoF : ∀ q, q < b ∨ b + 9 ≤ q → w220 q = w q := fun q h9 => (hn9 q h9).trans (hoF q h9)
      obtain ⟨q9, hq9⟩ : ∃ q9, q9 = Int.natAbs a9 / Int.natAbs b9 := ⟨_, rfl⟩
      obtain ⟨r9, hr9⟩ : ∃ r9, r9 = Int.natAbs a9 % Int.natAbs b9 := ⟨_, rfl⟩
      have hql : q9 ≤ Int.natAbs a9 := by rw [hq9]; exact Nat.div_le_self _ _
      have hrl : r9 < Int.natAbs b9 := by rw [hr9]; exact Nat.mod_lt _ (by omega)
      have hB9 : q9 < nM ^ 64 := Nat.lt_trans (Nat.lt_of_le_of_lt hql a97) p64
      have hB8 : r9 < nM ^ 64 := Nat.lt_trans (Nat.lt_trans hrl b97) p64
      obtain ⟨X34, eX34⟩ : ∃ X_, X_ = va_up X (20) (X (x9) / X (yp)) := ⟨_, rfl⟩
      rw [← eX34] at hS
      have hv9 : X (x9) / X (yp) = q9 := (by rw [hxx0, hxy0, hq9])
      have hxx : X34 (x9) = Int.natAbs a9 := by rw [eX34, up_o (by omega)]; exact hxx
      have hxy : X34 (yp) = Int.natAbs b9 := by rw [eX34, up_o (by omega)]; exact hxy
      have hxO : X34 (23) = 1 := by rw [eX34, up_o (by omega)]; exact hxO
      have hxQ : X34 (20) = q9 := by rw [eX34]; exact up_s.trans hv9
      have hXb : ∀ p, X34 p < nM ^ 64 := fun p => by (rw [eX34]; unfold va_up; split; (rw [hv9]; exact hB9); exact hXb p)
      have hfr : ∀ p, p ≠ x9 → p < 18 ∨ 22 < p → X34 p = X p ∧ S p = S p := fun p h1 h2 => by rw [eX34, up_o (by omega)]; exact hfr p h1 h2
      obtain ⟨X35, eX35⟩ : ∃ X_, X_ = va_up X34 (x9) (X (x9) % X (yp)) := ⟨_, rfl⟩
      rw [← eX35] at hS
      have hv9 : X (x9) % X (yp) = r9 := (by rw [hxx0, hxy0, hr9])
      have hxy : X35 (yp) = Int.natAbs b9 := by rw [eX35, up_o (by omega)]; exact hxy
      have hxO : X35 (23) = 1 := by rw [eX35, up_o (by omega)]; exact hxO
      have hxQ : X35 (20) = q9 := by rw [eX35, up_o (by omega)]; exact hxQ
      have hxx : X35 (x9) = r9 := by rw [eX35]; exact up_s.trans hv9
      have hXb : ∀ p, X35 p < nM ^ 64 := fun p => by (rw [eX35]; unfold va_up; split; (rw [hv9]; exact hB8); exact hXb p)
      have hfr : ∀ p, p ≠ x9 → p < 18 ∨ 22 < p → X35 p = X p ∧ S p = S p := fun p h1 h2 => by rw [eX35, up_o (by omega)]; exact hfr p h1 h2
      obtain ⟨S36, eS36⟩ : ∃ S_, S_ = va_up S (20) (nI 0) := ⟨_, rfl⟩
      rw [← eS36] at hS
      have hv9 : (nI 0 : Int32) = nI 0 := rfl
      have hsx : S36 (x9) = sg32 a9 := by rw [eS36, up_o (by omega)]; exact hsx
      have hsy : S36 (yp) = sg32 b9 := by rw [eS36, up_o (by omega)]; exact hsy
      have hsO : S36 (23) = nI 1 := by rw [eS36, up_o (by omega)]; exact hsO
      have hsQ : S36 (20) = nI 0 := by rw [eS36]; exact up_s.trans hv9
      have hfr : ∀ p, p ≠ x9 → p < 18 ∨ 22 < p → X35 p = X p ∧ S36 p = S p := fun p h1 h2 => by rw [eS36, up_o (by omega)]; exact hfr p h1 h2
      have b0 : w220 b = some (.inr (10, [.int (nI (I 0)), .ref (b + 1), .ref (b + 2), .int (nI (I 3)), .ref (b + 3), .ref (b + 4), .int (nI (I 6)), .int (nI (I 7)), .ref (b + 5), .ref (b + 6), .int (nI (I 10)), .int (nI (I 11)), .int (nI (I 12)), .int (nI (I 13)), .ref (b + 7), .ref (b + 8), .int (nI (I 16)), .int (nI (I 17)), .int (nI (I 18)), .int (nI (I 19))])) := hS.1
      have b1 : w220 (b + 1) = some (.inl (cL, 1536, .inr (.inl (fun i => lN (mC X35 i))))) := hS.2.1
      have b2 : w220 (b + 2) = some (.inl (cI, 24, .inl (S36))) := hS.2.2.1
      refine W.eq (g2 := F0 m 40 ls []) rfl ?_
      refine lv_aload_n (pc := 40) hx hb dMo_quotient_40 rfl (lv_at hl 1 rfl) ?_
      refine lv_iload_n (pc := 41) hx hb dMo_quotient_41 rfl (lv_at hl 2 rfl) ?_
      refine fw_cVR (pc := 42) (As := [.int (nI x9)]) (rest := []) ⟨hx, hb, hml, hown, hW⟩ (c_Mo_limbs (p0 := x9) hS hXb (by omega)) (cwV 1 hW (kw_V lm_Mo_128 im_Mo_limbs se_Mo_limbs ini_Mo cd_Mo_limbs) rfl rfl rfl (by decide +kernel) ⟨Nat.le_of_ble_eq_true rfl, Nat.le_of_ble_eq_true rfl⟩) hK hw b0 rfl rfl hl.1 rfl (Nat.le_of_ble_eq_true rfl) dMo_quotient_42 ⟨Nat.le_of_ble_eq_true rfl, Nat.le_of_ble_eq_true rfl⟩ (fun v hq => ?_)
      obtain ⟨nl9, rfl, hnl, hml9⟩ := hq
      rw [hxx] at hml9
      have hlz := ml_zero hml9
      refine W.eq (g2 := F0 m 45 ls [.int (nI nl9)]) rfl ?_
      rcases Nat.eq_zero_or_pos r9 with hr0 | hr0
      · rw [show (nI nl9 : Int32) = nI 0 from (by rw [hlz.mpr hr0])]
        refine lv_if_le (pc := 45) (tgt := 52) hx hb dMo_quotient_45 (by decide) (fun _ => ?_) (fun hc => absurd (show nI 0 ≤ 0 by decide) hc)
        refine lv_iconst (pc := 52) (v := (nI 0)) hx hb dMo_quotient_52 (by decide) ?_
        refine lv_istore (pc := 53) (lv' := [(5, .int (nI 0)), (4, .int (nI 0)), (0, .ref b), (1, .int (nI x9)), (2, .int (nI yp)), (3, .int (nI 1))]) hx hb dMo_quotient_53 hl (by decide) rfl (fun ls hl => ?_)
        refine lv_iload_n (pc := 55) hx hb dMo_quotient_55 rfl (lv_at hl 5 rfl) ?_
        refine lv_if_eq (pc := 56) (tgt := 115) hx hb dMo_quotient_56 (by decide) (fun hc => absurd hc (show ¬ nI 1 = 0 by decide)) (fun _ => ?_)
        refine lv_iload (pc := 59) hx hb dMo_quotient_59 (lv_at hl 1 rfl) ?_
        refine lv_if_eq (pc := 61) (tgt := 92) hx hb dMo_quotient_61 (by decide) (fun _ => ?_) (fun hc => absurd (show nI 0 = 0 by decide) hc)
        refine lv_aload_n (pc := 92) hx hb dMo_quotient_92 rfl (lv_at hl 2 rfl) ?_
        refine fw_get (pc := 93) (ci := 10) (v := .ref (b + 2)) (C := RMo) (T := TMo) (N := 20) hx hb hW in_Mo hown hK.1 hw b0 rfl 2 (by decide) (hW _ lf_Mo_13) (fun _ h => h) rfl dMo_quotient_93 ?_
        refine lv_iload_n (pc := 96) hx hb dMo_quotient_96 rfl (lv_at hl 3 rfl) ?_
        refine lv_iload (pc := 97) hx hb dMo_quotient_97 (lv_at hl 0 rfl) ?_
        refine lv_if_eq (pc := 99) (tgt := 111) hx hb dMo_quotient_99 (by decide) (fun _ => ?_) (fun hc => absurd (show nI 0 = 0 by decide) hc)
        refine lv_iconst (pc := 111) (v := (nI 0)) hx hb dMo_quotient_111 (by decide) ?_
        refine fw_iastN (pc := 112) (f2 := va_up S36 (x9) (nI 0)) hx hb hK.1 hw 0 b2 rfl (x9) (by omega) (by decide) (rfl) dMo_quotient_112 (fun H locs hw => ?_)
        obtain ⟨w221, e221⟩ : ∃ w_, w_ = fw_up w220 (b + 2) (.inl (cI, 24, .inl (va_up S36 (x9) (nI 0)))) := ⟨_, rfl⟩
        have hw : fw_H D kCl (fw_A w (sz)) s.heap w221 (sz) H locs := by rw [e221]; exact hw
        have b0_ : w221 (b) = some (.inr (10, [.int (nI (I 0)), .ref (b + 1), .ref (b + 2), .int (nI (I 3)), .ref (b + 3), .ref (b + 4), .int (nI (I 6)), .int (nI (I 7)), .ref (b + 5), .ref (b + 6), .int (nI (I 10)), .int (nI (I 11)), .int (nI (I 12)), .int (nI (I 13)), .ref (b + 7), .ref (b + 8), .int (nI (I 16)), .int (nI (I 17)), .int (nI (I 18)), .int (nI (I 19))])) := by rw [e221, fw_un (by omega)]; exact b0
        have b1_ : w221 (b + 1) = some (.inl (cL, 1536, .inr (.inl (fun i => lN (mC X35 i))))) := by rw [e221, fw_un (by omega)]; exact b1
        have b2_ : w221 (b + 2) = some (.inl (cI, 24, .inl (va_up S36 (x9) (nI 0)))) := by rw [e221]; exact fw_us _ _ _
        have b0 := b0_
        have b1 := b1_
        have b2 := b2_
        have hS : moS cI cL w221 b I K (va_up S36 (x9) (nI 0)) (mC X35) := moS.cs hS b1 b2 (fun q h1 h2 => by rw [e221, fw_un h2])
        have hoF : ∀ q, q < b ∨ b + 9 ≤ q → w221 q = w q := fun q h9 => by rw [e221, fw_un (by omega)]; exact hoF q h9
        obtain ⟨S37, eS37⟩ : ∃ S_, S_ = va_up S36 (x9) (nI 0) := ⟨_, rfl⟩
        rw [← eS37] at hS
        have hv9 : (nI 0 : Int32) = nI 0 := rfl
        have hsy : S37 (yp) = sg32 b9 := by rw [eS37, up_o (by omega)]; exact hsy
        have hsO : S37 (23) = nI 1 := by rw [eS37, up_o (by omega)]; exact hsO
        have hsQ : S37 (20) = nI 0 := by rw [eS37, up_o (by omega)]; exact hsQ
        have hsx : S37 (x9) = nI 0 := by rw [eS37]; exact up_s.trans hv9
        have hfr : ∀ p, p ≠ x9 → p < 18 ∨ 22 < p → X35 p = X p ∧ S37 p = S p := fun p h1 h2 => by rw [eS37, up_o (by omega)]; exact hfr p h1 h2
        have b0 : w221 b = some (.inr (10, [.int (nI (I 0)), .ref (b + 1), .ref (b + 2), .int (nI (I 3)), .ref (b + 3), .ref (b + 4), .int (nI (I 6)), .int (nI (I 7)), .ref (b + 5), .ref (b + 6), .int (nI (I 10)), .int (nI (I 11)), .int (nI (I 12)), .int (nI (I 13)), .ref (b + 7), .ref (b + 8), .int (nI (I 16)), .int (nI (I 17)), .int (nI (I 18)), .int (nI (I 19))])) := hS.1
        have b1 : w221 (b + 1) = some (.inl (cL, 1536, .inr (.inl (fun i => lN (mC X35 i))))) := hS.2.1
        have b2 : w221 (b + 2) = some (.inl (cI, 24, .inl (S37))) := hS.2.2.1
        have hrm : rmg a9 b9 = r9 := by unfold rmg; rw [hza, hzb, ← hr9]; exact if_pos (Or.inr hr0)
        have hsp : sRst a9 b9 = (0, wv 0 (r9)) := by unfold sRst; rw [if_neg hbne, hzb, hrm]
        refine lv_iconst (pc := 113) (v := (nI 0)) hx hb dMo_quotient_113 (by decide) ?_
        have hm0 : r9 = 0 := hr0
        exact fw_iret (pc := 114) hx hb hr hlocks hw dMo_quotient_114 ⟨by rw [hsp], ⟨_, _, hS, hXb, fun _ => by rw [hsp]; exact ⟨by rw [wv_abs]; exact hxx, by rw [sgw_z hm0]; exact hsx⟩, hfr⟩, hoF⟩
      · refine lv_if_le (pc := 45) (tgt := 52) hx hb dMo_quotient_45 (by decide) (fun hc => absurd hc (nI_nle (Nat.pos_of_ne_zero (fun h9 => by have := hlz.mp h9; omega)) (by omega))) (fun _ => ?_)
        refine lv_iconst (pc := 48) (v := (nI 1)) hx hb dMo_quotient_48 (by decide) ?_
        refine lv_goto (pc := 49) (tgt := 53) hx hb dMo_quotient_49 (by decide) ?_
        refine lv_istore (pc := 53) (lv' := [(5, .int (nI 1)), (4, .int (nI 0)), (0, .ref b), (1, .int (nI x9)), (2, .int (nI yp)), (3, .int (nI 1))]) hx hb dMo_quotient_53 hl (by decide) rfl (fun ls hl => ?_)
        refine lv_iload_n (pc := 55) hx hb dMo_quotient_55 rfl (lv_at hl 5 rfl) ?_
        refine lv_if_eq (pc := 56) (tgt := 115) hx hb dMo_quotient_56 (by decide) (fun hc => absurd hc (show ¬ nI 1 = 0 by decide)) (fun _ => ?_)
        refine lv_iload (pc := 59) hx hb dMo_quotient_59 (lv_at hl 1 rfl) ?_
        refine lv_if_eq (pc := 61) (tgt := 92) hx hb dMo_quotient_61 (by decide) (fun _ => ?_) (fun hc => absurd (show nI 0 = 0 by decide) hc)
        refine lv_aload_n (pc := 92) hx hb dMo_quotient_92 rfl (lv_at hl 2 rfl) ?_
        refine fw_get (pc := 93) (ci := 10) (v := .ref (b + 2)) (C := RMo) (T := TMo) (N := 20) hx hb hW in_Mo hown hK.1 hw b0 rfl 2 (by decide) (hW _ lf_Mo_13) (fun _ h => h) rfl dMo_quotient_93 ?_
        refine lv_iload_n (pc := 96) hx hb dMo_quotient_96 rfl (lv_at hl 3 rfl) ?_
        refine lv_iload (pc := 97) hx hb dMo_quotient_97 (lv_at hl 0 rfl) ?_
        refine lv_if_eq (pc := 99) (tgt := 111) hx hb dMo_quotient_99 (by decide) (fun hc => absurd hc (show ¬ nI 1 = 0 by decide)) (fun _ => ?_)
        refine lv_aload_n (pc := 102) hx hb dMo_quotient_102 rfl (lv_at hl 2 rfl) ?_
        refine fw_get (pc := 103) (ci := 10) (v := .ref (b + 2)) (C := RMo) (T := TMo) (N := 20) hx hb hW in_Mo hown hK.1 hw b0 rfl 2 (by decide) (hW _ lf_Mo_13) (fun _ h => h) rfl dMo_quotient_103 ?_
        refine lv_iload_n (pc := 106) hx hb dMo_quotient_106 rfl (lv_at hl 4 rfl) ?_
        refine fw_ialdN (pc := 107) (x := S36 (yp)) hx hb hK.1 hw 0 b2 rfl (yp) (by omega) (by decide) rfl dMo_quotient_107 ?_
        rw [show (S36 (yp) : Int32) = sg32 b9 from hsy]
        refine lv_goto (pc := 108) (tgt := 112) hx hb dMo_quotient_108 (by decide) ?_
        refine fw_iastN (pc := 112) (f2 := va_up S36 (x9) (sg32 b9)) hx hb hK.1 hw 0 b2 rfl (x9) (by omega) (by decide) (rfl) dMo_quotient_112 (fun H locs hw => ?_)
        obtain ⟨w222, e222⟩ : ∃ w_, w_ = fw_up w220 (b + 2) (.inl (cI, 24, .inl (va_up S36 (x9) (sg32 b9)))) := ⟨_, rfl⟩
        have hw : fw_H D kCl (fw_A w (sz)) s.heap w222 (sz) H locs := by rw [e222]; exact hw
        have b0_ : w222 (b) = some (.inr (10, [.int (nI (I 0)), .ref (b + 1), .ref (b + 2), .int (nI (I 3)), .ref (b + 3), .ref (b + 4), .int (nI (I 6)), .int (nI (I 7)), .ref (b + 5), .ref (b + 6), .int (nI (I 10)), .int (nI (I 11)), .int (nI (I 12)), .int (nI (I 13)), .ref (b + 7), .ref (b + 8), .int (nI (I 16)), .int (nI (I 17)), .int (nI (I 18)), .int (nI (I 19))])) := by rw [e222, fw_un (by omega)]; exact b0
        have b1_ : w222 (b + 1) = some (.inl (cL, 1536, .inr (.inl (fun i => lN (mC X35 i))))) := by rw [e222, fw_un (by omega)]; exact b1
        have b2_ : w222 (b + 2) = some (.inl (cI, 24, .inl (va_up S36 (x9) (sg32 b9)))) := by rw [e222]; exact fw_us _ _ _
        have b0 := b0_
        have b1 := b1_
        have b2 := b2_
        have hS : moS cI cL w222 b I K (va_up S36 (x9) (sg32 b9)) (mC X35) := moS.cs hS b1 b2 (fun q h1 h2 => by rw [e222, fw_un h2])
        have hoF : ∀ q, q < b ∨ b + 9 ≤ q → w222 q = w q := fun q h9 => by rw [e222, fw_un (by omega)]; exact hoF q h9
        obtain ⟨S38, eS38⟩ : ∃ S_, S_ = va_up S36 (x9) (sg32 b9) := ⟨_, rfl⟩
        rw [← eS38] at hS
        have hv9 : (sg32 b9 : Int32) = nI 1 := (sg32_p hb90)
        have hsy : S38 (yp) = sg32 b9 := by rw [eS38, up_o (by omega)]; exact hsy
        have hsO : S38 (23) = nI 1 := by rw [eS38, up_o (by omega)]; exact hsO
        have hsQ : S38 (20) = nI 0 := by rw [eS38, up_o (by omega)]; exact hsQ
        have hsx : S38 (x9) = nI 1 := by rw [eS38]; exact up_s.trans hv9
        have hfr : ∀ p, p ≠ x9 → p < 18 ∨ 22 < p → X35 p = X p ∧ S38 p = S p := fun p h1 h2 => by rw [eS38, up_o (by omega)]; exact hfr p h1 h2
        have b0 : w222 b = some (.inr (10, [.int (nI (I 0)), .ref (b + 1), .ref (b + 2), .int (nI (I 3)), .ref (b + 3), .ref (b + 4), .int (nI (I 6)), .int (nI (I 7)), .ref (b + 5), .ref (b + 6), .int (nI (I 10)), .int (nI (I 11)), .int (nI (I 12)), .int (nI (I 13)), .ref (b + 7), .ref (b + 8), .int (nI (I 16)), .int (nI (I 17)), .int (nI (I 18)), .int (nI (I 19))])) := hS.1
        have b1 : w222 (b + 1) = some (.inl (cL, 1536, .inr (.inl (fun i => lN (mC X35 i))))) := hS.2.1
        have b2 : w222 (b + 2) = some (.inl (cI, 24, .inl (S38))) := hS.2.2.1
        have hrm : rmg a9 b9 = r9 := by unfold rmg; rw [hza, hzb, ← hr9]; exact if_pos (Or.inl rfl)
        have hsp : sRst a9 b9 = (0, wv 0 (r9)) := by unfold sRst; rw [if_neg hbne, hzb, hrm]
        refine lv_iconst (pc := 113) (v := (nI 0)) hx hb dMo_quotient_113 (by decide) ?_
        have hm0 : 0 < r9 := by omega
        exact fw_iret (pc := 114) hx hb hr hlocks hw dMo_quotient_114 ⟨by rw [hsp], ⟨_, _, hS, hXb, fun _ => by rw [hsp]; exact ⟨by rw [wv_abs]; exact hxx, by rw [sgw_0 hm0]; exact hsx⟩, hfr⟩, hoF⟩

set_option maxHeartbeats 4000000 in
set_option maxRecDepth 100000 in
theorem c_Mo_quotientQ {b : Nat} {I : Nat → Nat} {K : Nat → Nat → Nat} {S : Nat → Int32} {X : Nat → Nat} (hS : moS cI cL w b I K S (mC X)) (hX : ∀ p, X p < nM ^ 64) {x9 : Nat} {yp : Nat} (hyp : yp < 10) (hyx : yp ≠ x9) {a9 b9 : Int} (hx9 : x9 + 1 ≤ 10) (h1x : X 23 = 1) (h1s : S 23 = nI 1) (rx : X (x9) = Int.natAbs a9 ∧ S (x9) = sg32 a9) (a97 : Int.natAbs a9 < 2 ^ 768) (ry : X (yp) = Int.natAbs b9 ∧ S (yp) = sg32 b9) (b97 : Int.natAbs b9 < 2 ^ 768) : fw_C l yMo_quotient (Cond.code yMo_quotient cMo_quotient 6 (some FieldType.int) :: kWs) ({ frames := 2, cells := 0, slots := 0, locals := 60 } : Room) D kCl (kty cI cL cQ) z [.ref b, .int (nI x9), .int (nI yp), .int (nI 0)] (sz) w 0 0 (fun v w' => v = some (.int (nI (sQuo a9 b9).1)) ∧ (∃ S2 X2, moS cI cL w' b I K S2 (mC X2) ∧ (∀ p, X2 p < nM ^ 64) ∧ ((sQuo a9 b9).1 = 0 → X2 x9 = Int.natAbs (sQuo a9 b9).2 ∧ S2 x9 = sg32 (sQuo a9 b9).2) ∧ ∀ p, p ≠ x9 → p < 18 ∨ 22 < p → X2 p = X p ∧ S2 p = S p) ∧ ∀ q, q < b ∨ b + 9 ≤ q → w' q = w q) := by
  refine fw_ofW (cc := cMo_quotient) (maxL := 6) (ret := (some FieldType.int)) (by decide) rfl (Nat.le_of_ble_eq_true rfl) ?_
  intro p e s m args below meth c hx hb hr hts hown hlocks hname hml hK H ls hw hl
  have hW : ∀ w ∈ kWs, w.before args s = true := fun w h => hts w (List.mem_cons_of_mem _ h)
  have hown : s.vm.findClass RMo = some m.cls := hown
  have hl : lv_has ls 6 [(0, .ref b), (1, .int (nI x9)), (2, .int (nI yp)), (3, .int (nI 0))] := hl
  have b0 : w b = some (.inr (10, [.int (nI (I 0)), .ref (b + 1), .ref (b + 2), .int (nI (I 3)), .ref (b + 3), .ref (b + 4), .int (nI (I 6)), .int (nI (I 7)), .ref (b + 5), .ref (b + 6), .int (nI (I 10)), .int (nI (I 11)), .int (nI (I 12)), .int (nI (I 13)), .ref (b + 7), .ref (b + 8), .int (nI (I 16)), .int (nI (I 17)), .int (nI (I 18)), .int (nI (I 19))])) := hS.1
  have b1 : w (b + 1) = some (.inl (cL, 1536, .inr (.inl (fun i => lN (mC X i))))) := hS.2.1
  have b2 : w (b + 2) = some (.inl (cI, 24, .inl (S))) := hS.2.2.1
  have b09 := b0
  have b29 := b2
  obtain ⟨hxx, hsx⟩ := rx
  obtain ⟨hxy, hsy⟩ := ry
  have hxO := h1x
  have hsO := h1s
  have hXb := hX
  have hfr : ∀ p, p ≠ x9 → p < 18 ∨ 22 < p → X p = X p ∧ S p = S p := fun p _ _ => ⟨rfl, rfl⟩
  have hoF : ∀ q, q < b ∨ b + 9 ≤ q → w q = w q := fun q _ => rfl
  have p64 : 2 ^ 768 < nM ^ 64 := by decide +kernel
  refine lv_aload_n (pc := 0) hx hb dMo_quotient_0 rfl (lv_at hl 0 rfl) ?_
  refine fw_get (pc := 1) (ci := 10) (v := .ref (b + 2)) (C := RMo) (T := TMo) (N := 20) hx hb hW in_Mo hown hK.1 hw b0 rfl 2 (by decide) (hW _ lf_Mo_13) (fun _ h => h) rfl dMo_quotient_1 ?_
  refine lv_iload_n (pc := 4) hx hb dMo_quotient_4 rfl (lv_at hl 2 rfl) ?_
  refine fw_ialdN (pc := 5) (x := S (yp)) hx hb hK.1 hw 0 b2 rfl (yp) (by omega) (by decide) rfl dMo_quotient_5 ?_
  rw [show (S (yp) : Int32) = sg32 b9 from hsy]
  rcases Int.lt_trichotomy b9 0 with hb90 | hb90 | hb90
  · rw [show (sg32 b9 : Int32) = (-1) from (sg32_n hb90)]
    refine lv_if_ne (pc := 6) (tgt := 11) hx hb dMo_quotient_6 (by decide) (fun _ => ?_) (fun hc => absurd hc (by decide))
    have hbne : ¬ b9 = 0 := by omega
    have hzb : sgz b9 = 1 := if_pos hb90
    refine lv_aload_n (pc := 11) hx hb dMo_quotient_11 rfl (lv_at hl 0 rfl) ?_
    refine fw_get (pc := 12) (ci := 10) (v := .ref (b + 2)) (C := RMo) (T := TMo) (N := 20) hx hb hW in_Mo hown hK.1 hw b0 rfl 2 (by decide) (hW _ lf_Mo_13) (fun _ h => h) rfl dMo_quotient_12 ?_
    refine lv_iload_n (pc := 15) hx hb dMo_quotient_15 rfl (lv_at hl 1 rfl) ?_
    refine fw_ialdN (pc := 16) (x := S (x9)) hx hb hK.1 hw 0 b2 rfl (x9) (by omega) (by decide) rfl dMo_quotient_16 ?_
    rw [show (S (x9) : Int32) = sg32 a9 from hsx]
    refine lv_aload_n (pc := 17) hx hb dMo_quotient_17 rfl (lv_at hl 0 rfl) ?_
    refine fw_get (pc := 18) (ci := 10) (v := .ref (b + 2)) (C := RMo) (T := TMo) (N := 20) hx hb hW in_Mo hown hK.1 hw b0 rfl 2 (by decide) (hW _ lf_Mo_13) (fun _ h => h) rfl dMo_quotient_18 ?_
    refine lv_iload_n (pc := 21) hx hb dMo_quotient_21 rfl (lv_at hl 2 rfl) ?_
    refine fw_ialdN (pc := 22) (x := S (yp)) hx hb hK.1 hw 0 b2 rfl (yp) (by omega) (by decide) rfl dMo_quotient_22 ?_
    rw [show (S (yp) : Int32) = sg32 b9 from hsy]
    rcases Int.lt_trichotomy a9 0 with ha90 | ha90 | ha90
    · rw [sg32_n ha90, sg32_n hb90]
      refine lv_imul (pc := 23) hx hb dMo_quotient_23 ?_
      rw [show (((-1) * (-1)) : Int32) = nI 1 from (by decide)]
      refine lv_if_ge (pc := 24) (tgt := 31) hx hb dMo_quotient_24 (by decide) (fun _ => ?_) (fun hc => absurd (by decide) hc)
      have hza : sgz a9 = 1 := if_pos ha90
      refine lv_iconst (pc := 31) (v := (nI 0)) hx hb dMo_quotient_31 (by decide) ?_
      refine lv_istore (pc := 32) (lv' := [(4, .int (nI 0)), (0, .ref b), (1, .int (nI x9)), (2, .int (nI yp)), (3, .int (nI 0))]) hx hb dMo_quotient_32 hl (by decide) rfl (fun ls hl => ?_)
      refine lv_aload_n (pc := 34) hx hb dMo_quotient_34 rfl (lv_at hl 1 rfl) ?_
      refine lv_iload_n (pc := 35) hx hb dMo_quotient_35 rfl (lv_at hl 2 rfl) ?_
      refine lv_iload_n (pc := 36) hx hb dMo_quotient_36 rfl (lv_at hl 3 rfl) ?_
      have hxx0 := hxx
      have hxy0 := hxy
      refine fw_cV (pc := 37) (As := [.int (nI x9), .int (nI yp)]) (rest := []) ⟨hx, hb, hml, hown, hW⟩ (c_Mo_divide (pa := x9) (pb := yp) hS hXb (by omega) (by omega) (by omega) (by omega) (by omega) (by rw [hxy]; omega)) (cwV 2 hW (kw_V lm_Mo_159 im_Mo_divide se_Mo_divide ini_Mo cd_Mo_divide) rfl rfl rfl (by decide +kernel) ⟨Nat.le_of_ble_eq_true rfl, Nat.le_of_ble_eq_true rfl⟩) hK hw b0 rfl rfl hl.1 rfl (Nat.le_of_ble_eq_true rfl) dMo_quotient_37 ⟨Nat.le_of_ble_eq_true rfl, Nat.le_of_ble_eq_true rfl⟩ (fun v w201 H locs hq hw => ?_)
      obtain ⟨rfl, hS, hn9⟩ := hq
      have hoF : ∀ q, q < b ∨ b + 9 ≤ q → w201 q = w q := fun q h9 => (hn9 q h9).trans (hoF q h9)
      obtain ⟨q9, hq9⟩ : ∃ q9, q9 = Int.natAbs a9 / Int.natAbs b9 := ⟨_, rfl⟩
      obtain ⟨r9, hr9⟩ : ∃ r9, r9 = Int.natAbs a9 % Int.natAbs b9 := ⟨_, rfl⟩
      have hql : q9 ≤ Int.natAbs a9 := by rw [hq9]; exact Nat.div_le_self _ _
      have hrl : r9 < Int.natAbs b9 := by rw [hr9]; exact Nat.mod_lt _ (by omega)
      have hB9 : q9 < nM ^ 64 := Nat.lt_trans (Nat.lt_of_le_of_lt hql a97) p64
      have hB8 : r9 < nM ^ 64 := Nat.lt_trans (Nat.lt_trans hrl b97) p64
      obtain ⟨X39, eX39⟩ : ∃ X_, X_ = va_up X (20) (X (x9) / X (yp)) := ⟨_, rfl⟩
      rw [← eX39] at hS
      have hv9 : X (x9) / X (yp) = q9 := (by rw [hxx0, hxy0, hq9])
      have hxx : X39 (x9) = Int.natAbs a9 := by rw [eX39, up_o (by omega)]; exact hxx
      have hxy : X39 (yp) = Int.natAbs b9 := by rw [eX39, up_o (by omega)]; exact hxy
      have hxO : X39 (23) = 1 := by rw [eX39, up_o (by omega)]; exact hxO
      have hxQ : X39 (20) = q9 := by rw [eX39]; exact up_s.trans hv9
      have hXb : ∀ p, X39 p < nM ^ 64 := fun p => by (rw [eX39]; unfold va_up; split; (rw [hv9]; exact hB9); exact hXb p)
      have hfr : ∀ p, p ≠ x9 → p < 18 ∨ 22 < p → X39 p = X p ∧ S p = S p := fun p h1 h2 => by rw [eX39, up_o (by omega)]; exact hfr p h1 h2
      obtain ⟨X40, eX40⟩ : ∃ X_, X_ = va_up X39 (x9) (X (x9) % X (yp)) := ⟨_, rfl⟩
      rw [← eX40] at hS
      have hv9 : X (x9) % X (yp) = r9 := (by rw [hxx0, hxy0, hr9])
      have hxy : X40 (yp) = Int.natAbs b9 := by rw [eX40, up_o (by omega)]; exact hxy
      have hxO : X40 (23) = 1 := by rw [eX40, up_o (by omega)]; exact hxO
      have hxQ : X40 (20) = q9 := by rw [eX40, up_o (by omega)]; exact hxQ
      have hxx : X40 (x9) = r9 := by rw [eX40]; exact up_s.trans hv9
      have hXb : ∀ p, X40 p < nM ^ 64 := fun p => by (rw [eX40]; unfold va_up; split; (rw [hv9]; exact hB8); exact hXb p)
      have hfr : ∀ p, p ≠ x9 → p < 18 ∨ 22 < p → X40 p = X p ∧ S p = S p := fun p h1 h2 => by rw [eX40, up_o (by omega)]; exact hfr p h1 h2
      obtain ⟨S41, eS41⟩ : ∃ S_, S_ = va_up S (20) (nI 0) := ⟨_, rfl⟩
      rw [← eS41] at hS
      have hv9 : (nI 0 : Int32) = nI 0 := rfl
      have hsx : S41 (x9) = sg32 a9 := by rw [eS41, up_o (by omega)]; exact hsx
      have hsy : S41 (yp) = sg32 b9 := by rw [eS41, up_o (by omega)]; exact hsy
      have hsO : S41 (23) = nI 1 := by rw [eS41, up_o (by omega)]; exact hsO
      have hsQ : S41 (20) = nI 0 := by rw [eS41]; exact up_s.trans hv9
      have hfr : ∀ p, p ≠ x9 → p < 18 ∨ 22 < p → X40 p = X p ∧ S41 p = S p := fun p h1 h2 => by rw [eS41, up_o (by omega)]; exact hfr p h1 h2
      have b0 : w201 b = some (.inr (10, [.int (nI (I 0)), .ref (b + 1), .ref (b + 2), .int (nI (I 3)), .ref (b + 3), .ref (b + 4), .int (nI (I 6)), .int (nI (I 7)), .ref (b + 5), .ref (b + 6), .int (nI (I 10)), .int (nI (I 11)), .int (nI (I 12)), .int (nI (I 13)), .ref (b + 7), .ref (b + 8), .int (nI (I 16)), .int (nI (I 17)), .int (nI (I 18)), .int (nI (I 19))])) := hS.1
      have b1 : w201 (b + 1) = some (.inl (cL, 1536, .inr (.inl (fun i => lN (mC X40 i))))) := hS.2.1
      have b2 : w201 (b + 2) = some (.inl (cI, 24, .inl (S41))) := hS.2.2.1
      refine W.eq (g2 := F0 m 40 ls []) rfl ?_
      refine lv_aload_n (pc := 40) hx hb dMo_quotient_40 rfl (lv_at hl 1 rfl) ?_
      refine lv_iload_n (pc := 41) hx hb dMo_quotient_41 rfl (lv_at hl 2 rfl) ?_
      refine fw_cVR (pc := 42) (As := [.int (nI x9)]) (rest := []) ⟨hx, hb, hml, hown, hW⟩ (c_Mo_limbs (p0 := x9) hS hXb (by omega)) (cwV 1 hW (kw_V lm_Mo_128 im_Mo_limbs se_Mo_limbs ini_Mo cd_Mo_limbs) rfl rfl rfl (by decide +kernel) ⟨Nat.le_of_ble_eq_true rfl, Nat.le_of_ble_eq_true rfl⟩) hK hw b0 rfl rfl hl.1 rfl (Nat.le_of_ble_eq_true rfl) dMo_quotient_42 ⟨Nat.le_of_ble_eq_true rfl, Nat.le_of_ble_eq_true rfl⟩ (fun v hq => ?_)
      obtain ⟨nl9, rfl, hnl, hml9⟩ := hq
      rw [hxx] at hml9
      have hlz := ml_zero hml9
      refine W.eq (g2 := F0 m 45 ls [.int (nI nl9)]) rfl ?_
      rcases Nat.eq_zero_or_pos r9 with hr0 | hr0
      · rw [show (nI nl9 : Int32) = nI 0 from (by rw [hlz.mpr hr0])]
        refine lv_if_le (pc := 45) (tgt := 52) hx hb dMo_quotient_45 (by decide) (fun _ => ?_) (fun hc => absurd (show nI 0 ≤ 0 by decide) hc)
        refine lv_iconst (pc := 52) (v := (nI 0)) hx hb dMo_quotient_52 (by decide) ?_
        refine lv_istore (pc := 53) (lv' := [(5, .int (nI 0)), (4, .int (nI 0)), (0, .ref b), (1, .int (nI x9)), (2, .int (nI yp)), (3, .int (nI 0))]) hx hb dMo_quotient_53 hl (by decide) rfl (fun ls hl => ?_)
        refine lv_iload_n (pc := 55) hx hb dMo_quotient_55 rfl (lv_at hl 5 rfl) ?_
        refine lv_if_eq (pc := 56) (tgt := 115) hx hb dMo_quotient_56 (by decide) (fun _ => ?_) (fun hc => absurd (show nI 0 = 0 by decide) hc)
        refine lv_iload (pc := 115) hx hb dMo_quotient_115 (lv_at hl 1 rfl) ?_
        refine lv_if_eq (pc := 117) (tgt := 133) hx hb dMo_quotient_117 (by decide) (fun _ => ?_) (fun hc => absurd (show nI 0 = 0 by decide) hc)
        refine lv_aload_n (pc := 133) hx hb dMo_quotient_133 rfl (lv_at hl 2 rfl) ?_
        refine lv_bipush (pc := 134) (v := (nI 20)) hx hb dMo_quotient_134 (by decide) ?_
        refine lv_iload_n (pc := 136) hx hb dMo_quotient_136 rfl (lv_at hl 3 rfl) ?_
        refine fw_cV (pc := 137) (As := [.int (nI 20), .int (nI x9)]) (rest := []) ⟨hx, hb, hml, hown, hW⟩ (c_Mo_copy (pa := 20) (pc9 := x9) hS hXb (by omega) (by omega) (by omega)) (cwV 2 hW (kw_V lm_Mo_143 im_Mo_copy se_Mo_copy ini_Mo cd_Mo_copy) rfl rfl rfl (by decide +kernel) ⟨Nat.le_of_ble_eq_true rfl, Nat.le_of_ble_eq_true rfl⟩) hK hw b0 rfl rfl hl.1 rfl (Nat.le_of_ble_eq_true rfl) dMo_quotient_137 ⟨Nat.le_of_ble_eq_true rfl, Nat.le_of_ble_eq_true rfl⟩ (fun v w202 H locs hq hw => ?_)
        obtain ⟨rfl, hS, hn9⟩ := hq
        have hoF : ∀ q, q < b ∨ b + 9 ≤ q → w202 q = w q := fun q h9 => (hn9 q h9).trans (hoF q h9)
        have hB9 : q9 < nM ^ 64 := by rw [← hxQ]; exact hXb _
        obtain ⟨X42, eX42⟩ : ∃ X_, X_ = va_up X40 (x9) (X40 (20)) := ⟨_, rfl⟩
        rw [← eX42] at hS
        have hv9 : X40 (20) = q9 := hxQ
        have hxy : X42 (yp) = Int.natAbs b9 := by rw [eX42, up_o (by omega)]; exact hxy
        have hxO : X42 (23) = 1 := by rw [eX42, up_o (by omega)]; exact hxO
        have hxQ : X42 (20) = q9 := by rw [eX42, up_o (by omega)]; exact hxQ
        have hxx : X42 (x9) = q9 := by rw [eX42]; exact up_s.trans hv9
        have hXb : ∀ p, X42 p < nM ^ 64 := fun p => by (rw [eX42]; unfold va_up; split; (rw [hv9]; exact hB9); exact hXb p)
        have hfr : ∀ p, p ≠ x9 → p < 18 ∨ 22 < p → X42 p = X p ∧ S41 p = S p := fun p h1 h2 => by rw [eX42, up_o (by omega)]; exact hfr p h1 h2
        obtain ⟨S43, eS43⟩ : ∃ S_, S_ = va_up S41 (x9) (S41 (20)) := ⟨_, rfl⟩
        rw [← eS43] at hS
        have hv9 : (S41 (20) : Int32) = nI 0 := hsQ
        have hsy : S43 (yp) = sg32 b9 := by rw [eS43, up_o (by omega)]; exact hsy
        have hsO : S43 (23) = nI 1 := by rw [eS43, up_o (by omega)]; exact hsO
        have hsQ : S43 (20) = nI 0 := by rw [eS43, up_o (by omega)]; exact hsQ
        have hsx : S43 (x9) = nI 0 := by rw [eS43]; exact up_s.trans hv9
        have hfr : ∀ p, p ≠ x9 → p < 18 ∨ 22 < p → X42 p = X p ∧ S43 p = S p := fun p h1 h2 => by rw [eS43, up_o (by omega)]; exact hfr p h1 h2
        have b0 : w202 b = some (.inr (10, [.int (nI (I 0)), .ref (b + 1), .ref (b + 2), .int (nI (I 3)), .ref (b + 3), .ref (b + 4), .int (nI (I 6)), .int (nI (I 7)), .ref (b + 5), .ref (b + 6), .int (nI (I 10)), .int (nI (I 11)), .int (nI (I 12)), .int (nI (I 13)), .ref (b + 7), .ref (b + 8), .int (nI (I 16)), .int (nI (I 17)), .int (nI (I 18)), .int (nI (I 19))])) := hS.1
        have b1 : w202 (b + 1) = some (.inl (cL, 1536, .inr (.inl (fun i => lN (mC X42 i))))) := hS.2.1
        have b2 : w202 (b + 2) = some (.inl (cI, 24, .inl (S43))) := hS.2.2.1
        refine W.eq (g2 := F0 m 140 ls []) rfl ?_
        refine lv_aload_n (pc := 140) hx hb dMo_quotient_140 rfl (lv_at hl 2 rfl) ?_
        refine fw_get (pc := 141) (ci := 10) (v := .ref (b + 2)) (C := RMo) (T := TMo) (N := 20) hx hb hW in_Mo hown hK.1 hw b0 rfl 2 (by decide) (hW _ lf_Mo_13) (fun _ h => h) rfl dMo_quotient_141 ?_
        refine lv_iload_n (pc := 144) hx hb dMo_quotient_144 rfl (lv_at hl 3 rfl) ?_
        refine lv_aload_n (pc := 145) hx hb dMo_quotient_145 rfl (lv_at hl 2 rfl) ?_
        refine lv_iload_n (pc := 146) hx hb dMo_quotient_146 rfl (lv_at hl 3 rfl) ?_
        refine fw_cVR (pc := 147) (As := [.int (nI x9)]) (rest := [.int (nI x9), .ref (b + 2)]) ⟨hx, hb, hml, hown, hW⟩ (c_Mo_limbs (p0 := x9) hS hXb (by omega)) (cwV 1 hW (kw_V lm_Mo_128 im_Mo_limbs se_Mo_limbs ini_Mo cd_Mo_limbs) rfl rfl rfl (by decide +kernel) ⟨Nat.le_of_ble_eq_true rfl, Nat.le_of_ble_eq_true rfl⟩) hK hw b0 rfl rfl hl.1 rfl (Nat.le_of_ble_eq_true rfl) dMo_quotient_147 ⟨Nat.le_of_ble_eq_true rfl, Nat.le_of_ble_eq_true rfl⟩ (fun v hq => ?_)
        obtain ⟨nl8, rfl, hnl8, hml8⟩ := hq
        rw [hxx] at hml8
        have hlz8 := ml_zero hml8
        refine W.eq (g2 := F0 m 150 ls [.int (nI nl8), .int (nI x9), .ref (b + 2)]) rfl ?_
        have hsp : sQuo a9 b9 = (0, wv 0 (q9)) := by unfold sQuo; rw [if_neg hbne, hza, hzb, ← hq9, ← hr9]; rw [if_pos rfl, if_pos (Or.inl rfl), Nat.add_zero]
        rcases Nat.eq_zero_or_pos (q9) with hm0 | hm0
        · rw [show (nI nl8 : Int32) = nI 0 from (by rw [hlz8.mpr hm0])]
          refine lv_if_ne (pc := 150) (tgt := 157) hx hb dMo_quotient_150 (by decide) (fun hc => absurd hc (fun h => h (by decide))) (fun _ => ?_)
          refine lv_iconst (pc := 153) (v := (nI 0)) hx hb dMo_quotient_153 (by decide) ?_
          refine lv_goto (pc := 154) (tgt := 167) hx hb dMo_quotient_154 (by decide) ?_
          refine fw_iastN (pc := 167) (f2 := va_up S43 (x9) (nI 0)) hx hb hK.1 hw 0 b2 rfl (x9) (by omega) (by decide) (rfl) dMo_quotient_167 (fun H locs hw => ?_)
          obtain ⟨w203, e203⟩ : ∃ w_, w_ = fw_up w202 (b + 2) (.inl (cI, 24, .inl (va_up S43 (x9) (nI 0)))) := ⟨_, rfl⟩
          have hw : fw_H D kCl (fw_A w (sz)) s.heap w203 (sz) H locs := by rw [e203]; exact hw
          have b0_ : w203 (b) = some (.inr (10, [.int (nI (I 0)), .ref (b + 1), .ref (b + 2), .int (nI (I 3)), .ref (b + 3), .ref (b + 4), .int (nI (I 6)), .int (nI (I 7)), .ref (b + 5), .ref (b + 6), .int (nI (I 10)), .int (nI (I 11)), .int (nI (I 12)), .int (nI (I 13)), .ref (b + 7), .ref (b + 8), .int (nI (I 16)), .int (nI (I 17)), .int (nI (I 18)), .int (nI (I 19))])) := by rw [e203, fw_un (by omega)]; exact b0
          have b1_ : w203 (b + 1) = some (.inl (cL, 1536, .inr (.inl (fun i => lN (mC X42 i))))) := by rw [e203, fw_un (by omega)]; exact b1
          have b2_ : w203 (b + 2) = some (.inl (cI, 24, .inl (va_up S43 (x9) (nI 0)))) := by rw [e203]; exact fw_us _ _ _
          have b0 := b0_
          have b1 := b1_
          have b2 := b2_
          have hS : moS cI cL w203 b I K (va_up S43 (x9) (nI 0)) (mC X42) := moS.cs hS b1 b2 (fun q h1 h2 => by rw [e203, fw_un h2])
          have hoF : ∀ q, q < b ∨ b + 9 ≤ q → w203 q = w q := fun q h9 => by rw [e203, fw_un (by omega)]; exact hoF q h9
          obtain ⟨S44, eS44⟩ : ∃ S_, S_ = va_up S43 (x9) (nI 0) := ⟨_, rfl⟩
          rw [← eS44] at hS
          have hv9 : (nI 0 : Int32) = nI 0 := rfl
          have hsy : S44 (yp) = sg32 b9 := by rw [eS44, up_o (by omega)]; exact hsy
          have hsO : S44 (23) = nI 1 := by rw [eS44, up_o (by omega)]; exact hsO
          have hsQ : S44 (20) = nI 0 := by rw [eS44, up_o (by omega)]; exact hsQ
          have hsx : S44 (x9) = nI 0 := by rw [eS44]; exact up_s.trans hv9
          have hfr : ∀ p, p ≠ x9 → p < 18 ∨ 22 < p → X42 p = X p ∧ S44 p = S p := fun p h1 h2 => by rw [eS44, up_o (by omega)]; exact hfr p h1 h2
          have b0 : w203 b = some (.inr (10, [.int (nI (I 0)), .ref (b + 1), .ref (b + 2), .int (nI (I 3)), .ref (b + 3), .ref (b + 4), .int (nI (I 6)), .int (nI (I 7)), .ref (b + 5), .ref (b + 6), .int (nI (I 10)), .int (nI (I 11)), .int (nI (I 12)), .int (nI (I 13)), .ref (b + 7), .ref (b + 8), .int (nI (I 16)), .int (nI (I 17)), .int (nI (I 18)), .int (nI (I 19))])) := hS.1
          have b1 : w203 (b + 1) = some (.inl (cL, 1536, .inr (.inl (fun i => lN (mC X42 i))))) := hS.2.1
          have b2 : w203 (b + 2) = some (.inl (cI, 24, .inl (S44))) := hS.2.2.1
          refine lv_iconst (pc := 168) (v := (nI 0)) hx hb dMo_quotient_168 (by decide) ?_
          exact fw_iret (pc := 169) hx hb hr hlocks hw dMo_quotient_169 ⟨by rw [hsp], ⟨_, _, hS, hXb, fun _ => by rw [hsp]; exact ⟨by rw [wv_abs]; exact hxx, by rw [sgw_z hm0]; exact hsx⟩, hfr⟩, hoF⟩
        · refine lv_if_ne (pc := 150) (tgt := 157) hx hb dMo_quotient_150 (by decide) (fun _ => ?_) (fun hc => absurd hc (nI_ne0 (Nat.pos_of_ne_zero (fun h9 => by have := hlz8.mp h9; omega)) (by omega)))
          refine lv_iload (pc := 157) hx hb dMo_quotient_157 (lv_at hl 1 rfl) ?_
          refine lv_if_eq (pc := 159) (tgt := 166) hx hb dMo_quotient_159 (by decide) (fun _ => ?_) (fun hc => absurd (show nI 0 = 0 by decide) hc)
          refine lv_iconst (pc := 166) (v := (nI 1)) hx hb dMo_quotient_166 (by decide) ?_
          refine fw_iastN (pc := 167) (f2 := va_up S43 (x9) (nI 1)) hx hb hK.1 hw 0 b2 rfl (x9) (by omega) (by decide) (rfl) dMo_quotient_167 (fun H locs hw => ?_)
          obtain ⟨w204, e204⟩ : ∃ w_, w_ = fw_up w202 (b + 2) (.inl (cI, 24, .inl (va_up S43 (x9) (nI 1)))) := ⟨_, rfl⟩
          have hw : fw_H D kCl (fw_A w (sz)) s.heap w204 (sz) H locs := by rw [e204]; exact hw
          have b0_ : w204 (b) = some (.inr (10, [.int (nI (I 0)), .ref (b + 1), .ref (b + 2), .int (nI (I 3)), .ref (b + 3), .ref (b + 4), .int (nI (I 6)), .int (nI (I 7)), .ref (b + 5), .ref (b + 6), .int (nI (I 10)), .int (nI (I 11)), .int (nI (I 12)), .int (nI (I 13)), .ref (b + 7), .ref (b + 8), .int (nI (I 16)), .int (nI (I 17)), .int (nI (I 18)), .int (nI (I 19))])) := by rw [e204, fw_un (by omega)]; exact b0
          have b1_ : w204 (b + 1) = some (.inl (cL, 1536, .inr (.inl (fun i => lN (mC X42 i))))) := by rw [e204, fw_un (by omega)]; exact b1
          have b2_ : w204 (b + 2) = some (.inl (cI, 24, .inl (va_up S43 (x9) (nI 1)))) := by rw [e204]; exact fw_us _ _ _
          have b0 := b0_
          have b1 := b1_
          have b2 := b2_
          have hS : moS cI cL w204 b I K (va_up S43 (x9) (nI 1)) (mC X42) := moS.cs hS b1 b2 (fun q h1 h2 => by rw [e204, fw_un h2])
          have hoF : ∀ q, q < b ∨ b + 9 ≤ q → w204 q = w q := fun q h9 => by rw [e204, fw_un (by omega)]; exact hoF q h9
          obtain ⟨S45, eS45⟩ : ∃ S_, S_ = va_up S43 (x9) (nI 1) := ⟨_, rfl⟩
          rw [← eS45] at hS
          have hv9 : (nI 1 : Int32) = nI 1 := rfl
          have hsy : S45 (yp) = sg32 b9 := by rw [eS45, up_o (by omega)]; exact hsy
          have hsO : S45 (23) = nI 1 := by rw [eS45, up_o (by omega)]; exact hsO
          have hsQ : S45 (20) = nI 0 := by rw [eS45, up_o (by omega)]; exact hsQ
          have hsx : S45 (x9) = nI 1 := by rw [eS45]; exact up_s.trans hv9
          have hfr : ∀ p, p ≠ x9 → p < 18 ∨ 22 < p → X42 p = X p ∧ S45 p = S p := fun p h1 h2 => by rw [eS45, up_o (by omega)]; exact hfr p h1 h2
          have b0 : w204 b = some (.inr (10, [.int (nI (I 0)), .ref (b + 1), .ref (b + 2), .int (nI (I 3)), .ref (b + 3), .ref (b + 4), .int (nI (I 6)), .int (nI (I 7)), .ref (b + 5), .ref (b + 6), .int (nI (I 10)), .int (nI (I 11)), .int (nI (I 12)), .int (nI (I 13)), .ref (b + 7), .ref (b + 8), .int (nI (I 16)), .int (nI (I 17)), .int (nI (I 18)), .int (nI (I 19))])) := hS.1
          have b1 : w204 (b + 1) = some (.inl (cL, 1536, .inr (.inl (fun i => lN (mC X42 i))))) := hS.2.1
          have b2 : w204 (b + 2) = some (.inl (cI, 24, .inl (S45))) := hS.2.2.1
          refine lv_iconst (pc := 168) (v := (nI 0)) hx hb dMo_quotient_168 (by decide) ?_
          exact fw_iret (pc := 169) hx hb hr hlocks hw dMo_quotient_169 ⟨by rw [hsp], ⟨_, _, hS, hXb, fun _ => by rw [hsp]; exact ⟨by rw [wv_abs]; exact hxx, by rw [sgw_0 hm0]; exact hsx⟩, hfr⟩, hoF⟩
      · refine lv_if_le (pc := 45) (tgt := 52) hx hb dMo_quotient_45 (by decide) (fun hc => absurd hc (nI_nle (Nat.pos_of_ne_zero (fun h9 => by have := hlz.mp h9; omega)) (by omega))) (fun _ => ?_)
        refine lv_iconst (pc := 48) (v := (nI 1)) hx hb dMo_quotient_48 (by decide) ?_
        refine lv_goto (pc := 49) (tgt := 53) hx hb dMo_quotient_49 (by decide) ?_
        refine lv_istore (pc := 53) (lv' := [(5, .int (nI 1)), (4, .int (nI 0)), (0, .ref b), (1, .int (nI x9)), (2, .int (nI yp)), (3, .int (nI 0))]) hx hb dMo_quotient_53 hl (by decide) rfl (fun ls hl => ?_)
        refine lv_iload_n (pc := 55) hx hb dMo_quotient_55 rfl (lv_at hl 5 rfl) ?_
        refine lv_if_eq (pc := 56) (tgt := 115) hx hb dMo_quotient_56 (by decide) (fun _ => ?_) (fun hc => absurd (show nI 0 = 0 by decide) hc)
        refine lv_iload (pc := 115) hx hb dMo_quotient_115 (lv_at hl 1 rfl) ?_
        refine lv_if_eq (pc := 117) (tgt := 133) hx hb dMo_quotient_117 (by decide) (fun _ => ?_) (fun hc => absurd (show nI 0 = 0 by decide) hc)
        refine lv_aload_n (pc := 133) hx hb dMo_quotient_133 rfl (lv_at hl 2 rfl) ?_
        refine lv_bipush (pc := 134) (v := (nI 20)) hx hb dMo_quotient_134 (by decide) ?_
        refine lv_iload_n (pc := 136) hx hb dMo_quotient_136 rfl (lv_at hl 3 rfl) ?_
        refine fw_cV (pc := 137) (As := [.int (nI 20), .int (nI x9)]) (rest := []) ⟨hx, hb, hml, hown, hW⟩ (c_Mo_copy (pa := 20) (pc9 := x9) hS hXb (by omega) (by omega) (by omega)) (cwV 2 hW (kw_V lm_Mo_143 im_Mo_copy se_Mo_copy ini_Mo cd_Mo_copy) rfl rfl rfl (by decide +kernel) ⟨Nat.le_of_ble_eq_true rfl, Nat.le_of_ble_eq_true rfl⟩) hK hw b0 rfl rfl hl.1 rfl (Nat.le_of_ble_eq_true rfl) dMo_quotient_137 ⟨Nat.le_of_ble_eq_true rfl, Nat.le_of_ble_eq_true rfl⟩ (fun v w205 H locs hq hw => ?_)
        obtain ⟨rfl, hS, hn9⟩ := hq
        have hoF : ∀ q, q < b ∨ b + 9 ≤ q → w205 q = w q := fun q h9 => (hn9 q h9).trans (hoF q h9)
        have hB9 : q9 < nM ^ 64 := by rw [← hxQ]; exact hXb _
        obtain ⟨X46, eX46⟩ : ∃ X_, X_ = va_up X40 (x9) (X40 (20)) := ⟨_, rfl⟩
        rw [← eX46] at hS
        have hv9 : X40 (20) = q9 := hxQ
        have hxy : X46 (yp) = Int.natAbs b9 := by rw [eX46, up_o (by omega)]; exact hxy
        have hxO : X46 (23) = 1 := by rw [eX46, up_o (by omega)]; exact hxO
        have hxQ : X46 (20) = q9 := by rw [eX46, up_o (by omega)]; exact hxQ
        have hxx : X46 (x9) = q9 := by rw [eX46]; exact up_s.trans hv9
        have hXb : ∀ p, X46 p < nM ^ 64 := fun p => by (rw [eX46]; unfold va_up; split; (rw [hv9]; exact hB9); exact hXb p)
        have hfr : ∀ p, p ≠ x9 → p < 18 ∨ 22 < p → X46 p = X p ∧ S41 p = S p := fun p h1 h2 => by rw [eX46, up_o (by omega)]; exact hfr p h1 h2
        obtain ⟨S47, eS47⟩ : ∃ S_, S_ = va_up S41 (x9) (S41 (20)) := ⟨_, rfl⟩
        rw [← eS47] at hS
        have hv9 : (S41 (20) : Int32) = nI 0 := hsQ
        have hsy : S47 (yp) = sg32 b9 := by rw [eS47, up_o (by omega)]; exact hsy
        have hsO : S47 (23) = nI 1 := by rw [eS47, up_o (by omega)]; exact hsO
        have hsQ : S47 (20) = nI 0 := by rw [eS47, up_o (by omega)]; exact hsQ
        have hsx : S47 (x9) = nI 0 := by rw [eS47]; exact up_s.trans hv9
        have hfr : ∀ p, p ≠ x9 → p < 18 ∨ 22 < p → X46 p = X p ∧ S47 p = S p := fun p h1 h2 => by rw [eS47, up_o (by omega)]; exact hfr p h1 h2
        have b0 : w205 b = some (.inr (10, [.int (nI (I 0)), .ref (b + 1), .ref (b + 2), .int (nI (I 3)), .ref (b + 3), .ref (b + 4), .int (nI (I 6)), .int (nI (I 7)), .ref (b + 5), .ref (b + 6), .int (nI (I 10)), .int (nI (I 11)), .int (nI (I 12)), .int (nI (I 13)), .ref (b + 7), .ref (b + 8), .int (nI (I 16)), .int (nI (I 17)), .int (nI (I 18)), .int (nI (I 19))])) := hS.1
        have b1 : w205 (b + 1) = some (.inl (cL, 1536, .inr (.inl (fun i => lN (mC X46 i))))) := hS.2.1
        have b2 : w205 (b + 2) = some (.inl (cI, 24, .inl (S47))) := hS.2.2.1
        refine W.eq (g2 := F0 m 140 ls []) rfl ?_
        refine lv_aload_n (pc := 140) hx hb dMo_quotient_140 rfl (lv_at hl 2 rfl) ?_
        refine fw_get (pc := 141) (ci := 10) (v := .ref (b + 2)) (C := RMo) (T := TMo) (N := 20) hx hb hW in_Mo hown hK.1 hw b0 rfl 2 (by decide) (hW _ lf_Mo_13) (fun _ h => h) rfl dMo_quotient_141 ?_
        refine lv_iload_n (pc := 144) hx hb dMo_quotient_144 rfl (lv_at hl 3 rfl) ?_
        refine lv_aload_n (pc := 145) hx hb dMo_quotient_145 rfl (lv_at hl 2 rfl) ?_
        refine lv_iload_n (pc := 146) hx hb dMo_quotient_146 rfl (lv_at hl 3 rfl) ?_
        refine fw_cVR (pc := 147) (As := [.int (nI x9)]) (rest := [.int (nI x9), .ref (b + 2)]) ⟨hx, hb, hml, hown, hW⟩ (c_Mo_limbs (p0 := x9) hS hXb (by omega)) (cwV 1 hW (kw_V lm_Mo_128 im_Mo_limbs se_Mo_limbs ini_Mo cd_Mo_limbs) rfl rfl rfl (by decide +kernel) ⟨Nat.le_of_ble_eq_true rfl, Nat.le_of_ble_eq_true rfl⟩) hK hw b0 rfl rfl hl.1 rfl (Nat.le_of_ble_eq_true rfl) dMo_quotient_147 ⟨Nat.le_of_ble_eq_true rfl, Nat.le_of_ble_eq_true rfl⟩ (fun v hq => ?_)
        obtain ⟨nl8, rfl, hnl8, hml8⟩ := hq
        rw [hxx] at hml8
        have hlz8 := ml_zero hml8
        refine W.eq (g2 := F0 m 150 ls [.int (nI nl8), .int (nI x9), .ref (b + 2)]) rfl ?_
        have hsp : sQuo a9 b9 = (0, wv 0 (q9)) := by unfold sQuo; rw [if_neg hbne, hza, hzb, ← hq9, ← hr9]; rw [if_pos rfl, if_pos (Or.inl rfl), Nat.add_zero]
        rcases Nat.eq_zero_or_pos (q9) with hm0 | hm0
        · rw [show (nI nl8 : Int32) = nI 0 from (by rw [hlz8.mpr hm0])]
          refine lv_if_ne (pc := 150) (tgt := 157) hx hb dMo_quotient_150 (by decide) (fun hc => absurd hc (fun h => h (by decide))) (fun _ => ?_)
          refine lv_iconst (pc := 153) (v := (nI 0)) hx hb dMo_quotient_153 (by decide) ?_
          refine lv_goto (pc := 154) (tgt := 167) hx hb dMo_quotient_154 (by decide) ?_
          refine fw_iastN (pc := 167) (f2 := va_up S47 (x9) (nI 0)) hx hb hK.1 hw 0 b2 rfl (x9) (by omega) (by decide) (rfl) dMo_quotient_167 (fun H locs hw => ?_)
          obtain ⟨w206, e206⟩ : ∃ w_, w_ = fw_up w205 (b + 2) (.inl (cI, 24, .inl (va_up S47 (x9) (nI 0)))) := ⟨_, rfl⟩
          have hw : fw_H D kCl (fw_A w (sz)) s.heap w206 (sz) H locs := by rw [e206]; exact hw
          have b0_ : w206 (b) = some (.inr (10, [.int (nI (I 0)), .ref (b + 1), .ref (b + 2), .int (nI (I 3)), .ref (b + 3), .ref (b + 4), .int (nI (I 6)), .int (nI (I 7)), .ref (b + 5), .ref (b + 6), .int (nI (I 10)), .int (nI (I 11)), .int (nI (I 12)), .int (nI (I 13)), .ref (b + 7), .ref (b + 8), .int (nI (I 16)), .int (nI (I 17)), .int (nI (I 18)), .int (nI (I 19))])) := by rw [e206, fw_un (by omega)]; exact b0
          have b1_ : w206 (b + 1) = some (.inl (cL, 1536, .inr (.inl (fun i => lN (mC X46 i))))) := by rw [e206, fw_un (by omega)]; exact b1
          have b2_ : w206 (b + 2) = some (.inl (cI, 24, .inl (va_up S47 (x9) (nI 0)))) := by rw [e206]; exact fw_us _ _ _
          have b0 := b0_
          have b1 := b1_
          have b2 := b2_
          have hS : moS cI cL w206 b I K (va_up S47 (x9) (nI 0)) (mC X46) := moS.cs hS b1 b2 (fun q h1 h2 => by rw [e206, fw_un h2])
          have hoF : ∀ q, q < b ∨ b + 9 ≤ q → w206 q = w q := fun q h9 => by rw [e206, fw_un (by omega)]; exact hoF q h9
          obtain ⟨S48, eS48⟩ : ∃ S_, S_ = va_up S47 (x9) (nI 0) := ⟨_, rfl⟩
          rw [← eS48] at hS
          have hv9 : (nI 0 : Int32) = nI 0 := rfl
          have hsy : S48 (yp) = sg32 b9 := by rw [eS48, up_o (by omega)]; exact hsy
          have hsO : S48 (23) = nI 1 := by rw [eS48, up_o (by omega)]; exact hsO
          have hsQ : S48 (20) = nI 0 := by rw [eS48, up_o (by omega)]; exact hsQ
          have hsx : S48 (x9) = nI 0 := by rw [eS48]; exact up_s.trans hv9
          have hfr : ∀ p, p ≠ x9 → p < 18 ∨ 22 < p → X46 p = X p ∧ S48 p = S p := fun p h1 h2 => by rw [eS48, up_o (by omega)]; exact hfr p h1 h2
          have b0 : w206 b = some (.inr (10, [.int (nI (I 0)), .ref (b + 1), .ref (b + 2), .int (nI (I 3)), .ref (b + 3), .ref (b + 4), .int (nI (I 6)), .int (nI (I 7)), .ref (b + 5), .ref (b + 6), .int (nI (I 10)), .int (nI (I 11)), .int (nI (I 12)), .int (nI (I 13)), .ref (b + 7), .ref (b + 8), .int (nI (I 16)), .int (nI (I 17)), .int (nI (I 18)), .int (nI (I 19))])) := hS.1
          have b1 : w206 (b + 1) = some (.inl (cL, 1536, .inr (.inl (fun i => lN (mC X46 i))))) := hS.2.1
          have b2 : w206 (b + 2) = some (.inl (cI, 24, .inl (S48))) := hS.2.2.1
          refine lv_iconst (pc := 168) (v := (nI 0)) hx hb dMo_quotient_168 (by decide) ?_
          exact fw_iret (pc := 169) hx hb hr hlocks hw dMo_quotient_169 ⟨by rw [hsp], ⟨_, _, hS, hXb, fun _ => by rw [hsp]; exact ⟨by rw [wv_abs]; exact hxx, by rw [sgw_z hm0]; exact hsx⟩, hfr⟩, hoF⟩
        · refine lv_if_ne (pc := 150) (tgt := 157) hx hb dMo_quotient_150 (by decide) (fun _ => ?_) (fun hc => absurd hc (nI_ne0 (Nat.pos_of_ne_zero (fun h9 => by have := hlz8.mp h9; omega)) (by omega)))
          refine lv_iload (pc := 157) hx hb dMo_quotient_157 (lv_at hl 1 rfl) ?_
          refine lv_if_eq (pc := 159) (tgt := 166) hx hb dMo_quotient_159 (by decide) (fun _ => ?_) (fun hc => absurd (show nI 0 = 0 by decide) hc)
          refine lv_iconst (pc := 166) (v := (nI 1)) hx hb dMo_quotient_166 (by decide) ?_
          refine fw_iastN (pc := 167) (f2 := va_up S47 (x9) (nI 1)) hx hb hK.1 hw 0 b2 rfl (x9) (by omega) (by decide) (rfl) dMo_quotient_167 (fun H locs hw => ?_)
          obtain ⟨w207, e207⟩ : ∃ w_, w_ = fw_up w205 (b + 2) (.inl (cI, 24, .inl (va_up S47 (x9) (nI 1)))) := ⟨_, rfl⟩
          have hw : fw_H D kCl (fw_A w (sz)) s.heap w207 (sz) H locs := by rw [e207]; exact hw
          have b0_ : w207 (b) = some (.inr (10, [.int (nI (I 0)), .ref (b + 1), .ref (b + 2), .int (nI (I 3)), .ref (b + 3), .ref (b + 4), .int (nI (I 6)), .int (nI (I 7)), .ref (b + 5), .ref (b + 6), .int (nI (I 10)), .int (nI (I 11)), .int (nI (I 12)), .int (nI (I 13)), .ref (b + 7), .ref (b + 8), .int (nI (I 16)), .int (nI (I 17)), .int (nI (I 18)), .int (nI (I 19))])) := by rw [e207, fw_un (by omega)]; exact b0
          have b1_ : w207 (b + 1) = some (.inl (cL, 1536, .inr (.inl (fun i => lN (mC X46 i))))) := by rw [e207, fw_un (by omega)]; exact b1
          have b2_ : w207 (b + 2) = some (.inl (cI, 24, .inl (va_up S47 (x9) (nI 1)))) := by rw [e207]; exact fw_us _ _ _
          have b0 := b0_
          have b1 := b1_
          have b2 := b2_
          have hS : moS cI cL w207 b I K (va_up S47 (x9) (nI 1)) (mC X46) := moS.cs hS b1 b2 (fun q h1 h2 => by rw [e207, fw_un h2])
          have hoF : ∀ q, q < b ∨ b + 9 ≤ q → w207 q = w q := fun q h9 => by rw [e207, fw_un (by omega)]; exact hoF q h9
          obtain ⟨S49, eS49⟩ : ∃ S_, S_ = va_up S47 (x9) (nI 1) := ⟨_, rfl⟩
          rw [← eS49] at hS
          have hv9 : (nI 1 : Int32) = nI 1 := rfl
          have hsy : S49 (yp) = sg32 b9 := by rw [eS49, up_o (by omega)]; exact hsy
          have hsO : S49 (23) = nI 1 := by rw [eS49, up_o (by omega)]; exact hsO
          have hsQ : S49 (20) = nI 0 := by rw [eS49, up_o (by omega)]; exact hsQ
          have hsx : S49 (x9) = nI 1 := by rw [eS49]; exact up_s.trans hv9
          have hfr : ∀ p, p ≠ x9 → p < 18 ∨ 22 < p → X46 p = X p ∧ S49 p = S p := fun p h1 h2 => by rw [eS49, up_o (by omega)]; exact hfr p h1 h2
          have b0 : w207 b = some (.inr (10, [.int (nI (I 0)), .ref (b + 1), .ref (b + 2), .int (nI (I 3)), .ref (b + 3), .ref (b + 4), .int (nI (I 6)), .int (nI (I 7)), .ref (b + 5), .ref (b + 6), .int (nI (I 10)), .int (nI (I 11)), .int (nI (I 12)), .int (nI (I 13)), .ref (b + 7), .ref (b + 8), .int (nI (I 16)), .int (nI (I 17)), .int (nI (I 18)), .int (nI (I 19))])) := hS.1
          have b1 : w207 (b + 1) = some (.inl (cL, 1536, .inr (.inl (fun i => lN (mC X46 i))))) := hS.2.1
          have b2 : w207 (b + 2) = some (.inl (cI, 24, .inl (S49))) := hS.2.2.1
          refine lv_iconst (pc := 168) (v := (nI 0)) hx hb dMo_quotient_168 (by decide) ?_
          exact fw_iret (pc := 169) hx hb hr hlocks hw dMo_quotient_169 ⟨by rw [hsp], ⟨_, _, hS, hXb, fun _ => by rw [hsp]; exact ⟨by rw [wv_abs]; exact hxx, by rw [sgw_0 hm0]; exact hsx⟩, hfr⟩, hoF⟩
    · rw [sg32_z ha90, sg32_n hb90]
      refine lv_imul (pc := 23) hx hb dMo_quotient_23 ?_
      rw [show ((nI 0 * (-1)) : Int32) = nI 0 from (by decide)]
      refine lv_if_ge (pc := 24) (tgt := 31) hx hb dMo_quotient_24 (by decide) (fun _ => ?_) (fun hc => absurd (by decide) hc)
      have hza : sgz a9 = 0 := if_neg (by omega)
      refine lv_iconst (pc := 31) (v := (nI 0)) hx hb dMo_quotient_31 (by decide) ?_
      refine lv_istore (pc := 32) (lv' := [(4, .int (nI 0)), (0, .ref b), (1, .int (nI x9)), (2, .int (nI yp)), (3, .int (nI 0))]) hx hb dMo_quotient_32 hl (by decide) rfl (fun ls hl => ?_)
      refine lv_aload_n (pc := 34) hx hb dMo_quotient_34 rfl (lv_at hl 1 rfl) ?_
      refine lv_iload_n (pc := 35) hx hb dMo_quotient_35 rfl (lv_at hl 2 rfl) ?_
      refine lv_iload_n (pc := 36) hx hb dMo_quotient_36 rfl (lv_at hl 3 rfl) ?_
      have hxx0 := hxx
      have hxy0 := hxy
      refine fw_cV (pc := 37) (As := [.int (nI x9), .int (nI yp)]) (rest := []) ⟨hx, hb, hml, hown, hW⟩ (c_Mo_divide (pa := x9) (pb := yp) hS hXb (by omega) (by omega) (by omega) (by omega) (by omega) (by rw [hxy]; omega)) (cwV 2 hW (kw_V lm_Mo_159 im_Mo_divide se_Mo_divide ini_Mo cd_Mo_divide) rfl rfl rfl (by decide +kernel) ⟨Nat.le_of_ble_eq_true rfl, Nat.le_of_ble_eq_true rfl⟩) hK hw b0 rfl rfl hl.1 rfl (Nat.le_of_ble_eq_true rfl) dMo_quotient_37 ⟨Nat.le_of_ble_eq_true rfl, Nat.le_of_ble_eq_true rfl⟩ (fun v w208 H locs hq hw => ?_)
      obtain ⟨rfl, hS, hn9⟩ := hq
      have hoF : ∀ q, q < b ∨ b + 9 ≤ q → w208 q = w q := fun q h9 => (hn9 q h9).trans (hoF q h9)
      obtain ⟨q9, hq9⟩ : ∃ q9, q9 = Int.natAbs a9 / Int.natAbs b9 := ⟨_, rfl⟩
      obtain ⟨r9, hr9⟩ : ∃ r9, r9 = Int.natAbs a9 % Int.natAbs b9 := ⟨_, rfl⟩
      have hql : q9 ≤ Int.natAbs a9 := by rw [hq9]; exact Nat.div_le_self _ _
      have hrl : r9 < Int.natAbs b9 := by rw [hr9]; exact Nat.mod_lt _ (by omega)
      have hB9 : q9 < nM ^ 64 := Nat.lt_trans (Nat.lt_of_le_of_lt hql a97) p64
      have hB8 : r9 < nM ^ 64 := Nat.lt_trans (Nat.lt_trans hrl b97) p64
      obtain ⟨X50, eX50⟩ : ∃ X_, X_ = va_up X (20) (X (x9) / X (yp)) := ⟨_, rfl⟩
      rw [← eX50] at hS
      have hv9 : X (x9) / X (yp) = q9 := (by rw [hxx0, hxy0, hq9])
      have hxx : X50 (x9) = Int.natAbs a9 := by rw [eX50, up_o (by omega)]; exact hxx
      have hxy : X50 (yp) = Int.natAbs b9 := by rw [eX50, up_o (by omega)]; exact hxy
      have hxO : X50 (23) = 1 := by rw [eX50, up_o (by omega)]; exact hxO
      have hxQ : X50 (20) = q9 := by rw [eX50]; exact up_s.trans hv9
      have hXb : ∀ p, X50 p < nM ^ 64 := fun p => by (rw [eX50]; unfold va_up; split; (rw [hv9]; exact hB9); exact hXb p)
      have hfr : ∀ p, p ≠ x9 → p < 18 ∨ 22 < p → X50 p = X p ∧ S p = S p := fun p h1 h2 => by rw [eX50, up_o (by omega)]; exact hfr p h1 h2
      obtain ⟨X51, eX51⟩ : ∃ X_, X_ = va_up X50 (x9) (X (x9) % X (yp)) := ⟨_, rfl⟩
      rw [← eX51] at hS
      have hv9 : X (x9) % X (yp) = r9 := (by rw [hxx0, hxy0, hr9])
      have hxy : X51 (yp) = Int.natAbs b9 := by rw [eX51, up_o (by omega)]; exact hxy
      have hxO : X51 (23) = 1 := by rw [eX51, up_o (by omega)]; exact hxO
      have hxQ : X51 (20) = q9 := by rw [eX51, up_o (by omega)]; exact hxQ
      have hxx : X51 (x9) = r9 := by rw [eX51]; exact up_s.trans hv9
      have hXb : ∀ p, X51 p < nM ^ 64 := fun p => by (rw [eX51]; unfold va_up; split; (rw [hv9]; exact hB8); exact hXb p)
      have hfr : ∀ p, p ≠ x9 → p < 18 ∨ 22 < p → X51 p = X p ∧ S p = S p := fun p h1 h2 => by rw [eX51, up_o (by omega)]; exact hfr p h1 h2
      obtain ⟨S52, eS52⟩ : ∃ S_, S_ = va_up S (20) (nI 0) := ⟨_, rfl⟩
      rw [← eS52] at hS
      have hv9 : (nI 0 : Int32) = nI 0 := rfl
      have hsx : S52 (x9) = sg32 a9 := by rw [eS52, up_o (by omega)]; exact hsx
      have hsy : S52 (yp) = sg32 b9 := by rw [eS52, up_o (by omega)]; exact hsy
      have hsO : S52 (23) = nI 1 := by rw [eS52, up_o (by omega)]; exact hsO
      have hsQ : S52 (20) = nI 0 := by rw [eS52]; exact up_s.trans hv9
      have hfr : ∀ p, p ≠ x9 → p < 18 ∨ 22 < p → X51 p = X p ∧ S52 p = S p := fun p h1 h2 => by rw [eS52, up_o (by omega)]; exact hfr p h1 h2
      have b0 : w208 b = some (.inr (10, [.int (nI (I 0)), .ref (b + 1), .ref (b + 2), .int (nI (I 3)), .ref (b + 3), .ref (b + 4), .int (nI (I 6)), .int (nI (I 7)), .ref (b + 5), .ref (b + 6), .int (nI (I 10)), .int (nI (I 11)), .int (nI (I 12)), .int (nI (I 13)), .ref (b + 7), .ref (b + 8), .int (nI (I 16)), .int (nI (I 17)), .int (nI (I 18)), .int (nI (I 19))])) := hS.1
      have b1 : w208 (b + 1) = some (.inl (cL, 1536, .inr (.inl (fun i => lN (mC X51 i))))) := hS.2.1
      have b2 : w208 (b + 2) = some (.inl (cI, 24, .inl (S52))) := hS.2.2.1
      refine W.eq (g2 := F0 m 40 ls []) rfl ?_
      refine lv_aload_n (pc := 40) hx hb dMo_quotient_40 rfl (lv_at hl 1 rfl) ?_
      refine lv_iload_n (pc := 41) hx hb dMo_quotient_41 rfl (lv_at hl 2 rfl) ?_
      refine fw_cVR (pc := 42) (As := [.int (nI x9)]) (rest := []) ⟨hx, hb, hml, hown, hW⟩ (c_Mo_limbs (p0 := x9) hS hXb (by omega)) (cwV 1 hW (kw_V lm_Mo_128 im_Mo_limbs se_Mo_limbs ini_Mo cd_Mo_limbs) rfl rfl rfl (by decide +kernel) ⟨Nat.le_of_ble_eq_true rfl, Nat.le_of_ble_eq_true rfl⟩) hK hw b0 rfl rfl hl.1 rfl (Nat.le_of_ble_eq_true rfl) dMo_quotient_42 ⟨Nat.le_of_ble_eq_true rfl, Nat.le_of_ble_eq_true rfl⟩ (fun v hq => ?_)
      obtain ⟨nl9, rfl, hnl, hml9⟩ := hq
      rw [hxx] at hml9
      have hlz := ml_zero hml9
      refine W.eq (g2 := F0 m 45 ls [.int (nI nl9)]) rfl ?_
      rcases Nat.eq_zero_or_pos r9 with hr0 | hr0
      · rw [show (nI nl9 : Int32) = nI 0 from (by rw [hlz.mpr hr0])]
        refine lv_if_le (pc := 45) (tgt := 52) hx hb dMo_quotient_45 (by decide) (fun _ => ?_) (fun hc => absurd (show nI 0 ≤ 0 by decide) hc)
        refine lv_iconst (pc := 52) (v := (nI 0)) hx hb dMo_quotient_52 (by decide) ?_
        refine lv_istore (pc := 53) (lv' := [(5, .int (nI 0)), (4, .int (nI 0)), (0, .ref b), (1, .int (nI x9)), (2, .int (nI yp)), (3, .int (nI 0))]) hx hb dMo_quotient_53 hl (by decide) rfl (fun ls hl => ?_)
        refine lv_iload_n (pc := 55) hx hb dMo_quotient_55 rfl (lv_at hl 5 rfl) ?_
        refine lv_if_eq (pc := 56) (tgt := 115) hx hb dMo_quotient_56 (by decide) (fun _ => ?_) (fun hc => absurd (show nI 0 = 0 by decide) hc)
        refine lv_iload (pc := 115) hx hb dMo_quotient_115 (lv_at hl 1 rfl) ?_
        refine lv_if_eq (pc := 117) (tgt := 133) hx hb dMo_quotient_117 (by decide) (fun _ => ?_) (fun hc => absurd (show nI 0 = 0 by decide) hc)
        refine lv_aload_n (pc := 133) hx hb dMo_quotient_133 rfl (lv_at hl 2 rfl) ?_
        refine lv_bipush (pc := 134) (v := (nI 20)) hx hb dMo_quotient_134 (by decide) ?_
        refine lv_iload_n (pc := 136) hx hb dMo_quotient_136 rfl (lv_at hl 3 rfl) ?_
        refine fw_cV (pc := 137) (As := [.int (nI 20), .int (nI x9)]) (rest := []) ⟨hx, hb, hml, hown, hW⟩ (c_Mo_copy (pa := 20) (pc9 := x9) hS hXb (by omega) (by omega) (by omega)) (cwV 2 hW (kw_V lm_Mo_143 im_Mo_copy se_Mo_copy ini_Mo cd_Mo_copy) rfl rfl rfl (by decide +kernel) ⟨Nat.le_of_ble_eq_true rfl, Nat.le_of_ble_eq_true rfl⟩) hK hw b0 rfl rfl hl.1 rfl (Nat.le_of_ble_eq_true rfl) dMo_quotient_137 ⟨Nat.le_of_ble_eq_true rfl, Nat.le_of_ble_eq_true rfl⟩ (fun v w209 H locs hq hw => ?_)
        obtain ⟨rfl, hS, hn9⟩ := hq
        have hoF : ∀ q, q < b ∨ b + 9 ≤ q → w209 q = w q := fun q h9 => (hn9 q h9).trans (hoF q h9)
        have hB9 : q9 < nM ^ 64 := by rw [← hxQ]; exact hXb _
        obtain ⟨X53, eX53⟩ : ∃ X_, X_ = va_up X51 (x9) (X51 (20)) := ⟨_, rfl⟩
        rw [← eX53] at hS
        have hv9 : X51 (20) = q9 := hxQ
        have hxy : X53 (yp) = Int.natAbs b9 := by rw [eX53, up_o (by omega)]; exact hxy
        have hxO : X53 (23) = 1 := by rw [eX53, up_o (by omega)]; exact hxO
        have hxQ : X53 (20) = q9 := by rw [eX53, up_o (by omega)]; exact hxQ
        have hxx : X53 (x9) = q9 := by rw [eX53]; exact up_s.trans hv9
        have hXb : ∀ p, X53 p < nM ^ 64 := fun p => by (rw [eX53]; unfold va_up; split; (rw [hv9]; exact hB9); exact hXb p)
        have hfr : ∀ p, p ≠ x9 → p < 18 ∨ 22 < p → X53 p = X p ∧ S52 p = S p := fun p h1 h2 => by rw [eX53, up_o (by omega)]; exact hfr p h1 h2
        obtain ⟨S54, eS54⟩ : ∃ S_, S_ = va_up S52 (x9) (S52 (20)) := ⟨_, rfl⟩
        rw [← eS54] at hS
        have hv9 : (S52 (20) : Int32) = nI 0 := hsQ
        have hsy : S54 (yp) = sg32 b9 := by rw [eS54, up_o (by omega)]; exact hsy
        have hsO : S54 (23) = nI 1 := by rw [eS54, up_o (by omega)]; exact hsO
        have hsQ : S54 (20) = nI 0 := by rw [eS54, up_o (by omega)]; exact hsQ
        have hsx : S54 (x9) = nI 0 := by rw [eS54]; exact up_s.trans hv9
        have hfr : ∀ p, p ≠ x9 → p < 18 ∨ 22 < p → X53 p = X p ∧ S54 p = S p := fun p h1 h2 => by rw [eS54, up_o (by omega)]; exact hfr p h1 h2
        have b0 : w209 b = some (.inr (10, [.int (nI (I 0)), .ref (b + 1), .ref (b + 2), .int (nI (I 3)), .ref (b + 3), .ref (b + 4), .int (nI (I 6)), .int (nI (I 7)), .ref (b + 5), .ref (b + 6), .int (nI (I 10)), .int (nI (I 11)), .int (nI (I 12)), .int (nI (I 13)), .ref (b + 7), .ref (b + 8), .int (nI (I 16)), .int (nI (I 17)), .int (nI (I 18)), .int (nI (I 19))])) := hS.1
        have b1 : w209 (b + 1) = some (.inl (cL, 1536, .inr (.inl (fun i => lN (mC X53 i))))) := hS.2.1
        have b2 : w209 (b + 2) = some (.inl (cI, 24, .inl (S54))) := hS.2.2.1
        refine W.eq (g2 := F0 m 140 ls []) rfl ?_
        refine lv_aload_n (pc := 140) hx hb dMo_quotient_140 rfl (lv_at hl 2 rfl) ?_
        refine fw_get (pc := 141) (ci := 10) (v := .ref (b + 2)) (C := RMo) (T := TMo) (N := 20) hx hb hW in_Mo hown hK.1 hw b0 rfl 2 (by decide) (hW _ lf_Mo_13) (fun _ h => h) rfl dMo_quotient_141 ?_
        refine lv_iload_n (pc := 144) hx hb dMo_quotient_144 rfl (lv_at hl 3 rfl) ?_
        refine lv_aload_n (pc := 145) hx hb dMo_quotient_145 rfl (lv_at hl 2 rfl) ?_
        refine lv_iload_n (pc := 146) hx hb dMo_quotient_146 rfl (lv_at hl 3 rfl) ?_
        refine fw_cVR (pc := 147) (As := [.int (nI x9)]) (rest := [.int (nI x9), .ref (b + 2)]) ⟨hx, hb, hml, hown, hW⟩ (c_Mo_limbs (p0 := x9) hS hXb (by omega)) (cwV 1 hW (kw_V lm_Mo_128 im_Mo_limbs se_Mo_limbs ini_Mo cd_Mo_limbs) rfl rfl rfl (by decide +kernel) ⟨Nat.le_of_ble_eq_true rfl, Nat.le_of_ble_eq_true rfl⟩) hK hw b0 rfl rfl hl.1 rfl (Nat.le_of_ble_eq_true rfl) dMo_quotient_147 ⟨Nat.le_of_ble_eq_true rfl, Nat.le_of_ble_eq_true rfl⟩ (fun v hq => ?_)
        obtain ⟨nl8, rfl, hnl8, hml8⟩ := hq
        rw [hxx] at hml8
        have hlz8 := ml_zero hml8
        refine W.eq (g2 := F0 m 150 ls [.int (nI nl8), .int (nI x9), .ref (b + 2)]) rfl ?_
        have hsp : sQuo a9 b9 = (0, wv 1 (q9)) := by unfold sQuo; rw [if_neg hbne, hza, hzb, ← hq9, ← hr9]; rw [if_neg (by decide), if_pos (Or.inr hr0), Nat.add_zero]
        rcases Nat.eq_zero_or_pos (q9) with hm0 | hm0
        · rw [show (nI nl8 : Int32) = nI 0 from (by rw [hlz8.mpr hm0])]
          refine lv_if_ne (pc := 150) (tgt := 157) hx hb dMo_quotient_150 (by decide) (fun hc => absurd hc (fun h => h (by decide))) (fun _ => ?_)
          refine lv_iconst (pc := 153) (v := (nI 0)) hx hb dMo_quotient_153 (by decide) ?_
          refine lv_goto (pc := 154) (tgt := 167) hx hb dMo_quotient_154 (by decide) ?_
          refine fw_iastN (pc := 167) (f2 := va_up S54 (x9) (nI 0)) hx hb hK.1 hw 0 b2 rfl (x9) (by omega) (by decide) (rfl) dMo_quotient_167 (fun H locs hw => ?_)
          obtain ⟨w210, e210⟩ : ∃ w_, w_ = fw_up w209 (b + 2) (.inl (cI, 24, .inl (va_up S54 (x9) (nI 0)))) := ⟨_, rfl⟩
          have hw : fw_H D kCl (fw_A w (sz)) s.heap w210 (sz) H locs := by rw [e210]; exact hw
          have b0_ : w210 (b) = some (.inr (10, [.int (nI (I 0)), .ref (b + 1), .ref (b + 2), .int (nI (I 3)), .ref (b + 3), .ref (b + 4), .int (nI (I 6)), .int (nI (I 7)), .ref (b + 5), .ref (b + 6), .int (nI (I 10)), .int (nI (I 11)), .int (nI (I 12)), .int (nI (I 13)), .ref (b + 7), .ref (b + 8), .int (nI (I 16)), .int (nI (I 17)), .int (nI (I 18)), .int (nI (I 19))])) := by rw [e210, fw_un (by omega)]; exact b0
          have b1_ : w210 (b + 1) = some (.inl (cL, 1536, .inr (.inl (fun i => lN (mC X53 i))))) := by rw [e210, fw_un (by omega)]; exact b1
          have b2_ : w210 (b + 2) = some (.inl (cI, 24, .inl (va_up S54 (x9) (nI 0)))) := by rw [e210]; exact fw_us _ _ _
          have b0 := b0_
          have b1 := b1_
          have b2 := b2_
          have hS : moS cI cL w210 b I K (va_up S54 (x9) (nI 0)) (mC X53) := moS.cs hS b1 b2 (fun q h1 h2 => by rw [e210, fw_un h2])
          have hoF : ∀ q, q < b ∨ b + 9 ≤ q → w210 q = w q := fun q h9 => by rw [e210, fw_un (by omega)]; exact hoF q h9
          obtain ⟨S55, eS55⟩ : ∃ S_, S_ = va_up S54 (x9) (nI 0) := ⟨_, rfl⟩
          rw [← eS55] at hS
          have hv9 : (nI 0 : Int32) = nI 0 := rfl
          have hsy : S55 (yp) = sg32 b9 := by rw [eS55, up_o (by omega)]; exact hsy
          have hsO : S55 (23) = nI 1 := by rw [eS55, up_o (by omega)]; exact hsO
          have hsQ : S55 (20) = nI 0 := by rw [eS55, up_o (by omega)]; exact hsQ
          have hsx : S55 (x9) = nI 0 := by rw [eS55]; exact up_s.trans hv9
          have hfr : ∀ p, p ≠ x9 → p < 18 ∨ 22 < p → X53 p = X p ∧ S55 p = S p := fun p h1 h2 => by rw [eS55, up_o (by omega)]; exact hfr p h1 h2
          have b0 : w210 b = some (.inr (10, [.int (nI (I 0)), .ref (b + 1), .ref (b + 2), .int (nI (I 3)), .ref (b + 3), .ref (b + 4), .int (nI (I 6)), .int (nI (I 7)), .ref (b + 5), .ref (b + 6), .int (nI (I 10)), .int (nI (I 11)), .int (nI (I 12)), .int (nI (I 13)), .ref (b + 7), .ref (b + 8), .int (nI (I 16)), .int (nI (I 17)), .int (nI (I 18)), .int (nI (I 19))])) := hS.1
          have b1 : w210 (b + 1) = some (.inl (cL, 1536, .inr (.inl (fun i => lN (mC X53 i))))) := hS.2.1
          have b2 : w210 (b + 2) = some (.inl (cI, 24, .inl (S55))) := hS.2.2.1
          refine lv_iconst (pc := 168) (v := (nI 0)) hx hb dMo_quotient_168 (by decide) ?_
          exact fw_iret (pc := 169) hx hb hr hlocks hw dMo_quotient_169 ⟨by rw [hsp], ⟨_, _, hS, hXb, fun _ => by rw [hsp]; exact ⟨by rw [wv_abs]; exact hxx, by rw [sgw_z hm0]; exact hsx⟩, hfr⟩, hoF⟩
        · exact absurd hm0 (by rw [hq9, ha90]; simp)
      · refine lv_if_le (pc := 45) (tgt := 52) hx hb dMo_quotient_45 (by decide) (fun hc => absurd hc (nI_nle (Nat.pos_of_ne_zero (fun h9 => by have := hlz.mp h9; omega)) (by omega))) (fun _ => ?_)
        exact absurd hr0 (by rw [hr9, ha90]; simp)
    · rw [sg32_p ha90, sg32_n hb90]
      refine lv_imul (pc := 23) hx hb dMo_quotient_23 ?_
      rw [show ((nI 1 * (-1)) : Int32) = (-1) from (by decide)]
      refine lv_if_ge (pc := 24) (tgt := 31) hx hb dMo_quotient_24 (by decide) (fun hc => absurd hc (by decide)) (fun _ => ?_)
      have hza : sgz a9 = 0 := if_neg (by omega)
      refine lv_iconst (pc := 27) (v := (nI 1)) hx hb dMo_quotient_27 (by decide) ?_
      refine lv_goto (pc := 28) (tgt := 32) hx hb dMo_quotient_28 (by decide) ?_
      refine lv_istore (pc := 32) (lv' := [(4, .int (nI 1)), (0, .ref b), (1, .int (nI x9)), (2, .int (nI yp)), (3, .int (nI 0))]) hx hb dMo_quotient_32 hl (by decide) rfl (fun ls hl => ?_)
      refine lv_aload_n (pc := 34) hx hb dMo_quotient_34 rfl (lv_at hl 1 rfl) ?_
      refine lv_iload_n (pc := 35) hx hb dMo_quotient_35 rfl (lv_at hl 2 rfl) ?_
      refine lv_iload_n (pc := 36) hx hb dMo_quotient_36 rfl (lv_at hl 3 rfl) ?_
      have hxx0 := hxx
      have hxy0 := hxy
      refine fw_cV (pc := 37) (As := [.int (nI x9), .int (nI yp)]) (rest := []) ⟨hx, hb, hml, hown, hW⟩ (c_Mo_divide (pa := x9) (pb := yp) hS hXb (by omega) (by omega) (by omega) (by omega) (by omega) (by rw [hxy]; omega)) (cwV 2 hW (kw_V lm_Mo_159 im_Mo_divide se_Mo_divide ini_Mo cd_Mo_divide) rfl rfl rfl (by decide +kernel) ⟨Nat.le_of_ble_eq_true rfl, Nat.le_of_ble_eq_true rfl⟩) hK hw b0 rfl rfl hl.1 rfl (Nat.le_of_ble_eq_true rfl) dMo_quotient_37 ⟨Nat.le_of_ble_eq_true rfl, Nat.le_of_ble_eq_true rfl⟩ (fun v w211 H locs hq hw => ?_)
      obtain ⟨rfl, hS, hn9⟩ := hq
      have hoF : ∀ q, q < b ∨ b + 9 ≤ q → w211 q = w q := fun q h9 => (hn9 q h9).trans (hoF q h9)
      obtain ⟨q9, hq9⟩ : ∃ q9, q9 = Int.natAbs a9 / Int.natAbs b9 := ⟨_, rfl⟩
      obtain ⟨r9, hr9⟩ : ∃ r9, r9 = Int.natAbs a9 % Int.natAbs b9 := ⟨_, rfl⟩
      have hql : q9 ≤ Int.natAbs a9 := by rw [hq9]; exact Nat.div_le_self _ _
      have hrl : r9 < Int.natAbs b9 := by rw [hr9]; exact Nat.mod_lt _ (by omega)
      have hB9 : q9 < nM ^ 64 := Nat.lt_trans (Nat.lt_of_le_of_lt hql a97) p64
      have hB8 : r9 < nM ^ 64 := Nat.lt_trans (Nat.lt_trans hrl b97) p64
      obtain ⟨X56, eX56⟩ : ∃ X_, X_ = va_up X (20) (X (x9) / X (yp)) := ⟨_, rfl⟩
      rw [← eX56] at hS
      have hv9 : X (x9) / X (yp) = q9 := (by rw [hxx0, hxy0, hq9])
      have hxx : X56 (x9) = Int.natAbs a9 := by rw [eX56, up_o (by omega)]; exact hxx
      have hxy : X56 (yp) = Int.natAbs b9 := by rw [eX56, up_o (by omega)]; exact hxy
      have hxO : X56 (23) = 1 := by rw [eX56, up_o (by omega)]; exact hxO
      have hxQ : X56 (20) = q9 := by rw [eX56]; exact up_s.trans hv9
      have hXb : ∀ p, X56 p < nM ^ 64 := fun p => by (rw [eX56]; unfold va_up; split; (rw [hv9]; exact hB9); exact hXb p)
      have hfr : ∀ p, p ≠ x9 → p < 18 ∨ 22 < p → X56 p = X p ∧ S p = S p := fun p h1 h2 => by rw [eX56, up_o (by omega)]; exact hfr p h1 h2
      obtain ⟨X57, eX57⟩ : ∃ X_, X_ = va_up X56 (x9) (X (x9) % X (yp)) := ⟨_, rfl⟩
      rw [← eX57] at hS
      have hv9 : X (x9) % X (yp) = r9 := (by rw [hxx0, hxy0, hr9])
      have hxy : X57 (yp) = Int.natAbs b9 := by rw [eX57, up_o (by omega)]; exact hxy
      have hxO : X57 (23) = 1 := by rw [eX57, up_o (by omega)]; exact hxO
      have hxQ : X57 (20) = q9 := by rw [eX57, up_o (by omega)]; exact hxQ
      have hxx : X57 (x9) = r9 := by rw [eX57]; exact up_s.trans hv9
      have hXb : ∀ p, X57 p < nM ^ 64 := fun p => by (rw [eX57]; unfold va_up; split; (rw [hv9]; exact hB8); exact hXb p)
      have hfr : ∀ p, p ≠ x9 → p < 18 ∨ 22 < p → X57 p = X p ∧ S p = S p := fun p h1 h2 => by rw [eX57, up_o (by omega)]; exact hfr p h1 h2
      obtain ⟨S58, eS58⟩ : ∃ S_, S_ = va_up S (20) (nI 0) := ⟨_, rfl⟩
      rw [← eS58] at hS
      have hv9 : (nI 0 : Int32) = nI 0 := rfl
      have hsx : S58 (x9) = sg32 a9 := by rw [eS58, up_o (by omega)]; exact hsx
      have hsy : S58 (yp) = sg32 b9 := by rw [eS58, up_o (by omega)]; exact hsy
      have hsO : S58 (23) = nI 1 := by rw [eS58, up_o (by omega)]; exact hsO
      have hsQ : S58 (20) = nI 0 := by rw [eS58]; exact up_s.trans hv9
      have hfr : ∀ p, p ≠ x9 → p < 18 ∨ 22 < p → X57 p = X p ∧ S58 p = S p := fun p h1 h2 => by rw [eS58, up_o (by omega)]; exact hfr p h1 h2
      have b0 : w211 b = some (.inr (10, [.int (nI (I 0)), .ref (b + 1), .ref (b + 2), .int (nI (I 3)), .ref (b + 3), .ref (b + 4), .int (nI (I 6)), .int (nI (I 7)), .ref (b + 5), .ref (b + 6), .int (nI (I 10)), .int (nI (I 11)), .int (nI (I 12)), .int (nI (I 13)), .ref (b + 7), .ref (b + 8), .int (nI (I 16)), .int (nI (I 17)), .int (nI (I 18)), .int (nI (I 19))])) := hS.1
      have b1 : w211 (b + 1) = some (.inl (cL, 1536, .inr (.inl (fun i => lN (mC X57 i))))) := hS.2.1
      have b2 : w211 (b + 2) = some (.inl (cI, 24, .inl (S58))) := hS.2.2.1
      refine W.eq (g2 := F0 m 40 ls []) rfl ?_
      refine lv_aload_n (pc := 40) hx hb dMo_quotient_40 rfl (lv_at hl 1 rfl) ?_
      refine lv_iload_n (pc := 41) hx hb dMo_quotient_41 rfl (lv_at hl 2 rfl) ?_
      refine fw_cVR (pc := 42) (As := [.int (nI x9)]) (rest := []) ⟨hx, hb, hml, hown, hW⟩ (c_Mo_limbs (p0 := x9) hS hXb (by omega)) (cwV 1 hW (kw_V lm_Mo_128 im_Mo_limbs se_Mo_limbs ini_Mo cd_Mo_limbs) rfl rfl rfl (by decide +kernel) ⟨Nat.le_of_ble_eq_true rfl, Nat.le_of_ble_eq_true rfl⟩) hK hw b0 rfl rfl hl.1 rfl (Nat.le_of_ble_eq_true rfl) dMo_quotient_42 ⟨Nat.le_of_ble_eq_true rfl, Nat.le_of_ble_eq_true rfl⟩ (fun v hq => ?_)
      obtain ⟨nl9, rfl, hnl, hml9⟩ := hq
      rw [hxx] at hml9
      have hlz := ml_zero hml9
      refine W.eq (g2 := F0 m 45 ls [.int (nI nl9)]) rfl ?_
      rcases Nat.eq_zero_or_pos r9 with hr0 | hr0
      · rw [show (nI nl9 : Int32) = nI 0 from (by rw [hlz.mpr hr0])]
        refine lv_if_le (pc := 45) (tgt := 52) hx hb dMo_quotient_45 (by decide) (fun _ => ?_) (fun hc => absurd (show nI 0 ≤ 0 by decide) hc)
        refine lv_iconst (pc := 52) (v := (nI 0)) hx hb dMo_quotient_52 (by decide) ?_
        refine lv_istore (pc := 53) (lv' := [(5, .int (nI 0)), (4, .int (nI 1)), (0, .ref b), (1, .int (nI x9)), (2, .int (nI yp)), (3, .int (nI 0))]) hx hb dMo_quotient_53 hl (by decide) rfl (fun ls hl => ?_)
        refine lv_iload_n (pc := 55) hx hb dMo_quotient_55 rfl (lv_at hl 5 rfl) ?_
        refine lv_if_eq (pc := 56) (tgt := 115) hx hb dMo_quotient_56 (by decide) (fun _ => ?_) (fun hc => absurd (show nI 0 = 0 by decide) hc)
        refine lv_iload (pc := 115) hx hb dMo_quotient_115 (lv_at hl 1 rfl) ?_
        refine lv_if_eq (pc := 117) (tgt := 133) hx hb dMo_quotient_117 (by decide) (fun hc => absurd hc (show ¬ nI 1 = 0 by decide)) (fun _ => ?_)
        refine lv_iload (pc := 120) hx hb dMo_quotient_120 (lv_at hl 0 rfl) ?_
        refine lv_if_eq (pc := 122) (tgt := 133) hx hb dMo_quotient_122 (by decide) (fun _ => ?_) (fun hc => absurd (show nI 0 = 0 by decide) hc)
        refine lv_aload_n (pc := 133) hx hb dMo_quotient_133 rfl (lv_at hl 2 rfl) ?_
        refine lv_bipush (pc := 134) (v := (nI 20)) hx hb dMo_quotient_134 (by decide) ?_
        refine lv_iload_n (pc := 136) hx hb dMo_quotient_136 rfl (lv_at hl 3 rfl) ?_
        refine fw_cV (pc := 137) (As := [.int (nI 20), .int (nI x9)]) (rest := []) ⟨hx, hb, hml, hown, hW⟩ (c_Mo_copy (pa := 20) (pc9 := x9) hS hXb (by omega) (by omega) (by omega)) (cwV 2 hW (kw_V lm_Mo_143 im_Mo_copy se_Mo_copy ini_Mo cd_Mo_copy) rfl rfl rfl (by decide +kernel) ⟨Nat.le_of_ble_eq_true rfl, Nat.le_of_ble_eq_true rfl⟩) hK hw b0 rfl rfl hl.1 rfl (Nat.le_of_ble_eq_true rfl) dMo_quotient_137 ⟨Nat.le_of_ble_eq_true rfl, Nat.le_of_ble_eq_true rfl⟩ (fun v w212 H locs hq hw => ?_)
        obtain ⟨rfl, hS, hn9⟩ := hq
        have hoF : ∀ q, q < b ∨ b + 9 ≤ q → w212 q = w q := fun q h9 => (hn9 q h9).trans (hoF q h9)
        have hB9 : q9 < nM ^ 64 := by rw [← hxQ]; exact hXb _
        obtain ⟨X59, eX59⟩ : ∃ X_, X_ = va_up X57 (x9) (X57 (20)) := ⟨_, rfl⟩
        rw [← eX59] at hS
        have hv9 : X57 (20) = q9 := hxQ
        have hxy : X59 (yp) = Int.natAbs b9 := by rw [eX59, up_o (by omega)]; exact hxy
        have hxO : X59 (23) = 1 := by rw [eX59, up_o (by omega)]; exact hxO
        have hxQ : X59 (20) = q9 := by rw [eX59, up_o (by omega)]; exact hxQ
        have hxx : X59 (x9) = q9 := by rw [eX59]; exact up_s.trans hv9
        have hXb : ∀ p, X59 p < nM ^ 64 := fun p => by (rw [eX59]; unfold va_up; split; (rw [hv9]; exact hB9); exact hXb p)
        have hfr : ∀ p, p ≠ x9 → p < 18 ∨ 22 < p → X59 p = X p ∧ S58 p = S p := fun p h1 h2 => by rw [eX59, up_o (by omega)]; exact hfr p h1 h2
        obtain ⟨S60, eS60⟩ : ∃ S_, S_ = va_up S58 (x9) (S58 (20)) := ⟨_, rfl⟩
        rw [← eS60] at hS
        have hv9 : (S58 (20) : Int32) = nI 0 := hsQ
        have hsy : S60 (yp) = sg32 b9 := by rw [eS60, up_o (by omega)]; exact hsy
        have hsO : S60 (23) = nI 1 := by rw [eS60, up_o (by omega)]; exact hsO
        have hsQ : S60 (20) = nI 0 := by rw [eS60, up_o (by omega)]; exact hsQ
        have hsx : S60 (x9) = nI 0 := by rw [eS60]; exact up_s.trans hv9
        have hfr : ∀ p, p ≠ x9 → p < 18 ∨ 22 < p → X59 p = X p ∧ S60 p = S p := fun p h1 h2 => by rw [eS60, up_o (by omega)]; exact hfr p h1 h2
        have b0 : w212 b = some (.inr (10, [.int (nI (I 0)), .ref (b + 1), .ref (b + 2), .int (nI (I 3)), .ref (b + 3), .ref (b + 4), .int (nI (I 6)), .int (nI (I 7)), .ref (b + 5), .ref (b + 6), .int (nI (I 10)), .int (nI (I 11)), .int (nI (I 12)), .int (nI (I 13)), .ref (b + 7), .ref (b + 8), .int (nI (I 16)), .int (nI (I 17)), .int (nI (I 18)), .int (nI (I 19))])) := hS.1
        have b1 : w212 (b + 1) = some (.inl (cL, 1536, .inr (.inl (fun i => lN (mC X59 i))))) := hS.2.1
        have b2 : w212 (b + 2) = some (.inl (cI, 24, .inl (S60))) := hS.2.2.1
        refine W.eq (g2 := F0 m 140 ls []) rfl ?_
        refine lv_aload_n (pc := 140) hx hb dMo_quotient_140 rfl (lv_at hl 2 rfl) ?_
        refine fw_get (pc := 141) (ci := 10) (v := .ref (b + 2)) (C := RMo) (T := TMo) (N := 20) hx hb hW in_Mo hown hK.1 hw b0 rfl 2 (by decide) (hW _ lf_Mo_13) (fun _ h => h) rfl dMo_quotient_141 ?_
        refine lv_iload_n (pc := 144) hx hb dMo_quotient_144 rfl (lv_at hl 3 rfl) ?_
        refine lv_aload_n (pc := 145) hx hb dMo_quotient_145 rfl (lv_at hl 2 rfl) ?_
        refine lv_iload_n (pc := 146) hx hb dMo_quotient_146 rfl (lv_at hl 3 rfl) ?_
        refine fw_cVR (pc := 147) (As := [.int (nI x9)]) (rest := [.int (nI x9), .ref (b + 2)]) ⟨hx, hb, hml, hown, hW⟩ (c_Mo_limbs (p0 := x9) hS hXb (by omega)) (cwV 1 hW (kw_V lm_Mo_128 im_Mo_limbs se_Mo_limbs ini_Mo cd_Mo_limbs) rfl rfl rfl (by decide +kernel) ⟨Nat.le_of_ble_eq_true rfl, Nat.le_of_ble_eq_true rfl⟩) hK hw b0 rfl rfl hl.1 rfl (Nat.le_of_ble_eq_true rfl) dMo_quotient_147 ⟨Nat.le_of_ble_eq_true rfl, Nat.le_of_ble_eq_true rfl⟩ (fun v hq => ?_)
        obtain ⟨nl8, rfl, hnl8, hml8⟩ := hq
        rw [hxx] at hml8
        have hlz8 := ml_zero hml8
        refine W.eq (g2 := F0 m 150 ls [.int (nI nl8), .int (nI x9), .ref (b + 2)]) rfl ?_
        have hsp : sQuo a9 b9 = (0, wv 1 (q9)) := by unfold sQuo; rw [if_neg hbne, hza, hzb, ← hq9, ← hr9]; rw [if_neg (by decide), if_pos (Or.inr hr0), Nat.add_zero]
        rcases Nat.eq_zero_or_pos (q9) with hm0 | hm0
        · rw [show (nI nl8 : Int32) = nI 0 from (by rw [hlz8.mpr hm0])]
          refine lv_if_ne (pc := 150) (tgt := 157) hx hb dMo_quotient_150 (by decide) (fun hc => absurd hc (fun h => h (by decide))) (fun _ => ?_)
          refine lv_iconst (pc := 153) (v := (nI 0)) hx hb dMo_quotient_153 (by decide) ?_
          refine lv_goto (pc := 154) (tgt := 167) hx hb dMo_quotient_154 (by decide) ?_
          refine fw_iastN (pc := 167) (f2 := va_up S60 (x9) (nI 0)) hx hb hK.1 hw 0 b2 rfl (x9) (by omega) (by decide) (rfl) dMo_quotient_167 (fun H locs hw => ?_)
          obtain ⟨w213, e213⟩ : ∃ w_, w_ = fw_up w212 (b + 2) (.inl (cI, 24, .inl (va_up S60 (x9) (nI 0)))) := ⟨_, rfl⟩
          have hw : fw_H D kCl (fw_A w (sz)) s.heap w213 (sz) H locs := by rw [e213]; exact hw
          have b0_ : w213 (b) = some (.inr (10, [.int (nI (I 0)), .ref (b + 1), .ref (b + 2), .int (nI (I 3)), .ref (b + 3), .ref (b + 4), .int (nI (I 6)), .int (nI (I 7)), .ref (b + 5), .ref (b + 6), .int (nI (I 10)), .int (nI (I 11)), .int (nI (I 12)), .int (nI (I 13)), .ref (b + 7), .ref (b + 8), .int (nI (I 16)), .int (nI (I 17)), .int (nI (I 18)), .int (nI (I 19))])) := by rw [e213, fw_un (by omega)]; exact b0
          have b1_ : w213 (b + 1) = some (.inl (cL, 1536, .inr (.inl (fun i => lN (mC X59 i))))) := by rw [e213, fw_un (by omega)]; exact b1
          have b2_ : w213 (b + 2) = some (.inl (cI, 24, .inl (va_up S60 (x9) (nI 0)))) := by rw [e213]; exact fw_us _ _ _
          have b0 := b0_
          have b1 := b1_
          have b2 := b2_
          have hS : moS cI cL w213 b I K (va_up S60 (x9) (nI 0)) (mC X59) := moS.cs hS b1 b2 (fun q h1 h2 => by rw [e213, fw_un h2])
          have hoF : ∀ q, q < b ∨ b + 9 ≤ q → w213 q = w q := fun q h9 => by rw [e213, fw_un (by omega)]; exact hoF q h9
          obtain ⟨S61, eS61⟩ : ∃ S_, S_ = va_up S60 (x9) (nI 0) := ⟨_, rfl⟩
          rw [← eS61] at hS
          have hv9 : (nI 0 : Int32) = nI 0 := rfl
          have hsy : S61 (yp) = sg32 b9 := by rw [eS61, up_o (by omega)]; exact hsy
          have hsO : S61 (23) = nI 1 := by rw [eS61, up_o (by omega)]; exact hsO
          have hsQ : S61 (20) = nI 0 := by rw [eS61, up_o (by omega)]; exact hsQ
          have hsx : S61 (x9) = nI 0 := by rw [eS61]; exact up_s.trans hv9
          have hfr : ∀ p, p ≠ x9 → p < 18 ∨ 22 < p → X59 p = X p ∧ S61 p = S p := fun p h1 h2 => by rw [eS61, up_o (by omega)]; exact hfr p h1 h2
          have b0 : w213 b = some (.inr (10, [.int (nI (I 0)), .ref (b + 1), .ref (b + 2), .int (nI (I 3)), .ref (b + 3), .ref (b + 4), .int (nI (I 6)), .int (nI (I 7)), .ref (b + 5), .ref (b + 6), .int (nI (I 10)), .int (nI (I 11)), .int (nI (I 12)), .int (nI (I 13)), .ref (b + 7), .ref (b + 8), .int (nI (I 16)), .int (nI (I 17)), .int (nI (I 18)), .int (nI (I 19))])) := hS.1
          have b1 : w213 (b + 1) = some (.inl (cL, 1536, .inr (.inl (fun i => lN (mC X59 i))))) := hS.2.1
          have b2 : w213 (b + 2) = some (.inl (cI, 24, .inl (S61))) := hS.2.2.1
          refine lv_iconst (pc := 168) (v := (nI 0)) hx hb dMo_quotient_168 (by decide) ?_
          exact fw_iret (pc := 169) hx hb hr hlocks hw dMo_quotient_169 ⟨by rw [hsp], ⟨_, _, hS, hXb, fun _ => by rw [hsp]; exact ⟨by rw [wv_abs]; exact hxx, by rw [sgw_z hm0]; exact hsx⟩, hfr⟩, hoF⟩
        · refine lv_if_ne (pc := 150) (tgt := 157) hx hb dMo_quotient_150 (by decide) (fun _ => ?_) (fun hc => absurd hc (nI_ne0 (Nat.pos_of_ne_zero (fun h9 => by have := hlz8.mp h9; omega)) (by omega)))
          refine lv_iload (pc := 157) hx hb dMo_quotient_157 (lv_at hl 1 rfl) ?_
          refine lv_if_eq (pc := 159) (tgt := 166) hx hb dMo_quotient_159 (by decide) (fun hc => absurd hc (show ¬ nI 1 = 0 by decide)) (fun _ => ?_)
          refine lv_iconst (pc := 162) (v := (-1)) hx hb dMo_quotient_162 (by decide) ?_
          refine lv_goto (pc := 163) (tgt := 167) hx hb dMo_quotient_163 (by decide) ?_
          refine fw_iastN (pc := 167) (f2 := va_up S60 (x9) ((-1))) hx hb hK.1 hw 0 b2 rfl (x9) (by omega) (by decide) (rfl) dMo_quotient_167 (fun H locs hw => ?_)
          obtain ⟨w214, e214⟩ : ∃ w_, w_ = fw_up w212 (b + 2) (.inl (cI, 24, .inl (va_up S60 (x9) ((-1))))) := ⟨_, rfl⟩
          have hw : fw_H D kCl (fw_A w (sz)) s.heap w214 (sz) H locs := by rw [e214]; exact hw
          have b0_ : w214 (b) = some (.inr (10, [.int (nI (I 0)), .ref (b + 1), .ref (b + 2), .int (nI (I 3)), .ref (b + 3), .ref (b + 4), .int (nI (I 6)), .int (nI (I 7)), .ref (b + 5), .ref (b + 6), .int (nI (I 10)), .int (nI (I 11)), .int (nI (I 12)), .int (nI (I 13)), .ref (b + 7), .ref (b + 8), .int (nI (I 16)), .int (nI (I 17)), .int (nI (I 18)), .int (nI (I 19))])) := by rw [e214, fw_un (by omega)]; exact b0
          have b1_ : w214 (b + 1) = some (.inl (cL, 1536, .inr (.inl (fun i => lN (mC X59 i))))) := by rw [e214, fw_un (by omega)]; exact b1
          have b2_ : w214 (b + 2) = some (.inl (cI, 24, .inl (va_up S60 (x9) ((-1))))) := by rw [e214]; exact fw_us _ _ _
          have b0 := b0_
          have b1 := b1_
          have b2 := b2_
          have hS : moS cI cL w214 b I K (va_up S60 (x9) ((-1))) (mC X59) := moS.cs hS b1 b2 (fun q h1 h2 => by rw [e214, fw_un h2])
          have hoF : ∀ q, q < b ∨ b + 9 ≤ q → w214 q = w q := fun q h9 => by rw [e214, fw_un (by omega)]; exact hoF q h9
          obtain ⟨S62, eS62⟩ : ∃ S_, S_ = va_up S60 (x9) ((-1)) := ⟨_, rfl⟩
          rw [← eS62] at hS
          have hv9 : ((-1) : Int32) = (-1) := rfl
          have hsy : S62 (yp) = sg32 b9 := by rw [eS62, up_o (by omega)]; exact hsy
          have hsO : S62 (23) = nI 1 := by rw [eS62, up_o (by omega)]; exact hsO
          have hsQ : S62 (20) = nI 0 := by rw [eS62, up_o (by omega)]; exact hsQ
          have hsx : S62 (x9) = (-1) := by rw [eS62]; exact up_s.trans hv9
          have hfr : ∀ p, p ≠ x9 → p < 18 ∨ 22 < p → X59 p = X p ∧ S62 p = S p := fun p h1 h2 => by rw [eS62, up_o (by omega)]; exact hfr p h1 h2
          have b0 : w214 b = some (.inr (10, [.int (nI (I 0)), .ref (b + 1), .ref (b + 2), .int (nI (I 3)), .ref (b + 3), .ref (b + 4), .int (nI (I 6)), .int (nI (I 7)), .ref (b + 5), .ref (b + 6), .int (nI (I 10)), .int (nI (I 11)), .int (nI (I 12)), .int (nI (I 13)), .ref (b + 7), .ref (b + 8), .int (nI (I 16)), .int (nI (I 17)), .int (nI (I 18)), .int (nI (I 19))])) := hS.1
          have b1 : w214 (b + 1) = some (.inl (cL, 1536, .inr (.inl (fun i => lN (mC X59 i))))) := hS.2.1
          have b2 : w214 (b + 2) = some (.inl (cI, 24, .inl (S62))) := hS.2.2.1
          refine lv_iconst (pc := 168) (v := (nI 0)) hx hb dMo_quotient_168 (by decide) ?_
          exact fw_iret (pc := 169) hx hb hr hlocks hw dMo_quotient_169 ⟨by rw [hsp], ⟨_, _, hS, hXb, fun _ => by rw [hsp]; exact ⟨by rw [wv_abs]; exact hxx, by rw [sgw_1 hm0]; exact hsx⟩, hfr⟩, hoF⟩
      · refine lv_if_le (pc := 45) (tgt := 52) hx hb dMo_quotient_45 (by decide) (fun hc => absurd hc (nI_nle (Nat.pos_of_ne_zero (fun h9 => by have := hlz.mp h9; omega)) (by omega))) (fun _ => ?_)
        refine lv_iconst (pc := 48) (v := (nI 1)) hx hb dMo_quotient_48 (by decide) ?_
        refine lv_goto (pc := 49) (tgt := 53) hx hb dMo_quotient_49 (by decide) ?_
        refine lv_istore (pc := 53) (lv' := [(5, .int (nI 1)), (4, .int (nI 1)), (0, .ref b), (1, .int (nI x9)), (2, .int (nI yp)), (3, .int (nI 0))]) hx hb dMo_quotient_53 hl (by decide) rfl (fun ls hl => ?_)
        refine lv_iload_n (pc := 55) hx hb dMo_quotient_55 rfl (lv_at hl 5 rfl) ?_
        refine lv_if_eq (pc := 56) (tgt := 115) hx hb dMo_quotient_56 (by decide) (fun _ => ?_) (fun hc => absurd (show nI 0 = 0 by decide) hc)
        refine lv_iload (pc := 115) hx hb dMo_quotient_115 (lv_at hl 1 rfl) ?_
        refine lv_if_eq (pc := 117) (tgt := 133) hx hb dMo_quotient_117 (by decide) (fun hc => absurd hc (show ¬ nI 1 = 0 by decide)) (fun _ => ?_)
        refine lv_iload (pc := 120) hx hb dMo_quotient_120 (lv_at hl 0 rfl) ?_
        refine lv_if_eq (pc := 122) (tgt := 133) hx hb dMo_quotient_122 (by decide) (fun hc => absurd hc (show ¬ nI 1 = 0 by decide)) (fun _ => ?_)
        refine lv_aload_n (pc := 125) hx hb dMo_quotient_125 rfl (lv_at hl 2 rfl) ?_
        refine lv_bipush (pc := 126) (v := (nI 20)) hx hb dMo_quotient_126 (by decide) ?_
        refine lv_bipush (pc := 128) (v := (nI 23)) hx hb dMo_quotient_128 (by decide) ?_
        refine fw_cV (pc := 130) (As := [.int (nI 20), .int (nI 23)]) (rest := []) ⟨hx, hb, hml, hown, hW⟩ (c_Mo_addTo (pa := 20) (pb := 23) hS hXb (by omega) (by omega) (by omega)) (cwV 2 hW (kw_V lm_Mo_146 im_Mo_addTo se_Mo_addTo ini_Mo cd_Mo_addTo) rfl rfl rfl (by decide +kernel) ⟨Nat.le_of_ble_eq_true rfl, Nat.le_of_ble_eq_true rfl⟩) hK hw b0 rfl rfl hl.1 rfl (Nat.le_of_ble_eq_true rfl) dMo_quotient_130 ⟨Nat.le_of_ble_eq_true rfl, Nat.le_of_ble_eq_true rfl⟩ (fun v w215 H locs hq hw => ?_)
        obtain ⟨rfl, hS, hn9⟩ := hq
        have hoF : ∀ q, q < b ∨ b + 9 ≤ q → w215 q = w q := fun q h9 => (hn9 q h9).trans (hoF q h9)
        have hB7 : q9 + 1 < nM ^ 64 := Nat.lt_of_le_of_lt (show q9 + 1 ≤ 2 ^ 768 by omega) p64
        obtain ⟨X63, eX63⟩ : ∃ X_, X_ = va_up X57 (20) ((X57 (20) + X57 (23)) % nM ^ 64) := ⟨_, rfl⟩
        rw [← eX63] at hS
        have hv9 : (X57 (20) + X57 (23)) % nM ^ 64 = q9 + 1 := (by rw [hxQ, hxO, Nat.mod_eq_of_lt hB7])
        have hxx : X63 (x9) = r9 := by rw [eX63, up_o (by omega)]; exact hxx
        have hxy : X63 (yp) = Int.natAbs b9 := by rw [eX63, up_o (by omega)]; exact hxy
        have hxO : X63 (23) = 1 := by rw [eX63, up_o (by omega)]; exact hxO
        have hxQ : X63 (20) = q9 + 1 := by rw [eX63]; exact up_s.trans hv9
        have hXb : ∀ p, X63 p < nM ^ 64 := fun p => by (rw [eX63]; unfold va_up; split; (rw [hv9]; exact hB7); exact hXb p)
        have hfr : ∀ p, p ≠ x9 → p < 18 ∨ 22 < p → X63 p = X p ∧ S58 p = S p := fun p h1 h2 => by rw [eX63, up_o (by omega)]; exact hfr p h1 h2
        have b0 : w215 b = some (.inr (10, [.int (nI (I 0)), .ref (b + 1), .ref (b + 2), .int (nI (I 3)), .ref (b + 3), .ref (b + 4), .int (nI (I 6)), .int (nI (I 7)), .ref (b + 5), .ref (b + 6), .int (nI (I 10)), .int (nI (I 11)), .int (nI (I 12)), .int (nI (I 13)), .ref (b + 7), .ref (b + 8), .int (nI (I 16)), .int (nI (I 17)), .int (nI (I 18)), .int (nI (I 19))])) := hS.1
        have b1 : w215 (b + 1) = some (.inl (cL, 1536, .inr (.inl (fun i => lN (mC X63 i))))) := hS.2.1
        have b2 : w215 (b + 2) = some (.inl (cI, 24, .inl (S58))) := hS.2.2.1
        refine W.eq (g2 := F0 m 133 ls []) rfl ?_
        refine lv_aload_n (pc := 133) hx hb dMo_quotient_133 rfl (lv_at hl 2 rfl) ?_
        refine lv_bipush (pc := 134) (v := (nI 20)) hx hb dMo_quotient_134 (by decide) ?_
        refine lv_iload_n (pc := 136) hx hb dMo_quotient_136 rfl (lv_at hl 3 rfl) ?_
        refine fw_cV (pc := 137) (As := [.int (nI 20), .int (nI x9)]) (rest := []) ⟨hx, hb, hml, hown, hW⟩ (c_Mo_copy (pa := 20) (pc9 := x9) hS hXb (by omega) (by omega) (by omega)) (cwV 2 hW (kw_V lm_Mo_143 im_Mo_copy se_Mo_copy ini_Mo cd_Mo_copy) rfl rfl rfl (by decide +kernel) ⟨Nat.le_of_ble_eq_true rfl, Nat.le_of_ble_eq_true rfl⟩) hK hw b0 rfl rfl hl.1 rfl (Nat.le_of_ble_eq_true rfl) dMo_quotient_137 ⟨Nat.le_of_ble_eq_true rfl, Nat.le_of_ble_eq_true rfl⟩ (fun v w216 H locs hq hw => ?_)
        obtain ⟨rfl, hS, hn9⟩ := hq
        have hoF : ∀ q, q < b ∨ b + 9 ≤ q → w216 q = w q := fun q h9 => (hn9 q h9).trans (hoF q h9)
        have hB9 : q9 + 1 < nM ^ 64 := by rw [← hxQ]; exact hXb _
        obtain ⟨X64, eX64⟩ : ∃ X_, X_ = va_up X63 (x9) (X63 (20)) := ⟨_, rfl⟩
        rw [← eX64] at hS
        have hv9 : X63 (20) = q9 + 1 := hxQ
        have hxy : X64 (yp) = Int.natAbs b9 := by rw [eX64, up_o (by omega)]; exact hxy
        have hxO : X64 (23) = 1 := by rw [eX64, up_o (by omega)]; exact hxO
        have hxQ : X64 (20) = q9 + 1 := by rw [eX64, up_o (by omega)]; exact hxQ
        have hxx : X64 (x9) = q9 + 1 := by rw [eX64]; exact up_s.trans hv9
        have hXb : ∀ p, X64 p < nM ^ 64 := fun p => by (rw [eX64]; unfold va_up; split; (rw [hv9]; exact hB9); exact hXb p)
        have hfr : ∀ p, p ≠ x9 → p < 18 ∨ 22 < p → X64 p = X p ∧ S58 p = S p := fun p h1 h2 => by rw [eX64, up_o (by omega)]; exact hfr p h1 h2
        obtain ⟨S65, eS65⟩ : ∃ S_, S_ = va_up S58 (x9) (S58 (20)) := ⟨_, rfl⟩
        rw [← eS65] at hS
        have hv9 : (S58 (20) : Int32) = nI 0 := hsQ
        have hsy : S65 (yp) = sg32 b9 := by rw [eS65, up_o (by omega)]; exact hsy
        have hsO : S65 (23) = nI 1 := by rw [eS65, up_o (by omega)]; exact hsO
        have hsQ : S65 (20) = nI 0 := by rw [eS65, up_o (by omega)]; exact hsQ
        have hsx : S65 (x9) = nI 0 := by rw [eS65]; exact up_s.trans hv9
        have hfr : ∀ p, p ≠ x9 → p < 18 ∨ 22 < p → X64 p = X p ∧ S65 p = S p := fun p h1 h2 => by rw [eS65, up_o (by omega)]; exact hfr p h1 h2
        have b0 : w216 b = some (.inr (10, [.int (nI (I 0)), .ref (b + 1), .ref (b + 2), .int (nI (I 3)), .ref (b + 3), .ref (b + 4), .int (nI (I 6)), .int (nI (I 7)), .ref (b + 5), .ref (b + 6), .int (nI (I 10)), .int (nI (I 11)), .int (nI (I 12)), .int (nI (I 13)), .ref (b + 7), .ref (b + 8), .int (nI (I 16)), .int (nI (I 17)), .int (nI (I 18)), .int (nI (I 19))])) := hS.1
        have b1 : w216 (b + 1) = some (.inl (cL, 1536, .inr (.inl (fun i => lN (mC X64 i))))) := hS.2.1
        have b2 : w216 (b + 2) = some (.inl (cI, 24, .inl (S65))) := hS.2.2.1
        refine W.eq (g2 := F0 m 140 ls []) rfl ?_
        refine lv_aload_n (pc := 140) hx hb dMo_quotient_140 rfl (lv_at hl 2 rfl) ?_
        refine fw_get (pc := 141) (ci := 10) (v := .ref (b + 2)) (C := RMo) (T := TMo) (N := 20) hx hb hW in_Mo hown hK.1 hw b0 rfl 2 (by decide) (hW _ lf_Mo_13) (fun _ h => h) rfl dMo_quotient_141 ?_
        refine lv_iload_n (pc := 144) hx hb dMo_quotient_144 rfl (lv_at hl 3 rfl) ?_
        refine lv_aload_n (pc := 145) hx hb dMo_quotient_145 rfl (lv_at hl 2 rfl) ?_
        refine lv_iload_n (pc := 146) hx hb dMo_quotient_146 rfl (lv_at hl 3 rfl) ?_
        refine fw_cVR (pc := 147) (As := [.int (nI x9)]) (rest := [.int (nI x9), .ref (b + 2)]) ⟨hx, hb, hml, hown, hW⟩ (c_Mo_limbs (p0 := x9) hS hXb (by omega)) (cwV 1 hW (kw_V lm_Mo_128 im_Mo_limbs se_Mo_limbs ini_Mo cd_Mo_limbs) rfl rfl rfl (by decide +kernel) ⟨Nat.le_of_ble_eq_true rfl, Nat.le_of_ble_eq_true rfl⟩) hK hw b0 rfl rfl hl.1 rfl (Nat.le_of_ble_eq_true rfl) dMo_quotient_147 ⟨Nat.le_of_ble_eq_true rfl, Nat.le_of_ble_eq_true rfl⟩ (fun v hq => ?_)
        obtain ⟨nl8, rfl, hnl8, hml8⟩ := hq
        rw [hxx] at hml8
        have hlz8 := ml_zero hml8
        refine W.eq (g2 := F0 m 150 ls [.int (nI nl8), .int (nI x9), .ref (b + 2)]) rfl ?_
        have hsp : sQuo a9 b9 = (0, wv 1 (q9 + 1)) := by unfold sQuo; rw [if_neg hbne, hza, hzb, ← hq9, ← hr9]; rw [if_neg (by decide), if_neg (fun h9 => h9.elim (by decide) (by omega))]
        rcases Nat.eq_zero_or_pos (q9 + 1) with hm0 | hm0
        · rw [show (nI nl8 : Int32) = nI 0 from (by rw [hlz8.mpr hm0])]
          refine lv_if_ne (pc := 150) (tgt := 157) hx hb dMo_quotient_150 (by decide) (fun hc => absurd hc (fun h => h (by decide))) (fun _ => ?_)
          refine lv_iconst (pc := 153) (v := (nI 0)) hx hb dMo_quotient_153 (by decide) ?_
          refine lv_goto (pc := 154) (tgt := 167) hx hb dMo_quotient_154 (by decide) ?_
          refine fw_iastN (pc := 167) (f2 := va_up S65 (x9) (nI 0)) hx hb hK.1 hw 0 b2 rfl (x9) (by omega) (by decide) (rfl) dMo_quotient_167 (fun H locs hw => ?_)
          obtain ⟨w217, e217⟩ : ∃ w_, w_ = fw_up w216 (b + 2) (.inl (cI, 24, .inl (va_up S65 (x9) (nI 0)))) := ⟨_, rfl⟩
          have hw : fw_H D kCl (fw_A w (sz)) s.heap w217 (sz) H locs := by rw [e217]; exact hw
          have b0_ : w217 (b) = some (.inr (10, [.int (nI (I 0)), .ref (b + 1), .ref (b + 2), .int (nI (I 3)), .ref (b + 3), .ref (b + 4), .int (nI (I 6)), .int (nI (I 7)), .ref (b + 5), .ref (b + 6), .int (nI (I 10)), .int (nI (I 11)), .int (nI (I 12)), .int (nI (I 13)), .ref (b + 7), .ref (b + 8), .int (nI (I 16)), .int (nI (I 17)), .int (nI (I 18)), .int (nI (I 19))])) := by rw [e217, fw_un (by omega)]; exact b0
          have b1_ : w217 (b + 1) = some (.inl (cL, 1536, .inr (.inl (fun i => lN (mC X64 i))))) := by rw [e217, fw_un (by omega)]; exact b1
          have b2_ : w217 (b + 2) = some (.inl (cI, 24, .inl (va_up S65 (x9) (nI 0)))) := by rw [e217]; exact fw_us _ _ _
          have b0 := b0_
          have b1 := b1_
          have b2 := b2_
          have hS : moS cI cL w217 b I K (va_up S65 (x9) (nI 0)) (mC X64) := moS.cs hS b1 b2 (fun q h1 h2 => by rw [e217, fw_un h2])
          have hoF : ∀ q, q < b ∨ b + 9 ≤ q → w217 q = w q := fun q h9 => by rw [e217, fw_un (by omega)]; exact hoF q h9
          obtain ⟨S66, eS66⟩ : ∃ S_, S_ = va_up S65 (x9) (nI 0) := ⟨_, rfl⟩
          rw [← eS66] at hS
          have hv9 : (nI 0 : Int32) = nI 0 := rfl
          have hsy : S66 (yp) = sg32 b9 := by rw [eS66, up_o (by omega)]; exact hsy
          have hsO : S66 (23) = nI 1 := by rw [eS66, up_o (by omega)]; exact hsO
          have hsQ : S66 (20) = nI 0 := by rw [eS66, up_o (by omega)]; exact hsQ
          have hsx : S66 (x9) = nI 0 := by rw [eS66]; exact up_s.trans hv9
          have hfr : ∀ p, p ≠ x9 → p < 18 ∨ 22 < p → X64 p = X p ∧ S66 p = S p := fun p h1 h2 => by rw [eS66, up_o (by omega)]; exact hfr p h1 h2
          have b0 : w217 b = some (.inr (10, [.int (nI (I 0)), .ref (b + 1), .ref (b + 2), .int (nI (I 3)), .ref (b + 3), .ref (b + 4), .int (nI (I 6)), .int (nI (I 7)), .ref (b + 5), .ref (b + 6), .int (nI (I 10)), .int (nI (I 11)), .int (nI (I 12)), .int (nI (I 13)), .ref (b + 7), .ref (b + 8), .int (nI (I 16)), .int (nI (I 17)), .int (nI (I 18)), .int (nI (I 19))])) := hS.1
          have b1 : w217 (b + 1) = some (.inl (cL, 1536, .inr (.inl (fun i => lN (mC X64 i))))) := hS.2.1
          have b2 : w217 (b + 2) = some (.inl (cI, 24, .inl (S66))) := hS.2.2.1
          refine lv_iconst (pc := 168) (v := (nI 0)) hx hb dMo_quotient_168 (by decide) ?_
          exact fw_iret (pc := 169) hx hb hr hlocks hw dMo_quotient_169 ⟨by rw [hsp], ⟨_, _, hS, hXb, fun _ => by rw [hsp]; exact ⟨by rw [wv_abs]; exact hxx, by rw [sgw_z hm0]; exact hsx⟩, hfr⟩, hoF⟩
        · refine lv_if_ne (pc := 150) (tgt := 157) hx hb dMo_quotient_150 (by decide) (fun _ => ?_) (fun hc => absurd hc (nI_ne0 (Nat.pos_of_ne_zero (fun h9 => by have := hlz8.mp h9; omega)) (by omega)))
          refine lv_iload (pc := 157) hx hb dMo_quotient_157 (lv_at hl 1 rfl) ?_
          refine lv_if_eq (pc := 159) (tgt := 166) hx hb dMo_quotient_159 (by decide) (fun hc => absurd hc (show ¬ nI 1 = 0 by decide)) (fun _ => ?_)
          refine lv_iconst (pc := 162) (v := (-1)) hx hb dMo_quotient_162 (by decide) ?_
          refine lv_goto (pc := 163) (tgt := 167) hx hb dMo_quotient_163 (by decide) ?_
          refine fw_iastN (pc := 167) (f2 := va_up S65 (x9) ((-1))) hx hb hK.1 hw 0 b2 rfl (x9) (by omega) (by decide) (rfl) dMo_quotient_167 (fun H locs hw => ?_)
          obtain ⟨w218, e218⟩ : ∃ w_, w_ = fw_up w216 (b + 2) (.inl (cI, 24, .inl (va_up S65 (x9) ((-1))))) := ⟨_, rfl⟩
          have hw : fw_H D kCl (fw_A w (sz)) s.heap w218 (sz) H locs := by rw [e218]; exact hw
          have b0_ : w218 (b) = some (.inr (10, [.int (nI (I 0)), .ref (b + 1), .ref (b + 2), .int (nI (I 3)), .ref (b + 3), .ref (b + 4), .int (nI (I 6)), .int (nI (I 7)), .ref (b + 5), .ref (b + 6), .int (nI (I 10)), .int (nI (I 11)), .int (nI (I 12)), .int (nI (I 13)), .ref (b + 7), .ref (b + 8), .int (nI (I 16)), .int (nI (I 17)), .int (nI (I 18)), .int (nI (I 19))])) := by rw [e218, fw_un (by omega)]; exact b0
          have b1_ : w218 (b + 1) = some (.inl (cL, 1536, .inr (.inl (fun i => lN (mC X64 i))))) := by rw [e218, fw_un (by omega)]; exact b1
          have b2_ : w218 (b + 2) = some (.inl (cI, 24, .inl (va_up S65 (x9) ((-1))))) := by rw [e218]; exact fw_us _ _ _
          have b0 := b0_
          have b1 := b1_
          have b2 := b2_
          have hS : moS cI cL w218 b I K (va_up S65 (x9) ((-1))) (mC X64) := moS.cs hS b1 b2 (fun q h1 h2 => by rw [e218, fw_un h2])
          have hoF : ∀ q, q < b ∨ b + 9 ≤ q → w218 q = w q := fun q h9 => by rw [e218, fw_un (by omega)]; exact hoF q h9
          obtain ⟨S67, eS67⟩ : ∃ S_, S_ = va_up S65 (x9) ((-1)) := ⟨_, rfl⟩
          rw [← eS67] at hS
          have hv9 : ((-1) : Int32) = (-1) := rfl
          have hsy : S67 (yp) = sg32 b9 := by rw [eS67, up_o (by omega)]; exact hsy
          have hsO : S67 (23) = nI 1 := by rw [eS67, up_o (by omega)]; exact hsO
          have hsQ : S67 (20) = nI 0 := by rw [eS67, up_o (by omega)]; exact hsQ
          have hsx : S67 (x9) = (-1) := by rw [eS67]; exact up_s.trans hv9
          have hfr : ∀ p, p ≠ x9 → p < 18 ∨ 22 < p → X64 p = X p ∧ S67 p = S p := fun p h1 h2 => by rw [eS67, up_o (by omega)]; exact hfr p h1 h2
          have b0 : w218 b = some (.inr (10, [.int (nI (I 0)), .ref (b + 1), .ref (b + 2), .int (nI (I 3)), .ref (b + 3), .ref (b + 4), .int (nI (I 6)), .int (nI (I 7)), .ref (b + 5), .ref (b + 6), .int (nI (I 10)), .int (nI (I 11)), .int (nI (I 12)), .int (nI (I 13)), .ref (b + 7), .ref (b + 8), .int (nI (I 16)), .int (nI (I 17)), .int (nI (I 18)), .int (nI (I 19))])) := hS.1
          have b1 : w218 (b + 1) = some (.inl (cL, 1536, .inr (.inl (fun i => lN (mC X64 i))))) := hS.2.1
          have b2 : w218 (b + 2) = some (.inl (cI, 24, .inl (S67))) := hS.2.2.1
          refine lv_iconst (pc := 168) (v := (nI 0)) hx hb dMo_quotient_168 (by decide) ?_
          exact fw_iret (pc := 169) hx hb hr hlocks hw dMo_quotient_169 ⟨by rw [hsp], ⟨_, _, hS, hXb, fun _ => by rw [hsp]; exact ⟨by rw [wv_abs]; exact hxx, by rw [sgw_1 hm0]; exact hsx⟩, hfr⟩, hoF⟩
  · rw [show (sg32 b9 : Int32) = nI 0 from (sg32_z hb90)]
    refine lv_if_ne (pc := 6) (tgt := 11) hx hb dMo_quotient_6 (by decide) (fun hc => absurd hc (fun h => h (by decide))) (fun _ => ?_)
    refine lv_iconst (pc := 9) (v := (nI 2)) hx hb dMo_quotient_9 (by decide) ?_
    have hsp : sQuo a9 b9 = (2, a9) := if_pos hb90
    exact fw_iret (pc := 10) hx hb hr hlocks hw dMo_quotient_10 ⟨by rw [hsp], ⟨_, _, hS, hXb, fun h9 => absurd h9 (by rw [hsp]; show ¬ (2 : Nat) = 0; decide), hfr⟩, hoF⟩
  · rw [show (sg32 b9 : Int32) = nI 1 from (sg32_p hb90)]
    refine lv_if_ne (pc := 6) (tgt := 11) hx hb dMo_quotient_6 (by decide) (fun _ => ?_) (fun hc => absurd hc (by decide))
    have hbne : ¬ b9 = 0 := by omega
    have hzb : sgz b9 = 0 := if_neg (by omega)
    refine lv_aload_n (pc := 11) hx hb dMo_quotient_11 rfl (lv_at hl 0 rfl) ?_
    refine fw_get (pc := 12) (ci := 10) (v := .ref (b + 2)) (C := RMo) (T := TMo) (N := 20) hx hb hW in_Mo hown hK.1 hw b0 rfl 2 (by decide) (hW _ lf_Mo_13) (fun _ h => h) rfl dMo_quotient_12 ?_
    refine lv_iload_n (pc := 15) hx hb dMo_quotient_15 rfl (lv_at hl 1 rfl) ?_
    refine fw_ialdN (pc := 16) (x := S (x9)) hx hb hK.1 hw 0 b2 rfl (x9) (by omega) (by decide) rfl dMo_quotient_16 ?_
    rw [show (S (x9) : Int32) = sg32 a9 from hsx]
    refine lv_aload_n (pc := 17) hx hb dMo_quotient_17 rfl (lv_at hl 0 rfl) ?_
    refine fw_get (pc := 18) (ci := 10) (v := .ref (b + 2)) (C := RMo) (T := TMo) (N := 20) hx hb hW in_Mo hown hK.1 hw b0 rfl 2 (by decide) (hW _ lf_Mo_13) (fun _ h => h) rfl dMo_quotient_18 ?_
    refine lv_iload_n (pc := 21) hx hb dMo_quotient_21 rfl (lv_at hl 2 rfl) ?_
    refine fw_ialdN (pc := 22) (x := S (yp)) hx hb hK.1 hw 0 b2 rfl (yp) (by omega) (by decide) rfl dMo_quotient_22 ?_
    rw [show (S (yp) : Int32) = sg32 b9 from hsy]
    rcases Int.lt_trichotomy a9 0 with ha90 | ha90 | ha90
    · rw [sg32_n ha90, sg32_p hb90]
      refine lv_imul (pc := 23) hx hb dMo_quotient_23 ?_
      rw [show (((-1) * nI 1) : Int32) = (-1) from (by decide)]
      refine lv_if_ge (pc := 24) (tgt := 31) hx hb dMo_quotient_24 (by decide) (fun hc => absurd hc (by decide)) (fun _ => ?_)
      have hza : sgz a9 = 1 := if_pos ha90
      refine lv_iconst (pc := 27) (v := (nI 1)) hx hb dMo_quotient_27 (by decide) ?_
      refine lv_goto (pc := 28) (tgt := 32) hx hb dMo_quotient_28 (by decide) ?_
      refine lv_istore (pc := 32) (lv' := [(4, .int (nI 1)), (0, .ref b), (1, .int (nI x9)), (2, .int (nI yp)), (3, .int (nI 0))]) hx hb dMo_quotient_32 hl (by decide) rfl (fun ls hl => ?_)
      refine lv_aload_n (pc := 34) hx hb dMo_quotient_34 rfl (lv_at hl 1 rfl) ?_
      refine lv_iload_n (pc := 35) hx hb dMo_quotient_35 rfl (lv_at hl 2 rfl) ?_
      refine lv_iload_n (pc := 36) hx hb dMo_quotient_36 rfl (lv_at hl 3 rfl) ?_
      have hxx0 := hxx
      have hxy0 := hxy
      refine fw_cV (pc := 37) (As := [.int (nI x9), .int (nI yp)]) (rest := []) ⟨hx, hb, hml, hown, hW⟩ (c_Mo_divide (pa := x9) (pb := yp) hS hXb (by omega) (by omega) (by omega) (by omega) (by omega) (by rw [hxy]; omega)) (cwV 2 hW (kw_V lm_Mo_159 im_Mo_divide se_Mo_divide ini_Mo cd_Mo_divide) rfl rfl rfl (by decide +kernel) ⟨Nat.le_of_ble_eq_true rfl, Nat.le_of_ble_eq_true rfl⟩) hK hw b0 rfl rfl hl.1 rfl (Nat.le_of_ble_eq_true rfl) dMo_quotient_37 ⟨Nat.le_of_ble_eq_true rfl, Nat.le_of_ble_eq_true rfl⟩ (fun v w219 H locs hq hw => ?_)
      obtain ⟨rfl, hS, hn9⟩ := hq
      have hoF : ∀ q, q < b ∨ b + 9 ≤ q → w219 q = w q := fun q h9 => (hn9 q h9).trans (hoF q h9)
      obtain ⟨q9, hq9⟩ : ∃ q9, q9 = Int.natAbs a9 / Int.natAbs b9 := ⟨_, rfl⟩
      obtain ⟨r9, hr9⟩ : ∃ r9, r9 = Int.natAbs a9 % Int.natAbs b9 := ⟨_, rfl⟩
      have hql : q9 ≤ Int.natAbs a9 := by rw [hq9]; exact Nat.div_le_self _ _
      have hrl : r9 < Int.natAbs b9 := by rw [hr9]; exact Nat.mod_lt _ (by omega)
      have hB9 : q9 < nM ^ 64 := Nat.lt_trans (Nat.lt_of_le_of_lt hql a97) p64
      have hB8 : r9 < nM ^ 64 := Nat.lt_trans (Nat.lt_trans hrl b97) p64
      obtain ⟨X68, eX68⟩ : ∃ X_, X_ = va_up X (20) (X (x9) / X (yp)) := ⟨_, rfl⟩
      rw [← eX68] at hS
      have hv9 : X (x9) / X (yp) = q9 := (by rw [hxx0, hxy0, hq9])
      have hxx : X68 (x9) = Int.natAbs a9 := by rw [eX68, up_o (by omega)]; exact hxx
      have hxy : X68 (yp) = Int.natAbs b9 := by rw [eX68, up_o (by omega)]; exact hxy
      have hxO : X68 (23) = 1 := by rw [eX68, up_o (by omega)]; exact hxO
      have hxQ : X68 (20) = q9 := by rw [eX68]; exact up_s.trans hv9
      have hXb : ∀ p, X68 p < nM ^ 64 := fun p => by (rw [eX68]; unfold va_up; split; (rw [hv9]; exact hB9); exact hXb p)
      have hfr : ∀ p, p ≠ x9 → p < 18 ∨ 22 < p → X68 p = X p ∧ S p = S p := fun p h1 h2 => by rw [eX68, up_o (by omega)]; exact hfr p h1 h2
      obtain ⟨X69, eX69⟩ : ∃ X_, X_ = va_up X68 (x9) (X (x9) % X (yp)) := ⟨_, rfl⟩
      rw [← eX69] at hS
      have hv9 : X (x9) % X (yp) = r9 := (by rw [hxx0, hxy0, hr9])
      have hxy : X69 (yp) = Int.natAbs b9 := by rw [eX69, up_o (by omega)]; exact hxy
      have hxO : X69 (23) = 1 := by rw [eX69, up_o (by omega)]; exact hxO
      have hxQ : X69 (20) = q9 := by rw [eX69, up_o (by omega)]; exact hxQ
      have hxx : X69 (x9) = r9 := by rw [eX69]; exact up_s.trans hv9
      have hXb : ∀ p, X69 p < nM ^ 64 := fun p => by (rw [eX69]; unfold va_up; split; (rw [hv9]; exact hB8); exact hXb p)
      have hfr : ∀ p, p ≠ x9 → p < 18 ∨ 22 < p → X69 p = X p ∧ S p = S p := fun p h1 h2 => by rw [eX69, up_o (by omega)]; exact hfr p h1 h2
      obtain ⟨S70, eS70⟩ : ∃ S_, S_ = va_up S (20) (nI 0) := ⟨_, rfl⟩
      rw [← eS70] at hS
      have hv9 : (nI 0 : Int32) = nI 0 := rfl
      have hsx : S70 (x9) = sg32 a9 := by rw [eS70, up_o (by omega)]; exact hsx
      have hsy : S70 (yp) = sg32 b9 := by rw [eS70, up_o (by omega)]; exact hsy
      have hsO : S70 (23) = nI 1 := by rw [eS70, up_o (by omega)]; exact hsO
      have hsQ : S70 (20) = nI 0 := by rw [eS70]; exact up_s.trans hv9
      have hfr : ∀ p, p ≠ x9 → p < 18 ∨ 22 < p → X69 p = X p ∧ S70 p = S p := fun p h1 h2 => by rw [eS70, up_o (by omega)]; exact hfr p h1 h2
      have b0 : w219 b = some (.inr (10, [.int (nI (I 0)), .ref (b + 1), .ref (b + 2), .int (nI (I 3)), .ref (b + 3), .ref (b + 4), .int (nI (I 6)), .int (nI (I 7)), .ref (b + 5), .ref (b + 6), .int (nI (I 10)), .int (nI (I 11)), .int (nI (I 12)), .int (nI (I 13)), .ref (b + 7), .ref (b + 8), .int (nI (I 16)), .int (nI (I 17)), .int (nI (I 18)), .int (nI (I 19))])) := hS.1
      have b1 : w219 (b + 1) = some (.inl (cL, 1536, .inr (.inl (fun i => lN (mC X69 i))))) := hS.2.1
      have b2 : w219 (b + 2) = some (.inl (cI, 24, .inl (S70))) := hS.2.2.1
      refine W.eq (g2 := F0 m 40 ls []) rfl ?_
      refine lv_aload_n (pc := 40) hx hb dMo_quotient_40 rfl (lv_at hl 1 rfl) ?_
      refine lv_iload_n (pc := 41) hx hb dMo_quotient_41 rfl (lv_at hl 2 rfl) ?_
      refine fw_cVR (pc := 42) (As := [.int (nI x9)]) (rest := []) ⟨hx, hb, hml, hown, hW⟩ (c_Mo_limbs (p0 := x9) hS hXb (by omega)) (cwV 1 hW (kw_V lm_Mo_128 im_Mo_limbs se_Mo_limbs ini_Mo cd_Mo_limbs) rfl rfl rfl (by decide +kernel) ⟨Nat.le_of_ble_eq_true rfl, Nat.le_of_ble_eq_true rfl⟩) hK hw b0 rfl rfl hl.1 rfl (Nat.le_of_ble_eq_true rfl) dMo_quotient_42 ⟨Nat.le_of_ble_eq_true rfl, Nat.le_of_ble_eq_true rfl⟩ (fun v hq => ?_)
      obtain ⟨nl9, rfl, hnl, hml9⟩ := hq
      rw [hxx] at hml9
      have hlz := ml_zero hml9
      refine W.eq (g2 := F0 m 45 ls [.int (nI nl9)]) rfl ?_
      rcases Nat.eq_zero_or_pos r9 with hr0 | hr0
      · rw [show (nI nl9 : Int32) = nI 0 from (by rw [hlz.mpr hr0])]
        refine lv_if_le (pc := 45) (tgt := 52) hx hb dMo_quotient_45 (by decide) (fun _ => ?_) (fun hc => absurd (show nI 0 ≤ 0 by decide) hc)
        refine lv_iconst (pc := 52) (v := (nI 0)) hx hb dMo_quotient_52 (by decide) ?_
        refine lv_istore (pc := 53) (lv' := [(5, .int (nI 0)), (4, .int (nI 1)), (0, .ref b), (1, .int (nI x9)), (2, .int (nI yp)), (3, .int (nI 0))]) hx hb dMo_quotient_53 hl (by decide) rfl (fun ls hl => ?_)
        refine lv_iload_n (pc := 55) hx hb dMo_quotient_55 rfl (lv_at hl 5 rfl) ?_
        refine lv_if_eq (pc := 56) (tgt := 115) hx hb dMo_quotient_56 (by decide) (fun _ => ?_) (fun hc => absurd (show nI 0 = 0 by decide) hc)
        refine lv_iload (pc := 115) hx hb dMo_quotient_115 (lv_at hl 1 rfl) ?_
        refine lv_if_eq (pc := 117) (tgt := 133) hx hb dMo_quotient_117 (by decide) (fun hc => absurd hc (show ¬ nI 1 = 0 by decide)) (fun _ => ?_)
        refine lv_iload (pc := 120) hx hb dMo_quotient_120 (lv_at hl 0 rfl) ?_
        refine lv_if_eq (pc := 122) (tgt := 133) hx hb dMo_quotient_122 (by decide) (fun _ => ?_) (fun hc => absurd (show nI 0 = 0 by decide) hc)
        refine lv_aload_n (pc := 133) hx hb dMo_quotient_133 rfl (lv_at hl 2 rfl) ?_
        refine lv_bipush (pc := 134) (v := (nI 20)) hx hb dMo_quotient_134 (by decide) ?_
        refine lv_iload_n (pc := 136) hx hb dMo_quotient_136 rfl (lv_at hl 3 rfl) ?_
        refine fw_cV (pc := 137) (As := [.int (nI 20), .int (nI x9)]) (rest := []) ⟨hx, hb, hml, hown, hW⟩ (c_Mo_copy (pa := 20) (pc9 := x9) hS hXb (by omega) (by omega) (by omega)) (cwV 2 hW (kw_V lm_Mo_143 im_Mo_copy se_Mo_copy ini_Mo cd_Mo_copy) rfl rfl rfl (by decide +kernel) ⟨Nat.le_of_ble_eq_true rfl, Nat.le_of_ble_eq_true rfl⟩) hK hw b0 rfl rfl hl.1 rfl (Nat.le_of_ble_eq_true rfl) dMo_quotient_137 ⟨Nat.le_of_ble_eq_true rfl, Nat.le_of_ble_eq_true rfl⟩ (fun v w220 H locs hq hw => ?_)
        obtain ⟨rfl, hS, hn9⟩ := hq
        have hoF : ∀ q, q < b ∨ b + 9 ≤ q → w220 q = w q := fun q h9 => (hn9 q h9).trans (hoF q h9)
        have hB9 : q9 < nM ^ 64 := by rw [← hxQ]; exact hXb _
        obtain ⟨X71, eX71⟩ : ∃ X_, X_ = va_up X69 (x9) (X69 (20)) := ⟨_, rfl⟩
        rw [← eX71] at hS
        have hv9 : X69 (20) = q9 := hxQ
        have hxy : X71 (yp) = Int.natAbs b9 := by rw [eX71, up_o (by omega)]; exact hxy
        have hxO : X71 (23) = 1 := by rw [eX71, up_o (by omega)]; exact hxO
        have hxQ : X71 (20) = q9 := by rw [eX71, up_o (by omega)]; exact hxQ
        have hxx : X71 (x9) = q9 := by rw [eX71]; exact up_s.trans hv9
        have hXb : ∀ p, X71 p < nM ^ 64 := fun p => by (rw [eX71]; unfold va_up; split; (rw [hv9]; exact hB9); exact hXb p)
        have hfr : ∀ p, p ≠ x9 → p < 18 ∨ 22 < p → X71 p = X p ∧ S70 p = S p := fun p h1 h2 => by rw [eX71, up_o (by omega)]; exact hfr p h1 h2
        obtain ⟨S72, eS72⟩ : ∃ S_, S_ = va_up S70 (x9) (S70 (20)) := ⟨_, rfl⟩
        rw [← eS72] at hS
        have hv9 : (S70 (20) : Int32) = nI 0 := hsQ
        have hsy : S72 (yp) = sg32 b9 := by rw [eS72, up_o (by omega)]; exact hsy
        have hsO : S72 (23) = nI 1 := by rw [eS72, up_o (by omega)]; exact hsO
        have hsQ : S72 (20) = nI 0 := by rw [eS72, up_o (by omega)]; exact hsQ
        have hsx : S72 (x9) = nI 0 := by rw [eS72]; exact up_s.trans hv9
        have hfr : ∀ p, p ≠ x9 → p < 18 ∨ 22 < p → X71 p = X p ∧ S72 p = S p := fun p h1 h2 => by rw [eS72, up_o (by omega)]; exact hfr p h1 h2
        have b0 : w220 b = some (.inr (10, [.int (nI (I 0)), .ref (b + 1), .ref (b + 2), .int (nI (I 3)), .ref (b + 3), .ref (b + 4), .int (nI (I 6)), .int (nI (I 7)), .ref (b + 5), .ref (b + 6), .int (nI (I 10)), .int (nI (I 11)), .int (nI (I 12)), .int (nI (I 13)), .ref (b + 7), .ref (b + 8), .int (nI (I 16)), .int (nI (I 17)), .int (nI (I 18)), .int (nI (I 19))])) := hS.1
        have b1 : w220 (b + 1) = some (.inl (cL, 1536, .inr (.inl (fun i => lN (mC X71 i))))) := hS.2.1
        have b2 : w220 (b + 2) = some (.inl (cI, 24, .inl (S72))) := hS.2.2.1
        refine W.eq (g2 := F0 m 140 ls []) rfl ?_
        refine lv_aload_n (pc := 140) hx hb dMo_quotient_140 rfl (lv_at hl 2 rfl) ?_
        refine fw_get (pc := 141) (ci := 10) (v := .ref (b + 2)) (C := RMo) (T := TMo) (N := 20) hx hb hW in_Mo hown hK.1 hw b0 rfl 2 (by decide) (hW _ lf_Mo_13) (fun _ h => h) rfl dMo_quotient_141 ?_
        refine lv_iload_n (pc := 144) hx hb dMo_quotient_144 rfl (lv_at hl 3 rfl) ?_
        refine lv_aload_n (pc := 145) hx hb dMo_quotient_145 rfl (lv_at hl 2 rfl) ?_
        refine lv_iload_n (pc := 146) hx hb dMo_quotient_146 rfl (lv_at hl 3 rfl) ?_
        refine fw_cVR (pc := 147) (As := [.int (nI x9)]) (rest := [.int (nI x9), .ref (b + 2)]) ⟨hx, hb, hml, hown, hW⟩ (c_Mo_limbs (p0 := x9) hS hXb (by omega)) (cwV 1 hW (kw_V lm_Mo_128 im_Mo_limbs se_Mo_limbs ini_Mo cd_Mo_limbs) rfl rfl rfl (by decide +kernel) ⟨Nat.le_of_ble_eq_true rfl, Nat.le_of_ble_eq_true rfl⟩) hK hw b0 rfl rfl hl.1 rfl (Nat.le_of_ble_eq_true rfl) dMo_quotient_147 ⟨Nat.le_of_ble_eq_true rfl, Nat.le_of_ble_eq_true rfl⟩ (fun v hq => ?_)
        obtain ⟨nl8, rfl, hnl8, hml8⟩ := hq
        rw [hxx] at hml8
        have hlz8 := ml_zero hml8
        refine W.eq (g2 := F0 m 150 ls [.int (nI nl8), .int (nI x9), .ref (b + 2)]) rfl ?_
        have hsp : sQuo a9 b9 = (0, wv 1 (q9)) := by unfold sQuo; rw [if_neg hbne, hza, hzb, ← hq9, ← hr9]; rw [if_neg (by decide), if_pos (Or.inr hr0), Nat.add_zero]
        rcases Nat.eq_zero_or_pos (q9) with hm0 | hm0
        · rw [show (nI nl8 : Int32) = nI 0 from (by rw [hlz8.mpr hm0])]
          refine lv_if_ne (pc := 150) (tgt := 157) hx hb dMo_quotient_150 (by decide) (fun hc => absurd hc (fun h => h (by decide))) (fun _ => ?_)
          refine lv_iconst (pc := 153) (v := (nI 0)) hx hb dMo_quotient_153 (by decide) ?_
          refine lv_goto (pc := 154) (tgt := 167) hx hb dMo_quotient_154 (by decide) ?_
          refine fw_iastN (pc := 167) (f2 := va_up S72 (x9) (nI 0)) hx hb hK.1 hw 0 b2 rfl (x9) (by omega) (by decide) (rfl) dMo_quotient_167 (fun H locs hw => ?_)
          obtain ⟨w221, e221⟩ : ∃ w_, w_ = fw_up w220 (b + 2) (.inl (cI, 24, .inl (va_up S72 (x9) (nI 0)))) := ⟨_, rfl⟩
          have hw : fw_H D kCl (fw_A w (sz)) s.heap w221 (sz) H locs := by rw [e221]; exact hw
          have b0_ : w221 (b) = some (.inr (10, [.int (nI (I 0)), .ref (b + 1), .ref (b + 2), .int (nI (I 3)), .ref (b + 3), .ref (b + 4), .int (nI (I 6)), .int (nI (I 7)), .ref (b + 5), .ref (b + 6), .int (nI (I 10)), .int (nI (I 11)), .int (nI (I 12)), .int (nI (I 13)), .ref (b + 7), .ref (b + 8), .int (nI (I 16)), .int (nI (I 17)), .int (nI (I 18)), .int (nI (I 19))])) := by rw [e221, fw_un (by omega)]; exact b0
          have b1_ : w221 (b + 1) = some (.inl (cL, 1536, .inr (.inl (fun i => lN (mC X71 i))))) := by rw [e221, fw_un (by omega)]; exact b1
          have b2_ : w221 (b + 2) = some (.inl (cI, 24, .inl (va_up S72 (x9) (nI 0)))) := by rw [e221]; exact fw_us _ _ _
          have b0 := b0_
          have b1 := b1_
          have b2 := b2_
          have hS : moS cI cL w221 b I K (va_up S72 (x9) (nI 0)) (mC X71) := moS.cs hS b1 b2 (fun q h1 h2 => by rw [e221, fw_un h2])
          have hoF : ∀ q, q < b ∨ b + 9 ≤ q → w221 q = w q := fun q h9 => by rw [e221, fw_un (by omega)]; exact hoF q h9
          obtain ⟨S73, eS73⟩ : ∃ S_, S_ = va_up S72 (x9) (nI 0) := ⟨_, rfl⟩
          rw [← eS73] at hS
          have hv9 : (nI 0 : Int32) = nI 0 := rfl
          have hsy : S73 (yp) = sg32 b9 := by rw [eS73, up_o (by omega)]; exact hsy
          have hsO : S73 (23) = nI 1 := by rw [eS73, up_o (by omega)]; exact hsO
          have hsQ : S73 (20) = nI 0 := by rw [eS73, up_o (by omega)]; exact hsQ
          have hsx : S73 (x9) = nI 0 := by rw [eS73]; exact up_s.trans hv9
          have hfr : ∀ p, p ≠ x9 → p < 18 ∨ 22 < p → X71 p = X p ∧ S73 p = S p := fun p h1 h2 => by rw [eS73, up_o (by omega)]; exact hfr p h1 h2
          have b0 : w221 b = some (.inr (10, [.int (nI (I 0)), .ref (b + 1), .ref (b + 2), .int (nI (I 3)), .ref (b + 3), .ref (b + 4), .int (nI (I 6)), .int (nI (I 7)), .ref (b + 5), .ref (b + 6), .int (nI (I 10)), .int (nI (I 11)), .int (nI (I 12)), .int (nI (I 13)), .ref (b + 7), .ref (b + 8), .int (nI (I 16)), .int (nI (I 17)), .int (nI (I 18)), .int (nI (I 19))])) := hS.1
          have b1 : w221 (b + 1) = some (.inl (cL, 1536, .inr (.inl (fun i => lN (mC X71 i))))) := hS.2.1
          have b2 : w221 (b + 2) = some (.inl (cI, 24, .inl (S73))) := hS.2.2.1
          refine lv_iconst (pc := 168) (v := (nI 0)) hx hb dMo_quotient_168 (by decide) ?_
          exact fw_iret (pc := 169) hx hb hr hlocks hw dMo_quotient_169 ⟨by rw [hsp], ⟨_, _, hS, hXb, fun _ => by rw [hsp]; exact ⟨by rw [wv_abs]; exact hxx, by rw [sgw_z hm0]; exact hsx⟩, hfr⟩, hoF⟩
        · refine lv_if_ne (pc := 150) (tgt := 157) hx hb dMo_quotient_150 (by decide) (fun _ => ?_) (fun hc => absurd hc (nI_ne0 (Nat.pos_of_ne_zero (fun h9 => by have := hlz8.mp h9; omega)) (by omega)))
          refine lv_iload (pc := 157) hx hb dMo_quotient_157 (lv_at hl 1 rfl) ?_
          refine lv_if_eq (pc := 159) (tgt := 166) hx hb dMo_quotient_159 (by decide) (fun hc => absurd hc (show ¬ nI 1 = 0 by decide)) (fun _ => ?_)
          refine lv_iconst (pc := 162) (v := (-1)) hx hb dMo_quotient_162 (by decide) ?_
          refine lv_goto (pc := 163) (tgt := 167) hx hb dMo_quotient_163 (by decide) ?_
          refine fw_iastN (pc := 167) (f2 := va_up S72 (x9) ((-1))) hx hb hK.1 hw 0 b2 rfl (x9) (by omega) (by decide) (rfl) dMo_quotient_167 (fun H locs hw => ?_)
          obtain ⟨w222, e222⟩ : ∃ w_, w_ = fw_up w220 (b + 2) (.inl (cI, 24, .inl (va_up S72 (x9) ((-1))))) := ⟨_, rfl⟩
          have hw : fw_H D kCl (fw_A w (sz)) s.heap w222 (sz) H locs := by rw [e222]; exact hw
          have b0_ : w222 (b) = some (.inr (10, [.int (nI (I 0)), .ref (b + 1), .ref (b + 2), .int (nI (I 3)), .ref (b + 3), .ref (b + 4), .int (nI (I 6)), .int (nI (I 7)), .ref (b + 5), .ref (b + 6), .int (nI (I 10)), .int (nI (I 11)), .int (nI (I 12)), .int (nI (I 13)), .ref (b + 7), .ref (b + 8), .int (nI (I 16)), .int (nI (I 17)), .int (nI (I 18)), .int (nI (I 19))])) := by rw [e222, fw_un (by omega)]; exact b0
          have b1_ : w222 (b + 1) = some (.inl (cL, 1536, .inr (.inl (fun i => lN (mC X71 i))))) := by rw [e222, fw_un (by omega)]; exact b1
          have b2_ : w222 (b + 2) = some (.inl (cI, 24, .inl (va_up S72 (x9) ((-1))))) := by rw [e222]; exact fw_us _ _ _
          have b0 := b0_
          have b1 := b1_
          have b2 := b2_
          have hS : moS cI cL w222 b I K (va_up S72 (x9) ((-1))) (mC X71) := moS.cs hS b1 b2 (fun q h1 h2 => by rw [e222, fw_un h2])
          have hoF : ∀ q, q < b ∨ b + 9 ≤ q → w222 q = w q := fun q h9 => by rw [e222, fw_un (by omega)]; exact hoF q h9
          obtain ⟨S74, eS74⟩ : ∃ S_, S_ = va_up S72 (x9) ((-1)) := ⟨_, rfl⟩
          rw [← eS74] at hS
          have hv9 : ((-1) : Int32) = (-1) := rfl
          have hsy : S74 (yp) = sg32 b9 := by rw [eS74, up_o (by omega)]; exact hsy
          have hsO : S74 (23) = nI 1 := by rw [eS74, up_o (by omega)]; exact hsO
          have hsQ : S74 (20) = nI 0 := by rw [eS74, up_o (by omega)]; exact hsQ
          have hsx : S74 (x9) = (-1) := by rw [eS74]; exact up_s.trans hv9
          have hfr : ∀ p, p ≠ x9 → p < 18 ∨ 22 < p → X71 p = X p ∧ S74 p = S p := fun p h1 h2 => by rw [eS74, up_o (by omega)]; exact hfr p h1 h2
          have b0 : w222 b = some (.inr (10, [.int (nI (I 0)), .ref (b + 1), .ref (b + 2), .int (nI (I 3)), .ref (b + 3), .ref (b + 4), .int (nI (I 6)), .int (nI (I 7)), .ref (b + 5), .ref (b + 6), .int (nI (I 10)), .int (nI (I 11)), .int (nI (I 12)), .int (nI (I 13)), .ref (b + 7), .ref (b + 8), .int (nI (I 16)), .int (nI (I 17)), .int (nI (I 18)), .int (nI (I 19))])) := hS.1
          have b1 : w222 (b + 1) = some (.inl (cL, 1536, .inr (.inl (fun i => lN (mC X71 i))))) := hS.2.1
          have b2 : w222 (b + 2) = some (.inl (cI, 24, .inl (S74))) := hS.2.2.1
          refine lv_iconst (pc := 168) (v := (nI 0)) hx hb dMo_quotient_168 (by decide) ?_
          exact fw_iret (pc := 169) hx hb hr hlocks hw dMo_quotient_169 ⟨by rw [hsp], ⟨_, _, hS, hXb, fun _ => by rw [hsp]; exact ⟨by rw [wv_abs]; exact hxx, by rw [sgw_1 hm0]; exact hsx⟩, hfr⟩, hoF⟩
      · refine lv_if_le (pc := 45) (tgt := 52) hx hb dMo_quotient_45 (by decide) (fun hc => absurd hc (nI_nle (Nat.pos_of_ne_zero (fun h9 => by have := hlz.mp h9; omega)) (by omega))) (fun _ => ?_)
        refine lv_iconst (pc := 48) (v := (nI 1)) hx hb dMo_quotient_48 (by decide) ?_
        refine lv_goto (pc := 49) (tgt := 53) hx hb dMo_quotient_49 (by decide) ?_
        refine lv_istore (pc := 53) (lv' := [(5, .int (nI 1)), (4, .int (nI 1)), (0, .ref b), (1, .int (nI x9)), (2, .int (nI yp)), (3, .int (nI 0))]) hx hb dMo_quotient_53 hl (by decide) rfl (fun ls hl => ?_)
        refine lv_iload_n (pc := 55) hx hb dMo_quotient_55 rfl (lv_at hl 5 rfl) ?_
        refine lv_if_eq (pc := 56) (tgt := 115) hx hb dMo_quotient_56 (by decide) (fun _ => ?_) (fun hc => absurd (show nI 0 = 0 by decide) hc)
        refine lv_iload (pc := 115) hx hb dMo_quotient_115 (lv_at hl 1 rfl) ?_
        refine lv_if_eq (pc := 117) (tgt := 133) hx hb dMo_quotient_117 (by decide) (fun hc => absurd hc (show ¬ nI 1 = 0 by decide)) (fun _ => ?_)
        refine lv_iload (pc := 120) hx hb dMo_quotient_120 (lv_at hl 0 rfl) ?_
        refine lv_if_eq (pc := 122) (tgt := 133) hx hb dMo_quotient_122 (by decide) (fun hc => absurd hc (show ¬ nI 1 = 0 by decide)) (fun _ => ?_)
        refine lv_aload_n (pc := 125) hx hb dMo_quotient_125 rfl (lv_at hl 2 rfl) ?_
        refine lv_bipush (pc := 126) (v := (nI 20)) hx hb dMo_quotient_126 (by decide) ?_
        refine lv_bipush (pc := 128) (v := (nI 23)) hx hb dMo_quotient_128 (by decide) ?_
        refine fw_cV (pc := 130) (As := [.int (nI 20), .int (nI 23)]) (rest := []) ⟨hx, hb, hml, hown, hW⟩ (c_Mo_addTo (pa := 20) (pb := 23) hS hXb (by omega) (by omega) (by omega)) (cwV 2 hW (kw_V lm_Mo_146 im_Mo_addTo se_Mo_addTo ini_Mo cd_Mo_addTo) rfl rfl rfl (by decide +kernel) ⟨Nat.le_of_ble_eq_true rfl, Nat.le_of_ble_eq_true rfl⟩) hK hw b0 rfl rfl hl.1 rfl (Nat.le_of_ble_eq_true rfl) dMo_quotient_130 ⟨Nat.le_of_ble_eq_true rfl, Nat.le_of_ble_eq_true rfl⟩ (fun v w223 H locs hq hw => ?_)
        obtain ⟨rfl, hS, hn9⟩ := hq
        have hoF : ∀ q, q < b ∨ b + 9 ≤ q → w223 q = w q := fun q h9 => (hn9 q h9).trans (hoF q h9)
        have hB7 : q9 + 1 < nM ^ 64 := Nat.lt_of_le_of_lt (show q9 + 1 ≤ 2 ^ 768 by omega) p64
        obtain ⟨X75, eX75⟩ : ∃ X_, X_ = va_up X69 (20) ((X69 (20) + X69 (23)) % nM ^ 64) := ⟨_, rfl⟩
        rw [← eX75] at hS
        have hv9 : (X69 (20) + X69 (23)) % nM ^ 64 = q9 + 1 := (by rw [hxQ, hxO, Nat.mod_eq_of_lt hB7])
        have hxx : X75 (x9) = r9 := by rw [eX75, up_o (by omega)]; exact hxx
        have hxy : X75 (yp) = Int.natAbs b9 := by rw [eX75, up_o (by omega)]; exact hxy
        have hxO : X75 (23) = 1 := by rw [eX75, up_o (by omega)]; exact hxO
        have hxQ : X75 (20) = q9 + 1 := by rw [eX75]; exact up_s.trans hv9
        have hXb : ∀ p, X75 p < nM ^ 64 := fun p => by (rw [eX75]; unfold va_up; split; (rw [hv9]; exact hB7); exact hXb p)
        have hfr : ∀ p, p ≠ x9 → p < 18 ∨ 22 < p → X75 p = X p ∧ S70 p = S p := fun p h1 h2 => by rw [eX75, up_o (by omega)]; exact hfr p h1 h2
        have b0 : w223 b = some (.inr (10, [.int (nI (I 0)), .ref (b + 1), .ref (b + 2), .int (nI (I 3)), .ref (b + 3), .ref (b + 4), .int (nI (I 6)), .int (nI (I 7)), .ref (b + 5), .ref (b + 6), .int (nI (I 10)), .int (nI (I 11)), .int (nI (I 12)), .int (nI (I 13)), .ref (b + 7), .ref (b + 8), .int (nI (I 16)), .int (nI (I 17)), .int (nI (I 18)), .int (nI (I 19))])) := hS.1
        have b1 : w223 (b + 1) = some (.inl (cL, 1536, .inr (.inl (fun i => lN (mC X75 i))))) := hS.2.1
        have b2 : w223 (b + 2) = some (.inl (cI, 24, .inl (S70))) := hS.2.2.1
        refine W.eq (g2 := F0 m 133 ls []) rfl ?_
        refine lv_aload_n (pc := 133) hx hb dMo_quotient_133 rfl (lv_at hl 2 rfl) ?_
        refine lv_bipush (pc := 134) (v := (nI 20)) hx hb dMo_quotient_134 (by decide) ?_
        refine lv_iload_n (pc := 136) hx hb dMo_quotient_136 rfl (lv_at hl 3 rfl) ?_
        refine fw_cV (pc := 137) (As := [.int (nI 20), .int (nI x9)]) (rest := []) ⟨hx, hb, hml, hown, hW⟩ (c_Mo_copy (pa := 20) (pc9 := x9) hS hXb (by omega) (by omega) (by omega)) (cwV 2 hW (kw_V lm_Mo_143 im_Mo_copy se_Mo_copy ini_Mo cd_Mo_copy) rfl rfl rfl (by decide +kernel) ⟨Nat.le_of_ble_eq_true rfl, Nat.le_of_ble_eq_true rfl⟩) hK hw b0 rfl rfl hl.1 rfl (Nat.le_of_ble_eq_true rfl) dMo_quotient_137 ⟨Nat.le_of_ble_eq_true rfl, Nat.le_of_ble_eq_true rfl⟩ (fun v w224 H locs hq hw => ?_)
        obtain ⟨rfl, hS, hn9⟩ := hq
        have hoF : ∀ q, q < b ∨ b + 9 ≤ q → w224 q = w q := fun q h9 => (hn9 q h9).trans (hoF q h9)
        have hB9 : q9 + 1 < nM ^ 64 := by rw [← hxQ]; exact hXb _
        obtain ⟨X76, eX76⟩ : ∃ X_, X_ = va_up X75 (x9) (X75 (20)) := ⟨_, rfl⟩
        rw [← eX76] at hS
        have hv9 : X75 (20) = q9 + 1 := hxQ
        have hxy : X76 (yp) = Int.natAbs b9 := by rw [eX76, up_o (by omega)]; exact hxy
        have hxO : X76 (23) = 1 := by rw [eX76, up_o (by omega)]; exact hxO
        have hxQ : X76 (20) = q9 + 1 := by rw [eX76, up_o (by omega)]; exact hxQ
        have hxx : X76 (x9) = q9 + 1 := by rw [eX76]; exact up_s.trans hv9
        have hXb : ∀ p, X76 p < nM ^ 64 := fun p => by (rw [eX76]; unfold va_up; split; (rw [hv9]; exact hB9); exact hXb p)
        have hfr : ∀ p, p ≠ x9 → p < 18 ∨ 22 < p → X76 p = X p ∧ S70 p = S p := fun p h1 h2 => by rw [eX76, up_o (by omega)]; exact hfr p h1 h2
        obtain ⟨S77, eS77⟩ : ∃ S_, S_ = va_up S70 (x9) (S70 (20)) := ⟨_, rfl⟩
        rw [← eS77] at hS
        have hv9 : (S70 (20) : Int32) = nI 0 := hsQ
        have hsy : S77 (yp) = sg32 b9 := by rw [eS77, up_o (by omega)]; exact hsy
        have hsO : S77 (23) = nI 1 := by rw [eS77, up_o (by omega)]; exact hsO
        have hsQ : S77 (20) = nI 0 := by rw [eS77, up_o (by omega)]; exact hsQ
        have hsx : S77 (x9) = nI 0 := by rw [eS77]; exact up_s.trans hv9
        have hfr : ∀ p, p ≠ x9 → p < 18 ∨ 22 < p → X76 p = X p ∧ S77 p = S p := fun p h1 h2 => by rw [eS77, up_o (by omega)]; exact hfr p h1 h2
        have b0 : w224 b = some (.inr (10, [.int (nI (I 0)), .ref (b + 1), .ref (b + 2), .int (nI (I 3)), .ref (b + 3), .ref (b + 4), .int (nI (I 6)), .int (nI (I 7)), .ref (b + 5), .ref (b + 6), .int (nI (I 10)), .int (nI (I 11)), .int (nI (I 12)), .int (nI (I 13)), .ref (b + 7), .ref (b + 8), .int (nI (I 16)), .int (nI (I 17)), .int (nI (I 18)), .int (nI (I 19))])) := hS.1
        have b1 : w224 (b + 1) = some (.inl (cL, 1536, .inr (.inl (fun i => lN (mC X76 i))))) := hS.2.1
        have b2 : w224 (b + 2) = some (.inl (cI, 24, .inl (S77))) := hS.2.2.1
        refine W.eq (g2 := F0 m 140 ls []) rfl ?_
        refine lv_aload_n (pc := 140) hx hb dMo_quotient_140 rfl (lv_at hl 2 rfl) ?_
        refine fw_get (pc := 141) (ci := 10) (v := .ref (b + 2)) (C := RMo) (T := TMo) (N := 20) hx hb hW in_Mo hown hK.1 hw b0 rfl 2 (by decide) (hW _ lf_Mo_13) (fun _ h => h) rfl dMo_quotient_141 ?_
        refine lv_iload_n (pc := 144) hx hb dMo_quotient_144 rfl (lv_at hl 3 rfl) ?_
        refine lv_aload_n (pc := 145) hx hb dMo_quotient_145 rfl (lv_at hl 2 rfl) ?_
        refine lv_iload_n (pc := 146) hx hb dMo_quotient_146 rfl (lv_at hl 3 rfl) ?_
        refine fw_cVR (pc := 147) (As := [.int (nI x9)]) (rest := [.int (nI x9), .ref (b + 2)]) ⟨hx, hb, hml, hown, hW⟩ (c_Mo_limbs (p0 := x9) hS hXb (by omega)) (cwV 1 hW (kw_V lm_Mo_128 im_Mo_limbs se_Mo_limbs ini_Mo cd_Mo_limbs) rfl rfl rfl (by decide +kernel) ⟨Nat.le_of_ble_eq_true rfl, Nat.le_of_ble_eq_true rfl⟩) hK hw b0 rfl rfl hl.1 rfl (Nat.le_of_ble_eq_true rfl) dMo_quotient_147 ⟨Nat.le_of_ble_eq_true rfl, Nat.le_of_ble_eq_true rfl⟩ (fun v hq => ?_)
        obtain ⟨nl8, rfl, hnl8, hml8⟩ := hq
        rw [hxx] at hml8
        have hlz8 := ml_zero hml8
        refine W.eq (g2 := F0 m 150 ls [.int (nI nl8), .int (nI x9), .ref (b + 2)]) rfl ?_
        have hsp : sQuo a9 b9 = (0, wv 1 (q9 + 1)) := by unfold sQuo; rw [if_neg hbne, hza, hzb, ← hq9, ← hr9]; rw [if_neg (by decide), if_neg (fun h9 => h9.elim (by decide) (by omega))]
        rcases Nat.eq_zero_or_pos (q9 + 1) with hm0 | hm0
        · rw [show (nI nl8 : Int32) = nI 0 from (by rw [hlz8.mpr hm0])]
          refine lv_if_ne (pc := 150) (tgt := 157) hx hb dMo_quotient_150 (by decide) (fun hc => absurd hc (fun h => h (by decide))) (fun _ => ?_)
          refine lv_iconst (pc := 153) (v := (nI 0)) hx hb dMo_quotient_153 (by decide) ?_
          refine lv_goto (pc := 154) (tgt := 167) hx hb dMo_quotient_154 (by decide) ?_
          refine fw_iastN (pc := 167) (f2 := va_up S77 (x9) (nI 0)) hx hb hK.1 hw 0 b2 rfl (x9) (by omega) (by decide) (rfl) dMo_quotient_167 (fun H locs hw => ?_)
          obtain ⟨w225, e225⟩ : ∃ w_, w_ = fw_up w224 (b + 2) (.inl (cI, 24, .inl (va_up S77 (x9) (nI 0)))) := ⟨_, rfl⟩
          have hw : fw_H D kCl (fw_A w (sz)) s.heap w225 (sz) H locs := by rw [e225]; exact hw
          have b0_ : w225 (b) = some (.inr (10, [.int (nI (I 0)), .ref (b + 1), .ref (b + 2), .int (nI (I 3)), .ref (b + 3), .ref (b + 4), .int (nI (I 6)), .int (nI (I 7)), .ref (b + 5), .ref (b + 6), .int (nI (I 10)), .int (nI (I 11)), .int (nI (I 12)), .int (nI (I 13)), .ref (b + 7), .ref (b + 8), .int (nI (I 16)), .int (nI (I 17)), .int (nI (I 18)), .int (nI (I 19))])) := by rw [e225, fw_un (by omega)]; exact b0
          have b1_ : w225 (b + 1) = some (.inl (cL, 1536, .inr (.inl (fun i => lN (mC X76 i))))) := by rw [e225, fw_un (by omega)]; exact b1
          have b2_ : w225 (b + 2) = some (.inl (cI, 24, .inl (va_up S77 (x9) (nI 0)))) := by rw [e225]; exact fw_us _ _ _
          have b0 := b0_
          have b1 := b1_
          have b2 := b2_
          have hS : moS cI cL w225 b I K (va_up S77 (x9) (nI 0)) (mC X76) := moS.cs hS b1 b2 (fun q h1 h2 => by rw [e225, fw_un h2])
          have hoF : ∀ q, q < b ∨ b + 9 ≤ q → w225 q = w q := fun q h9 => by rw [e225, fw_un (by omega)]; exact hoF q h9
          obtain ⟨S78, eS78⟩ : ∃ S_, S_ = va_up S77 (x9) (nI 0) := ⟨_, rfl⟩
          rw [← eS78] at hS
          have hv9 : (nI 0 : Int32) = nI 0 := rfl
          have hsy : S78 (yp) = sg32 b9 := by rw [eS78, up_o (by omega)]; exact hsy
          have hsO : S78 (23) = nI 1 := by rw [eS78, up_o (by omega)]; exact hsO
          have hsQ : S78 (20) = nI 0 := by rw [eS78, up_o (by omega)]; exact hsQ
          have hsx : S78 (x9) = nI 0 := by rw [eS78]; exact up_s.trans hv9
          have hfr : ∀ p, p ≠ x9 → p < 18 ∨ 22 < p → X76 p = X p ∧ S78 p = S p := fun p h1 h2 => by rw [eS78, up_o (by omega)]; exact hfr p h1 h2
          have b0 : w225 b = some (.inr (10, [.int (nI (I 0)), .ref (b + 1), .ref (b + 2), .int (nI (I 3)), .ref (b + 3), .ref (b + 4), .int (nI (I 6)), .int (nI (I 7)), .ref (b + 5), .ref (b + 6), .int (nI (I 10)), .int (nI (I 11)), .int (nI (I 12)), .int (nI (I 13)), .ref (b + 7), .ref (b + 8), .int (nI (I 16)), .int (nI (I 17)), .int (nI (I 18)), .int (nI (I 19))])) := hS.1
          have b1 : w225 (b + 1) = some (.inl (cL, 1536, .inr (.inl (fun i => lN (mC X76 i))))) := hS.2.1
          have b2 : w225 (b + 2) = some (.inl (cI, 24, .inl (S78))) := hS.2.2.1
          refine lv_iconst (pc := 168) (v := (nI 0)) hx hb dMo_quotient_168 (by decide) ?_
          exact fw_iret (pc := 169) hx hb hr hlocks hw dMo_quotient_169 ⟨by rw [hsp], ⟨_, _, hS, hXb, fun _ => by rw [hsp]; exact ⟨by rw [wv_abs]; exact hxx, by rw [sgw_z hm0]; exact hsx⟩, hfr⟩, hoF⟩
        · refine lv_if_ne (pc := 150) (tgt := 157) hx hb dMo_quotient_150 (by decide) (fun _ => ?_) (fun hc => absurd hc (nI_ne0 (Nat.pos_of_ne_zero (fun h9 => by have := hlz8.mp h9; omega)) (by omega)))
          refine lv_iload (pc := 157) hx hb dMo_quotient_157 (lv_at hl 1 rfl) ?_
          refine lv_if_eq (pc := 159) (tgt := 166) hx hb dMo_quotient_159 (by decide) (fun hc => absurd hc (show ¬ nI 1 = 0 by decide)) (fun _ => ?_)
          refine lv_iconst (pc := 162) (v := (-1)) hx hb dMo_quotient_162 (by decide) ?_
          refine lv_goto (pc := 163) (tgt := 167) hx hb dMo_quotient_163 (by decide) ?_
          refine fw_iastN (pc := 167) (f2 := va_up S77 (x9) ((-1))) hx hb hK.1 hw 0 b2 rfl (x9) (by omega) (by decide) (rfl) dMo_quotient_167 (fun H locs hw => ?_)
          obtain ⟨w226, e226⟩ : ∃ w_, w_ = fw_up w224 (b + 2) (.inl (cI, 24, .inl (va_up S77 (x9) ((-1))))) := ⟨_, rfl⟩
          have hw : fw_H D kCl (fw_A w (sz)) s.heap w226 (sz) H locs := by rw [e226]; exact hw
          have b0_ : w226 (b) = some (.inr (10, [.int (nI (I 0)), .ref (b + 1), .ref (b + 2), .int (nI (I 3)), .ref (b + 3), .ref (b + 4), .int (nI (I 6)), .int (nI (I 7)), .ref (b + 5), .ref (b + 6), .int (nI (I 10)), .int (nI (I 11)), .int (nI (I 12)), .int (nI (I 13)), .ref (b + 7), .ref (b + 8), .int (nI (I 16)), .int (nI (I 17)), .int (nI (I 18)), .int (nI (I 19))])) := by rw [e226, fw_un (by omega)]; exact b0
          have b1_ : w226 (b + 1) = some (.inl (cL, 1536, .inr (.inl (fun i => lN (mC X76 i))))) := by rw [e226, fw_un (by omega)]; exact b1
          have b2_ : w226 (b + 2) = some (.inl (cI, 24, .inl (va_up S77 (x9) ((-1))))) := by rw [e226]; exact fw_us _ _ _
          have b0 := b0_
          have b1 := b1_
          have b2 := b2_
          have hS : moS cI cL w226 b I K (va_up S77 (x9) ((-1))) (mC X76) := moS.cs hS b1 b2 (fun q h1 h2 => by rw [e226, fw_un h2])
          have hoF : ∀ q, q < b ∨ b + 9 ≤ q → w226 q = w q := fun q h9 => by rw [e226, fw_un (by omega)]; exact hoF q h9
          obtain ⟨S79, eS79⟩ : ∃ S_, S_ = va_up S77 (x9) ((-1)) := ⟨_, rfl⟩
          rw [← eS79] at hS
          have hv9 : ((-1) : Int32) = (-1) := rfl
          have hsy : S79 (yp) = sg32 b9 := by rw [eS79, up_o (by omega)]; exact hsy
          have hsO : S79 (23) = nI 1 := by rw [eS79, up_o (by omega)]; exact hsO
          have hsQ : S79 (20) = nI 0 := by rw [eS79, up_o (by omega)]; exact hsQ
          have hsx : S79 (x9) = (-1) := by rw [eS79]; exact up_s.trans hv9
          have hfr : ∀ p, p ≠ x9 → p < 18 ∨ 22 < p → X76 p = X p ∧ S79 p = S p := fun p h1 h2 => by rw [eS79, up_o (by omega)]; exact hfr p h1 h2
          have b0 : w226 b = some (.inr (10, [.int (nI (I 0)), .ref (b + 1), .ref (b + 2), .int (nI (I 3)), .ref (b + 3), .ref (b + 4), .int (nI (I 6)), .int (nI (I 7)), .ref (b + 5), .ref (b + 6), .int (nI (I 10)), .int (nI (I 11)), .int (nI (I 12)), .int (nI (I 13)), .ref (b + 7), .ref (b + 8), .int (nI (I 16)), .int (nI (I 17)), .int (nI (I 18)), .int (nI (I 19))])) := hS.1
          have b1 : w226 (b + 1) = some (.inl (cL, 1536, .inr (.inl (fun i => lN (mC X76 i))))) := hS.2.1
          have b2 : w226 (b + 2) = some (.inl (cI, 24, .inl (S79))) := hS.2.2.1
          refine lv_iconst (pc := 168) (v := (nI 0)) hx hb dMo_quotient_168 (by decide) ?_
          exact fw_iret (pc := 169) hx hb hr hlocks hw dMo_quotient_169 ⟨by rw [hsp], ⟨_, _, hS, hXb, fun _ => by rw [hsp]; exact ⟨by rw [wv_abs]; exact hxx, by rw [sgw_1 hm0]; exact hsx⟩, hfr⟩, hoF⟩
    · rw [sg32_z ha90, sg32_p hb90]
      refine lv_imul (pc := 23) hx hb dMo_quotient_23 ?_
      rw [show ((nI 0 * nI 1) : Int32) = nI 0 from (by decide)]
      refine lv_if_ge (pc := 24) (tgt := 31) hx hb dMo_quotient_24 (by decide) (fun _ => ?_) (fun hc => absurd (by decide) hc)
      have hza : sgz a9 = 0 := if_neg (by omega)
      refine lv_iconst (pc := 31) (v := (nI 0)) hx hb dMo_quotient_31 (by decide) ?_
      refine lv_istore (pc := 32) (lv' := [(4, .int (nI 0)), (0, .ref b), (1, .int (nI x9)), (2, .int (nI yp)), (3, .int (nI 0))]) hx hb dMo_quotient_32 hl (by decide) rfl (fun ls hl => ?_)
      refine lv_aload_n (pc := 34) hx hb dMo_quotient_34 rfl (lv_at hl 1 rfl) ?_
      refine lv_iload_n (pc := 35) hx hb dMo_quotient_35 rfl (lv_at hl 2 rfl) ?_
      refine lv_iload_n (pc := 36) hx hb dMo_quotient_36 rfl (lv_at hl 3 rfl) ?_
      have hxx0 := hxx
      have hxy0 := hxy
      refine fw_cV (pc := 37) (As := [.int (nI x9), .int (nI yp)]) (rest := []) ⟨hx, hb, hml, hown, hW⟩ (c_Mo_divide (pa := x9) (pb := yp) hS hXb (by omega) (by omega) (by omega) (by omega) (by omega) (by rw [hxy]; omega)) (cwV 2 hW (kw_V lm_Mo_159 im_Mo_divide se_Mo_divide ini_Mo cd_Mo_divide) rfl rfl rfl (by decide +kernel) ⟨Nat.le_of_ble_eq_true rfl, Nat.le_of_ble_eq_true rfl⟩) hK hw b0 rfl rfl hl.1 rfl (Nat.le_of_ble_eq_true rfl) dMo_quotient_37 ⟨Nat.le_of_ble_eq_true rfl, Nat.le_of_ble_eq_true rfl⟩ (fun v w227 H locs hq hw => ?_)
      obtain ⟨rfl, hS, hn9⟩ := hq
      have hoF : ∀ q, q < b ∨ b + 9 ≤ q → w227 q = w q := fun q h9 => (hn9 q h9).trans (hoF q h9)
      obtain ⟨q9, hq9⟩ : ∃ q9, q9 = Int.natAbs a9 / Int.natAbs b9 := ⟨_, rfl⟩
      obtain ⟨r9, hr9⟩ : ∃ r9, r9 = Int.natAbs a9 % Int.natAbs b9 := ⟨_, rfl⟩
      have hql : q9 ≤ Int.natAbs a9 := by rw [hq9]; exact Nat.div_le_self _ _
      have hrl : r9 < Int.natAbs b9 := by rw [hr9]; exact Nat.mod_lt _ (by omega)
      have hB9 : q9 < nM ^ 64 := Nat.lt_trans (Nat.lt_of_le_of_lt hql a97) p64
      have hB8 : r9 < nM ^ 64 := Nat.lt_trans (Nat.lt_trans hrl b97) p64
      obtain ⟨X80, eX80⟩ : ∃ X_, X_ = va_up X (20) (X (x9) / X (yp)) := ⟨_, rfl⟩
      rw [← eX80] at hS
      have hv9 : X (x9) / X (yp) = q9 := (by rw [hxx0, hxy0, hq9])
      have hxx : X80 (x9) = Int.natAbs a9 := by rw [eX80, up_o (by omega)]; exact hxx
      have hxy : X80 (yp) = Int.natAbs b9 := by rw [eX80, up_o (by omega)]; exact hxy
      have hxO : X80 (23) = 1 := by rw [eX80, up_o (by omega)]; exact hxO
      have hxQ : X80 (20) = q9 := by rw [eX80]; exact up_s.trans hv9
      have hXb : ∀ p, X80 p < nM ^ 64 := fun p => by (rw [eX80]; unfold va_up; split; (rw [hv9]; exact hB9); exact hXb p)
      have hfr : ∀ p, p ≠ x9 → p < 18 ∨ 22 < p → X80 p = X p ∧ S p = S p := fun p h1 h2 => by rw [eX80, up_o (by omega)]; exact hfr p h1 h2
      obtain ⟨X81, eX81⟩ : ∃ X_, X_ = va_up X80 (x9) (X (x9) % X (yp)) := ⟨_, rfl⟩
      rw [← eX81] at hS
      have hv9 : X (x9) % X (yp) = r9 := (by rw [hxx0, hxy0, hr9])
      have hxy : X81 (yp) = Int.natAbs b9 := by rw [eX81, up_o (by omega)]; exact hxy
      have hxO : X81 (23) = 1 := by rw [eX81, up_o (by omega)]; exact hxO
      have hxQ : X81 (20) = q9 := by rw [eX81, up_o (by omega)]; exact hxQ
      have hxx : X81 (x9) = r9 := by rw [eX81]; exact up_s.trans hv9
      have hXb : ∀ p, X81 p < nM ^ 64 := fun p => by (rw [eX81]; unfold va_up; split; (rw [hv9]; exact hB8); exact hXb p)
      have hfr : ∀ p, p ≠ x9 → p < 18 ∨ 22 < p → X81 p = X p ∧ S p = S p := fun p h1 h2 => by rw [eX81, up_o (by omega)]; exact hfr p h1 h2
      obtain ⟨S82, eS82⟩ : ∃ S_, S_ = va_up S (20) (nI 0) := ⟨_, rfl⟩
      rw [← eS82] at hS
      have hv9 : (nI 0 : Int32) = nI 0 := rfl
      have hsx : S82 (x9) = sg32 a9 := by rw [eS82, up_o (by omega)]; exact hsx
      have hsy : S82 (yp) = sg32 b9 := by rw [eS82, up_o (by omega)]; exact hsy
      have hsO : S82 (23) = nI 1 := by rw [eS82, up_o (by omega)]; exact hsO
      have hsQ : S82 (20) = nI 0 := by rw [eS82]; exact up_s.trans hv9
      have hfr : ∀ p, p ≠ x9 → p < 18 ∨ 22 < p → X81 p = X p ∧ S82 p = S p := fun p h1 h2 => by rw [eS82, up_o (by omega)]; exact hfr p h1 h2
      have b0 : w227 b = some (.inr (10, [.int (nI (I 0)), .ref (b + 1), .ref (b + 2), .int (nI (I 3)), .ref (b + 3), .ref (b + 4), .int (nI (I 6)), .int (nI (I 7)), .ref (b + 5), .ref (b + 6), .int (nI (I 10)), .int (nI (I 11)), .int (nI (I 12)), .int (nI (I 13)), .ref (b + 7), .ref (b + 8), .int (nI (I 16)), .int (nI (I 17)), .int (nI (I 18)), .int (nI (I 19))])) := hS.1
      have b1 : w227 (b + 1) = some (.inl (cL, 1536, .inr (.inl (fun i => lN (mC X81 i))))) := hS.2.1
      have b2 : w227 (b + 2) = some (.inl (cI, 24, .inl (S82))) := hS.2.2.1
      refine W.eq (g2 := F0 m 40 ls []) rfl ?_
      refine lv_aload_n (pc := 40) hx hb dMo_quotient_40 rfl (lv_at hl 1 rfl) ?_
      refine lv_iload_n (pc := 41) hx hb dMo_quotient_41 rfl (lv_at hl 2 rfl) ?_
      refine fw_cVR (pc := 42) (As := [.int (nI x9)]) (rest := []) ⟨hx, hb, hml, hown, hW⟩ (c_Mo_limbs (p0 := x9) hS hXb (by omega)) (cwV 1 hW (kw_V lm_Mo_128 im_Mo_limbs se_Mo_limbs ini_Mo cd_Mo_limbs) rfl rfl rfl (by decide +kernel) ⟨Nat.le_of_ble_eq_true rfl, Nat.le_of_ble_eq_true rfl⟩) hK hw b0 rfl rfl hl.1 rfl (Nat.le_of_ble_eq_true rfl) dMo_quotient_42 ⟨Nat.le_of_ble_eq_true rfl, Nat.le_of_ble_eq_true rfl⟩ (fun v hq => ?_)
      obtain ⟨nl9, rfl, hnl, hml9⟩ := hq
      rw [hxx] at hml9
      have hlz := ml_zero hml9
      refine W.eq (g2 := F0 m 45 ls [.int (nI nl9)]) rfl ?_
      rcases Nat.eq_zero_or_pos r9 with hr0 | hr0
      · rw [show (nI nl9 : Int32) = nI 0 from (by rw [hlz.mpr hr0])]
        refine lv_if_le (pc := 45) (tgt := 52) hx hb dMo_quotient_45 (by decide) (fun _ => ?_) (fun hc => absurd (show nI 0 ≤ 0 by decide) hc)
        refine lv_iconst (pc := 52) (v := (nI 0)) hx hb dMo_quotient_52 (by decide) ?_
        refine lv_istore (pc := 53) (lv' := [(5, .int (nI 0)), (4, .int (nI 0)), (0, .ref b), (1, .int (nI x9)), (2, .int (nI yp)), (3, .int (nI 0))]) hx hb dMo_quotient_53 hl (by decide) rfl (fun ls hl => ?_)
        refine lv_iload_n (pc := 55) hx hb dMo_quotient_55 rfl (lv_at hl 5 rfl) ?_
        refine lv_if_eq (pc := 56) (tgt := 115) hx hb dMo_quotient_56 (by decide) (fun _ => ?_) (fun hc => absurd (show nI 0 = 0 by decide) hc)
        refine lv_iload (pc := 115) hx hb dMo_quotient_115 (lv_at hl 1 rfl) ?_
        refine lv_if_eq (pc := 117) (tgt := 133) hx hb dMo_quotient_117 (by decide) (fun _ => ?_) (fun hc => absurd (show nI 0 = 0 by decide) hc)
        refine lv_aload_n (pc := 133) hx hb dMo_quotient_133 rfl (lv_at hl 2 rfl) ?_
        refine lv_bipush (pc := 134) (v := (nI 20)) hx hb dMo_quotient_134 (by decide) ?_
        refine lv_iload_n (pc := 136) hx hb dMo_quotient_136 rfl (lv_at hl 3 rfl) ?_
        refine fw_cV (pc := 137) (As := [.int (nI 20), .int (nI x9)]) (rest := []) ⟨hx, hb, hml, hown, hW⟩ (c_Mo_copy (pa := 20) (pc9 := x9) hS hXb (by omega) (by omega) (by omega)) (cwV 2 hW (kw_V lm_Mo_143 im_Mo_copy se_Mo_copy ini_Mo cd_Mo_copy) rfl rfl rfl (by decide +kernel) ⟨Nat.le_of_ble_eq_true rfl, Nat.le_of_ble_eq_true rfl⟩) hK hw b0 rfl rfl hl.1 rfl (Nat.le_of_ble_eq_true rfl) dMo_quotient_137 ⟨Nat.le_of_ble_eq_true rfl, Nat.le_of_ble_eq_true rfl⟩ (fun v w228 H locs hq hw => ?_)
        obtain ⟨rfl, hS, hn9⟩ := hq
        have hoF : ∀ q, q < b ∨ b + 9 ≤ q → w228 q = w q := fun q h9 => (hn9 q h9).trans (hoF q h9)
        have hB9 : q9 < nM ^ 64 := by rw [← hxQ]; exact hXb _
        obtain ⟨X83, eX83⟩ : ∃ X_, X_ = va_up X81 (x9) (X81 (20)) := ⟨_, rfl⟩
        rw [← eX83] at hS
        have hv9 : X81 (20) = q9 := hxQ
        have hxy : X83 (yp) = Int.natAbs b9 := by rw [eX83, up_o (by omega)]; exact hxy
        have hxO : X83 (23) = 1 := by rw [eX83, up_o (by omega)]; exact hxO
        have hxQ : X83 (20) = q9 := by rw [eX83, up_o (by omega)]; exact hxQ
        have hxx : X83 (x9) = q9 := by rw [eX83]; exact up_s.trans hv9
        have hXb : ∀ p, X83 p < nM ^ 64 := fun p => by (rw [eX83]; unfold va_up; split; (rw [hv9]; exact hB9); exact hXb p)
        have hfr : ∀ p, p ≠ x9 → p < 18 ∨ 22 < p → X83 p = X p ∧ S82 p = S p := fun p h1 h2 => by rw [eX83, up_o (by omega)]; exact hfr p h1 h2
        obtain ⟨S84, eS84⟩ : ∃ S_, S_ = va_up S82 (x9) (S82 (20)) := ⟨_, rfl⟩
        rw [← eS84] at hS
        have hv9 : (S82 (20) : Int32) = nI 0 := hsQ
        have hsy : S84 (yp) = sg32 b9 := by rw [eS84, up_o (by omega)]; exact hsy
        have hsO : S84 (23) = nI 1 := by rw [eS84, up_o (by omega)]; exact hsO
        have hsQ : S84 (20) = nI 0 := by rw [eS84, up_o (by omega)]; exact hsQ
        have hsx : S84 (x9) = nI 0 := by rw [eS84]; exact up_s.trans hv9
        have hfr : ∀ p, p ≠ x9 → p < 18 ∨ 22 < p → X83 p = X p ∧ S84 p = S p := fun p h1 h2 => by rw [eS84, up_o (by omega)]; exact hfr p h1 h2
        have b0 : w228 b = some (.inr (10, [.int (nI (I 0)), .ref (b + 1), .ref (b + 2), .int (nI (I 3)), .ref (b + 3), .ref (b + 4), .int (nI (I 6)), .int (nI (I 7)), .ref (b + 5), .ref (b + 6), .int (nI (I 10)), .int (nI (I 11)), .int (nI (I 12)), .int (nI (I 13)), .ref (b + 7), .ref (b + 8), .int (nI (I 16)), .int (nI (I 17)), .int (nI (I 18)), .int (nI (I 19))])) := hS.1
        have b1 : w228 (b + 1) = some (.inl (cL, 1536, .inr (.inl (fun i => lN (mC X83 i))))) := hS.2.1
        have b2 : w228 (b + 2) = some (.inl (cI, 24, .inl (S84))) := hS.2.2.1
        refine W.eq (g2 := F0 m 140 ls []) rfl ?_
        refine lv_aload_n (pc := 140) hx hb dMo_quotient_140 rfl (lv_at hl 2 rfl) ?_
        refine fw_get (pc := 141) (ci := 10) (v := .ref (b + 2)) (C := RMo) (T := TMo) (N := 20) hx hb hW in_Mo hown hK.1 hw b0 rfl 2 (by decide) (hW _ lf_Mo_13) (fun _ h => h) rfl dMo_quotient_141 ?_
        refine lv_iload_n (pc := 144) hx hb dMo_quotient_144 rfl (lv_at hl 3 rfl) ?_
        refine lv_aload_n (pc := 145) hx hb dMo_quotient_145 rfl (lv_at hl 2 rfl) ?_
        refine lv_iload_n (pc := 146) hx hb dMo_quotient_146 rfl (lv_at hl 3 rfl) ?_
        refine fw_cVR (pc := 147) (As := [.int (nI x9)]) (rest := [.int (nI x9), .ref (b + 2)]) ⟨hx, hb, hml, hown, hW⟩ (c_Mo_limbs (p0 := x9) hS hXb (by omega)) (cwV 1 hW (kw_V lm_Mo_128 im_Mo_limbs se_Mo_limbs ini_Mo cd_Mo_limbs) rfl rfl rfl (by decide +kernel) ⟨Nat.le_of_ble_eq_true rfl, Nat.le_of_ble_eq_true rfl⟩) hK hw b0 rfl rfl hl.1 rfl (Nat.le_of_ble_eq_true rfl) dMo_quotient_147 ⟨Nat.le_of_ble_eq_true rfl, Nat.le_of_ble_eq_true rfl⟩ (fun v hq => ?_)
        obtain ⟨nl8, rfl, hnl8, hml8⟩ := hq
        rw [hxx] at hml8
        have hlz8 := ml_zero hml8
        refine W.eq (g2 := F0 m 150 ls [.int (nI nl8), .int (nI x9), .ref (b + 2)]) rfl ?_
        have hsp : sQuo a9 b9 = (0, wv 0 (q9)) := by unfold sQuo; rw [if_neg hbne, hza, hzb, ← hq9, ← hr9]; rw [if_pos rfl, if_pos (Or.inl rfl), Nat.add_zero]
        rcases Nat.eq_zero_or_pos (q9) with hm0 | hm0
        · rw [show (nI nl8 : Int32) = nI 0 from (by rw [hlz8.mpr hm0])]
          refine lv_if_ne (pc := 150) (tgt := 157) hx hb dMo_quotient_150 (by decide) (fun hc => absurd hc (fun h => h (by decide))) (fun _ => ?_)
          refine lv_iconst (pc := 153) (v := (nI 0)) hx hb dMo_quotient_153 (by decide) ?_
          refine lv_goto (pc := 154) (tgt := 167) hx hb dMo_quotient_154 (by decide) ?_
          refine fw_iastN (pc := 167) (f2 := va_up S84 (x9) (nI 0)) hx hb hK.1 hw 0 b2 rfl (x9) (by omega) (by decide) (rfl) dMo_quotient_167 (fun H locs hw => ?_)
          obtain ⟨w229, e229⟩ : ∃ w_, w_ = fw_up w228 (b + 2) (.inl (cI, 24, .inl (va_up S84 (x9) (nI 0)))) := ⟨_, rfl⟩
          have hw : fw_H D kCl (fw_A w (sz)) s.heap w229 (sz) H locs := by rw [e229]; exact hw
          have b0_ : w229 (b) = some (.inr (10, [.int (nI (I 0)), .ref (b + 1), .ref (b + 2), .int (nI (I 3)), .ref (b + 3), .ref (b + 4), .int (nI (I 6)), .int (nI (I 7)), .ref (b + 5), .ref (b + 6), .int (nI (I 10)), .int (nI (I 11)), .int (nI (I 12)), .int (nI (I 13)), .ref (b + 7), .ref (b + 8), .int (nI (I 16)), .int (nI (I 17)), .int (nI (I 18)), .int (nI (I 19))])) := by rw [e229, fw_un (by omega)]; exact b0
          have b1_ : w229 (b + 1) = some (.inl (cL, 1536, .inr (.inl (fun i => lN (mC X83 i))))) := by rw [e229, fw_un (by omega)]; exact b1
          have b2_ : w229 (b + 2) = some (.inl (cI, 24, .inl (va_up S84 (x9) (nI 0)))) := by rw [e229]; exact fw_us _ _ _
          have b0 := b0_
          have b1 := b1_
          have b2 := b2_
          have hS : moS cI cL w229 b I K (va_up S84 (x9) (nI 0)) (mC X83) := moS.cs hS b1 b2 (fun q h1 h2 => by rw [e229, fw_un h2])
          have hoF : ∀ q, q < b ∨ b + 9 ≤ q → w229 q = w q := fun q h9 => by rw [e229, fw_un (by omega)]; exact hoF q h9
          obtain ⟨S85, eS85⟩ : ∃ S_, S_ = va_up S84 (x9) (nI 0) := ⟨_, rfl⟩
          rw [← eS85] at hS
          have hv9 : (nI 0 : Int32) = nI 0 := rfl
          have hsy : S85 (yp) = sg32 b9 := by rw [eS85, up_o (by omega)]; exact hsy
          have hsO : S85 (23) = nI 1 := by rw [eS85, up_o (by omega)]; exact hsO
          have hsQ : S85 (20) = nI 0 := by rw [eS85, up_o (by omega)]; exact hsQ
          have hsx : S85 (x9) = nI 0 := by rw [eS85]; exact up_s.trans hv9
          have hfr : ∀ p, p ≠ x9 → p < 18 ∨ 22 < p → X83 p = X p ∧ S85 p = S p := fun p h1 h2 => by rw [eS85, up_o (by omega)]; exact hfr p h1 h2
          have b0 : w229 b = some (.inr (10, [.int (nI (I 0)), .ref (b + 1), .ref (b + 2), .int (nI (I 3)), .ref (b + 3), .ref (b + 4), .int (nI (I 6)), .int (nI (I 7)), .ref (b + 5), .ref (b + 6), .int (nI (I 10)), .int (nI (I 11)), .int (nI (I 12)), .int (nI (I 13)), .ref (b + 7), .ref (b + 8), .int (nI (I 16)), .int (nI (I 17)), .int (nI (I 18)), .int (nI (I 19))])) := hS.1
          have b1 : w229 (b + 1) = some (.inl (cL, 1536, .inr (.inl (fun i => lN (mC X83 i))))) := hS.2.1
          have b2 : w229 (b + 2) = some (.inl (cI, 24, .inl (S85))) := hS.2.2.1
          refine lv_iconst (pc := 168) (v := (nI 0)) hx hb dMo_quotient_168 (by decide) ?_
          exact fw_iret (pc := 169) hx hb hr hlocks hw dMo_quotient_169 ⟨by rw [hsp], ⟨_, _, hS, hXb, fun _ => by rw [hsp]; exact ⟨by rw [wv_abs]; exact hxx, by rw [sgw_z hm0]; exact hsx⟩, hfr⟩, hoF⟩
        · exact absurd hm0 (by rw [hq9, ha90]; simp)
      · refine lv_if_le (pc := 45) (tgt := 52) hx hb dMo_quotient_45 (by decide) (fun hc => absurd hc (nI_nle (Nat.pos_of_ne_zero (fun h9 => by have := hlz.mp h9; omega)) (by omega))) (fun _ => ?_)
        exact absurd hr0 (by rw [hr9, ha90]; simp)
    · rw [sg32_p ha90, sg32_p hb90]
      refine lv_imul (pc := 23) hx hb dMo_quotient_23 ?_
      rw [show ((nI 1 * nI 1) : Int32) = nI 1 from (by decide)]
      refine lv_if_ge (pc := 24) (tgt := 31) hx hb dMo_quotient_24 (by decide) (fun _ => ?_) (fun hc => absurd (by decide) hc)
      have hza : sgz a9 = 0 := if_neg (by omega)
      refine lv_iconst (pc := 31) (v := (nI 0)) hx hb dMo_quotient_31 (by decide) ?_
      refine lv_istore (pc := 32) (lv' := [(4, .int (nI 0)), (0, .ref b), (1, .int (nI x9)), (2, .int (nI yp)), (3, .int (nI 0))]) hx hb dMo_quotient_32 hl (by decide) rfl (fun ls hl => ?_)
      refine lv_aload_n (pc := 34) hx hb dMo_quotient_34 rfl (lv_at hl 1 rfl) ?_
      refine lv_iload_n (pc := 35) hx hb dMo_quotient_35 rfl (lv_at hl 2 rfl) ?_
      refine lv_iload_n (pc := 36) hx hb dMo_quotient_36 rfl (lv_at hl 3 rfl) ?_
      have hxx0 := hxx
      have hxy0 := hxy
      refine fw_cV (pc := 37) (As := [.int (nI x9), .int (nI yp)]) (rest := []) ⟨hx, hb, hml, hown, hW⟩ (c_Mo_divide (pa := x9) (pb := yp) hS hXb (by omega) (by omega) (by omega) (by omega) (by omega) (by rw [hxy]; omega)) (cwV 2 hW (kw_V lm_Mo_159 im_Mo_divide se_Mo_divide ini_Mo cd_Mo_divide) rfl rfl rfl (by decide +kernel) ⟨Nat.le_of_ble_eq_true rfl, Nat.le_of_ble_eq_true rfl⟩) hK hw b0 rfl rfl hl.1 rfl (Nat.le_of_ble_eq_true rfl) dMo_quotient_37 ⟨Nat.le_of_ble_eq_true rfl, Nat.le_of_ble_eq_true rfl⟩ (fun v w230 H locs hq hw => ?_)
      obtain ⟨rfl, hS, hn9⟩ := hq
      have hoF : ∀ q, q < b ∨ b + 9 ≤ q → w230 q = w q := fun q h9 => (hn9 q h9).trans (hoF q h9)
      obtain ⟨q9, hq9⟩ : ∃ q9, q9 = Int.natAbs a9 / Int.natAbs b9 := ⟨_, rfl⟩
      obtain ⟨r9, hr9⟩ : ∃ r9, r9 = Int.natAbs a9 % Int.natAbs b9 := ⟨_, rfl⟩
      have hql : q9 ≤ Int.natAbs a9 := by rw [hq9]; exact Nat.div_le_self _ _
      have hrl : r9 < Int.natAbs b9 := by rw [hr9]; exact Nat.mod_lt _ (by omega)
      have hB9 : q9 < nM ^ 64 := Nat.lt_trans (Nat.lt_of_le_of_lt hql a97) p64
      have hB8 : r9 < nM ^ 64 := Nat.lt_trans (Nat.lt_trans hrl b97) p64
      obtain ⟨X86, eX86⟩ : ∃ X_, X_ = va_up X (20) (X (x9) / X (yp)) := ⟨_, rfl⟩
      rw [← eX86] at hS
      have hv9 : X (x9) / X (yp) = q9 := (by rw [hxx0, hxy0, hq9])
      have hxx : X86 (x9) = Int.natAbs a9 := by rw [eX86, up_o (by omega)]; exact hxx
      have hxy : X86 (yp) = Int.natAbs b9 := by rw [eX86, up_o (by omega)]; exact hxy
      have hxO : X86 (23) = 1 := by rw [eX86, up_o (by omega)]; exact hxO
      have hxQ : X86 (20) = q9 := by rw [eX86]; exact up_s.trans hv9
      have hXb : ∀ p, X86 p < nM ^ 64 := fun p => by (rw [eX86]; unfold va_up; split; (rw [hv9]; exact hB9); exact hXb p)
      have hfr : ∀ p, p ≠ x9 → p < 18 ∨ 22 < p → X86 p = X p ∧ S p = S p := fun p h1 h2 => by rw [eX86, up_o (by omega)]; exact hfr p h1 h2
      obtain ⟨X87, eX87⟩ : ∃ X_, X_ = va_up X86 (x9) (X (x9) % X (yp)) := ⟨_, rfl⟩
      rw [← eX87] at hS
      have hv9 : X (x9) % X (yp) = r9 := (by rw [hxx0, hxy0, hr9])
      have hxy : X87 (yp) = Int.natAbs b9 := by rw [eX87, up_o (by omega)]; exact hxy
      have hxO : X87 (23) = 1 := by rw [eX87, up_o (by omega)]; exact hxO
      have hxQ : X87 (20) = q9 := by rw [eX87, up_o (by omega)]; exact hxQ
      have hxx : X87 (x9) = r9 := by rw [eX87]; exact up_s.trans hv9
      have hXb : ∀ p, X87 p < nM ^ 64 := fun p => by (rw [eX87]; unfold va_up; split; (rw [hv9]; exact hB8); exact hXb p)
      have hfr : ∀ p, p ≠ x9 → p < 18 ∨ 22 < p → X87 p = X p ∧ S p = S p := fun p h1 h2 => by rw [eX87, up_o (by omega)]; exact hfr p h1 h2
      obtain ⟨S88, eS88⟩ : ∃ S_, S_ = va_up S (20) (nI 0) := ⟨_, rfl⟩
      rw [← eS88] at hS
      have hv9 : (nI 0 : Int32) = nI 0 := rfl
      have hsx : S88 (x9) = sg32 a9 := by rw [eS88, up_o (by omega)]; exact hsx
      have hsy : S88 (yp) = sg32 b9 := by rw [eS88, up_o (by omega)]; exact hsy
      have hsO : S88 (23) = nI 1 := by rw [eS88, up_o (by omega)]; exact hsO
      have hsQ : S88 (20) = nI 0 := by rw [eS88]; exact up_s.trans hv9
      have hfr : ∀ p, p ≠ x9 → p < 18 ∨ 22 < p → X87 p = X p ∧ S88 p = S p := fun p h1 h2 => by rw [eS88, up_o (by omega)]; exact hfr p h1 h2
      have b0 : w230 b = some (.inr (10, [.int (nI (I 0)), .ref (b + 1), .ref (b + 2), .int (nI (I 3)), .ref (b + 3), .ref (b + 4), .int (nI (I 6)), .int (nI (I 7)), .ref (b + 5), .ref (b + 6), .int (nI (I 10)), .int (nI (I 11)), .int (nI (I 12)), .int (nI (I 13)), .ref (b + 7), .ref (b + 8), .int (nI (I 16)), .int (nI (I 17)), .int (nI (I 18)), .int (nI (I 19))])) := hS.1
      have b1 : w230 (b + 1) = some (.inl (cL, 1536, .inr (.inl (fun i => lN (mC X87 i))))) := hS.2.1
      have b2 : w230 (b + 2) = some (.inl (cI, 24, .inl (S88))) := hS.2.2.1
      refine W.eq (g2 := F0 m 40 ls []) rfl ?_
      refine lv_aload_n (pc := 40) hx hb dMo_quotient_40 rfl (lv_at hl 1 rfl) ?_
      refine lv_iload_n (pc := 41) hx hb dMo_quotient_41 rfl (lv_at hl 2 rfl) ?_
      refine fw_cVR (pc := 42) (As := [.int (nI x9)]) (rest := []) ⟨hx, hb, hml, hown, hW⟩ (c_Mo_limbs (p0 := x9) hS hXb (by omega)) (cwV 1 hW (kw_V lm_Mo_128 im_Mo_limbs se_Mo_limbs ini_Mo cd_Mo_limbs) rfl rfl rfl (by decide +kernel) ⟨Nat.le_of_ble_eq_true rfl, Nat.le_of_ble_eq_true rfl⟩) hK hw b0 rfl rfl hl.1 rfl (Nat.le_of_ble_eq_true rfl) dMo_quotient_42 ⟨Nat.le_of_ble_eq_true rfl, Nat.le_of_ble_eq_true rfl⟩ (fun v hq => ?_)
      obtain ⟨nl9, rfl, hnl, hml9⟩ := hq
      rw [hxx] at hml9
      have hlz := ml_zero hml9
      refine W.eq (g2 := F0 m 45 ls [.int (nI nl9)]) rfl ?_
      rcases Nat.eq_zero_or_pos r9 with hr0 | hr0
      · rw [show (nI nl9 : Int32) = nI 0 from (by rw [hlz.mpr hr0])]
        refine lv_if_le (pc := 45) (tgt := 52) hx hb dMo_quotient_45 (by decide) (fun _ => ?_) (fun hc => absurd (show nI 0 ≤ 0 by decide) hc)
        refine lv_iconst (pc := 52) (v := (nI 0)) hx hb dMo_quotient_52 (by decide) ?_
        refine lv_istore (pc := 53) (lv' := [(5, .int (nI 0)), (4, .int (nI 0)), (0, .ref b), (1, .int (nI x9)), (2, .int (nI yp)), (3, .int (nI 0))]) hx hb dMo_quotient_53 hl (by decide) rfl (fun ls hl => ?_)
        refine lv_iload_n (pc := 55) hx hb dMo_quotient_55 rfl (lv_at hl 5 rfl) ?_
        refine lv_if_eq (pc := 56) (tgt := 115) hx hb dMo_quotient_56 (by decide) (fun _ => ?_) (fun hc => absurd (show nI 0 = 0 by decide) hc)
        refine lv_iload (pc := 115) hx hb dMo_quotient_115 (lv_at hl 1 rfl) ?_
        refine lv_if_eq (pc := 117) (tgt := 133) hx hb dMo_quotient_117 (by decide) (fun _ => ?_) (fun hc => absurd (show nI 0 = 0 by decide) hc)
        refine lv_aload_n (pc := 133) hx hb dMo_quotient_133 rfl (lv_at hl 2 rfl) ?_
        refine lv_bipush (pc := 134) (v := (nI 20)) hx hb dMo_quotient_134 (by decide) ?_
        refine lv_iload_n (pc := 136) hx hb dMo_quotient_136 rfl (lv_at hl 3 rfl) ?_
        refine fw_cV (pc := 137) (As := [.int (nI 20), .int (nI x9)]) (rest := []) ⟨hx, hb, hml, hown, hW⟩ (c_Mo_copy (pa := 20) (pc9 := x9) hS hXb (by omega) (by omega) (by omega)) (cwV 2 hW (kw_V lm_Mo_143 im_Mo_copy se_Mo_copy ini_Mo cd_Mo_copy) rfl rfl rfl (by decide +kernel) ⟨Nat.le_of_ble_eq_true rfl, Nat.le_of_ble_eq_true rfl⟩) hK hw b0 rfl rfl hl.1 rfl (Nat.le_of_ble_eq_true rfl) dMo_quotient_137 ⟨Nat.le_of_ble_eq_true rfl, Nat.le_of_ble_eq_true rfl⟩ (fun v w231 H locs hq hw => ?_)
        obtain ⟨rfl, hS, hn9⟩ := hq
        have hoF : ∀ q, q < b ∨ b + 9 ≤ q → w231 q = w q := fun q h9 => (hn9 q h9).trans (hoF q h9)
        have hB9 : q9 < nM ^ 64 := by rw [← hxQ]; exact hXb _
        obtain ⟨X89, eX89⟩ : ∃ X_, X_ = va_up X87 (x9) (X87 (20)) := ⟨_, rfl⟩
        rw [← eX89] at hS
        have hv9 : X87 (20) = q9 := hxQ
        have hxy : X89 (yp) = Int.natAbs b9 := by rw [eX89, up_o (by omega)]; exact hxy
        have hxO : X89 (23) = 1 := by rw [eX89, up_o (by omega)]; exact hxO
        have hxQ : X89 (20) = q9 := by rw [eX89, up_o (by omega)]; exact hxQ
        have hxx : X89 (x9) = q9 := by rw [eX89]; exact up_s.trans hv9
        have hXb : ∀ p, X89 p < nM ^ 64 := fun p => by (rw [eX89]; unfold va_up; split; (rw [hv9]; exact hB9); exact hXb p)
        have hfr : ∀ p, p ≠ x9 → p < 18 ∨ 22 < p → X89 p = X p ∧ S88 p = S p := fun p h1 h2 => by rw [eX89, up_o (by omega)]; exact hfr p h1 h2
        obtain ⟨S90, eS90⟩ : ∃ S_, S_ = va_up S88 (x9) (S88 (20)) := ⟨_, rfl⟩
        rw [← eS90] at hS
        have hv9 : (S88 (20) : Int32) = nI 0 := hsQ
        have hsy : S90 (yp) = sg32 b9 := by rw [eS90, up_o (by omega)]; exact hsy
        have hsO : S90 (23) = nI 1 := by rw [eS90, up_o (by omega)]; exact hsO
        have hsQ : S90 (20) = nI 0 := by rw [eS90, up_o (by omega)]; exact hsQ
        have hsx : S90 (x9) = nI 0 := by rw [eS90]; exact up_s.trans hv9
        have hfr : ∀ p, p ≠ x9 → p < 18 ∨ 22 < p → X89 p = X p ∧ S90 p = S p := fun p h1 h2 => by rw [eS90, up_o (by omega)]; exact hfr p h1 h2
        have b0 : w231 b = some (.inr (10, [.int (nI (I 0)), .ref (b + 1), .ref (b + 2), .int (nI (I 3)), .ref (b + 3), .ref (b + 4), .int (nI (I 6)), .int (nI (I 7)), .ref (b + 5), .ref (b + 6), .int (nI (I 10)), .int (nI (I 11)), .int (nI (I 12)), .int (nI (I 13)), .ref (b + 7), .ref (b + 8), .int (nI (I 16)), .int (nI (I 17)), .int (nI (I 18)), .int (nI (I 19))])) := hS.1
        have b1 : w231 (b + 1) = some (.inl (cL, 1536, .inr (.inl (fun i => lN (mC X89 i))))) := hS.2.1
        have b2 : w231 (b + 2) = some (.inl (cI, 24, .inl (S90))) := hS.2.2.1
        refine W.eq (g2 := F0 m 140 ls []) rfl ?_
        refine lv_aload_n (pc := 140) hx hb dMo_quotient_140 rfl (lv_at hl 2 rfl) ?_
        refine fw_get (pc := 141) (ci := 10) (v := .ref (b + 2)) (C := RMo) (T := TMo) (N := 20) hx hb hW in_Mo hown hK.1 hw b0 rfl 2 (by decide) (hW _ lf_Mo_13) (fun _ h => h) rfl dMo_quotient_141 ?_
        refine lv_iload_n (pc := 144) hx hb dMo_quotient_144 rfl (lv_at hl 3 rfl) ?_
        refine lv_aload_n (pc := 145) hx hb dMo_quotient_145 rfl (lv_at hl 2 rfl) ?_
        refine lv_iload_n (pc := 146) hx hb dMo_quotient_146 rfl (lv_at hl 3 rfl) ?_
        refine fw_cVR (pc := 147) (As := [.int (nI x9)]) (rest := [.int (nI x9), .ref (b + 2)]) ⟨hx, hb, hml, hown, hW⟩ (c_Mo_limbs (p0 := x9) hS hXb (by omega)) (cwV 1 hW (kw_V lm_Mo_128 im_Mo_limbs se_Mo_limbs ini_Mo cd_Mo_limbs) rfl rfl rfl (by decide +kernel) ⟨Nat.le_of_ble_eq_true rfl, Nat.le_of_ble_eq_true rfl⟩) hK hw b0 rfl rfl hl.1 rfl (Nat.le_of_ble_eq_true rfl) dMo_quotient_147 ⟨Nat.le_of_ble_eq_true rfl, Nat.le_of_ble_eq_true rfl⟩ (fun v hq => ?_)
        obtain ⟨nl8, rfl, hnl8, hml8⟩ := hq
        rw [hxx] at hml8
        have hlz8 := ml_zero hml8
        refine W.eq (g2 := F0 m 150 ls [.int (nI nl8), .int (nI x9), .ref (b + 2)]) rfl ?_
        have hsp : sQuo a9 b9 = (0, wv 0 (q9)) := by unfold sQuo; rw [if_neg hbne, hza, hzb, ← hq9, ← hr9]; rw [if_pos rfl, if_pos (Or.inl rfl), Nat.add_zero]
        rcases Nat.eq_zero_or_pos (q9) with hm0 | hm0
        · rw [show (nI nl8 : Int32) = nI 0 from (by rw [hlz8.mpr hm0])]
          refine lv_if_ne (pc := 150) (tgt := 157) hx hb dMo_quotient_150 (by decide) (fun hc => absurd hc (fun h => h (by decide))) (fun _ => ?_)
          refine lv_iconst (pc := 153) (v := (nI 0)) hx hb dMo_quotient_153 (by decide) ?_
          refine lv_goto (pc := 154) (tgt := 167) hx hb dMo_quotient_154 (by decide) ?_
          refine fw_iastN (pc := 167) (f2 := va_up S90 (x9) (nI 0)) hx hb hK.1 hw 0 b2 rfl (x9) (by omega) (by decide) (rfl) dMo_quotient_167 (fun H locs hw => ?_)
          obtain ⟨w232, e232⟩ : ∃ w_, w_ = fw_up w231 (b + 2) (.inl (cI, 24, .inl (va_up S90 (x9) (nI 0)))) := ⟨_, rfl⟩
          have hw : fw_H D kCl (fw_A w (sz)) s.heap w232 (sz) H locs := by rw [e232]; exact hw
          have b0_ : w232 (b) = some (.inr (10, [.int (nI (I 0)), .ref (b + 1), .ref (b + 2), .int (nI (I 3)), .ref (b + 3), .ref (b + 4), .int (nI (I 6)), .int (nI (I 7)), .ref (b + 5), .ref (b + 6), .int (nI (I 10)), .int (nI (I 11)), .int (nI (I 12)), .int (nI (I 13)), .ref (b + 7), .ref (b + 8), .int (nI (I 16)), .int (nI (I 17)), .int (nI (I 18)), .int (nI (I 19))])) := by rw [e232, fw_un (by omega)]; exact b0
          have b1_ : w232 (b + 1) = some (.inl (cL, 1536, .inr (.inl (fun i => lN (mC X89 i))))) := by rw [e232, fw_un (by omega)]; exact b1
          have b2_ : w232 (b + 2) = some (.inl (cI, 24, .inl (va_up S90 (x9) (nI 0)))) := by rw [e232]; exact fw_us _ _ _
          have b0 := b0_
          have b1 := b1_
          have b2 := b2_
          have hS : moS cI cL w232 b I K (va_up S90 (x9) (nI 0)) (mC X89) := moS.cs hS b1 b2 (fun q h1 h2 => by rw [e232, fw_un h2])
          have hoF : ∀ q, q < b ∨ b + 9 ≤ q → w232 q = w q := fun q h9 => by rw [e232, fw_un (by omega)]; exact hoF q h9
          obtain ⟨S91, eS91⟩ : ∃ S_, S_ = va_up S90 (x9) (nI 0) := ⟨_, rfl⟩
          rw [← eS91] at hS
          have hv9 : (nI 0 : Int32) = nI 0 := rfl
          have hsy : S91 (yp) = sg32 b9 := by rw [eS91, up_o (by omega)]; exact hsy
          have hsO : S91 (23) = nI 1 := by rw [eS91, up_o (by omega)]; exact hsO
          have hsQ : S91 (20) = nI 0 := by rw [eS91, up_o (by omega)]; exact hsQ
          have hsx : S91 (x9) = nI 0 := by rw [eS91]; exact up_s.trans hv9
          have hfr : ∀ p, p ≠ x9 → p < 18 ∨ 22 < p → X89 p = X p ∧ S91 p = S p := fun p h1 h2 => by rw [eS91, up_o (by omega)]; exact hfr p h1 h2
          have b0 : w232 b = some (.inr (10, [.int (nI (I 0)), .ref (b + 1), .ref (b + 2), .int (nI (I 3)), .ref (b + 3), .ref (b + 4), .int (nI (I 6)), .int (nI (I 7)), .ref (b + 5), .ref (b + 6), .int (nI (I 10)), .int (nI (I 11)), .int (nI (I 12)), .int (nI (I 13)), .ref (b + 7), .ref (b + 8), .int (nI (I 16)), .int (nI (I 17)), .int (nI (I 18)), .int (nI (I 19))])) := hS.1
          have b1 : w232 (b + 1) = some (.inl (cL, 1536, .inr (.inl (fun i => lN (mC X89 i))))) := hS.2.1
          have b2 : w232 (b + 2) = some (.inl (cI, 24, .inl (S91))) := hS.2.2.1
          refine lv_iconst (pc := 168) (v := (nI 0)) hx hb dMo_quotient_168 (by decide) ?_
          exact fw_iret (pc := 169) hx hb hr hlocks hw dMo_quotient_169 ⟨by rw [hsp], ⟨_, _, hS, hXb, fun _ => by rw [hsp]; exact ⟨by rw [wv_abs]; exact hxx, by rw [sgw_z hm0]; exact hsx⟩, hfr⟩, hoF⟩
        · refine lv_if_ne (pc := 150) (tgt := 157) hx hb dMo_quotient_150 (by decide) (fun _ => ?_) (fun hc => absurd hc (nI_ne0 (Nat.pos_of_ne_zero (fun h9 => by have := hlz8.mp h9; omega)) (by omega)))
          refine lv_iload (pc := 157) hx hb dMo_quotient_157 (lv_at hl 1 rfl) ?_
          refine lv_if_eq (pc := 159) (tgt := 166) hx hb dMo_quotient_159 (by decide) (fun _ => ?_) (fun hc => absurd (show nI 0 = 0 by decide) hc)
          refine lv_iconst (pc := 166) (v := (nI 1)) hx hb dMo_quotient_166 (by decide) ?_
          refine fw_iastN (pc := 167) (f2 := va_up S90 (x9) (nI 1)) hx hb hK.1 hw 0 b2 rfl (x9) (by omega) (by decide) (rfl) dMo_quotient_167 (fun H locs hw => ?_)
          obtain ⟨w233, e233⟩ : ∃ w_, w_ = fw_up w231 (b + 2) (.inl (cI, 24, .inl (va_up S90 (x9) (nI 1)))) := ⟨_, rfl⟩
          have hw : fw_H D kCl (fw_A w (sz)) s.heap w233 (sz) H locs := by rw [e233]; exact hw
          have b0_ : w233 (b) = some (.inr (10, [.int (nI (I 0)), .ref (b + 1), .ref (b + 2), .int (nI (I 3)), .ref (b + 3), .ref (b + 4), .int (nI (I 6)), .int (nI (I 7)), .ref (b + 5), .ref (b + 6), .int (nI (I 10)), .int (nI (I 11)), .int (nI (I 12)), .int (nI (I 13)), .ref (b + 7), .ref (b + 8), .int (nI (I 16)), .int (nI (I 17)), .int (nI (I 18)), .int (nI (I 19))])) := by rw [e233, fw_un (by omega)]; exact b0
          have b1_ : w233 (b + 1) = some (.inl (cL, 1536, .inr (.inl (fun i => lN (mC X89 i))))) := by rw [e233, fw_un (by omega)]; exact b1
          have b2_ : w233 (b + 2) = some (.inl (cI, 24, .inl (va_up S90 (x9) (nI 1)))) := by rw [e233]; exact fw_us _ _ _
          have b0 := b0_
          have b1 := b1_
          have b2 := b2_
          have hS : moS cI cL w233 b I K (va_up S90 (x9) (nI 1)) (mC X89) := moS.cs hS b1 b2 (fun q h1 h2 => by rw [e233, fw_un h2])
          have hoF : ∀ q, q < b ∨ b + 9 ≤ q → w233 q = w q := fun q h9 => by rw [e233, fw_un (by omega)]; exact hoF q h9
          obtain ⟨S92, eS92⟩ : ∃ S_, S_ = va_up S90 (x9) (nI 1) := ⟨_, rfl⟩
          rw [← eS92] at hS
          have hv9 : (nI 1 : Int32) = nI 1 := rfl
          have hsy : S92 (yp) = sg32 b9 := by rw [eS92, up_o (by omega)]; exact hsy
          have hsO : S92 (23) = nI 1 := by rw [eS92, up_o (by omega)]; exact hsO
          have hsQ : S92 (20) = nI 0 := by rw [eS92, up_o (by omega)]; exact hsQ
          have hsx : S92 (x9) = nI 1 := by rw [eS92]; exact up_s.trans hv9
          have hfr : ∀ p, p ≠ x9 → p < 18 ∨ 22 < p → X89 p = X p ∧ S92 p = S p := fun p h1 h2 => by rw [eS92, up_o (by omega)]; exact hfr p h1 h2
          have b0 : w233 b = some (.inr (10, [.int (nI (I 0)), .ref (b + 1), .ref (b + 2), .int (nI (I 3)), .ref (b + 3), .ref (b + 4), .int (nI (I 6)), .int (nI (I 7)), .ref (b + 5), .ref (b + 6), .int (nI (I 10)), .int (nI (I 11)), .int (nI (I 12)), .int (nI (I 13)), .ref (b + 7), .ref (b + 8), .int (nI (I 16)), .int (nI (I 17)), .int (nI (I 18)), .int (nI (I 19))])) := hS.1
          have b1 : w233 (b + 1) = some (.inl (cL, 1536, .inr (.inl (fun i => lN (mC X89 i))))) := hS.2.1
          have b2 : w233 (b + 2) = some (.inl (cI, 24, .inl (S92))) := hS.2.2.1
          refine lv_iconst (pc := 168) (v := (nI 0)) hx hb dMo_quotient_168 (by decide) ?_
          exact fw_iret (pc := 169) hx hb hr hlocks hw dMo_quotient_169 ⟨by rw [hsp], ⟨_, _, hS, hXb, fun _ => by rw [hsp]; exact ⟨by rw [wv_abs]; exact hxx, by rw [sgw_0 hm0]; exact hsx⟩, hfr⟩, hoF⟩
      · refine lv_if_le (pc := 45) (tgt := 52) hx hb dMo_quotient_45 (by decide) (fun hc => absurd hc (nI_nle (Nat.pos_of_ne_zero (fun h9 => by have := hlz.mp h9; omega)) (by omega))) (fun _ => ?_)
        refine lv_iconst (pc := 48) (v := (nI 1)) hx hb dMo_quotient_48 (by decide) ?_
        refine lv_goto (pc := 49) (tgt := 53) hx hb dMo_quotient_49 (by decide) ?_
        refine lv_istore (pc := 53) (lv' := [(5, .int (nI 1)), (4, .int (nI 0)), (0, .ref b), (1, .int (nI x9)), (2, .int (nI yp)), (3, .int (nI 0))]) hx hb dMo_quotient_53 hl (by decide) rfl (fun ls hl => ?_)
        refine lv_iload_n (pc := 55) hx hb dMo_quotient_55 rfl (lv_at hl 5 rfl) ?_
        refine lv_if_eq (pc := 56) (tgt := 115) hx hb dMo_quotient_56 (by decide) (fun _ => ?_) (fun hc => absurd (show nI 0 = 0 by decide) hc)
        refine lv_iload (pc := 115) hx hb dMo_quotient_115 (lv_at hl 1 rfl) ?_
        refine lv_if_eq (pc := 117) (tgt := 133) hx hb dMo_quotient_117 (by decide) (fun _ => ?_) (fun hc => absurd (show nI 0 = 0 by decide) hc)
        refine lv_aload_n (pc := 133) hx hb dMo_quotient_133 rfl (lv_at hl 2 rfl) ?_
        refine lv_bipush (pc := 134) (v := (nI 20)) hx hb dMo_quotient_134 (by decide) ?_
        refine lv_iload_n (pc := 136) hx hb dMo_quotient_136 rfl (lv_at hl 3 rfl) ?_
        refine fw_cV (pc := 137) (As := [.int (nI 20), .int (nI x9)]) (rest := []) ⟨hx, hb, hml, hown, hW⟩ (c_Mo_copy (pa := 20) (pc9 := x9) hS hXb (by omega) (by omega) (by omega)) (cwV 2 hW (kw_V lm_Mo_143 im_Mo_copy se_Mo_copy ini_Mo cd_Mo_copy) rfl rfl rfl (by decide +kernel) ⟨Nat.le_of_ble_eq_true rfl, Nat.le_of_ble_eq_true rfl⟩) hK hw b0 rfl rfl hl.1 rfl (Nat.le_of_ble_eq_true rfl) dMo_quotient_137 ⟨Nat.le_of_ble_eq_true rfl, Nat.le_of_ble_eq_true rfl⟩ (fun v w234 H locs hq hw => ?_)
        obtain ⟨rfl, hS, hn9⟩ := hq
        have hoF : ∀ q, q < b ∨ b + 9 ≤ q → w234 q = w q := fun q h9 => (hn9 q h9).trans (hoF q h9)
        have hB9 : q9 < nM ^ 64 := by rw [← hxQ]; exact hXb _
        obtain ⟨X93, eX93⟩ : ∃ X_, X_ = va_up X87 (x9) (X87 (20)) := ⟨_, rfl⟩
        rw [← eX93] at hS
        have hv9 : X87 (20) = q9 := hxQ
        have hxy : X93 (yp) = Int.natAbs b9 := by rw [eX93, up_o (by omega)]; exact hxy
        have hxO : X93 (23) = 1 := by rw [eX93, up_o (by omega)]; exact hxO
        have hxQ : X93 (20) = q9 := by rw [eX93, up_o (by omega)]; exact hxQ
        have hxx : X93 (x9) = q9 := by rw [eX93]; exact up_s.trans hv9
        have hXb : ∀ p, X93 p < nM ^ 64 := fun p => by (rw [eX93]; unfold va_up; split; (rw [hv9]; exact hB9); exact hXb p)
        have hfr : ∀ p, p ≠ x9 → p < 18 ∨ 22 < p → X93 p = X p ∧ S88 p = S p := fun p h1 h2 => by rw [eX93, up_o (by omega)]; exact hfr p h1 h2
        obtain ⟨S94, eS94⟩ : ∃ S_, S_ = va_up S88 (x9) (S88 (20)) := ⟨_, rfl⟩
        rw [← eS94] at hS
        have hv9 : (S88 (20) : Int32) = nI 0 := hsQ
        have hsy : S94 (yp) = sg32 b9 := by rw [eS94, up_o (by omega)]; exact hsy
        have hsO : S94 (23) = nI 1 := by rw [eS94, up_o (by omega)]; exact hsO
        have hsQ : S94 (20) = nI 0 := by rw [eS94, up_o (by omega)]; exact hsQ
        have hsx : S94 (x9) = nI 0 := by rw [eS94]; exact up_s.trans hv9
        have hfr : ∀ p, p ≠ x9 → p < 18 ∨ 22 < p → X93 p = X p ∧ S94 p = S p := fun p h1 h2 => by rw [eS94, up_o (by omega)]; exact hfr p h1 h2
        have b0 : w234 b = some (.inr (10, [.int (nI (I 0)), .ref (b + 1), .ref (b + 2), .int (nI (I 3)), .ref (b + 3), .ref (b + 4), .int (nI (I 6)), .int (nI (I 7)), .ref (b + 5), .ref (b + 6), .int (nI (I 10)), .int (nI (I 11)), .int (nI (I 12)), .int (nI (I 13)), .ref (b + 7), .ref (b + 8), .int (nI (I 16)), .int (nI (I 17)), .int (nI (I 18)), .int (nI (I 19))])) := hS.1
        have b1 : w234 (b + 1) = some (.inl (cL, 1536, .inr (.inl (fun i => lN (mC X93 i))))) := hS.2.1
        have b2 : w234 (b + 2) = some (.inl (cI, 24, .inl (S94))) := hS.2.2.1
        refine W.eq (g2 := F0 m 140 ls []) rfl ?_
        refine lv_aload_n (pc := 140) hx hb dMo_quotient_140 rfl (lv_at hl 2 rfl) ?_
        refine fw_get (pc := 141) (ci := 10) (v := .ref (b + 2)) (C := RMo) (T := TMo) (N := 20) hx hb hW in_Mo hown hK.1 hw b0 rfl 2 (by decide) (hW _ lf_Mo_13) (fun _ h => h) rfl dMo_quotient_141 ?_
        refine lv_iload_n (pc := 144) hx hb dMo_quotient_144 rfl (lv_at hl 3 rfl) ?_
        refine lv_aload_n (pc := 145) hx hb dMo_quotient_145 rfl (lv_at hl 2 rfl) ?_
        refine lv_iload_n (pc := 146) hx hb dMo_quotient_146 rfl (lv_at hl 3 rfl) ?_
        refine fw_cVR (pc := 147) (As := [.int (nI x9)]) (rest := [.int (nI x9), .ref (b + 2)]) ⟨hx, hb, hml, hown, hW⟩ (c_Mo_limbs (p0 := x9) hS hXb (by omega)) (cwV 1 hW (kw_V lm_Mo_128 im_Mo_limbs se_Mo_limbs ini_Mo cd_Mo_limbs) rfl rfl rfl (by decide +kernel) ⟨Nat.le_of_ble_eq_true rfl, Nat.le_of_ble_eq_true rfl⟩) hK hw b0 rfl rfl hl.1 rfl (Nat.le_of_ble_eq_true rfl) dMo_quotient_147 ⟨Nat.le_of_ble_eq_true rfl, Nat.le_of_ble_eq_true rfl⟩ (fun v hq => ?_)
        obtain ⟨nl8, rfl, hnl8, hml8⟩ := hq
        rw [hxx] at hml8
        have hlz8 := ml_zero hml8
        refine W.eq (g2 := F0 m 150 ls [.int (nI nl8), .int (nI x9), .ref (b + 2)]) rfl ?_
        have hsp : sQuo a9 b9 = (0, wv 0 (q9)) := by unfold sQuo; rw [if_neg hbne, hza, hzb, ← hq9, ← hr9]; rw [if_pos rfl, if_pos (Or.inl rfl), Nat.add_zero]
        rcases Nat.eq_zero_or_pos (q9) with hm0 | hm0
        · rw [show (nI nl8 : Int32) = nI 0 from (by rw [hlz8.mpr hm0])]
          refine lv_if_ne (pc := 150) (tgt := 157) hx hb dMo_quotient_150 (by decide) (fun hc => absurd hc (fun h => h (by decide))) (fun _ => ?_)
          refine lv_iconst (pc := 153) (v := (nI 0)) hx hb dMo_quotient_153 (by decide) ?_
          refine lv_goto (pc := 154) (tgt := 167) hx hb dMo_quotient_154 (by decide) ?_
          refine fw_iastN (pc := 167) (f2 := va_up S94 (x9) (nI 0)) hx hb hK.1 hw 0 b2 rfl (x9) (by omega) (by decide) (rfl) dMo_quotient_167 (fun H locs hw => ?_)
          obtain ⟨w235, e235⟩ : ∃ w_, w_ = fw_up w234 (b + 2) (.inl (cI, 24, .inl (va_up S94 (x9) (nI 0)))) := ⟨_, rfl⟩
          have hw : fw_H D kCl (fw_A w (sz)) s.heap w235 (sz) H locs := by rw [e235]; exact hw
          have b0_ : w235 (b) = some (.inr (10, [.int (nI (I 0)), .ref (b + 1), .ref (b + 2), .int (nI (I 3)), .ref (b + 3), .ref (b + 4), .int (nI (I 6)), .int (nI (I 7)), .ref (b + 5), .ref (b + 6), .int (nI (I 10)), .int (nI (I 11)), .int (nI (I 12)), .int (nI (I 13)), .ref (b + 7), .ref (b + 8), .int (nI (I 16)), .int (nI (I 17)), .int (nI (I 18)), .int (nI (I 19))])) := by rw [e235, fw_un (by omega)]; exact b0
          have b1_ : w235 (b + 1) = some (.inl (cL, 1536, .inr (.inl (fun i => lN (mC X93 i))))) := by rw [e235, fw_un (by omega)]; exact b1
          have b2_ : w235 (b + 2) = some (.inl (cI, 24, .inl (va_up S94 (x9) (nI 0)))) := by rw [e235]; exact fw_us _ _ _
          have b0 := b0_
          have b1 := b1_
          have b2 := b2_
          have hS : moS cI cL w235 b I K (va_up S94 (x9) (nI 0)) (mC X93) := moS.cs hS b1 b2 (fun q h1 h2 => by rw [e235, fw_un h2])
          have hoF : ∀ q, q < b ∨ b + 9 ≤ q → w235 q = w q := fun q h9 => by rw [e235, fw_un (by omega)]; exact hoF q h9
          obtain ⟨S95, eS95⟩ : ∃ S_, S_ = va_up S94 (x9) (nI 0) := ⟨_, rfl⟩
          rw [← eS95] at hS
          have hv9 : (nI 0 : Int32) = nI 0 := rfl
          have hsy : S95 (yp) = sg32 b9 := by rw [eS95, up_o (by omega)]; exact hsy
          have hsO : S95 (23) = nI 1 := by rw [eS95, up_o (by omega)]; exact hsO
          have hsQ : S95 (20) = nI 0 := by rw [eS95, up_o (by omega)]; exact hsQ
          have hsx : S95 (x9) = nI 0 := by rw [eS95]; exact up_s.trans hv9
          have hfr : ∀ p, p ≠ x9 → p < 18 ∨ 22 < p → X93 p = X p ∧ S95 p = S p := fun p h1 h2 => by rw [eS95, up_o (by omega)]; exact hfr p h1 h2
          have b0 : w235 b = some (.inr (10, [.int (nI (I 0)), .ref (b + 1), .ref (b + 2), .int (nI (I 3)), .ref (b + 3), .ref (b + 4), .int (nI (I 6)), .int (nI (I 7)), .ref (b + 5), .ref (b + 6), .int (nI (I 10)), .int (nI (I 11)), .int (nI (I 12)), .int (nI (I 13)), .ref (b + 7), .ref (b + 8), .int (nI (I 16)), .int (nI (I 17)), .int (nI (I 18)), .int (nI (I 19))])) := hS.1
          have b1 : w235 (b + 1) = some (.inl (cL, 1536, .inr (.inl (fun i => lN (mC X93 i))))) := hS.2.1
          have b2 : w235 (b + 2) = some (.inl (cI, 24, .inl (S95))) := hS.2.2.1
          refine lv_iconst (pc := 168) (v := (nI 0)) hx hb dMo_quotient_168 (by decide) ?_
          exact fw_iret (pc := 169) hx hb hr hlocks hw dMo_quotient_169 ⟨by rw [hsp], ⟨_, _, hS, hXb, fun _ => by rw [hsp]; exact ⟨by rw [wv_abs]; exact hxx, by rw [sgw_z hm0]; exact hsx⟩, hfr⟩, hoF⟩
        · refine lv_if_ne (pc := 150) (tgt := 157) hx hb dMo_quotient_150 (by decide) (fun _ => ?_) (fun hc => absurd hc (nI_ne0 (Nat.pos_of_ne_zero (fun h9 => by have := hlz8.mp h9; omega)) (by omega)))
          refine lv_iload (pc := 157) hx hb dMo_quotient_157 (lv_at hl 1 rfl) ?_
          refine lv_if_eq (pc := 159) (tgt := 166) hx hb dMo_quotient_159 (by decide) (fun _ => ?_) (fun hc => absurd (show nI 0 = 0 by decide) hc)
          refine lv_iconst (pc := 166) (v := (nI 1)) hx hb dMo_quotient_166 (by decide) ?_
          refine fw_iastN (pc := 167) (f2 := va_up S94 (x9) (nI 1)) hx hb hK.1 hw 0 b2 rfl (x9) (by omega) (by decide) (rfl) dMo_quotient_167 (fun H locs hw => ?_)
          obtain ⟨w236, e236⟩ : ∃ w_, w_ = fw_up w234 (b + 2) (.inl (cI, 24, .inl (va_up S94 (x9) (nI 1)))) := ⟨_, rfl⟩
          have hw : fw_H D kCl (fw_A w (sz)) s.heap w236 (sz) H locs := by rw [e236]; exact hw
          have b0_ : w236 (b) = some (.inr (10, [.int (nI (I 0)), .ref (b + 1), .ref (b + 2), .int (nI (I 3)), .ref (b + 3), .ref (b + 4), .int (nI (I 6)), .int (nI (I 7)), .ref (b + 5), .ref (b + 6), .int (nI (I 10)), .int (nI (I 11)), .int (nI (I 12)), .int (nI (I 13)), .ref (b + 7), .ref (b + 8), .int (nI (I 16)), .int (nI (I 17)), .int (nI (I 18)), .int (nI (I 19))])) := by rw [e236, fw_un (by omega)]; exact b0
          have b1_ : w236 (b + 1) = some (.inl (cL, 1536, .inr (.inl (fun i => lN (mC X93 i))))) := by rw [e236, fw_un (by omega)]; exact b1
          have b2_ : w236 (b + 2) = some (.inl (cI, 24, .inl (va_up S94 (x9) (nI 1)))) := by rw [e236]; exact fw_us _ _ _
          have b0 := b0_
          have b1 := b1_
          have b2 := b2_
          have hS : moS cI cL w236 b I K (va_up S94 (x9) (nI 1)) (mC X93) := moS.cs hS b1 b2 (fun q h1 h2 => by rw [e236, fw_un h2])
          have hoF : ∀ q, q < b ∨ b + 9 ≤ q → w236 q = w q := fun q h9 => by rw [e236, fw_un (by omega)]; exact hoF q h9
          obtain ⟨S96, eS96⟩ : ∃ S_, S_ = va_up S94 (x9) (nI 1) := ⟨_, rfl⟩
          rw [← eS96] at hS
          have hv9 : (nI 1 : Int32) = nI 1 := rfl
          have hsy : S96 (yp) = sg32 b9 := by rw [eS96, up_o (by omega)]; exact hsy
          have hsO : S96 (23) = nI 1 := by rw [eS96, up_o (by omega)]; exact hsO
          have hsQ : S96 (20) = nI 0 := by rw [eS96, up_o (by omega)]; exact hsQ
          have hsx : S96 (x9) = nI 1 := by rw [eS96]; exact up_s.trans hv9
          have hfr : ∀ p, p ≠ x9 → p < 18 ∨ 22 < p → X93 p = X p ∧ S96 p = S p := fun p h1 h2 => by rw [eS96, up_o (by omega)]; exact hfr p h1 h2
          have b0 : w236 b = some (.inr (10, [.int (nI (I 0)), .ref (b + 1), .ref (b + 2), .int (nI (I 3)), .ref (b + 3), .ref (b + 4), .int (nI (I 6)), .int (nI (I 7)), .ref (b + 5), .ref (b + 6), .int (nI (I 10)), .int (nI (I 11)), .int (nI (I 12)), .int (nI (I 13)), .ref (b + 7), .ref (b + 8), .int (nI (I 16)), .int (nI (I 17)), .int (nI (I 18)), .int (nI (I 19))])) := hS.1
          have b1 : w236 (b + 1) = some (.inl (cL, 1536, .inr (.inl (fun i => lN (mC X93 i))))) := hS.2.1
          have b2 : w236 (b + 2) = some (.inl (cI, 24, .inl (S96))) := hS.2.2.1
          refine lv_iconst (pc := 168) (v := (nI 0)) hx hb dMo_quotient_168 (by decide) ?_
          exact fw_iret (pc := 169) hx hb hr hlocks hw dMo_quotient_169 ⟨by rw [hsp], ⟨_, _, hS, hXb, fun _ => by rw [hsp]; exact ⟨by rw [wv_abs]; exact hxx, by rw [sgw_0 hm0]; exact hsx⟩, hfr⟩, hoF⟩

set_option maxHeartbeats 4000000 in
set_option maxRecDepth 100000 in
theorem c_Mo_divisor {b : Nat} {I : Nat → Nat} {K : Nat → Nat → Nat} {S : Nat → Int32} {X : Nat → Nat} (hS : moS cI cL w b I K S (mC X)) (hX : ∀ p, X p < nM ^ 64) {x9 : Nat} {a9 b9 : Int} (hx9 : x9 + 2 ≤ 10) (h1x : X 23 = 1) (h1s : S 23 = nI 1) (rx : X (x9) = Int.natAbs a9 ∧ S (x9) = sg32 a9) (a97 : Int.natAbs a9 < 2 ^ 768) (ry : X (x9 + 1) = Int.natAbs b9 ∧ S (x9 + 1) = sg32 b9) (b97 : Int.natAbs b9 < 2 ^ 768) : fw_C l yMo_divisor (Cond.code yMo_divisor cMo_divisor 3 (some FieldType.int) :: kWs) ({ frames := 2, cells := 0, slots := 0, locals := 60 } : Room) D kCl (kty cI cL cQ) z [.ref b, .int (nI x9), .int (nI (x9 + 1))] (sz) w 0 0 (fun v w' => v = some (.int (nI (sGcd a9 b9).1)) ∧ (∃ S2 X2, moS cI cL w' b I K S2 (mC X2) ∧ (∀ p, X2 p < nM ^ 64) ∧ ((sGcd a9 b9).1 = 0 → X2 x9 = Int.natAbs (sGcd a9 b9).2 ∧ S2 x9 = sg32 (sGcd a9 b9).2) ∧ ∀ p, p ≠ x9 → p < 18 ∨ 22 < p → X2 p = X p ∧ S2 p = S p) ∧ ∀ q, q < b ∨ b + 9 ≤ q → w' q = w q) := by
  refine fw_ofW (cc := cMo_divisor) (maxL := 3) (ret := (some FieldType.int)) (by decide) rfl (Nat.le_of_ble_eq_true rfl) ?_
  intro p e s m args below meth c hx hb hr hts hown hlocks hname hml hK H ls hw hl
  have hW : ∀ w ∈ kWs, w.before args s = true := fun w h => hts w (List.mem_cons_of_mem _ h)
  have hown : s.vm.findClass RMo = some m.cls := hown
  have hl : lv_has ls 3 [(0, .ref b), (1, .int (nI x9)), (2, .int (nI (x9 + 1)))] := hl
  have b0 : w b = some (.inr (10, [.int (nI (I 0)), .ref (b + 1), .ref (b + 2), .int (nI (I 3)), .ref (b + 3), .ref (b + 4), .int (nI (I 6)), .int (nI (I 7)), .ref (b + 5), .ref (b + 6), .int (nI (I 10)), .int (nI (I 11)), .int (nI (I 12)), .int (nI (I 13)), .ref (b + 7), .ref (b + 8), .int (nI (I 16)), .int (nI (I 17)), .int (nI (I 18)), .int (nI (I 19))])) := hS.1
  have b1 : w (b + 1) = some (.inl (cL, 1536, .inr (.inl (fun i => lN (mC X i))))) := hS.2.1
  have b2 : w (b + 2) = some (.inl (cI, 24, .inl (S))) := hS.2.2.1
  have b09 := b0
  have b29 := b2
  obtain ⟨hxx, hsx⟩ := rx
  obtain ⟨hxy, hsy⟩ := ry
  have hxO := h1x
  have hsO := h1s
  have hXb := hX
  have hfr : ∀ p, p ≠ x9 → p < 18 ∨ 22 < p → X p = X p ∧ S p = S p := fun p _ _ => ⟨rfl, rfl⟩
  have hoF : ∀ q, q < b ∨ b + 9 ≤ q → w q = w q := fun q _ => rfl
  have p64 : 2 ^ 768 < nM ^ 64 := by decide +kernel
  have loop : ∀ (N G L : Nat), L ≤ N → Nat.gcd G L = Nat.gcd (Int.natAbs a9) (Int.natAbs b9) → G < 2 ^ 768 → L < 2 ^ 768 → ∀ (w1 : fw_W) (H : Heap) (locs : List Loc) (ls : Array Slot) (S1 : Nat → Int32) (X1 : Nat → Nat), fw_H D kCl (fw_A w (sz)) s.heap w1 (sz) H locs → lv_has ls 3 [(0, .ref b), (1, .int (nI x9)), (2, .int (nI (x9 + 1)))] → moS cI cL w1 b I K S1 (mC X1) → (∀ p, X1 p < nM ^ 64) → X1 x9 = G → X1 19 = L → (∀ p, p ≠ x9 → p < 18 ∨ 22 < p → X1 p = X p ∧ S1 p = S p) → (∀ q, q < b ∨ b + 9 ≤ q → w1 q = w q) → W p l e ({ frames := 2, cells := 0, slots := 0, locals := 60 } : Room) s m args below meth c H locs 0 0 (MQ below (fw_Q D kCl w (sz) 0 (fun v w' => v = some (.int (nI (sGcd a9 b9).1)) ∧ (∃ S2 X2, moS cI cL w' b I K S2 (mC X2) ∧ (∀ p, X2 p < nM ^ 64) ∧ ((sGcd a9 b9).1 = 0 → X2 x9 = Int.natAbs (sGcd a9 b9).2 ∧ S2 x9 = sg32 (sGcd a9 b9).2) ∧ ∀ p, p ≠ x9 → p < 18 ∨ 22 < p → X2 p = X p ∧ S2 p = S p) ∧ ∀ q, q < b ∨ b + 9 ≤ q → w' q = w q)) args s 0 0 (fw_A w (sz))) (F0 m 7 ls []) := by
    intro N
    induction N with
    | zero =>
      intro G L hLN hgc hG7 hL7 w1 H locs ls S1 X1 hw hl hS hXb hxx hxB hfr hoF
      have b0 : w1 b = some (.inr (10, [.int (nI (I 0)), .ref (b + 1), .ref (b + 2), .int (nI (I 3)), .ref (b + 3), .ref (b + 4), .int (nI (I 6)), .int (nI (I 7)), .ref (b + 5), .ref (b + 6), .int (nI (I 10)), .int (nI (I 11)), .int (nI (I 12)), .int (nI (I 13)), .ref (b + 7), .ref (b + 8), .int (nI (I 16)), .int (nI (I 17)), .int (nI (I 18)), .int (nI (I 19))])) := hS.1
      have b1 : w1 (b + 1) = some (.inl (cL, 1536, .inr (.inl (fun i => lN (mC X1 i))))) := hS.2.1
      have b2 : w1 (b + 2) = some (.inl (cI, 24, .inl (S1))) := hS.2.2.1
      refine lv_aload_n (pc := 7) hx hb dMo_divisor_7 rfl (lv_at hl 0 rfl) ?_
      refine lv_bipush (pc := 8) (v := (nI 19)) hx hb dMo_divisor_8 (by decide) ?_
      refine fw_cVR (pc := 10) (As := [.int (nI 19)]) (rest := []) ⟨hx, hb, hml, hown, hW⟩ (c_Mo_limbs (p0 := 19) hS hXb (by decide)) (cwV 1 hW (kw_V lm_Mo_128 im_Mo_limbs se_Mo_limbs ini_Mo cd_Mo_limbs) rfl rfl rfl (by decide +kernel) ⟨Nat.le_of_ble_eq_true rfl, Nat.le_of_ble_eq_true rfl⟩) hK hw b0 rfl rfl hl.1 rfl (Nat.le_of_ble_eq_true rfl) dMo_divisor_10 ⟨Nat.le_of_ble_eq_true rfl, Nat.le_of_ble_eq_true rfl⟩ (fun v hq => ?_)
      obtain ⟨nl9, rfl, hnl, hml9⟩ := hq
      rw [hxB] at hml9
      have hlz := ml_zero hml9
      refine W.eq (g2 := F0 m 13 ls [.int (nI nl9)]) rfl ?_
      rcases Nat.eq_zero_or_pos L with hL0 | hL0
      · rw [show (nI nl9 : Int32) = nI 0 from (by rw [hlz.mpr hL0])]
        refine lv_if_le (pc := 13) (tgt := 48) hx hb dMo_divisor_13 (by decide) (fun _ => ?_) (fun hc => absurd (show nI 0 ≤ 0 by decide) hc)
        have hGe : G = Nat.gcd (Int.natAbs a9) (Int.natAbs b9) := by rw [← hgc, hL0, Nat.gcd_zero_right]
        refine lv_aload_n (pc := 48) hx hb dMo_divisor_48 rfl (lv_at hl 0 rfl) ?_
        refine fw_get (pc := 49) (ci := 10) (v := .ref (b + 2)) (C := RMo) (T := TMo) (N := 20) hx hb hW in_Mo hown hK.1 hw b0 rfl 2 (by decide) (hW _ lf_Mo_13) (fun _ h => h) rfl dMo_divisor_49 ?_
        refine lv_iload_n (pc := 52) hx hb dMo_divisor_52 rfl (lv_at hl 1 rfl) ?_
        refine lv_aload_n (pc := 53) hx hb dMo_divisor_53 rfl (lv_at hl 0 rfl) ?_
        refine lv_iload_n (pc := 54) hx hb dMo_divisor_54 rfl (lv_at hl 1 rfl) ?_
        refine fw_cVR (pc := 55) (As := [.int (nI x9)]) (rest := [.int (nI x9), .ref (b + 2)]) ⟨hx, hb, hml, hown, hW⟩ (c_Mo_limbs (p0 := x9) hS hXb (by omega)) (cwV 1 hW (kw_V lm_Mo_128 im_Mo_limbs se_Mo_limbs ini_Mo cd_Mo_limbs) rfl rfl rfl (by decide +kernel) ⟨Nat.le_of_ble_eq_true rfl, Nat.le_of_ble_eq_true rfl⟩) hK hw b0 rfl rfl hl.1 rfl (Nat.le_of_ble_eq_true rfl) dMo_divisor_55 ⟨Nat.le_of_ble_eq_true rfl, Nat.le_of_ble_eq_true rfl⟩ (fun v hq => ?_)
        obtain ⟨nl8, rfl, hnl8, hml8⟩ := hq
        rw [hxx] at hml8
        have hlz8 := ml_zero hml8
        refine W.eq (g2 := F0 m 58 ls [.int (nI nl8), .int (nI x9), .ref (b + 2)]) rfl ?_
        rcases Nat.eq_zero_or_pos G with hm0 | hm0
        · rw [show (nI nl8 : Int32) = nI 0 from (by rw [hlz8.mpr hm0])]
          refine lv_if_ne (pc := 58) (tgt := 65) hx hb dMo_divisor_58 (by decide) (fun hc => absurd hc (fun h => h (by decide))) (fun _ => ?_)
          refine lv_iconst (pc := 61) (v := (nI 0)) hx hb dMo_divisor_61 (by decide) ?_
          refine lv_goto (pc := 62) (tgt := 66) hx hb dMo_divisor_62 (by decide) ?_
          refine fw_iastN (pc := 66) (f2 := va_up S1 (x9) (nI 0)) hx hb hK.1 hw 0 b2 rfl (x9) (by omega) (by decide) (rfl) dMo_divisor_66 (fun H locs hw => ?_)
          obtain ⟨w301, e301⟩ : ∃ w_, w_ = fw_up w1 (b + 2) (.inl (cI, 24, .inl (va_up S1 (x9) (nI 0)))) := ⟨_, rfl⟩
          have hw : fw_H D kCl (fw_A w (sz)) s.heap w301 (sz) H locs := by rw [e301]; exact hw
          have b0_ : w301 (b) = some (.inr (10, [.int (nI (I 0)), .ref (b + 1), .ref (b + 2), .int (nI (I 3)), .ref (b + 3), .ref (b + 4), .int (nI (I 6)), .int (nI (I 7)), .ref (b + 5), .ref (b + 6), .int (nI (I 10)), .int (nI (I 11)), .int (nI (I 12)), .int (nI (I 13)), .ref (b + 7), .ref (b + 8), .int (nI (I 16)), .int (nI (I 17)), .int (nI (I 18)), .int (nI (I 19))])) := by rw [e301, fw_un (by omega)]; exact b0
          have b1_ : w301 (b + 1) = some (.inl (cL, 1536, .inr (.inl (fun i => lN (mC X1 i))))) := by rw [e301, fw_un (by omega)]; exact b1
          have b2_ : w301 (b + 2) = some (.inl (cI, 24, .inl (va_up S1 (x9) (nI 0)))) := by rw [e301]; exact fw_us _ _ _
          have b0 := b0_
          have b1 := b1_
          have b2 := b2_
          have hS : moS cI cL w301 b I K (va_up S1 (x9) (nI 0)) (mC X1) := moS.cs hS b1 b2 (fun q h1 h2 => by rw [e301, fw_un h2])
          have hoF : ∀ q, q < b ∨ b + 9 ≤ q → w301 q = w q := fun q h9 => by rw [e301, fw_un (by omega)]; exact hoF q h9
          obtain ⟨S97, eS97⟩ : ∃ S_, S_ = va_up S1 (x9) (nI 0) := ⟨_, rfl⟩
          rw [← eS97] at hS
          have hv9 : (nI 0 : Int32) = nI 0 := rfl
          have hsx : S97 (x9) = nI 0 := by rw [eS97]; exact up_s.trans hv9
          have hfr : ∀ p, p ≠ x9 → p < 18 ∨ 22 < p → X1 p = X p ∧ S97 p = S p := fun p h1 h2 => by rw [eS97, up_o (by omega)]; exact hfr p h1 h2
          have b0 : w301 b = some (.inr (10, [.int (nI (I 0)), .ref (b + 1), .ref (b + 2), .int (nI (I 3)), .ref (b + 3), .ref (b + 4), .int (nI (I 6)), .int (nI (I 7)), .ref (b + 5), .ref (b + 6), .int (nI (I 10)), .int (nI (I 11)), .int (nI (I 12)), .int (nI (I 13)), .ref (b + 7), .ref (b + 8), .int (nI (I 16)), .int (nI (I 17)), .int (nI (I 18)), .int (nI (I 19))])) := hS.1
          have b1 : w301 (b + 1) = some (.inl (cL, 1536, .inr (.inl (fun i => lN (mC X1 i))))) := hS.2.1
          have b2 : w301 (b + 2) = some (.inl (cI, 24, .inl (S97))) := hS.2.2.1
          refine lv_iconst (pc := 67) (v := (nI 0)) hx hb dMo_divisor_67 (by decide) ?_
          exact fw_iret (pc := 68) hx hb hr hlocks hw dMo_divisor_68 ⟨rfl, ⟨_, _, hS, hXb, fun _ => by (show _ = Int.natAbs ((Nat.gcd (Int.natAbs a9) (Int.natAbs b9) : Nat) : Int) ∧ _ = sg32 ((Nat.gcd (Int.natAbs a9) (Int.natAbs b9) : Nat) : Int)); rw [← hGe, Int.natAbs_natCast]; exact ⟨hxx, hsx.trans (sg32_z (by omega)).symm⟩, hfr⟩, hoF⟩
        · refine lv_if_ne (pc := 58) (tgt := 65) hx hb dMo_divisor_58 (by decide) (fun _ => ?_) (fun hc => absurd hc (nI_ne0 (Nat.pos_of_ne_zero (fun h9 => by have := hlz8.mp h9; omega)) (by omega)))
          refine lv_iconst (pc := 65) (v := (nI 1)) hx hb dMo_divisor_65 (by decide) ?_
          refine fw_iastN (pc := 66) (f2 := va_up S1 (x9) (nI 1)) hx hb hK.1 hw 0 b2 rfl (x9) (by omega) (by decide) (rfl) dMo_divisor_66 (fun H locs hw => ?_)
          obtain ⟨w302, e302⟩ : ∃ w_, w_ = fw_up w1 (b + 2) (.inl (cI, 24, .inl (va_up S1 (x9) (nI 1)))) := ⟨_, rfl⟩
          have hw : fw_H D kCl (fw_A w (sz)) s.heap w302 (sz) H locs := by rw [e302]; exact hw
          have b0_ : w302 (b) = some (.inr (10, [.int (nI (I 0)), .ref (b + 1), .ref (b + 2), .int (nI (I 3)), .ref (b + 3), .ref (b + 4), .int (nI (I 6)), .int (nI (I 7)), .ref (b + 5), .ref (b + 6), .int (nI (I 10)), .int (nI (I 11)), .int (nI (I 12)), .int (nI (I 13)), .ref (b + 7), .ref (b + 8), .int (nI (I 16)), .int (nI (I 17)), .int (nI (I 18)), .int (nI (I 19))])) := by rw [e302, fw_un (by omega)]; exact b0
          have b1_ : w302 (b + 1) = some (.inl (cL, 1536, .inr (.inl (fun i => lN (mC X1 i))))) := by rw [e302, fw_un (by omega)]; exact b1
          have b2_ : w302 (b + 2) = some (.inl (cI, 24, .inl (va_up S1 (x9) (nI 1)))) := by rw [e302]; exact fw_us _ _ _
          have b0 := b0_
          have b1 := b1_
          have b2 := b2_
          have hS : moS cI cL w302 b I K (va_up S1 (x9) (nI 1)) (mC X1) := moS.cs hS b1 b2 (fun q h1 h2 => by rw [e302, fw_un h2])
          have hoF : ∀ q, q < b ∨ b + 9 ≤ q → w302 q = w q := fun q h9 => by rw [e302, fw_un (by omega)]; exact hoF q h9
          obtain ⟨S98, eS98⟩ : ∃ S_, S_ = va_up S1 (x9) (nI 1) := ⟨_, rfl⟩
          rw [← eS98] at hS
          have hv9 : (nI 1 : Int32) = nI 1 := rfl
          have hsx : S98 (x9) = nI 1 := by rw [eS98]; exact up_s.trans hv9
          have hfr : ∀ p, p ≠ x9 → p < 18 ∨ 22 < p → X1 p = X p ∧ S98 p = S p := fun p h1 h2 => by rw [eS98, up_o (by omega)]; exact hfr p h1 h2
          have b0 : w302 b = some (.inr (10, [.int (nI (I 0)), .ref (b + 1), .ref (b + 2), .int (nI (I 3)), .ref (b + 3), .ref (b + 4), .int (nI (I 6)), .int (nI (I 7)), .ref (b + 5), .ref (b + 6), .int (nI (I 10)), .int (nI (I 11)), .int (nI (I 12)), .int (nI (I 13)), .ref (b + 7), .ref (b + 8), .int (nI (I 16)), .int (nI (I 17)), .int (nI (I 18)), .int (nI (I 19))])) := hS.1
          have b1 : w302 (b + 1) = some (.inl (cL, 1536, .inr (.inl (fun i => lN (mC X1 i))))) := hS.2.1
          have b2 : w302 (b + 2) = some (.inl (cI, 24, .inl (S98))) := hS.2.2.1
          refine lv_iconst (pc := 67) (v := (nI 0)) hx hb dMo_divisor_67 (by decide) ?_
          exact fw_iret (pc := 68) hx hb hr hlocks hw dMo_divisor_68 ⟨rfl, ⟨_, _, hS, hXb, fun _ => by (show _ = Int.natAbs ((Nat.gcd (Int.natAbs a9) (Int.natAbs b9) : Nat) : Int) ∧ _ = sg32 ((Nat.gcd (Int.natAbs a9) (Int.natAbs b9) : Nat) : Int)); rw [← hGe, Int.natAbs_natCast]; exact ⟨hxx, hsx.trans (sg32_p (by omega)).symm⟩, hfr⟩, hoF⟩
      · refine lv_if_le (pc := 13) (tgt := 48) hx hb dMo_divisor_13 (by decide) (fun hc => absurd hc (nI_nle (Nat.pos_of_ne_zero (fun h9 => by have := hlz.mp h9; omega)) (by omega))) (fun _ => ?_)
        exact absurd hL0 (by omega)
    | succ N ih =>
      intro G L hLN hgc hG7 hL7 w1 H locs ls S1 X1 hw hl hS hXb hxx hxB hfr hoF
      have b0 : w1 b = some (.inr (10, [.int (nI (I 0)), .ref (b + 1), .ref (b + 2), .int (nI (I 3)), .ref (b + 3), .ref (b + 4), .int (nI (I 6)), .int (nI (I 7)), .ref (b + 5), .ref (b + 6), .int (nI (I 10)), .int (nI (I 11)), .int (nI (I 12)), .int (nI (I 13)), .ref (b + 7), .ref (b + 8), .int (nI (I 16)), .int (nI (I 17)), .int (nI (I 18)), .int (nI (I 19))])) := hS.1
      have b1 : w1 (b + 1) = some (.inl (cL, 1536, .inr (.inl (fun i => lN (mC X1 i))))) := hS.2.1
      have b2 : w1 (b + 2) = some (.inl (cI, 24, .inl (S1))) := hS.2.2.1
      refine lv_aload_n (pc := 7) hx hb dMo_divisor_7 rfl (lv_at hl 0 rfl) ?_
      refine lv_bipush (pc := 8) (v := (nI 19)) hx hb dMo_divisor_8 (by decide) ?_
      refine fw_cVR (pc := 10) (As := [.int (nI 19)]) (rest := []) ⟨hx, hb, hml, hown, hW⟩ (c_Mo_limbs (p0 := 19) hS hXb (by decide)) (cwV 1 hW (kw_V lm_Mo_128 im_Mo_limbs se_Mo_limbs ini_Mo cd_Mo_limbs) rfl rfl rfl (by decide +kernel) ⟨Nat.le_of_ble_eq_true rfl, Nat.le_of_ble_eq_true rfl⟩) hK hw b0 rfl rfl hl.1 rfl (Nat.le_of_ble_eq_true rfl) dMo_divisor_10 ⟨Nat.le_of_ble_eq_true rfl, Nat.le_of_ble_eq_true rfl⟩ (fun v hq => ?_)
      obtain ⟨nl9, rfl, hnl, hml9⟩ := hq
      rw [hxB] at hml9
      have hlz := ml_zero hml9
      refine W.eq (g2 := F0 m 13 ls [.int (nI nl9)]) rfl ?_
      rcases Nat.eq_zero_or_pos L with hL0 | hL0
      · rw [show (nI nl9 : Int32) = nI 0 from (by rw [hlz.mpr hL0])]
        refine lv_if_le (pc := 13) (tgt := 48) hx hb dMo_divisor_13 (by decide) (fun _ => ?_) (fun hc => absurd (show nI 0 ≤ 0 by decide) hc)
        have hGe : G = Nat.gcd (Int.natAbs a9) (Int.natAbs b9) := by rw [← hgc, hL0, Nat.gcd_zero_right]
        refine lv_aload_n (pc := 48) hx hb dMo_divisor_48 rfl (lv_at hl 0 rfl) ?_
        refine fw_get (pc := 49) (ci := 10) (v := .ref (b + 2)) (C := RMo) (T := TMo) (N := 20) hx hb hW in_Mo hown hK.1 hw b0 rfl 2 (by decide) (hW _ lf_Mo_13) (fun _ h => h) rfl dMo_divisor_49 ?_
        refine lv_iload_n (pc := 52) hx hb dMo_divisor_52 rfl (lv_at hl 1 rfl) ?_
        refine lv_aload_n (pc := 53) hx hb dMo_divisor_53 rfl (lv_at hl 0 rfl) ?_
        refine lv_iload_n (pc := 54) hx hb dMo_divisor_54 rfl (lv_at hl 1 rfl) ?_
        refine fw_cVR (pc := 55) (As := [.int (nI x9)]) (rest := [.int (nI x9), .ref (b + 2)]) ⟨hx, hb, hml, hown, hW⟩ (c_Mo_limbs (p0 := x9) hS hXb (by omega)) (cwV 1 hW (kw_V lm_Mo_128 im_Mo_limbs se_Mo_limbs ini_Mo cd_Mo_limbs) rfl rfl rfl (by decide +kernel) ⟨Nat.le_of_ble_eq_true rfl, Nat.le_of_ble_eq_true rfl⟩) hK hw b0 rfl rfl hl.1 rfl (Nat.le_of_ble_eq_true rfl) dMo_divisor_55 ⟨Nat.le_of_ble_eq_true rfl, Nat.le_of_ble_eq_true rfl⟩ (fun v hq => ?_)
        obtain ⟨nl8, rfl, hnl8, hml8⟩ := hq
        rw [hxx] at hml8
        have hlz8 := ml_zero hml8
        refine W.eq (g2 := F0 m 58 ls [.int (nI nl8), .int (nI x9), .ref (b + 2)]) rfl ?_
        rcases Nat.eq_zero_or_pos G with hm0 | hm0
        · rw [show (nI nl8 : Int32) = nI 0 from (by rw [hlz8.mpr hm0])]
          refine lv_if_ne (pc := 58) (tgt := 65) hx hb dMo_divisor_58 (by decide) (fun hc => absurd hc (fun h => h (by decide))) (fun _ => ?_)
          refine lv_iconst (pc := 61) (v := (nI 0)) hx hb dMo_divisor_61 (by decide) ?_
          refine lv_goto (pc := 62) (tgt := 66) hx hb dMo_divisor_62 (by decide) ?_
          refine fw_iastN (pc := 66) (f2 := va_up S1 (x9) (nI 0)) hx hb hK.1 hw 0 b2 rfl (x9) (by omega) (by decide) (rfl) dMo_divisor_66 (fun H locs hw => ?_)
          obtain ⟨w301, e301⟩ : ∃ w_, w_ = fw_up w1 (b + 2) (.inl (cI, 24, .inl (va_up S1 (x9) (nI 0)))) := ⟨_, rfl⟩
          have hw : fw_H D kCl (fw_A w (sz)) s.heap w301 (sz) H locs := by rw [e301]; exact hw
          have b0_ : w301 (b) = some (.inr (10, [.int (nI (I 0)), .ref (b + 1), .ref (b + 2), .int (nI (I 3)), .ref (b + 3), .ref (b + 4), .int (nI (I 6)), .int (nI (I 7)), .ref (b + 5), .ref (b + 6), .int (nI (I 10)), .int (nI (I 11)), .int (nI (I 12)), .int (nI (I 13)), .ref (b + 7), .ref (b + 8), .int (nI (I 16)), .int (nI (I 17)), .int (nI (I 18)), .int (nI (I 19))])) := by rw [e301, fw_un (by omega)]; exact b0
          have b1_ : w301 (b + 1) = some (.inl (cL, 1536, .inr (.inl (fun i => lN (mC X1 i))))) := by rw [e301, fw_un (by omega)]; exact b1
          have b2_ : w301 (b + 2) = some (.inl (cI, 24, .inl (va_up S1 (x9) (nI 0)))) := by rw [e301]; exact fw_us _ _ _
          have b0 := b0_
          have b1 := b1_
          have b2 := b2_
          have hS : moS cI cL w301 b I K (va_up S1 (x9) (nI 0)) (mC X1) := moS.cs hS b1 b2 (fun q h1 h2 => by rw [e301, fw_un h2])
          have hoF : ∀ q, q < b ∨ b + 9 ≤ q → w301 q = w q := fun q h9 => by rw [e301, fw_un (by omega)]; exact hoF q h9
          obtain ⟨S99, eS99⟩ : ∃ S_, S_ = va_up S1 (x9) (nI 0) := ⟨_, rfl⟩
          rw [← eS99] at hS
          have hv9 : (nI 0 : Int32) = nI 0 := rfl
          have hsx : S99 (x9) = nI 0 := by rw [eS99]; exact up_s.trans hv9
          have hfr : ∀ p, p ≠ x9 → p < 18 ∨ 22 < p → X1 p = X p ∧ S99 p = S p := fun p h1 h2 => by rw [eS99, up_o (by omega)]; exact hfr p h1 h2
          have b0 : w301 b = some (.inr (10, [.int (nI (I 0)), .ref (b + 1), .ref (b + 2), .int (nI (I 3)), .ref (b + 3), .ref (b + 4), .int (nI (I 6)), .int (nI (I 7)), .ref (b + 5), .ref (b + 6), .int (nI (I 10)), .int (nI (I 11)), .int (nI (I 12)), .int (nI (I 13)), .ref (b + 7), .ref (b + 8), .int (nI (I 16)), .int (nI (I 17)), .int (nI (I 18)), .int (nI (I 19))])) := hS.1
          have b1 : w301 (b + 1) = some (.inl (cL, 1536, .inr (.inl (fun i => lN (mC X1 i))))) := hS.2.1
          have b2 : w301 (b + 2) = some (.inl (cI, 24, .inl (S99))) := hS.2.2.1
          refine lv_iconst (pc := 67) (v := (nI 0)) hx hb dMo_divisor_67 (by decide) ?_
          exact fw_iret (pc := 68) hx hb hr hlocks hw dMo_divisor_68 ⟨rfl, ⟨_, _, hS, hXb, fun _ => by (show _ = Int.natAbs ((Nat.gcd (Int.natAbs a9) (Int.natAbs b9) : Nat) : Int) ∧ _ = sg32 ((Nat.gcd (Int.natAbs a9) (Int.natAbs b9) : Nat) : Int)); rw [← hGe, Int.natAbs_natCast]; exact ⟨hxx, hsx.trans (sg32_z (by omega)).symm⟩, hfr⟩, hoF⟩
        · refine lv_if_ne (pc := 58) (tgt := 65) hx hb dMo_divisor_58 (by decide) (fun _ => ?_) (fun hc => absurd hc (nI_ne0 (Nat.pos_of_ne_zero (fun h9 => by have := hlz8.mp h9; omega)) (by omega)))
          refine lv_iconst (pc := 65) (v := (nI 1)) hx hb dMo_divisor_65 (by decide) ?_
          refine fw_iastN (pc := 66) (f2 := va_up S1 (x9) (nI 1)) hx hb hK.1 hw 0 b2 rfl (x9) (by omega) (by decide) (rfl) dMo_divisor_66 (fun H locs hw => ?_)
          obtain ⟨w302, e302⟩ : ∃ w_, w_ = fw_up w1 (b + 2) (.inl (cI, 24, .inl (va_up S1 (x9) (nI 1)))) := ⟨_, rfl⟩
          have hw : fw_H D kCl (fw_A w (sz)) s.heap w302 (sz) H locs := by rw [e302]; exact hw
          have b0_ : w302 (b) = some (.inr (10, [.int (nI (I 0)), .ref (b + 1), .ref (b + 2), .int (nI (I 3)), .ref (b + 3), .ref (b + 4), .int (nI (I 6)), .int (nI (I 7)), .ref (b + 5), .ref (b + 6), .int (nI (I 10)), .int (nI (I 11)), .int (nI (I 12)), .int (nI (I 13)), .ref (b + 7), .ref (b + 8), .int (nI (I 16)), .int (nI (I 17)), .int (nI (I 18)), .int (nI (I 19))])) := by rw [e302, fw_un (by omega)]; exact b0
          have b1_ : w302 (b + 1) = some (.inl (cL, 1536, .inr (.inl (fun i => lN (mC X1 i))))) := by rw [e302, fw_un (by omega)]; exact b1
          have b2_ : w302 (b + 2) = some (.inl (cI, 24, .inl (va_up S1 (x9) (nI 1)))) := by rw [e302]; exact fw_us _ _ _
          have b0 := b0_
          have b1 := b1_
          have b2 := b2_
          have hS : moS cI cL w302 b I K (va_up S1 (x9) (nI 1)) (mC X1) := moS.cs hS b1 b2 (fun q h1 h2 => by rw [e302, fw_un h2])
          have hoF : ∀ q, q < b ∨ b + 9 ≤ q → w302 q = w q := fun q h9 => by rw [e302, fw_un (by omega)]; exact hoF q h9
          obtain ⟨S100, eS100⟩ : ∃ S_, S_ = va_up S1 (x9) (nI 1) := ⟨_, rfl⟩
          rw [← eS100] at hS
          have hv9 : (nI 1 : Int32) = nI 1 := rfl
          have hsx : S100 (x9) = nI 1 := by rw [eS100]; exact up_s.trans hv9
          have hfr : ∀ p, p ≠ x9 → p < 18 ∨ 22 < p → X1 p = X p ∧ S100 p = S p := fun p h1 h2 => by rw [eS100, up_o (by omega)]; exact hfr p h1 h2
          have b0 : w302 b = some (.inr (10, [.int (nI (I 0)), .ref (b + 1), .ref (b + 2), .int (nI (I 3)), .ref (b + 3), .ref (b + 4), .int (nI (I 6)), .int (nI (I 7)), .ref (b + 5), .ref (b + 6), .int (nI (I 10)), .int (nI (I 11)), .int (nI (I 12)), .int (nI (I 13)), .ref (b + 7), .ref (b + 8), .int (nI (I 16)), .int (nI (I 17)), .int (nI (I 18)), .int (nI (I 19))])) := hS.1
          have b1 : w302 (b + 1) = some (.inl (cL, 1536, .inr (.inl (fun i => lN (mC X1 i))))) := hS.2.1
          have b2 : w302 (b + 2) = some (.inl (cI, 24, .inl (S100))) := hS.2.2.1
          refine lv_iconst (pc := 67) (v := (nI 0)) hx hb dMo_divisor_67 (by decide) ?_
          exact fw_iret (pc := 68) hx hb hr hlocks hw dMo_divisor_68 ⟨rfl, ⟨_, _, hS, hXb, fun _ => by (show _ = Int.natAbs ((Nat.gcd (Int.natAbs a9) (Int.natAbs b9) : Nat) : Int) ∧ _ = sg32 ((Nat.gcd (Int.natAbs a9) (Int.natAbs b9) : Nat) : Int)); rw [← hGe, Int.natAbs_natCast]; exact ⟨hxx, hsx.trans (sg32_p (by omega)).symm⟩, hfr⟩, hoF⟩
      · refine lv_if_le (pc := 13) (tgt := 48) hx hb dMo_divisor_13 (by decide) (fun hc => absurd hc (nI_nle (Nat.pos_of_ne_zero (fun h9 => by have := hlz.mp h9; omega)) (by omega))) (fun _ => ?_)
        refine lv_aload_n (pc := 16) hx hb dMo_divisor_16 rfl (lv_at hl 0 rfl) ?_
        refine lv_iload_n (pc := 17) hx hb dMo_divisor_17 rfl (lv_at hl 1 rfl) ?_
        refine lv_bipush (pc := 18) (v := (nI 19)) hx hb dMo_divisor_18 (by decide) ?_
        have hxx0 := hxx
        have hxB0 := hxB
        refine fw_cV (pc := 20) (As := [.int (nI x9), .int (nI 19)]) (rest := []) ⟨hx, hb, hml, hown, hW⟩ (c_Mo_divide (pa := x9) (pb := 19) hS hXb (by omega) (by omega) (by omega) (by omega) (by omega) (by rw [hxB]; exact hL0)) (cwV 2 hW (kw_V lm_Mo_159 im_Mo_divide se_Mo_divide ini_Mo cd_Mo_divide) rfl rfl rfl (by decide +kernel) ⟨Nat.le_of_ble_eq_true rfl, Nat.le_of_ble_eq_true rfl⟩) hK hw b0 rfl rfl hl.1 rfl (Nat.le_of_ble_eq_true rfl) dMo_divisor_20 ⟨Nat.le_of_ble_eq_true rfl, Nat.le_of_ble_eq_true rfl⟩ (fun v w301 H locs hq hw => ?_)
        obtain ⟨rfl, hS, hn9⟩ := hq
        have hoF : ∀ q, q < b ∨ b + 9 ≤ q → w301 q = w q := fun q h9 => (hn9 q h9).trans (hoF q h9)
        have hmg := Nat.mod_lt G hL0
        have hB9 : G / L < nM ^ 64 := Nat.lt_trans (Nat.lt_of_le_of_lt (Nat.div_le_self _ _) hG7) p64
        have hB8 : G % L < nM ^ 64 := Nat.lt_trans (Nat.lt_trans hmg hL7) p64
        obtain ⟨X101, eX101⟩ : ∃ X_, X_ = va_up X1 (20) (X1 (x9) / X1 (19)) := ⟨_, rfl⟩
        rw [← eX101] at hS
        have hv9 : X1 (x9) / X1 (19) = G / L := (by rw [hxx0, hxB0])
        have hxx : X101 (x9) = G := by rw [eX101, up_o (by omega)]; exact hxx
        have hxB : X101 (19) = L := by rw [eX101, up_o (by omega)]; exact hxB
        have hxQ : X101 (20) = G / L := by rw [eX101]; exact up_s.trans hv9
        have hXb : ∀ p, X101 p < nM ^ 64 := fun p => by (rw [eX101]; unfold va_up; split; (rw [hv9]; exact hB9); exact hXb p)
        have hfr : ∀ p, p ≠ x9 → p < 18 ∨ 22 < p → X101 p = X p ∧ S1 p = S p := fun p h1 h2 => by rw [eX101, up_o (by omega)]; exact hfr p h1 h2
        obtain ⟨X102, eX102⟩ : ∃ X_, X_ = va_up X101 (x9) (X1 (x9) % X1 (19)) := ⟨_, rfl⟩
        rw [← eX102] at hS
        have hv9 : X1 (x9) % X1 (19) = G % L := (by rw [hxx0, hxB0])
        have hxB : X102 (19) = L := by rw [eX102, up_o (by omega)]; exact hxB
        have hxQ : X102 (20) = G / L := by rw [eX102, up_o (by omega)]; exact hxQ
        have hxx : X102 (x9) = G % L := by rw [eX102]; exact up_s.trans hv9
        have hXb : ∀ p, X102 p < nM ^ 64 := fun p => by (rw [eX102]; unfold va_up; split; (rw [hv9]; exact hB8); exact hXb p)
        have hfr : ∀ p, p ≠ x9 → p < 18 ∨ 22 < p → X102 p = X p ∧ S1 p = S p := fun p h1 h2 => by rw [eX102, up_o (by omega)]; exact hfr p h1 h2
        obtain ⟨S103, eS103⟩ : ∃ S_, S_ = va_up S1 (20) (nI 0) := ⟨_, rfl⟩
        rw [← eS103] at hS
        have hv9 : (nI 0 : Int32) = nI 0 := rfl
        have hsQ : S103 (20) = nI 0 := by rw [eS103]; exact up_s.trans hv9
        have hfr : ∀ p, p ≠ x9 → p < 18 ∨ 22 < p → X102 p = X p ∧ S103 p = S p := fun p h1 h2 => by rw [eS103, up_o (by omega)]; exact hfr p h1 h2
        have b0 : w301 b = some (.inr (10, [.int (nI (I 0)), .ref (b + 1), .ref (b + 2), .int (nI (I 3)), .ref (b + 3), .ref (b + 4), .int (nI (I 6)), .int (nI (I 7)), .ref (b + 5), .ref (b + 6), .int (nI (I 10)), .int (nI (I 11)), .int (nI (I 12)), .int (nI (I 13)), .ref (b + 7), .ref (b + 8), .int (nI (I 16)), .int (nI (I 17)), .int (nI (I 18)), .int (nI (I 19))])) := hS.1
        have b1 : w301 (b + 1) = some (.inl (cL, 1536, .inr (.inl (fun i => lN (mC X102 i))))) := hS.2.1
        have b2 : w301 (b + 2) = some (.inl (cI, 24, .inl (S103))) := hS.2.2.1
        refine W.eq (g2 := F0 m 23 ls []) rfl ?_
        refine lv_aload_n (pc := 23) hx hb dMo_divisor_23 rfl (lv_at hl 0 rfl) ?_
        refine lv_iload_n (pc := 24) hx hb dMo_divisor_24 rfl (lv_at hl 1 rfl) ?_
        refine lv_bipush (pc := 25) (v := (nI 18)) hx hb dMo_divisor_25 (by decide) ?_
        refine fw_cV (pc := 27) (As := [.int (nI x9), .int (nI 18)]) (rest := []) ⟨hx, hb, hml, hown, hW⟩ (c_Mo_copy (pa := x9) (pc9 := 18) hS hXb (by omega) (by omega) (by omega)) (cwV 2 hW (kw_V lm_Mo_143 im_Mo_copy se_Mo_copy ini_Mo cd_Mo_copy) rfl rfl rfl (by decide +kernel) ⟨Nat.le_of_ble_eq_true rfl, Nat.le_of_ble_eq_true rfl⟩) hK hw b0 rfl rfl hl.1 rfl (Nat.le_of_ble_eq_true rfl) dMo_divisor_27 ⟨Nat.le_of_ble_eq_true rfl, Nat.le_of_ble_eq_true rfl⟩ (fun v w302 H locs hq hw => ?_)
        obtain ⟨rfl, hS, hn9⟩ := hq
        have hoF : ∀ q, q < b ∨ b + 9 ≤ q → w302 q = w q := fun q h9 => (hn9 q h9).trans (hoF q h9)
        have hB9 : G % L < nM ^ 64 := by rw [← hxx]; exact hXb _
        obtain ⟨X104, eX104⟩ : ∃ X_, X_ = va_up X102 (18) (X102 (x9)) := ⟨_, rfl⟩
        rw [← eX104] at hS
        have hv9 : X102 (x9) = G % L := hxx
        have hxx : X104 (x9) = G % L := by rw [eX104, up_o (by omega)]; exact hxx
        have hxB : X104 (19) = L := by rw [eX104, up_o (by omega)]; exact hxB
        have hxQ : X104 (20) = G / L := by rw [eX104, up_o (by omega)]; exact hxQ
        have hxA : X104 (18) = G % L := by rw [eX104]; exact up_s.trans hv9
        have hXb : ∀ p, X104 p < nM ^ 64 := fun p => by (rw [eX104]; unfold va_up; split; (rw [hv9]; exact hB9); exact hXb p)
        have hfr : ∀ p, p ≠ x9 → p < 18 ∨ 22 < p → X104 p = X p ∧ S103 p = S p := fun p h1 h2 => by rw [eX104, up_o (by omega)]; exact hfr p h1 h2
        obtain ⟨S105, eS105⟩ : ∃ S_, S_ = va_up S103 (18) (S103 (x9)) := ⟨_, rfl⟩
        rw [← eS105] at hS
        have hv9 : (S103 (x9) : Int32) = S103 (x9) := rfl
        have hsQ : S105 (20) = nI 0 := by rw [eS105, up_o (by omega)]; exact hsQ
        have hsA : S105 (18) = S103 (x9) := by rw [eS105]; exact up_s.trans hv9
        have hfr : ∀ p, p ≠ x9 → p < 18 ∨ 22 < p → X104 p = X p ∧ S105 p = S p := fun p h1 h2 => by rw [eS105, up_o (by omega)]; exact hfr p h1 h2
        have b0 : w302 b = some (.inr (10, [.int (nI (I 0)), .ref (b + 1), .ref (b + 2), .int (nI (I 3)), .ref (b + 3), .ref (b + 4), .int (nI (I 6)), .int (nI (I 7)), .ref (b + 5), .ref (b + 6), .int (nI (I 10)), .int (nI (I 11)), .int (nI (I 12)), .int (nI (I 13)), .ref (b + 7), .ref (b + 8), .int (nI (I 16)), .int (nI (I 17)), .int (nI (I 18)), .int (nI (I 19))])) := hS.1
        have b1 : w302 (b + 1) = some (.inl (cL, 1536, .inr (.inl (fun i => lN (mC X104 i))))) := hS.2.1
        have b2 : w302 (b + 2) = some (.inl (cI, 24, .inl (S105))) := hS.2.2.1
        refine W.eq (g2 := F0 m 30 ls []) rfl ?_
        refine lv_aload_n (pc := 30) hx hb dMo_divisor_30 rfl (lv_at hl 0 rfl) ?_
        refine lv_bipush (pc := 31) (v := (nI 19)) hx hb dMo_divisor_31 (by decide) ?_
        refine lv_iload_n (pc := 33) hx hb dMo_divisor_33 rfl (lv_at hl 1 rfl) ?_
        refine fw_cV (pc := 34) (As := [.int (nI 19), .int (nI x9)]) (rest := []) ⟨hx, hb, hml, hown, hW⟩ (c_Mo_copy (pa := 19) (pc9 := x9) hS hXb (by omega) (by omega) (by omega)) (cwV 2 hW (kw_V lm_Mo_143 im_Mo_copy se_Mo_copy ini_Mo cd_Mo_copy) rfl rfl rfl (by decide +kernel) ⟨Nat.le_of_ble_eq_true rfl, Nat.le_of_ble_eq_true rfl⟩) hK hw b0 rfl rfl hl.1 rfl (Nat.le_of_ble_eq_true rfl) dMo_divisor_34 ⟨Nat.le_of_ble_eq_true rfl, Nat.le_of_ble_eq_true rfl⟩ (fun v w303 H locs hq hw => ?_)
        obtain ⟨rfl, hS, hn9⟩ := hq
        have hoF : ∀ q, q < b ∨ b + 9 ≤ q → w303 q = w q := fun q h9 => (hn9 q h9).trans (hoF q h9)
        have hB9 : L < nM ^ 64 := by rw [← hxB]; exact hXb _
        obtain ⟨X106, eX106⟩ : ∃ X_, X_ = va_up X104 (x9) (X104 (19)) := ⟨_, rfl⟩
        rw [← eX106] at hS
        have hv9 : X104 (19) = L := hxB
        have hxB : X106 (19) = L := by rw [eX106, up_o (by omega)]; exact hxB
        have hxQ : X106 (20) = G / L := by rw [eX106, up_o (by omega)]; exact hxQ
        have hxA : X106 (18) = G % L := by rw [eX106, up_o (by omega)]; exact hxA
        have hxx : X106 (x9) = L := by rw [eX106]; exact up_s.trans hv9
        have hXb : ∀ p, X106 p < nM ^ 64 := fun p => by (rw [eX106]; unfold va_up; split; (rw [hv9]; exact hB9); exact hXb p)
        have hfr : ∀ p, p ≠ x9 → p < 18 ∨ 22 < p → X106 p = X p ∧ S105 p = S p := fun p h1 h2 => by rw [eX106, up_o (by omega)]; exact hfr p h1 h2
        obtain ⟨S107, eS107⟩ : ∃ S_, S_ = va_up S105 (x9) (S105 (19)) := ⟨_, rfl⟩
        rw [← eS107] at hS
        have hv9 : (S105 (19) : Int32) = S105 (19) := rfl
        have hsQ : S107 (20) = nI 0 := by rw [eS107, up_o (by omega)]; exact hsQ
        have hsx : S107 (x9) = S105 (19) := by rw [eS107]; exact up_s.trans hv9
        have hfr : ∀ p, p ≠ x9 → p < 18 ∨ 22 < p → X106 p = X p ∧ S107 p = S p := fun p h1 h2 => by rw [eS107, up_o (by omega)]; exact hfr p h1 h2
        have b0 : w303 b = some (.inr (10, [.int (nI (I 0)), .ref (b + 1), .ref (b + 2), .int (nI (I 3)), .ref (b + 3), .ref (b + 4), .int (nI (I 6)), .int (nI (I 7)), .ref (b + 5), .ref (b + 6), .int (nI (I 10)), .int (nI (I 11)), .int (nI (I 12)), .int (nI (I 13)), .ref (b + 7), .ref (b + 8), .int (nI (I 16)), .int (nI (I 17)), .int (nI (I 18)), .int (nI (I 19))])) := hS.1
        have b1 : w303 (b + 1) = some (.inl (cL, 1536, .inr (.inl (fun i => lN (mC X106 i))))) := hS.2.1
        have b2 : w303 (b + 2) = some (.inl (cI, 24, .inl (S107))) := hS.2.2.1
        refine W.eq (g2 := F0 m 37 ls []) rfl ?_
        refine lv_aload_n (pc := 37) hx hb dMo_divisor_37 rfl (lv_at hl 0 rfl) ?_
        refine lv_bipush (pc := 38) (v := (nI 18)) hx hb dMo_divisor_38 (by decide) ?_
        refine lv_bipush (pc := 40) (v := (nI 19)) hx hb dMo_divisor_40 (by decide) ?_
        refine fw_cV (pc := 42) (As := [.int (nI 18), .int (nI 19)]) (rest := []) ⟨hx, hb, hml, hown, hW⟩ (c_Mo_copy (pa := 18) (pc9 := 19) hS hXb (by omega) (by omega) (by omega)) (cwV 2 hW (kw_V lm_Mo_143 im_Mo_copy se_Mo_copy ini_Mo cd_Mo_copy) rfl rfl rfl (by decide +kernel) ⟨Nat.le_of_ble_eq_true rfl, Nat.le_of_ble_eq_true rfl⟩) hK hw b0 rfl rfl hl.1 rfl (Nat.le_of_ble_eq_true rfl) dMo_divisor_42 ⟨Nat.le_of_ble_eq_true rfl, Nat.le_of_ble_eq_true rfl⟩ (fun v w304 H locs hq hw => ?_)
        obtain ⟨rfl, hS, hn9⟩ := hq
        have hoF : ∀ q, q < b ∨ b + 9 ≤ q → w304 q = w q := fun q h9 => (hn9 q h9).trans (hoF q h9)
        have hB9 : G % L < nM ^ 64 := by rw [← hxA]; exact hXb _
        obtain ⟨X108, eX108⟩ : ∃ X_, X_ = va_up X106 (19) (X106 (18)) := ⟨_, rfl⟩
        rw [← eX108] at hS
        have hv9 : X106 (18) = G % L := hxA
        have hxx : X108 (x9) = L := by rw [eX108, up_o (by omega)]; exact hxx
        have hxQ : X108 (20) = G / L := by rw [eX108, up_o (by omega)]; exact hxQ
        have hxA : X108 (18) = G % L := by rw [eX108, up_o (by omega)]; exact hxA
        have hxB : X108 (19) = G % L := by rw [eX108]; exact up_s.trans hv9
        have hXb : ∀ p, X108 p < nM ^ 64 := fun p => by (rw [eX108]; unfold va_up; split; (rw [hv9]; exact hB9); exact hXb p)
        have hfr : ∀ p, p ≠ x9 → p < 18 ∨ 22 < p → X108 p = X p ∧ S107 p = S p := fun p h1 h2 => by rw [eX108, up_o (by omega)]; exact hfr p h1 h2
        obtain ⟨S109, eS109⟩ : ∃ S_, S_ = va_up S107 (19) (S107 (18)) := ⟨_, rfl⟩
        rw [← eS109] at hS
        have hv9 : (S107 (18) : Int32) = S107 (18) := rfl
        have hsQ : S109 (20) = nI 0 := by rw [eS109, up_o (by omega)]; exact hsQ
        have hsB : S109 (19) = S107 (18) := by rw [eS109]; exact up_s.trans hv9
        have hfr : ∀ p, p ≠ x9 → p < 18 ∨ 22 < p → X108 p = X p ∧ S109 p = S p := fun p h1 h2 => by rw [eS109, up_o (by omega)]; exact hfr p h1 h2
        have b0 : w304 b = some (.inr (10, [.int (nI (I 0)), .ref (b + 1), .ref (b + 2), .int (nI (I 3)), .ref (b + 3), .ref (b + 4), .int (nI (I 6)), .int (nI (I 7)), .ref (b + 5), .ref (b + 6), .int (nI (I 10)), .int (nI (I 11)), .int (nI (I 12)), .int (nI (I 13)), .ref (b + 7), .ref (b + 8), .int (nI (I 16)), .int (nI (I 17)), .int (nI (I 18)), .int (nI (I 19))])) := hS.1
        have b1 : w304 (b + 1) = some (.inl (cL, 1536, .inr (.inl (fun i => lN (mC X108 i))))) := hS.2.1
        have b2 : w304 (b + 2) = some (.inl (cI, 24, .inl (S109))) := hS.2.2.1
        refine W.eq (g2 := F0 m 45 ls []) rfl ?_
        refine lv_goto (pc := 45) (tgt := 7) hx hb dMo_divisor_45 (by decide) ?_
        exact ih L (G % L) (by omega) ((gc_rec G L).trans hgc) hL7 (Nat.lt_trans hmg hL7) _ H locs ls _ _ hw hl hS hXb hxx hxB hfr hoF
  refine lv_aload_n (pc := 0) hx hb dMo_divisor_0 rfl (lv_at hl 0 rfl) ?_
  refine lv_iload_n (pc := 1) hx hb dMo_divisor_1 rfl (lv_at hl 2 rfl) ?_
  refine lv_bipush (pc := 2) (v := (nI 19)) hx hb dMo_divisor_2 (by decide) ?_
  refine fw_cV (pc := 4) (As := [.int (nI (x9 + 1)), .int (nI 19)]) (rest := []) ⟨hx, hb, hml, hown, hW⟩ (c_Mo_copy (pa := x9 + 1) (pc9 := 19) hS hXb (by omega) (by omega) (by omega)) (cwV 2 hW (kw_V lm_Mo_143 im_Mo_copy se_Mo_copy ini_Mo cd_Mo_copy) rfl rfl rfl (by decide +kernel) ⟨Nat.le_of_ble_eq_true rfl, Nat.le_of_ble_eq_true rfl⟩) hK hw b0 rfl rfl hl.1 rfl (Nat.le_of_ble_eq_true rfl) dMo_divisor_4 ⟨Nat.le_of_ble_eq_true rfl, Nat.le_of_ble_eq_true rfl⟩ (fun v w401 H locs hq hw => ?_)
  obtain ⟨rfl, hS, hn9⟩ := hq
  have hoF : ∀ q, q < b ∨ b + 9 ≤ q → w401 q = w q := fun q h9 => (hn9 q h9).trans (hoF q h9)
  have hB9 : Int.natAbs b9 < nM ^ 64 := by rw [← hxy]; exact hXb _
  obtain ⟨X110, eX110⟩ : ∃ X_, X_ = va_up X (19) (X (x9 + 1)) := ⟨_, rfl⟩
  rw [← eX110] at hS
  have hv9 : X (x9 + 1) = Int.natAbs b9 := hxy
  have hxx : X110 (x9) = Int.natAbs a9 := by rw [eX110, up_o (by omega)]; exact hxx
  have hxy : X110 (x9 + 1) = Int.natAbs b9 := by rw [eX110, up_o (by omega)]; exact hxy
  have hxO : X110 (23) = 1 := by rw [eX110, up_o (by omega)]; exact hxO
  have hxB : X110 (19) = Int.natAbs b9 := by rw [eX110]; exact up_s.trans hv9
  have hXb : ∀ p, X110 p < nM ^ 64 := fun p => by (rw [eX110]; unfold va_up; split; (rw [hv9]; exact hB9); exact hXb p)
  have hfr : ∀ p, p ≠ x9 → p < 18 ∨ 22 < p → X110 p = X p ∧ S p = S p := fun p h1 h2 => by rw [eX110, up_o (by omega)]; exact hfr p h1 h2
  obtain ⟨S111, eS111⟩ : ∃ S_, S_ = va_up S (19) (S (x9 + 1)) := ⟨_, rfl⟩
  rw [← eS111] at hS
  have hv9 : (S (x9 + 1) : Int32) = sg32 b9 := hsy
  have hsx : S111 (x9) = sg32 a9 := by rw [eS111, up_o (by omega)]; exact hsx
  have hsy : S111 (x9 + 1) = sg32 b9 := by rw [eS111, up_o (by omega)]; exact hsy
  have hsO : S111 (23) = nI 1 := by rw [eS111, up_o (by omega)]; exact hsO
  have hsB : S111 (19) = sg32 b9 := by rw [eS111]; exact up_s.trans hv9
  have hfr : ∀ p, p ≠ x9 → p < 18 ∨ 22 < p → X110 p = X p ∧ S111 p = S p := fun p h1 h2 => by rw [eS111, up_o (by omega)]; exact hfr p h1 h2
  have b0 : w401 b = some (.inr (10, [.int (nI (I 0)), .ref (b + 1), .ref (b + 2), .int (nI (I 3)), .ref (b + 3), .ref (b + 4), .int (nI (I 6)), .int (nI (I 7)), .ref (b + 5), .ref (b + 6), .int (nI (I 10)), .int (nI (I 11)), .int (nI (I 12)), .int (nI (I 13)), .ref (b + 7), .ref (b + 8), .int (nI (I 16)), .int (nI (I 17)), .int (nI (I 18)), .int (nI (I 19))])) := hS.1
  have b1 : w401 (b + 1) = some (.inl (cL, 1536, .inr (.inl (fun i => lN (mC X110 i))))) := hS.2.1
  have b2 : w401 (b + 2) = some (.inl (cI, 24, .inl (S111))) := hS.2.2.1
  refine W.eq (g2 := F0 m 7 ls []) rfl ?_
  exact loop (Int.natAbs b9) (Int.natAbs a9) (Int.natAbs b9) (Nat.le_refl _) rfl a97 b97 _ H locs ls _ _ hw hl hS hXb hxx hxB hfr hoF
end MO7
