/-! BigCalculator.Arithmetic, third part. Written by wip/gen/arith3.py. -/
section AR3d
variable {l : Launch} {D : va_G} {cI cL cQ : ClassId} {z : kZ_T} {sz : Nat} {w : fw_W}
set_option maxHeartbeats 4000000 in
set_option maxRecDepth 100000 in
theorem c_Ar_modular {ar qa qb qc : Nat} {a b c9 : Int} (hA : arS cL w ar) (ha : isI cL w qa a) (hb2 : isI cL w qb b) (hc2 : isI cL w qc c9) (hpa : qa + 2 < ar ∨ ar + 15 < qa) (hpb : qb + 2 < ar ∨ ar + 15 < qb) (hab : qa + 2 < qb ∨ qb + 2 < qa) (ha7 : a.natAbs < 2 ^ 768) (hb7 : b.natAbs < 2 ^ 768) (hpc : qc + 2 < ar ∨ ar + 15 < qc) (hac : qa + 2 < qc ∨ qc + 2 < qa) (hbc : qb + 2 < qc ∨ qc + 2 < qb) (hc7 : c9.natAbs < 2 ^ 768) : fw_C l yAr_modular (Cond.code yAr_modular cAr_modular 5 (some FieldType.int) :: kWs) ({ frames := 5, cells := 0, slots := 0, locals := 130 } : Room) D kCl (kty cI cL cQ) z [.ref ar, .ref qa, .ref qb, .ref qc] (sz) w 0 0 (fun v w' => v = some (.int (nI (sMod a b c9).1)) ∧ isI cL w' qa (sMod a b c9).2 ∧ arS cL w' ar ∧ ∀ q, q < ar ∨ ar + 16 ≤ q → q < qa ∨ qa + 3 ≤ q → w' q = w q) := by
  refine fw_ofW (cc := cAr_modular) (maxL := 5) (ret := (some FieldType.int)) (by decide) rfl (Nat.le_of_ble_eq_true rfl) ?_
  intro p e s m args below meth c hx hb hr hts hown hlocks hname hml hK H ls hw hl
  have hW : ∀ w ∈ kWs, w.before args s = true := fun w h => hts w (List.mem_cons_of_mem _ h)
  have hown : s.vm.findClass RAr = some m.cls := hown
  have hl : lv_has ls 5 [(0, .ref ar), (1, .ref qa), (2, .ref qb), (3, .ref qc)] := hl
  obtain ⟨A0, A1, ⟨e_q, Aq⟩, ⟨er, Ar9⟩, ⟨ed, Ad⟩, Ao, ⟨eo, Au⟩, ⟨ep, Ap⟩, ⟨eb, Ab⟩⟩ := id hA
  obtain ⟨sg, x, as, ap, ah, av, ae⟩ := id ha
  have hx7 : x < 2 ^ 768 := by rw [← wv_abs sg x, ae]; exact ha7
  obtain ⟨sg2, y, bs, bp, bh, bv, be⟩ := id hb2
  have hy7 : y < 2 ^ 768 := by rw [← wv_abs sg2 y, be]; exact hb7
  obtain ⟨sg3, u, cs, cp, ch, cv, ce⟩ := id hc2
  have hu7 : u < 2 ^ 768 := by rw [← wv_abs sg3 u, ce]; exact hc7
  have hnb : b.natAbs = y := by rw [← be, wv_abs]
  have hnc : c9.natAbs = u := by rw [← ce, wv_abs]
  have hcz : c9 = 0 ↔ u = 0 := by rw [← ce]; exact wv_z0 cs
  have p49 : 2 ^ 768 < nB ^ 49 := by decide +kernel
  refine lv_aload_n (pc := 0) hx hb dAr_modular_0 rfl (lv_at hl 3 rfl) ?_
  refine fw_get (pc := 1) (ci := 8) (v := .ref (qc + 1)) (C := RWh) (T := TWh) (N := 2) hx hb hW in_Wh hown hK.1 hw ch rfl 0 (by decide) (hW _ lf_Ar_38) (fun _ h => h) rfl dAr_modular_1 ?_
  by_cases hu0 : u = 0
  · obtain ⟨g29, k29, ⟨o29, _⟩, l29, _, n29, v29⟩ := id cv
    refine fw_cVR (pc := 4) (As := []) (rest := []) ⟨hx, hb, hml, hown, hW⟩ (c_Na_isZero (by omega) o29) (cwV 0 hW (kw_V lm_Ar_69 im_Na_isZero se_Na_isZero ini_Na cd_Na_isZero) rfl rfl rfl (by decide +kernel) ⟨Nat.le_of_ble_eq_true rfl, Nat.le_of_ble_eq_true rfl⟩) hK hw o29 rfl rfl hl.1 rfl (Nat.le_of_ble_eq_true rfl) dAr_modular_4 ⟨Nat.le_of_ble_eq_true rfl, Nat.le_of_ble_eq_true rfl⟩ (fun v hq => ?_)
    rw [if_pos ((nk_zero n29 v29).mpr hu0)] at hq
    subst hq
    refine W.eq (g2 := F0 m 7 ls [.int (nI 1)]) rfl ?_
    refine lv_if_eq (pc := 7) (tgt := 12) hx hb dAr_modular_7 (by decide) (fun hc => absurd hc (show ¬ nI 1 = 0 by decide)) (fun _ => ?_)
    refine lv_iconst (pc := 10) (v := (nI 2)) hx hb dAr_modular_10 (by decide) ?_
    have hs9 : sMod a b c9 = (2, a) := if_pos (hcz.mpr hu0)
    exact fw_iret (pc := 11) hx hb hr hlocks hw dAr_modular_11 ⟨by rw [hs9], by rw [hs9]; exact ha, hA, fun q _ _ => rfl⟩
  · obtain ⟨g30, k30, ⟨o30, _⟩, l30, _, n30, v30⟩ := id cv
    refine fw_cVR (pc := 4) (As := []) (rest := []) ⟨hx, hb, hml, hown, hW⟩ (c_Na_isZero (by omega) o30) (cwV 0 hW (kw_V lm_Ar_69 im_Na_isZero se_Na_isZero ini_Na cd_Na_isZero) rfl rfl rfl (by decide +kernel) ⟨Nat.le_of_ble_eq_true rfl, Nat.le_of_ble_eq_true rfl⟩) hK hw o30 rfl rfl hl.1 rfl (Nat.le_of_ble_eq_true rfl) dAr_modular_4 ⟨Nat.le_of_ble_eq_true rfl, Nat.le_of_ble_eq_true rfl⟩ (fun v hq => ?_)
    rw [if_neg (fun h9 => hu0 ((nk_zero n30 v30).mp h9))] at hq
    subst hq
    refine W.eq (g2 := F0 m 7 ls [.int (nI 0)]) rfl ?_
    refine lv_if_eq (pc := 7) (tgt := 12) hx hb dAr_modular_7 (by decide) (fun _ => ?_) (fun hc => absurd (show nI 0 = 0 by decide) hc)
    have hc0 : c9 ≠ 0 := fun h9 => hu0 (hcz.mp h9)
    rcases (show sg2 = 0 ∨ sg2 = 1 by omega) with rfl | rfl
    · have hb0 : ¬ b < 0 := by rw [← be, wv_0]; omega
      refine lv_aload_n (pc := 12) hx hb dAr_modular_12 rfl (lv_at hl 2 rfl) ?_
      refine fw_get (pc := 13) (ci := 8) (v := .int (nI 0)) (C := RWh) (T := TWh) (N := 2) hx hb hW in_Wh hown hK.1 hw bh rfl 1 (by decide) (hW _ lf_Ar_43) (fun _ h => h) rfl dAr_modular_13 ?_
      refine lv_if_eq (pc := 16) (tgt := 21) hx hb dAr_modular_16 (by decide) (fun _ => ?_) (fun hc => absurd (show nI 0 = 0 by decide) hc)
      rcases (show sg3 = 0 ∨ sg3 = 1 by omega) with rfl | rfl
      · have hu9 : 0 < u := Nat.pos_of_ne_zero hu0
        obtain ⟨B, hB⟩ : ∃ B, B = rmg a c9 := ⟨_, rfl⟩
        have hBu : B < u := by rw [hB, ← hnc]; exact rmg_lt hc0
        have hs9 : sMod a b c9 = (0, ((B ^ y % u : Nat) : Int)) := by unfold sMod; rw [if_neg hc0, if_neg hb0, if_neg (by rw [← ce, wv_0]; omega), hnb, hnc, hB]
        have hbl := bt_ub hy7
        have bh9 := bh
        have bv9 := bv
        have ch9 := ch
        have cv9 := cv
        have loop : ∀ (i : Nat), i ≤ bl y → ∀ (o : Nat), o = B ^ (y / 2 ^ i) % u → ∀ (w1 : fw_W) (H : Heap) (locs : List Loc) (ls : Array Slot), fw_H D kCl (fw_A w (sz)) s.heap w1 (sz) H locs → lv_has ls 5 [(4, .int (nI i - nI 1)), (0, .ref ar), (1, .ref qa), (2, .ref qb), (3, .ref qc)] → arS cL w1 ar → isV cL w1 (ar + 10) o → isV cL w1 (ar + 14) B → (∀ q, q < ar ∨ ar + 16 ≤ q → w1 q = w q) → W p l e ({ frames := 5, cells := 0, slots := 0, locals := 130 } : Room) s m args below meth c H locs 0 0 (MQ below (fw_Q D kCl w (sz) 0 (fun v w' => v = some (.int (nI (sMod a b c9).1)) ∧ isI cL w' qa (sMod a b c9).2 ∧ arS cL w' ar ∧ ∀ q, q < ar ∨ ar + 16 ≤ q → q < qa ∨ qa + 3 ≤ q → w' q = w q)) args s 0 0 (fw_A w (sz))) (F0 m 80 ls []) := by
          intro i
          induction i with
          | zero =>
            intro hil o hoe w1 H locs ls hw hl hA1 hO hBv hF
            have ho7 : o < 2 ^ 768 := Nat.lt_trans (by rw [hoe]; exact Nat.mod_lt _ hu9) hu7
            obtain ⟨A0, A1, ⟨e_q, Aq⟩, ⟨er, Ar9⟩, ⟨ed, Ad⟩, Ao, ⟨eo, Au⟩, ⟨ep, Ap⟩, ⟨eb, Ab⟩⟩ := id hA1
            have Au := hO
            have Ab := hBv
            have bh := (hF _ (by omega)).trans bh9
            have bv := bv9.kept (w' := w1) (fun a h1 h2 => hF a (by omega))
            have ch := (hF _ (by omega)).trans ch9
            have cv := cv9.kept (w' := w1) (fun a h1 h2 => hF a (by omega))
            rw [Nat.pow_zero, Nat.div_one] at hoe
            refine lv_iload (pc := 80) hx hb dAr_modular_80 (lv_at hl 0 rfl) ?_
            refine lv_if_lt (pc := 82) (tgt := 127) hx hb dAr_modular_82 (by decide) (fun _ => ?_) (fun hc => absurd (show nI 0 - nI 1 < 0 by decide) hc)
            refine lv_aload_n (pc := 127) hx hb dAr_modular_127 rfl (lv_at hl 1 rfl) ?_
            refine fw_get (pc := 128) (ci := 0) (v := .ref (ar + 10)) (C := RAr) (T := TAr) (N := 5) hx hb hW in_Ar hown hK.1 hw A0 rfl 2 (by decide) (hW _ lf_Ar_29) (fun _ h => h) rfl dAr_modular_128 ?_
            refine lv_iconst (pc := 131) (v := (nI 0)) hx hb dAr_modular_131 (by decide) ?_
            refine lv_aload_n (pc := 132) hx hb dAr_modular_132 rfl (lv_at hl 2 rfl) ?_
            have haI := ha.kept (w' := w1) (fun q h1 h2 => by rw [hF q (by omega)])
            have hAI : arS cL w1 ar := ⟨A0, A1, ⟨_, Aq⟩, ⟨_, Ar9⟩, ⟨_, Ad⟩, Ao, ⟨_, Au⟩, ⟨_, Ap⟩, ⟨_, Ab⟩⟩
            refine fw_cS (pc := 133) (As := [.ref (ar + 10), .int (nI 0), .ref qa]) (rest := []) ⟨hx, hb, hml, hown, hW⟩ (c_Ar_store (neg := 0) (by decide) Au haI (by omega)) (va_cwS 3 hW (kw_S lm_Ar_62 sta_Ar_store ini_Ar cd_Ar_store) rfl rfl rfl (by decide +kernel) ⟨Nat.le_of_ble_eq_true rfl, Nat.le_of_ble_eq_true rfl⟩) hK hw rfl hl.1 rfl (Nat.le_of_ble_eq_true rfl) dAr_modular_133 ⟨Nat.le_of_ble_eq_true rfl, Nat.le_of_ble_eq_true rfl⟩ (fun v w2 H locs hq hw => ?_)
            obtain ⟨rfl, hI, fs9⟩ := hq
            refine W.eq (g2 := F0 m 136 ls [.int (nI (if o < 2 ^ 768 then 0 else 6))]) rfl ?_
            have hA9 := hAI.kept (fun q h1 h2 => fs9 q (by omega))
            have hF9 : ∀ q, q < ar ∨ ar + 16 ≤ q → q < qa ∨ qa + 3 ≤ q → w2 q = w q := fun q h1 h2 => by rw [fs9 q (by omega), hF q (by omega)]
            rw [if_pos ho7, hoe] at hI
            exact fw_iret (pc := 136) hx hb hr hlocks hw dAr_modular_136 ⟨by rw [hs9, if_pos ho7], by rw [hs9]; exact hI, hA9, hF9⟩
          | succ i ih =>
            intro hil o hoe w1 H locs ls hw hl hA1 hO hBv hF
            have ho7 : o < 2 ^ 768 := Nat.lt_trans (by rw [hoe]; exact Nat.mod_lt _ hu9) hu7
            obtain ⟨A0, A1, ⟨e_q, Aq⟩, ⟨er, Ar9⟩, ⟨ed, Ad⟩, Ao, ⟨eo, Au⟩, ⟨ep, Ap⟩, ⟨eb, Ab⟩⟩ := id hA1
            have Au := hO
            have Ab := hBv
            have bh := (hF _ (by omega)).trans bh9
            have bv := bv9.kept (w' := w1) (fun a h1 h2 => hF a (by omega))
            have ch := (hF _ (by omega)).trans ch9
            have cv := cv9.kept (w' := w1) (fun a h1 h2 => hF a (by omega))
            rw [show nI (i + 1) - nI 1 = nI i from nI_pred i] at hl
            refine lv_iload (pc := 80) hx hb dAr_modular_80 (lv_at hl 0 rfl) ?_
            refine lv_if_lt (pc := 82) (tgt := 127) hx hb dAr_modular_82 (by decide) (fun hc => absurd hc (nI_pos (by omega))) (fun _ => ?_)
            refine lv_aload_n (pc := 85) hx hb dAr_modular_85 rfl (lv_at hl 1 rfl) ?_
            refine lv_aload_n (pc := 86) hx hb dAr_modular_86 rfl (lv_at hl 1 rfl) ?_
            refine fw_get (pc := 87) (ci := 0) (v := .ref (ar + 10)) (C := RAr) (T := TAr) (N := 5) hx hb hW in_Ar hown hK.1 hw A0 rfl 2 (by decide) (hW _ lf_Ar_29) (fun _ h => h) rfl dAr_modular_87 ?_
            refine lv_aload_n (pc := 90) hx hb dAr_modular_90 rfl (lv_at hl 4 rfl) ?_
            refine fw_get (pc := 91) (ci := 8) (v := .ref (qc + 1)) (C := RWh) (T := TWh) (N := 2) hx hb hW in_Wh hown hK.1 hw ch rfl 0 (by decide) (hW _ lf_Ar_38) (fun _ h => h) rfl dAr_modular_91 ?_
            have hAm : arS cL w1 ar := ⟨A0, A1, ⟨_, Aq⟩, ⟨_, Ar9⟩, ⟨_, Ad⟩, Ao, ⟨_, Au⟩, ⟨_, Ap⟩, ⟨_, Ab⟩⟩
            refine fw_cV (pc := 94) (As := [.ref (ar + 10), .ref (qc + 1)]) (rest := []) ⟨hx, hb, hml, hown, hW⟩ (c_Ar_multiplyOutcomeO hAm Au Ab cv (by omega) hu9 ho7 (Nat.lt_trans hBu hu7)) (cwV 2 hW (kw_V lm_Ar_108 im_Ar_multiplyOutcome se_Ar_multiplyOutcome ini_Ar cd_Ar_multiplyOutcome) rfl rfl rfl (by decide +kernel) ⟨Nat.le_of_ble_eq_true rfl, Nat.le_of_ble_eq_true rfl⟩) hK hw A0 rfl rfl hl.1 rfl (Nat.le_of_ble_eq_true rfl) dAr_modular_94 ⟨Nat.le_of_ble_eq_true rfl, Nat.le_of_ble_eq_true rfl⟩ (fun v w2 H locs hq hw => ?_)
            obtain ⟨rfl, hV9, hW9, hA9, hm1⟩ := hq
            obtain ⟨A0, A1, ⟨e_q, Aq⟩, ⟨er, Ar9⟩, ⟨ed, Ad⟩, Ao, _, ⟨ep, Ap⟩, _⟩ := id hA9
            have Au := hV9
            have Ab := hW9
            have bh_ : w2 (qb) = some (.inr (8, [.ref (qb + 1), .int (nI 0)])) := (hm1 _ (by omega)).trans bh
            have ch_ : w2 (qc) = some (.inr (8, [.ref (qc + 1), .int (nI 0)])) := (hm1 _ (by omega)).trans ch
            have bh := bh_
            have ch := ch_
            have bv : isV cL w2 (qb + 1) (y) := bv.kept (fun a h1 h2 => hm1 a (by omega))
            have cv : isV cL w2 (qc + 1) (u) := cv.kept (fun a h1 h2 => hm1 a (by omega))
            refine W.eq (g2 := F0 m 97 ls []) rfl ?_
            have hso : o * o % u = B ^ (2 * (y / 2 ^ (i + 1))) % u := by rw [hoe]; exact md_sq
            have hso7 : o * o % u < 2 ^ 768 := Nat.lt_trans (Nat.mod_lt _ hu9) hu7
            have hpb := pw_bit y i
            refine lv_aload_n (pc := 97) hx hb dAr_modular_97 rfl (lv_at hl 3 rfl) ?_
            refine fw_get (pc := 98) (ci := 8) (v := .ref (qb + 1)) (C := RWh) (T := TWh) (N := 2) hx hb hW in_Wh hown hK.1 hw bh rfl 0 (by decide) (hW _ lf_Ar_38) (fun _ h => h) rfl dAr_modular_98 ?_
            refine lv_iload (pc := 101) hx hb dAr_modular_101 (lv_at hl 0 rfl) ?_
            obtain ⟨g31, k31, ⟨o31, p31⟩, l31, _, n31, v31⟩ := id bv
            refine fw_cVR (pc := 103) (As := [.int (nI i)]) (rest := []) ⟨hx, hb, hml, hown, hW⟩ (c_Na_bitAt l31 (by omega) o31 p31 n31.1) (cwV 1 hW (kw_V lm_Ar_97 im_Na_bitAt se_Na_bitAt ini_Na cd_Na_bitAt) rfl rfl rfl (by decide +kernel) ⟨Nat.le_of_ble_eq_true rfl, Nat.le_of_ble_eq_true rfl⟩) hK hw o31 rfl rfl hl.1 rfl (Nat.le_of_ble_eq_true rfl) dAr_modular_103 ⟨Nat.le_of_ble_eq_true rfl, Nat.le_of_ble_eq_true rfl⟩ (fun v hq => ?_)
            rw [nv_bit (b := nB) rfl n31.1, v31] at hq
            subst hq
            refine W.eq (g2 := F0 m 106 ls [.int (nI (y / 2 ^ i % 2))]) rfl ?_
            rcases (show y / 2 ^ i % 2 = 0 ∨ y / 2 ^ i % 2 = 1 by omega) with hy2 | hy2
            · rw [show (nI (y / 2 ^ i % 2) : Int32) = nI 0 from (by rw [hy2])]
              refine lv_if_eq (pc := 106) (tgt := 121) hx hb dAr_modular_106 (by decide) (fun _ => ?_) (fun hc => absurd (show nI 0 = 0 by decide) hc)
              refine lv_iinc (pc := 121) (lv' := [(4, .int (nI i - nI 1)), (0, .ref ar), (1, .ref qa), (2, .ref qb), (3, .ref qc)]) hx hb dAr_modular_121 hl (k := 0) rfl ((by rw [Int32.sub_eq_add_neg]; rfl)) (by decide) rfl (fun ls hl => ?_)
              refine lv_goto (pc := 124) (tgt := 80) hx hb dAr_modular_124 (by decide) ?_
              exact ih (by omega) _ (by rw [hpb, hy2, Nat.add_zero]; exact hso) _ H locs ls hw (lv_sub hl [0, 1, 2, 3, 4] rfl) ⟨A0, A1, ⟨_, Aq⟩, ⟨_, Ar9⟩, ⟨_, Ad⟩, Ao, ⟨_, Au⟩, ⟨_, Ap⟩, ⟨_, Ab⟩⟩ Au Ab (fun q h1 => by rw [hm1 q (by omega), hF q h1])
            · rw [show (nI (y / 2 ^ i % 2) : Int32) = nI 1 from (by rw [hy2])]
              refine lv_if_eq (pc := 106) (tgt := 121) hx hb dAr_modular_106 (by decide) (fun hc => absurd hc (show ¬ nI 1 = 0 by decide)) (fun _ => ?_)
              refine lv_aload_n (pc := 109) hx hb dAr_modular_109 rfl (lv_at hl 1 rfl) ?_
              refine lv_aload_n (pc := 110) hx hb dAr_modular_110 rfl (lv_at hl 1 rfl) ?_
              refine fw_get (pc := 111) (ci := 0) (v := .ref (ar + 14)) (C := RAr) (T := TAr) (N := 5) hx hb hW in_Ar hown hK.1 hw A0 rfl 4 (by decide) (hW _ lf_Ar_35) (fun _ h => h) rfl dAr_modular_111 ?_
              refine lv_aload_n (pc := 114) hx hb dAr_modular_114 rfl (lv_at hl 4 rfl) ?_
              refine fw_get (pc := 115) (ci := 8) (v := .ref (qc + 1)) (C := RWh) (T := TWh) (N := 2) hx hb hW in_Wh hown hK.1 hw ch rfl 0 (by decide) (hW _ lf_Ar_38) (fun _ h => h) rfl dAr_modular_115 ?_
              have hAm : arS cL w2 ar := ⟨A0, A1, ⟨_, Aq⟩, ⟨_, Ar9⟩, ⟨_, Ad⟩, Ao, ⟨_, Au⟩, ⟨_, Ap⟩, ⟨_, Ab⟩⟩
              refine fw_cV (pc := 118) (As := [.ref (ar + 14), .ref (qc + 1)]) (rest := []) ⟨hx, hb, hml, hown, hW⟩ (c_Ar_multiplyOutcomeB hAm Au Ab cv (by omega) hu9 hso7 (Nat.lt_trans hBu hu7)) (cwV 2 hW (kw_V lm_Ar_108 im_Ar_multiplyOutcome se_Ar_multiplyOutcome ini_Ar cd_Ar_multiplyOutcome) rfl rfl rfl (by decide +kernel) ⟨Nat.le_of_ble_eq_true rfl, Nat.le_of_ble_eq_true rfl⟩) hK hw A0 rfl rfl hl.1 rfl (Nat.le_of_ble_eq_true rfl) dAr_modular_118 ⟨Nat.le_of_ble_eq_true rfl, Nat.le_of_ble_eq_true rfl⟩ (fun v w3 H locs hq hw => ?_)
              obtain ⟨rfl, hV9, hW9, hA9, hm2⟩ := hq
              obtain ⟨A0, A1, ⟨e_q, Aq⟩, ⟨er, Ar9⟩, ⟨ed, Ad⟩, Ao, _, ⟨ep, Ap⟩, _⟩ := id hA9
              have Au := hV9
              have Ab := hW9
              have bh_ : w3 (qb) = some (.inr (8, [.ref (qb + 1), .int (nI 0)])) := (hm2 _ (by omega)).trans bh
              have ch_ : w3 (qc) = some (.inr (8, [.ref (qc + 1), .int (nI 0)])) := (hm2 _ (by omega)).trans ch
              have bh := bh_
              have ch := ch_
              have bv : isV cL w3 (qb + 1) (y) := bv.kept (fun a h1 h2 => hm2 a (by omega))
              have cv : isV cL w3 (qc + 1) (u) := cv.kept (fun a h1 h2 => hm2 a (by omega))
              refine W.eq (g2 := F0 m 121 ls []) rfl ?_
              refine lv_iinc (pc := 121) (lv' := [(4, .int (nI i - nI 1)), (0, .ref ar), (1, .ref qa), (2, .ref qb), (3, .ref qc)]) hx hb dAr_modular_121 hl (k := 0) rfl ((by rw [Int32.sub_eq_add_neg]; rfl)) (by decide) rfl (fun ls hl => ?_)
              refine lv_goto (pc := 124) (tgt := 80) hx hb dAr_modular_124 (by decide) ?_
              exact ih (by omega) _ (by rw [hpb, hy2, hso]; exact md_mul) _ H locs ls hw (lv_sub hl [0, 1, 2, 3, 4] rfl) ⟨A0, A1, ⟨_, Aq⟩, ⟨_, Ar9⟩, ⟨_, Ad⟩, Ao, ⟨_, Au⟩, ⟨_, Ap⟩, ⟨_, Ab⟩⟩ Au Ab (fun q h1 => by rw [hm2 q (by omega), hm1 q (by omega), hF q h1])
        refine lv_aload_n (pc := 21) hx hb dAr_modular_21 rfl (lv_at hl 3 rfl) ?_
        refine fw_get (pc := 22) (ci := 8) (v := .int (nI 0)) (C := RWh) (T := TWh) (N := 2) hx hb hW in_Wh hown hK.1 hw ch rfl 1 (by decide) (hW _ lf_Ar_43) (fun _ h => h) rfl dAr_modular_22 ?_
        refine lv_if_eq (pc := 25) (tgt := 30) hx hb dAr_modular_25 (by decide) (fun _ => ?_) (fun hc => absurd (show nI 0 = 0 by decide) hc)
        refine lv_aload_n (pc := 30) hx hb dAr_modular_30 rfl (lv_at hl 0 rfl) ?_
        refine lv_aload_n (pc := 31) hx hb dAr_modular_31 rfl (lv_at hl 1 rfl) ?_
        refine lv_aload_n (pc := 32) hx hb dAr_modular_32 rfl (lv_at hl 3 rfl) ?_
        refine lv_aload_n (pc := 33) hx hb dAr_modular_33 rfl (lv_at hl 0 rfl) ?_
        refine fw_get (pc := 34) (ci := 0) (v := .ref (ar + 14)) (C := RAr) (T := TAr) (N := 5) hx hb hW in_Ar hown hK.1 hw A0 rfl 4 (by decide) (hW _ lf_Ar_35) (fun _ h => h) rfl dAr_modular_34 ?_
        refine fw_cV (pc := 37) (As := [.ref qa, .ref qc, .ref (ar + 14)]) (rest := []) ⟨hx, hb, hml, hown, hW⟩ (c_Ar_floorRest14 hA ha hc2 hpa hpc hac ha7 hc7 hc0) (cwV 3 hW (kw_V lm_Ar_86 im_Ar_floorRest se_Ar_floorRest ini_Ar cd_Ar_floorRest) rfl rfl rfl (by decide +kernel) ⟨Nat.le_of_ble_eq_true rfl, Nat.le_of_ble_eq_true rfl⟩) hK hw A0 rfl rfl hl.1 rfl (Nat.le_of_ble_eq_true rfl) dAr_modular_37 ⟨Nat.le_of_ble_eq_true rfl, Nat.le_of_ble_eq_true rfl⟩ (fun v w30 H locs hq hw => ?_)
        obtain ⟨rfl, hM, hA2, hF0⟩ := hq
        rw [← hB] at hM
        obtain ⟨A0, A1, ⟨e_q, Aq⟩, ⟨er, Ar9⟩, ⟨ed, Ad⟩, Ao, ⟨eo, Au⟩, ⟨ep, Ap⟩, _⟩ := id hA2
        have Ab := hM
        have bh_ : w30 (qb) = some (.inr (8, [.ref (qb + 1), .int (nI 0)])) := (hF0 _ (by omega)).trans bh
        have ch_ : w30 (qc) = some (.inr (8, [.ref (qc + 1), .int (nI 0)])) := (hF0 _ (by omega)).trans ch
        have bh := bh_
        have ch := ch_
        have bv : isV cL w30 (qb + 1) (y) := bv.kept (fun a h1 h2 => hF0 a (by omega))
        have cv : isV cL w30 (qc + 1) (u) := cv.kept (fun a h1 h2 => hF0 a (by omega))
        refine W.eq (g2 := F0 m 40 ls []) rfl ?_
        refine lv_aload_n (pc := 40) hx hb dAr_modular_40 rfl (lv_at hl 0 rfl) ?_
        refine fw_get (pc := 41) (ci := 0) (v := .ref (ar + 1)) (C := RAr) (T := TAr) (N := 5) hx hb hW in_Ar hown hK.1 hw A0 rfl 0 (by decide) (hW _ lf_Ar_12) (fun _ h => h) rfl dAr_modular_41 ?_
        refine lv_aload_n (pc := 44) hx hb dAr_modular_44 rfl (lv_at hl 0 rfl) ?_
        refine fw_get (pc := 45) (ci := 0) (v := .ref (ar + 8)) (C := RAr) (T := TAr) (N := 5) hx hb hW in_Ar hown hK.1 hw A0 rfl 1 (by decide) (hW _ lf_Ar_21) (fun _ h => h) rfl dAr_modular_45 ?_
        refine lv_aload_n (pc := 48) hx hb dAr_modular_48 rfl (lv_at hl 3 rfl) ?_
        refine fw_get (pc := 49) (ci := 8) (v := .ref (qc + 1)) (C := RWh) (T := TWh) (N := 2) hx hb hW in_Wh hown hK.1 hw ch rfl 0 (by decide) (hW _ lf_Ar_38) (fun _ h => h) rfl dAr_modular_49 ?_
        refine fw_cV (pc := 52) (As := [.ref (ar + 8), .ref (qc + 1)]) (rest := []) ⟨hx, hb, hml, hown, hW⟩ (c_Di_divide A1 Aq Ar9 Ad Ao cv (by omega) (by omega) hu9 (by decide +kernel)) (cwV 2 hW (kw_V lm_Ar_73 im_Di_divide se_Di_divide ini_Di cd_Di_divide) rfl rfl rfl (by decide +kernel) ⟨Nat.le_of_ble_eq_true rfl, Nat.le_of_ble_eq_true rfl⟩) hK hw A1 rfl rfl hl.1 rfl (Nat.le_of_ble_eq_true rfl) dAr_modular_52 ⟨Nat.le_of_ble_eq_true rfl, Nat.le_of_ble_eq_true rfl⟩ (fun v w31 H locs hq hw => ?_)
        obtain ⟨rfl, hq9, hr9, ⟨ed2, hd9⟩, cd30_1⟩ := hq
        have bh_ : w31 (qb) = some (.inr (8, [.ref (qb + 1), .int (nI 0)])) := (cd30_1 _ (by omega)).trans bh
        have ch_ : w31 (qc) = some (.inr (8, [.ref (qc + 1), .int (nI 0)])) := (cd30_1 _ (by omega)).trans ch
        have A0_ : w31 (ar) = some (.inr (0, [.ref (ar + 1), .ref (ar + 8), .ref (ar + 10), .ref (ar + 12), .ref (ar + 14)])) := (cd30_1 _ (by omega)).trans A0
        have A1_ : w31 (ar + 1) = some (.inr (3, [.ref (ar + 1 + 1), .ref (ar + 1 + 3), .ref (ar + 1 + 5)])) := (cd30_1 _ (by omega)).trans A1
        have bh := bh_
        have ch := ch_
        have A0 := A0_
        have A1 := A1_
        have Ao : isV cL w31 (ar + 8) (1) := Ao.kept (fun a h1 h2 => cd30_1 a (by omega))
        have Au : isV cL w31 (ar + 10) (eo) := Au.kept (fun a h1 h2 => cd30_1 a (by omega))
        have Ap : isV cL w31 (ar + 12) (ep) := Ap.kept (fun a h1 h2 => cd30_1 a (by omega))
        have Ab : isV cL w31 (ar + 14) (B) := Ab.kept (fun a h1 h2 => cd30_1 a (by omega))
        have bv : isV cL w31 (qb + 1) (y) := bv.kept (fun a h1 h2 => cd30_1 a (by omega))
        have cv : isV cL w31 (qc + 1) (u) := cv.kept (fun a h1 h2 => cd30_1 a (by omega))
        have Aq := hq9
        have Ar9 := hr9
        have Ad := hd9
        clear hq9 hr9 hd9
        refine W.eq (g2 := F0 m 55 ls []) rfl ?_
        refine lv_aload_n (pc := 55) hx hb dAr_modular_55 rfl (lv_at hl 0 rfl) ?_
        refine fw_get (pc := 56) (ci := 0) (v := .ref (ar + 10)) (C := RAr) (T := TAr) (N := 5) hx hb hW in_Ar hown hK.1 hw A0 rfl 2 (by decide) (hW _ lf_Ar_29) (fun _ h => h) rfl dAr_modular_56 ?_
        refine lv_aload_n (pc := 59) hx hb dAr_modular_59 rfl (lv_at hl 0 rfl) ?_
        refine fw_get (pc := 60) (ci := 0) (v := .ref (ar + 1)) (C := RAr) (T := TAr) (N := 5) hx hb hW in_Ar hown hK.1 hw A0 rfl 0 (by decide) (hW _ lf_Ar_12) (fun _ h => h) rfl dAr_modular_60 ?_
        refine fw_get (pc := 63) (ci := 3) (v := .ref (ar + 1 + 3)) (C := RDi) (T := TDi) (N := 3) hx hb hW in_Di hown hK.1 hw A1 rfl 1 (by decide) (hW _ lf_Ar_76) (fun _ h => h) rfl dAr_modular_63 ?_
        obtain ⟨k32, o32⟩ := Au.ob
        refine fw_cV (pc := 66) (As := [.ref (ar + 1 + 3)]) (rest := []) ⟨hx, hb, hml, hown, hW⟩ (c_Na_become (by omega) Au Ar9) (cwV 1 hW (kw_V lm_Ar_82 im_Na_become se_Na_become ini_Na cd_Na_become) rfl rfl rfl (by decide +kernel) ⟨Nat.le_of_ble_eq_true rfl, Nat.le_of_ble_eq_true rfl⟩) hK hw o32 rfl rfl hl.1 rfl (Nat.le_of_ble_eq_true rfl) dAr_modular_66 ⟨Nat.le_of_ble_eq_true rfl, Nat.le_of_ble_eq_true rfl⟩ (fun v w32 H locs hq hw => ?_)
        obtain ⟨rfl, hV9, co31_2⟩ := hq
        have bh_ : w32 (qb) = some (.inr (8, [.ref (qb + 1), .int (nI 0)])) := (co31_2 _ (by omega) (by omega)).trans bh
        have ch_ : w32 (qc) = some (.inr (8, [.ref (qc + 1), .int (nI 0)])) := (co31_2 _ (by omega) (by omega)).trans ch
        have A0_ : w32 (ar) = some (.inr (0, [.ref (ar + 1), .ref (ar + 8), .ref (ar + 10), .ref (ar + 12), .ref (ar + 14)])) := (co31_2 _ (by omega) (by omega)).trans A0
        have A1_ : w32 (ar + 1) = some (.inr (3, [.ref (ar + 1 + 1), .ref (ar + 1 + 3), .ref (ar + 1 + 5)])) := (co31_2 _ (by omega) (by omega)).trans A1
        have bh := bh_
        have ch := ch_
        have A0 := A0_
        have A1 := A1_
        have Aq : isV cL w32 (ar + 1 + 1) (1 / u) := Aq.kept (fun a h1 h2 => co31_2 a (by omega) (by omega))
        have Ar9 : isV cL w32 (ar + 1 + 3) (1 % u) := Ar9.kept (fun a h1 h2 => co31_2 a (by omega) (by omega))
        have Ad : isV cL w32 (ar + 1 + 5) (ed2) := Ad.kept (fun a h1 h2 => co31_2 a (by omega) (by omega))
        have Ao : isV cL w32 (ar + 8) (1) := Ao.kept (fun a h1 h2 => co31_2 a (by omega) (by omega))
        have Ap : isV cL w32 (ar + 12) (ep) := Ap.kept (fun a h1 h2 => co31_2 a (by omega) (by omega))
        have Ab : isV cL w32 (ar + 14) (B) := Ab.kept (fun a h1 h2 => co31_2 a (by omega) (by omega))
        have bv : isV cL w32 (qb + 1) (y) := bv.kept (fun a h1 h2 => co31_2 a (by omega) (by omega))
        have cv : isV cL w32 (qc + 1) (u) := cv.kept (fun a h1 h2 => co31_2 a (by omega) (by omega))
        have Au := hV9
        refine W.eq (g2 := F0 m 69 ls []) rfl ?_
        refine lv_aload_n (pc := 69) hx hb dAr_modular_69 rfl (lv_at hl 2 rfl) ?_
        refine fw_get (pc := 70) (ci := 8) (v := .ref (qb + 1)) (C := RWh) (T := TWh) (N := 2) hx hb hW in_Wh hown hK.1 hw bh rfl 0 (by decide) (hW _ lf_Ar_38) (fun _ h => h) rfl dAr_modular_70 ?_
        obtain ⟨k33, o33⟩ := bv.ob
        refine fw_cVR (pc := 73) (As := []) (rest := []) ⟨hx, hb, hml, hown, hW⟩ (c_Na_bits bv) (cwV 0 hW (kw_V lm_Ar_90 im_Na_bits se_Na_bits ini_Na cd_Na_bits) rfl rfl rfl (by decide +kernel) ⟨Nat.le_of_ble_eq_true rfl, Nat.le_of_ble_eq_true rfl⟩) hK hw o33 rfl rfl hl.1 rfl (Nat.le_of_ble_eq_true rfl) dAr_modular_73 ⟨Nat.le_of_ble_eq_true rfl, Nat.le_of_ble_eq_true rfl⟩ (fun v hq => ?_)
        subst hq
        refine W.eq (g2 := F0 m 76 ls [.int (nI (bl y))]) rfl ?_
        refine lv_iconst (pc := 76) (v := (nI 1)) hx hb dAr_modular_76 (by decide) ?_
        refine lv_isub (pc := 77) hx hb dAr_modular_77 ?_
        refine lv_istore (pc := 78) (lv' := [(4, .int ((nI (bl y) - (nI 1)))), (0, .ref ar), (1, .ref qa), (2, .ref qb), (3, .ref qc)]) hx hb dAr_modular_78 hl (by decide) rfl (fun ls hl => ?_)
        exact loop (bl y) (Nat.le_refl _) (1 % u) (by rw [Nat.div_eq_of_lt (bt_lt y), Nat.pow_zero]) _ H locs ls hw (lv_sub hl [0, 1, 2, 3, 4] rfl) ⟨A0, A1, ⟨_, Aq⟩, ⟨_, Ar9⟩, ⟨_, Ad⟩, Ao, ⟨_, Au⟩, ⟨_, Ap⟩, ⟨_, Ab⟩⟩ Au Ab (fun q h1 => by rw [co31_2 q (by omega) (by omega), cd30_1 q (by omega), hF0 q (by omega)])
      · refine lv_aload_n (pc := 21) hx hb dAr_modular_21 rfl (lv_at hl 3 rfl) ?_
        refine fw_get (pc := 22) (ci := 8) (v := .int (nI 1)) (C := RWh) (T := TWh) (N := 2) hx hb hW in_Wh hown hK.1 hw ch rfl 1 (by decide) (hW _ lf_Ar_43) (fun _ h => h) rfl dAr_modular_22 ?_
        refine lv_if_eq (pc := 25) (tgt := 30) hx hb dAr_modular_25 (by decide) (fun hc => absurd hc (show ¬ nI 1 = 0 by decide)) (fun _ => ?_)
        refine lv_iconst (pc := 28) (v := (nI 5)) hx hb dAr_modular_28 (by decide) ?_
        have hs9 : sMod a b c9 = (5, a) := by unfold sMod; rw [if_neg hc0, if_neg hb0, if_pos (by rw [← ce, wv_1]; have := cp rfl; omega)]
        exact fw_iret (pc := 29) hx hb hr hlocks hw dAr_modular_29 ⟨by rw [hs9], by rw [hs9]; exact ha, hA, fun q _ _ => rfl⟩
    · refine lv_aload_n (pc := 12) hx hb dAr_modular_12 rfl (lv_at hl 2 rfl) ?_
      refine fw_get (pc := 13) (ci := 8) (v := .int (nI 1)) (C := RWh) (T := TWh) (N := 2) hx hb hW in_Wh hown hK.1 hw bh rfl 1 (by decide) (hW _ lf_Ar_43) (fun _ h => h) rfl dAr_modular_13 ?_
      refine lv_if_eq (pc := 16) (tgt := 21) hx hb dAr_modular_16 (by decide) (fun hc => absurd hc (show ¬ nI 1 = 0 by decide)) (fun _ => ?_)
      refine lv_iconst (pc := 19) (v := (nI 3)) hx hb dAr_modular_19 (by decide) ?_
      have hs9 : sMod a b c9 = (3, a) := by unfold sMod; rw [if_neg hc0, if_pos (by rw [← be, wv_1]; have := bp rfl; omega)]
      exact fw_iret (pc := 20) hx hb hr hlocks hw dAr_modular_20 ⟨by rw [hs9], by rw [hs9]; exact ha, hA, fun q _ _ => rfl⟩
end AR3d
