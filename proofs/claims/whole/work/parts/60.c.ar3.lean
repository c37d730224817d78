/-! BigCalculator.Arithmetic, third part. Written by wip/gen/arith3.py. -/
section AR3c
variable {l : Launch} {D : va_G} {cI cL cQ : ClassId} {z : kZ_T} {sz : Nat} {w : fw_W}
set_option maxHeartbeats 4000000 in
set_option maxRecDepth 100000 in
theorem c_Ar_raise {ar qa qb : Nat} {a b : Int} (hA : arS cL w ar) (ha : isI cL w qa a) (hb2 : isI cL w qb b) (hpa : qa + 2 < ar ∨ ar + 15 < qa) (hpb : qb + 2 < ar ∨ ar + 15 < qb) (hab : qa + 2 < qb ∨ qb + 2 < qa) (ha7 : a.natAbs < 2 ^ 768) (hb7 : b.natAbs < 2 ^ 768) : fw_C l yAr_raise (Cond.code yAr_raise cAr_raise 4 (some FieldType.int) :: kWs) ({ frames := 4, cells := 0, slots := 0, locals := 83 } : Room) D kCl (kty cI cL cQ) z [.ref ar, .ref qa, .ref qb] (sz) w 0 0 (fun v w' => v = some (.int (nI (sPow a b).1)) ∧ isI cL w' qa (sPow a b).2 ∧ arS cL w' ar ∧ ∀ q, q < ar ∨ ar + 16 ≤ q → q < qa ∨ qa + 3 ≤ q → w' q = w q) := by
  refine fw_ofW (cc := cAr_raise) (maxL := 4) (ret := (some FieldType.int)) (by decide) rfl (Nat.le_of_ble_eq_true rfl) ?_
  intro p e s m args below meth c hx hb hr hts hown hlocks hname hml hK H ls hw hl
  have hW : ∀ w ∈ kWs, w.before args s = true := fun w h => hts w (List.mem_cons_of_mem _ h)
  have hown : s.vm.findClass RAr = some m.cls := hown
  have hl : lv_has ls 4 [(0, .ref ar), (1, .ref qa), (2, .ref qb)] := hl
  obtain ⟨A0, A1, ⟨e_q, Aq⟩, ⟨er, Ar9⟩, ⟨ed, Ad⟩, Ao, ⟨eo, Au⟩, ⟨ep, Ap⟩, ⟨eb, Ab⟩⟩ := id hA
  obtain ⟨sg, x, as, ap, ah, av, ae⟩ := id ha
  have hx7 : x < 2 ^ 768 := by rw [← wv_abs sg x, ae]; exact ha7
  obtain ⟨sg2, y, bs, bp, bh, bv, be⟩ := id hb2
  have hy7 : y < 2 ^ 768 := by rw [← wv_abs sg2 y, be]; exact hb7
  have p25 : 2 ^ 768 < nB ^ 25 := by decide +kernel
  have hnb : b.natAbs = y := by rw [← be, wv_abs]
  rcases (show sg2 = 0 ∨ sg2 = 1 by omega) with rfl | rfl
  · have hpw : a ^ y = wv (if sg = 1 ∧ y % 2 = 1 then 1 else 0) (x ^ y) := by rw [← ae]; exact wv_pow sg x y as
    have hs9 : sPow a b = sFit (wv (if sg = 1 ∧ y % 2 = 1 then 1 else 0) (x ^ y)) a := by unfold sPow; rw [if_neg (by rw [← be, wv_0]; omega), hnb, hpw]
    have hbig : ¬ x ^ y < 2 ^ 768 → sPow a b = (6, a) := fun h9 => by rw [hs9]; unfold sFit; rw [wv_abs, if_neg h9]
    have hbl := bt_ub hy7
    have ah9 := ah
    have av9 := av
    have bh9 := bh
    have bv9 := bv
    have loop : ∀ (i : Nat), i ≤ bl y → ∀ (o : Nat), o = x ^ (y / 2 ^ i) → o < 2 ^ 768 → ∀ (w1 : fw_W) (H : Heap) (locs : List Loc) (ls : Array Slot), fw_H D kCl (fw_A w (sz)) s.heap w1 (sz) H locs → lv_has ls 4 [(3, .int (nI i - nI 1)), (0, .ref ar), (1, .ref qa), (2, .ref qb)] → arS cL w1 ar → isV cL w1 (ar + 10) o → (∀ q, q < ar ∨ ar + 16 ≤ q → w1 q = w q) → W p l e ({ frames := 4, cells := 0, slots := 0, locals := 83 } : Room) s m args below meth c H locs 0 0 (MQ below (fw_Q D kCl w (sz) 0 (fun v w' => v = some (.int (nI (sPow a b).1)) ∧ isI cL w' qa (sPow a b).2 ∧ arS cL w' ar ∧ ∀ q, q < ar ∨ ar + 16 ≤ q → q < qa ∨ qa + 3 ≤ q → w' q = w q)) args s 0 0 (fw_A w (sz))) (F0 m 27 ls []) := by
      intro i
      induction i with
      | zero =>
        intro hil o hoe ho7 w1 H locs ls hw hl hA1 hO hF
        obtain ⟨A0, A1, ⟨e_q, Aq⟩, ⟨er, Ar9⟩, ⟨ed, Ad⟩, Ao, ⟨eo, Au⟩, ⟨ep, Ap⟩, ⟨eb, Ab⟩⟩ := id hA1
        have Au := hO
        have ah := (hF _ (by omega)).trans ah9
        have av := av9.kept (w' := w1) (fun a h1 h2 => hF a (by omega))
        have bh := (hF _ (by omega)).trans bh9
        have bv := bv9.kept (w' := w1) (fun a h1 h2 => hF a (by omega))
        rw [Nat.pow_zero, Nat.div_one] at hoe
        refine lv_iload_n (pc := 27) hx hb dAr_raise_27 rfl (lv_at hl 0 rfl) ?_
        refine lv_if_lt (pc := 28) (tgt := 118) hx hb dAr_raise_28 (by decide) (fun _ => ?_) (fun hc => absurd (show nI 0 - nI 1 < 0 by decide) hc)
        rcases (show sg = 0 ∨ sg = 1 by omega) with rfl | rfl
        · refine lv_aload_n (pc := 118) hx hb dAr_raise_118 rfl (lv_at hl 1 rfl) ?_
          refine fw_get (pc := 119) (ci := 0) (v := .ref (ar + 10)) (C := RAr) (T := TAr) (N := 5) hx hb hW in_Ar hown hK.1 hw A0 rfl 2 (by decide) (hW _ lf_Ar_29) (fun _ h => h) rfl dAr_raise_119 ?_
          refine lv_aload_n (pc := 122) hx hb dAr_raise_122 rfl (lv_at hl 2 rfl) ?_
          refine fw_get (pc := 123) (ci := 8) (v := .int (nI 0)) (C := RWh) (T := TWh) (N := 2) hx hb hW in_Wh hown hK.1 hw ah rfl 1 (by decide) (hW _ lf_Ar_43) (fun _ h => h) rfl dAr_raise_123 ?_
          refine lv_if_eq (pc := 126) (tgt := 144) hx hb dAr_raise_126 (by decide) (fun _ => ?_) (fun hc => absurd (show nI 0 = 0 by decide) hc)
          refine lv_iconst (pc := 144) (v := (nI 0)) hx hb dAr_raise_144 (by decide) ?_
          refine lv_aload_n (pc := 145) hx hb dAr_raise_145 rfl (lv_at hl 2 rfl) ?_
          have haI := ha.kept (w' := w1) (fun q h1 h2 => by rw [hF q (by omega)])
          have hAI : arS cL w1 ar := ⟨A0, A1, ⟨_, Aq⟩, ⟨_, Ar9⟩, ⟨_, Ad⟩, Ao, ⟨_, Au⟩, ⟨_, Ap⟩, ⟨_, Ab⟩⟩
          refine fw_cS (pc := 146) (As := [.ref (ar + 10), .int (nI 0), .ref qa]) (rest := []) ⟨hx, hb, hml, hown, hW⟩ (c_Ar_store (neg := 0) (by decide) Au haI (by omega)) (va_cwS 3 hW (kw_S lm_Ar_62 sta_Ar_store ini_Ar cd_Ar_store) rfl rfl rfl (by decide +kernel) ⟨Nat.le_of_ble_eq_true rfl, Nat.le_of_ble_eq_true rfl⟩) hK hw rfl hl.1 rfl (Nat.le_of_ble_eq_true rfl) dAr_raise_146 ⟨Nat.le_of_ble_eq_true rfl, Nat.le_of_ble_eq_true rfl⟩ (fun v w2 H locs hq hw => ?_)
          obtain ⟨rfl, hI, fs9⟩ := hq
          refine W.eq (g2 := F0 m 149 ls [.int (nI (if o < 2 ^ 768 then 0 else 6))]) rfl ?_
          have hA9 := hAI.kept (fun q h1 h2 => fs9 q (by omega))
          have hF9 : ∀ q, q < ar ∨ ar + 16 ≤ q → q < qa ∨ qa + 3 ≤ q → w2 q = w q := fun q h1 h2 => by rw [fs9 q (by omega), hF q (by omega)]
          rw [if_neg (fun h9 => absurd h9.1 (by decide))] at hs9
          rw [hoe] at hI
          exact fw_iret (pc := 149) hx hb hr hlocks hw dAr_raise_149 ⟨by rw [hs9, sFit_1, wv_abs, hoe], by rw [hs9, sFit_2, wv_abs]; exact hI, hA9, hF9⟩
        · refine lv_aload_n (pc := 118) hx hb dAr_raise_118 rfl (lv_at hl 1 rfl) ?_
          refine fw_get (pc := 119) (ci := 0) (v := .ref (ar + 10)) (C := RAr) (T := TAr) (N := 5) hx hb hW in_Ar hown hK.1 hw A0 rfl 2 (by decide) (hW _ lf_Ar_29) (fun _ h => h) rfl dAr_raise_119 ?_
          refine lv_aload_n (pc := 122) hx hb dAr_raise_122 rfl (lv_at hl 2 rfl) ?_
          refine fw_get (pc := 123) (ci := 8) (v := .int (nI 1)) (C := RWh) (T := TWh) (N := 2) hx hb hW in_Wh hown hK.1 hw ah rfl 1 (by decide) (hW _ lf_Ar_43) (fun _ h => h) rfl dAr_raise_123 ?_
          refine lv_if_eq (pc := 126) (tgt := 144) hx hb dAr_raise_126 (by decide) (fun hc => absurd hc (show ¬ nI 1 = 0 by decide)) (fun _ => ?_)
          refine lv_aload_n (pc := 129) hx hb dAr_raise_129 rfl (lv_at hl 3 rfl) ?_
          refine fw_get (pc := 130) (ci := 8) (v := .ref (qb + 1)) (C := RWh) (T := TWh) (N := 2) hx hb hW in_Wh hown hK.1 hw bh rfl 0 (by decide) (hW _ lf_Ar_38) (fun _ h => h) rfl dAr_raise_130 ?_
          refine lv_iconst (pc := 133) (v := (nI 0)) hx hb dAr_raise_133 (by decide) ?_
          obtain ⟨g17, k17, ⟨o17, p17⟩, l17, _, n17, v17⟩ := id bv
          refine fw_cVR (pc := 134) (As := [.int (nI 0)]) (rest := [.ref (ar + 10)]) ⟨hx, hb, hml, hown, hW⟩ (c_Na_bitAt l17 (by decide) o17 p17 n17.1) (cwV 1 hW (kw_V lm_Ar_97 im_Na_bitAt se_Na_bitAt ini_Na cd_Na_bitAt) rfl rfl rfl (by decide +kernel) ⟨Nat.le_of_ble_eq_true rfl, Nat.le_of_ble_eq_true rfl⟩) hK hw o17 rfl rfl hl.1 rfl (Nat.le_of_ble_eq_true rfl) dAr_raise_134 ⟨Nat.le_of_ble_eq_true rfl, Nat.le_of_ble_eq_true rfl⟩ (fun v hq => ?_)
          rw [nv_bit (b := nB) rfl n17.1, v17] at hq
          subst hq
          refine W.eq (g2 := F0 m 137 ls [.int (nI (y / 2 ^ 0 % 2)), .ref (ar + 10)]) rfl ?_
          rw [show (nI (y / 2 ^ 0 % 2) : Int32) = nI (y % 2) from (by rw [Nat.pow_zero, Nat.div_one])]
          rcases (show y % 2 = 0 ∨ y % 2 = 1 by omega) with hy2 | hy2
          · rw [show (nI (y % 2) : Int32) = nI 0 from (by rw [hy2])]
            refine lv_if_eq (pc := 137) (tgt := 144) hx hb dAr_raise_137 (by decide) (fun _ => ?_) (fun hc => absurd (show nI 0 = 0 by decide) hc)
            refine lv_iconst (pc := 144) (v := (nI 0)) hx hb dAr_raise_144 (by decide) ?_
            refine lv_aload_n (pc := 145) hx hb dAr_raise_145 rfl (lv_at hl 2 rfl) ?_
            have haI := ha.kept (w' := w1) (fun q h1 h2 => by rw [hF q (by omega)])
            have hAI : arS cL w1 ar := ⟨A0, A1, ⟨_, Aq⟩, ⟨_, Ar9⟩, ⟨_, Ad⟩, Ao, ⟨_, Au⟩, ⟨_, Ap⟩, ⟨_, Ab⟩⟩
            refine fw_cS (pc := 146) (As := [.ref (ar + 10), .int (nI 0), .ref qa]) (rest := []) ⟨hx, hb, hml, hown, hW⟩ (c_Ar_store (neg := 0) (by decide) Au haI (by omega)) (va_cwS 3 hW (kw_S lm_Ar_62 sta_Ar_store ini_Ar cd_Ar_store) rfl rfl rfl (by decide +kernel) ⟨Nat.le_of_ble_eq_true rfl, Nat.le_of_ble_eq_true rfl⟩) hK hw rfl hl.1 rfl (Nat.le_of_ble_eq_true rfl) dAr_raise_146 ⟨Nat.le_of_ble_eq_true rfl, Nat.le_of_ble_eq_true rfl⟩ (fun v w2 H locs hq hw => ?_)
            obtain ⟨rfl, hI, fs9⟩ := hq
            refine W.eq (g2 := F0 m 149 ls [.int (nI (if o < 2 ^ 768 then 0 else 6))]) rfl ?_
            have hA9 := hAI.kept (fun q h1 h2 => fs9 q (by omega))
            have hF9 : ∀ q, q < ar ∨ ar + 16 ≤ q → q < qa ∨ qa + 3 ≤ q → w2 q = w q := fun q h1 h2 => by rw [fs9 q (by omega), hF q (by omega)]
            rw [if_neg (fun h9 => by have := h9.2; omega)] at hs9
            rw [hoe] at hI
            exact fw_iret (pc := 149) hx hb hr hlocks hw dAr_raise_149 ⟨by rw [hs9, sFit_1, wv_abs, hoe], by rw [hs9, sFit_2, wv_abs]; exact hI, hA9, hF9⟩
          · rw [show (nI (y % 2) : Int32) = nI 1 from (by rw [hy2])]
            refine lv_if_eq (pc := 137) (tgt := 144) hx hb dAr_raise_137 (by decide) (fun hc => absurd hc (show ¬ nI 1 = 0 by decide)) (fun _ => ?_)
            refine lv_iconst (pc := 140) (v := (nI 1)) hx hb dAr_raise_140 (by decide) ?_
            refine lv_goto (pc := 141) (tgt := 145) hx hb dAr_raise_141 (by decide) ?_
            refine lv_aload_n (pc := 145) hx hb dAr_raise_145 rfl (lv_at hl 2 rfl) ?_
            have haI := ha.kept (w' := w1) (fun q h1 h2 => by rw [hF q (by omega)])
            have hAI : arS cL w1 ar := ⟨A0, A1, ⟨_, Aq⟩, ⟨_, Ar9⟩, ⟨_, Ad⟩, Ao, ⟨_, Au⟩, ⟨_, Ap⟩, ⟨_, Ab⟩⟩
            refine fw_cS (pc := 146) (As := [.ref (ar + 10), .int (nI 1), .ref qa]) (rest := []) ⟨hx, hb, hml, hown, hW⟩ (c_Ar_store (neg := 1) (by decide) Au haI (by omega)) (va_cwS 3 hW (kw_S lm_Ar_62 sta_Ar_store ini_Ar cd_Ar_store) rfl rfl rfl (by decide +kernel) ⟨Nat.le_of_ble_eq_true rfl, Nat.le_of_ble_eq_true rfl⟩) hK hw rfl hl.1 rfl (Nat.le_of_ble_eq_true rfl) dAr_raise_146 ⟨Nat.le_of_ble_eq_true rfl, Nat.le_of_ble_eq_true rfl⟩ (fun v w2 H locs hq hw => ?_)
            obtain ⟨rfl, hI, fs9⟩ := hq
            refine W.eq (g2 := F0 m 149 ls [.int (nI (if o < 2 ^ 768 then 0 else 6))]) rfl ?_
            have hA9 := hAI.kept (fun q h1 h2 => fs9 q (by omega))
            have hF9 : ∀ q, q < ar ∨ ar + 16 ≤ q → q < qa ∨ qa + 3 ≤ q → w2 q = w q := fun q h1 h2 => by rw [fs9 q (by omega), hF q (by omega)]
            rw [if_pos ⟨rfl, hy2⟩] at hs9
            rw [hoe] at hI
            exact fw_iret (pc := 149) hx hb hr hlocks hw dAr_raise_149 ⟨by rw [hs9, sFit_1, wv_abs, hoe], by rw [hs9, sFit_2, wv_abs]; exact hI, hA9, hF9⟩
      | succ i ih =>
        intro hil o hoe ho7 w1 H locs ls hw hl hA1 hO hF
        obtain ⟨A0, A1, ⟨e_q, Aq⟩, ⟨er, Ar9⟩, ⟨ed, Ad⟩, Ao, ⟨eo, Au⟩, ⟨ep, Ap⟩, ⟨eb, Ab⟩⟩ := id hA1
        have Au := hO
        have ah := (hF _ (by omega)).trans ah9
        have av := av9.kept (w' := w1) (fun a h1 h2 => hF a (by omega))
        have bh := (hF _ (by omega)).trans bh9
        have bv := bv9.kept (w' := w1) (fun a h1 h2 => hF a (by omega))
        rw [show nI (i + 1) - nI 1 = nI i from nI_pred i] at hl
        refine lv_iload_n (pc := 27) hx hb dAr_raise_27 rfl (lv_at hl 0 rfl) ?_
        refine lv_if_lt (pc := 28) (tgt := 118) hx hb dAr_raise_28 (by decide) (fun hc => absurd hc (nI_pos (by omega))) (fun _ => ?_)
        refine lv_aload_n (pc := 31) hx hb dAr_raise_31 rfl (lv_at hl 1 rfl) ?_
        refine fw_get (pc := 32) (ci := 0) (v := .ref (ar + 12)) (C := RAr) (T := TAr) (N := 5) hx hb hW in_Ar hown hK.1 hw A0 rfl 3 (by decide) (hW _ lf_Ar_32) (fun _ h => h) rfl dAr_raise_32 ?_
        refine lv_aload_n (pc := 35) hx hb dAr_raise_35 rfl (lv_at hl 1 rfl) ?_
        refine fw_get (pc := 36) (ci := 0) (v := .ref (ar + 10)) (C := RAr) (T := TAr) (N := 5) hx hb hW in_Ar hown hK.1 hw A0 rfl 2 (by decide) (hW _ lf_Ar_29) (fun _ h => h) rfl dAr_raise_36 ?_
        refine lv_aload_n (pc := 39) hx hb dAr_raise_39 rfl (lv_at hl 1 rfl) ?_
        refine fw_get (pc := 40) (ci := 0) (v := .ref (ar + 10)) (C := RAr) (T := TAr) (N := 5) hx hb hW in_Ar hown hK.1 hw A0 rfl 2 (by decide) (hW _ lf_Ar_29) (fun _ h => h) rfl dAr_raise_40 ?_
        obtain ⟨k18, o18⟩ := Ap.ob
        refine fw_cV (pc := 43) (As := [.ref (ar + 10), .ref (ar + 10)]) (rest := []) ⟨hx, hb, hml, hown, hW⟩ (c_Na_becomeProduct (by omega) (by omega) Ap Au Au (Nat.lt_trans ho7 p25) (Nat.lt_trans ho7 p25)) (cwV 2 hW (kw_V lm_Ar_66 im_Na_becomeProduct se_Na_becomeProduct ini_Na cd_Na_becomeProduct) rfl rfl rfl (by decide +kernel) ⟨Nat.le_of_ble_eq_true rfl, Nat.le_of_ble_eq_true rfl⟩) hK hw o18 rfl rfl hl.1 rfl (Nat.le_of_ble_eq_true rfl) dAr_raise_43 ⟨Nat.le_of_ble_eq_true rfl, Nat.le_of_ble_eq_true rfl⟩ (fun v w2 H locs hq hw => ?_)
        obtain ⟨rfl, hV9, co1_0⟩ := hq
        have A0_ : w2 (ar) = some (.inr (0, [.ref (ar + 1), .ref (ar + 8), .ref (ar + 10), .ref (ar + 12), .ref (ar + 14)])) := (co1_0 _ (by omega) (by omega)).trans A0
        have A1_ : w2 (ar + 1) = some (.inr (3, [.ref (ar + 1 + 1), .ref (ar + 1 + 3), .ref (ar + 1 + 5)])) := (co1_0 _ (by omega) (by omega)).trans A1
        have ah_ : w2 (qa) = some (.inr (8, [.ref (qa + 1), .int (nI sg)])) := (co1_0 _ (by omega) (by omega)).trans ah
        have bh_ : w2 (qb) = some (.inr (8, [.ref (qb + 1), .int (nI 0)])) := (co1_0 _ (by omega) (by omega)).trans bh
        have A0 := A0_
        have A1 := A1_
        have ah := ah_
        have bh := bh_
        have Aq : isV cL w2 (ar + 1 + 1) (e_q) := Aq.kept (fun a h1 h2 => co1_0 a (by omega) (by omega))
        have Ar9 : isV cL w2 (ar + 1 + 3) (er) := Ar9.kept (fun a h1 h2 => co1_0 a (by omega) (by omega))
        have Ad : isV cL w2 (ar + 1 + 5) (ed) := Ad.kept (fun a h1 h2 => co1_0 a (by omega) (by omega))
        have Ao : isV cL w2 (ar + 8) (1) := Ao.kept (fun a h1 h2 => co1_0 a (by omega) (by omega))
        have Au : isV cL w2 (ar + 10) (o) := Au.kept (fun a h1 h2 => co1_0 a (by omega) (by omega))
        have Ab : isV cL w2 (ar + 14) (eb) := Ab.kept (fun a h1 h2 => co1_0 a (by omega) (by omega))
        have av : isV cL w2 (qa + 1) (x) := av.kept (fun a h1 h2 => co1_0 a (by omega) (by omega))
        have bv : isV cL w2 (qb + 1) (y) := bv.kept (fun a h1 h2 => co1_0 a (by omega) (by omega))
        have Ap := hV9
        refine W.eq (g2 := F0 m 46 ls []) rfl ?_
        refine lv_aload_n (pc := 46) hx hb dAr_raise_46 rfl (lv_at hl 1 rfl) ?_
        refine fw_get (pc := 47) (ci := 0) (v := .ref (ar + 12)) (C := RAr) (T := TAr) (N := 5) hx hb hW in_Ar hown hK.1 hw A0 rfl 3 (by decide) (hW _ lf_Ar_32) (fun _ h => h) rfl dAr_raise_47 ?_
        have hpl := pw_le y i
        have hoo : o * o = x ^ (2 * (y / 2 ^ (i + 1))) := by rw [hoe, ← Nat.pow_add, Nat.two_mul]
        by_cases hg9 : o * o < 2 ^ 768
        · obtain ⟨g20, k20, ⟨o20, _⟩, l20, _, n20, v20⟩ := id Ap
          refine fw_cVR (pc := 50) (As := []) (rest := []) ⟨hx, hb, hml, hown, hW⟩ (c_Na_isTooGreat (by omega) o20) (cwV 0 hW (kw_V lm_Ar_94 im_Na_isTooGreat se_Na_isTooGreat ini_Na cd_Na_isTooGreat) rfl rfl rfl (by decide +kernel) ⟨Nat.le_of_ble_eq_true rfl, Nat.le_of_ble_eq_true rfl⟩) hK hw o20 rfl rfl hl.1 rfl (Nat.le_of_ble_eq_true rfl) dAr_raise_50 ⟨Nat.le_of_ble_eq_true rfl, Nat.le_of_ble_eq_true rfl⟩ (fun v hq => ?_)
          rw [if_neg (fun h9 => (tg_iff n20 v20).mp h9 hg9)] at hq
          subst hq
          refine W.eq (g2 := F0 m 53 ls [.int (nI 0)]) rfl ?_
          refine lv_if_eq (pc := 53) (tgt := 59) hx hb dAr_raise_53 (by decide) (fun _ => ?_) (fun hc => absurd (show nI 0 = 0 by decide) hc)
          refine lv_aload_n (pc := 59) hx hb dAr_raise_59 rfl (lv_at hl 3 rfl) ?_
          refine fw_get (pc := 60) (ci := 8) (v := .ref (qb + 1)) (C := RWh) (T := TWh) (N := 2) hx hb hW in_Wh hown hK.1 hw bh rfl 0 (by decide) (hW _ lf_Ar_38) (fun _ h => h) rfl dAr_raise_60 ?_
          refine lv_iload_n (pc := 63) hx hb dAr_raise_63 rfl (lv_at hl 0 rfl) ?_
          obtain ⟨g21, k21, ⟨o21, p21⟩, l21, _, n21, v21⟩ := id bv
          refine fw_cVR (pc := 64) (As := [.int (nI i)]) (rest := []) ⟨hx, hb, hml, hown, hW⟩ (c_Na_bitAt l21 (by omega) o21 p21 n21.1) (cwV 1 hW (kw_V lm_Ar_97 im_Na_bitAt se_Na_bitAt ini_Na cd_Na_bitAt) rfl rfl rfl (by decide +kernel) ⟨Nat.le_of_ble_eq_true rfl, Nat.le_of_ble_eq_true rfl⟩) hK hw o21 rfl rfl hl.1 rfl (Nat.le_of_ble_eq_true rfl) dAr_raise_64 ⟨Nat.le_of_ble_eq_true rfl, Nat.le_of_ble_eq_true rfl⟩ (fun v hq => ?_)
          rw [nv_bit (b := nB) rfl n21.1, v21] at hq
          subst hq
          refine W.eq (g2 := F0 m 67 ls [.int (nI (y / 2 ^ i % 2))]) rfl ?_
          rcases (show y / 2 ^ i % 2 = 0 ∨ y / 2 ^ i % 2 = 1 by omega) with hy2 | hy2
          · rw [show (nI (y / 2 ^ i % 2) : Int32) = nI 0 from (by rw [hy2])]
            refine lv_if_eq (pc := 67) (tgt := 88) hx hb dAr_raise_67 (by decide) (fun _ => ?_) (fun hc => absurd (show nI 0 = 0 by decide) hc)
            refine lv_aload_n (pc := 88) hx hb dAr_raise_88 rfl (lv_at hl 1 rfl) ?_
            refine fw_get (pc := 89) (ci := 0) (v := .ref (ar + 10)) (C := RAr) (T := TAr) (N := 5) hx hb hW in_Ar hown hK.1 hw A0 rfl 2 (by decide) (hW _ lf_Ar_29) (fun _ h => h) rfl dAr_raise_89 ?_
            refine lv_aload_n (pc := 92) hx hb dAr_raise_92 rfl (lv_at hl 1 rfl) ?_
            refine fw_get (pc := 93) (ci := 0) (v := .ref (ar + 12)) (C := RAr) (T := TAr) (N := 5) hx hb hW in_Ar hown hK.1 hw A0 rfl 3 (by decide) (hW _ lf_Ar_32) (fun _ h => h) rfl dAr_raise_93 ?_
            obtain ⟨k22, o22⟩ := Au.ob
            refine fw_cV (pc := 96) (As := [.ref (ar + 12)]) (rest := []) ⟨hx, hb, hml, hown, hW⟩ (c_Na_become (by omega) Au Ap) (cwV 1 hW (kw_V lm_Ar_82 im_Na_become se_Na_become ini_Na cd_Na_become) rfl rfl rfl (by decide +kernel) ⟨Nat.le_of_ble_eq_true rfl, Nat.le_of_ble_eq_true rfl⟩) hK hw o22 rfl rfl hl.1 rfl (Nat.le_of_ble_eq_true rfl) dAr_raise_96 ⟨Nat.le_of_ble_eq_true rfl, Nat.le_of_ble_eq_true rfl⟩ (fun v w3 H locs hq hw => ?_)
            obtain ⟨rfl, hV9, co2_1⟩ := hq
            have A0_ : w3 (ar) = some (.inr (0, [.ref (ar + 1), .ref (ar + 8), .ref (ar + 10), .ref (ar + 12), .ref (ar + 14)])) := (co2_1 _ (by omega) (by omega)).trans A0
            have A1_ : w3 (ar + 1) = some (.inr (3, [.ref (ar + 1 + 1), .ref (ar + 1 + 3), .ref (ar + 1 + 5)])) := (co2_1 _ (by omega) (by omega)).trans A1
            have ah_ : w3 (qa) = some (.inr (8, [.ref (qa + 1), .int (nI sg)])) := (co2_1 _ (by omega) (by omega)).trans ah
            have bh_ : w3 (qb) = some (.inr (8, [.ref (qb + 1), .int (nI 0)])) := (co2_1 _ (by omega) (by omega)).trans bh
            have A0 := A0_
            have A1 := A1_
            have ah := ah_
            have bh := bh_
            have Aq : isV cL w3 (ar + 1 + 1) (e_q) := Aq.kept (fun a h1 h2 => co2_1 a (by omega) (by omega))
            have Ar9 : isV cL w3 (ar + 1 + 3) (er) := Ar9.kept (fun a h1 h2 => co2_1 a (by omega) (by omega))
            have Ad : isV cL w3 (ar + 1 + 5) (ed) := Ad.kept (fun a h1 h2 => co2_1 a (by omega) (by omega))
            have Ao : isV cL w3 (ar + 8) (1) := Ao.kept (fun a h1 h2 => co2_1 a (by omega) (by omega))
            have Ap : isV cL w3 (ar + 12) (o * o) := Ap.kept (fun a h1 h2 => co2_1 a (by omega) (by omega))
            have Ab : isV cL w3 (ar + 14) (eb) := Ab.kept (fun a h1 h2 => co2_1 a (by omega) (by omega))
            have av : isV cL w3 (qa + 1) (x) := av.kept (fun a h1 h2 => co2_1 a (by omega) (by omega))
            have bv : isV cL w3 (qb + 1) (y) := bv.kept (fun a h1 h2 => co2_1 a (by omega) (by omega))
            have Au := hV9
            refine W.eq (g2 := F0 m 99 ls []) rfl ?_
            refine lv_aload_n (pc := 99) hx hb dAr_raise_99 rfl (lv_at hl 1 rfl) ?_
            refine fw_get (pc := 100) (ci := 0) (v := .ref (ar + 10)) (C := RAr) (T := TAr) (N := 5) hx hb hW in_Ar hown hK.1 hw A0 rfl 2 (by decide) (hW _ lf_Ar_29) (fun _ h => h) rfl dAr_raise_100 ?_
            have hne : o * o = x ^ (y / 2 ^ i) := (by rw [hoe]; exact pw_zero hy2)
            by_cases hg8 : o * o < 2 ^ 768
            · obtain ⟨g23, k23, ⟨o23, _⟩, l23, _, n23, v23⟩ := id Au
              refine fw_cVR (pc := 103) (As := []) (rest := []) ⟨hx, hb, hml, hown, hW⟩ (c_Na_isTooGreat (by omega) o23) (cwV 0 hW (kw_V lm_Ar_94 im_Na_isTooGreat se_Na_isTooGreat ini_Na cd_Na_isTooGreat) rfl rfl rfl (by decide +kernel) ⟨Nat.le_of_ble_eq_true rfl, Nat.le_of_ble_eq_true rfl⟩) hK hw o23 rfl rfl hl.1 rfl (Nat.le_of_ble_eq_true rfl) dAr_raise_103 ⟨Nat.le_of_ble_eq_true rfl, Nat.le_of_ble_eq_true rfl⟩ (fun v hq => ?_)
              rw [if_neg (fun h9 => (tg_iff n23 v23).mp h9 hg8)] at hq
              subst hq
              refine W.eq (g2 := F0 m 106 ls [.int (nI 0)]) rfl ?_
              refine lv_if_eq (pc := 106) (tgt := 112) hx hb dAr_raise_106 (by decide) (fun _ => ?_) (fun hc => absurd (show nI 0 = 0 by decide) hc)
              refine lv_iinc (pc := 112) (lv' := [(3, .int (nI i - nI 1)), (0, .ref ar), (1, .ref qa), (2, .ref qb)]) hx hb dAr_raise_112 hl (k := 0) rfl ((by rw [Int32.sub_eq_add_neg]; rfl)) (by decide) rfl (fun ls hl => ?_)
              refine lv_goto (pc := 115) (tgt := 27) hx hb dAr_raise_115 (by decide) ?_
              exact ih (by omega) _ hne hg8 _ H locs ls hw (lv_sub hl [0, 1, 2, 3] rfl) ⟨A0, A1, ⟨_, Aq⟩, ⟨_, Ar9⟩, ⟨_, Ad⟩, Ao, ⟨_, Au⟩, ⟨_, Ap⟩, ⟨_, Ab⟩⟩ Au (fun q h1 => by rw [co2_1 q (by omega) (by omega), co1_0 q (by omega) (by omega), hF q h1])
            · obtain ⟨g24, k24, ⟨o24, _⟩, l24, _, n24, v24⟩ := id Au
              refine fw_cVR (pc := 103) (As := []) (rest := []) ⟨hx, hb, hml, hown, hW⟩ (c_Na_isTooGreat (by omega) o24) (cwV 0 hW (kw_V lm_Ar_94 im_Na_isTooGreat se_Na_isTooGreat ini_Na cd_Na_isTooGreat) rfl rfl rfl (by decide +kernel) ⟨Nat.le_of_ble_eq_true rfl, Nat.le_of_ble_eq_true rfl⟩) hK hw o24 rfl rfl hl.1 rfl (Nat.le_of_ble_eq_true rfl) dAr_raise_103 ⟨Nat.le_of_ble_eq_true rfl, Nat.le_of_ble_eq_true rfl⟩ (fun v hq => ?_)
              rw [if_pos ((tg_iff n24 v24).mpr hg8)] at hq
              subst hq
              refine W.eq (g2 := F0 m 106 ls [.int (nI 1)]) rfl ?_
              refine lv_if_eq (pc := 106) (tgt := 112) hx hb dAr_raise_106 (by decide) (fun hc => absurd hc (show ¬ nI 1 = 0 by decide)) (fun _ => ?_)
              refine lv_bipush (pc := 109) (v := (nI 6)) hx hb dAr_raise_109 (by decide) ?_
              have hs6 := hbig (fun h9 => absurd h9 (Nat.not_lt.mpr (pw_big (by decide +kernel) (by rw [← hne]; exact Nat.le_of_not_lt hg8) hpl.2)))
              exact fw_iret (pc := 111) hx hb hr hlocks hw dAr_raise_111 ⟨by rw [hs6], by rw [hs6]; exact ha.kept (fun q h1 h2 => by rw [co2_1 q (by omega) (by omega), co1_0 q (by omega) (by omega), hF q (by omega)]), ⟨A0, A1, ⟨_, Aq⟩, ⟨_, Ar9⟩, ⟨_, Ad⟩, Ao, ⟨_, Au⟩, ⟨_, Ap⟩, ⟨_, Ab⟩⟩, fun q h1 h2 => by rw [co2_1 q (by omega) (by omega), co1_0 q (by omega) (by omega), hF q (by omega)]⟩
          · rw [show (nI (y / 2 ^ i % 2) : Int32) = nI 1 from (by rw [hy2])]
            refine lv_if_eq (pc := 67) (tgt := 88) hx hb dAr_raise_67 (by decide) (fun hc => absurd hc (show ¬ nI 1 = 0 by decide)) (fun _ => ?_)
            refine lv_aload_n (pc := 70) hx hb dAr_raise_70 rfl (lv_at hl 1 rfl) ?_
            refine fw_get (pc := 71) (ci := 0) (v := .ref (ar + 10)) (C := RAr) (T := TAr) (N := 5) hx hb hW in_Ar hown hK.1 hw A0 rfl 2 (by decide) (hW _ lf_Ar_29) (fun _ h => h) rfl dAr_raise_71 ?_
            refine lv_aload_n (pc := 74) hx hb dAr_raise_74 rfl (lv_at hl 1 rfl) ?_
            refine fw_get (pc := 75) (ci := 0) (v := .ref (ar + 12)) (C := RAr) (T := TAr) (N := 5) hx hb hW in_Ar hown hK.1 hw A0 rfl 3 (by decide) (hW _ lf_Ar_32) (fun _ h => h) rfl dAr_raise_75 ?_
            refine lv_aload_n (pc := 78) hx hb dAr_raise_78 rfl (lv_at hl 2 rfl) ?_
            refine fw_get (pc := 79) (ci := 8) (v := .ref (qa + 1)) (C := RWh) (T := TWh) (N := 2) hx hb hW in_Wh hown hK.1 hw ah rfl 0 (by decide) (hW _ lf_Ar_38) (fun _ h => h) rfl dAr_raise_79 ?_
            obtain ⟨k25, o25⟩ := Au.ob
            refine fw_cV (pc := 82) (As := [.ref (ar + 12), .ref (qa + 1)]) (rest := []) ⟨hx, hb, hml, hown, hW⟩ (c_Na_becomeProduct (by omega) (by omega) Au Ap av (Nat.lt_trans hg9 p25) (Nat.lt_trans hx7 p25)) (cwV 2 hW (kw_V lm_Ar_66 im_Na_becomeProduct se_Na_becomeProduct ini_Na cd_Na_becomeProduct) rfl rfl rfl (by decide +kernel) ⟨Nat.le_of_ble_eq_true rfl, Nat.le_of_ble_eq_true rfl⟩) hK hw o25 rfl rfl hl.1 rfl (Nat.le_of_ble_eq_true rfl) dAr_raise_82 ⟨Nat.le_of_ble_eq_true rfl, Nat.le_of_ble_eq_true rfl⟩ (fun v w3 H locs hq hw => ?_)
            obtain ⟨rfl, hV9, co2_1⟩ := hq
            have A0_ : w3 (ar) = some (.inr (0, [.ref (ar + 1), .ref (ar + 8), .ref (ar + 10), .ref (ar + 12), .ref (ar + 14)])) := (co2_1 _ (by omega) (by omega)).trans A0
            have A1_ : w3 (ar + 1) = some (.inr (3, [.ref (ar + 1 + 1), .ref (ar + 1 + 3), .ref (ar + 1 + 5)])) := (co2_1 _ (by omega) (by omega)).trans A1
            have ah_ : w3 (qa) = some (.inr (8, [.ref (qa + 1), .int (nI sg)])) := (co2_1 _ (by omega) (by omega)).trans ah
            have bh_ : w3 (qb) = some (.inr (8, [.ref (qb + 1), .int (nI 0)])) := (co2_1 _ (by omega) (by omega)).trans bh
            have A0 := A0_
            have A1 := A1_
            have ah := ah_
            have bh := bh_
            have Aq : isV cL w3 (ar + 1 + 1) (e_q) := Aq.kept (fun a h1 h2 => co2_1 a (by omega) (by omega))
            have Ar9 : isV cL w3 (ar + 1 + 3) (er) := Ar9.kept (fun a h1 h2 => co2_1 a (by omega) (by omega))
            have Ad : isV cL w3 (ar + 1 + 5) (ed) := Ad.kept (fun a h1 h2 => co2_1 a (by omega) (by omega))
            have Ao : isV cL w3 (ar + 8) (1) := Ao.kept (fun a h1 h2 => co2_1 a (by omega) (by omega))
            have Ap : isV cL w3 (ar + 12) (o * o) := Ap.kept (fun a h1 h2 => co2_1 a (by omega) (by omega))
            have Ab : isV cL w3 (ar + 14) (eb) := Ab.kept (fun a h1 h2 => co2_1 a (by omega) (by omega))
            have av : isV cL w3 (qa + 1) (x) := av.kept (fun a h1 h2 => co2_1 a (by omega) (by omega))
            have bv : isV cL w3 (qb + 1) (y) := bv.kept (fun a h1 h2 => co2_1 a (by omega) (by omega))
            have Au := hV9
            refine W.eq (g2 := F0 m 85 ls []) rfl ?_
            refine lv_goto (pc := 85) (tgt := 99) hx hb dAr_raise_85 (by decide) ?_
            refine lv_aload_n (pc := 99) hx hb dAr_raise_99 rfl (lv_at hl 1 rfl) ?_
            refine fw_get (pc := 100) (ci := 0) (v := .ref (ar + 10)) (C := RAr) (T := TAr) (N := 5) hx hb hW in_Ar hown hK.1 hw A0 rfl 2 (by decide) (hW _ lf_Ar_29) (fun _ h => h) rfl dAr_raise_100 ?_
            have hne : o * o * x = x ^ (y / 2 ^ i) := (by rw [hoe]; exact pw_one hy2)
            by_cases hg8 : o * o * x < 2 ^ 768
            · obtain ⟨g26, k26, ⟨o26, _⟩, l26, _, n26, v26⟩ := id Au
              refine fw_cVR (pc := 103) (As := []) (rest := []) ⟨hx, hb, hml, hown, hW⟩ (c_Na_isTooGreat (by omega) o26) (cwV 0 hW (kw_V lm_Ar_94 im_Na_isTooGreat se_Na_isTooGreat ini_Na cd_Na_isTooGreat) rfl rfl rfl (by decide +kernel) ⟨Nat.le_of_ble_eq_true rfl, Nat.le_of_ble_eq_true rfl⟩) hK hw o26 rfl rfl hl.1 rfl (Nat.le_of_ble_eq_true rfl) dAr_raise_103 ⟨Nat.le_of_ble_eq_true rfl, Nat.le_of_ble_eq_true rfl⟩ (fun v hq => ?_)
              rw [if_neg (fun h9 => (tg_iff n26 v26).mp h9 hg8)] at hq
              subst hq
              refine W.eq (g2 := F0 m 106 ls [.int (nI 0)]) rfl ?_
              refine lv_if_eq (pc := 106) (tgt := 112) hx hb dAr_raise_106 (by decide) (fun _ => ?_) (fun hc => absurd (show nI 0 = 0 by decide) hc)
              refine lv_iinc (pc := 112) (lv' := [(3, .int (nI i - nI 1)), (0, .ref ar), (1, .ref qa), (2, .ref qb)]) hx hb dAr_raise_112 hl (k := 0) rfl ((by rw [Int32.sub_eq_add_neg]; rfl)) (by decide) rfl (fun ls hl => ?_)
              refine lv_goto (pc := 115) (tgt := 27) hx hb dAr_raise_115 (by decide) ?_
              exact ih (by omega) _ hne hg8 _ H locs ls hw (lv_sub hl [0, 1, 2, 3] rfl) ⟨A0, A1, ⟨_, Aq⟩, ⟨_, Ar9⟩, ⟨_, Ad⟩, Ao, ⟨_, Au⟩, ⟨_, Ap⟩, ⟨_, Ab⟩⟩ Au (fun q h1 => by rw [co2_1 q (by omega) (by omega), co1_0 q (by omega) (by omega), hF q h1])
            · obtain ⟨g27, k27, ⟨o27, _⟩, l27, _, n27, v27⟩ := id Au
              refine fw_cVR (pc := 103) (As := []) (rest := []) ⟨hx, hb, hml, hown, hW⟩ (c_Na_isTooGreat (by omega) o27) (cwV 0 hW (kw_V lm_Ar_94 im_Na_isTooGreat se_Na_isTooGreat ini_Na cd_Na_isTooGreat) rfl rfl rfl (by decide +kernel) ⟨Nat.le_of_ble_eq_true rfl, Nat.le_of_ble_eq_true rfl⟩) hK hw o27 rfl rfl hl.1 rfl (Nat.le_of_ble_eq_true rfl) dAr_raise_103 ⟨Nat.le_of_ble_eq_true rfl, Nat.le_of_ble_eq_true rfl⟩ (fun v hq => ?_)
              rw [if_pos ((tg_iff n27 v27).mpr hg8)] at hq
              subst hq
              refine W.eq (g2 := F0 m 106 ls [.int (nI 1)]) rfl ?_
              refine lv_if_eq (pc := 106) (tgt := 112) hx hb dAr_raise_106 (by decide) (fun hc => absurd hc (show ¬ nI 1 = 0 by decide)) (fun _ => ?_)
              refine lv_bipush (pc := 109) (v := (nI 6)) hx hb dAr_raise_109 (by decide) ?_
              have hs6 := hbig (fun h9 => absurd h9 (Nat.not_lt.mpr (pw_big (by decide +kernel) (by rw [← hne]; exact Nat.le_of_not_lt hg8) hpl.2)))
              exact fw_iret (pc := 111) hx hb hr hlocks hw dAr_raise_111 ⟨by rw [hs6], by rw [hs6]; exact ha.kept (fun q h1 h2 => by rw [co2_1 q (by omega) (by omega), co1_0 q (by omega) (by omega), hF q (by omega)]), ⟨A0, A1, ⟨_, Aq⟩, ⟨_, Ar9⟩, ⟨_, Ad⟩, Ao, ⟨_, Au⟩, ⟨_, Ap⟩, ⟨_, Ab⟩⟩, fun q h1 h2 => by rw [co2_1 q (by omega) (by omega), co1_0 q (by omega) (by omega), hF q (by omega)]⟩
        · obtain ⟨g19, k19, ⟨o19, _⟩, l19, _, n19, v19⟩ := id Ap
          refine fw_cVR (pc := 50) (As := []) (rest := []) ⟨hx, hb, hml, hown, hW⟩ (c_Na_isTooGreat (by omega) o19) (cwV 0 hW (kw_V lm_Ar_94 im_Na_isTooGreat se_Na_isTooGreat ini_Na cd_Na_isTooGreat) rfl rfl rfl (by decide +kernel) ⟨Nat.le_of_ble_eq_true rfl, Nat.le_of_ble_eq_true rfl⟩) hK hw o19 rfl rfl hl.1 rfl (Nat.le_of_ble_eq_true rfl) dAr_raise_50 ⟨Nat.le_of_ble_eq_true rfl, Nat.le_of_ble_eq_true rfl⟩ (fun v hq => ?_)
          rw [if_pos ((tg_iff n19 v19).mpr hg9)] at hq
          subst hq
          refine W.eq (g2 := F0 m 53 ls [.int (nI 1)]) rfl ?_
          refine lv_if_eq (pc := 53) (tgt := 59) hx hb dAr_raise_53 (by decide) (fun hc => absurd hc (show ¬ nI 1 = 0 by decide)) (fun _ => ?_)
          refine lv_bipush (pc := 56) (v := (nI 6)) hx hb dAr_raise_56 (by decide) ?_
          have hs6 := hbig (fun h9 => absurd h9 (Nat.not_lt.mpr (pw_big (by decide +kernel) (by rw [← hoo]; exact Nat.le_of_not_lt hg9) hpl.1)))
          exact fw_iret (pc := 58) hx hb hr hlocks hw dAr_raise_58 ⟨by rw [hs6], by rw [hs6]; exact ha.kept (fun q h1 h2 => by rw [co1_0 q (by omega) (by omega), hF q (by omega)]), ⟨A0, A1, ⟨_, Aq⟩, ⟨_, Ar9⟩, ⟨_, Ad⟩, Ao, ⟨_, Au⟩, ⟨_, Ap⟩, ⟨_, Ab⟩⟩, fun q h1 h2 => by rw [co1_0 q (by omega) (by omega), hF q (by omega)]⟩
    refine lv_aload_n (pc := 0) hx hb dAr_raise_0 rfl (lv_at hl 2 rfl) ?_
    refine fw_get (pc := 1) (ci := 8) (v := .int (nI 0)) (C := RWh) (T := TWh) (N := 2) hx hb hW in_Wh hown hK.1 hw bh rfl 1 (by decide) (hW _ lf_Ar_43) (fun _ h => h) rfl dAr_raise_1 ?_
    refine lv_if_eq (pc := 4) (tgt := 9) hx hb dAr_raise_4 (by decide) (fun _ => ?_) (fun hc => absurd (show nI 0 = 0 by decide) hc)
    refine lv_aload_n (pc := 9) hx hb dAr_raise_9 rfl (lv_at hl 0 rfl) ?_
    refine fw_get (pc := 10) (ci := 0) (v := .ref (ar + 10)) (C := RAr) (T := TAr) (N := 5) hx hb hW in_Ar hown hK.1 hw A0 rfl 2 (by decide) (hW _ lf_Ar_29) (fun _ h => h) rfl dAr_raise_10 ?_
    refine lv_lconst (pc := 13) (v := lN 1) hx hb dAr_raise_13 (by decide) ?_
    obtain ⟨g9, k9, ⟨o9, p9⟩, l9, og9, n9, v9⟩ := id Au
    refine fw_cV (pc := 14) (As := [.long (lN 1)]) (rest := []) ⟨hx, hb, hml, hown, hW⟩ (c_Na_becomeLong (x := 1) (by decide) og9 o9 p9) (cwV 1 hW (kw_V lm_Ar_25 im_Na_becomeLong se_Na_becomeLong ini_Na cd_Na_becomeLong) rfl rfl rfl (by decide +kernel) ⟨Nat.le_of_ble_eq_true rfl, Nat.le_of_ble_eq_true rfl⟩) hK hw o9 rfl rfl hl.1 rfl (Nat.le_of_ble_eq_true rfl) dAr_raise_14 ⟨Nat.le_of_ble_eq_true rfl, Nat.le_of_ble_eq_true rfl⟩ (fun v w30 H locs hq hw => ?_)
    obtain ⟨rfl, hV9, col⟩ := hq
    have A0_ : w30 (ar) = some (.inr (0, [.ref (ar + 1), .ref (ar + 8), .ref (ar + 10), .ref (ar + 12), .ref (ar + 14)])) := (col _ (by omega) (by omega)).trans A0
    have A1_ : w30 (ar + 1) = some (.inr (3, [.ref (ar + 1 + 1), .ref (ar + 1 + 3), .ref (ar + 1 + 5)])) := (col _ (by omega) (by omega)).trans A1
    have ah_ : w30 (qa) = some (.inr (8, [.ref (qa + 1), .int (nI sg)])) := (col _ (by omega) (by omega)).trans ah
    have bh_ : w30 (qb) = some (.inr (8, [.ref (qb + 1), .int (nI 0)])) := (col _ (by omega) (by omega)).trans bh
    have A0 := A0_
    have A1 := A1_
    have ah := ah_
    have bh := bh_
    have Aq : isV cL w30 (ar + 1 + 1) (e_q) := Aq.kept (fun a h1 h2 => col a (by omega) (by omega))
    have Ar9 : isV cL w30 (ar + 1 + 3) (er) := Ar9.kept (fun a h1 h2 => col a (by omega) (by omega))
    have Ad : isV cL w30 (ar + 1 + 5) (ed) := Ad.kept (fun a h1 h2 => col a (by omega) (by omega))
    have Ao : isV cL w30 (ar + 8) (1) := Ao.kept (fun a h1 h2 => col a (by omega) (by omega))
    have Ap : isV cL w30 (ar + 12) (ep) := Ap.kept (fun a h1 h2 => col a (by omega) (by omega))
    have Ab : isV cL w30 (ar + 14) (eb) := Ab.kept (fun a h1 h2 => col a (by omega) (by omega))
    have av : isV cL w30 (qa + 1) (x) := av.kept (fun a h1 h2 => col a (by omega) (by omega))
    have bv : isV cL w30 (qb + 1) (y) := bv.kept (fun a h1 h2 => col a (by omega) (by omega))
    have Au := hV9
    refine W.eq (g2 := F0 m 17 ls []) rfl ?_
    refine lv_aload_n (pc := 17) hx hb dAr_raise_17 rfl (lv_at hl 2 rfl) ?_
    refine fw_get (pc := 18) (ci := 8) (v := .ref (qb + 1)) (C := RWh) (T := TWh) (N := 2) hx hb hW in_Wh hown hK.1 hw bh rfl 0 (by decide) (hW _ lf_Ar_38) (fun _ h => h) rfl dAr_raise_18 ?_
    obtain ⟨k28, o28⟩ := bv.ob
    refine fw_cVR (pc := 21) (As := []) (rest := []) ⟨hx, hb, hml, hown, hW⟩ (c_Na_bits bv) (cwV 0 hW (kw_V lm_Ar_90 im_Na_bits se_Na_bits ini_Na cd_Na_bits) rfl rfl rfl (by decide +kernel) ⟨Nat.le_of_ble_eq_true rfl, Nat.le_of_ble_eq_true rfl⟩) hK hw o28 rfl rfl hl.1 rfl (Nat.le_of_ble_eq_true rfl) dAr_raise_21 ⟨Nat.le_of_ble_eq_true rfl, Nat.le_of_ble_eq_true rfl⟩ (fun v hq => ?_)
    subst hq
    refine W.eq (g2 := F0 m 24 ls [.int (nI (bl y))]) rfl ?_
    refine lv_iconst (pc := 24) (v := (nI 1)) hx hb dAr_raise_24 (by decide) ?_
    refine lv_isub (pc := 25) hx hb dAr_raise_25 ?_
    refine lv_istore_n (pc := 26) (lv' := [(3, .int ((nI (bl y) - (nI 1)))), (0, .ref ar), (1, .ref qa), (2, .ref qb)]) hx hb dAr_raise_26 rfl hl (by decide) rfl (fun ls hl => ?_)
    exact loop (bl y) (Nat.le_refl _) 1 (by rw [Nat.div_eq_of_lt (bt_lt y), Nat.pow_zero]) (by decide +kernel) _ H locs ls hw (lv_sub hl [0, 1, 2, 3] rfl) ⟨A0, A1, ⟨_, Aq⟩, ⟨_, Ar9⟩, ⟨_, Ad⟩, Ao, ⟨_, Au⟩, ⟨_, Ap⟩, ⟨_, Ab⟩⟩ Au (fun q h1 => by rw [col q (by omega) (by omega)])
  · refine lv_aload_n (pc := 0) hx hb dAr_raise_0 rfl (lv_at hl 2 rfl) ?_
    refine fw_get (pc := 1) (ci := 8) (v := .int (nI 1)) (C := RWh) (T := TWh) (N := 2) hx hb hW in_Wh hown hK.1 hw bh rfl 1 (by decide) (hW _ lf_Ar_43) (fun _ h => h) rfl dAr_raise_1 ?_
    refine lv_if_eq (pc := 4) (tgt := 9) hx hb dAr_raise_4 (by decide) (fun hc => absurd hc (show ¬ nI 1 = 0 by decide)) (fun _ => ?_)
    refine lv_iconst (pc := 7) (v := (nI 3)) hx hb dAr_raise_7 (by decide) ?_
    have hs9 : sPow a b = (3, a) := if_pos (by rw [← be, wv_1]; have := bp rfl; omega)
    exact fw_iret (pc := 8) hx hb hr hlocks hw dAr_raise_8 ⟨by rw [hs9], by rw [hs9]; exact ha, hA, fun q _ _ => rfl⟩
end AR3c
