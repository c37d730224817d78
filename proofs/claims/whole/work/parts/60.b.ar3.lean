/-! BigCalculator.Arithmetic, third part. Written by wip/gen/arith3.py. -/
section AR3b
variable {l : Launch} {D : va_G} {cI cL cQ : ClassId} {z : kZ_T} {sz : Nat} {w : fw_W}
set_option maxHeartbeats 4000000 in
set_option maxRecDepth 100000 in
theorem c_Ar_root {ar qa : Nat} {a : Int} (hA : arS cL w ar) (ha : isI cL w qa a) (hpa : qa + 2 < ar ∨ ar + 15 < qa) (ha7 : a.natAbs < 2 ^ 768) : fw_C l yAr_root (Cond.code yAr_root cAr_root 3 (some FieldType.int) :: kWs) ({ frames := 4, cells := 0, slots := 0, locals := 107 } : Room) D kCl (kty cI cL cQ) z [.ref ar, .ref qa] (sz) w 0 0 (fun v w' => v = some (.int (nI (sRoot a).1)) ∧ isI cL w' qa (sRoot a).2 ∧ arS cL w' ar ∧ ∀ q, q < ar ∨ ar + 16 ≤ q → q < qa ∨ qa + 3 ≤ q → w' q = w q) := by
  refine fw_ofW (cc := cAr_root) (maxL := 3) (ret := (some FieldType.int)) (by decide) rfl (Nat.le_of_ble_eq_true rfl) ?_
  intro p e s m args below meth c hx hb hr hts hown hlocks hname hml hK H ls hw hl
  have hW : ∀ w ∈ kWs, w.before args s = true := fun w h => hts w (List.mem_cons_of_mem _ h)
  have hown : s.vm.findClass RAr = some m.cls := hown
  have hl : lv_has ls 3 [(0, .ref ar), (1, .ref qa)] := hl
  obtain ⟨A0, A1, ⟨e_q, Aq⟩, ⟨er, Ar9⟩, ⟨ed, Ad⟩, Ao, ⟨eo, Au⟩, ⟨ep, Ap⟩, ⟨eb, Ab⟩⟩ := id hA
  obtain ⟨sg, x, as, ap, ah, av, ae⟩ := id ha
  have hx7 : x < 2 ^ 768 := by rw [← wv_abs sg x, ae]; exact ha7
  have p49 : 2 ^ 768 < nB ^ 49 := by decide +kernel
  have hna : a.natAbs = x := by rw [← ae, wv_abs]
  rcases (show sg = 0 ∨ sg = 1 by omega) with rfl | rfl
  · have hs9 : sRoot a = (0, (isq x : Int)) := by unfold sRoot; rw [if_neg (by rw [← ae, wv_0]; omega), hna]
    refine lv_aload_n (pc := 0) hx hb dAr_root_0 rfl (lv_at hl 1 rfl) ?_
    refine fw_get (pc := 1) (ci := 8) (v := .int (nI 0)) (C := RWh) (T := TWh) (N := 2) hx hb hW in_Wh hown hK.1 hw ah rfl 1 (by decide) (hW _ lf_Ar_43) (fun _ h => h) rfl dAr_root_1 ?_
    refine lv_if_eq (pc := 4) (tgt := 9) hx hb dAr_root_4 (by decide) (fun _ => ?_) (fun hc => absurd (show nI 0 = 0 by decide) hc)
    refine lv_aload_n (pc := 9) hx hb dAr_root_9 rfl (lv_at hl 1 rfl) ?_
    refine fw_get (pc := 10) (ci := 8) (v := .ref (qa + 1)) (C := RWh) (T := TWh) (N := 2) hx hb hW in_Wh hown hK.1 hw ah rfl 0 (by decide) (hW _ lf_Ar_38) (fun _ h => h) rfl dAr_root_10 ?_
    by_cases hx0 : x = 0
    · obtain ⟨g9, k9, ⟨o9, _⟩, l9, _, n9, v9⟩ := id av
      refine fw_cVR (pc := 13) (As := []) (rest := []) ⟨hx, hb, hml, hown, hW⟩ (c_Na_isZero (by omega) o9) (cwV 0 hW (kw_V lm_Ar_69 im_Na_isZero se_Na_isZero ini_Na cd_Na_isZero) rfl rfl rfl (by decide +kernel) ⟨Nat.le_of_ble_eq_true rfl, Nat.le_of_ble_eq_true rfl⟩) hK hw o9 rfl rfl hl.1 rfl (Nat.le_of_ble_eq_true rfl) dAr_root_13 ⟨Nat.le_of_ble_eq_true rfl, Nat.le_of_ble_eq_true rfl⟩ (fun v hq => ?_)
      rw [if_pos ((nk_zero n9 v9).mpr hx0)] at hq
      subst hq
      refine W.eq (g2 := F0 m 16 ls [.int (nI 1)]) rfl ?_
      refine lv_if_eq (pc := 16) (tgt := 21) hx hb dAr_root_16 (by decide) (fun hc => absurd hc (show ¬ nI 1 = 0 by decide)) (fun _ => ?_)
      refine lv_iconst (pc := 19) (v := (nI 0)) hx hb dAr_root_19 (by decide) ?_
      exact fw_iret (pc := 20) hx hb hr hlocks hw dAr_root_20 ⟨by rw [hs9], by rw [hs9, hx0]; (show isI cL w qa 0); rw [hx0] at ae; rw [show (0 : Int) = a from ae]; exact ha, hA, fun q _ _ => rfl⟩
    · obtain ⟨g10, k10, ⟨o10, _⟩, l10, _, n10, v10⟩ := id av
      refine fw_cVR (pc := 13) (As := []) (rest := []) ⟨hx, hb, hml, hown, hW⟩ (c_Na_isZero (by omega) o10) (cwV 0 hW (kw_V lm_Ar_69 im_Na_isZero se_Na_isZero ini_Na cd_Na_isZero) rfl rfl rfl (by decide +kernel) ⟨Nat.le_of_ble_eq_true rfl, Nat.le_of_ble_eq_true rfl⟩) hK hw o10 rfl rfl hl.1 rfl (Nat.le_of_ble_eq_true rfl) dAr_root_13 ⟨Nat.le_of_ble_eq_true rfl, Nat.le_of_ble_eq_true rfl⟩ (fun v hq => ?_)
      rw [if_neg (fun h9 => hx0 ((nk_zero n10 v10).mp h9))] at hq
      subst hq
      refine W.eq (g2 := F0 m 16 ls [.int (nI 0)]) rfl ?_
      refine lv_if_eq (pc := 16) (tgt := 21) hx hb dAr_root_16 (by decide) (fun _ => ?_) (fun hc => absurd (show nI 0 = 0 by decide) hc)
      have hsp := isq_pos (Nat.pos_of_ne_zero hx0)
      have hs1 := (isq_ok x).1
      have hsl : isq x < 2 ^ 768 := Nat.lt_of_le_of_lt (Nat.le_trans (Nat.le_mul_of_pos_left _ hsp) hs1) hx7
      have ah9 := ah
      have av9 := av
      have loop : ∀ (e0 t : Nat), t + e0 = 1000 → ∀ (o : Nat), isq x ≤ o → (o - isq x) * 2 ^ t < 2 ^ 400 → o < 2 ^ 768 → ∀ (w1 : fw_W) (H : Heap) (locs : List Loc) (ls : Array Slot), fw_H D kCl (fw_A w (sz)) s.heap w1 (sz) H locs → lv_has ls 3 [(2, .int (nI t)), (0, .ref ar), (1, .ref qa)] → arS cL w1 ar → isV cL w1 (ar + 10) o → (∀ q, q < ar ∨ ar + 16 ≤ q → w1 q = w q) → W p l e ({ frames := 4, cells := 0, slots := 0, locals := 107 } : Room) s m args below meth c H locs 0 0 (MQ below (fw_Q D kCl w (sz) 0 (fun v w' => v = some (.int (nI (sRoot a).1)) ∧ isI cL w' qa (sRoot a).2 ∧ arS cL w' ar ∧ ∀ q, q < ar ∨ ar + 16 ≤ q → q < qa ∨ qa + 3 ≤ q → w' q = w q)) args s 0 0 (fw_A w (sz))) (F0 m 41 ls []) := by
        intro e0
        induction e0 with
        | zero =>
          intro t hte o ho1 ho2 ho7 w1 H locs ls hw hl hA1 hO hF
          obtain ⟨A0, A1, ⟨e_q, Aq⟩, ⟨er, Ar9⟩, ⟨ed, Ad⟩, Ao, ⟨eo, Au⟩, ⟨ep, Ap⟩, ⟨eb, Ab⟩⟩ := id hA1
          have Au := hO
          have ah := (hF _ (by omega)).trans ah9
          have av := av9.kept (w' := w1) (fun a h1 h2 => hF a (by omega))
          have hoe : o = isq x := isq_late ho1 (by rw [show t = 1000 by omega] at ho2; exact ho2)
          refine lv_iload_n (pc := 41) hx hb dAr_root_41 rfl (lv_at hl 0 rfl) ?_
          refine lv_sipush (pc := 42) (v := (nI 1000)) hx hb dAr_root_42 (by decide) ?_
          refine lv_icmp_ge (pc := 45) (tgt := 123) hx hb dAr_root_45 (by decide) (fun _ => ?_) (fun hc => absurd (nI_le (show 1000 ≤ t by omega) (by omega)) hc)
          refine lv_aload_n (pc := 123) hx hb dAr_root_123 rfl (lv_at hl 1 rfl) ?_
          refine fw_get (pc := 124) (ci := 0) (v := .ref (ar + 10)) (C := RAr) (T := TAr) (N := 5) hx hb hW in_Ar hown hK.1 hw A0 rfl 2 (by decide) (hW _ lf_Ar_29) (fun _ h => h) rfl dAr_root_124 ?_
          refine lv_iconst (pc := 127) (v := (nI 0)) hx hb dAr_root_127 (by decide) ?_
          refine lv_aload_n (pc := 128) hx hb dAr_root_128 rfl (lv_at hl 2 rfl) ?_
          have haI := ha.kept (w' := w1) (fun q h1 h2 => by rw [hF q (by omega)])
          have hAI : arS cL w1 ar := ⟨A0, A1, ⟨_, Aq⟩, ⟨_, Ar9⟩, ⟨_, Ad⟩, Ao, ⟨_, Au⟩, ⟨_, Ap⟩, ⟨_, Ab⟩⟩
          refine fw_cS (pc := 129) (As := [.ref (ar + 10), .int (nI 0), .ref qa]) (rest := []) ⟨hx, hb, hml, hown, hW⟩ (c_Ar_store (neg := 0) (by decide) Au haI (by omega)) (va_cwS 3 hW (kw_S lm_Ar_62 sta_Ar_store ini_Ar cd_Ar_store) rfl rfl rfl (by decide +kernel) ⟨Nat.le_of_ble_eq_true rfl, Nat.le_of_ble_eq_true rfl⟩) hK hw rfl hl.1 rfl (Nat.le_of_ble_eq_true rfl) dAr_root_129 ⟨Nat.le_of_ble_eq_true rfl, Nat.le_of_ble_eq_true rfl⟩ (fun v w2 H locs hq hw => ?_)
          obtain ⟨rfl, hI, fs9⟩ := hq
          refine W.eq (g2 := F0 m 132 ls [.int (nI (if o < 2 ^ 768 then 0 else 6))]) rfl ?_
          have hA9 := hAI.kept (fun q h1 h2 => fs9 q (by omega))
          have hF9 : ∀ q, q < ar ∨ ar + 16 ≤ q → q < qa ∨ qa + 3 ≤ q → w2 q = w q := fun q h1 h2 => by rw [fs9 q (by omega), hF q (by omega)]
          rw [if_pos ho7] at hI
          exact fw_iret (pc := 132) hx hb hr hlocks hw dAr_root_132 ⟨by rw [if_pos ho7, hs9], by rw [hs9, ← hoe]; exact hI, hA9, hF9⟩
        | succ e0 ih =>
          intro t hte o ho1 ho2 ho7 w1 H locs ls hw hl hA1 hO hF
          obtain ⟨A0, A1, ⟨e_q, Aq⟩, ⟨er, Ar9⟩, ⟨ed, Ad⟩, Ao, ⟨eo, Au⟩, ⟨ep, Ap⟩, ⟨eb, Ab⟩⟩ := id hA1
          have Au := hO
          have ah := (hF _ (by omega)).trans ah9
          have av := av9.kept (w' := w1) (fun a h1 h2 => hF a (by omega))
          refine lv_iload_n (pc := 41) hx hb dAr_root_41 rfl (lv_at hl 0 rfl) ?_
          refine lv_sipush (pc := 42) (v := (nI 1000)) hx hb dAr_root_42 (by decide) ?_
          refine lv_icmp_ge (pc := 45) (tgt := 123) hx hb dAr_root_45 (by decide) (fun hc => absurd hc (nI_ge (show t < 1000 by omega) (by decide))) (fun _ => ?_)
          refine lv_aload_n (pc := 48) hx hb dAr_root_48 rfl (lv_at hl 1 rfl) ?_
          refine fw_get (pc := 49) (ci := 0) (v := .ref (ar + 1)) (C := RAr) (T := TAr) (N := 5) hx hb hW in_Ar hown hK.1 hw A0 rfl 0 (by decide) (hW _ lf_Ar_12) (fun _ h => h) rfl dAr_root_49 ?_
          refine lv_aload_n (pc := 52) hx hb dAr_root_52 rfl (lv_at hl 2 rfl) ?_
          refine fw_get (pc := 53) (ci := 8) (v := .ref (qa + 1)) (C := RWh) (T := TWh) (N := 2) hx hb hW in_Wh hown hK.1 hw ah rfl 0 (by decide) (hW _ lf_Ar_38) (fun _ h => h) rfl dAr_root_53 ?_
          refine lv_aload_n (pc := 56) hx hb dAr_root_56 rfl (lv_at hl 1 rfl) ?_
          refine fw_get (pc := 57) (ci := 0) (v := .ref (ar + 10)) (C := RAr) (T := TAr) (N := 5) hx hb hW in_Ar hown hK.1 hw A0 rfl 2 (by decide) (hW _ lf_Ar_29) (fun _ h => h) rfl dAr_root_57 ?_
          refine fw_cV (pc := 60) (As := [.ref (qa + 1), .ref (ar + 10)]) (rest := []) ⟨hx, hb, hml, hown, hW⟩ (c_Di_divide A1 Aq Ar9 Ad av Au (by omega) (by omega) (by omega) (Nat.lt_trans hx7 p49)) (cwV 2 hW (kw_V lm_Ar_73 im_Di_divide se_Di_divide ini_Di cd_Di_divide) rfl rfl rfl (by decide +kernel) ⟨Nat.le_of_ble_eq_true rfl, Nat.le_of_ble_eq_true rfl⟩) hK hw A1 rfl rfl hl.1 rfl (Nat.le_of_ble_eq_true rfl) dAr_root_60 ⟨Nat.le_of_ble_eq_true rfl, Nat.le_of_ble_eq_true rfl⟩ (fun v w2 H locs hq hw => ?_)
          obtain ⟨rfl, hq9, hr9, ⟨ed2, hd9⟩, cd1_0⟩ := hq
          have A0_ : w2 (ar) = some (.inr (0, [.ref (ar + 1), .ref (ar + 8), .ref (ar + 10), .ref (ar + 12), .ref (ar + 14)])) := (cd1_0 _ (by omega)).trans A0
          have A1_ : w2 (ar + 1) = some (.inr (3, [.ref (ar + 1 + 1), .ref (ar + 1 + 3), .ref (ar + 1 + 5)])) := (cd1_0 _ (by omega)).trans A1
          have ah_ : w2 (qa) = some (.inr (8, [.ref (qa + 1), .int (nI 0)])) := (cd1_0 _ (by omega)).trans ah
          have A0 := A0_
          have A1 := A1_
          have ah := ah_
          have Ao : isV cL w2 (ar + 8) (1) := Ao.kept (fun a h1 h2 => cd1_0 a (by omega))
          have Au : isV cL w2 (ar + 10) (o) := Au.kept (fun a h1 h2 => cd1_0 a (by omega))
          have Ap : isV cL w2 (ar + 12) (ep) := Ap.kept (fun a h1 h2 => cd1_0 a (by omega))
          have Ab : isV cL w2 (ar + 14) (eb) := Ab.kept (fun a h1 h2 => cd1_0 a (by omega))
          have av : isV cL w2 (qa + 1) (x) := av.kept (fun a h1 h2 => cd1_0 a (by omega))
          have Aq := hq9
          have Ar9 := hr9
          have Ad := hd9
          clear hq9 hr9 hd9
          refine W.eq (g2 := F0 m 63 ls []) rfl ?_
          have hq7 : x / o < 2 ^ 768 := Nat.lt_of_le_of_lt (Nat.div_le_self x o) hx7
          refine lv_aload_n (pc := 63) hx hb dAr_root_63 rfl (lv_at hl 1 rfl) ?_
          refine fw_get (pc := 64) (ci := 0) (v := .ref (ar + 14)) (C := RAr) (T := TAr) (N := 5) hx hb hW in_Ar hown hK.1 hw A0 rfl 4 (by decide) (hW _ lf_Ar_35) (fun _ h => h) rfl dAr_root_64 ?_
          refine lv_aload_n (pc := 67) hx hb dAr_root_67 rfl (lv_at hl 1 rfl) ?_
          refine fw_get (pc := 68) (ci := 0) (v := .ref (ar + 10)) (C := RAr) (T := TAr) (N := 5) hx hb hW in_Ar hown hK.1 hw A0 rfl 2 (by decide) (hW _ lf_Ar_29) (fun _ h => h) rfl dAr_root_68 ?_
          refine lv_aload_n (pc := 71) hx hb dAr_root_71 rfl (lv_at hl 1 rfl) ?_
          refine fw_get (pc := 72) (ci := 0) (v := .ref (ar + 1)) (C := RAr) (T := TAr) (N := 5) hx hb hW in_Ar hown hK.1 hw A0 rfl 0 (by decide) (hW _ lf_Ar_12) (fun _ h => h) rfl dAr_root_72 ?_
          refine fw_get (pc := 75) (ci := 3) (v := .ref (ar + 1 + 1)) (C := RDi) (T := TDi) (N := 3) hx hb hW in_Di hown hK.1 hw A1 rfl 0 (by decide) (hW _ lf_Ar_79) (fun _ h => h) rfl dAr_root_75 ?_
          obtain ⟨k11, o11⟩ := Ab.ob
          refine fw_cV (pc := 78) (As := [.ref (ar + 10), .ref (ar + 1 + 1)]) (rest := []) ⟨hx, hb, hml, hown, hW⟩ (c_Na_becomeSum (by omega) (by omega) Ab Au Aq (Nat.lt_trans ho7 p49) (Nat.lt_trans hq7 p49)) (cwV 2 hW (kw_V lm_Ar_51 im_Na_becomeSum se_Na_becomeSum ini_Na cd_Na_becomeSum) rfl rfl rfl (by decide +kernel) ⟨Nat.le_of_ble_eq_true rfl, Nat.le_of_ble_eq_true rfl⟩) hK hw o11 rfl rfl hl.1 rfl (Nat.le_of_ble_eq_true rfl) dAr_root_78 ⟨Nat.le_of_ble_eq_true rfl, Nat.le_of_ble_eq_true rfl⟩ (fun v w3 H locs hq hw => ?_)
          obtain ⟨rfl, hV9, co2_1⟩ := hq
          have A0_ : w3 (ar) = some (.inr (0, [.ref (ar + 1), .ref (ar + 8), .ref (ar + 10), .ref (ar + 12), .ref (ar + 14)])) := (co2_1 _ (by omega) (by omega)).trans A0
          have A1_ : w3 (ar + 1) = some (.inr (3, [.ref (ar + 1 + 1), .ref (ar + 1 + 3), .ref (ar + 1 + 5)])) := (co2_1 _ (by omega) (by omega)).trans A1
          have ah_ : w3 (qa) = some (.inr (8, [.ref (qa + 1), .int (nI 0)])) := (co2_1 _ (by omega) (by omega)).trans ah
          have A0 := A0_
          have A1 := A1_
          have ah := ah_
          have Aq : isV cL w3 (ar + 1 + 1) (x / o) := Aq.kept (fun a h1 h2 => co2_1 a (by omega) (by omega))
          have Ar9 : isV cL w3 (ar + 1 + 3) (x % o) := Ar9.kept (fun a h1 h2 => co2_1 a (by omega) (by omega))
          have Ad : isV cL w3 (ar + 1 + 5) (ed2) := Ad.kept (fun a h1 h2 => co2_1 a (by omega) (by omega))
          have Ao : isV cL w3 (ar + 8) (1) := Ao.kept (fun a h1 h2 => co2_1 a (by omega) (by omega))
          have Au : isV cL w3 (ar + 10) (o) := Au.kept (fun a h1 h2 => co2_1 a (by omega) (by omega))
          have Ap : isV cL w3 (ar + 12) (ep) := Ap.kept (fun a h1 h2 => co2_1 a (by omega) (by omega))
          have av : isV cL w3 (qa + 1) (x) := av.kept (fun a h1 h2 => co2_1 a (by omega) (by omega))
          have Ab := hV9
          refine W.eq (g2 := F0 m 81 ls []) rfl ?_
          refine lv_aload_n (pc := 81) hx hb dAr_root_81 rfl (lv_at hl 1 rfl) ?_
          refine fw_get (pc := 82) (ci := 0) (v := .ref (ar + 14)) (C := RAr) (T := TAr) (N := 5) hx hb hW in_Ar hown hK.1 hw A0 rfl 4 (by decide) (hW _ lf_Ar_35) (fun _ h => h) rfl dAr_root_82 ?_
          refine lv_iconst (pc := 85) (v := (nI 1)) hx hb dAr_root_85 (by decide) ?_
          obtain ⟨k12, o12⟩ := Ab.ob
          refine fw_cV (pc := 86) (As := [.int (nI 1)]) (rest := []) ⟨hx, hb, hml, hown, hW⟩ (c_Na_shiftRight (sh := 1) (by decide) Ab) (cwV 1 hW (kw_V lm_Ar_105 im_Na_shiftRight se_Na_shiftRight ini_Na cd_Na_shiftRight) rfl rfl rfl (by decide +kernel) ⟨Nat.le_of_ble_eq_true rfl, Nat.le_of_ble_eq_true rfl⟩) hK hw o12 rfl rfl hl.1 rfl (Nat.le_of_ble_eq_true rfl) dAr_root_86 ⟨Nat.le_of_ble_eq_true rfl, Nat.le_of_ble_eq_true rfl⟩ (fun v w4 H locs hq hw => ?_)
          obtain ⟨rfl, hV9, co3_2⟩ := hq
          have A0_ : w4 (ar) = some (.inr (0, [.ref (ar + 1), .ref (ar + 8), .ref (ar + 10), .ref (ar + 12), .ref (ar + 14)])) := (co3_2 _ (by omega) (by omega)).trans A0
          have A1_ : w4 (ar + 1) = some (.inr (3, [.ref (ar + 1 + 1), .ref (ar + 1 + 3), .ref (ar + 1 + 5)])) := (co3_2 _ (by omega) (by omega)).trans A1
          have ah_ : w4 (qa) = some (.inr (8, [.ref (qa + 1), .int (nI 0)])) := (co3_2 _ (by omega) (by omega)).trans ah
          have A0 := A0_
          have A1 := A1_
          have ah := ah_
          have Aq : isV cL w4 (ar + 1 + 1) (x / o) := Aq.kept (fun a h1 h2 => co3_2 a (by omega) (by omega))
          have Ar9 : isV cL w4 (ar + 1 + 3) (x % o) := Ar9.kept (fun a h1 h2 => co3_2 a (by omega) (by omega))
          have Ad : isV cL w4 (ar + 1 + 5) (ed2) := Ad.kept (fun a h1 h2 => co3_2 a (by omega) (by omega))
          have Ao : isV cL w4 (ar + 8) (1) := Ao.kept (fun a h1 h2 => co3_2 a (by omega) (by omega))
          have Au : isV cL w4 (ar + 10) (o) := Au.kept (fun a h1 h2 => co3_2 a (by omega) (by omega))
          have Ap : isV cL w4 (ar + 12) (ep) := Ap.kept (fun a h1 h2 => co3_2 a (by omega) (by omega))
          have av : isV cL w4 (qa + 1) (x) := av.kept (fun a h1 h2 => co3_2 a (by omega) (by omega))
          have Ab := hV9
          refine W.eq (g2 := F0 m 89 ls []) rfl ?_
          refine lv_aload_n (pc := 89) hx hb dAr_root_89 rfl (lv_at hl 1 rfl) ?_
          refine fw_get (pc := 90) (ci := 0) (v := .ref (ar + 14)) (C := RAr) (T := TAr) (N := 5) hx hb hW in_Ar hown hK.1 hw A0 rfl 4 (by decide) (hW _ lf_Ar_35) (fun _ h => h) rfl dAr_root_90 ?_
          refine lv_aload_n (pc := 93) hx hb dAr_root_93 rfl (lv_at hl 1 rfl) ?_
          refine fw_get (pc := 94) (ci := 0) (v := .ref (ar + 10)) (C := RAr) (T := TAr) (N := 5) hx hb hW in_Ar hown hK.1 hw A0 rfl 2 (by decide) (hW _ lf_Ar_29) (fun _ h => h) rfl dAr_root_94 ?_
          rw [Nat.pow_one] at Ab
          obtain ⟨k13, o13⟩ := Ab.ob
          refine fw_cVR (pc := 97) (As := [.ref (ar + 10)]) (rest := []) ⟨hx, hb, hml, hown, hW⟩ (c_Na_order Ab Au) (cwV 1 hW (kw_V lm_Ar_55 im_Na_order se_Na_order ini_Na cd_Na_order) rfl rfl rfl (by decide +kernel) ⟨Nat.le_of_ble_eq_true rfl, Nat.le_of_ble_eq_true rfl⟩) hK hw o13 rfl rfl hl.1 rfl (Nat.le_of_ble_eq_true rfl) dAr_root_97 ⟨Nat.le_of_ble_eq_true rfl, Nat.le_of_ble_eq_true rfl⟩ (fun v hq => ?_)
          subst hq
          refine W.eq (g2 := F0 m 100 ls [.int (ordI ((o + x / o) / 2) o)]) rfl ?_
          refine lv_if_lt (pc := 100) (tgt := 106) hx hb dAr_root_100 (by decide) (fun hc => ?_) (fun hc => ?_)
          · have hlt : (o + x / o) / 2 < o := Nat.lt_of_not_le (fun h9 => absurd ((ordI_ge0 _ _).mpr h9) (Int32.not_le.mpr hc))
            have hst := isq_step ho1 ho2 hlt
            refine lv_aload_n (pc := 106) hx hb dAr_root_106 rfl (lv_at hl 1 rfl) ?_
            refine fw_get (pc := 107) (ci := 0) (v := .ref (ar + 10)) (C := RAr) (T := TAr) (N := 5) hx hb hW in_Ar hown hK.1 hw A0 rfl 2 (by decide) (hW _ lf_Ar_29) (fun _ h => h) rfl dAr_root_107 ?_
            refine lv_aload_n (pc := 110) hx hb dAr_root_110 rfl (lv_at hl 1 rfl) ?_
            refine fw_get (pc := 111) (ci := 0) (v := .ref (ar + 14)) (C := RAr) (T := TAr) (N := 5) hx hb hW in_Ar hown hK.1 hw A0 rfl 4 (by decide) (hW _ lf_Ar_35) (fun _ h => h) rfl dAr_root_111 ?_
            obtain ⟨k14, o14⟩ := Au.ob
            refine fw_cV (pc := 114) (As := [.ref (ar + 14)]) (rest := []) ⟨hx, hb, hml, hown, hW⟩ (c_Na_become (by omega) Au Ab) (cwV 1 hW (kw_V lm_Ar_82 im_Na_become se_Na_become ini_Na cd_Na_become) rfl rfl rfl (by decide +kernel) ⟨Nat.le_of_ble_eq_true rfl, Nat.le_of_ble_eq_true rfl⟩) hK hw o14 rfl rfl hl.1 rfl (Nat.le_of_ble_eq_true rfl) dAr_root_114 ⟨Nat.le_of_ble_eq_true rfl, Nat.le_of_ble_eq_true rfl⟩ (fun v w5 H locs hq hw => ?_)
            obtain ⟨rfl, hV9, co4_3⟩ := hq
            have A0_ : w5 (ar) = some (.inr (0, [.ref (ar + 1), .ref (ar + 8), .ref (ar + 10), .ref (ar + 12), .ref (ar + 14)])) := (co4_3 _ (by omega) (by omega)).trans A0
            have A1_ : w5 (ar + 1) = some (.inr (3, [.ref (ar + 1 + 1), .ref (ar + 1 + 3), .ref (ar + 1 + 5)])) := (co4_3 _ (by omega) (by omega)).trans A1
            have ah_ : w5 (qa) = some (.inr (8, [.ref (qa + 1), .int (nI 0)])) := (co4_3 _ (by omega) (by omega)).trans ah
            have A0 := A0_
            have A1 := A1_
            have ah := ah_
            have Aq : isV cL w5 (ar + 1 + 1) (x / o) := Aq.kept (fun a h1 h2 => co4_3 a (by omega) (by omega))
            have Ar9 : isV cL w5 (ar + 1 + 3) (x % o) := Ar9.kept (fun a h1 h2 => co4_3 a (by omega) (by omega))
            have Ad : isV cL w5 (ar + 1 + 5) (ed2) := Ad.kept (fun a h1 h2 => co4_3 a (by omega) (by omega))
            have Ao : isV cL w5 (ar + 8) (1) := Ao.kept (fun a h1 h2 => co4_3 a (by omega) (by omega))
            have Ap : isV cL w5 (ar + 12) (ep) := Ap.kept (fun a h1 h2 => co4_3 a (by omega) (by omega))
            have Ab : isV cL w5 (ar + 14) ((o + x / o) / 2) := Ab.kept (fun a h1 h2 => co4_3 a (by omega) (by omega))
            have av : isV cL w5 (qa + 1) (x) := av.kept (fun a h1 h2 => co4_3 a (by omega) (by omega))
            have Au := hV9
            refine W.eq (g2 := F0 m 117 ls []) rfl ?_
            refine lv_iinc (pc := 117) (lv' := [(2, .int (nI (t + 1))), (0, .ref ar), (1, .ref qa)]) hx hb dAr_root_117 hl (k := 0) rfl ((nI_add t 1)) (by decide) rfl (fun ls hl => ?_)
            refine lv_goto (pc := 120) (tgt := 41) hx hb dAr_root_120 (by decide) ?_
            exact ih (t + 1) (by omega) _ hst.1 hst.2 (Nat.lt_trans hlt ho7) _ H locs ls hw (lv_sub hl [0, 1, 2] rfl) ⟨A0, A1, ⟨_, Aq⟩, ⟨_, Ar9⟩, ⟨_, Ad⟩, Ao, ⟨_, Au⟩, ⟨_, Ap⟩, ⟨_, Ab⟩⟩ Au (fun q h1 => by rw [co4_3 q (by omega) (by omega), co3_2 q (by omega) (by omega), co2_1 q (by omega) (by omega), cd1_0 q (by omega), hF q h1])
          · have hoe : o = isq x := isq_done ho1 ((ordI_ge0 _ _).mp (Int32.not_lt.mp hc))
            refine lv_goto (pc := 103) (tgt := 123) hx hb dAr_root_103 (by decide) ?_
            refine lv_aload_n (pc := 123) hx hb dAr_root_123 rfl (lv_at hl 1 rfl) ?_
            refine fw_get (pc := 124) (ci := 0) (v := .ref (ar + 10)) (C := RAr) (T := TAr) (N := 5) hx hb hW in_Ar hown hK.1 hw A0 rfl 2 (by decide) (hW _ lf_Ar_29) (fun _ h => h) rfl dAr_root_124 ?_
            refine lv_iconst (pc := 127) (v := (nI 0)) hx hb dAr_root_127 (by decide) ?_
            refine lv_aload_n (pc := 128) hx hb dAr_root_128 rfl (lv_at hl 2 rfl) ?_
            have haI := ha.kept (w' := w4) (fun q h1 h2 => by rw [co3_2 q (by omega) (by omega), co2_1 q (by omega) (by omega), cd1_0 q (by omega), hF q (by omega)])
            have hAI : arS cL w4 ar := ⟨A0, A1, ⟨_, Aq⟩, ⟨_, Ar9⟩, ⟨_, Ad⟩, Ao, ⟨_, Au⟩, ⟨_, Ap⟩, ⟨_, Ab⟩⟩
            refine fw_cS (pc := 129) (As := [.ref (ar + 10), .int (nI 0), .ref qa]) (rest := []) ⟨hx, hb, hml, hown, hW⟩ (c_Ar_store (neg := 0) (by decide) Au haI (by omega)) (va_cwS 3 hW (kw_S lm_Ar_62 sta_Ar_store ini_Ar cd_Ar_store) rfl rfl rfl (by decide +kernel) ⟨Nat.le_of_ble_eq_true rfl, Nat.le_of_ble_eq_true rfl⟩) hK hw rfl hl.1 rfl (Nat.le_of_ble_eq_true rfl) dAr_root_129 ⟨Nat.le_of_ble_eq_true rfl, Nat.le_of_ble_eq_true rfl⟩ (fun v w5 H locs hq hw => ?_)
            obtain ⟨rfl, hI, fs9⟩ := hq
            refine W.eq (g2 := F0 m 132 ls [.int (nI (if o < 2 ^ 768 then 0 else 6))]) rfl ?_
            have hA9 := hAI.kept (fun q h1 h2 => fs9 q (by omega))
            have hF9 : ∀ q, q < ar ∨ ar + 16 ≤ q → q < qa ∨ qa + 3 ≤ q → w5 q = w q := fun q h1 h2 => by rw [fs9 q (by omega), co3_2 q (by omega) (by omega), co2_1 q (by omega) (by omega), cd1_0 q (by omega), hF q (by omega)]
            rw [if_pos ho7] at hI
            exact fw_iret (pc := 132) hx hb hr hlocks hw dAr_root_132 ⟨by rw [if_pos ho7, hs9], by rw [hs9, ← hoe]; exact hI, hA9, hF9⟩
      refine lv_aload_n (pc := 21) hx hb dAr_root_21 rfl (lv_at hl 0 rfl) ?_
      refine fw_get (pc := 22) (ci := 0) (v := .ref (ar + 10)) (C := RAr) (T := TAr) (N := 5) hx hb hW in_Ar hown hK.1 hw A0 rfl 2 (by decide) (hW _ lf_Ar_29) (fun _ h => h) rfl dAr_root_22 ?_
      refine lv_aload_n (pc := 25) hx hb dAr_root_25 rfl (lv_at hl 1 rfl) ?_
      refine fw_get (pc := 26) (ci := 8) (v := .ref (qa + 1)) (C := RWh) (T := TWh) (N := 2) hx hb hW in_Wh hown hK.1 hw ah rfl 0 (by decide) (hW _ lf_Ar_38) (fun _ h => h) rfl dAr_root_26 ?_
      obtain ⟨k15, o15⟩ := av.ob
      refine fw_cVR (pc := 29) (As := []) (rest := [.ref (ar + 10)]) ⟨hx, hb, hml, hown, hW⟩ (c_Na_bits av) (cwV 0 hW (kw_V lm_Ar_90 im_Na_bits se_Na_bits ini_Na cd_Na_bits) rfl rfl rfl (by decide +kernel) ⟨Nat.le_of_ble_eq_true rfl, Nat.le_of_ble_eq_true rfl⟩) hK hw o15 rfl rfl hl.1 rfl (Nat.le_of_ble_eq_true rfl) dAr_root_29 ⟨Nat.le_of_ble_eq_true rfl, Nat.le_of_ble_eq_true rfl⟩ (fun v hq => ?_)
      have hbl := bt_ub hx7
      subst hq
      refine W.eq (g2 := F0 m 32 ls [.int (nI (bl x)), .ref (ar + 10)]) rfl ?_
      refine lv_iconst (pc := 32) (v := (nI 1)) hx hb dAr_root_32 (by decide) ?_
      refine lv_iadd (pc := 33) hx hb dAr_root_33 ?_
      rw [show ((nI (bl x) + (nI 1)) : Int32) = nI (bl x + 1) from (nI_add _ 1)]
      refine lv_iconst (pc := 34) (v := (nI 2)) hx hb dAr_root_34 (by decide) ?_
      refine lv_idiv (pc := 35) hx hb dAr_root_35 (by decide) ?_
      rw [show ((nI (bl x + 1) / (nI 2)) : Int32) = nI ((bl x + 1) / 2) from (pk_div (by omega) (by decide) (by decide))]
      have hst := isq_start (bt_lt x)
      obtain ⟨ex, hex⟩ : ∃ ex, ex = (bl x + 1) / 2 := ⟨_, rfl⟩
      rw [show (nI ((bl x + 1) / 2) : Int32) = nI ex from (by rw [hex])]
      rw [← hex] at hst
      have hp4 : 2 ^ ex ≤ 2 ^ 384 := Nat.pow_le_pow_right (by decide) (by omega)
      obtain ⟨k16, o16⟩ := Au.ob
      refine fw_cV (pc := 36) (As := [.int (nI ex)]) (rest := []) ⟨hx, hb, hml, hown, hW⟩ (c_Na_becomePowerOfTwo (ex := ex) (by omega) Au) (cwV 1 hW (kw_V lm_Ar_101 im_Na_becomePowerOfTwo se_Na_becomePowerOfTwo ini_Na cd_Na_becomePowerOfTwo) rfl rfl rfl (by decide +kernel) ⟨Nat.le_of_ble_eq_true rfl, Nat.le_of_ble_eq_true rfl⟩) hK hw o16 rfl rfl hl.1 rfl (Nat.le_of_ble_eq_true rfl) dAr_root_36 ⟨Nat.le_of_ble_eq_true rfl, Nat.le_of_ble_eq_true rfl⟩ (fun v w30 H locs hq hw => ?_)
      obtain ⟨rfl, hV9, co29_0⟩ := hq
      have A0_ : w30 (ar) = some (.inr (0, [.ref (ar + 1), .ref (ar + 8), .ref (ar + 10), .ref (ar + 12), .ref (ar + 14)])) := (co29_0 _ (by omega) (by omega)).trans A0
      have A1_ : w30 (ar + 1) = some (.inr (3, [.ref (ar + 1 + 1), .ref (ar + 1 + 3), .ref (ar + 1 + 5)])) := (co29_0 _ (by omega) (by omega)).trans A1
      have ah_ : w30 (qa) = some (.inr (8, [.ref (qa + 1), .int (nI 0)])) := (co29_0 _ (by omega) (by omega)).trans ah
      have A0 := A0_
      have A1 := A1_
      have ah := ah_
      have Aq : isV cL w30 (ar + 1 + 1) (e_q) := Aq.kept (fun a h1 h2 => co29_0 a (by omega) (by omega))
      have Ar9 : isV cL w30 (ar + 1 + 3) (er) := Ar9.kept (fun a h1 h2 => co29_0 a (by omega) (by omega))
      have Ad : isV cL w30 (ar + 1 + 5) (ed) := Ad.kept (fun a h1 h2 => co29_0 a (by omega) (by omega))
      have Ao : isV cL w30 (ar + 8) (1) := Ao.kept (fun a h1 h2 => co29_0 a (by omega) (by omega))
      have Ap : isV cL w30 (ar + 12) (ep) := Ap.kept (fun a h1 h2 => co29_0 a (by omega) (by omega))
      have Ab : isV cL w30 (ar + 14) (eb) := Ab.kept (fun a h1 h2 => co29_0 a (by omega) (by omega))
      have av : isV cL w30 (qa + 1) (x) := av.kept (fun a h1 h2 => co29_0 a (by omega) (by omega))
      have Au := hV9
      refine W.eq (g2 := F0 m 39 ls []) rfl ?_
      refine lv_iconst (pc := 39) (v := (nI 0)) hx hb dAr_root_39 (by decide) ?_
      refine lv_istore_n (pc := 40) (lv' := [(2, .int (nI 0)), (0, .ref ar), (1, .ref qa)]) hx hb dAr_root_40 rfl hl (by decide) rfl (fun ls hl => ?_)
      exact loop 1000 0 (by decide) (2 ^ ex) (Nat.le_of_lt hst) (by rw [Nat.pow_zero, Nat.mul_one]; exact Nat.lt_of_le_of_lt (Nat.sub_le _ _) (Nat.lt_of_le_of_lt hp4 (by decide +kernel))) (Nat.lt_of_le_of_lt hp4 (by decide +kernel)) _ H locs ls hw (lv_sub hl [0, 1, 2] rfl) ⟨A0, A1, ⟨_, Aq⟩, ⟨_, Ar9⟩, ⟨_, Ad⟩, Ao, ⟨_, Au⟩, ⟨_, Ap⟩, ⟨_, Ab⟩⟩ Au (fun q h1 => by rw [co29_0 q (by omega) (by omega)])
  · refine lv_aload_n (pc := 0) hx hb dAr_root_0 rfl (lv_at hl 1 rfl) ?_
    refine fw_get (pc := 1) (ci := 8) (v := .int (nI 1)) (C := RWh) (T := TWh) (N := 2) hx hb hW in_Wh hown hK.1 hw ah rfl 1 (by decide) (hW _ lf_Ar_43) (fun _ h => h) rfl dAr_root_1 ?_
    refine lv_if_eq (pc := 4) (tgt := 9) hx hb dAr_root_4 (by decide) (fun hc => absurd hc (show ¬ nI 1 = 0 by decide)) (fun _ => ?_)
    refine lv_iconst (pc := 7) (v := (nI 4)) hx hb dAr_root_7 (by decide) ?_
    have hs9 : sRoot a = (4, a) := if_pos (by rw [← ae, wv_1]; have := ap rfl; omega)
    exact fw_iret (pc := 8) hx hb hr hlocks hw dAr_root_8 ⟨by rw [hs9], by rw [hs9]; exact ha, hA, fun q _ _ => rfl⟩
end AR3b
