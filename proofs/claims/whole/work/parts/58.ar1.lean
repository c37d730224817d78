theorem isV.ob {cL : ClassId} {w : fw_W} {n v : Nat} (h : isV cL w n v) : ∃ k : Nat, w n = some (.inr (5, [.ref (n + 1), .int (nI k)])) := by
  obtain ⟨g, k, ⟨a, _⟩, _⟩ := h; exact ⟨k, a⟩
theorem tg_iff {g : Nat → Nat} {k x : Nat} (hk : nk nB g k) (hv : nv nB g k = x) : 24 < k ↔ ¬ x < 2 ^ 768 := by
  have e : 2 ^ 768 = nB ^ 24 := by decide +kernel
  rw [e, ← hv]
  constructor
  · intro h h2
    exact absurd (nk_size hk h2) (by omega)
  · intro h
    apply Classical.byContradiction; intro h2
    have h3 := nv_lt hk.1
    have h4 : nB ^ k ≤ nB ^ 24 := Nat.pow_le_pow_right (by decide) (by omega)
    exact h (Nat.lt_of_lt_of_le h3 h4)
theorem wv_abs (sg x : Nat) : (wv sg x).natAbs = x := by
  unfold wv; split <;> omega
/-- the outcome, or that it is too great -/
def sFit (r a : Int) : Nat × Int := if r.natAbs < 2 ^ 768 then (0, r) else (6, a)
theorem sFit_1 (r a : Int) : (sFit r a).1 = if r.natAbs < 2 ^ 768 then 0 else 6 := by unfold sFit; split <;> rfl
theorem sFit_2 (r a : Int) : (sFit r a).2 = if r.natAbs < 2 ^ 768 then r else a := by unfold sFit; split <;> rfl
/-- an Arithmetic at ar -/
def arS (cL : ClassId) (w : fw_W) (ar : Nat) : Prop := w ar = some (.inr (0, [.ref (ar + 1), .ref (ar + 8), .ref (ar + 10), .ref (ar + 12), .ref (ar + 14)])) ∧ w (ar + 1) = some (.inr (3, [.ref (ar + 1 + 1), .ref (ar + 1 + 3), .ref (ar + 1 + 5)])) ∧ (∃ e, isV cL w (ar + 1 + 1) e) ∧ (∃ e, isV cL w (ar + 1 + 3) e) ∧ (∃ e, isV cL w (ar + 1 + 5) e) ∧ isV cL w (ar + 8) 1 ∧ (∃ e, isV cL w (ar + 10) e) ∧ (∃ e, isV cL w (ar + 12) e) ∧ (∃ e, isV cL w (ar + 14) e)
theorem arS.kept {cL : ClassId} {w w' : fw_W} {ar : Nat} (h : arS cL w ar) (hk : ∀ a, ar ≤ a → a < ar + 16 → w' a = w a) : arS cL w' ar := by
  obtain ⟨h0, h1, ⟨e2, h2⟩, ⟨e3, h3⟩, ⟨e4, h4⟩, h5, ⟨e6, h6⟩, ⟨e7, h7⟩, ⟨e8, h8⟩⟩ := h
  exact ⟨(hk _ (by omega) (by omega)).trans h0, (hk _ (by omega) (by omega)).trans h1, ⟨e2, h2.kept (fun a x y => hk a (by omega) (by omega))⟩, ⟨e3, h3.kept (fun a x y => hk a (by omega) (by omega))⟩, ⟨e4, h4.kept (fun a x y => hk a (by omega) (by omega))⟩, h5.kept (fun a x y => hk a (by omega) (by omega)), ⟨e6, h6.kept (fun a x y => hk a (by omega) (by omega))⟩, ⟨e7, h7.kept (fun a x y => hk a (by omega) (by omega))⟩, ⟨e8, h8.kept (fun a x y => hk a (by omega) (by omega))⟩⟩
/-! BigCalculator.Arithmetic. Written by wip/gen/arith1.py. -/
section AR1
variable {l : Launch} {D : va_G} {cI cL cQ : ClassId} {z : kZ_T} {sz : Nat} {w : fw_W}
set_option maxHeartbeats 4000000 in
set_option maxRecDepth 100000 in
theorem c_Ar_store {nm x tq neg : Nat} {old : Int} (hneg : neg < 2) (hm : isV cL w nm x) (ht : isI cL w tq old) (hap : nm + 1 < tq ∨ tq + 2 < nm) : fw_C l yAr_store (Cond.code yAr_store cAr_store 3 (some FieldType.int) :: kWs) ({ frames := 2, cells := 0, slots := 0, locals := 39 } : Room) D kCl (kty cI cL cQ) z [.ref nm, .int (nI neg), .ref tq] (sz) w 0 0 (fun v w' => v = some (.int (nI (if x < 2 ^ 768 then 0 else 6))) ∧ isI cL w' tq (if x < 2 ^ 768 then wv neg x else old) ∧ ∀ q, q < tq ∨ tq + 3 ≤ q → w' q = w q) := by
  refine fw_ofW (cc := cAr_store) (maxL := 3) (ret := (some FieldType.int)) (by decide) rfl (Nat.le_of_ble_eq_true rfl) ?_
  intro p e s m args below meth c hx hb hr hts hown hlocks hname hml hK H ls hw hl
  have hW : ∀ w ∈ kWs, w.before args s = true := fun w h => hts w (List.mem_cons_of_mem _ h)
  have hown : s.vm.findClass RAr = some m.cls := hown
  have hl : lv_has ls 3 [(0, .ref nm), (1, .int (nI neg)), (2, .ref tq)] := hl
  obtain ⟨g, k, ⟨o0, o1⟩, ok, og, on, ov⟩ := id hm
  obtain ⟨sg, y, ts, tp, th, tv, te⟩ := id ht
  have hkx := tg_iff on ov
  have hkz := nk_zero on ov
  refine lv_aload_n (pc := 0) hx hb dAr_store_0 rfl (lv_at hl 0 rfl) ?_
  by_cases hk : 24 < k
  · refine fw_cVR (pc := 1) (As := []) (rest := []) ⟨hx, hb, hml, hown, hW⟩ (c_Na_isTooGreat (by omega) o0) (cwV 0 hW (kw_V lm_Ar_94 im_Na_isTooGreat se_Na_isTooGreat ini_Na cd_Na_isTooGreat) rfl rfl rfl (by decide +kernel) ⟨Nat.le_of_ble_eq_true rfl, Nat.le_of_ble_eq_true rfl⟩) hK hw o0 rfl rfl hl.1 rfl (Nat.le_of_ble_eq_true rfl) dAr_store_1 ⟨Nat.le_of_ble_eq_true rfl, Nat.le_of_ble_eq_true rfl⟩ (fun v hq => ?_)
    rw [if_pos hk] at hq
    subst hq
    refine W.eq (g2 := F0 m 4 ls [.int (nI 1)]) rfl ?_
    refine lv_if_eq (pc := 4) (tgt := 10) hx hb dAr_store_4 (by decide) (fun hc => absurd hc (show ¬ nI 1 = 0 by decide)) (fun _ => ?_)
    refine lv_bipush (pc := 7) (v := (nI 6)) hx hb dAr_store_7 (by decide) ?_
    exact fw_iret (pc := 9) hx hb hr hlocks hw dAr_store_9 ⟨by rw [if_neg (hkx.mp hk)], by rw [if_neg (hkx.mp hk)]; exact ht, fun q _ => rfl⟩
  · refine fw_cVR (pc := 1) (As := []) (rest := []) ⟨hx, hb, hml, hown, hW⟩ (c_Na_isTooGreat (by omega) o0) (cwV 0 hW (kw_V lm_Ar_94 im_Na_isTooGreat se_Na_isTooGreat ini_Na cd_Na_isTooGreat) rfl rfl rfl (by decide +kernel) ⟨Nat.le_of_ble_eq_true rfl, Nat.le_of_ble_eq_true rfl⟩) hK hw o0 rfl rfl hl.1 rfl (Nat.le_of_ble_eq_true rfl) dAr_store_1 ⟨Nat.le_of_ble_eq_true rfl, Nat.le_of_ble_eq_true rfl⟩ (fun v hq => ?_)
    rw [if_neg hk] at hq
    subst hq
    refine W.eq (g2 := F0 m 4 ls [.int (nI 0)]) rfl ?_
    refine lv_if_eq (pc := 4) (tgt := 10) hx hb dAr_store_4 (by decide) (fun _ => ?_) (fun hc => absurd (show nI 0 = 0 by decide) hc)
    have hx7 : x < 2 ^ 768 := Classical.byContradiction fun h9 => hk (hkx.mpr h9)
    obtain ⟨k9, o9⟩ := tv.ob
    refine lv_aload_n (pc := 10) hx hb dAr_store_10 rfl (lv_at hl 2 rfl) ?_
    refine fw_get (pc := 11) (ci := 8) (v := .ref (tq + 1)) (C := RWh) (T := TWh) (N := 2) hx hb hW in_Wh hown hK.1 hw th rfl 0 (by decide) (hW _ lf_Ar_38) (fun _ h => h) rfl dAr_store_11 ?_
    refine lv_aload_n (pc := 14) hx hb dAr_store_14 rfl (lv_at hl 0 rfl) ?_
    refine fw_cV (pc := 15) (As := [.ref nm]) (rest := []) ⟨hx, hb, hml, hown, hW⟩ (c_Na_become (by omega) tv hm) (cwV 1 hW (kw_V lm_Ar_82 im_Na_become se_Na_become ini_Na cd_Na_become) rfl rfl rfl (by decide +kernel) ⟨Nat.le_of_ble_eq_true rfl, Nat.le_of_ble_eq_true rfl⟩) hK hw o9 rfl rfl hl.1 rfl (Nat.le_of_ble_eq_true rfl) dAr_store_15 ⟨Nat.le_of_ble_eq_true rfl, Nat.le_of_ble_eq_true rfl⟩ (fun v w1 H locs hq hw => ?_)
    obtain ⟨rfl, hV, co⟩ := hq
    have o0_ : w1 (nm) = some (.inr (5, [.ref (nm + 1), .int (nI k)])) := (co _ (by omega) (by omega)).trans o0
    have th_ : w1 (tq) = some (.inr (8, [.ref (tq + 1), .int (nI sg)])) := (co _ (by omega) (by omega)).trans th
    have o0 := o0_
    have th := th_
    refine W.eq (g2 := F0 m 18 ls []) rfl ?_
    rcases (show neg = 0 ∨ neg = 1 by omega) with rfl | rfl
    · refine lv_aload_n (pc := 18) hx hb dAr_store_18 rfl (lv_at hl 2 rfl) ?_
      refine lv_iload_n (pc := 19) hx hb dAr_store_19 rfl (lv_at hl 1 rfl) ?_
      refine lv_if_eq (pc := 20) (tgt := 34) hx hb dAr_store_20 (by decide) (fun _ => ?_) (fun hc => absurd (show nI 0 = 0 by decide) hc)
      refine lv_iconst (pc := 34) (v := (nI 0)) hx hb dAr_store_34 (by decide) ?_
      refine fw_put (pc := 35) (ci := 8) (v := .int (nI 0)) (ty := .boolean) (C := RWh) (T := TWh) (N := 2) hx hb hW in_Wh tyWh tyWh_ok nmWh hown hK.1 hw th rfl 1 (by decide) (hW _ lf_Ar_43) (fun _ h => h) rfl (by decide +kernel) rfl rfl (Nat.le_of_ble_eq_true rfl) dAr_store_35 (fun H locs hw => ?_)
      obtain ⟨w2, e2⟩ : ∃ w_, w_ = fw_up w1 (tq) (.inr (8, [.ref (tq + 1), .int (nI 0)])) := ⟨_, rfl⟩
      have hw : fw_H D kCl (fw_A w (sz)) s.heap w2 (sz) H locs := by rw [e2]; exact hw
      have o0_ : w2 (nm) = some (.inr (5, [.ref (nm + 1), .int (nI k)])) := by rw [e2, fw_un (by omega)]; exact o0
      have th_ : w2 (tq) = some (.inr (8, [.ref (tq + 1), .int (nI 0)])) := by rw [e2]; exact fw_us _ _ _
      have o0 := o0_
      have th := th_
      refine lv_iconst (pc := 38) (v := (nI 0)) hx hb dAr_store_38 (by decide) ?_
      exact fw_iret (pc := 39) hx hb hr hlocks hw dAr_store_39 ⟨by rw [if_pos hx7], by rw [if_pos hx7]; exact ⟨0, x, by decide, fun h9 => absurd h9 (by decide), th, hV.kept (fun a h1 h2 => by rw [e2, fw_un (by omega)]), rfl⟩, fun q h9 => by rw [e2, fw_un (by omega), co q (by omega) (by omega)]⟩
    · refine lv_aload_n (pc := 18) hx hb dAr_store_18 rfl (lv_at hl 2 rfl) ?_
      refine lv_iload_n (pc := 19) hx hb dAr_store_19 rfl (lv_at hl 1 rfl) ?_
      refine lv_if_eq (pc := 20) (tgt := 34) hx hb dAr_store_20 (by decide) (fun hc => absurd hc (show ¬ nI 1 = 0 by decide)) (fun _ => ?_)
      refine lv_aload_n (pc := 23) hx hb dAr_store_23 rfl (lv_at hl 0 rfl) ?_
      by_cases hk0 : k = 0
      · refine fw_cVR (pc := 24) (As := []) (rest := [.ref tq]) ⟨hx, hb, hml, hown, hW⟩ (c_Na_isZero (by omega) o0) (cwV 0 hW (kw_V lm_Ar_69 im_Na_isZero se_Na_isZero ini_Na cd_Na_isZero) rfl rfl rfl (by decide +kernel) ⟨Nat.le_of_ble_eq_true rfl, Nat.le_of_ble_eq_true rfl⟩) hK hw o0 rfl rfl hl.1 rfl (Nat.le_of_ble_eq_true rfl) dAr_store_24 ⟨Nat.le_of_ble_eq_true rfl, Nat.le_of_ble_eq_true rfl⟩ (fun v hq => ?_)
        rw [if_pos hk0] at hq
        subst hq
        refine W.eq (g2 := F0 m 27 ls [.int (nI 1), .ref tq]) rfl ?_
        refine lv_if_ne (pc := 27) (tgt := 34) hx hb dAr_store_27 (by decide) (fun _ => ?_) (fun hc => absurd hc (show ¬ nI 1 = 0 by decide))
        refine lv_iconst (pc := 34) (v := (nI 0)) hx hb dAr_store_34 (by decide) ?_
        refine fw_put (pc := 35) (ci := 8) (v := .int (nI 0)) (ty := .boolean) (C := RWh) (T := TWh) (N := 2) hx hb hW in_Wh tyWh tyWh_ok nmWh hown hK.1 hw th rfl 1 (by decide) (hW _ lf_Ar_43) (fun _ h => h) rfl (by decide +kernel) rfl rfl (Nat.le_of_ble_eq_true rfl) dAr_store_35 (fun H locs hw => ?_)
        obtain ⟨w2, e2⟩ : ∃ w_, w_ = fw_up w1 (tq) (.inr (8, [.ref (tq + 1), .int (nI 0)])) := ⟨_, rfl⟩
        have hw : fw_H D kCl (fw_A w (sz)) s.heap w2 (sz) H locs := by rw [e2]; exact hw
        have o0_ : w2 (nm) = some (.inr (5, [.ref (nm + 1), .int (nI k)])) := by rw [e2, fw_un (by omega)]; exact o0
        have th_ : w2 (tq) = some (.inr (8, [.ref (tq + 1), .int (nI 0)])) := by rw [e2]; exact fw_us _ _ _
        have o0 := o0_
        have th := th_
        refine lv_iconst (pc := 38) (v := (nI 0)) hx hb dAr_store_38 (by decide) ?_
        exact fw_iret (pc := 39) hx hb hr hlocks hw dAr_store_39 ⟨by rw [if_pos hx7], by rw [if_pos hx7]; exact ⟨0, x, by decide, fun h9 => absurd h9 (by decide), th, hV.kept (fun a h1 h2 => by rw [e2, fw_un (by omega)]), by rw [hkz.mp hk0]; rfl⟩, fun q h9 => by rw [e2, fw_un (by omega), co q (by omega) (by omega)]⟩
      · refine fw_cVR (pc := 24) (As := []) (rest := [.ref tq]) ⟨hx, hb, hml, hown, hW⟩ (c_Na_isZero (by omega) o0) (cwV 0 hW (kw_V lm_Ar_69 im_Na_isZero se_Na_isZero ini_Na cd_Na_isZero) rfl rfl rfl (by decide +kernel) ⟨Nat.le_of_ble_eq_true rfl, Nat.le_of_ble_eq_true rfl⟩) hK hw o0 rfl rfl hl.1 rfl (Nat.le_of_ble_eq_true rfl) dAr_store_24 ⟨Nat.le_of_ble_eq_true rfl, Nat.le_of_ble_eq_true rfl⟩ (fun v hq => ?_)
        rw [if_neg hk0] at hq
        subst hq
        refine W.eq (g2 := F0 m 27 ls [.int (nI 0), .ref tq]) rfl ?_
        refine lv_if_ne (pc := 27) (tgt := 34) hx hb dAr_store_27 (by decide) (fun hc => absurd hc (fun h => h (by decide))) (fun _ => ?_)
        refine lv_iconst (pc := 30) (v := (nI 1)) hx hb dAr_store_30 (by decide) ?_
        refine lv_goto (pc := 31) (tgt := 35) hx hb dAr_store_31 (by decide) ?_
        refine fw_put (pc := 35) (ci := 8) (v := .int (nI 1)) (ty := .boolean) (C := RWh) (T := TWh) (N := 2) hx hb hW in_Wh tyWh tyWh_ok nmWh hown hK.1 hw th rfl 1 (by decide) (hW _ lf_Ar_43) (fun _ h => h) rfl (by decide +kernel) rfl rfl (Nat.le_of_ble_eq_true rfl) dAr_store_35 (fun H locs hw => ?_)
        obtain ⟨w2, e2⟩ : ∃ w_, w_ = fw_up w1 (tq) (.inr (8, [.ref (tq + 1), .int (nI 1)])) := ⟨_, rfl⟩
        have hw : fw_H D kCl (fw_A w (sz)) s.heap w2 (sz) H locs := by rw [e2]; exact hw
        have o0_ : w2 (nm) = some (.inr (5, [.ref (nm + 1), .int (nI k)])) := by rw [e2, fw_un (by omega)]; exact o0
        have th_ : w2 (tq) = some (.inr (8, [.ref (tq + 1), .int (nI 1)])) := by rw [e2]; exact fw_us _ _ _
        have o0 := o0_
        have th := th_
        refine lv_iconst (pc := 38) (v := (nI 0)) hx hb dAr_store_38 (by decide) ?_
        exact fw_iret (pc := 39) hx hb hr hlocks hw dAr_store_39 ⟨by rw [if_pos hx7], by rw [if_pos hx7]; exact ⟨1, x, by decide, fun _ => Nat.pos_of_ne_zero (fun h9 => hk0 (hkz.mpr h9)), th, hV.kept (fun a h1 h2 => by rw [e2, fw_un (by omega)]), rfl⟩, fun q h9 => by rw [e2, fw_un (by omega), co q (by omega) (by omega)]⟩

set_option maxHeartbeats 4000000 in
set_option maxRecDepth 100000 in
theorem c_Ar_addSigned {ar qa nb y sg2 : Nat} {a : Int} (hs2 : sg2 < 2) (hA : arS cL w ar) (ha : isI cL w qa a) (bv : isV cL w nb y) (hpa : qa + 2 < ar ∨ ar + 15 < qa) (hpb : nb + 1 < ar ∨ ar + 15 < nb) (hab : qa + 2 < nb ∨ nb + 1 < qa) (ha7 : a.natAbs < 2 ^ 768) (hy7 : y < 2 ^ 768) : fw_C l yAr_addSigned (Cond.code yAr_addSigned cAr_addSigned 5 (some FieldType.int) :: kWs) ({ frames := 3, cells := 0, slots := 0, locals := 61 } : Room) D kCl (kty cI cL cQ) z [.ref ar, .ref qa, .ref nb, .int (nI sg2)] (sz) w 0 0 (fun v w' => v = some (.int (nI (sFit (a + wv sg2 y) a).1)) ∧ isI cL w' qa (sFit (a + wv sg2 y) a).2 ∧ arS cL w' ar ∧ ∀ q, q < ar ∨ ar + 16 ≤ q → q < qa ∨ qa + 3 ≤ q → w' q = w q) := by
  refine fw_ofW (cc := cAr_addSigned) (maxL := 5) (ret := (some FieldType.int)) (by decide) rfl (Nat.le_of_ble_eq_true rfl) ?_
  intro p e s m args below meth c hx hb hr hts hown hlocks hname hml hK H ls hw hl
  have hW : ∀ w ∈ kWs, w.before args s = true := fun w h => hts w (List.mem_cons_of_mem _ h)
  have hown : s.vm.findClass RAr = some m.cls := hown
  have hl : lv_has ls 5 [(0, .ref ar), (1, .ref qa), (2, .ref nb), (3, .int (nI sg2))] := hl
  obtain ⟨A0, A1, ⟨e_q, Aq⟩, ⟨er, Ar9⟩, ⟨ed, Ad⟩, Ao, ⟨eo, Au⟩, ⟨ep, Ap⟩, ⟨eb, Ab⟩⟩ := id hA
  obtain ⟨sg, x, as, ap, ah, av, ae⟩ := id ha
  have hx7 : x < 2 ^ 768 := by rw [← wv_abs sg x, ae]; exact ha7
  have p49 : 2 ^ 768 < nB ^ 49 := by decide +kernel
  rcases (show sg = 0 ∨ sg = 1 by omega) with rfl | rfl
  · rcases (show sg2 = 0 ∨ sg2 = 1 by omega) with rfl | rfl
    · refine lv_aload_n (pc := 0) hx hb dAr_addSigned_0 rfl (lv_at hl 1 rfl) ?_
      refine fw_get (pc := 1) (ci := 8) (v := .int (nI 0)) (C := RWh) (T := TWh) (N := 2) hx hb hW in_Wh hown hK.1 hw ah rfl 1 (by decide) (hW _ lf_Ar_43) (fun _ h => h) rfl dAr_addSigned_1 ?_
      refine lv_istore (pc := 4) (lv' := [(4, .int (nI 0)), (0, .ref ar), (1, .ref qa), (2, .ref nb), (3, .int (nI 0))]) hx hb dAr_addSigned_4 hl (by decide) rfl (fun ls hl => ?_)
      refine lv_aload_n (pc := 6) hx hb dAr_addSigned_6 rfl (lv_at hl 2 rfl) ?_
      refine fw_get (pc := 7) (ci := 8) (v := .int (nI 0)) (C := RWh) (T := TWh) (N := 2) hx hb hW in_Wh hown hK.1 hw ah rfl 1 (by decide) (hW _ lf_Ar_43) (fun _ h => h) rfl dAr_addSigned_7 ?_
      refine lv_iload_n (pc := 10) hx hb dAr_addSigned_10 rfl (lv_at hl 4 rfl) ?_
      refine lv_icmp_ne (pc := 11) (tgt := 29) hx hb dAr_addSigned_11 (by decide) (fun hc => absurd hc (fun h => h rfl)) (fun _ => ?_)
      refine lv_aload_n (pc := 14) hx hb dAr_addSigned_14 rfl (lv_at hl 1 rfl) ?_
      refine fw_get (pc := 15) (ci := 0) (v := .ref (ar + 10)) (C := RAr) (T := TAr) (N := 5) hx hb hW in_Ar hown hK.1 hw A0 rfl 2 (by decide) (hW _ lf_Ar_29) (fun _ h => h) rfl dAr_addSigned_15 ?_
      refine lv_aload_n (pc := 18) hx hb dAr_addSigned_18 rfl (lv_at hl 2 rfl) ?_
      refine fw_get (pc := 19) (ci := 8) (v := .ref (qa + 1)) (C := RWh) (T := TWh) (N := 2) hx hb hW in_Wh hown hK.1 hw ah rfl 0 (by decide) (hW _ lf_Ar_38) (fun _ h => h) rfl dAr_addSigned_19 ?_
      refine lv_aload_n (pc := 22) hx hb dAr_addSigned_22 rfl (lv_at hl 3 rfl) ?_
      obtain ⟨k1, o1⟩ := Au.ob
      refine fw_cV (pc := 23) (As := [.ref (qa + 1), .ref nb]) (rest := []) ⟨hx, hb, hml, hown, hW⟩ (c_Na_becomeSum (by omega) (by omega) Au av bv (Nat.lt_trans hx7 p49) (Nat.lt_trans hy7 p49)) (cwV 2 hW (kw_V lm_Ar_51 im_Na_becomeSum se_Na_becomeSum ini_Na cd_Na_becomeSum) rfl rfl rfl (by decide +kernel) ⟨Nat.le_of_ble_eq_true rfl, Nat.le_of_ble_eq_true rfl⟩) hK hw o1 rfl rfl hl.1 rfl (Nat.le_of_ble_eq_true rfl) dAr_addSigned_23 ⟨Nat.le_of_ble_eq_true rfl, Nat.le_of_ble_eq_true rfl⟩ (fun v w1 H locs hq hw => ?_)
      obtain ⟨rfl, hV9, co0_0⟩ := hq
      have A0_ : w1 (ar) = some (.inr (0, [.ref (ar + 1), .ref (ar + 8), .ref (ar + 10), .ref (ar + 12), .ref (ar + 14)])) := (co0_0 _ (by omega) (by omega)).trans A0
      have A1_ : w1 (ar + 1) = some (.inr (3, [.ref (ar + 1 + 1), .ref (ar + 1 + 3), .ref (ar + 1 + 5)])) := (co0_0 _ (by omega) (by omega)).trans A1
      have ah_ : w1 (qa) = some (.inr (8, [.ref (qa + 1), .int (nI 0)])) := (co0_0 _ (by omega) (by omega)).trans ah
      have A0 := A0_
      have A1 := A1_
      have ah := ah_
      have Aq : isV cL w1 (ar + 1 + 1) (e_q) := Aq.kept (fun a h1 h2 => co0_0 a (by omega) (by omega))
      have Ar9 : isV cL w1 (ar + 1 + 3) (er) := Ar9.kept (fun a h1 h2 => co0_0 a (by omega) (by omega))
      have Ad : isV cL w1 (ar + 1 + 5) (ed) := Ad.kept (fun a h1 h2 => co0_0 a (by omega) (by omega))
      have Ao : isV cL w1 (ar + 8) (1) := Ao.kept (fun a h1 h2 => co0_0 a (by omega) (by omega))
      have Ap : isV cL w1 (ar + 12) (ep) := Ap.kept (fun a h1 h2 => co0_0 a (by omega) (by omega))
      have Ab : isV cL w1 (ar + 14) (eb) := Ab.kept (fun a h1 h2 => co0_0 a (by omega) (by omega))
      have av : isV cL w1 (qa + 1) (x) := av.kept (fun a h1 h2 => co0_0 a (by omega) (by omega))
      have bv : isV cL w1 (nb) (y) := bv.kept (fun a h1 h2 => co0_0 a (by omega) (by omega))
      have Au := hV9
      refine W.eq (g2 := F0 m 26 ls []) rfl ?_
      refine lv_goto (pc := 26) (tgt := 70) hx hb dAr_addSigned_26 (by decide) ?_
      refine lv_aload_n (pc := 70) hx hb dAr_addSigned_70 rfl (lv_at hl 1 rfl) ?_
      refine fw_get (pc := 71) (ci := 0) (v := .ref (ar + 10)) (C := RAr) (T := TAr) (N := 5) hx hb hW in_Ar hown hK.1 hw A0 rfl 2 (by decide) (hW _ lf_Ar_29) (fun _ h => h) rfl dAr_addSigned_71 ?_
      refine lv_iload (pc := 74) hx hb dAr_addSigned_74 (lv_at hl 0 rfl) ?_
      refine lv_aload_n (pc := 76) hx hb dAr_addSigned_76 rfl (lv_at hl 2 rfl) ?_
      refine fw_cS (pc := 77) (As := [.ref (ar + 10), .int (nI 0), .ref qa]) (rest := []) ⟨hx, hb, hml, hown, hW⟩ (c_Ar_store (neg := 0) (by decide) Au ⟨0, x, as, ap, ah, av, ae⟩ (by omega)) (va_cwS 3 hW (kw_S lm_Ar_62 sta_Ar_store ini_Ar cd_Ar_store) rfl rfl rfl (by decide +kernel) ⟨Nat.le_of_ble_eq_true rfl, Nat.le_of_ble_eq_true rfl⟩) hK hw rfl hl.1 rfl (Nat.le_of_ble_eq_true rfl) dAr_addSigned_77 ⟨Nat.le_of_ble_eq_true rfl, Nat.le_of_ble_eq_true rfl⟩ (fun v w2 H locs hq hw => ?_)
      obtain ⟨rfl, hI, fs9⟩ := hq
      have A0_ : w2 (ar) = some (.inr (0, [.ref (ar + 1), .ref (ar + 8), .ref (ar + 10), .ref (ar + 12), .ref (ar + 14)])) := (fs9 _ (by omega)).trans A0
      have A1_ : w2 (ar + 1) = some (.inr (3, [.ref (ar + 1 + 1), .ref (ar + 1 + 3), .ref (ar + 1 + 5)])) := (fs9 _ (by omega)).trans A1
      have A0 := A0_
      have A1 := A1_
      have Aq : isV cL w2 (ar + 1 + 1) (e_q) := Aq.kept (fun a h1 h2 => fs9 a (by omega))
      have Ar9 : isV cL w2 (ar + 1 + 3) (er) := Ar9.kept (fun a h1 h2 => fs9 a (by omega))
      have Ad : isV cL w2 (ar + 1 + 5) (ed) := Ad.kept (fun a h1 h2 => fs9 a (by omega))
      have Ao : isV cL w2 (ar + 8) (1) := Ao.kept (fun a h1 h2 => fs9 a (by omega))
      have Au : isV cL w2 (ar + 10) (x + y) := Au.kept (fun a h1 h2 => fs9 a (by omega))
      have Ap : isV cL w2 (ar + 12) (ep) := Ap.kept (fun a h1 h2 => fs9 a (by omega))
      have Ab : isV cL w2 (ar + 14) (eb) := Ab.kept (fun a h1 h2 => fs9 a (by omega))
      have bv : isV cL w2 (nb) (y) := bv.kept (fun a h1 h2 => fs9 a (by omega))
      refine W.eq (g2 := F0 m 80 ls [.int (nI (if x + y < 2 ^ 768 then 0 else 6))]) rfl ?_
      rw [← ae] at hI ⊢
      have hsum : wv 0 x + wv 0 y = wv 0 (x + y) := by rw [wv_0, wv_0, wv_0]; omega
      exact fw_iret (pc := 80) hx hb hr hlocks hw dAr_addSigned_80 ⟨by rw [hsum, sFit_1, wv_abs], by rw [hsum, sFit_2, wv_abs]; exact hI, ⟨A0, A1, ⟨_, Aq⟩, ⟨_, Ar9⟩, ⟨_, Ad⟩, Ao, ⟨_, Au⟩, ⟨_, Ap⟩, ⟨_, Ab⟩⟩, (fun q h1 h2 => by rw [fs9 q (by omega), co0_0 q (by omega) (by omega)])⟩
    · refine lv_aload_n (pc := 0) hx hb dAr_addSigned_0 rfl (lv_at hl 1 rfl) ?_
      refine fw_get (pc := 1) (ci := 8) (v := .int (nI 0)) (C := RWh) (T := TWh) (N := 2) hx hb hW in_Wh hown hK.1 hw ah rfl 1 (by decide) (hW _ lf_Ar_43) (fun _ h => h) rfl dAr_addSigned_1 ?_
      refine lv_istore (pc := 4) (lv' := [(4, .int (nI 0)), (0, .ref ar), (1, .ref qa), (2, .ref nb), (3, .int (nI 1))]) hx hb dAr_addSigned_4 hl (by decide) rfl (fun ls hl => ?_)
      refine lv_aload_n (pc := 6) hx hb dAr_addSigned_6 rfl (lv_at hl 2 rfl) ?_
      refine fw_get (pc := 7) (ci := 8) (v := .int (nI 0)) (C := RWh) (T := TWh) (N := 2) hx hb hW in_Wh hown hK.1 hw ah rfl 1 (by decide) (hW _ lf_Ar_43) (fun _ h => h) rfl dAr_addSigned_7 ?_
      refine lv_iload_n (pc := 10) hx hb dAr_addSigned_10 rfl (lv_at hl 4 rfl) ?_
      refine lv_icmp_ne (pc := 11) (tgt := 29) hx hb dAr_addSigned_11 (by decide) (fun _ => ?_) (fun hc => absurd hc (show ¬ nI 0 = nI 1 by decide))
      refine lv_aload_n (pc := 29) hx hb dAr_addSigned_29 rfl (lv_at hl 2 rfl) ?_
      refine fw_get (pc := 30) (ci := 8) (v := .ref (qa + 1)) (C := RWh) (T := TWh) (N := 2) hx hb hW in_Wh hown hK.1 hw ah rfl 0 (by decide) (hW _ lf_Ar_38) (fun _ h => h) rfl dAr_addSigned_30 ?_
      refine lv_aload_n (pc := 33) hx hb dAr_addSigned_33 rfl (lv_at hl 3 rfl) ?_
      obtain ⟨k2, o2⟩ := av.ob
      refine fw_cVR (pc := 34) (As := [.ref nb]) (rest := []) ⟨hx, hb, hml, hown, hW⟩ (c_Na_order av bv) (cwV 1 hW (kw_V lm_Ar_55 im_Na_order se_Na_order ini_Na cd_Na_order) rfl rfl rfl (by decide +kernel) ⟨Nat.le_of_ble_eq_true rfl, Nat.le_of_ble_eq_true rfl⟩) hK hw o2 rfl rfl hl.1 rfl (Nat.le_of_ble_eq_true rfl) dAr_addSigned_34 ⟨Nat.le_of_ble_eq_true rfl, Nat.le_of_ble_eq_true rfl⟩ (fun v hq => ?_)
      subst hq
      refine W.eq (g2 := F0 m 37 ls [.int (ordI x y)]) rfl ?_
      refine lv_if_lt (pc := 37) (tgt := 55) hx hb dAr_addSigned_37 (by decide) (fun hc => ?_) (fun hc => ?_)
      · have hlt : x < y := Nat.lt_of_not_le (fun h9 => absurd ((ordI_ge0 _ _).mpr h9) (Int32.not_le.mpr hc))
        refine lv_aload_n (pc := 55) hx hb dAr_addSigned_55 rfl (lv_at hl 1 rfl) ?_
        refine fw_get (pc := 56) (ci := 0) (v := .ref (ar + 10)) (C := RAr) (T := TAr) (N := 5) hx hb hW in_Ar hown hK.1 hw A0 rfl 2 (by decide) (hW _ lf_Ar_29) (fun _ h => h) rfl dAr_addSigned_56 ?_
        refine lv_aload_n (pc := 59) hx hb dAr_addSigned_59 rfl (lv_at hl 3 rfl) ?_
        refine lv_aload_n (pc := 60) hx hb dAr_addSigned_60 rfl (lv_at hl 2 rfl) ?_
        refine fw_get (pc := 61) (ci := 8) (v := .ref (qa + 1)) (C := RWh) (T := TWh) (N := 2) hx hb hW in_Wh hown hK.1 hw ah rfl 0 (by decide) (hW _ lf_Ar_38) (fun _ h => h) rfl dAr_addSigned_61 ?_
        obtain ⟨k3, o3⟩ := Au.ob
        refine fw_cV (pc := 64) (As := [.ref nb, .ref (qa + 1)]) (rest := []) ⟨hx, hb, hml, hown, hW⟩ (c_Na_becomeDifference (by omega) (by omega) Au bv av (by omega)) (cwV 2 hW (kw_V lm_Ar_59 im_Na_becomeDifference se_Na_becomeDifference ini_Na cd_Na_becomeDifference) rfl rfl rfl (by decide +kernel) ⟨Nat.le_of_ble_eq_true rfl, Nat.le_of_ble_eq_true rfl⟩) hK hw o3 rfl rfl hl.1 rfl (Nat.le_of_ble_eq_true rfl) dAr_addSigned_64 ⟨Nat.le_of_ble_eq_true rfl, Nat.le_of_ble_eq_true rfl⟩ (fun v w3 H locs hq hw => ?_)
        obtain ⟨rfl, hV9, co2_0⟩ := hq
        have A0_ : w3 (ar) = some (.inr (0, [.ref (ar + 1), .ref (ar + 8), .ref (ar + 10), .ref (ar + 12), .ref (ar + 14)])) := (co2_0 _ (by omega) (by omega)).trans A0
        have A1_ : w3 (ar + 1) = some (.inr (3, [.ref (ar + 1 + 1), .ref (ar + 1 + 3), .ref (ar + 1 + 5)])) := (co2_0 _ (by omega) (by omega)).trans A1
        have ah_ : w3 (qa) = some (.inr (8, [.ref (qa + 1), .int (nI 0)])) := (co2_0 _ (by omega) (by omega)).trans ah
        have A0 := A0_
        have A1 := A1_
        have ah := ah_
        have Aq : isV cL w3 (ar + 1 + 1) (e_q) := Aq.kept (fun a h1 h2 => co2_0 a (by omega) (by omega))
        have Ar9 : isV cL w3 (ar + 1 + 3) (er) := Ar9.kept (fun a h1 h2 => co2_0 a (by omega) (by omega))
        have Ad : isV cL w3 (ar + 1 + 5) (ed) := Ad.kept (fun a h1 h2 => co2_0 a (by omega) (by omega))
        have Ao : isV cL w3 (ar + 8) (1) := Ao.kept (fun a h1 h2 => co2_0 a (by omega) (by omega))
        have Ap : isV cL w3 (ar + 12) (ep) := Ap.kept (fun a h1 h2 => co2_0 a (by omega) (by omega))
        have Ab : isV cL w3 (ar + 14) (eb) := Ab.kept (fun a h1 h2 => co2_0 a (by omega) (by omega))
        have av : isV cL w3 (qa + 1) (x) := av.kept (fun a h1 h2 => co2_0 a (by omega) (by omega))
        have bv : isV cL w3 (nb) (y) := bv.kept (fun a h1 h2 => co2_0 a (by omega) (by omega))
        have Au := hV9
        refine W.eq (g2 := F0 m 67 ls []) rfl ?_
        refine lv_iload_n (pc := 67) hx hb dAr_addSigned_67 rfl (lv_at hl 4 rfl) ?_
        refine lv_istore (pc := 68) (lv' := [(4, .int (nI 1)), (0, .ref ar), (1, .ref qa), (2, .ref nb), (3, .int (nI 1))]) hx hb dAr_addSigned_68 hl (by decide) rfl (fun ls hl => ?_)
        refine lv_aload_n (pc := 70) hx hb dAr_addSigned_70 rfl (lv_at hl 1 rfl) ?_
        refine fw_get (pc := 71) (ci := 0) (v := .ref (ar + 10)) (C := RAr) (T := TAr) (N := 5) hx hb hW in_Ar hown hK.1 hw A0 rfl 2 (by decide) (hW _ lf_Ar_29) (fun _ h => h) rfl dAr_addSigned_71 ?_
        refine lv_iload (pc := 74) hx hb dAr_addSigned_74 (lv_at hl 0 rfl) ?_
        refine lv_aload_n (pc := 76) hx hb dAr_addSigned_76 rfl (lv_at hl 2 rfl) ?_
        refine fw_cS (pc := 77) (As := [.ref (ar + 10), .int (nI 1), .ref qa]) (rest := []) ⟨hx, hb, hml, hown, hW⟩ (c_Ar_store (neg := 1) (by decide) Au ⟨0, x, as, ap, ah, av, ae⟩ (by omega)) (va_cwS 3 hW (kw_S lm_Ar_62 sta_Ar_store ini_Ar cd_Ar_store) rfl rfl rfl (by decide +kernel) ⟨Nat.le_of_ble_eq_true rfl, Nat.le_of_ble_eq_true rfl⟩) hK hw rfl hl.1 rfl (Nat.le_of_ble_eq_true rfl) dAr_addSigned_77 ⟨Nat.le_of_ble_eq_true rfl, Nat.le_of_ble_eq_true rfl⟩ (fun v w4 H locs hq hw => ?_)
        obtain ⟨rfl, hI, fs9⟩ := hq
        have A0_ : w4 (ar) = some (.inr (0, [.ref (ar + 1), .ref (ar + 8), .ref (ar + 10), .ref (ar + 12), .ref (ar + 14)])) := (fs9 _ (by omega)).trans A0
        have A1_ : w4 (ar + 1) = some (.inr (3, [.ref (ar + 1 + 1), .ref (ar + 1 + 3), .ref (ar + 1 + 5)])) := (fs9 _ (by omega)).trans A1
        have A0 := A0_
        have A1 := A1_
        have Aq : isV cL w4 (ar + 1 + 1) (e_q) := Aq.kept (fun a h1 h2 => fs9 a (by omega))
        have Ar9 : isV cL w4 (ar + 1 + 3) (er) := Ar9.kept (fun a h1 h2 => fs9 a (by omega))
        have Ad : isV cL w4 (ar + 1 + 5) (ed) := Ad.kept (fun a h1 h2 => fs9 a (by omega))
        have Ao : isV cL w4 (ar + 8) (1) := Ao.kept (fun a h1 h2 => fs9 a (by omega))
        have Au : isV cL w4 (ar + 10) (y - x) := Au.kept (fun a h1 h2 => fs9 a (by omega))
        have Ap : isV cL w4 (ar + 12) (ep) := Ap.kept (fun a h1 h2 => fs9 a (by omega))
        have Ab : isV cL w4 (ar + 14) (eb) := Ab.kept (fun a h1 h2 => fs9 a (by omega))
        have bv : isV cL w4 (nb) (y) := bv.kept (fun a h1 h2 => fs9 a (by omega))
        refine W.eq (g2 := F0 m 80 ls [.int (nI (if y - x < 2 ^ 768 then 0 else 6))]) rfl ?_
        rw [← ae] at hI ⊢
        have hsum : wv 0 x + wv 1 y = wv 1 (y - x) := by rw [wv_0, wv_1, wv_1]; omega
        exact fw_iret (pc := 80) hx hb hr hlocks hw dAr_addSigned_80 ⟨by rw [hsum, sFit_1, wv_abs], by rw [hsum, sFit_2, wv_abs]; exact hI, ⟨A0, A1, ⟨_, Aq⟩, ⟨_, Ar9⟩, ⟨_, Ad⟩, Ao, ⟨_, Au⟩, ⟨_, Ap⟩, ⟨_, Ab⟩⟩, (fun q h1 h2 => by rw [fs9 q (by omega), co2_0 q (by omega) (by omega)])⟩
      · have hge : y ≤ x := (ordI_ge0 _ _).mp (Int32.not_lt.mp hc)
        refine lv_aload_n (pc := 40) hx hb dAr_addSigned_40 rfl (lv_at hl 1 rfl) ?_
        refine fw_get (pc := 41) (ci := 0) (v := .ref (ar + 10)) (C := RAr) (T := TAr) (N := 5) hx hb hW in_Ar hown hK.1 hw A0 rfl 2 (by decide) (hW _ lf_Ar_29) (fun _ h => h) rfl dAr_addSigned_41 ?_
        refine lv_aload_n (pc := 44) hx hb dAr_addSigned_44 rfl (lv_at hl 2 rfl) ?_
        refine fw_get (pc := 45) (ci := 8) (v := .ref (qa + 1)) (C := RWh) (T := TWh) (N := 2) hx hb hW in_Wh hown hK.1 hw ah rfl 0 (by decide) (hW _ lf_Ar_38) (fun _ h => h) rfl dAr_addSigned_45 ?_
        refine lv_aload_n (pc := 48) hx hb dAr_addSigned_48 rfl (lv_at hl 3 rfl) ?_
        obtain ⟨k4, o4⟩ := Au.ob
        refine fw_cV (pc := 49) (As := [.ref (qa + 1), .ref nb]) (rest := []) ⟨hx, hb, hml, hown, hW⟩ (c_Na_becomeDifference (by omega) (by omega) Au av bv hge) (cwV 2 hW (kw_V lm_Ar_59 im_Na_becomeDifference se_Na_becomeDifference ini_Na cd_Na_becomeDifference) rfl rfl rfl (by decide +kernel) ⟨Nat.le_of_ble_eq_true rfl, Nat.le_of_ble_eq_true rfl⟩) hK hw o4 rfl rfl hl.1 rfl (Nat.le_of_ble_eq_true rfl) dAr_addSigned_49 ⟨Nat.le_of_ble_eq_true rfl, Nat.le_of_ble_eq_true rfl⟩ (fun v w3 H locs hq hw => ?_)
        obtain ⟨rfl, hV9, co2_0⟩ := hq
        have A0_ : w3 (ar) = some (.inr (0, [.ref (ar + 1), .ref (ar + 8), .ref (ar + 10), .ref (ar + 12), .ref (ar + 14)])) := (co2_0 _ (by omega) (by omega)).trans A0
        have A1_ : w3 (ar + 1) = some (.inr (3, [.ref (ar + 1 + 1), .ref (ar + 1 + 3), .ref (ar + 1 + 5)])) := (co2_0 _ (by omega) (by omega)).trans A1
        have ah_ : w3 (qa) = some (.inr (8, [.ref (qa + 1), .int (nI 0)])) := (co2_0 _ (by omega) (by omega)).trans ah
        have A0 := A0_
        have A1 := A1_
        have ah := ah_
        have Aq : isV cL w3 (ar + 1 + 1) (e_q) := Aq.kept (fun a h1 h2 => co2_0 a (by omega) (by omega))
        have Ar9 : isV cL w3 (ar + 1 + 3) (er) := Ar9.kept (fun a h1 h2 => co2_0 a (by omega) (by omega))
        have Ad : isV cL w3 (ar + 1 + 5) (ed) := Ad.kept (fun a h1 h2 => co2_0 a (by omega) (by omega))
        have Ao : isV cL w3 (ar + 8) (1) := Ao.kept (fun a h1 h2 => co2_0 a (by omega) (by omega))
        have Ap : isV cL w3 (ar + 12) (ep) := Ap.kept (fun a h1 h2 => co2_0 a (by omega) (by omega))
        have Ab : isV cL w3 (ar + 14) (eb) := Ab.kept (fun a h1 h2 => co2_0 a (by omega) (by omega))
        have av : isV cL w3 (qa + 1) (x) := av.kept (fun a h1 h2 => co2_0 a (by omega) (by omega))
        have bv : isV cL w3 (nb) (y) := bv.kept (fun a h1 h2 => co2_0 a (by omega) (by omega))
        have Au := hV9
        refine W.eq (g2 := F0 m 52 ls []) rfl ?_
        refine lv_goto (pc := 52) (tgt := 70) hx hb dAr_addSigned_52 (by decide) ?_
        refine lv_aload_n (pc := 70) hx hb dAr_addSigned_70 rfl (lv_at hl 1 rfl) ?_
        refine fw_get (pc := 71) (ci := 0) (v := .ref (ar + 10)) (C := RAr) (T := TAr) (N := 5) hx hb hW in_Ar hown hK.1 hw A0 rfl 2 (by decide) (hW _ lf_Ar_29) (fun _ h => h) rfl dAr_addSigned_71 ?_
        refine lv_iload (pc := 74) hx hb dAr_addSigned_74 (lv_at hl 0 rfl) ?_
        refine lv_aload_n (pc := 76) hx hb dAr_addSigned_76 rfl (lv_at hl 2 rfl) ?_
        refine fw_cS (pc := 77) (As := [.ref (ar + 10), .int (nI 0), .ref qa]) (rest := []) ⟨hx, hb, hml, hown, hW⟩ (c_Ar_store (neg := 0) (by decide) Au ⟨0, x, as, ap, ah, av, ae⟩ (by omega)) (va_cwS 3 hW (kw_S lm_Ar_62 sta_Ar_store ini_Ar cd_Ar_store) rfl rfl rfl (by decide +kernel) ⟨Nat.le_of_ble_eq_true rfl, Nat.le_of_ble_eq_true rfl⟩) hK hw rfl hl.1 rfl (Nat.le_of_ble_eq_true rfl) dAr_addSigned_77 ⟨Nat.le_of_ble_eq_true rfl, Nat.le_of_ble_eq_true rfl⟩ (fun v w4 H locs hq hw => ?_)
        obtain ⟨rfl, hI, fs9⟩ := hq
        have A0_ : w4 (ar) = some (.inr (0, [.ref (ar + 1), .ref (ar + 8), .ref (ar + 10), .ref (ar + 12), .ref (ar + 14)])) := (fs9 _ (by omega)).trans A0
        have A1_ : w4 (ar + 1) = some (.inr (3, [.ref (ar + 1 + 1), .ref (ar + 1 + 3), .ref (ar + 1 + 5)])) := (fs9 _ (by omega)).trans A1
        have A0 := A0_
        have A1 := A1_
        have Aq : isV cL w4 (ar + 1 + 1) (e_q) := Aq.kept (fun a h1 h2 => fs9 a (by omega))
        have Ar9 : isV cL w4 (ar + 1 + 3) (er) := Ar9.kept (fun a h1 h2 => fs9 a (by omega))
        have Ad : isV cL w4 (ar + 1 + 5) (ed) := Ad.kept (fun a h1 h2 => fs9 a (by omega))
        have Ao : isV cL w4 (ar + 8) (1) := Ao.kept (fun a h1 h2 => fs9 a (by omega))
        have Au : isV cL w4 (ar + 10) (x - y) := Au.kept (fun a h1 h2 => fs9 a (by omega))
        have Ap : isV cL w4 (ar + 12) (ep) := Ap.kept (fun a h1 h2 => fs9 a (by omega))
        have Ab : isV cL w4 (ar + 14) (eb) := Ab.kept (fun a h1 h2 => fs9 a (by omega))
        have bv : isV cL w4 (nb) (y) := bv.kept (fun a h1 h2 => fs9 a (by omega))
        refine W.eq (g2 := F0 m 80 ls [.int (nI (if x - y < 2 ^ 768 then 0 else 6))]) rfl ?_
        rw [← ae] at hI ⊢
        have hsum : wv 0 x + wv 1 y = wv 0 (x - y) := by rw [wv_0, wv_1, wv_0]; omega
        exact fw_iret (pc := 80) hx hb hr hlocks hw dAr_addSigned_80 ⟨by rw [hsum, sFit_1, wv_abs], by rw [hsum, sFit_2, wv_abs]; exact hI, ⟨A0, A1, ⟨_, Aq⟩, ⟨_, Ar9⟩, ⟨_, Ad⟩, Ao, ⟨_, Au⟩, ⟨_, Ap⟩, ⟨_, Ab⟩⟩, (fun q h1 h2 => by rw [fs9 q (by omega), co2_0 q (by omega) (by omega)])⟩
  · rcases (show sg2 = 0 ∨ sg2 = 1 by omega) with rfl | rfl
    · refine lv_aload_n (pc := 0) hx hb dAr_addSigned_0 rfl (lv_at hl 1 rfl) ?_
      refine fw_get (pc := 1) (ci := 8) (v := .int (nI 1)) (C := RWh) (T := TWh) (N := 2) hx hb hW in_Wh hown hK.1 hw ah rfl 1 (by decide) (hW _ lf_Ar_43) (fun _ h => h) rfl dAr_addSigned_1 ?_
      refine lv_istore (pc := 4) (lv' := [(4, .int (nI 1)), (0, .ref ar), (1, .ref qa), (2, .ref nb), (3, .int (nI 0))]) hx hb dAr_addSigned_4 hl (by decide) rfl (fun ls hl => ?_)
      refine lv_aload_n (pc := 6) hx hb dAr_addSigned_6 rfl (lv_at hl 2 rfl) ?_
      refine fw_get (pc := 7) (ci := 8) (v := .int (nI 1)) (C := RWh) (T := TWh) (N := 2) hx hb hW in_Wh hown hK.1 hw ah rfl 1 (by decide) (hW _ lf_Ar_43) (fun _ h => h) rfl dAr_addSigned_7 ?_
      refine lv_iload_n (pc := 10) hx hb dAr_addSigned_10 rfl (lv_at hl 4 rfl) ?_
      refine lv_icmp_ne (pc := 11) (tgt := 29) hx hb dAr_addSigned_11 (by decide) (fun _ => ?_) (fun hc => absurd hc (show ¬ nI 1 = nI 0 by decide))
      refine lv_aload_n (pc := 29) hx hb dAr_addSigned_29 rfl (lv_at hl 2 rfl) ?_
      refine fw_get (pc := 30) (ci := 8) (v := .ref (qa + 1)) (C := RWh) (T := TWh) (N := 2) hx hb hW in_Wh hown hK.1 hw ah rfl 0 (by decide) (hW _ lf_Ar_38) (fun _ h => h) rfl dAr_addSigned_30 ?_
      refine lv_aload_n (pc := 33) hx hb dAr_addSigned_33 rfl (lv_at hl 3 rfl) ?_
      obtain ⟨k5, o5⟩ := av.ob
      refine fw_cVR (pc := 34) (As := [.ref nb]) (rest := []) ⟨hx, hb, hml, hown, hW⟩ (c_Na_order av bv) (cwV 1 hW (kw_V lm_Ar_55 im_Na_order se_Na_order ini_Na cd_Na_order) rfl rfl rfl (by decide +kernel) ⟨Nat.le_of_ble_eq_true rfl, Nat.le_of_ble_eq_true rfl⟩) hK hw o5 rfl rfl hl.1 rfl (Nat.le_of_ble_eq_true rfl) dAr_addSigned_34 ⟨Nat.le_of_ble_eq_true rfl, Nat.le_of_ble_eq_true rfl⟩ (fun v hq => ?_)
      subst hq
      refine W.eq (g2 := F0 m 37 ls [.int (ordI x y)]) rfl ?_
      refine lv_if_lt (pc := 37) (tgt := 55) hx hb dAr_addSigned_37 (by decide) (fun hc => ?_) (fun hc => ?_)
      · have hlt : x < y := Nat.lt_of_not_le (fun h9 => absurd ((ordI_ge0 _ _).mpr h9) (Int32.not_le.mpr hc))
        refine lv_aload_n (pc := 55) hx hb dAr_addSigned_55 rfl (lv_at hl 1 rfl) ?_
        refine fw_get (pc := 56) (ci := 0) (v := .ref (ar + 10)) (C := RAr) (T := TAr) (N := 5) hx hb hW in_Ar hown hK.1 hw A0 rfl 2 (by decide) (hW _ lf_Ar_29) (fun _ h => h) rfl dAr_addSigned_56 ?_
        refine lv_aload_n (pc := 59) hx hb dAr_addSigned_59 rfl (lv_at hl 3 rfl) ?_
        refine lv_aload_n (pc := 60) hx hb dAr_addSigned_60 rfl (lv_at hl 2 rfl) ?_
        refine fw_get (pc := 61) (ci := 8) (v := .ref (qa + 1)) (C := RWh) (T := TWh) (N := 2) hx hb hW in_Wh hown hK.1 hw ah rfl 0 (by decide) (hW _ lf_Ar_38) (fun _ h => h) rfl dAr_addSigned_61 ?_
        obtain ⟨k6, o6⟩ := Au.ob
        refine fw_cV (pc := 64) (As := [.ref nb, .ref (qa + 1)]) (rest := []) ⟨hx, hb, hml, hown, hW⟩ (c_Na_becomeDifference (by omega) (by omega) Au bv av (by omega)) (cwV 2 hW (kw_V lm_Ar_59 im_Na_becomeDifference se_Na_becomeDifference ini_Na cd_Na_becomeDifference) rfl rfl rfl (by decide +kernel) ⟨Nat.le_of_ble_eq_true rfl, Nat.le_of_ble_eq_true rfl⟩) hK hw o6 rfl rfl hl.1 rfl (Nat.le_of_ble_eq_true rfl) dAr_addSigned_64 ⟨Nat.le_of_ble_eq_true rfl, Nat.le_of_ble_eq_true rfl⟩ (fun v w5 H locs hq hw => ?_)
        obtain ⟨rfl, hV9, co4_0⟩ := hq
        have A0_ : w5 (ar) = some (.inr (0, [.ref (ar + 1), .ref (ar + 8), .ref (ar + 10), .ref (ar + 12), .ref (ar + 14)])) := (co4_0 _ (by omega) (by omega)).trans A0
        have A1_ : w5 (ar + 1) = some (.inr (3, [.ref (ar + 1 + 1), .ref (ar + 1 + 3), .ref (ar + 1 + 5)])) := (co4_0 _ (by omega) (by omega)).trans A1
        have ah_ : w5 (qa) = some (.inr (8, [.ref (qa + 1), .int (nI 1)])) := (co4_0 _ (by omega) (by omega)).trans ah
        have A0 := A0_
        have A1 := A1_
        have ah := ah_
        have Aq : isV cL w5 (ar + 1 + 1) (e_q) := Aq.kept (fun a h1 h2 => co4_0 a (by omega) (by omega))
        have Ar9 : isV cL w5 (ar + 1 + 3) (er) := Ar9.kept (fun a h1 h2 => co4_0 a (by omega) (by omega))
        have Ad : isV cL w5 (ar + 1 + 5) (ed) := Ad.kept (fun a h1 h2 => co4_0 a (by omega) (by omega))
        have Ao : isV cL w5 (ar + 8) (1) := Ao.kept (fun a h1 h2 => co4_0 a (by omega) (by omega))
        have Ap : isV cL w5 (ar + 12) (ep) := Ap.kept (fun a h1 h2 => co4_0 a (by omega) (by omega))
        have Ab : isV cL w5 (ar + 14) (eb) := Ab.kept (fun a h1 h2 => co4_0 a (by omega) (by omega))
        have av : isV cL w5 (qa + 1) (x) := av.kept (fun a h1 h2 => co4_0 a (by omega) (by omega))
        have bv : isV cL w5 (nb) (y) := bv.kept (fun a h1 h2 => co4_0 a (by omega) (by omega))
        have Au := hV9
        refine W.eq (g2 := F0 m 67 ls []) rfl ?_
        refine lv_iload_n (pc := 67) hx hb dAr_addSigned_67 rfl (lv_at hl 4 rfl) ?_
        refine lv_istore (pc := 68) (lv' := [(4, .int (nI 0)), (0, .ref ar), (1, .ref qa), (2, .ref nb), (3, .int (nI 0))]) hx hb dAr_addSigned_68 hl (by decide) rfl (fun ls hl => ?_)
        refine lv_aload_n (pc := 70) hx hb dAr_addSigned_70 rfl (lv_at hl 1 rfl) ?_
        refine fw_get (pc := 71) (ci := 0) (v := .ref (ar + 10)) (C := RAr) (T := TAr) (N := 5) hx hb hW in_Ar hown hK.1 hw A0 rfl 2 (by decide) (hW _ lf_Ar_29) (fun _ h => h) rfl dAr_addSigned_71 ?_
        refine lv_iload (pc := 74) hx hb dAr_addSigned_74 (lv_at hl 0 rfl) ?_
        refine lv_aload_n (pc := 76) hx hb dAr_addSigned_76 rfl (lv_at hl 2 rfl) ?_
        refine fw_cS (pc := 77) (As := [.ref (ar + 10), .int (nI 0), .ref qa]) (rest := []) ⟨hx, hb, hml, hown, hW⟩ (c_Ar_store (neg := 0) (by decide) Au ⟨1, x, as, ap, ah, av, ae⟩ (by omega)) (va_cwS 3 hW (kw_S lm_Ar_62 sta_Ar_store ini_Ar cd_Ar_store) rfl rfl rfl (by decide +kernel) ⟨Nat.le_of_ble_eq_true rfl, Nat.le_of_ble_eq_true rfl⟩) hK hw rfl hl.1 rfl (Nat.le_of_ble_eq_true rfl) dAr_addSigned_77 ⟨Nat.le_of_ble_eq_true rfl, Nat.le_of_ble_eq_true rfl⟩ (fun v w6 H locs hq hw => ?_)
        obtain ⟨rfl, hI, fs9⟩ := hq
        have A0_ : w6 (ar) = some (.inr (0, [.ref (ar + 1), .ref (ar + 8), .ref (ar + 10), .ref (ar + 12), .ref (ar + 14)])) := (fs9 _ (by omega)).trans A0
        have A1_ : w6 (ar + 1) = some (.inr (3, [.ref (ar + 1 + 1), .ref (ar + 1 + 3), .ref (ar + 1 + 5)])) := (fs9 _ (by omega)).trans A1
        have A0 := A0_
        have A1 := A1_
        have Aq : isV cL w6 (ar + 1 + 1) (e_q) := Aq.kept (fun a h1 h2 => fs9 a (by omega))
        have Ar9 : isV cL w6 (ar + 1 + 3) (er) := Ar9.kept (fun a h1 h2 => fs9 a (by omega))
        have Ad : isV cL w6 (ar + 1 + 5) (ed) := Ad.kept (fun a h1 h2 => fs9 a (by omega))
        have Ao : isV cL w6 (ar + 8) (1) := Ao.kept (fun a h1 h2 => fs9 a (by omega))
        have Au : isV cL w6 (ar + 10) (y - x) := Au.kept (fun a h1 h2 => fs9 a (by omega))
        have Ap : isV cL w6 (ar + 12) (ep) := Ap.kept (fun a h1 h2 => fs9 a (by omega))
        have Ab : isV cL w6 (ar + 14) (eb) := Ab.kept (fun a h1 h2 => fs9 a (by omega))
        have bv : isV cL w6 (nb) (y) := bv.kept (fun a h1 h2 => fs9 a (by omega))
        refine W.eq (g2 := F0 m 80 ls [.int (nI (if y - x < 2 ^ 768 then 0 else 6))]) rfl ?_
        rw [← ae] at hI ⊢
        have hsum : wv 1 x + wv 0 y = wv 0 (y - x) := by rw [wv_0, wv_1, wv_0]; omega
        exact fw_iret (pc := 80) hx hb hr hlocks hw dAr_addSigned_80 ⟨by rw [hsum, sFit_1, wv_abs], by rw [hsum, sFit_2, wv_abs]; exact hI, ⟨A0, A1, ⟨_, Aq⟩, ⟨_, Ar9⟩, ⟨_, Ad⟩, Ao, ⟨_, Au⟩, ⟨_, Ap⟩, ⟨_, Ab⟩⟩, (fun q h1 h2 => by rw [fs9 q (by omega), co4_0 q (by omega) (by omega)])⟩
      · have hge : y ≤ x := (ordI_ge0 _ _).mp (Int32.not_lt.mp hc)
        refine lv_aload_n (pc := 40) hx hb dAr_addSigned_40 rfl (lv_at hl 1 rfl) ?_
        refine fw_get (pc := 41) (ci := 0) (v := .ref (ar + 10)) (C := RAr) (T := TAr) (N := 5) hx hb hW in_Ar hown hK.1 hw A0 rfl 2 (by decide) (hW _ lf_Ar_29) (fun _ h => h) rfl dAr_addSigned_41 ?_
        refine lv_aload_n (pc := 44) hx hb dAr_addSigned_44 rfl (lv_at hl 2 rfl) ?_
        refine fw_get (pc := 45) (ci := 8) (v := .ref (qa + 1)) (C := RWh) (T := TWh) (N := 2) hx hb hW in_Wh hown hK.1 hw ah rfl 0 (by decide) (hW _ lf_Ar_38) (fun _ h => h) rfl dAr_addSigned_45 ?_
        refine lv_aload_n (pc := 48) hx hb dAr_addSigned_48 rfl (lv_at hl 3 rfl) ?_
        obtain ⟨k7, o7⟩ := Au.ob
        refine fw_cV (pc := 49) (As := [.ref (qa + 1), .ref nb]) (rest := []) ⟨hx, hb, hml, hown, hW⟩ (c_Na_becomeDifference (by omega) (by omega) Au av bv hge) (cwV 2 hW (kw_V lm_Ar_59 im_Na_becomeDifference se_Na_becomeDifference ini_Na cd_Na_becomeDifference) rfl rfl rfl (by decide +kernel) ⟨Nat.le_of_ble_eq_true rfl, Nat.le_of_ble_eq_true rfl⟩) hK hw o7 rfl rfl hl.1 rfl (Nat.le_of_ble_eq_true rfl) dAr_addSigned_49 ⟨Nat.le_of_ble_eq_true rfl, Nat.le_of_ble_eq_true rfl⟩ (fun v w5 H locs hq hw => ?_)
        obtain ⟨rfl, hV9, co4_0⟩ := hq
        have A0_ : w5 (ar) = some (.inr (0, [.ref (ar + 1), .ref (ar + 8), .ref (ar + 10), .ref (ar + 12), .ref (ar + 14)])) := (co4_0 _ (by omega) (by omega)).trans A0
        have A1_ : w5 (ar + 1) = some (.inr (3, [.ref (ar + 1 + 1), .ref (ar + 1 + 3), .ref (ar + 1 + 5)])) := (co4_0 _ (by omega) (by omega)).trans A1
        have ah_ : w5 (qa) = some (.inr (8, [.ref (qa + 1), .int (nI 1)])) := (co4_0 _ (by omega) (by omega)).trans ah
        have A0 := A0_
        have A1 := A1_
        have ah := ah_
        have Aq : isV cL w5 (ar + 1 + 1) (e_q) := Aq.kept (fun a h1 h2 => co4_0 a (by omega) (by omega))
        have Ar9 : isV cL w5 (ar + 1 + 3) (er) := Ar9.kept (fun a h1 h2 => co4_0 a (by omega) (by omega))
        have Ad : isV cL w5 (ar + 1 + 5) (ed) := Ad.kept (fun a h1 h2 => co4_0 a (by omega) (by omega))
        have Ao : isV cL w5 (ar + 8) (1) := Ao.kept (fun a h1 h2 => co4_0 a (by omega) (by omega))
        have Ap : isV cL w5 (ar + 12) (ep) := Ap.kept (fun a h1 h2 => co4_0 a (by omega) (by omega))
        have Ab : isV cL w5 (ar + 14) (eb) := Ab.kept (fun a h1 h2 => co4_0 a (by omega) (by omega))
        have av : isV cL w5 (qa + 1) (x) := av.kept (fun a h1 h2 => co4_0 a (by omega) (by omega))
        have bv : isV cL w5 (nb) (y) := bv.kept (fun a h1 h2 => co4_0 a (by omega) (by omega))
        have Au := hV9
        refine W.eq (g2 := F0 m 52 ls []) rfl ?_
        refine lv_goto (pc := 52) (tgt := 70) hx hb dAr_addSigned_52 (by decide) ?_
        refine lv_aload_n (pc := 70) hx hb dAr_addSigned_70 rfl (lv_at hl 1 rfl) ?_
        refine fw_get (pc := 71) (ci := 0) (v := .ref (ar + 10)) (C := RAr) (T := TAr) (N := 5) hx hb hW in_Ar hown hK.1 hw A0 rfl 2 (by decide) (hW _ lf_Ar_29) (fun _ h => h) rfl dAr_addSigned_71 ?_
        refine lv_iload (pc := 74) hx hb dAr_addSigned_74 (lv_at hl 0 rfl) ?_
        refine lv_aload_n (pc := 76) hx hb dAr_addSigned_76 rfl (lv_at hl 2 rfl) ?_
        refine fw_cS (pc := 77) (As := [.ref (ar + 10), .int (nI 1), .ref qa]) (rest := []) ⟨hx, hb, hml, hown, hW⟩ (c_Ar_store (neg := 1) (by decide) Au ⟨1, x, as, ap, ah, av, ae⟩ (by omega)) (va_cwS 3 hW (kw_S lm_Ar_62 sta_Ar_store ini_Ar cd_Ar_store) rfl rfl rfl (by decide +kernel) ⟨Nat.le_of_ble_eq_true rfl, Nat.le_of_ble_eq_true rfl⟩) hK hw rfl hl.1 rfl (Nat.le_of_ble_eq_true rfl) dAr_addSigned_77 ⟨Nat.le_of_ble_eq_true rfl, Nat.le_of_ble_eq_true rfl⟩ (fun v w6 H locs hq hw => ?_)
        obtain ⟨rfl, hI, fs9⟩ := hq
        have A0_ : w6 (ar) = some (.inr (0, [.ref (ar + 1), .ref (ar + 8), .ref (ar + 10), .ref (ar + 12), .ref (ar + 14)])) := (fs9 _ (by omega)).trans A0
        have A1_ : w6 (ar + 1) = some (.inr (3, [.ref (ar + 1 + 1), .ref (ar + 1 + 3), .ref (ar + 1 + 5)])) := (fs9 _ (by omega)).trans A1
        have A0 := A0_
        have A1 := A1_
        have Aq : isV cL w6 (ar + 1 + 1) (e_q) := Aq.kept (fun a h1 h2 => fs9 a (by omega))
        have Ar9 : isV cL w6 (ar + 1 + 3) (er) := Ar9.kept (fun a h1 h2 => fs9 a (by omega))
        have Ad : isV cL w6 (ar + 1 + 5) (ed) := Ad.kept (fun a h1 h2 => fs9 a (by omega))
        have Ao : isV cL w6 (ar + 8) (1) := Ao.kept (fun a h1 h2 => fs9 a (by omega))
        have Au : isV cL w6 (ar + 10) (x - y) := Au.kept (fun a h1 h2 => fs9 a (by omega))
        have Ap : isV cL w6 (ar + 12) (ep) := Ap.kept (fun a h1 h2 => fs9 a (by omega))
        have Ab : isV cL w6 (ar + 14) (eb) := Ab.kept (fun a h1 h2 => fs9 a (by omega))
        have bv : isV cL w6 (nb) (y) := bv.kept (fun a h1 h2 => fs9 a (by omega))
        refine W.eq (g2 := F0 m 80 ls [.int (nI (if x - y < 2 ^ 768 then 0 else 6))]) rfl ?_
        rw [← ae] at hI ⊢
        have hsum : wv 1 x + wv 0 y = wv 1 (x - y) := by rw [wv_0, wv_1, wv_1]; omega
        exact fw_iret (pc := 80) hx hb hr hlocks hw dAr_addSigned_80 ⟨by rw [hsum, sFit_1, wv_abs], by rw [hsum, sFit_2, wv_abs]; exact hI, ⟨A0, A1, ⟨_, Aq⟩, ⟨_, Ar9⟩, ⟨_, Ad⟩, Ao, ⟨_, Au⟩, ⟨_, Ap⟩, ⟨_, Ab⟩⟩, (fun q h1 h2 => by rw [fs9 q (by omega), co4_0 q (by omega) (by omega)])⟩
    · refine lv_aload_n (pc := 0) hx hb dAr_addSigned_0 rfl (lv_at hl 1 rfl) ?_
      refine fw_get (pc := 1) (ci := 8) (v := .int (nI 1)) (C := RWh) (T := TWh) (N := 2) hx hb hW in_Wh hown hK.1 hw ah rfl 1 (by decide) (hW _ lf_Ar_43) (fun _ h => h) rfl dAr_addSigned_1 ?_
      refine lv_istore (pc := 4) (lv' := [(4, .int (nI 1)), (0, .ref ar), (1, .ref qa), (2, .ref nb), (3, .int (nI 1))]) hx hb dAr_addSigned_4 hl (by decide) rfl (fun ls hl => ?_)
      refine lv_aload_n (pc := 6) hx hb dAr_addSigned_6 rfl (lv_at hl 2 rfl) ?_
      refine fw_get (pc := 7) (ci := 8) (v := .int (nI 1)) (C := RWh) (T := TWh) (N := 2) hx hb hW in_Wh hown hK.1 hw ah rfl 1 (by decide) (hW _ lf_Ar_43) (fun _ h => h) rfl dAr_addSigned_7 ?_
      refine lv_iload_n (pc := 10) hx hb dAr_addSigned_10 rfl (lv_at hl 4 rfl) ?_
      refine lv_icmp_ne (pc := 11) (tgt := 29) hx hb dAr_addSigned_11 (by decide) (fun hc => absurd hc (fun h => h rfl)) (fun _ => ?_)
      refine lv_aload_n (pc := 14) hx hb dAr_addSigned_14 rfl (lv_at hl 1 rfl) ?_
      refine fw_get (pc := 15) (ci := 0) (v := .ref (ar + 10)) (C := RAr) (T := TAr) (N := 5) hx hb hW in_Ar hown hK.1 hw A0 rfl 2 (by decide) (hW _ lf_Ar_29) (fun _ h => h) rfl dAr_addSigned_15 ?_
      refine lv_aload_n (pc := 18) hx hb dAr_addSigned_18 rfl (lv_at hl 2 rfl) ?_
      refine fw_get (pc := 19) (ci := 8) (v := .ref (qa + 1)) (C := RWh) (T := TWh) (N := 2) hx hb hW in_Wh hown hK.1 hw ah rfl 0 (by decide) (hW _ lf_Ar_38) (fun _ h => h) rfl dAr_addSigned_19 ?_
      refine lv_aload_n (pc := 22) hx hb dAr_addSigned_22 rfl (lv_at hl 3 rfl) ?_
      obtain ⟨k8, o8⟩ := Au.ob
      refine fw_cV (pc := 23) (As := [.ref (qa + 1), .ref nb]) (rest := []) ⟨hx, hb, hml, hown, hW⟩ (c_Na_becomeSum (by omega) (by omega) Au av bv (Nat.lt_trans hx7 p49) (Nat.lt_trans hy7 p49)) (cwV 2 hW (kw_V lm_Ar_51 im_Na_becomeSum se_Na_becomeSum ini_Na cd_Na_becomeSum) rfl rfl rfl (by decide +kernel) ⟨Nat.le_of_ble_eq_true rfl, Nat.le_of_ble_eq_true rfl⟩) hK hw o8 rfl rfl hl.1 rfl (Nat.le_of_ble_eq_true rfl) dAr_addSigned_23 ⟨Nat.le_of_ble_eq_true rfl, Nat.le_of_ble_eq_true rfl⟩ (fun v w7 H locs hq hw => ?_)
      obtain ⟨rfl, hV9, co6_0⟩ := hq
      have A0_ : w7 (ar) = some (.inr (0, [.ref (ar + 1), .ref (ar + 8), .ref (ar + 10), .ref (ar + 12), .ref (ar + 14)])) := (co6_0 _ (by omega) (by omega)).trans A0
      have A1_ : w7 (ar + 1) = some (.inr (3, [.ref (ar + 1 + 1), .ref (ar + 1 + 3), .ref (ar + 1 + 5)])) := (co6_0 _ (by omega) (by omega)).trans A1
      have ah_ : w7 (qa) = some (.inr (8, [.ref (qa + 1), .int (nI 1)])) := (co6_0 _ (by omega) (by omega)).trans ah
      have A0 := A0_
      have A1 := A1_
      have ah := ah_
      have Aq : isV cL w7 (ar + 1 + 1) (e_q) := Aq.kept (fun a h1 h2 => co6_0 a (by omega) (by omega))
      have Ar9 : isV cL w7 (ar + 1 + 3) (er) := Ar9.kept (fun a h1 h2 => co6_0 a (by omega) (by omega))
      have Ad : isV cL w7 (ar + 1 + 5) (ed) := Ad.kept (fun a h1 h2 => co6_0 a (by omega) (by omega))
      have Ao : isV cL w7 (ar + 8) (1) := Ao.kept (fun a h1 h2 => co6_0 a (by omega) (by omega))
      have Ap : isV cL w7 (ar + 12) (ep) := Ap.kept (fun a h1 h2 => co6_0 a (by omega) (by omega))
      have Ab : isV cL w7 (ar + 14) (eb) := Ab.kept (fun a h1 h2 => co6_0 a (by omega) (by omega))
      have av : isV cL w7 (qa + 1) (x) := av.kept (fun a h1 h2 => co6_0 a (by omega) (by omega))
      have bv : isV cL w7 (nb) (y) := bv.kept (fun a h1 h2 => co6_0 a (by omega) (by omega))
      have Au := hV9
      refine W.eq (g2 := F0 m 26 ls []) rfl ?_
      refine lv_goto (pc := 26) (tgt := 70) hx hb dAr_addSigned_26 (by decide) ?_
      refine lv_aload_n (pc := 70) hx hb dAr_addSigned_70 rfl (lv_at hl 1 rfl) ?_
      refine fw_get (pc := 71) (ci := 0) (v := .ref (ar + 10)) (C := RAr) (T := TAr) (N := 5) hx hb hW in_Ar hown hK.1 hw A0 rfl 2 (by decide) (hW _ lf_Ar_29) (fun _ h => h) rfl dAr_addSigned_71 ?_
      refine lv_iload (pc := 74) hx hb dAr_addSigned_74 (lv_at hl 0 rfl) ?_
      refine lv_aload_n (pc := 76) hx hb dAr_addSigned_76 rfl (lv_at hl 2 rfl) ?_
      refine fw_cS (pc := 77) (As := [.ref (ar + 10), .int (nI 1), .ref qa]) (rest := []) ⟨hx, hb, hml, hown, hW⟩ (c_Ar_store (neg := 1) (by decide) Au ⟨1, x, as, ap, ah, av, ae⟩ (by omega)) (va_cwS 3 hW (kw_S lm_Ar_62 sta_Ar_store ini_Ar cd_Ar_store) rfl rfl rfl (by decide +kernel) ⟨Nat.le_of_ble_eq_true rfl, Nat.le_of_ble_eq_true rfl⟩) hK hw rfl hl.1 rfl (Nat.le_of_ble_eq_true rfl) dAr_addSigned_77 ⟨Nat.le_of_ble_eq_true rfl, Nat.le_of_ble_eq_true rfl⟩ (fun v w8 H locs hq hw => ?_)
      obtain ⟨rfl, hI, fs9⟩ := hq
      have A0_ : w8 (ar) = some (.inr (0, [.ref (ar + 1), .ref (ar + 8), .ref (ar + 10), .ref (ar + 12), .ref (ar + 14)])) := (fs9 _ (by omega)).trans A0
      have A1_ : w8 (ar + 1) = some (.inr (3, [.ref (ar + 1 + 1), .ref (ar + 1 + 3), .ref (ar + 1 + 5)])) := (fs9 _ (by omega)).trans A1
      have A0 := A0_
      have A1 := A1_
      have Aq : isV cL w8 (ar + 1 + 1) (e_q) := Aq.kept (fun a h1 h2 => fs9 a (by omega))
      have Ar9 : isV cL w8 (ar + 1 + 3) (er) := Ar9.kept (fun a h1 h2 => fs9 a (by omega))
      have Ad : isV cL w8 (ar + 1 + 5) (ed) := Ad.kept (fun a h1 h2 => fs9 a (by omega))
      have Ao : isV cL w8 (ar + 8) (1) := Ao.kept (fun a h1 h2 => fs9 a (by omega))
      have Au : isV cL w8 (ar + 10) (x + y) := Au.kept (fun a h1 h2 => fs9 a (by omega))
      have Ap : isV cL w8 (ar + 12) (ep) := Ap.kept (fun a h1 h2 => fs9 a (by omega))
      have Ab : isV cL w8 (ar + 14) (eb) := Ab.kept (fun a h1 h2 => fs9 a (by omega))
      have bv : isV cL w8 (nb) (y) := bv.kept (fun a h1 h2 => fs9 a (by omega))
      refine W.eq (g2 := F0 m 80 ls [.int (nI (if x + y < 2 ^ 768 then 0 else 6))]) rfl ?_
      rw [← ae] at hI ⊢
      have hsum : wv 1 x + wv 1 y = wv 1 (x + y) := by rw [wv_1, wv_1, wv_1]; omega
      exact fw_iret (pc := 80) hx hb hr hlocks hw dAr_addSigned_80 ⟨by rw [hsum, sFit_1, wv_abs], by rw [hsum, sFit_2, wv_abs]; exact hI, ⟨A0, A1, ⟨_, Aq⟩, ⟨_, Ar9⟩, ⟨_, Ad⟩, Ao, ⟨_, Au⟩, ⟨_, Ap⟩, ⟨_, Ab⟩⟩, (fun q h1 h2 => by rw [fs9 q (by omega), co6_0 q (by omega) (by omega)])⟩
end AR1
