/-- the whole number of a sign and a magnitude -/
def wv (sg x : Nat) : Int := if sg = 0 then (x : Int) else -(x : Int)
/-- at q stands the whole number v -/
def isI (cL : ClassId) (w : fw_W) (q : Nat) (v : Int) : Prop := ∃ sg x : Nat, sg < 2 ∧ (sg = 1 → 0 < x) ∧ w q = some (.inr (8, [.ref (q + 1), .int (nI sg)])) ∧ isV cL w (q + 1) x ∧ wv sg x = v
theorem isI.kept {cL : ClassId} {w w' : fw_W} {q : Nat} {v : Int} (h : isI cL w q v) (hk : ∀ a, q ≤ a → a < q + 3 → w' a = w a) : isI cL w' q v := by
  obtain ⟨sg, x, h1, h2, h3, h4, h5⟩ := h
  exact ⟨sg, x, h1, h2, (hk q (by omega) (by omega)).trans h3, h4.kept (fun a h6 h7 => hk a (by omega) (by omega)), h5⟩
def ordZ (a b : Int) : Int32 := if a < b then -1 else if a = b then nI 0 else nI 1
theorem ordZ_lt {a b : Int} (h : a < b) : ordZ a b = -1 := if_pos h
theorem ordZ_gt {a b : Int} (h : b < a) : ordZ a b = nI 1 := (if_neg (by omega)).trans (if_neg (by omega))
theorem ordZ_eq {a b : Int} (h : a = b) : ordZ a b = nI 0 := (if_neg (by omega)).trans (if_pos h)
theorem ordZ_n (x y : Nat) : ordI x y = ordZ x y := by
  rcases Nat.lt_trichotomy x y with h | h | h
  · rw [ordI_lt h, ordZ_lt (by omega)]
  · rw [ordI_eq h, ordZ_eq (by omega)]
  · rw [ordI_gt h, ordZ_gt (by omega)]
theorem ordZ_neg (x y : Nat) : -(ordI x y) = ordZ (-(x : Int)) (-(y : Int)) := by
  rcases Nat.lt_trichotomy x y with h | h | h
  · rw [ordI_lt h, ordZ_gt (by omega)]; decide
  · rw [ordI_eq h, ordZ_eq (by omega)]; decide
  · rw [ordI_gt h, ordZ_lt (by omega)]; decide
theorem wv_0 (x : Nat) : wv 0 x = x := rfl
theorem wv_1 (x : Nat) : wv 1 x = -(x : Int) := rfl
/-! BigCalculator.Whole, second part. Written by wip/gen/whole2.py. -/
section WH2
variable {l : Launch} {D : va_G} {cI cL cQ : ClassId} {z : kZ_T} {sz : Nat} {w : fw_W}
set_option maxHeartbeats 4000000 in
set_option maxRecDepth 100000 in
theorem c_Wh_negate {q : Nat} {i : Int} (hi : isI cL w q i) : fw_C l yWh_negate (Cond.code yWh_negate cWh_negate 1 none :: kWs) ({ frames := 1, cells := 0, slots := 0, locals := 20 } : Room) D kCl (kty cI cL cQ) z [.ref q] (sz) w 0 0 (fun v w' => v = none ∧ isI cL w' q (-i) ∧ ∀ a, a < q ∨ q + 3 ≤ a → w' a = w a) := by
  refine fw_ofW (cc := cWh_negate) (maxL := 1) (ret := none) (by decide) rfl (Nat.le_of_ble_eq_true rfl) ?_
  intro p e s m args below meth c hx hb hr hts hown hlocks hname hml hK H ls hw hl
  have hW : ∀ w ∈ kWs, w.before args s = true := fun w h => hts w (List.mem_cons_of_mem _ h)
  have hown : s.vm.findClass RWh = some m.cls := hown
  have hl : lv_has ls 1 [(0, .ref q)] := hl
  obtain ⟨sg, x, as, ap, ah, av, ae⟩ := id hi
  have hv := av
  obtain ⟨g, k, ⟨n0, n1⟩, nk_, ng, nn, nv_⟩ := id hv
  have hxz : k = 0 ↔ x = 0 := nk_zero nn nv_
  rcases (show sg = 0 ∨ sg = 1 by omega) with rfl | rfl
  · refine lv_aload_n (pc := 0) hx hb dWh_negate_0 rfl (lv_at hl 0 rfl) ?_
    refine lv_aload_n (pc := 1) hx hb dWh_negate_1 rfl (lv_at hl 0 rfl) ?_
    refine fw_get (pc := 2) (ci := 8) (v := .int (nI 0)) (C := RWh) (T := TWh) (N := 2) hx hb hW in_Wh hown hK.1 hw ah rfl 1 (by decide) (hW _ lf_Wh_16) (fun _ h => h) rfl dWh_negate_2 ?_
    refine lv_if_ne (pc := 5) (tgt := 22) hx hb dWh_negate_5 (by decide) (fun hc => absurd hc (fun h => h (by decide))) (fun _ => ?_)
    refine lv_aload_n (pc := 8) hx hb dWh_negate_8 rfl (lv_at hl 0 rfl) ?_
    refine fw_get (pc := 9) (ci := 8) (v := .ref (q + 1)) (C := RWh) (T := TWh) (N := 2) hx hb hW in_Wh hown hK.1 hw ah rfl 0 (by decide) (hW _ lf_Wh_10) (fun _ h => h) rfl dWh_negate_9 ?_
    by_cases hk0 : k = 0
    · refine fw_cVR (pc := 12) (As := []) (rest := [.ref q]) ⟨hx, hb, hml, hown, hW⟩ (c_Na_isZero (by omega) n0) (cwV 0 hW (kw_V lm_Wh_28 im_Na_isZero se_Na_isZero ini_Na cd_Na_isZero) rfl rfl rfl (by decide +kernel) ⟨Nat.le_of_ble_eq_true rfl, Nat.le_of_ble_eq_true rfl⟩) hK hw n0 rfl rfl hl.1 rfl (Nat.le_of_ble_eq_true rfl) dWh_negate_12 ⟨Nat.le_of_ble_eq_true rfl, Nat.le_of_ble_eq_true rfl⟩ (fun v hq => ?_)
      rw [if_pos hk0] at hq
      subst hq
      refine W.eq (g2 := F0 m 15 ls [.int (nI 1), .ref q]) rfl ?_
      refine lv_if_ne (pc := 15) (tgt := 22) hx hb dWh_negate_15 (by decide) (fun _ => ?_) (fun hc => absurd hc (show ¬ nI 1 = 0 by decide))
      refine lv_iconst (pc := 22) (v := (nI 0)) hx hb dWh_negate_22 (by decide) ?_
      refine fw_put (pc := 23) (ci := 8) (v := .int (nI 0)) (ty := .boolean) (C := RWh) (T := TWh) (N := 2) hx hb hW in_Wh tyWh tyWh_ok nmWh hown hK.1 hw ah rfl 1 (by decide) (hW _ lf_Wh_16) (fun _ h => h) rfl (by decide +kernel) rfl rfl (Nat.le_of_ble_eq_true rfl) dWh_negate_23 (fun H locs hw => ?_)
      obtain ⟨w1, e1⟩ : ∃ w_, w_ = fw_up w (q) (.inr (8, [.ref (q + 1), .int (nI 0)])) := ⟨_, rfl⟩
      have hw : fw_H D kCl (fw_A w (sz)) s.heap w1 (sz) H locs := by rw [e1]; exact hw
      have n0_ : w1 (q + 1) = some (.inr (5, [.ref (q + 1 + 1), .int (nI k)])) := by rw [e1, fw_un (by omega)]; exact n0
      have ah_ : w1 (q) = some (.inr (8, [.ref (q + 1), .int (nI 0)])) := by rw [e1]; exact fw_us _ _ _
      have ah := ah_
      have n0 := n0_
      exact fw_vret (pc := 26) hx hb hr hlocks hw dWh_negate_26 ⟨rfl, ⟨0, x, by decide, fun h => by omega, ah, av.kept (fun a h1 h3 => by rw [e1, fw_un (by omega)]), by rw [← ae, wv_0, hxz.mp hk0]; rfl⟩, fun a ha => by rw [e1, fw_un (by omega)]⟩
    · refine fw_cVR (pc := 12) (As := []) (rest := [.ref q]) ⟨hx, hb, hml, hown, hW⟩ (c_Na_isZero (by omega) n0) (cwV 0 hW (kw_V lm_Wh_28 im_Na_isZero se_Na_isZero ini_Na cd_Na_isZero) rfl rfl rfl (by decide +kernel) ⟨Nat.le_of_ble_eq_true rfl, Nat.le_of_ble_eq_true rfl⟩) hK hw n0 rfl rfl hl.1 rfl (Nat.le_of_ble_eq_true rfl) dWh_negate_12 ⟨Nat.le_of_ble_eq_true rfl, Nat.le_of_ble_eq_true rfl⟩ (fun v hq => ?_)
      rw [if_neg hk0] at hq
      subst hq
      refine W.eq (g2 := F0 m 15 ls [.int (nI 0), .ref q]) rfl ?_
      refine lv_if_ne (pc := 15) (tgt := 22) hx hb dWh_negate_15 (by decide) (fun hc => absurd hc (fun h => h (by decide))) (fun _ => ?_)
      refine lv_iconst (pc := 18) (v := (nI 1)) hx hb dWh_negate_18 (by decide) ?_
      refine lv_goto (pc := 19) (tgt := 23) hx hb dWh_negate_19 (by decide) ?_
      refine fw_put (pc := 23) (ci := 8) (v := .int (nI 1)) (ty := .boolean) (C := RWh) (T := TWh) (N := 2) hx hb hW in_Wh tyWh tyWh_ok nmWh hown hK.1 hw ah rfl 1 (by decide) (hW _ lf_Wh_16) (fun _ h => h) rfl (by decide +kernel) rfl rfl (Nat.le_of_ble_eq_true rfl) dWh_negate_23 (fun H locs hw => ?_)
      obtain ⟨w1, e1⟩ : ∃ w_, w_ = fw_up w (q) (.inr (8, [.ref (q + 1), .int (nI 1)])) := ⟨_, rfl⟩
      have hw : fw_H D kCl (fw_A w (sz)) s.heap w1 (sz) H locs := by rw [e1]; exact hw
      have n0_ : w1 (q + 1) = some (.inr (5, [.ref (q + 1 + 1), .int (nI k)])) := by rw [e1, fw_un (by omega)]; exact n0
      have ah_ : w1 (q) = some (.inr (8, [.ref (q + 1), .int (nI 1)])) := by rw [e1]; exact fw_us _ _ _
      have ah := ah_
      have n0 := n0_
      exact fw_vret (pc := 26) hx hb hr hlocks hw dWh_negate_26 ⟨rfl, ⟨1, x, by decide, fun _ => Nat.pos_of_ne_zero (fun h9 => hk0 (hxz.mpr h9)), ah, av.kept (fun a h1 h3 => by rw [e1, fw_un (by omega)]), by rw [← ae, wv_0, wv_1]⟩, fun a ha => by rw [e1, fw_un (by omega)]⟩
  · refine lv_aload_n (pc := 0) hx hb dWh_negate_0 rfl (lv_at hl 0 rfl) ?_
    refine lv_aload_n (pc := 1) hx hb dWh_negate_1 rfl (lv_at hl 0 rfl) ?_
    refine fw_get (pc := 2) (ci := 8) (v := .int (nI 1)) (C := RWh) (T := TWh) (N := 2) hx hb hW in_Wh hown hK.1 hw ah rfl 1 (by decide) (hW _ lf_Wh_16) (fun _ h => h) rfl dWh_negate_2 ?_
    refine lv_if_ne (pc := 5) (tgt := 22) hx hb dWh_negate_5 (by decide) (fun _ => ?_) (fun hc => absurd hc (show ¬ nI 1 = 0 by decide))
    refine lv_iconst (pc := 22) (v := (nI 0)) hx hb dWh_negate_22 (by decide) ?_
    refine fw_put (pc := 23) (ci := 8) (v := .int (nI 0)) (ty := .boolean) (C := RWh) (T := TWh) (N := 2) hx hb hW in_Wh tyWh tyWh_ok nmWh hown hK.1 hw ah rfl 1 (by decide) (hW _ lf_Wh_16) (fun _ h => h) rfl (by decide +kernel) rfl rfl (Nat.le_of_ble_eq_true rfl) dWh_negate_23 (fun H locs hw => ?_)
    obtain ⟨w1, e1⟩ : ∃ w_, w_ = fw_up w (q) (.inr (8, [.ref (q + 1), .int (nI 0)])) := ⟨_, rfl⟩
    have hw : fw_H D kCl (fw_A w (sz)) s.heap w1 (sz) H locs := by rw [e1]; exact hw
    have n0_ : w1 (q + 1) = some (.inr (5, [.ref (q + 1 + 1), .int (nI k)])) := by rw [e1, fw_un (by omega)]; exact n0
    have ah_ : w1 (q) = some (.inr (8, [.ref (q + 1), .int (nI 0)])) := by rw [e1]; exact fw_us _ _ _
    have ah := ah_
    have n0 := n0_
    exact fw_vret (pc := 26) hx hb hr hlocks hw dWh_negate_26 ⟨rfl, ⟨0, x, by decide, fun h => by omega, ah, av.kept (fun a h1 h3 => by rw [e1, fw_un (by omega)]), by rw [← ae, wv_0, wv_1, Int.neg_neg]⟩, fun a ha => by rw [e1, fw_un (by omega)]⟩

set_option maxHeartbeats 4000000 in
set_option maxRecDepth 100000 in
theorem c_Wh_order {q q2 : Nat} {i j : Int} (hi : isI cL w q i) (hj : isI cL w q2 j) : fw_R l yWh_order (Cond.code yWh_order cWh_order 3 (some FieldType.int) :: kWs) ({ frames := 1, cells := 0, slots := 0, locals := 22 } : Room) D kCl (kty cI cL cQ) z [.ref q, .ref q2] (sz) w (fun v => v = some (.int (ordZ i j))) := by
  refine fw_ofR (cc := cWh_order) (maxL := 3) (ret := (some FieldType.int)) (by decide) rfl (Nat.le_of_ble_eq_true rfl) ?_
  intro p e s m args below meth c hx hb hr hts hown hlocks hml hK H ls hH hw hl
  have hW : ∀ w ∈ kWs, w.before args s = true := fun w h => hts w (List.mem_cons_of_mem _ h)
  have hown : s.vm.findClass RWh = some m.cls := hown
  have hl : lv_has ls 3 [(0, .ref q), (1, .ref q2)] := hl
  obtain ⟨sg, x, as, ap, ah, av, ae⟩ := id hi
  obtain ⟨sg2, y, bs, bp, bh, bv, be⟩ := id hj
  have n0 : ∃ kk : Nat, w (q + 1) = some (.inr (5, [.ref (q + 1 + 1), .int (nI kk)])) := by obtain ⟨g, k, ⟨a, _⟩, _⟩ := av; exact ⟨k, a⟩
  obtain ⟨k, n0⟩ := n0
  rcases (show sg = 0 ∨ sg = 1 by omega) with rfl | rfl
  · rcases (show sg2 = 0 ∨ sg2 = 1 by omega) with rfl | rfl
    · refine lv_aload_n (pc := 0) hx hb dWh_order_0 rfl (lv_at hl 0 rfl) ?_
      refine fw_get (pc := 1) (ci := 8) (v := .int (nI 0)) (C := RWh) (T := TWh) (N := 2) hx hb hW in_Wh hown hK.1 hw ah rfl 1 (by decide) (hW _ lf_Wh_16) (fun _ h => h) rfl dWh_order_1 ?_
      refine lv_aload_n (pc := 4) hx hb dWh_order_4 rfl (lv_at hl 1 rfl) ?_
      refine fw_get (pc := 5) (ci := 8) (v := .int (nI 0)) (C := RWh) (T := TWh) (N := 2) hx hb hW in_Wh hown hK.1 hw bh rfl 1 (by decide) (hW _ lf_Wh_16) (fun _ h => h) rfl dWh_order_5 ?_
      refine lv_icmp_eq (pc := 8) (tgt := 24) hx hb dWh_order_8 (by decide) (fun _ => ?_) (fun hc => absurd rfl hc)
      refine lv_aload_n (pc := 24) hx hb dWh_order_24 rfl (lv_at hl 0 rfl) ?_
      refine fw_get (pc := 25) (ci := 8) (v := .ref (q + 1)) (C := RWh) (T := TWh) (N := 2) hx hb hW in_Wh hown hK.1 hw ah rfl 0 (by decide) (hW _ lf_Wh_10) (fun _ h => h) rfl dWh_order_25 ?_
      refine lv_aload_n (pc := 28) hx hb dWh_order_28 rfl (lv_at hl 1 rfl) ?_
      refine fw_get (pc := 29) (ci := 8) (v := .ref (q2 + 1)) (C := RWh) (T := TWh) (N := 2) hx hb hW in_Wh hown hK.1 hw bh rfl 0 (by decide) (hW _ lf_Wh_10) (fun _ h => h) rfl dWh_order_29 ?_
      refine fw_cVR (pc := 32) (As := [.ref (q2 + 1)]) (rest := []) ⟨hx, hb, hml, hown, hW⟩ (c_Na_order av bv) (cwV 1 hW (kw_V lm_Wh_32 im_Na_order se_Na_order ini_Na cd_Na_order) rfl rfl rfl (by decide +kernel) ⟨Nat.le_of_ble_eq_true rfl, Nat.le_of_ble_eq_true rfl⟩) hK hw n0 rfl rfl hl.1 rfl (Nat.le_of_ble_eq_true rfl) dWh_order_32 ⟨Nat.le_of_ble_eq_true rfl, Nat.le_of_ble_eq_true rfl⟩ (fun v hq => ?_)
      subst hq
      refine W.eq (g2 := F0 m 35 ls [.int (ordI x y)]) rfl ?_
      refine lv_istore_n (pc := 35) (lv' := [(2, .int (ordI x y)), (0, .ref q), (1, .ref q2)]) hx hb dWh_order_35 rfl hl (by decide) rfl (fun ls hl => ?_)
      refine lv_aload_n (pc := 36) hx hb dWh_order_36 rfl (lv_at hl 1 rfl) ?_
      refine fw_get (pc := 37) (ci := 8) (v := .int (nI 0)) (C := RWh) (T := TWh) (N := 2) hx hb hW in_Wh hown hK.1 hw ah rfl 1 (by decide) (hW _ lf_Wh_16) (fun _ h => h) rfl dWh_order_37 ?_
      refine lv_if_eq (pc := 40) (tgt := 48) hx hb dWh_order_40 (by decide) (fun _ => ?_) (fun hc => absurd (show nI 0 = 0 by decide) hc)
      refine lv_iload_n (pc := 48) hx hb dWh_order_48 rfl (lv_at hl 0 rfl) ?_
      exact fw_iretR (pc := 49) hx hb hr hlocks hH dWh_order_49 (by rw [← ae, ← be, wv_0, wv_0, ordZ_n])
    · refine lv_aload_n (pc := 0) hx hb dWh_order_0 rfl (lv_at hl 0 rfl) ?_
      refine fw_get (pc := 1) (ci := 8) (v := .int (nI 0)) (C := RWh) (T := TWh) (N := 2) hx hb hW in_Wh hown hK.1 hw ah rfl 1 (by decide) (hW _ lf_Wh_16) (fun _ h => h) rfl dWh_order_1 ?_
      refine lv_aload_n (pc := 4) hx hb dWh_order_4 rfl (lv_at hl 1 rfl) ?_
      refine fw_get (pc := 5) (ci := 8) (v := .int (nI 1)) (C := RWh) (T := TWh) (N := 2) hx hb hW in_Wh hown hK.1 hw bh rfl 1 (by decide) (hW _ lf_Wh_16) (fun _ h => h) rfl dWh_order_5 ?_
      refine lv_icmp_eq (pc := 8) (tgt := 24) hx hb dWh_order_8 (by decide) (fun hc => absurd hc (by decide)) (fun _ => ?_)
      refine lv_aload_n (pc := 11) hx hb dWh_order_11 rfl (lv_at hl 0 rfl) ?_
      refine fw_get (pc := 12) (ci := 8) (v := .int (nI 0)) (C := RWh) (T := TWh) (N := 2) hx hb hW in_Wh hown hK.1 hw ah rfl 1 (by decide) (hW _ lf_Wh_16) (fun _ h => h) rfl dWh_order_12 ?_
      refine lv_if_eq (pc := 15) (tgt := 22) hx hb dWh_order_15 (by decide) (fun _ => ?_) (fun hc => absurd (show nI 0 = 0 by decide) hc)
      refine lv_iconst (pc := 22) (v := (nI 1)) hx hb dWh_order_22 (by decide) ?_
      exact fw_iretR (pc := 23) hx hb hr hlocks hH dWh_order_23 (by rw [← ae, ← be, wv_0, wv_1]; rw [ordZ_gt (by have := bp rfl; omega)])
  · rcases (show sg2 = 0 ∨ sg2 = 1 by omega) with rfl | rfl
    · refine lv_aload_n (pc := 0) hx hb dWh_order_0 rfl (lv_at hl 0 rfl) ?_
      refine fw_get (pc := 1) (ci := 8) (v := .int (nI 1)) (C := RWh) (T := TWh) (N := 2) hx hb hW in_Wh hown hK.1 hw ah rfl 1 (by decide) (hW _ lf_Wh_16) (fun _ h => h) rfl dWh_order_1 ?_
      refine lv_aload_n (pc := 4) hx hb dWh_order_4 rfl (lv_at hl 1 rfl) ?_
      refine fw_get (pc := 5) (ci := 8) (v := .int (nI 0)) (C := RWh) (T := TWh) (N := 2) hx hb hW in_Wh hown hK.1 hw bh rfl 1 (by decide) (hW _ lf_Wh_16) (fun _ h => h) rfl dWh_order_5 ?_
      refine lv_icmp_eq (pc := 8) (tgt := 24) hx hb dWh_order_8 (by decide) (fun hc => absurd hc (by decide)) (fun _ => ?_)
      refine lv_aload_n (pc := 11) hx hb dWh_order_11 rfl (lv_at hl 0 rfl) ?_
      refine fw_get (pc := 12) (ci := 8) (v := .int (nI 1)) (C := RWh) (T := TWh) (N := 2) hx hb hW in_Wh hown hK.1 hw ah rfl 1 (by decide) (hW _ lf_Wh_16) (fun _ h => h) rfl dWh_order_12 ?_
      refine lv_if_eq (pc := 15) (tgt := 22) hx hb dWh_order_15 (by decide) (fun hc => absurd hc (show ¬ nI 1 = 0 by decide)) (fun _ => ?_)
      refine lv_iconst (pc := 18) (v := (-1)) hx hb dWh_order_18 (by decide) ?_
      refine lv_goto (pc := 19) (tgt := 23) hx hb dWh_order_19 (by decide) ?_
      exact fw_iretR (pc := 23) hx hb hr hlocks hH dWh_order_23 (by rw [← ae, ← be, wv_0, wv_1]; rw [ordZ_lt (by have := ap rfl; omega)])
    · refine lv_aload_n (pc := 0) hx hb dWh_order_0 rfl (lv_at hl 0 rfl) ?_
      refine fw_get (pc := 1) (ci := 8) (v := .int (nI 1)) (C := RWh) (T := TWh) (N := 2) hx hb hW in_Wh hown hK.1 hw ah rfl 1 (by decide) (hW _ lf_Wh_16) (fun _ h => h) rfl dWh_order_1 ?_
      refine lv_aload_n (pc := 4) hx hb dWh_order_4 rfl (lv_at hl 1 rfl) ?_
      refine fw_get (pc := 5) (ci := 8) (v := .int (nI 1)) (C := RWh) (T := TWh) (N := 2) hx hb hW in_Wh hown hK.1 hw bh rfl 1 (by decide) (hW _ lf_Wh_16) (fun _ h => h) rfl dWh_order_5 ?_
      refine lv_icmp_eq (pc := 8) (tgt := 24) hx hb dWh_order_8 (by decide) (fun _ => ?_) (fun hc => absurd rfl hc)
      refine lv_aload_n (pc := 24) hx hb dWh_order_24 rfl (lv_at hl 0 rfl) ?_
      refine fw_get (pc := 25) (ci := 8) (v := .ref (q + 1)) (C := RWh) (T := TWh) (N := 2) hx hb hW in_Wh hown hK.1 hw ah rfl 0 (by decide) (hW _ lf_Wh_10) (fun _ h => h) rfl dWh_order_25 ?_
      refine lv_aload_n (pc := 28) hx hb dWh_order_28 rfl (lv_at hl 1 rfl) ?_
      refine fw_get (pc := 29) (ci := 8) (v := .ref (q2 + 1)) (C := RWh) (T := TWh) (N := 2) hx hb hW in_Wh hown hK.1 hw bh rfl 0 (by decide) (hW _ lf_Wh_10) (fun _ h => h) rfl dWh_order_29 ?_
      refine fw_cVR (pc := 32) (As := [.ref (q2 + 1)]) (rest := []) ⟨hx, hb, hml, hown, hW⟩ (c_Na_order av bv) (cwV 1 hW (kw_V lm_Wh_32 im_Na_order se_Na_order ini_Na cd_Na_order) rfl rfl rfl (by decide +kernel) ⟨Nat.le_of_ble_eq_true rfl, Nat.le_of_ble_eq_true rfl⟩) hK hw n0 rfl rfl hl.1 rfl (Nat.le_of_ble_eq_true rfl) dWh_order_32 ⟨Nat.le_of_ble_eq_true rfl, Nat.le_of_ble_eq_true rfl⟩ (fun v hq => ?_)
      subst hq
      refine W.eq (g2 := F0 m 35 ls [.int (ordI x y)]) rfl ?_
      refine lv_istore_n (pc := 35) (lv' := [(2, .int (ordI x y)), (0, .ref q), (1, .ref q2)]) hx hb dWh_order_35 rfl hl (by decide) rfl (fun ls hl => ?_)
      refine lv_aload_n (pc := 36) hx hb dWh_order_36 rfl (lv_at hl 1 rfl) ?_
      refine fw_get (pc := 37) (ci := 8) (v := .int (nI 1)) (C := RWh) (T := TWh) (N := 2) hx hb hW in_Wh hown hK.1 hw ah rfl 1 (by decide) (hW _ lf_Wh_16) (fun _ h => h) rfl dWh_order_37 ?_
      refine lv_if_eq (pc := 40) (tgt := 48) hx hb dWh_order_40 (by decide) (fun hc => absurd hc (show ¬ nI 1 = 0 by decide)) (fun _ => ?_)
      refine lv_iload_n (pc := 43) hx hb dWh_order_43 rfl (lv_at hl 0 rfl) ?_
      refine lv_ineg (pc := 44) hx hb dWh_order_44 ?_
      refine lv_goto (pc := 45) (tgt := 49) hx hb dWh_order_45 (by decide) ?_
      exact fw_iretR (pc := 49) hx hb hr hlocks hH dWh_order_49 (by rw [← ae, ← be, wv_1, wv_1, ordZ_neg])
end WH2
