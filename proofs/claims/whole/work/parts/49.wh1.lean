theorem nk_zero {g : Nat → Nat} {k x : Nat} (hk : nk nB g k) (hv : nv nB g k = x) : k = 0 ↔ x = 0 := by
  constructor
  · intro h; subst h; rw [← hv]; rfl
  · intro h
    refine Classical.byContradiction fun h2 => ?_
    cases k with
    | zero => exact h2 rfl
    | succ k =>
      have h3 := nv_top (b := nB) (g := g) (n := k) (hk.2 (by omega))
      have h4 : 0 < nB ^ k := Nat.pow_pos (by decide)
      omega
/-! BigCalculator.Whole. Written by wip/gen/whole1.py. -/
section WH1
variable {l : Launch} {D : va_G} {cI cL cQ : ClassId} {z : kZ_T} {sz : Nat} {w : fw_W}
set_option maxHeartbeats 4000000 in
set_option maxRecDepth 100000 in
theorem c_Wh_signum {q x sg : Nat} (hsg : sg < 2) (h : w q = some (.inr (8, [.ref (q + 1), .int (nI sg)]))) (hv : isV cL w (q + 1) x) : fw_R l yWh_signum (Cond.code yWh_signum cWh_signum 1 (some FieldType.int) :: kWs) ({ frames := 1, cells := 0, slots := 0, locals := 20 } : Room) D kCl (kty cI cL cQ) z [.ref q] (sz) w (fun v => v = some (.int (if x = 0 then nI 0 else if sg = 0 then nI 1 else -1))) := by
  refine fw_ofR (cc := cWh_signum) (maxL := 1) (ret := (some FieldType.int)) (by decide) rfl (Nat.le_of_ble_eq_true rfl) ?_
  intro p e s m args below meth c hx hb hr hts hown hlocks hml hK H ls hH hw hl
  have hW : ∀ w ∈ kWs, w.before args s = true := fun w h => hts w (List.mem_cons_of_mem _ h)
  have hown : s.vm.findClass RWh = some m.cls := hown
  have hl : lv_has ls 1 [(0, .ref q)] := hl
  obtain ⟨g, k, ⟨n0, n1⟩, nk_, ng, nn, nv_⟩ := id hv
  have hxz : k = 0 ↔ x = 0 := nk_zero nn nv_
  refine lv_aload_n (pc := 0) hx hb dWh_signum_0 rfl (lv_at hl 0 rfl) ?_
  refine fw_get (pc := 1) (ci := 8) (v := .ref (q + 1)) (C := RWh) (T := TWh) (N := 2) hx hb hW in_Wh hown hK.1 hw h rfl 0 (by decide) (hW _ lf_Wh_10) (fun _ h => h) rfl dWh_signum_1 ?_
  by_cases hk0 : k = 0
  · refine fw_cVR (pc := 4) (As := []) (rest := []) ⟨hx, hb, hml, hown, hW⟩ (c_Na_isZero (by omega) n0) (cwV 0 hW (kw_V lm_Wh_28 im_Na_isZero se_Na_isZero ini_Na cd_Na_isZero) rfl rfl rfl (by decide +kernel) ⟨Nat.le_of_ble_eq_true rfl, Nat.le_of_ble_eq_true rfl⟩) hK hw n0 rfl rfl hl.1 rfl (Nat.le_of_ble_eq_true rfl) dWh_signum_4 ⟨Nat.le_of_ble_eq_true rfl, Nat.le_of_ble_eq_true rfl⟩ (fun v hq => ?_)
    rw [if_pos hk0] at hq
    subst hq
    refine W.eq (g2 := F0 m 7 ls [.int (nI 1)]) rfl ?_
    refine lv_if_eq (pc := 7) (tgt := 12) hx hb dWh_signum_7 (by decide) (fun hc => absurd hc (show ¬ nI 1 = 0 by decide)) (fun _ => ?_)
    refine lv_iconst (pc := 10) (v := (nI 0)) hx hb dWh_signum_10 (by decide) ?_
    exact fw_iretR (pc := 11) hx hb hr hlocks hH dWh_signum_11 (by rw [if_pos (hxz.mp hk0)])
  · refine fw_cVR (pc := 4) (As := []) (rest := []) ⟨hx, hb, hml, hown, hW⟩ (c_Na_isZero (by omega) n0) (cwV 0 hW (kw_V lm_Wh_28 im_Na_isZero se_Na_isZero ini_Na cd_Na_isZero) rfl rfl rfl (by decide +kernel) ⟨Nat.le_of_ble_eq_true rfl, Nat.le_of_ble_eq_true rfl⟩) hK hw n0 rfl rfl hl.1 rfl (Nat.le_of_ble_eq_true rfl) dWh_signum_4 ⟨Nat.le_of_ble_eq_true rfl, Nat.le_of_ble_eq_true rfl⟩ (fun v hq => ?_)
    rw [if_neg hk0] at hq
    subst hq
    refine W.eq (g2 := F0 m 7 ls [.int (nI 0)]) rfl ?_
    refine lv_if_eq (pc := 7) (tgt := 12) hx hb dWh_signum_7 (by decide) (fun _ => ?_) (fun hc => absurd (show nI 0 = 0 by decide) hc)
    refine lv_aload_n (pc := 12) hx hb dWh_signum_12 rfl (lv_at hl 0 rfl) ?_
    refine fw_get (pc := 13) (ci := 8) (v := .int (nI sg)) (C := RWh) (T := TWh) (N := 2) hx hb hW in_Wh hown hK.1 hw h rfl 1 (by decide) (hW _ lf_Wh_16) (fun _ h => h) rfl dWh_signum_13 ?_
    refine lv_if_eq (pc := 16) (tgt := 23) hx hb dWh_signum_16 (by decide) (fun hc => ?_) (fun hc => ?_)
    · have h0 : sg = 0 := Classical.byContradiction fun h9 => nI_ne0 (by omega) (by omega) hc
      refine lv_iconst (pc := 23) (v := (nI 1)) hx hb dWh_signum_23 (by decide) ?_
      exact fw_iretR (pc := 24) hx hb hr hlocks hH dWh_signum_24 (by rw [if_neg (fun h9 => hk0 (hxz.mpr h9)), if_pos h0])
    · have h0 : ¬ sg = 0 := fun h9 => hc (by rw [h9]; rfl)
      refine lv_iconst (pc := 19) (v := (-1)) hx hb dWh_signum_19 (by decide) ?_
      refine lv_goto (pc := 20) (tgt := 24) hx hb dWh_signum_20 (by decide) ?_
      exact fw_iretR (pc := 24) hx hb hr hlocks hH dWh_signum_24 (by rw [if_neg (fun h9 => hk0 (hxz.mpr h9)), if_neg h0])

set_option maxHeartbeats 4000000 in
set_option maxRecDepth 100000 in
theorem c_Wh_become {q q2 x y sg sg2 : Nat} (hsg : sg2 < 2) (hap : q2 + 2 < q ∨ q + 2 < q2) (h : w q = some (.inr (8, [.ref (q + 1), .int (nI sg)]))) (hv : isV cL w (q + 1) y) (h2 : w q2 = some (.inr (8, [.ref (q2 + 1), .int (nI sg2)]))) (hv2 : isV cL w (q2 + 1) x) : fw_C l yWh_become (Cond.code yWh_become cWh_become 2 none :: kWs) ({ frames := 2, cells := 0, slots := 0, locals := 39 } : Room) D kCl (kty cI cL cQ) z [.ref q, .ref q2] (sz) w 0 0 (fun v w' => v = none ∧ w' q = some (.inr (8, [.ref (q + 1), .int (nI sg2)])) ∧ isV cL w' (q + 1) x ∧ ∀ a, a < q ∨ q + 3 ≤ a → w' a = w a) := by
  refine fw_ofW (cc := cWh_become) (maxL := 2) (ret := none) (by decide) rfl (Nat.le_of_ble_eq_true rfl) ?_
  intro p e s m args below meth c hx hb hr hts hown hlocks hname hml hK H ls hw hl
  have hW : ∀ w ∈ kWs, w.before args s = true := fun w h => hts w (List.mem_cons_of_mem _ h)
  have hown : s.vm.findClass RWh = some m.cls := hown
  have hl : lv_has ls 2 [(0, .ref q), (1, .ref q2)] := hl
  have n0 : ∃ kk : Nat, w (q + 1) = some (.inr (5, [.ref (q + 1 + 1), .int (nI kk)])) := by obtain ⟨g, k, ⟨a, _⟩, _⟩ := hv; exact ⟨k, a⟩
  obtain ⟨k, n0⟩ := n0
  refine lv_aload_n (pc := 0) hx hb dWh_become_0 rfl (lv_at hl 0 rfl) ?_
  refine fw_get (pc := 1) (ci := 8) (v := .ref (q + 1)) (C := RWh) (T := TWh) (N := 2) hx hb hW in_Wh hown hK.1 hw h rfl 0 (by decide) (hW _ lf_Wh_10) (fun _ h => h) rfl dWh_become_1 ?_
  refine lv_aload_n (pc := 4) hx hb dWh_become_4 rfl (lv_at hl 1 rfl) ?_
  refine fw_get (pc := 5) (ci := 8) (v := .ref (q2 + 1)) (C := RWh) (T := TWh) (N := 2) hx hb hW in_Wh hown hK.1 hw h2 rfl 0 (by decide) (hW _ lf_Wh_10) (fun _ h => h) rfl dWh_become_5 ?_
  refine fw_cV (pc := 8) (As := [.ref (q2 + 1)]) (rest := []) ⟨hx, hb, hml, hown, hW⟩ (c_Na_become (by omega) hv hv2) (cwV 1 hW (kw_V lm_Wh_20 im_Na_become se_Na_become ini_Na cd_Na_become) rfl rfl rfl (by decide +kernel) ⟨Nat.le_of_ble_eq_true rfl, Nat.le_of_ble_eq_true rfl⟩) hK hw n0 rfl rfl hl.1 rfl (Nat.le_of_ble_eq_true rfl) dWh_become_8 ⟨Nat.le_of_ble_eq_true rfl, Nat.le_of_ble_eq_true rfl⟩ (fun v w1 H locs hq hw => ?_)
  obtain ⟨rfl, hV, co⟩ := hq
  have h_ : w1 (q) = some (.inr (8, [.ref (q + 1), .int (nI sg)])) := (co _ (by omega) (by omega)).trans h
  have h2_ : w1 (q2) = some (.inr (8, [.ref (q2 + 1), .int (nI sg2)])) := (co _ (by omega) (by omega)).trans h2
  have h := h_
  have h2 := h2_
  refine W.eq (g2 := F0 m 11 ls []) rfl ?_
  rcases (show sg2 = 0 ∨ sg2 = 1 by omega) with rfl | rfl
  · refine lv_aload_n (pc := 11) hx hb dWh_become_11 rfl (lv_at hl 0 rfl) ?_
    refine lv_aload_n (pc := 12) hx hb dWh_become_12 rfl (lv_at hl 1 rfl) ?_
    refine fw_get (pc := 13) (ci := 8) (v := .int (nI 0)) (C := RWh) (T := TWh) (N := 2) hx hb hW in_Wh hown hK.1 hw h2 rfl 1 (by decide) (hW _ lf_Wh_16) (fun _ h => h) rfl dWh_become_13 ?_
    refine fw_put (pc := 16) (ci := 8) (v := .int (nI 0)) (ty := .boolean) (C := RWh) (T := TWh) (N := 2) hx hb hW in_Wh tyWh tyWh_ok nmWh hown hK.1 hw h rfl 1 (by decide) (hW _ lf_Wh_16) (fun _ h => h) rfl (by decide +kernel) rfl rfl (Nat.le_of_ble_eq_true rfl) dWh_become_16 (fun H locs hw => ?_)
    obtain ⟨w2, e2⟩ : ∃ w_, w_ = fw_up w1 (q) (.inr (8, [.ref (q + 1), .int (nI 0)])) := ⟨_, rfl⟩
    have hw : fw_H D kCl (fw_A w (sz)) s.heap w2 (sz) H locs := by rw [e2]; exact hw
    have h2_ : w2 (q2) = some (.inr (8, [.ref (q2 + 1), .int (nI 0)])) := by rw [e2, fw_un (by omega)]; exact h2
    have h_ : w2 (q) = some (.inr (8, [.ref (q + 1), .int (nI 0)])) := by rw [e2]; exact fw_us _ _ _
    have h := h_
    have h2 := h2_
    exact fw_vret (pc := 19) hx hb hr hlocks hw dWh_become_19 ⟨rfl, h, hV.kept (fun a h1 h3 => by rw [e2, fw_un (by omega)]), fun a ha => by rw [e2, fw_un (by omega), co a (by omega) (by omega)]⟩
  · refine lv_aload_n (pc := 11) hx hb dWh_become_11 rfl (lv_at hl 0 rfl) ?_
    refine lv_aload_n (pc := 12) hx hb dWh_become_12 rfl (lv_at hl 1 rfl) ?_
    refine fw_get (pc := 13) (ci := 8) (v := .int (nI 1)) (C := RWh) (T := TWh) (N := 2) hx hb hW in_Wh hown hK.1 hw h2 rfl 1 (by decide) (hW _ lf_Wh_16) (fun _ h => h) rfl dWh_become_13 ?_
    refine fw_put (pc := 16) (ci := 8) (v := .int (nI 1)) (ty := .boolean) (C := RWh) (T := TWh) (N := 2) hx hb hW in_Wh tyWh tyWh_ok nmWh hown hK.1 hw h rfl 1 (by decide) (hW _ lf_Wh_16) (fun _ h => h) rfl (by decide +kernel) rfl rfl (Nat.le_of_ble_eq_true rfl) dWh_become_16 (fun H locs hw => ?_)
    obtain ⟨w3, e3⟩ : ∃ w_, w_ = fw_up w1 (q) (.inr (8, [.ref (q + 1), .int (nI 1)])) := ⟨_, rfl⟩
    have hw : fw_H D kCl (fw_A w (sz)) s.heap w3 (sz) H locs := by rw [e3]; exact hw
    have h2_ : w3 (q2) = some (.inr (8, [.ref (q2 + 1), .int (nI 1)])) := by rw [e3, fw_un (by omega)]; exact h2
    have h_ : w3 (q) = some (.inr (8, [.ref (q + 1), .int (nI 1)])) := by rw [e3]; exact fw_us _ _ _
    have h := h_
    have h2 := h2_
    exact fw_vret (pc := 19) hx hb hr hlocks hw dWh_become_19 ⟨rfl, h, hV.kept (fun a h1 h3 => by rw [e3, fw_un (by omega)]), fun a ha => by rw [e3, fw_un (by omega), co a (by omega) (by omega)]⟩
end WH1
