theorem trS.kept {cI : ClassId} {w w' : fw_W} {tr : Nat} {s : TS} (h : trS cI w tr s) (hk : ∀ q, tr ≤ q → q < tr + 6 → w' q = w q) : trS cI w' tr s :=
  ⟨(hk _ (by omega) (by omega)).trans h.1, (hk _ (by omega) (by omega)).trans h.2.1, (hk _ (by omega) (by omega)).trans h.2.2.1, (hk _ (by omega) (by omega)).trans h.2.2.2.1, (hk _ (by omega) (by omega)).trans h.2.2.2.2.1, (hk _ (by omega) (by omega)).trans h.2.2.2.2.2⟩
theorem bcS.dec {cI cL cQ : ClassId} {w w' : fw_W} {b e : Nat} {I : Nat → Nat} {J : Nat → Nat → Nat} {V G : Nat → Nat} (h : bcS cI cL cQ w b I J V G) (hv : isV cL w' (b + 84) e) (hk : ∀ q, q ≠ b + 84 → q ≠ b + 84 + 1 → w' q = w q) : bcS cI cL cQ w' b I J (va_up V 25 e) G := by
  obtain ⟨⟨b0, b1, b2, b3⟩, ⟨c0, c1, c2, c3, c4, c5⟩, ⟨m0, m1, m2, m3, m4, m5⟩, hR, hV, hN, hD⟩ := h
  refine ⟨⟨(hk _ (by omega) (by omega)).trans b0, (hk _ (by omega) (by omega)).trans b1, (hk _ (by omega) (by omega)).trans b2, (hk _ (by omega) (by omega)).trans b3⟩, ⟨(hk _ (by omega) (by omega)).trans c0, (hk _ (by omega) (by omega)).trans c1, (hk _ (by omega) (by omega)).trans c2, (hk _ (by omega) (by omega)).trans c3, (hk _ (by omega) (by omega)).trans c4, (hk _ (by omega) (by omega)).trans c5⟩, ⟨(hk _ (by omega) (by omega)).trans m0, (hk _ (by omega) (by omega)).trans m1, (hk _ (by omega) (by omega)).trans m2, (hk _ (by omega) (by omega)).trans m3, (hk _ (by omega) (by omega)).trans m4, (hk _ (by omega) (by omega)).trans m5⟩, fun i hi => ?_, fun i hi => ?_, fun i hi => ?_, ?_⟩
  · rw [up_o (show i ≠ 25 by omega)]; exact ⟨(hk _ (by omega) (by omega)).trans (hR i hi).1, (hR i hi).2.kept (fun a h1 h2 => hk a (by omega) (by omega))⟩
  · rw [up_o (show 10 + i ≠ 25 by omega)]; exact ⟨(hk _ (by omega) (by omega)).trans (hV i hi).1, (hV i hi).2.kept (fun a h1 h2 => hk a (by omega) (by omega))⟩
  · rw [up_o (show 18 + i ≠ 25 by omega)]; exact (hN i hi).kept (fun a h1 h2 => hk a (by omega) (by omega))
  · rw [up_s]; exact hv
theorem bcS.cmp {cI cL cQ : ClassId} {w w' : fw_W} {b : Nat} {I I' : Nat → Nat} {J J' : Nat → Nat → Nat} {V G : Nat → Nat} (h : bcS cI cL cQ w b I J V G) (h1 : w' (b + 1) = some (.inr (6, [.ref (b + 2), .ref (b + 3), .int (nI (I' 0))]))) (hT : trS cI w' (b + 4) (J' 2, J' 3, I' 1, J' 4, J' 5, I' 2, I' 3)) (hM : w' (b + 10) = some (.inr (4, [.ref (b + 11), .ref (b + 42), .int (nI (I' 4)), .int (nI (I' 5)), .int (nI (I' 6)), .int (nI (I' 7)), .ref (b + 67)])))
    (hj0 : J' 0 = J 0) (hj1 : J' 1 = J 1) (hk : ∀ q, q < b + 1 ∨ q = b + 2 ∨ q = b + 3 ∨ b + 11 ≤ q → w' q = w q) : bcS cI cL cQ w' b I' J' V G := by
  obtain ⟨⟨b0, b1, b2, b3⟩, _, ⟨m0, m1, m2, m3, m4, m5⟩, hR, hV, hN, hD⟩ := h
  refine ⟨⟨(hk _ (by omega)).trans b0, h1, by rw [hj0]; exact (hk _ (by omega)).trans b2, by rw [hj1]; exact (hk _ (by omega)).trans b3⟩, hT, ⟨hM, (hk _ (by omega)).trans m1, (hk _ (by omega)).trans m2, (hk _ (by omega)).trans m3, (hk _ (by omega)).trans m4, (hk _ (by omega)).trans m5⟩, fun i hi => ?_, fun i hi => ?_, fun i hi => ?_, ?_⟩
  · exact ⟨(hk _ (by omega)).trans (hR i hi).1, (hR i hi).2.kept (fun a h1 h2 => hk a (by omega))⟩
  · exact ⟨(hk _ (by omega)).trans (hV i hi).1, (hV i hi).2.kept (fun a h1 h2 => hk a (by omega))⟩
  · exact (hN i hi).kept (fun a h1 h2 => hk a (by omega))
  · exact hD.kept (fun a h1 h2 => hk a (by omega))
/-- the ints behind a run of the machine -/
def mI (I : Nat → Nat) (s : MS) : Nat → Nat := fun i => if i = 4 then s.1 else if i = 5 then s.2.1 else if i = 6 then s.2.2.1 else if i = 7 then s.2.2.2.1 else I i
theorem mOk_R {o : Nat → Nat} {sz : Nat} {s : MS} (h : mOk o sz s) (i : Nat) : (s.2.2.2.2 i).natAbs < 2 ^ 768 := by
  obtain ⟨a, b, c, d, R⟩ := s
  exact h.2.2.2.2.2.2 i
theorem mRun_ok {o v : Nat → Nat} {Y : Nat → Int} {sz : Nat} (hc : cOk o v sz) (hY : ∀ i, (Y i).natAbs < 2 ^ 768) (k : Nat) : ∀ {s : MS}, mOk o sz s → mOk o sz (mRun o v Y sz k s) := by
  induction k with
  | zero => exact fun h => h
  | succ k ih =>
    intro s h
    obtain ⟨nx, us, mo, fa, R⟩ := s
    by_cases hn : nx < sz ∧ fa = 0
    · rw [show mRun o v Y sz (k + 1) (nx, us, mo, fa, R) = mRun o v Y sz k (mStep o v Y (nx, us, mo, fa, R)) from if_pos hn]
      exact ih (mStep_ok hc hY h hn.1)
    · rw [show mRun o v Y sz (k + 1) (nx, us, mo, fa, R) = (nx, us, mo, fa, R) from if_neg hn]
      exact h
/-- what compile makes of the tokens -/
def cT (I : Nat → Nat) (J : Nat → Nat → Nat) : Nat × TS := tTr (J 0) (J 1) (I 0) (I 0) 0 (J 2, J 3, 0, J 4, J 5, 0, 0)
def cA (I : Nat → Nat) (J : Nat → Nat → Nat) : Int32 := match cT I J with
  | (a, (o, _, n, _, _, _, _)) => if a = 0 ∧ mx o n ≤ 10 then nI 0 else if a = 0 then -2 else nI a
def cI9 (I : Nat → Nat) (J : Nat → Nat → Nat) : Nat → Nat := match cT I J with
  | (a, (o, _, n, _, _, d, x)) => fun i => if i = 1 then (if a = 0 ∧ mx o n ≤ 10 then n else 0) else if i = 2 then d else if i = 3 then x else 0
def cJ9 (I : Nat → Nat) (J : Nat → Nat → Nat) : Nat → Nat → Nat := match cT I J with
  | (_, (o, v, _, t, c, _, _)) => fun j => if j = 0 then J 0 else if j = 1 then J 1 else if j = 2 then o else if j = 3 then v else if j = 4 then t else c
theorem tTr_le (K U : Nat → Nat) (m : Nat) : ∀ (r i : Nat), i + r = m → ∀ (s : TS), (tTr K U m r i s).1 ≤ m + 1 := by
  intro r
  induction r with
  | zero =>
    intro i hi s
    obtain ⟨o, v, n, t, c, d, x⟩ := s
    obtain ⟨o1, v1, n1, d1, hr⟩ : ∃ o1 v1 n1 d1, rl 1 t d o v n = (o1, v1, n1, d1) := ⟨_, _, _, _, rfl⟩
    by_cases hx : x = 1
    · rw [tFi_eq hx hr]; show (if d1 = 0 then 0 else m + 1) ≤ m + 1; split <;> omega
    · rw [show tTr K U m 0 i (o, v, n, t, c, d, x) = (m + 1, (o, v, n, t, c, d, x)) from if_neg hx]; exact Nat.le_refl _
  | succ r ih =>
    intro i hi s
    by_cases hac : (tAc (K i) (U i) s).1 = true
    · rw [show tTr K U m (r + 1) i s = tTr K U m r (i + 1) (tAc (K i) (U i) s).2 from if_pos hac]; exact ih (i + 1) (by omega) _
    · rw [show tTr K U m (r + 1) i s = (i + 1, (tAc (K i) (U i) s).2) from if_neg hac]; show i + 1 ≤ m + 1; omega
/-! BigCalculator's own small methods, with their throws. Written by wip/gen/bc4.py. -/
section BC4
variable {l : Launch} {D : va_G} {cI cL cQ : ClassId} {tO tB tC : Nat} {sa : Nat → Nat} {sz : Nat} {w : fw_W}
set_option maxHeartbeats 4000000 in
set_option maxRecDepth 100000 in
theorem c_Bc_sign {b : Nat} {I : Nat → Nat} {J : Nat → Nat → Nat} {V G : Nat → Nat} (hS : bcS cI cL cQ w b I J V G) (h0 : 0 < I 1) (h1 : I 1 < 2 ^ 31) (h4 : I 4 = I 1) (hG : gOk V G) : fw_R l yBc_sign (Cond.code yBc_sign cBc_sign 1 (some FieldType.int) :: kWs) ({ frames := 2, cells := 0, slots := 0, locals := 40 } : Room) D kCl (kty cI cL cQ) (kz tO tB tC sa) [.ref b] (sz) w (fun r => r = some (.int (if V 0 = 0 then nI 0 else if G 0 = 0 then nI 1 else -1))) := by
  refine fw_ofR (cc := cBc_sign) (maxL := 1) (ret := (some FieldType.int)) (by decide) rfl (Nat.le_of_ble_eq_true rfl) ?_
  intro p e s m args below meth c hx hb hr hts hown hlocks hml hK H ls hH hw hl
  have hW : ∀ w ∈ kWs, w.before args s = true := fun w h => hts w (List.mem_cons_of_mem _ h)
  have hown : s.vm.findClass RBc = some m.cls := hown
  have hl : lv_has ls 1 [(0, .ref b)] := hl
  obtain ⟨⟨b0, b1, b2, b3⟩, ⟨c0, c1, c2, c3, c4, c5⟩, ⟨m0, m1, m2, m3, m4, m5⟩, hR, hV, hN, hD⟩ := id hS
  refine lv_aload_n (pc := 0) hx hb dBc_sign_0 rfl (lv_at hl 0 rfl) ?_
  refine fw_cVR (pc := 1) (As := []) (rest := []) ⟨hx, hb, hml, hown, hW⟩ (c_Bc_result hS h0 h1 h4) (cwV 0 hW (kw_V lm_Bc_84 im_Bc_result se_Bc_result ini_Bc cd_Bc_result) rfl rfl rfl (by decide +kernel) ⟨Nat.le_of_ble_eq_true rfl, Nat.le_of_ble_eq_true rfl⟩) hK hw b0 rfl rfl hl.1 rfl (Nat.le_of_ble_eq_true rfl) dBc_sign_1 ⟨Nat.le_of_ble_eq_true rfl, Nat.le_of_ble_eq_true rfl⟩ (fun v hq => ?_)
  subst hq
  refine W.eq (g2 := F0 m 4 ls [.ref (b + 12)]) rfl ?_
  have r0 : w (b + 12) = some (.inr (8, [.ref (b + 12 + 1), .int (nI (G 0))])) := (hR 0 (by decide)).1
  have rv : isV cL w (b + 12 + 1) (V 0) := (hR 0 (by decide)).2
  refine fw_cVR (pc := 4) (As := []) (rest := []) ⟨hx, hb, hml, hown, hW⟩ (c_Wh_signum (hG.2 0 (by decide)).1 r0 rv) (cwV 0 hW (kw_V lm_Bc_101 im_Wh_signum se_Wh_signum ini_Wh cd_Wh_signum) rfl rfl rfl (by decide +kernel) ⟨Nat.le_of_ble_eq_true rfl, Nat.le_of_ble_eq_true rfl⟩) hK hw r0 rfl rfl hl.1 rfl (Nat.le_of_ble_eq_true rfl) dBc_sign_4 ⟨Nat.le_of_ble_eq_true rfl, Nat.le_of_ble_eq_true rfl⟩ (fun v hq => ?_)
  subst hq
  refine W.eq (g2 := F0 m 7 ls [.int (if V 0 = 0 then nI 0 else if G 0 = 0 then nI 1 else -1)]) rfl ?_
  exact fw_iretR (pc := 7) hx hb hr hlocks hH dBc_sign_7 rfl

set_option maxHeartbeats 4000000 in
set_option maxRecDepth 100000 in
theorem c_Bc_limb {b : Nat} {I : Nat → Nat} {J : Nat → Nat → Nat} {V G : Nat → Nat} (hS : bcS cI cL cQ w b I J V G) (h0 : 0 < I 1) (h1 : I 1 < 2 ^ 31) (h4 : I 4 = I 1) {i : Nat} (hi : i < 24) : fw_R l yBc_limb (Cond.code yBc_limb cBc_limb 3 (some FieldType.long) :: kWs) ({ frames := 2, cells := 0, slots := 0, locals := 40 } : Room) D kCl (kty cI cL cQ) (kz tO tB tC sa) [.ref b, .int (nI i)] (sz) w (fun r => r = some (.long (lN (V 0 / nB ^ i % nB)))) := by
  refine fw_ofR (cc := cBc_limb) (maxL := 3) (ret := (some FieldType.long)) (by decide) rfl (Nat.le_of_ble_eq_true rfl) ?_
  intro p e s m args below meth c hx hb hr hts hown hlocks hml hK H ls hH hw hl
  have hW : ∀ w ∈ kWs, w.before args s = true := fun w h => hts w (List.mem_cons_of_mem _ h)
  have hown : s.vm.findClass RBc = some m.cls := hown
  have hl : lv_has ls 3 [(0, .ref b), (1, .int (nI i))] := hl
  obtain ⟨⟨b0, b1, b2, b3⟩, ⟨c0, c1, c2, c3, c4, c5⟩, ⟨m0, m1, m2, m3, m4, m5⟩, hR, hV, hN, hD⟩ := id hS
  refine lv_aload_n (pc := 0) hx hb dBc_limb_0 rfl (lv_at hl 0 rfl) ?_
  refine fw_cVR (pc := 1) (As := []) (rest := []) ⟨hx, hb, hml, hown, hW⟩ (c_Bc_result hS h0 h1 h4) (cwV 0 hW (kw_V lm_Bc_84 im_Bc_result se_Bc_result ini_Bc cd_Bc_result) rfl rfl rfl (by decide +kernel) ⟨Nat.le_of_ble_eq_true rfl, Nat.le_of_ble_eq_true rfl⟩) hK hw b0 rfl rfl hl.1 rfl (Nat.le_of_ble_eq_true rfl) dBc_limb_1 ⟨Nat.le_of_ble_eq_true rfl, Nat.le_of_ble_eq_true rfl⟩ (fun v hq => ?_)
  subst hq
  refine W.eq (g2 := F0 m 4 ls [.ref (b + 12)]) rfl ?_
  have r0 : w (b + 12) = some (.inr (8, [.ref (b + 12 + 1), .int (nI (G 0))])) := (hR 0 (by decide)).1
  have rv : isV cL w (b + 12 + 1) (V 0) := (hR 0 (by decide)).2
  refine fw_get (pc := 4) (ci := 8) (v := .ref (b + 12 + 1)) (C := RWh) (T := TWh) (N := 2) hx hb hW in_Wh hown hK.1 hw r0 rfl 0 (by decide) (hW _ lf_Bc_104) (fun _ h => h) rfl dBc_limb_4 ?_
  refine lv_astore_n (pc := 7) (lv' := [(2, .ref (b + 12 + 1)), (0, .ref b), (1, .int (nI i))]) hx hb dBc_limb_7 rfl hl (by decide) rfl (fun ls hl => ?_)
  refine lv_iload_n (pc := 8) hx hb dBc_limb_8 rfl (lv_at hl 2 rfl) ?_
  refine lv_if_lt (pc := 9) (tgt := 18) hx hb dBc_limb_9 (by decide) (fun hc => absurd hc (nI_pos (by omega))) (fun _ => ?_)
  refine lv_iload_n (pc := 12) hx hb dBc_limb_12 rfl (lv_at hl 2 rfl) ?_
  refine lv_bipush (pc := 13) (v := (nI 24)) hx hb dBc_limb_13 (by decide) ?_
  refine lv_icmp_lt (pc := 15) (tgt := 28) hx hb dBc_limb_15 (by decide) (fun _ => ?_) (fun hc => absurd (nI_lt (b := 24) hi (by decide)) hc)
  obtain ⟨g, k, ⟨n0, n1⟩, nk_, ng, nn, nv_⟩ := id rv
  refine lv_aload_n (pc := 28) hx hb dBc_limb_28 rfl (lv_at hl 0 rfl) ?_
  refine lv_iload_n (pc := 29) hx hb dBc_limb_29 rfl (lv_at hl 2 rfl) ?_
  refine fw_cVR (pc := 30) (As := [.int (nI i)]) (rest := []) ⟨hx, hb, hml, hown, hW⟩ (c_Na_limbAt nk_ (by omega) n0 n1) (cwV 1 hW (kw_V lm_Bc_113 im_Na_limbAt se_Na_limbAt ini_Na cd_Na_limbAt) rfl rfl rfl (by decide +kernel) ⟨Nat.le_of_ble_eq_true rfl, Nat.le_of_ble_eq_true rfl⟩) hK hw n0 rfl rfl hl.1 rfl (Nat.le_of_ble_eq_true rfl) dBc_limb_30 ⟨Nat.le_of_ble_eq_true rfl, Nat.le_of_ble_eq_true rfl⟩ (fun v hq => ?_)
  rw [nv_limb (b := nB) (by decide) nn.1, nv_] at hq
  subst hq
  refine W.eq (g2 := F0 m 33 ls [.long (lN (V 0 / nB ^ i % nB))]) rfl ?_
  exact fw_lretR (pc := 33) hx hb hr hlocks hH dBc_limb_33 rfl

set_option maxHeartbeats 4000000 in
set_option maxRecDepth 100000 in
theorem c_Bc_compare {b : Nat} {I : Nat → Nat} {J : Nat → Nat → Nat} {V G : Nat → Nat} (hS : bcS cI cL cQ w b I J V G) (h0 : 0 < I 1) (h1 : I 1 < 2 ^ 31) (h4 : I 4 = I 1) (hG : gOk V G) {j : Nat} (hj : j < 8) : fw_R l yBc_compare (Cond.code yBc_compare cBc_compare 3 (some FieldType.int) :: kWs) ({ frames := 2, cells := 0, slots := 0, locals := 44 } : Room) D kCl (kty cI cL cQ) (kz tO tB tC sa) [.ref b, .int (nI j)] (sz) w (fun r => r = some (.int (ordZ (wv (G 0) (V 0)) (wv (G (10 + j)) (V (10 + j)))))) := by
  refine fw_ofR (cc := cBc_compare) (maxL := 3) (ret := (some FieldType.int)) (by decide) rfl (Nat.le_of_ble_eq_true rfl) ?_
  intro p e s m args below meth c hx hb hr hts hown hlocks hml hK H ls hH hw hl
  have hW : ∀ w ∈ kWs, w.before args s = true := fun w h => hts w (List.mem_cons_of_mem _ h)
  have hown : s.vm.findClass RBc = some m.cls := hown
  have hl : lv_has ls 3 [(0, .ref b), (1, .int (nI j))] := hl
  obtain ⟨⟨b0, b1, b2, b3⟩, ⟨c0, c1, c2, c3, c4, c5⟩, ⟨m0, m1, m2, m3, m4, m5⟩, hR, hV, hN, hD⟩ := id hS
  refine lv_aload_n (pc := 0) hx hb dBc_compare_0 rfl (lv_at hl 0 rfl) ?_
  refine lv_iload_n (pc := 1) hx hb dBc_compare_1 rfl (lv_at hl 1 rfl) ?_
  refine fw_cVR (pc := 2) (As := [.int (nI j)]) (rest := []) ⟨hx, hb, hml, hown, hW⟩ (c_Bc_variable hS hj) (cwV 1 hW (kw_V lm_Bc_74 im_Bc_variable se_Bc_variable ini_Bc cd_Bc_variable) rfl rfl rfl (by decide +kernel) ⟨Nat.le_of_ble_eq_true rfl, Nat.le_of_ble_eq_true rfl⟩) hK hw b0 rfl rfl hl.1 rfl (Nat.le_of_ble_eq_true rfl) dBc_compare_2 ⟨Nat.le_of_ble_eq_true rfl, Nat.le_of_ble_eq_true rfl⟩ (fun v hq => ?_)
  subst hq
  refine W.eq (g2 := F0 m 5 ls [.ref (b + 43 + 3 * j)]) rfl ?_
  refine lv_astore_n (pc := 5) (lv' := [(2, .ref (b + 43 + 3 * j)), (0, .ref b), (1, .int (nI j))]) hx hb dBc_compare_5 rfl hl (by decide) rfl (fun ls hl => ?_)
  refine lv_aload_n (pc := 6) hx hb dBc_compare_6 rfl (lv_at hl 1 rfl) ?_
  refine fw_cVR (pc := 7) (As := []) (rest := []) ⟨hx, hb, hml, hown, hW⟩ (c_Bc_result hS h0 h1 h4) (cwV 0 hW (kw_V lm_Bc_84 im_Bc_result se_Bc_result ini_Bc cd_Bc_result) rfl rfl rfl (by decide +kernel) ⟨Nat.le_of_ble_eq_true rfl, Nat.le_of_ble_eq_true rfl⟩) hK hw b0 rfl rfl hl.1 rfl (Nat.le_of_ble_eq_true rfl) dBc_compare_7 ⟨Nat.le_of_ble_eq_true rfl, Nat.le_of_ble_eq_true rfl⟩ (fun v hq => ?_)
  subst hq
  refine W.eq (g2 := F0 m 10 ls [.ref (b + 12)]) rfl ?_
  have r0 : w (b + 12) = some (.inr (8, [.ref (b + 12 + 1), .int (nI (G 0))])) := (hR 0 (by decide)).1
  have rv : isV cL w (b + 12 + 1) (V 0) := (hR 0 (by decide)).2
  refine lv_aload_n (pc := 10) hx hb dBc_compare_10 rfl (lv_at hl 0 rfl) ?_
  refine fw_cVR (pc := 11) (As := [.ref (b + 43 + 3 * j)]) (rest := []) ⟨hx, hb, hml, hown, hW⟩ (c_Wh_order (i := wv (G 0) (V 0)) (j := wv (G (10 + j)) (V (10 + j))) ⟨G 0, V 0, (hG.2 0 (by decide)).1, (hG.2 0 (by decide)).2.1, r0, rv, rfl⟩ ⟨G (10 + j), V (10 + j), (hG.2 (10 + j) (by omega)).1, (hG.2 (10 + j) (by omega)).2.1, (hV j hj).1, (hV j hj).2, rfl⟩) (cwV 1 hW (kw_V lm_Bc_125 im_Wh_order se_Wh_order ini_Wh cd_Wh_order) rfl rfl rfl (by decide +kernel) ⟨Nat.le_of_ble_eq_true rfl, Nat.le_of_ble_eq_true rfl⟩) hK hw r0 rfl rfl hl.1 rfl (Nat.le_of_ble_eq_true rfl) dBc_compare_11 ⟨Nat.le_of_ble_eq_true rfl, Nat.le_of_ble_eq_true rfl⟩ (fun v hq => ?_)
  subst hq
  refine W.eq (g2 := F0 m 14 ls [.int (ordZ (wv (G 0) (V 0)) (wv (G (10 + j)) (V (10 + j))))]) rfl ?_
  exact fw_iretR (pc := 14) hx hb hr hlocks hH dBc_compare_14 rfl

set_option maxHeartbeats 4000000 in
set_option maxRecDepth 100000 in
theorem c_Bc_keep {b : Nat} {I : Nat → Nat} {J : Nat → Nat → Nat} {V G : Nat → Nat} (hS : bcS cI cL cQ w b I J V G) (h0 : 0 < I 1) (h1 : I 1 < 2 ^ 31) (h4 : I 4 = I 1) (hG : gOk V G) {j : Nat} (hj : j < 8) : fw_C l yBc_keep (Cond.code yBc_keep cBc_keep 3 none :: kWs) ({ frames := 3, cells := 0, slots := 0, locals := 60 } : Room) D kCl (kty cI cL cQ) (kz tO tB tC sa) [.ref b, .int (nI j)] (sz) w 0 0 (fun r w' => r = none ∧ bcS cI cL cQ w' b I J (va_up V (10 + j) (V 0)) (va_up G (10 + j) (G 0)) ∧ ∀ q, q < b ∨ b + 86 ≤ q → w' q = w q) := by
  refine fw_ofW (cc := cBc_keep) (maxL := 3) (ret := none) (by decide) rfl (Nat.le_of_ble_eq_true rfl) ?_
  intro p e s m args below meth c hx hb hr hts hown hlocks hname hml hK H ls hw hl
  have hW : ∀ w ∈ kWs, w.before args s = true := fun w h => hts w (List.mem_cons_of_mem _ h)
  have hown : s.vm.findClass RBc = some m.cls := hown
  have hl : lv_has ls 3 [(0, .ref b), (1, .int (nI j))] := hl
  obtain ⟨⟨b0, b1, b2, b3⟩, ⟨c0, c1, c2, c3, c4, c5⟩, ⟨m0, m1, m2, m3, m4, m5⟩, hR, hV, hN, hD⟩ := id hS
  refine lv_aload_n (pc := 0) hx hb dBc_keep_0 rfl (lv_at hl 0 rfl) ?_
  refine lv_iload_n (pc := 1) hx hb dBc_keep_1 rfl (lv_at hl 1 rfl) ?_
  refine fw_cVR (pc := 2) (As := [.int (nI j)]) (rest := []) ⟨hx, hb, hml, hown, hW⟩ (c_Bc_variable hS hj) (cwV 1 hW (kw_V lm_Bc_74 im_Bc_variable se_Bc_variable ini_Bc cd_Bc_variable) rfl rfl rfl (by decide +kernel) ⟨Nat.le_of_ble_eq_true rfl, Nat.le_of_ble_eq_true rfl⟩) hK hw b0 rfl rfl hl.1 rfl (Nat.le_of_ble_eq_true rfl) dBc_keep_2 ⟨Nat.le_of_ble_eq_true rfl, Nat.le_of_ble_eq_true rfl⟩ (fun v hq => ?_)
  subst hq
  refine W.eq (g2 := F0 m 5 ls [.ref (b + 43 + 3 * j)]) rfl ?_
  refine lv_astore_n (pc := 5) (lv' := [(2, .ref (b + 43 + 3 * j)), (0, .ref b), (1, .int (nI j))]) hx hb dBc_keep_5 rfl hl (by decide) rfl (fun ls hl => ?_)
  refine lv_aload_n (pc := 6) hx hb dBc_keep_6 rfl (lv_at hl 0 rfl) ?_
  refine lv_aload_n (pc := 7) hx hb dBc_keep_7 rfl (lv_at hl 1 rfl) ?_
  refine fw_cVR (pc := 8) (As := []) (rest := [.ref (b + 43 + 3 * j)]) ⟨hx, hb, hml, hown, hW⟩ (c_Bc_result hS h0 h1 h4) (cwV 0 hW (kw_V lm_Bc_84 im_Bc_result se_Bc_result ini_Bc cd_Bc_result) rfl rfl rfl (by decide +kernel) ⟨Nat.le_of_ble_eq_true rfl, Nat.le_of_ble_eq_true rfl⟩) hK hw b0 rfl rfl hl.1 rfl (Nat.le_of_ble_eq_true rfl) dBc_keep_8 ⟨Nat.le_of_ble_eq_true rfl, Nat.le_of_ble_eq_true rfl⟩ (fun v hq => ?_)
  subst hq
  refine W.eq (g2 := F0 m 11 ls [.ref (b + 12), .ref (b + 43 + 3 * j)]) rfl ?_
  have r0 : w (b + 12) = some (.inr (8, [.ref (b + 12 + 1), .int (nI (G 0))])) := (hR 0 (by decide)).1
  have rv : isV cL w (b + 12 + 1) (V 0) := (hR 0 (by decide)).2
  have v0 := (hV j hj).1
  refine fw_cV (pc := 11) (As := [.ref (b + 12)]) (rest := []) ⟨hx, hb, hml, hown, hW⟩ (c_Wh_become (hG.2 0 (by decide)).1 (by omega) v0 (hV j hj).2 r0 rv) (cwV 1 hW (kw_V lm_Bc_88 im_Wh_become se_Wh_become ini_Wh cd_Wh_become) rfl rfl rfl (by decide +kernel) ⟨Nat.le_of_ble_eq_true rfl, Nat.le_of_ble_eq_true rfl⟩) hK hw v0 rfl rfl hl.1 rfl (Nat.le_of_ble_eq_true rfl) dBc_keep_11 ⟨Nat.le_of_ble_eq_true rfl, Nat.le_of_ble_eq_true rfl⟩ (fun v w1 H locs hq hw => ?_)
  obtain ⟨rfl, u0, u1, ho⟩ := hq
  refine W.eq (g2 := F0 m 14 ls []) rfl ?_
  exact fw_vret (pc := 14) hx hb hr hlocks hw dBc_keep_14 ⟨rfl, bcS.var hS hj u0 u1 ho, fun q hq => ho q (by omega)⟩

set_option maxHeartbeats 4000000 in
set_option maxRecDepth 100000 in
theorem c_Bc_digit {b : Nat} {I : Nat → Nat} {J : Nat → Nat → Nat} {V G : Nat → Nat} (hS : bcS cI cL cQ w b I J V G) (h0 : 0 < I 1) (h1 : I 1 < 2 ^ 31) (h4 : I 4 = I 1) (hG : gOk V G) {i : Nat} (hi : i < 2 ^ 31) : fw_C l yBc_digit (Cond.code yBc_digit cBc_digit 3 (some FieldType.int) :: kWs) ({ frames := 3, cells := 0, slots := 0, locals := 71 } : Room) D kCl (kty cI cL cQ) (kz tO tB tC sa) [.ref b, .int (nI i)] (sz) w 0 0 (fun r w' => r = some (.int (nI (V 0 / 10 ^ i % 10))) ∧ (∃ e4, bcS cI cL cQ w' b I J (va_up V 25 e4) G) ∧ ∀ q, q < b ∨ b + 86 ≤ q → w' q = w q) := by
  refine fw_ofW (cc := cBc_digit) (maxL := 3) (ret := (some FieldType.int)) (by decide) rfl (Nat.le_of_ble_eq_true rfl) ?_
  intro p e s m args below meth c hx hb hr hts hown hlocks hname hml hK H ls hw hl
  have hW : ∀ w ∈ kWs, w.before args s = true := fun w h => hts w (List.mem_cons_of_mem _ h)
  have hown : s.vm.findClass RBc = some m.cls := hown
  have hl : lv_has ls 3 [(0, .ref b), (1, .int (nI i))] := hl
  obtain ⟨⟨b0, b1, b2, b3⟩, ⟨c0, c1, c2, c3, c4, c5⟩, ⟨m0, m1, m2, m3, m4, m5⟩, hR, hV, hN, hD⟩ := id hS
  refine lv_aload_n (pc := 0) hx hb dBc_digit_0 rfl (lv_at hl 0 rfl) ?_
  refine fw_cVR (pc := 1) (As := []) (rest := []) ⟨hx, hb, hml, hown, hW⟩ (c_Bc_result hS h0 h1 h4) (cwV 0 hW (kw_V lm_Bc_84 im_Bc_result se_Bc_result ini_Bc cd_Bc_result) rfl rfl rfl (by decide +kernel) ⟨Nat.le_of_ble_eq_true rfl, Nat.le_of_ble_eq_true rfl⟩) hK hw b0 rfl rfl hl.1 rfl (Nat.le_of_ble_eq_true rfl) dBc_digit_1 ⟨Nat.le_of_ble_eq_true rfl, Nat.le_of_ble_eq_true rfl⟩ (fun v hq => ?_)
  subst hq
  refine W.eq (g2 := F0 m 4 ls [.ref (b + 12)]) rfl ?_
  have r0 : w (b + 12) = some (.inr (8, [.ref (b + 12 + 1), .int (nI (G 0))])) := (hR 0 (by decide)).1
  have rv : isV cL w (b + 12 + 1) (V 0) := (hR 0 (by decide)).2
  refine fw_get (pc := 4) (ci := 8) (v := .ref (b + 12 + 1)) (C := RWh) (T := TWh) (N := 2) hx hb hW in_Wh hown hK.1 hw r0 rfl 0 (by decide) (hW _ lf_Bc_104) (fun _ h => h) rfl dBc_digit_4 ?_
  refine lv_astore_n (pc := 7) (lv' := [(2, .ref (b + 12 + 1)), (0, .ref b), (1, .int (nI i))]) hx hb dBc_digit_7 rfl hl (by decide) rfl (fun ls hl => ?_)
  refine lv_iload_n (pc := 8) hx hb dBc_digit_8 rfl (lv_at hl 2 rfl) ?_
  refine lv_if_ge (pc := 9) (tgt := 22) hx hb dBc_digit_9 (by decide) (fun _ => ?_) (fun hc => absurd (Int32.not_lt.mp (nI_pos hi)) hc)
  refine lv_aload_n (pc := 22) hx hb dBc_digit_22 rfl (lv_at hl 1 rfl) ?_
  refine fw_get (pc := 23) (ci := 9) (v := .ref (b + 83)) (C := RBc) (T := TBc) (N := 4) hx hb hW in_Bc hown hK.1 hw b0 rfl 3 (by decide) (hW _ lf_Bc_33) (fun _ h => h) rfl dBc_digit_23 ?_
  refine lv_aload_n (pc := 26) hx hb dBc_digit_26 rfl (lv_at hl 0 rfl) ?_
  refine lv_iload_n (pc := 27) hx hb dBc_digit_27 rfl (lv_at hl 2 rfl) ?_
  refine fw_cV (pc := 28) (As := [.ref (b + 12 + 1), .int (nI i)]) (rest := []) ⟨hx, hb, hml, hown, hW⟩ (c_De_digitAt m5 hD rv (by omega) (hG.2 0 (by decide)).2.2 hi) (cwV 2 hW (kw_V lm_Bc_121 im_De_digitAt se_De_digitAt ini_De cd_De_digitAt) rfl rfl rfl (by decide +kernel) ⟨Nat.le_of_ble_eq_true rfl, Nat.le_of_ble_eq_true rfl⟩) hK hw m5 rfl rfl hl.1 rfl (Nat.le_of_ble_eq_true rfl) dBc_digit_28 ⟨Nat.le_of_ble_eq_true rfl, Nat.le_of_ble_eq_true rfl⟩ (fun v w1 H locs hq hw => ?_)
  obtain ⟨rfl, ⟨e4, u4⟩, ho⟩ := hq
  refine W.eq (g2 := F0 m 31 ls [.int (nI (V 0 / 10 ^ i % 10))]) rfl ?_
  exact fw_iret (pc := 31) hx hb hr hlocks hw dBc_digit_31 ⟨rfl, ⟨e4, bcS.dec hS u4 (fun q h7 h8 => ho q h7 h8)⟩, fun q hq => ho q (by omega) (by omega)⟩

set_option maxHeartbeats 4000000 in
set_option maxRecDepth 100000 in
theorem c_Bc_count6 {b : Nat} {I : Nat → Nat} {J : Nat → Nat → Nat} {V G : Nat → Nat} (hS : bcS cI cL cQ w b I J V G) (h0 : 0 < I 1) (h1 : I 1 < 2 ^ 31) (h4 : I 4 = I 1) (hG : gOk V G) : fw_R l yBc_count (Cond.code yBc_count cBc_count 2 (some FieldType.int) :: kWs) ({ frames := 4, cells := 0, slots := 0, locals := 83 } : Room) D kCl (kty cI cL cQ) (kz tO tB tC sa) [.ref b, .int (nI 6)] (sz) w (fun r => r = some (.int (nI (bl (V 0))))) := by
  refine fw_ofR (cc := cBc_count) (maxL := 2) (ret := (some FieldType.int)) (by decide) rfl (Nat.le_of_ble_eq_true rfl) ?_
  intro p e s m args below meth c hx hb hr hts hown hlocks hml hK H ls hH hw hl
  have hW : ∀ w ∈ kWs, w.before args s = true := fun w h => hts w (List.mem_cons_of_mem _ h)
  have hown : s.vm.findClass RBc = some m.cls := hown
  have hl : lv_has ls 2 [(0, .ref b), (1, .int (nI 6))] := hl
  obtain ⟨⟨b0, b1, b2, b3⟩, ⟨c0, c1, c2, c3, c4, c5⟩, ⟨m0, m1, m2, m3, m4, m5⟩, hR, hV, hN, hD⟩ := id hS
  refine lv_iload_n (pc := 0) hx hb dBc_count_0 rfl (lv_at hl 1 rfl) ?_
  refine lv_tableIn (pc := 1) (tgt := 104) hx hb dBc_count_1 (by decide) (by decide) rfl (by decide) ?_
  refine lv_aload_n (pc := 104) hx hb dBc_count_104 rfl (lv_at hl 0 rfl) ?_
  refine fw_cVR (pc := 105) (As := []) (rest := []) ⟨hx, hb, hml, hown, hW⟩ (c_Bc_hasResult hS h1 (by omega)) (cwV 0 hW (kw_V lm_Bc_138 im_Bc_hasResult se_Bc_hasResult ini_Bc cd_Bc_hasResult) rfl rfl rfl (by decide +kernel) ⟨Nat.le_of_ble_eq_true rfl, Nat.le_of_ble_eq_true rfl⟩) hK hw b0 rfl rfl hl.1 rfl (Nat.le_of_ble_eq_true rfl) dBc_count_105 ⟨Nat.le_of_ble_eq_true rfl, Nat.le_of_ble_eq_true rfl⟩ (fun v hq => ?_)
  subst hq
  rw [if_pos ⟨h0, h4⟩]
  refine W.eq (g2 := F0 m 108 ls [.int (nI 1)]) rfl ?_
  refine lv_if_eq (pc := 108) (tgt := 129) hx hb dBc_count_108 (by decide) (fun hc => absurd hc (show ¬ nI 1 = 0 by decide)) (fun _ => ?_)
  refine lv_aload_n (pc := 111) hx hb dBc_count_111 rfl (lv_at hl 0 rfl) ?_
  refine fw_get (pc := 112) (ci := 9) (v := .ref (b + 10)) (C := RBc) (T := TBc) (N := 4) hx hb hW in_Bc hown hK.1 hw b0 rfl 2 (by decide) (hW _ lf_Bc_26) (fun _ h => h) rfl dBc_count_112 ?_
  refine fw_get (pc := 115) (ci := 4) (v := .ref (b + 11)) (C := RMa) (T := TMa) (N := 7) hx hb hW in_Ma hown hK.1 hw m0 rfl 0 (by decide) (hW _ lf_Bc_142) (fun _ h => h) rfl dBc_count_115 ?_
  refine lv_iconst (pc := 118) (v := (nI 0)) hx hb dBc_count_118 (by decide) ?_
  refine fw_aaldN (pc := 119) (x := b + 12) (C := "BigCalculator$Whole") hx hb hK.1 hw 2 m1 rfl (0) (by decide) (by decide) (rfl) dBc_count_119 ?_
  have r0 : w (b + 12) = some (.inr (8, [.ref (b + 12 + 1), .int (nI (G 0))])) := (hR 0 (by decide)).1
  have rv : isV cL w (b + 12 + 1) (V 0) := (hR 0 (by decide)).2
  obtain ⟨k, n0⟩ := rv.ob
  refine fw_get (pc := 120) (ci := 8) (v := .ref (b + 12 + 1)) (C := RWh) (T := TWh) (N := 2) hx hb hW in_Wh hown hK.1 hw r0 rfl 0 (by decide) (hW _ lf_Bc_104) (fun _ h => h) rfl dBc_count_120 ?_
  refine fw_cVR (pc := 123) (As := []) (rest := []) ⟨hx, hb, hml, hown, hW⟩ (c_Na_bits rv) (cwV 0 hW (kw_V lm_Bc_146 im_Na_bits se_Na_bits ini_Na cd_Na_bits) rfl rfl rfl (by decide +kernel) ⟨Nat.le_of_ble_eq_true rfl, Nat.le_of_ble_eq_true rfl⟩) hK hw n0 rfl rfl hl.1 rfl (Nat.le_of_ble_eq_true rfl) dBc_count_123 ⟨Nat.le_of_ble_eq_true rfl, Nat.le_of_ble_eq_true rfl⟩ (fun v hq => ?_)
  subst hq
  refine W.eq (g2 := F0 m 126 ls [.int (nI (bl (V 0)))]) rfl ?_
  refine lv_goto (pc := 126) (tgt := 130) hx hb dBc_count_126 (by decide) ?_
  exact fw_iretR (pc := 130) hx hb hr hlocks hH dBc_count_130 rfl

set_option maxHeartbeats 4000000 in
set_option maxRecDepth 100000 in
theorem c_Bc_count7 {b : Nat} {I : Nat → Nat} {J : Nat → Nat → Nat} {V G : Nat → Nat} (hS : bcS cI cL cQ w b I J V G) (h0 : 0 < I 1) (h1 : I 1 < 2 ^ 31) (h4 : I 4 = I 1) (hG : gOk V G) : fw_C l yBc_count (Cond.code yBc_count cBc_count 2 (some FieldType.int) :: kWs) ({ frames := 4, cells := 0, slots := 0, locals := 83 } : Room) D kCl (kty cI cL cQ) (kz tO tB tC sa) [.ref b, .int (nI 7)] (sz) w 0 0 (fun r w' => (∃ c, r = some (.int (nI c)) ∧ isDl (V 0) c ∧ c < 2 ^ 31) ∧ (∃ e4, bcS cI cL cQ w' b I J (va_up V 25 e4) G) ∧ ∀ q, q < b ∨ b + 86 ≤ q → w' q = w q) := by
  refine fw_ofW (cc := cBc_count) (maxL := 2) (ret := (some FieldType.int)) (by decide) rfl (Nat.le_of_ble_eq_true rfl) ?_
  intro p e s m args below meth c hx hb hr hts hown hlocks hname hml hK H ls hw hl
  have hW : ∀ w ∈ kWs, w.before args s = true := fun w h => hts w (List.mem_cons_of_mem _ h)
  have hown : s.vm.findClass RBc = some m.cls := hown
  have hl : lv_has ls 2 [(0, .ref b), (1, .int (nI 7))] := hl
  obtain ⟨⟨b0, b1, b2, b3⟩, ⟨c0, c1, c2, c3, c4, c5⟩, ⟨m0, m1, m2, m3, m4, m5⟩, hR, hV, hN, hD⟩ := id hS
  refine lv_iload_n (pc := 0) hx hb dBc_count_0 rfl (lv_at hl 1 rfl) ?_
  refine lv_tableIn (pc := 1) (tgt := 131) hx hb dBc_count_1 (by decide) (by decide) rfl (by decide) ?_
  refine lv_aload_n (pc := 131) hx hb dBc_count_131 rfl (lv_at hl 0 rfl) ?_
  refine fw_cVR (pc := 132) (As := []) (rest := []) ⟨hx, hb, hml, hown, hW⟩ (c_Bc_hasResult hS h1 (by omega)) (cwV 0 hW (kw_V lm_Bc_138 im_Bc_hasResult se_Bc_hasResult ini_Bc cd_Bc_hasResult) rfl rfl rfl (by decide +kernel) ⟨Nat.le_of_ble_eq_true rfl, Nat.le_of_ble_eq_true rfl⟩) hK hw b0 rfl rfl hl.1 rfl (Nat.le_of_ble_eq_true rfl) dBc_count_132 ⟨Nat.le_of_ble_eq_true rfl, Nat.le_of_ble_eq_true rfl⟩ (fun v hq => ?_)
  subst hq
  rw [if_pos ⟨h0, h4⟩]
  refine W.eq (g2 := F0 m 135 ls [.int (nI 1)]) rfl ?_
  refine lv_if_eq (pc := 135) (tgt := 160) hx hb dBc_count_135 (by decide) (fun hc => absurd hc (show ¬ nI 1 = 0 by decide)) (fun _ => ?_)
  refine lv_aload_n (pc := 138) hx hb dBc_count_138 rfl (lv_at hl 0 rfl) ?_
  refine fw_get (pc := 139) (ci := 9) (v := .ref (b + 83)) (C := RBc) (T := TBc) (N := 4) hx hb hW in_Bc hown hK.1 hw b0 rfl 3 (by decide) (hW _ lf_Bc_33) (fun _ h => h) rfl dBc_count_139 ?_
  refine lv_aload_n (pc := 142) hx hb dBc_count_142 rfl (lv_at hl 0 rfl) ?_
  refine fw_get (pc := 143) (ci := 9) (v := .ref (b + 10)) (C := RBc) (T := TBc) (N := 4) hx hb hW in_Bc hown hK.1 hw b0 rfl 2 (by decide) (hW _ lf_Bc_26) (fun _ h => h) rfl dBc_count_143 ?_
  refine fw_get (pc := 146) (ci := 4) (v := .ref (b + 11)) (C := RMa) (T := TMa) (N := 7) hx hb hW in_Ma hown hK.1 hw m0 rfl 0 (by decide) (hW _ lf_Bc_142) (fun _ h => h) rfl dBc_count_146 ?_
  refine lv_iconst (pc := 149) (v := (nI 0)) hx hb dBc_count_149 (by decide) ?_
  refine fw_aaldN (pc := 150) (x := b + 12) (C := "BigCalculator$Whole") hx hb hK.1 hw 2 m1 rfl (0) (by decide) (by decide) (rfl) dBc_count_150 ?_
  have r0 : w (b + 12) = some (.inr (8, [.ref (b + 12 + 1), .int (nI (G 0))])) := (hR 0 (by decide)).1
  have rv : isV cL w (b + 12 + 1) (V 0) := (hR 0 (by decide)).2
  refine fw_get (pc := 151) (ci := 8) (v := .ref (b + 12 + 1)) (C := RWh) (T := TWh) (N := 2) hx hb hW in_Wh hown hK.1 hw r0 rfl 0 (by decide) (hW _ lf_Bc_104) (fun _ h => h) rfl dBc_count_151 ?_
  refine fw_cV (pc := 154) (As := [.ref (b + 12 + 1)]) (rest := []) ⟨hx, hb, hml, hown, hW⟩ (c_De_length m5 hD rv (by omega) (hG.2 0 (by decide)).2.2) (cwV 1 hW (kw_V lm_Bc_149 im_De_length se_De_length ini_De cd_De_length) rfl rfl rfl (by decide +kernel) ⟨Nat.le_of_ble_eq_true rfl, Nat.le_of_ble_eq_true rfl⟩) hK hw m5 rfl rfl hl.1 rfl (Nat.le_of_ble_eq_true rfl) dBc_count_154 ⟨Nat.le_of_ble_eq_true rfl, Nat.le_of_ble_eq_true rfl⟩ (fun v w1 H locs hq hw => ?_)
  obtain ⟨⟨cn, rfl, hc1, hc2⟩, ⟨e4, u4⟩, ho⟩ := hq
  refine W.eq (g2 := F0 m 157 ls [.int (nI cn)]) rfl ?_
  refine lv_goto (pc := 157) (tgt := 161) hx hb dBc_count_157 (by decide) ?_
  exact fw_iret (pc := 161) hx hb hr hlocks hw dBc_count_161 ⟨⟨cn, rfl, hc1, hc2⟩, ⟨e4, bcS.dec hS u4 (fun q h7 h8 => ho q h7 h8)⟩, fun q hq => ho q (by omega) (by omega)⟩

set_option maxHeartbeats 4000000 in
set_option maxRecDepth 100000 in
theorem c_Bc_run {b : Nat} {I : Nat → Nat} {J : Nat → Nat → Nat} {V G : Nat → Nat} (hS : bcS cI cL cQ w b I J V G) (hG : gOk V G) {n : Nat} (hn : n ≤ 10000) (h1 : 0 < I 1) (hC : cOk (J 2) (J 3) (I 1)) (hO : mOk (J 2) (I 1) (I 4, I 5, I 6, I 7, rV V G)) : fw_C l yBc_run (Cond.code yBc_run cBc_run 2 (some FieldType.int) :: kWs) ({ frames := 8, cells := 0, slots := 0, locals := 203 } : Room) D kCl (kty cI cL cQ) (kz tO tB tC sa) [.ref b, .int (nI n)] (sz) w 0 0 (fun r w' => r = some (.int (nI (mAns (I 1) (mRun (J 2) (J 3) (yV V G) (I 1) n (I 4, I 5, I 6, I 7, rV V G))))) ∧ (∃ V' G', bcS cI cL cQ w' b (mI I (mRun (J 2) (J 3) (yV V G) (I 1) n (I 4, I 5, I 6, I 7, rV V G))) J V' G' ∧ gOk V' G' ∧ (∀ i, i < 10 → rV V' G' i = (mRun (J 2) (J 3) (yV V G) (I 1) n (I 4, I 5, I 6, I 7, rV V G)).2.2.2.2 i) ∧ (∀ i, i < 8 → yV V' G' i = yV V G i)) ∧ ∀ q, q < b ∨ b + 86 ≤ q → w' q = w q) := by
  refine fw_ofW (cc := cBc_run) (maxL := 2) (ret := (some FieldType.int)) (by decide) rfl (Nat.le_of_ble_eq_true rfl) ?_
  intro p e s m args below meth c hx hb hr hts hown hlocks hname hml hK H ls hw hl
  have hW : ∀ w ∈ kWs, w.before args s = true := fun w h => hts w (List.mem_cons_of_mem _ h)
  have hown : s.vm.findClass RBc = some m.cls := hown
  have hl : lv_has ls 2 [(0, .ref b), (1, .int (nI n))] := hl
  obtain ⟨⟨b0, b1, b2, b3⟩, ⟨c0, c1, c2, c3, c4, c5⟩, ⟨m0, m1, m2, m3, m4, m5⟩, hR, hV, hN, hD⟩ := id hS
  have hsz := hC.1
  refine lv_aload_n (pc := 0) hx hb dBc_run_0 rfl (lv_at hl 0 rfl) ?_
  refine fw_cVR (pc := 1) (As := []) (rest := []) ⟨hx, hb, hml, hown, hW⟩ (c_Bc_requireCode hS h1 (by omega)) (cwV 0 hW (kw_V lm_Bc_92 im_Bc_requireCode se_Bc_requireCode ini_Bc cd_Bc_requireCode) rfl rfl rfl (by decide +kernel) ⟨Nat.le_of_ble_eq_true rfl, Nat.le_of_ble_eq_true rfl⟩) hK hw b0 rfl rfl hl.1 rfl (Nat.le_of_ble_eq_true rfl) dBc_run_1 ⟨Nat.le_of_ble_eq_true rfl, Nat.le_of_ble_eq_true rfl⟩ (fun v hq => ?_)
  subst hq
  refine W.eq (g2 := F0 m 4 ls []) rfl ?_
  refine lv_iload_n (pc := 4) hx hb dBc_run_4 rfl (lv_at hl 1 rfl) ?_
  refine lv_if_lt (pc := 5) (tgt := 15) hx hb dBc_run_5 (by decide) (fun hc => absurd hc (nI_pos (by omega))) (fun _ => ?_)
  refine lv_iload_n (pc := 8) hx hb dBc_run_8 rfl (lv_at hl 1 rfl) ?_
  refine lv_sipush (pc := 9) (v := (nI 10000)) hx hb dBc_run_9 (by decide) ?_
  refine lv_icmp_le (pc := 12) (tgt := 25) hx hb dBc_run_12 (by decide) (fun _ => ?_) (fun hc => absurd (nI_le hn (by decide)) hc)
  refine lv_aload_n (pc := 25) hx hb dBc_run_25 rfl (lv_at hl 0 rfl) ?_
  refine fw_get (pc := 26) (ci := 9) (v := .ref (b + 10)) (C := RBc) (T := TBc) (N := 4) hx hb hW in_Bc hown hK.1 hw b0 rfl 2 (by decide) (hW _ lf_Bc_26) (fun _ h => h) rfl dBc_run_26 ?_
  refine lv_aload_n (pc := 29) hx hb dBc_run_29 rfl (lv_at hl 0 rfl) ?_
  refine fw_get (pc := 30) (ci := 9) (v := .ref (b + 4)) (C := RBc) (T := TBc) (N := 4) hx hb hW in_Bc hown hK.1 hw b0 rfl 1 (by decide) (hW _ lf_Bc_19) (fun _ h => h) rfl dBc_run_30 ?_
  refine fw_get (pc := 33) (ci := 7) (v := .ref (b + 5)) (C := RTr) (T := TTr) (N := 5) hx hb hW in_Tr hown hK.1 hw c0 rfl 0 (by decide) (hW _ lf_Bc_60) (fun _ h => h) rfl dBc_run_33 ?_
  refine lv_iload_n (pc := 36) hx hb dBc_run_36 rfl (lv_at hl 1 rfl) ?_
  refine fw_cV (pc := 37) (As := [.ref (b + 5), .int (nI n)]) (rest := []) ⟨hx, hb, hml, hown, hW⟩ (c_Ma_advance (N := n) (by omega) (hS.ma hG) (hS.vr hG) (yV_lt hG) hC hO c1 c2 c3) (cwV 2 hW (kw_V lm_Bc_97 im_Ma_advance se_Ma_advance ini_Ma cd_Ma_advance) rfl rfl rfl (by decide +kernel) ⟨Nat.le_of_ble_eq_true rfl, Nat.le_of_ble_eq_true rfl⟩) hK hw m0 rfl rfl hl.1 rfl (Nat.le_of_ble_eq_true rfl) dBc_run_37 ⟨Nat.le_of_ble_eq_true rfl, Nat.le_of_ble_eq_true rfl⟩ (fun v w1 H locs hq hw => ?_)
  obtain ⟨rfl, hM, ho⟩ := hq
  have hok := mRun_ok (Y := yV V G) hC (yV_lt hG) n hO
  have hY := (hS.vr hG).kept (w' := w1) (fun q h7 h8 => ho q (by omega))
  refine W.eq (g2 := F0 m 40 ls [.int (nI (mAns (I 1) (mRun (J 2) (J 3) (yV V G) (I 1) n (I 4, I 5, I 6, I 7, rV V G))))]) rfl ?_
  obtain ⟨V2, G2, z1, z2, z3, z4⟩ := bcS.mk (I := mI I (mRun (J 2) (J 3) (yV V G) (I 1) n (I 4, I 5, I 6, I 7, rV V G))) (J := J) ((ho _ (by omega)).trans b0) ((ho _ (by omega)).trans b1) ((ho _ (by omega)).trans b2) ((ho _ (by omega)).trans b3) (hS.tr.kept (fun q h7 h8 => ho q (by omega))) hM hY (fun i _ => mOk_R hok i) (fun i _ => yV_lt hG i) ((ho _ (by omega)).trans m5) ⟨_, hD.kept (fun q h7 h8 => ho q (by omega))⟩
  exact fw_iret (pc := 40) hx hb hr hlocks hw dBc_run_40 ⟨rfl, ⟨V2, G2, z1, z2, z3, z4⟩, fun q hq => ho q (by omega)⟩

set_option maxHeartbeats 4000000 in
set_option maxRecDepth 100000 in
theorem c_Bc_compile {b : Nat} {I : Nat → Nat} {J : Nat → Nat → Nat} {V G : Nat → Nat} (hS : bcS cI cL cQ w b I J V G) (hG : gOk V G) (h0 : I 0 ≤ 120) (hk : ∀ i, i < I 0 → J 0 i < 14) (hu : ∀ i, i < I 0 → J 1 i < 2 ^ 31) (hu8 : ∀ i, i < I 0 → J 0 i = 1 → J 1 i < 8) : fw_C l yBc_compile (Cond.code yBc_compile cBc_compile 2 (some FieldType.int) :: kWs) ({ frames := 6, cells := 0, slots := 0, locals := 128 } : Room) D kCl (kty cI cL cQ) (kz tO tB tC sa) [.ref b] (sz) w 0 0 (fun r w' => r = some (.int (cA I J)) ∧ bcS cI cL cQ w' b (cI9 I J) (cJ9 I J) V G ∧ ∀ q, q < b ∨ b + 86 ≤ q → w' q = w q) := by
  refine fw_ofW (cc := cBc_compile) (maxL := 2) (ret := (some FieldType.int)) (by decide) rfl (Nat.le_of_ble_eq_true rfl) ?_
  intro p e s m args below meth c hx hb hr hts hown hlocks hname hml hK H ls hw hl
  have hW : ∀ w ∈ kWs, w.before args s = true := fun w h => hts w (List.mem_cons_of_mem _ h)
  have hown : s.vm.findClass RBc = some m.cls := hown
  have hl : lv_has ls 2 [(0, .ref b)] := hl
  obtain ⟨⟨b0, b1, b2, b3⟩, ⟨c0, c1, c2, c3, c4, c5⟩, ⟨m0, m1, m2, m3, m4, m5⟩, hR, hV, hN, hD⟩ := id hS
  refine lv_aload_n (pc := 0) hx hb dBc_compile_0 rfl (lv_at hl 0 rfl) ?_
  refine fw_get (pc := 1) (ci := 9) (v := .ref (b + 4)) (C := RBc) (T := TBc) (N := 4) hx hb hW in_Bc hown hK.1 hw b0 rfl 1 (by decide) (hW _ lf_Bc_19) (fun _ h => h) rfl dBc_compile_1 ?_
  refine lv_aload_n (pc := 4) hx hb dBc_compile_4 rfl (lv_at hl 0 rfl) ?_
  refine fw_get (pc := 5) (ci := 9) (v := .ref (b + 1)) (C := RBc) (T := TBc) (N := 4) hx hb hW in_Bc hown hK.1 hw b0 rfl 0 (by decide) (hW _ lf_Bc_12) (fun _ h => h) rfl dBc_compile_5 ?_
  refine fw_cV (pc := 8) (As := [.ref (b + 1)]) (rest := []) ⟨hx, hb, hml, hown, hW⟩ (c_Tr_translate hS.tr h0 (by omega) hk b1 b2 b3) (cwV 1 hW (kw_V lm_Bc_56 im_Tr_translate se_Tr_translate ini_Tr cd_Tr_translate) rfl rfl rfl (by decide +kernel) ⟨Nat.le_of_ble_eq_true rfl, Nat.le_of_ble_eq_true rfl⟩) hK hw c0 rfl rfl hl.1 rfl (Nat.le_of_ble_eq_true rfl) dBc_compile_8 ⟨Nat.le_of_ble_eq_true rfl, Nat.le_of_ble_eq_true rfl⟩ (fun v w1 H locs hq hw => ?_)
  obtain ⟨rfl, hT, tf⟩ := hq
  have hds := tTr_ds hk hu hu8 (I 0) 0 (by omega) (J 2, J 3, 0, J 4, J 5, 0, 0) ⟨Nat.le_refl 0, fun j hj => absurd hj (Nat.not_lt_zero j), by decide⟩ ⟨fun i hi => absurd hi (Nat.not_lt_zero i), fun j hj => absurd hj (Nat.not_lt_zero j), rfl⟩
  have hle := tTr_le (J 0) (J 1) (I 0) (I 0) 0 (by omega) (J 2, J 3, 0, J 4, J 5, 0, 0)
  obtain ⟨a9, o1, v1, n1, t1, k1, d1, x1, hct⟩ : ∃ a9 o1 v1 n1 t1 k1 d1 x1, cT I J = (a9, (o1, v1, n1, t1, k1, d1, x1)) := ⟨_, _, _, _, _, _, _, _, rfl⟩
  have hct2 : tTr (J 0) (J 1) (I 0) (I 0) 0 (J 2, J 3, 0, J 4, J 5, 0, 0) = (a9, (o1, v1, n1, t1, k1, d1, x1)) := hct
  rw [hct2] at hT hds hle
  have b0_ : w1 (b) = some (.inr (9, [.ref (b + 1), .ref (b + 4), .ref (b + 10), .ref (b + 83)])) := (tf _ (by omega)).trans b0
  have b1_ : w1 (b + 1) = some (.inr (6, [.ref (b + 2), .ref (b + 3), .int (nI (I 0))])) := (tf _ (by omega)).trans b1
  have m0_ : w1 (b + 10) = some (.inr (4, [.ref (b + 11), .ref (b + 42), .int (nI (I 4)), .int (nI (I 5)), .int (nI (I 6)), .int (nI (I 7)), .ref (b + 67)])) := (tf _ (by omega)).trans m0
  have b0 := b0_
  have b1 := b1_
  have m0 := m0_
  have f4 : w1 (b + 4) = some (.inr (7, [.ref (b + 5), .ref (b + 8), .ref (b + 9), .int (nI (d1)), .int (nI (x1))])) := hT.1
  have f5 : w1 (b + 5) = some (.inr (1, [.ref (b + 6), .ref (b + 7), .int (nI (n1))])) := hT.2.1
  have f6 : w1 (b + 6) = some (.inl (cI, 120, .inl (fun i => nI (o1 i)))) := hT.2.2.1
  have f7 : w1 (b + 7) = some (.inl (cI, 120, .inl (fun i => nI (v1 i)))) := hT.2.2.2.1
  have f8 : w1 (b + 8) = some (.inl (cI, 120, .inl (fun i => nI (t1 i)))) := hT.2.2.2.2.1
  have f9 : w1 (b + 9) = some (.inl (cI, 120, .inl (fun i => nI (k1 i)))) := hT.2.2.2.2.2
  rw [hct2]
  refine W.eq (g2 := F0 m 11 ls [.int (nI a9)]) rfl ?_
  have hle9 : a9 ≤ I 0 + 1 := hle
  refine lv_istore_n (pc := 11) (lv' := [(1, .int (nI a9)), (0, .ref b)]) hx hb dBc_compile_11 rfl hl (by decide) rfl (fun ls hl => ?_)
  refine lv_iload_n (pc := 12) hx hb dBc_compile_12 rfl (lv_at hl 0 rfl) ?_
  rcases (show a9 = 0 ∨ ¬ a9 = 0 by omega) with ha0 | ha0
  · subst ha0
    obtain ⟨hg1, hg2, hg3⟩ := hds rfl
    have hg3 : n1 ≤ I 0 := hg3
    have hg1 : cGd o1 v1 n1 := hg1
    refine lv_if_ne (pc := 13) (tgt := 34) hx hb dBc_compile_13 (by decide) (fun hc => absurd hc (fun h9 => h9 (by decide))) (fun _ => ?_)
    refine lv_aload_n (pc := 16) hx hb dBc_compile_16 rfl (lv_at hl 1 rfl) ?_
    refine fw_get (pc := 17) (ci := 9) (v := .ref (b + 4)) (C := RBc) (T := TBc) (N := 4) hx hb hW in_Bc hown hK.1 hw b0 rfl 1 (by decide) (hW _ lf_Bc_19) (fun _ h => h) rfl dBc_compile_17 ?_
    refine fw_get (pc := 20) (ci := 7) (v := .ref (b + 5)) (C := RTr) (T := TTr) (N := 5) hx hb hW in_Tr hown hK.1 hw f4 rfl 0 (by decide) (hW _ lf_Bc_60) (fun _ h => h) rfl dBc_compile_20 ?_
    refine fw_cVR (pc := 23) (As := []) (rest := []) ⟨hx, hb, hml, hown, hW⟩ (c_Co_registersWanted (by omega) (fun i hi => ⟨(hg1 i hi).1, (hg1 i hi).2.2.1⟩) f5 f6) (cwV 0 hW (kw_V lm_Bc_64 im_Co_registersWanted se_Co_registersWanted ini_Co cd_Co_registersWanted) rfl rfl rfl (by decide +kernel) ⟨Nat.le_of_ble_eq_true rfl, Nat.le_of_ble_eq_true rfl⟩) hK hw f5 rfl rfl hl.1 rfl (Nat.le_of_ble_eq_true rfl) dBc_compile_23 ⟨Nat.le_of_ble_eq_true rfl, Nat.le_of_ble_eq_true rfl⟩ (fun v hq => ?_)
    subst hq
    refine W.eq (g2 := F0 m 26 ls [.int (nI (mx o1 n1))]) rfl ?_
    have hml2 := mx_le o1 n1
    refine lv_bipush (pc := 26) (v := (nI 10)) hx hb dBc_compile_26 (by decide) ?_
    rcases (show mx o1 n1 ≤ 10 ∨ ¬ mx o1 n1 ≤ 10 by omega) with hm9 | hm9
    · refine lv_icmp_le (pc := 28) (tgt := 34) hx hb dBc_compile_28 (by decide) (fun _ => ?_) (fun hc => absurd (nI_le hm9 (by decide)) hc)
      refine lv_iload_n (pc := 34) hx hb dBc_compile_34 rfl (lv_at hl 0 rfl) ?_
      refine lv_if_eq (pc := 35) (tgt := 49) hx hb dBc_compile_35 (by decide) (fun _ => ?_) (fun hc => absurd (show nI 0 = 0 by decide) hc)
      have hca : cA I J = nI 0 := by unfold cA; rw [hct]; exact if_pos ⟨rfl, hm9⟩
      refine lv_aload_n (pc := 49) hx hb dBc_compile_49 rfl (lv_at hl 1 rfl) ?_
      refine fw_get (pc := 50) (ci := 9) (v := .ref (b + 1)) (C := RBc) (T := TBc) (N := 4) hx hb hW in_Bc hown hK.1 hw b0 rfl 0 (by decide) (hW _ lf_Bc_12) (fun _ h => h) rfl dBc_compile_50 ?_
      refine lv_iconst (pc := 53) (v := (nI 0)) hx hb dBc_compile_53 (by decide) ?_
      refine fw_put (pc := 54) (ci := 6) (v := .int (nI 0)) (ty := .int) (C := RTo) (T := TTo) (N := 3) hx hb hW in_To tyTo tyTo_ok nmTo hown hK.1 hw b1 rfl 2 (by decide) (hW _ lf_Bc_48) (fun _ h => h) rfl (by decide +kernel) rfl rfl (Nat.le_of_ble_eq_true rfl) dBc_compile_54 (fun H locs hw => ?_)
      obtain ⟨w2, e2⟩ : ∃ w_, w_ = fw_up w1 (b + 1) (.inr (6, [.ref (b + 2), .ref (b + 3), .int (nI 0)])) := ⟨_, rfl⟩
      have hw : fw_H D kCl (fw_A w (sz)) s.heap w2 (sz) H locs := by rw [e2]; exact hw
      have b0_ : w2 (b) = some (.inr (9, [.ref (b + 1), .ref (b + 4), .ref (b + 10), .ref (b + 83)])) := by rw [e2, fw_un (by omega)]; exact b0
      have m0_ : w2 (b + 10) = some (.inr (4, [.ref (b + 11), .ref (b + 42), .int (nI (I 4)), .int (nI (I 5)), .int (nI (I 6)), .int (nI (I 7)), .ref (b + 67)])) := by rw [e2, fw_un (by omega)]; exact m0
      have f4_ : w2 (b + 4) = some (.inr (7, [.ref (b + 5), .ref (b + 8), .ref (b + 9), .int (nI (d1)), .int (nI (x1))])) := by rw [e2, fw_un (by omega)]; exact f4
      have f5_ : w2 (b + 5) = some (.inr (1, [.ref (b + 6), .ref (b + 7), .int (nI (n1))])) := by rw [e2, fw_un (by omega)]; exact f5
      have f6_ : w2 (b + 6) = some (.inl (cI, 120, .inl (fun i => nI (o1 i)))) := by rw [e2, fw_un (by omega)]; exact f6
      have f7_ : w2 (b + 7) = some (.inl (cI, 120, .inl (fun i => nI (v1 i)))) := by rw [e2, fw_un (by omega)]; exact f7
      have f8_ : w2 (b + 8) = some (.inl (cI, 120, .inl (fun i => nI (t1 i)))) := by rw [e2, fw_un (by omega)]; exact f8
      have f9_ : w2 (b + 9) = some (.inl (cI, 120, .inl (fun i => nI (k1 i)))) := by rw [e2, fw_un (by omega)]; exact f9
      have b1_ : w2 (b + 1) = some (.inr (6, [.ref (b + 2), .ref (b + 3), .int (nI 0)])) := by rw [e2]; exact fw_us _ _ _
      have b0 := b0_
      have b1 := b1_
      have m0 := m0_
      have f4 := f4_
      have f5 := f5_
      have f6 := f6_
      have f7 := f7_
      have f8 := f8_
      have f9 := f9_
      refine lv_aload_n (pc := 57) hx hb dBc_compile_57 rfl (lv_at hl 1 rfl) ?_
      refine fw_get (pc := 58) (ci := 9) (v := .ref (b + 10)) (C := RBc) (T := TBc) (N := 4) hx hb hW in_Bc hown hK.1 hw b0 rfl 2 (by decide) (hW _ lf_Bc_26) (fun _ h => h) rfl dBc_compile_58 ?_
      refine fw_cV (pc := 61) (As := []) (rest := []) ⟨hx, hb, hml, hown, hW⟩ (c_Ma_begin m0) (cwV 0 hW (kw_V lm_Bc_71 im_Ma_begin se_Ma_begin ini_Ma cd_Ma_begin) rfl rfl rfl (by decide +kernel) ⟨Nat.le_of_ble_eq_true rfl, Nat.le_of_ble_eq_true rfl⟩) hK hw m0 rfl rfl hl.1 rfl (Nat.le_of_ble_eq_true rfl) dBc_compile_61 ⟨Nat.le_of_ble_eq_true rfl, Nat.le_of_ble_eq_true rfl⟩ (fun v w3 H locs hq hw => ?_)
      obtain ⟨rfl, u0, bo⟩ := hq
      have b0_ : w3 (b) = some (.inr (9, [.ref (b + 1), .ref (b + 4), .ref (b + 10), .ref (b + 83)])) := (bo _ (by omega)).trans b0
      have b1_ : w3 (b + 1) = some (.inr (6, [.ref (b + 2), .ref (b + 3), .int (nI 0)])) := (bo _ (by omega)).trans b1
      have f4_ : w3 (b + 4) = some (.inr (7, [.ref (b + 5), .ref (b + 8), .ref (b + 9), .int (nI (d1)), .int (nI (x1))])) := (bo _ (by omega)).trans f4
      have f5_ : w3 (b + 5) = some (.inr (1, [.ref (b + 6), .ref (b + 7), .int (nI (n1))])) := (bo _ (by omega)).trans f5
      have f6_ : w3 (b + 6) = some (.inl (cI, 120, .inl (fun i => nI (o1 i)))) := (bo _ (by omega)).trans f6
      have f7_ : w3 (b + 7) = some (.inl (cI, 120, .inl (fun i => nI (v1 i)))) := (bo _ (by omega)).trans f7
      have f8_ : w3 (b + 8) = some (.inl (cI, 120, .inl (fun i => nI (t1 i)))) := (bo _ (by omega)).trans f8
      have f9_ : w3 (b + 9) = some (.inl (cI, 120, .inl (fun i => nI (k1 i)))) := (bo _ (by omega)).trans f9
      have b0 := b0_
      have b1 := b1_
      have f4 := f4_
      have f5 := f5_
      have f6 := f6_
      have f7 := f7_
      have f8 := f8_
      have f9 := f9_
      refine W.eq (g2 := F0 m 64 ls []) rfl ?_
      refine lv_iload_n (pc := 64) hx hb dBc_compile_64 rfl (lv_at hl 0 rfl) ?_
      have hI9 : cI9 I J = fun i => if i = 1 then n1 else if i = 2 then d1 else if i = 3 then x1 else 0 := by unfold cI9; rw [hct]; (show (fun i => if i = 1 then (if (0 : Nat) = 0 ∧ mx o1 n1 ≤ 10 then n1 else 0) else _) = _); rw [if_pos ⟨rfl, hm9⟩]
      have hJ9 : cJ9 I J = fun j => if j = 0 then J 0 else if j = 1 then J 1 else if j = 2 then o1 else if j = 3 then v1 else if j = 4 then t1 else k1 := by unfold cJ9; rw [hct]
      exact fw_iret (pc := 65) hx hb hr hlocks hw dBc_compile_65 ⟨by rw [hca], by rw [hI9, hJ9]; exact bcS.cmp hS b1 ⟨f4, f5, f6, f7, f8, f9⟩ u0 rfl rfl (fun q h7 => by rw [bo q (by omega), e2, fw_un (by omega), tf q (by omega)]), fun q h7 => by rw [bo q (by omega), e2, fw_un (by omega), tf q (by omega)]⟩
    · refine lv_icmp_le (pc := 28) (tgt := 34) hx hb dBc_compile_28 (by decide) (fun hc => absurd hc (nI_ge (show 10 < mx o1 n1 by omega) (by omega))) (fun _ => ?_)
      refine lv_bipush (pc := 31) (v := (-2)) hx hb dBc_compile_31 (by decide) ?_
      refine lv_istore_n (pc := 33) (lv' := [(1, .int (-2)), (0, .ref b)]) hx hb dBc_compile_33 rfl hl (by decide) rfl (fun ls hl => ?_)
      refine lv_iload_n (pc := 34) hx hb dBc_compile_34 rfl (lv_at hl 0 rfl) ?_
      refine lv_if_eq (pc := 35) (tgt := 49) hx hb dBc_compile_35 (by decide) (fun hc => absurd hc (show ¬ (-2 : Int32) = 0 by decide)) (fun _ => ?_)
      have hca : cA I J = -2 := by unfold cA; rw [hct]; exact (if_neg (fun h9 => hm9 h9.2)).trans (if_pos rfl)
      refine lv_aload_n (pc := 38) hx hb dBc_compile_38 rfl (lv_at hl 1 rfl) ?_
      refine fw_get (pc := 39) (ci := 9) (v := .ref (b + 4)) (C := RBc) (T := TBc) (N := 4) hx hb hW in_Bc hown hK.1 hw b0 rfl 1 (by decide) (hW _ lf_Bc_19) (fun _ h => h) rfl dBc_compile_39 ?_
      refine fw_get (pc := 42) (ci := 7) (v := .ref (b + 5)) (C := RTr) (T := TTr) (N := 5) hx hb hW in_Tr hown hK.1 hw f4 rfl 0 (by decide) (hW _ lf_Bc_60) (fun _ h => h) rfl dBc_compile_42 ?_
      refine lv_iconst (pc := 45) (v := (nI 0)) hx hb dBc_compile_45 (by decide) ?_
      refine fw_put (pc := 46) (ci := 1) (v := .int (nI 0)) (ty := .int) (C := RCo) (T := TCo) (N := 3) hx hb hW in_Co tyCo tyCo_ok nmCo hown hK.1 hw f5 rfl 2 (by decide) (hW _ lf_Bc_70) (fun _ h => h) rfl (by decide +kernel) rfl rfl (Nat.le_of_ble_eq_true rfl) dBc_compile_46 (fun H locs hw => ?_)
      obtain ⟨w2, e2⟩ : ∃ w_, w_ = fw_up w1 (b + 5) (.inr (1, [.ref (b + 6), .ref (b + 7), .int (nI 0)])) := ⟨_, rfl⟩
      have hw : fw_H D kCl (fw_A w (sz)) s.heap w2 (sz) H locs := by rw [e2]; exact hw
      have b0_ : w2 (b) = some (.inr (9, [.ref (b + 1), .ref (b + 4), .ref (b + 10), .ref (b + 83)])) := by rw [e2, fw_un (by omega)]; exact b0
      have b1_ : w2 (b + 1) = some (.inr (6, [.ref (b + 2), .ref (b + 3), .int (nI (I 0))])) := by rw [e2, fw_un (by omega)]; exact b1
      have m0_ : w2 (b + 10) = some (.inr (4, [.ref (b + 11), .ref (b + 42), .int (nI (I 4)), .int (nI (I 5)), .int (nI (I 6)), .int (nI (I 7)), .ref (b + 67)])) := by rw [e2, fw_un (by omega)]; exact m0
      have f4_ : w2 (b + 4) = some (.inr (7, [.ref (b + 5), .ref (b + 8), .ref (b + 9), .int (nI (d1)), .int (nI (x1))])) := by rw [e2, fw_un (by omega)]; exact f4
      have f6_ : w2 (b + 6) = some (.inl (cI, 120, .inl (fun i => nI (o1 i)))) := by rw [e2, fw_un (by omega)]; exact f6
      have f7_ : w2 (b + 7) = some (.inl (cI, 120, .inl (fun i => nI (v1 i)))) := by rw [e2, fw_un (by omega)]; exact f7
      have f8_ : w2 (b + 8) = some (.inl (cI, 120, .inl (fun i => nI (t1 i)))) := by rw [e2, fw_un (by omega)]; exact f8
      have f9_ : w2 (b + 9) = some (.inl (cI, 120, .inl (fun i => nI (k1 i)))) := by rw [e2, fw_un (by omega)]; exact f9
      have f5_ : w2 (b + 5) = some (.inr (1, [.ref (b + 6), .ref (b + 7), .int (nI 0)])) := by rw [e2]; exact fw_us _ _ _
      have b0 := b0_
      have b1 := b1_
      have m0 := m0_
      have f4 := f4_
      have f5 := f5_
      have f6 := f6_
      have f7 := f7_
      have f8 := f8_
      have f9 := f9_
      refine lv_aload_n (pc := 49) hx hb dBc_compile_49 rfl (lv_at hl 1 rfl) ?_
      refine fw_get (pc := 50) (ci := 9) (v := .ref (b + 1)) (C := RBc) (T := TBc) (N := 4) hx hb hW in_Bc hown hK.1 hw b0 rfl 0 (by decide) (hW _ lf_Bc_12) (fun _ h => h) rfl dBc_compile_50 ?_
      refine lv_iconst (pc := 53) (v := (nI 0)) hx hb dBc_compile_53 (by decide) ?_
      refine fw_put (pc := 54) (ci := 6) (v := .int (nI 0)) (ty := .int) (C := RTo) (T := TTo) (N := 3) hx hb hW in_To tyTo tyTo_ok nmTo hown hK.1 hw b1 rfl 2 (by decide) (hW _ lf_Bc_48) (fun _ h => h) rfl (by decide +kernel) rfl rfl (Nat.le_of_ble_eq_true rfl) dBc_compile_54 (fun H locs hw => ?_)
      obtain ⟨w3, e3⟩ : ∃ w_, w_ = fw_up w2 (b + 1) (.inr (6, [.ref (b + 2), .ref (b + 3), .int (nI 0)])) := ⟨_, rfl⟩
      have hw : fw_H D kCl (fw_A w (sz)) s.heap w3 (sz) H locs := by rw [e3]; exact hw
      have b0_ : w3 (b) = some (.inr (9, [.ref (b + 1), .ref (b + 4), .ref (b + 10), .ref (b + 83)])) := by rw [e3, fw_un (by omega)]; exact b0
      have m0_ : w3 (b + 10) = some (.inr (4, [.ref (b + 11), .ref (b + 42), .int (nI (I 4)), .int (nI (I 5)), .int (nI (I 6)), .int (nI (I 7)), .ref (b + 67)])) := by rw [e3, fw_un (by omega)]; exact m0
      have f4_ : w3 (b + 4) = some (.inr (7, [.ref (b + 5), .ref (b + 8), .ref (b + 9), .int (nI (d1)), .int (nI (x1))])) := by rw [e3, fw_un (by omega)]; exact f4
      have f5_ : w3 (b + 5) = some (.inr (1, [.ref (b + 6), .ref (b + 7), .int (nI 0)])) := by rw [e3, fw_un (by omega)]; exact f5
      have f6_ : w3 (b + 6) = some (.inl (cI, 120, .inl (fun i => nI (o1 i)))) := by rw [e3, fw_un (by omega)]; exact f6
      have f7_ : w3 (b + 7) = some (.inl (cI, 120, .inl (fun i => nI (v1 i)))) := by rw [e3, fw_un (by omega)]; exact f7
      have f8_ : w3 (b + 8) = some (.inl (cI, 120, .inl (fun i => nI (t1 i)))) := by rw [e3, fw_un (by omega)]; exact f8
      have f9_ : w3 (b + 9) = some (.inl (cI, 120, .inl (fun i => nI (k1 i)))) := by rw [e3, fw_un (by omega)]; exact f9
      have b1_ : w3 (b + 1) = some (.inr (6, [.ref (b + 2), .ref (b + 3), .int (nI 0)])) := by rw [e3]; exact fw_us _ _ _
      have b0 := b0_
      have b1 := b1_
      have m0 := m0_
      have f4 := f4_
      have f5 := f5_
      have f6 := f6_
      have f7 := f7_
      have f8 := f8_
      have f9 := f9_
      refine lv_aload_n (pc := 57) hx hb dBc_compile_57 rfl (lv_at hl 1 rfl) ?_
      refine fw_get (pc := 58) (ci := 9) (v := .ref (b + 10)) (C := RBc) (T := TBc) (N := 4) hx hb hW in_Bc hown hK.1 hw b0 rfl 2 (by decide) (hW _ lf_Bc_26) (fun _ h => h) rfl dBc_compile_58 ?_
      refine fw_cV (pc := 61) (As := []) (rest := []) ⟨hx, hb, hml, hown, hW⟩ (c_Ma_begin m0) (cwV 0 hW (kw_V lm_Bc_71 im_Ma_begin se_Ma_begin ini_Ma cd_Ma_begin) rfl rfl rfl (by decide +kernel) ⟨Nat.le_of_ble_eq_true rfl, Nat.le_of_ble_eq_true rfl⟩) hK hw m0 rfl rfl hl.1 rfl (Nat.le_of_ble_eq_true rfl) dBc_compile_61 ⟨Nat.le_of_ble_eq_true rfl, Nat.le_of_ble_eq_true rfl⟩ (fun v w4 H locs hq hw => ?_)
      obtain ⟨rfl, u0, bo⟩ := hq
      have b0_ : w4 (b) = some (.inr (9, [.ref (b + 1), .ref (b + 4), .ref (b + 10), .ref (b + 83)])) := (bo _ (by omega)).trans b0
      have b1_ : w4 (b + 1) = some (.inr (6, [.ref (b + 2), .ref (b + 3), .int (nI 0)])) := (bo _ (by omega)).trans b1
      have f4_ : w4 (b + 4) = some (.inr (7, [.ref (b + 5), .ref (b + 8), .ref (b + 9), .int (nI (d1)), .int (nI (x1))])) := (bo _ (by omega)).trans f4
      have f5_ : w4 (b + 5) = some (.inr (1, [.ref (b + 6), .ref (b + 7), .int (nI 0)])) := (bo _ (by omega)).trans f5
      have f6_ : w4 (b + 6) = some (.inl (cI, 120, .inl (fun i => nI (o1 i)))) := (bo _ (by omega)).trans f6
      have f7_ : w4 (b + 7) = some (.inl (cI, 120, .inl (fun i => nI (v1 i)))) := (bo _ (by omega)).trans f7
      have f8_ : w4 (b + 8) = some (.inl (cI, 120, .inl (fun i => nI (t1 i)))) := (bo _ (by omega)).trans f8
      have f9_ : w4 (b + 9) = some (.inl (cI, 120, .inl (fun i => nI (k1 i)))) := (bo _ (by omega)).trans f9
      have b0 := b0_
      have b1 := b1_
      have f4 := f4_
      have f5 := f5_
      have f6 := f6_
      have f7 := f7_
      have f8 := f8_
      have f9 := f9_
      refine W.eq (g2 := F0 m 64 ls []) rfl ?_
      refine lv_iload_n (pc := 64) hx hb dBc_compile_64 rfl (lv_at hl 0 rfl) ?_
      have hI9 : cI9 I J = fun i => if i = 1 then 0 else if i = 2 then d1 else if i = 3 then x1 else 0 := by unfold cI9; rw [hct]; (show (fun i => if i = 1 then (if (0 : Nat) = 0 ∧ mx o1 n1 ≤ 10 then n1 else 0) else _) = _); rw [if_neg (fun h9 => hm9 h9.2)]
      have hJ9 : cJ9 I J = fun j => if j = 0 then J 0 else if j = 1 then J 1 else if j = 2 then o1 else if j = 3 then v1 else if j = 4 then t1 else k1 := by unfold cJ9; rw [hct]
      exact fw_iret (pc := 65) hx hb hr hlocks hw dBc_compile_65 ⟨by rw [hca], by rw [hI9, hJ9]; exact bcS.cmp hS b1 ⟨f4, f5, f6, f7, f8, f9⟩ u0 rfl rfl (fun q h7 => by rw [bo q (by omega), e3, fw_un (by omega), e2, fw_un (by omega), tf q (by omega)]), fun q h7 => by rw [bo q (by omega), e3, fw_un (by omega), e2, fw_un (by omega), tf q (by omega)]⟩
  · refine lv_if_ne (pc := 13) (tgt := 34) hx hb dBc_compile_13 (by decide) (fun _ => ?_) (fun hc => absurd hc (nI_ne0 (by omega) (by omega)))
    refine lv_iload_n (pc := 34) hx hb dBc_compile_34 rfl (lv_at hl 0 rfl) ?_
    refine lv_if_eq (pc := 35) (tgt := 49) hx hb dBc_compile_35 (by decide) (fun hc => absurd hc (nI_ne0 (by omega) (by omega))) (fun _ => ?_)
    have hca : cA I J = nI a9 := by unfold cA; rw [hct]; exact (if_neg (fun h9 => ha0 h9.1)).trans (if_neg ha0)
    refine lv_aload_n (pc := 38) hx hb dBc_compile_38 rfl (lv_at hl 1 rfl) ?_
    refine fw_get (pc := 39) (ci := 9) (v := .ref (b + 4)) (C := RBc) (T := TBc) (N := 4) hx hb hW in_Bc hown hK.1 hw b0 rfl 1 (by decide) (hW _ lf_Bc_19) (fun _ h => h) rfl dBc_compile_39 ?_
    refine fw_get (pc := 42) (ci := 7) (v := .ref (b + 5)) (C := RTr) (T := TTr) (N := 5) hx hb hW in_Tr hown hK.1 hw f4 rfl 0 (by decide) (hW _ lf_Bc_60) (fun _ h => h) rfl dBc_compile_42 ?_
    refine lv_iconst (pc := 45) (v := (nI 0)) hx hb dBc_compile_45 (by decide) ?_
    refine fw_put (pc := 46) (ci := 1) (v := .int (nI 0)) (ty := .int) (C := RCo) (T := TCo) (N := 3) hx hb hW in_Co tyCo tyCo_ok nmCo hown hK.1 hw f5 rfl 2 (by decide) (hW _ lf_Bc_70) (fun _ h => h) rfl (by decide +kernel) rfl rfl (Nat.le_of_ble_eq_true rfl) dBc_compile_46 (fun H locs hw => ?_)
    obtain ⟨w2, e2⟩ : ∃ w_, w_ = fw_up w1 (b + 5) (.inr (1, [.ref (b + 6), .ref (b + 7), .int (nI 0)])) := ⟨_, rfl⟩
    have hw : fw_H D kCl (fw_A w (sz)) s.heap w2 (sz) H locs := by rw [e2]; exact hw
    have b0_ : w2 (b) = some (.inr (9, [.ref (b + 1), .ref (b + 4), .ref (b + 10), .ref (b + 83)])) := by rw [e2, fw_un (by omega)]; exact b0
    have b1_ : w2 (b + 1) = some (.inr (6, [.ref (b + 2), .ref (b + 3), .int (nI (I 0))])) := by rw [e2, fw_un (by omega)]; exact b1
    have m0_ : w2 (b + 10) = some (.inr (4, [.ref (b + 11), .ref (b + 42), .int (nI (I 4)), .int (nI (I 5)), .int (nI (I 6)), .int (nI (I 7)), .ref (b + 67)])) := by rw [e2, fw_un (by omega)]; exact m0
    have f4_ : w2 (b + 4) = some (.inr (7, [.ref (b + 5), .ref (b + 8), .ref (b + 9), .int (nI (d1)), .int (nI (x1))])) := by rw [e2, fw_un (by omega)]; exact f4
    have f6_ : w2 (b + 6) = some (.inl (cI, 120, .inl (fun i => nI (o1 i)))) := by rw [e2, fw_un (by omega)]; exact f6
    have f7_ : w2 (b + 7) = some (.inl (cI, 120, .inl (fun i => nI (v1 i)))) := by rw [e2, fw_un (by omega)]; exact f7
    have f8_ : w2 (b + 8) = some (.inl (cI, 120, .inl (fun i => nI (t1 i)))) := by rw [e2, fw_un (by omega)]; exact f8
    have f9_ : w2 (b + 9) = some (.inl (cI, 120, .inl (fun i => nI (k1 i)))) := by rw [e2, fw_un (by omega)]; exact f9
    have f5_ : w2 (b + 5) = some (.inr (1, [.ref (b + 6), .ref (b + 7), .int (nI 0)])) := by rw [e2]; exact fw_us _ _ _
    have b0 := b0_
    have b1 := b1_
    have m0 := m0_
    have f4 := f4_
    have f5 := f5_
    have f6 := f6_
    have f7 := f7_
    have f8 := f8_
    have f9 := f9_
    refine lv_aload_n (pc := 49) hx hb dBc_compile_49 rfl (lv_at hl 1 rfl) ?_
    refine fw_get (pc := 50) (ci := 9) (v := .ref (b + 1)) (C := RBc) (T := TBc) (N := 4) hx hb hW in_Bc hown hK.1 hw b0 rfl 0 (by decide) (hW _ lf_Bc_12) (fun _ h => h) rfl dBc_compile_50 ?_
    refine lv_iconst (pc := 53) (v := (nI 0)) hx hb dBc_compile_53 (by decide) ?_
    refine fw_put (pc := 54) (ci := 6) (v := .int (nI 0)) (ty := .int) (C := RTo) (T := TTo) (N := 3) hx hb hW in_To tyTo tyTo_ok nmTo hown hK.1 hw b1 rfl 2 (by decide) (hW _ lf_Bc_48) (fun _ h => h) rfl (by decide +kernel) rfl rfl (Nat.le_of_ble_eq_true rfl) dBc_compile_54 (fun H locs hw => ?_)
    obtain ⟨w3, e3⟩ : ∃ w_, w_ = fw_up w2 (b + 1) (.inr (6, [.ref (b + 2), .ref (b + 3), .int (nI 0)])) := ⟨_, rfl⟩
    have hw : fw_H D kCl (fw_A w (sz)) s.heap w3 (sz) H locs := by rw [e3]; exact hw
    have b0_ : w3 (b) = some (.inr (9, [.ref (b + 1), .ref (b + 4), .ref (b + 10), .ref (b + 83)])) := by rw [e3, fw_un (by omega)]; exact b0
    have m0_ : w3 (b + 10) = some (.inr (4, [.ref (b + 11), .ref (b + 42), .int (nI (I 4)), .int (nI (I 5)), .int (nI (I 6)), .int (nI (I 7)), .ref (b + 67)])) := by rw [e3, fw_un (by omega)]; exact m0
    have f4_ : w3 (b + 4) = some (.inr (7, [.ref (b + 5), .ref (b + 8), .ref (b + 9), .int (nI (d1)), .int (nI (x1))])) := by rw [e3, fw_un (by omega)]; exact f4
    have f5_ : w3 (b + 5) = some (.inr (1, [.ref (b + 6), .ref (b + 7), .int (nI 0)])) := by rw [e3, fw_un (by omega)]; exact f5
    have f6_ : w3 (b + 6) = some (.inl (cI, 120, .inl (fun i => nI (o1 i)))) := by rw [e3, fw_un (by omega)]; exact f6
    have f7_ : w3 (b + 7) = some (.inl (cI, 120, .inl (fun i => nI (v1 i)))) := by rw [e3, fw_un (by omega)]; exact f7
    have f8_ : w3 (b + 8) = some (.inl (cI, 120, .inl (fun i => nI (t1 i)))) := by rw [e3, fw_un (by omega)]; exact f8
    have f9_ : w3 (b + 9) = some (.inl (cI, 120, .inl (fun i => nI (k1 i)))) := by rw [e3, fw_un (by omega)]; exact f9
    have b1_ : w3 (b + 1) = some (.inr (6, [.ref (b + 2), .ref (b + 3), .int (nI 0)])) := by rw [e3]; exact fw_us _ _ _
    have b0 := b0_
    have b1 := b1_
    have m0 := m0_
    have f4 := f4_
    have f5 := f5_
    have f6 := f6_
    have f7 := f7_
    have f8 := f8_
    have f9 := f9_
    refine lv_aload_n (pc := 57) hx hb dBc_compile_57 rfl (lv_at hl 1 rfl) ?_
    refine fw_get (pc := 58) (ci := 9) (v := .ref (b + 10)) (C := RBc) (T := TBc) (N := 4) hx hb hW in_Bc hown hK.1 hw b0 rfl 2 (by decide) (hW _ lf_Bc_26) (fun _ h => h) rfl dBc_compile_58 ?_
    refine fw_cV (pc := 61) (As := []) (rest := []) ⟨hx, hb, hml, hown, hW⟩ (c_Ma_begin m0) (cwV 0 hW (kw_V lm_Bc_71 im_Ma_begin se_Ma_begin ini_Ma cd_Ma_begin) rfl rfl rfl (by decide +kernel) ⟨Nat.le_of_ble_eq_true rfl, Nat.le_of_ble_eq_true rfl⟩) hK hw m0 rfl rfl hl.1 rfl (Nat.le_of_ble_eq_true rfl) dBc_compile_61 ⟨Nat.le_of_ble_eq_true rfl, Nat.le_of_ble_eq_true rfl⟩ (fun v w4 H locs hq hw => ?_)
    obtain ⟨rfl, u0, bo⟩ := hq
    have b0_ : w4 (b) = some (.inr (9, [.ref (b + 1), .ref (b + 4), .ref (b + 10), .ref (b + 83)])) := (bo _ (by omega)).trans b0
    have b1_ : w4 (b + 1) = some (.inr (6, [.ref (b + 2), .ref (b + 3), .int (nI 0)])) := (bo _ (by omega)).trans b1
    have f4_ : w4 (b + 4) = some (.inr (7, [.ref (b + 5), .ref (b + 8), .ref (b + 9), .int (nI (d1)), .int (nI (x1))])) := (bo _ (by omega)).trans f4
    have f5_ : w4 (b + 5) = some (.inr (1, [.ref (b + 6), .ref (b + 7), .int (nI 0)])) := (bo _ (by omega)).trans f5
    have f6_ : w4 (b + 6) = some (.inl (cI, 120, .inl (fun i => nI (o1 i)))) := (bo _ (by omega)).trans f6
    have f7_ : w4 (b + 7) = some (.inl (cI, 120, .inl (fun i => nI (v1 i)))) := (bo _ (by omega)).trans f7
    have f8_ : w4 (b + 8) = some (.inl (cI, 120, .inl (fun i => nI (t1 i)))) := (bo _ (by omega)).trans f8
    have f9_ : w4 (b + 9) = some (.inl (cI, 120, .inl (fun i => nI (k1 i)))) := (bo _ (by omega)).trans f9
    have b0 := b0_
    have b1 := b1_
    have f4 := f4_
    have f5 := f5_
    have f6 := f6_
    have f7 := f7_
    have f8 := f8_
    have f9 := f9_
    refine W.eq (g2 := F0 m 64 ls []) rfl ?_
    refine lv_iload_n (pc := 64) hx hb dBc_compile_64 rfl (lv_at hl 0 rfl) ?_
    have hI9 : cI9 I J = fun i => if i = 1 then 0 else if i = 2 then d1 else if i = 3 then x1 else 0 := by unfold cI9; rw [hct]; (show (fun i => if i = 1 then (if a9 = 0 ∧ mx o1 n1 ≤ 10 then n1 else 0) else _) = _); rw [if_neg (fun h9 => ha0 h9.1)]
    have hJ9 : cJ9 I J = fun j => if j = 0 then J 0 else if j = 1 then J 1 else if j = 2 then o1 else if j = 3 then v1 else if j = 4 then t1 else k1 := by unfold cJ9; rw [hct]
    exact fw_iret (pc := 65) hx hb hr hlocks hw dBc_compile_65 ⟨by rw [hca], by rw [hI9, hJ9]; exact bcS.cmp hS b1 ⟨f4, f5, f6, f7, f8, f9⟩ u0 rfl rfl (fun q h7 => by rw [bo q (by omega), e3, fw_un (by omega), e2, fw_un (by omega), tf q (by omega)]), fun q h7 => by rw [bo q (by omega), e3, fw_un (by omega), e2, fw_un (by omega), tf q (by omega)]⟩
end BC4
