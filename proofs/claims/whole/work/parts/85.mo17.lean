theorem moT.of {cI cL : ClassId} {w : fw_W} {b : Nat} {I I' : Nat → Nat} {K : Nat → Nat → Nat} {S : Nat → Int32} {C : Nat → Nat} {n d x cl op : Nat} (h : moS cI cL w b I K S C) (h0 : w b = some (.inr (10, moF b (uI I' (K 2, K 3, n, K 4, K 5, d, x, cl, op))))) : moT cI cL w b I' K S C (K 2, K 3, n, K 4, K 5, d, x, cl, op) := by
  refine ⟨h0, h.2.1, h.2.2.1, fun j hj => ?_⟩
  rcases (show j = 0 ∨ j = 1 ∨ j = 2 ∨ j = 3 ∨ j = 4 ∨ j = 5 by omega) with rfl | rfl | rfl | rfl | rfl | rfl
  · exact h.2.2.2 0 (by decide)
  · exact h.2.2.2 1 (by decide)
  · exact h.2.2.2 2 (by decide)
  · exact h.2.2.2 3 (by decide)
  · exact h.2.2.2 4 (by decide)
  · exact h.2.2.2 5 (by decide)
theorem mx_eq {o o' : Nat → Nat} {n : Nat} (h : ∀ i, i < n → o' i = o i) : mx o' n = mx o n := by
  induction n with
  | zero => rfl
  | succ n ih =>
    show max (mx o' n) (hg o' (n + 1)) = max (mx o n) (hg o (n + 1))
    rw [ih (fun i hi => h i (by omega)), hg_eq h]
theorem cGd_eq {o v o' v' : Nat → Nat} {n : Nat} (h : ∀ i, i < n → o' i = o i ∧ v' i = v i) (hg : cGd o v n) : cGd o' v' n := fun i hi => by
  rw [(h i hi).1, (h i hi).2, hg_eq (o := o) (o' := o') (fun j hj => (h j (by omega)).1)]
  exact hg i hi
theorem cnt_le (t : Nat → Nat) (d : Nat) : cnt t d ≤ d := by
  induction d with
  | zero => exact Nat.le_refl 0
  | succ d ih =>
    show cnt t d + (if 1 ≤ kBi (t d) then 0 else 1) ≤ d + 1
    split <;> omega
theorem cnt_d1 {t : Nat → Nat} {d1 : Nat} (h : 0 < d1 → kBi (t (d1 - 1)) < 1) : d1 = 0 ↔ cnt t d1 = 0 := by
  cases d1 with
  | zero => exact ⟨fun _ => rfl, fun _ => rfl⟩
  | succ d =>
    have h1 := h (by omega)
    rw [Nat.add_sub_cancel] at h1
    refine ⟨fun h => absurd h (by omega), fun h => ?_⟩
    have h2 : cnt t d + (if 1 ≤ kBi (t d) then 0 else 1) = 0 := h
    rw [if_neg (by omega)] at h2
    omega
/-! The reference's translator, third part. Written by wip/gen/model17.py. -/
section MO17
variable {l : Launch} {D : va_G} {cI cL cQ : ClassId} {z : kZ_T} {sz : Nat} {w : fw_W}
set_option maxHeartbeats 4000000 in
set_option maxRecDepth 100000 in
theorem c_Mo_hasRegisters {b : Nat} {I : Nat → Nat} {K : Nat → Nat → Nat} {S : Nat → Int32} {C oo vv tt cc9 : Nat → Nat} {n d x cl op : Nat} (hT : moT cI cL w b I K S C (oo, vv, n, tt, cc9, d, x, cl, op)) (hn : n ≤ 120) (hgd : cGd oo vv n) : fw_R l yMo_hasRegisters (Cond.code yMo_hasRegisters cMo_hasRegisters 4 (some FieldType.boolean) :: kWs) ({ frames := 1, cells := 0, slots := 0, locals := 20 } : Room) D kCl (kty cI cL cQ) z [.ref b] (sz) w (fun v => v = some (.int (nI (if mx oo n ≤ 10 then 1 else 0)))) := by
  refine fw_ofR (cc := cMo_hasRegisters) (maxL := 4) (ret := (some FieldType.boolean)) (by decide) rfl (Nat.le_of_ble_eq_true rfl) ?_
  intro p e s m args below meth c hx hb hr hts hown hlocks hml hK H ls hH hw hl
  have hW : ∀ w ∈ kWs, w.before args s = true := fun w h => hts w (List.mem_cons_of_mem _ h)
  have hown : s.vm.findClass RMo = some m.cls := hown
  have hl : lv_has ls 4 [(0, .ref b)] := hl
  have b0 : w (b) = some (.inr (10, [.int (nI (I 0)), .ref (b + 1), .ref (b + 2), .int (nI (I 3)), .ref (b + 3), .ref (b + 4), .int (nI (I 6)), .int (nI (n)), .ref (b + 5), .ref (b + 6), .int (nI (d)), .int (nI (op)), .int (nI (x)), .int (nI (cl)), .ref (b + 7), .ref (b + 8), .int (nI (I 16)), .int (nI (I 17)), .int (nI (I 18)), .int (nI (I 19))])) := hT.1
  have b5 : w (b + 5) = some (.inl (cI, 120, .inl (fun i => nI (oo i)))) := hT.2.2.2 2 (by decide)
  have b6 : w (b + 6) = some (.inl (cI, 120, .inl (fun i => nI (vv i)))) := hT.2.2.2 3 (by decide)
  have b7 : w (b + 7) = some (.inl (cI, 120, .inl (fun i => nI (tt i)))) := hT.2.2.2 4 (by decide)
  have b8 : w (b + 8) = some (.inl (cI, 120, .inl (fun i => nI (cc9 i)))) := hT.2.2.2 5 (by decide)
  have b3 : w (b + 3) = some (.inl (cI, 120, .inl (fun i => nI (K 0 i)))) := hT.2.2.2 0 (by decide)
  have b4 : w (b + 4) = some (.inl (cI, 120, .inl (fun i => nI (K 1 i)))) := hT.2.2.2 1 (by decide)
  have loop : ∀ (r k g9 : Nat), k + r = n → g9 = (if mx oo k ≤ 10 then 1 else 0) → ∀ (ls : Array Slot), lv_has ls 4 [(3, .int (nI k)), (2, .int (nI g9)), (1, .int (nI (hg oo k))), (0, .ref b)] → W p l e ({ frames := 1, cells := 0, slots := 0, locals := 20 } : Room) s m args below meth c H [] 0 0 (MQ below (fw_RQ (fun v => v = some (.int (nI (if mx oo n ≤ 10 then 1 else 0))))) args s 0 0 (fun _ => False)) (F0 m 6 ls []) := by
    intro r
    induction r with
    | zero =>
      intro k g9 hk hg9 ls hl
      refine lv_iload_n (pc := 6) hx hb dMo_hasRegisters_6 rfl (lv_at hl 0 rfl) ?_
      refine lv_aload_n (pc := 7) hx hb dMo_hasRegisters_7 rfl (lv_at hl 3 rfl) ?_
      refine fw_get (pc := 8) (ci := 10) (v := .int (nI (n))) (C := RMo) (T := TMo) (N := 20) hx hb hW in_Mo hown hK.1 hw b0 rfl 7 (by decide) (hW _ lf_Mo_46) (fun _ h => h) rfl dMo_hasRegisters_8 ?_
      refine lv_icmp_ge (pc := 11) (tgt := 50) hx hb dMo_hasRegisters_11 (by decide) (fun _ => ?_) (fun hc => absurd (nI_le (show n ≤ k by omega) (by omega)) hc)
      refine lv_iload_n (pc := 50) hx hb dMo_hasRegisters_50 rfl (lv_at hl 1 rfl) ?_
      have hkn : k = n := by omega
      subst hkn
      exact fw_zretR (pc := 51) hx hb hr hlocks hH dMo_hasRegisters_51 (by rw [hg9]; split <;> rfl) (by rw [hg9])
    | succ r ih =>
      intro k g9 hk hg9 ls hl
      obtain ⟨c1, c2, c3, _, _⟩ := hgd k (by omega)
      have hle := hg_le oo k
      refine lv_iload_n (pc := 6) hx hb dMo_hasRegisters_6 rfl (lv_at hl 0 rfl) ?_
      refine lv_aload_n (pc := 7) hx hb dMo_hasRegisters_7 rfl (lv_at hl 3 rfl) ?_
      refine fw_get (pc := 8) (ci := 10) (v := .int (nI (n))) (C := RMo) (T := TMo) (N := 20) hx hb hW in_Mo hown hK.1 hw b0 rfl 7 (by decide) (hW _ lf_Mo_46) (fun _ h => h) rfl dMo_hasRegisters_8 ?_
      refine lv_icmp_ge (pc := 11) (tgt := 50) hx hb dMo_hasRegisters_11 (by decide) (fun hc => absurd hc (nI_ge (show k < n by omega) (by omega))) (fun _ => ?_)
      refine lv_iload_n (pc := 14) hx hb dMo_hasRegisters_14 rfl (lv_at hl 2 rfl) ?_
      refine lv_iconst (pc := 15) (v := (nI 1)) hx hb dMo_hasRegisters_15 (by decide) ?_
      refine lv_iadd (pc := 16) hx hb dMo_hasRegisters_16 ?_
      rw [show ((nI (hg oo k) + (nI 1)) : Int32) = nI (hg oo k + 1) from (nI_add (hg oo k) 1)]
      refine lv_aload_n (pc := 17) hx hb dMo_hasRegisters_17 rfl (lv_at hl 3 rfl) ?_
      refine fw_get (pc := 18) (ci := 10) (v := .ref (b + 5)) (C := RMo) (T := TMo) (N := 20) hx hb hW in_Mo hown hK.1 hw b0 rfl 8 (by decide) (hW _ lf_Mo_23) (fun _ h => h) rfl dMo_hasRegisters_18 ?_
      refine lv_iload_n (pc := 21) hx hb dMo_hasRegisters_21 rfl (lv_at hl 0 rfl) ?_
      refine fw_ialdN (pc := 22) (x := nI (oo (k))) hx hb hK.1 hw 0 b5 rfl (k) (show k < 120 by omega) (by decide) rfl dMo_hasRegisters_22 ?_
      refine fw_cSR (pc := 23) (As := [.int (nI (oo (k)))]) (rest := [.int (nI (hg oo k + 1))]) ⟨hx, hb, hml, hown, hW⟩ (c_Mo_takes c1 c2) (va_cwS 1 hW (kw_S lm_Mo_95 sta_Mo_takes ini_Mo cd_Mo_takes) rfl rfl rfl (by decide +kernel) ⟨Nat.le_of_ble_eq_true rfl, Nat.le_of_ble_eq_true rfl⟩) hK hw rfl hl.1 rfl (Nat.le_of_ble_eq_true rfl) dMo_hasRegisters_23 ⟨Nat.le_of_ble_eq_true rfl, Nat.le_of_ble_eq_true rfl⟩ (fun v hq => ?_)
      subst hq
      refine W.eq (g2 := F0 m 26 ls [.int (nI (kOp (oo k))), .int (nI (hg oo k + 1))]) rfl ?_
      refine lv_isub (pc := 26) hx hb dMo_hasRegisters_26 ?_
      rw [show ((nI (hg oo k + 1) - nI (kOp (oo k))) : Int32) = nI (hg oo (k + 1)) from (by rw [nI_subL (by omega)]; congr 1; show hg oo k + 1 - kOp (oo k) = hg oo k - kOp (oo k) + 1; omega)]
      have hle1 := hg_le oo (k + 1)
      have hmx1 : mx oo (k + 1) = max (mx oo k) (hg oo (k + 1)) := rfl
      refine lv_istore_n (pc := 27) (lv' := [(1, .int (nI (hg oo (k + 1)))), (3, .int (nI k)), (2, .int (nI g9)), (0, .ref b)]) hx hb dMo_hasRegisters_27 rfl hl (by decide) rfl (fun ls hl => ?_)
      refine lv_iload_n (pc := 28) hx hb dMo_hasRegisters_28 rfl (lv_at hl 2 rfl) ?_
      rcases (show mx oo k ≤ 10 ∨ ¬ mx oo k ≤ 10 by omega) with hm9 | hm9
      · rw [if_pos hm9] at hg9
        subst hg9
        refine lv_if_eq (pc := 29) (tgt := 42) hx hb dMo_hasRegisters_29 (by decide) (fun hc => absurd hc (show ¬ nI 1 = 0 by decide)) (fun _ => ?_)
        refine lv_iload_n (pc := 32) hx hb dMo_hasRegisters_32 rfl (lv_at hl 0 rfl) ?_
        refine lv_bipush (pc := 33) (v := (nI 10)) hx hb dMo_hasRegisters_33 (by decide) ?_
        rcases (show hg oo (k + 1) ≤ 10 ∨ 10 < hg oo (k + 1) by omega) with hh | hh
        · refine lv_icmp_gt (pc := 35) (tgt := 42) hx hb dMo_hasRegisters_35 (by decide) (fun hc => absurd hc (fun h9 => absurd ((nI_ltI (by decide) (by omega)).mp h9) (by omega))) (fun _ => ?_)
          refine lv_iconst (pc := 38) (v := (nI 1)) hx hb dMo_hasRegisters_38 (by decide) ?_
          refine lv_goto (pc := 39) (tgt := 43) hx hb dMo_hasRegisters_39 (by decide) ?_
          refine lv_istore_n (pc := 43) (lv' := [(2, .int (nI 1)), (1, .int (nI (hg oo (k + 1)))), (3, .int (nI k)), (0, .ref b)]) hx hb dMo_hasRegisters_43 rfl hl (by decide) rfl (fun ls hl => ?_)
          refine lv_iinc (pc := 44) (lv' := [(3, .int (nI (k + 1))), (2, .int (nI 1)), (1, .int (nI (hg oo (k + 1)))), (0, .ref b)]) hx hb dMo_hasRegisters_44 hl (k := 2) rfl ((nI_add k 1)) (by decide) rfl (fun ls hl => ?_)
          refine lv_goto (pc := 47) (tgt := 6) hx hb dMo_hasRegisters_47 (by decide) ?_
          exact ih (k + 1) 1 (by omega) (by rw [if_pos (by omega)]) ls (lv_sub hl [0, 1, 2, 3] rfl)
        · refine lv_icmp_gt (pc := 35) (tgt := 42) hx hb dMo_hasRegisters_35 (by decide) (fun _ => ?_) (fun hc => absurd ((nI_ltI (by decide) (by omega)).mpr hh) hc)
          refine lv_iconst (pc := 42) (v := (nI 0)) hx hb dMo_hasRegisters_42 (by decide) ?_
          refine lv_istore_n (pc := 43) (lv' := [(2, .int (nI 0)), (1, .int (nI (hg oo (k + 1)))), (3, .int (nI k)), (0, .ref b)]) hx hb dMo_hasRegisters_43 rfl hl (by decide) rfl (fun ls hl => ?_)
          refine lv_iinc (pc := 44) (lv' := [(3, .int (nI (k + 1))), (2, .int (nI 0)), (1, .int (nI (hg oo (k + 1)))), (0, .ref b)]) hx hb dMo_hasRegisters_44 hl (k := 2) rfl ((nI_add k 1)) (by decide) rfl (fun ls hl => ?_)
          refine lv_goto (pc := 47) (tgt := 6) hx hb dMo_hasRegisters_47 (by decide) ?_
          exact ih (k + 1) 0 (by omega) (by rw [if_neg (by omega)]) ls (lv_sub hl [0, 1, 2, 3] rfl)
      · rw [if_neg hm9] at hg9
        subst hg9
        refine lv_if_eq (pc := 29) (tgt := 42) hx hb dMo_hasRegisters_29 (by decide) (fun _ => ?_) (fun hc => absurd (show nI 0 = 0 by decide) hc)
        refine lv_iconst (pc := 42) (v := (nI 0)) hx hb dMo_hasRegisters_42 (by decide) ?_
        refine lv_istore_n (pc := 43) (lv' := [(2, .int (nI 0)), (1, .int (nI (hg oo (k + 1)))), (3, .int (nI k)), (0, .ref b)]) hx hb dMo_hasRegisters_43 rfl hl (by decide) rfl (fun ls hl => ?_)
        refine lv_iinc (pc := 44) (lv' := [(3, .int (nI (k + 1))), (2, .int (nI 0)), (1, .int (nI (hg oo (k + 1)))), (0, .ref b)]) hx hb dMo_hasRegisters_44 hl (k := 2) rfl ((nI_add k 1)) (by decide) rfl (fun ls hl => ?_)
        refine lv_goto (pc := 47) (tgt := 6) hx hb dMo_hasRegisters_47 (by decide) ?_
        exact ih (k + 1) 0 (by omega) (by rw [if_neg (by omega)]) ls (lv_sub hl [0, 1, 2, 3] rfl)
  refine lv_iconst (pc := 0) (v := (nI 0)) hx hb dMo_hasRegisters_0 (by decide) ?_
  refine lv_istore_n (pc := 1) (lv' := [(1, .int (nI 0)), (0, .ref b)]) hx hb dMo_hasRegisters_1 rfl hl (by decide) rfl (fun ls hl => ?_)
  refine lv_iconst (pc := 2) (v := (nI 1)) hx hb dMo_hasRegisters_2 (by decide) ?_
  refine lv_istore_n (pc := 3) (lv' := [(2, .int (nI 1)), (1, .int (nI 0)), (0, .ref b)]) hx hb dMo_hasRegisters_3 rfl hl (by decide) rfl (fun ls hl => ?_)
  refine lv_iconst (pc := 4) (v := (nI 0)) hx hb dMo_hasRegisters_4 (by decide) ?_
  refine lv_istore_n (pc := 5) (lv' := [(3, .int (nI 0)), (2, .int (nI 1)), (1, .int (nI 0)), (0, .ref b)]) hx hb dMo_hasRegisters_5 rfl hl (by decide) rfl (fun ls hl => ?_)
  exact loop n 0 1 (Nat.zero_add _) rfl ls (lv_sub hl [0, 1, 2, 3] rfl)

set_option maxHeartbeats 4000000 in
set_option maxRecDepth 100000 in
theorem c_Mo_compile {b : Nat} {I : Nat → Nat} {K : Nat → Nat → Nat} {S : Nat → Int32} {C : Nat → Nat} (hS : moS cI cL w b I K S C) {a9 n9 d9 x9 : Nat} {o0 v0 t0 c0 o9 v9 t9 c9 : Nat → Nat} (h3 : I 3 ≤ 120) (hk : ∀ i, i < I 3 → K 0 i < 14) (hTr : tTr (K 0) (K 1) (I 3) (I 3) 0 (o0, v0, 0, t0, c0, 0, 0) = (a9, (o9, v9, n9, t9, c9, d9, x9))) (hgd : a9 = 0 → cGd o9 v9 n9 ∧ n9 ≤ I 3) : fw_C l yMo_compile (Cond.code yMo_compile cMo_compile 3 (some FieldType.int) :: kWs) ({ frames := 5, cells := 0, slots := 0, locals := 106 } : Room) D kCl (kty cI cL cQ) z [.ref b] (sz) w 0 0 (fun v w' => v = some (.int (if (a9 = 0 ∧ mx o9 n9 ≤ 10) then nI 0 else if a9 = 0 then -2 else nI a9)) ∧ (∃ I' K', moS cI cL w' b I' K' S C ∧ K' 0 = K 0 ∧ K' 1 = K 1 ∧ I' 0 = 0 ∧ I' 3 = 0 ∧ I' 16 = 0 ∧ I' 17 = 0 ∧ I' 18 = 0 ∧ I' 19 = 0 ∧ ((a9 = 0 ∧ mx o9 n9 ≤ 10) → I' 6 = 1 ∧ I' 7 = n9 ∧ ∀ i, i < n9 → K' 2 i = o9 i ∧ K' 3 i = v9 i) ∧ (¬ (a9 = 0 ∧ mx o9 n9 ≤ 10) → I' 6 = 0 ∧ I' 7 = 0)) ∧ ∀ q, q < b ∨ b + 9 ≤ q → w' q = w q) := by
  refine fw_ofW (cc := cMo_compile) (maxL := 3) (ret := (some FieldType.int)) (by decide) rfl (Nat.le_of_ble_eq_true rfl) ?_
  intro p e s m args below meth c hx hb hr hts hown hlocks hname hml hK H ls hw hl
  have hW : ∀ w ∈ kWs, w.before args s = true := fun w h => hts w (List.mem_cons_of_mem _ h)
  have hown : s.vm.findClass RMo = some m.cls := hown
  have hl : lv_has ls 3 [(0, .ref b)] := hl
  have loop : ∀ (r i : Nat) (oo vv : Nat → Nat) (n : Nat) (tt cc9 : Nat → Nat) (d x cl op : Nat) (s9 : TS), i + r = I 3 → sim i s9 (oo, vv, n, tt, cc9, d, x, cl, op) → tTr (K 0) (K 1) (I 3) r i s9 = (a9, (o9, v9, n9, t9, c9, d9, x9)) → ∀ (w1 : fw_W) (H : Heap) (locs : List Loc) (ls : Array Slot), fw_H D kCl (fw_A w (sz)) s.heap w1 (sz) H locs → lv_has ls 3 [(2, .int (nI i)), (0, .ref b), (1, .int (nI (I 3)))] → moT cI cL w1 b (fun _ => 0) K S C (oo, vv, n, tt, cc9, d, x, cl, op) → (∀ q, q < b ∨ b + 9 ≤ q → w1 q = w q) → W p l e ({ frames := 5, cells := 0, slots := 0, locals := 106 } : Room) s m args below meth c H locs 0 0 (MQ below (fw_Q D kCl w (sz) 0 (fun v w' => v = some (.int (if (a9 = 0 ∧ mx o9 n9 ≤ 10) then nI 0 else if a9 = 0 then -2 else nI a9)) ∧ (∃ I' K', moS cI cL w' b I' K' S C ∧ K' 0 = K 0 ∧ K' 1 = K 1 ∧ I' 0 = 0 ∧ I' 3 = 0 ∧ I' 16 = 0 ∧ I' 17 = 0 ∧ I' 18 = 0 ∧ I' 19 = 0 ∧ ((a9 = 0 ∧ mx o9 n9 ≤ 10) → I' 6 = 1 ∧ I' 7 = n9 ∧ ∀ i, i < n9 → K' 2 i = o9 i ∧ K' 3 i = v9 i) ∧ (¬ (a9 = 0 ∧ mx o9 n9 ≤ 10) → I' 6 = 0 ∧ I' 7 = 0)) ∧ ∀ q, q < b ∨ b + 9 ≤ q → w' q = w q)) args s 0 0 (fw_A w (sz))) (F0 m 46 ls []) := by
    intro r
    induction r with
    | zero =>
      intro i oo vv n tt cc9 d x cl op s9 hir hsm htr w1 H locs ls hw hl hT hoF
      have b0 : w1 (b) = some (.inr (10, [.int (nI (0)), .ref (b + 1), .ref (b + 2), .int (nI (0)), .ref (b + 3), .ref (b + 4), .int (nI (0)), .int (nI (n)), .ref (b + 5), .ref (b + 6), .int (nI (d)), .int (nI (op)), .int (nI (x)), .int (nI (cl)), .ref (b + 7), .ref (b + 8), .int (nI (0)), .int (nI (0)), .int (nI (0)), .int (nI (0))])) := hT.1
      have b5 : w1 (b + 5) = some (.inl (cI, 120, .inl (fun i => nI (oo i)))) := hT.2.2.2 2 (by decide)
      have b6 : w1 (b + 6) = some (.inl (cI, 120, .inl (fun i => nI (vv i)))) := hT.2.2.2 3 (by decide)
      have b7 : w1 (b + 7) = some (.inl (cI, 120, .inl (fun i => nI (tt i)))) := hT.2.2.2 4 (by decide)
      have b8 : w1 (b + 8) = some (.inl (cI, 120, .inl (fun i => nI (cc9 i)))) := hT.2.2.2 5 (by decide)
      have b3 : w1 (b + 3) = some (.inl (cI, 120, .inl (fun i => nI (K 0 i)))) := hT.2.2.2 0 (by decide)
      have b4 : w1 (b + 4) = some (.inl (cI, 120, .inl (fun i => nI (K 1 i)))) := hT.2.2.2 1 (by decide)
      obtain ⟨o, v, nn, t, c8, dd, xx⟩ := s9
      obtain ⟨hs1, hs2, hs3, hs4, hU, hs6, hs7⟩ := id hsm
      obtain ⟨hnd, ht, hx3, hcl, hop⟩ := id hU
      subst hs1
      subst hs2
      have hi3 : i = I 3 := by omega
      refine lv_iload_n (pc := 46) hx hb dMo_compile_46 rfl (lv_at hl 0 rfl) ?_
      refine lv_iload_n (pc := 47) hx hb dMo_compile_47 rfl (lv_at hl 2 rfl) ?_
      refine lv_icmp_ge (pc := 48) (tgt := 65) hx hb dMo_compile_48 (by decide) (fun _ => ?_) (fun hc => absurd (nI_le (show I 3 ≤ i by omega) (by omega)) hc)
      refine lv_iload_n (pc := 65) hx hb dMo_compile_65 rfl (lv_at hl 0 rfl) ?_
      refine lv_iload_n (pc := 66) hx hb dMo_compile_66 rfl (lv_at hl 2 rfl) ?_
      refine lv_icmp_lt (pc := 67) (tgt := 85) hx hb dMo_compile_67 (by decide) (fun hc => absurd hc (fun h9 => absurd ((nI_ltI (by omega) (by omega)).mp h9) (by omega))) (fun _ => ?_)
      refine lv_aload_n (pc := 70) hx hb dMo_compile_70 rfl (lv_at hl 1 rfl) ?_
      refine fw_get (pc := 71) (ci := 10) (v := .int (nI (x))) (C := RMo) (T := TMo) (N := 20) hx hb hW in_Mo hown hK.1 hw b0 rfl 12 (by decide) (hW _ lf_Mo_60) (fun _ h => h) rfl dMo_compile_71 ?_
      refine lv_iconst (pc := 74) (v := (nI 1)) hx hb dMo_compile_74 (by decide) ?_
      rcases (show x = 1 ∨ ¬ x = 1 by omega) with hx1 | hx1
      · subst hx1
        have b0 : w1 (b) = some (.inr (10, [.int (nI (0)), .ref (b + 1), .ref (b + 2), .int (nI (0)), .ref (b + 3), .ref (b + 4), .int (nI (0)), .int (nI (n)), .ref (b + 5), .ref (b + 6), .int (nI (d)), .int (nI (op)), .int (nI (1)), .int (nI (cl)), .ref (b + 7), .ref (b + 8), .int (nI (0)), .int (nI (0)), .int (nI (0)), .int (nI (0))])) := hT.1
        have b5 : w1 (b + 5) = some (.inl (cI, 120, .inl (fun i => nI (oo i)))) := hT.2.2.2 2 (by decide)
        have b6 : w1 (b + 6) = some (.inl (cI, 120, .inl (fun i => nI (vv i)))) := hT.2.2.2 3 (by decide)
        have b7 : w1 (b + 7) = some (.inl (cI, 120, .inl (fun i => nI (tt i)))) := hT.2.2.2 4 (by decide)
        have b8 : w1 (b + 8) = some (.inl (cI, 120, .inl (fun i => nI (cc9 i)))) := hT.2.2.2 5 (by decide)
        have b3 : w1 (b + 3) = some (.inl (cI, 120, .inl (fun i => nI (K 0 i)))) := hT.2.2.2 0 (by decide)
        have b4 : w1 (b + 4) = some (.inl (cI, 120, .inl (fun i => nI (K 1 i)))) := hT.2.2.2 1 (by decide)
        have hdd : d = dd := (hs7 (by decide)).symm
        subst hdd
        refine lv_icmp_ne (pc := 75) (tgt := 85) hx hb dMo_compile_75 (by decide) (fun hc => absurd hc (fun h9 => h9 rfl)) (fun _ => ?_)
        obtain ⟨o1, v1, n1, d1, hr1⟩ : ∃ o1 v1 n1 d1, rl 1 t d o v n = (o1, v1, n1, d1) := ⟨_, _, _, _, rfl⟩
        rw [tFi_eq rfl hr1] at htr
        obtain ⟨o2, v2, hr2, hov2⟩ := rl_sim d (fun j hj => (hs4 j hj).1) hs3 hr1
        obtain ⟨hc2, hc3⟩ := rl_cnt (Nat.le_refl 1) d hr2
        have hcle := cnt_le tt d
        have hsu := rl_sum hr2
        have hd0 := cnt_d1 hc3
        rw [hc2, ← hop] at hd0
        have ha0 : (if d1 = 0 then 0 else I 3 + 1) = a9 := congrArg Prod.fst htr
        refine lv_aload_n (pc := 78) hx hb dMo_compile_78 rfl (lv_at hl 1 rfl) ?_
        refine fw_get (pc := 79) (ci := 10) (v := .int (nI (op))) (C := RMo) (T := TMo) (N := 20) hx hb hW in_Mo hown hK.1 hw b0 rfl 11 (by decide) (hW _ lf_Mo_66) (fun _ h => h) rfl dMo_compile_79 ?_
        rcases Nat.eq_zero_or_pos op with ho0 | ho0
        · rw [show (nI (op) : Int32) = nI 0 from (by rw [ho0])]
          refine lv_if_le (pc := 82) (tgt := 94) hx hb dMo_compile_82 (by decide) (fun _ => ?_) (fun hc => absurd (show nI 0 ≤ 0 by decide) hc)
          have hz1 : d1 = 0 := hd0.mpr ho0
          rw [if_pos hz1] at ha0
          obtain ⟨hgd1, hgd2⟩ := hgd ha0.symm
          have ho1 : o1 = o9 := congrArg (fun q => q.2.1) htr
          have hv1 : v1 = v9 := congrArg (fun q => q.2.2.1) htr
          have hn1 : n1 = n9 := congrArg (fun q => q.2.2.2.1) htr
          subst ho1
          subst hv1
          subst hn1
          subst hz1
          subst ha0
          refine lv_aload_n (pc := 94) hx hb dMo_compile_94 rfl (lv_at hl 1 rfl) ?_
          refine lv_iconst (pc := 95) (v := (nI 1)) hx hb dMo_compile_95 (by decide) ?_
          refine fw_cV (pc := 96) (As := [.int (nI 1)]) (rest := []) ⟨hx, hb, hml, hown, hW⟩ (c_Mo_unload (bd := 1) hT (by decide) (by omega) (fun j hj => ⟨(ht j hj).1, (ht j hj).2.1⟩)) (cwV 1 hW (kw_V lm_Mo_76 im_Mo_unload se_Mo_unload ini_Mo cd_Mo_unload) rfl rfl rfl (by decide +kernel) ⟨Nat.le_of_ble_eq_true rfl, Nat.le_of_ble_eq_true rfl⟩) hK hw b0 rfl rfl hl.1 rfl (Nat.le_of_ble_eq_true rfl) dMo_compile_96 ⟨Nat.le_of_ble_eq_true rfl, Nat.le_of_ble_eq_true rfl⟩ (fun v w101 H locs hq hw => ?_)
          obtain ⟨rfl, hT, hn9⟩ := hq
          rw [hr2] at hT
          have hT : moT cI cL w101 b (fun _ => 0) K S C (o2, v2, n1, tt, cc9, 0, 1, cl, op) := hT
          have b0 : w101 (b) = some (.inr (10, [.int (nI (0)), .ref (b + 1), .ref (b + 2), .int (nI (0)), .ref (b + 3), .ref (b + 4), .int (nI (0)), .int (nI (n1)), .ref (b + 5), .ref (b + 6), .int (nI (0)), .int (nI (op)), .int (nI (1)), .int (nI (cl)), .ref (b + 7), .ref (b + 8), .int (nI (0)), .int (nI (0)), .int (nI (0)), .int (nI (0))])) := hT.1
          have b5 : w101 (b + 5) = some (.inl (cI, 120, .inl (fun i => nI (o2 i)))) := hT.2.2.2 2 (by decide)
          have b6 : w101 (b + 6) = some (.inl (cI, 120, .inl (fun i => nI (v2 i)))) := hT.2.2.2 3 (by decide)
          have b7 : w101 (b + 7) = some (.inl (cI, 120, .inl (fun i => nI (tt i)))) := hT.2.2.2 4 (by decide)
          have b8 : w101 (b + 8) = some (.inl (cI, 120, .inl (fun i => nI (cc9 i)))) := hT.2.2.2 5 (by decide)
          have b3 : w101 (b + 3) = some (.inl (cI, 120, .inl (fun i => nI (K 0 i)))) := hT.2.2.2 0 (by decide)
          have b4 : w101 (b + 4) = some (.inl (cI, 120, .inl (fun i => nI (K 1 i)))) := hT.2.2.2 1 (by decide)
          refine W.eq (g2 := F0 m 99 ls []) rfl ?_
          refine lv_aload_n (pc := 99) hx hb dMo_compile_99 rfl (lv_at hl 1 rfl) ?_
          have hgo := cGd_eq hov2 hgd1
          have hme := mx_eq (fun j hj => (hov2 j hj).1)
          refine fw_cVR (pc := 100) (As := []) (rest := []) ⟨hx, hb, hml, hown, hW⟩ (c_Mo_hasRegisters hT (by omega) hgo) (cwV 0 hW (kw_V lm_Mo_120 im_Mo_hasRegisters se_Mo_hasRegisters ini_Mo cd_Mo_hasRegisters) rfl rfl rfl (by decide +kernel) ⟨Nat.le_of_ble_eq_true rfl, Nat.le_of_ble_eq_true rfl⟩) hK hw b0 rfl rfl hl.1 rfl (Nat.le_of_ble_eq_true rfl) dMo_compile_100 ⟨Nat.le_of_ble_eq_true rfl, Nat.le_of_ble_eq_true rfl⟩ (fun v hq => ?_)
          rw [hme] at hq
          rcases (show mx o1 n1 ≤ 10 ∨ ¬ mx o1 n1 ≤ 10 by omega) with hm9 | hm9
          · rw [if_pos hm9] at hq
            subst hq
            refine W.eq (g2 := F0 m 103 ls [.int (nI 1)]) rfl ?_
            refine lv_if_ne (pc := 103) (tgt := 114) hx hb dMo_compile_103 (by decide) (fun _ => ?_) (fun hc => absurd hc (show ¬ nI 1 = 0 by decide))
            refine lv_aload_n (pc := 114) hx hb dMo_compile_114 rfl (lv_at hl 1 rfl) ?_
            refine lv_iconst (pc := 115) (v := (nI 1)) hx hb dMo_compile_115 (by decide) ?_
            refine fw_put (pc := 116) (ci := 10) (v := .int (nI 1)) (ty := .boolean) (C := RMo) (T := TMo) (N := 20) hx hb hW in_Mo tyMo tyMo_ok nmMo hown hK.1 hw b0 rfl 6 (by decide) (hW _ lf_Mo_110) (fun _ h => h) rfl (by decide +kernel) rfl rfl (Nat.le_of_ble_eq_true rfl) dMo_compile_116 (fun H locs hw => ?_)
            obtain ⟨w102, e102⟩ : ∃ w_, w_ = fw_up w101 (b) (.inr (10, [.int (nI (0)), .ref (b + 1), .ref (b + 2), .int (nI (0)), .ref (b + 3), .ref (b + 4), .int (nI 1), .int (nI (n1)), .ref (b + 5), .ref (b + 6), .int (nI (0)), .int (nI (op)), .int (nI (1)), .int (nI (cl)), .ref (b + 7), .ref (b + 8), .int (nI (0)), .int (nI (0)), .int (nI (0)), .int (nI (0))])) := ⟨_, rfl⟩
            have hw : fw_H D kCl (fw_A w (sz)) s.heap w102 (sz) H locs := by rw [e102]; exact hw
            have b5_ : w102 (b + 5) = some (.inl (cI, 120, .inl (fun i => nI (o2 i)))) := by rw [e102, fw_un (by omega)]; exact b5
            have b6_ : w102 (b + 6) = some (.inl (cI, 120, .inl (fun i => nI (v2 i)))) := by rw [e102, fw_un (by omega)]; exact b6
            have b7_ : w102 (b + 7) = some (.inl (cI, 120, .inl (fun i => nI (tt i)))) := by rw [e102, fw_un (by omega)]; exact b7
            have b8_ : w102 (b + 8) = some (.inl (cI, 120, .inl (fun i => nI (cc9 i)))) := by rw [e102, fw_un (by omega)]; exact b8
            have b3_ : w102 (b + 3) = some (.inl (cI, 120, .inl (fun i => nI (K 0 i)))) := by rw [e102, fw_un (by omega)]; exact b3
            have b4_ : w102 (b + 4) = some (.inl (cI, 120, .inl (fun i => nI (K 1 i)))) := by rw [e102, fw_un (by omega)]; exact b4
            have b0_ : w102 (b) = some (.inr (10, [.int (nI (0)), .ref (b + 1), .ref (b + 2), .int (nI (0)), .ref (b + 3), .ref (b + 4), .int (nI 1), .int (nI (n1)), .ref (b + 5), .ref (b + 6), .int (nI (0)), .int (nI (op)), .int (nI (1)), .int (nI (cl)), .ref (b + 7), .ref (b + 8), .int (nI (0)), .int (nI (0)), .int (nI (0)), .int (nI (0))])) := by rw [e102]; exact fw_us _ _ _
            have b0 := b0_
            have b5 := b5_
            have b6 := b6_
            have b7 := b7_
            have b8 := b8_
            have b3 := b3_
            have b4 := b4_
            refine lv_iconst (pc := 119) (v := (nI 0)) hx hb dMo_compile_119 (by decide) ?_
            exact fw_iret (pc := 120) hx hb hr hlocks hw dMo_compile_120 ⟨by rw [if_pos ⟨rfl, hm9⟩], ⟨va_up (uI (fun _ => 0) (o2, v2, n1, tt, cc9, 0, 1, cl, op)) 6 1, _, moS.int hT b0 (fun q h9 => by rw [e102, fw_un h9]), rfl, rfl, rfl, rfl, rfl, rfl, rfl, rfl, fun _ => ⟨rfl, rfl, hov2⟩, fun h9 => absurd ⟨rfl, hm9⟩ h9⟩, fun q h9 => by rw [e102, fw_un (by omega), hn9 q h9]; exact hoF q h9⟩
          · rw [if_neg hm9] at hq
            subst hq
            refine W.eq (g2 := F0 m 103 ls [.int (nI 0)]) rfl ?_
            refine lv_if_ne (pc := 103) (tgt := 114) hx hb dMo_compile_103 (by decide) (fun hc => absurd hc (fun h9 => h9 (by decide))) (fun _ => ?_)
            refine lv_aload_n (pc := 106) hx hb dMo_compile_106 rfl (lv_at hl 1 rfl) ?_
            refine lv_iconst (pc := 107) (v := (nI 0)) hx hb dMo_compile_107 (by decide) ?_
            refine fw_put (pc := 108) (ci := 10) (v := .int (nI 0)) (ty := .int) (C := RMo) (T := TMo) (N := 20) hx hb hW in_Mo tyMo tyMo_ok nmMo hown hK.1 hw b0 rfl 7 (by decide) (hW _ lf_Mo_46) (fun _ h => h) rfl (by decide +kernel) rfl rfl (Nat.le_of_ble_eq_true rfl) dMo_compile_108 (fun H locs hw => ?_)
            obtain ⟨w102, e102⟩ : ∃ w_, w_ = fw_up w101 (b) (.inr (10, [.int (nI (0)), .ref (b + 1), .ref (b + 2), .int (nI (0)), .ref (b + 3), .ref (b + 4), .int (nI (0)), .int (nI 0), .ref (b + 5), .ref (b + 6), .int (nI (0)), .int (nI (op)), .int (nI (1)), .int (nI (cl)), .ref (b + 7), .ref (b + 8), .int (nI (0)), .int (nI (0)), .int (nI (0)), .int (nI (0))])) := ⟨_, rfl⟩
            have hw : fw_H D kCl (fw_A w (sz)) s.heap w102 (sz) H locs := by rw [e102]; exact hw
            have b5_ : w102 (b + 5) = some (.inl (cI, 120, .inl (fun i => nI (o2 i)))) := by rw [e102, fw_un (by omega)]; exact b5
            have b6_ : w102 (b + 6) = some (.inl (cI, 120, .inl (fun i => nI (v2 i)))) := by rw [e102, fw_un (by omega)]; exact b6
            have b7_ : w102 (b + 7) = some (.inl (cI, 120, .inl (fun i => nI (tt i)))) := by rw [e102, fw_un (by omega)]; exact b7
            have b8_ : w102 (b + 8) = some (.inl (cI, 120, .inl (fun i => nI (cc9 i)))) := by rw [e102, fw_un (by omega)]; exact b8
            have b3_ : w102 (b + 3) = some (.inl (cI, 120, .inl (fun i => nI (K 0 i)))) := by rw [e102, fw_un (by omega)]; exact b3
            have b4_ : w102 (b + 4) = some (.inl (cI, 120, .inl (fun i => nI (K 1 i)))) := by rw [e102, fw_un (by omega)]; exact b4
            have b0_ : w102 (b) = some (.inr (10, [.int (nI (0)), .ref (b + 1), .ref (b + 2), .int (nI (0)), .ref (b + 3), .ref (b + 4), .int (nI (0)), .int (nI 0), .ref (b + 5), .ref (b + 6), .int (nI (0)), .int (nI (op)), .int (nI (1)), .int (nI (cl)), .ref (b + 7), .ref (b + 8), .int (nI (0)), .int (nI (0)), .int (nI (0)), .int (nI (0))])) := by rw [e102]; exact fw_us _ _ _
            have b0 := b0_
            have b5 := b5_
            have b6 := b6_
            have b7 := b7_
            have b8 := b8_
            have b3 := b3_
            have b4 := b4_
            refine lv_bipush (pc := 111) (v := (-2)) hx hb dMo_compile_111 (by decide) ?_
            have hT : moT cI cL w102 b (fun _ => 0) K S C (o2, v2, 0, tt, cc9, 0, 1, cl, op) := hT.mk b0 b5 b6 b7 b8 (fun q h9 => by rw [e102, fw_un (by omega)])
            exact fw_iret (pc := 113) hx hb hr hlocks hw dMo_compile_113 ⟨by rw [if_neg (fun h9 => hm9 h9.2), if_pos rfl], ⟨_, _, hT, rfl, rfl, rfl, rfl, rfl, rfl, rfl, rfl, fun h9 => absurd h9.2 hm9, fun _ => ⟨rfl, rfl⟩⟩, fun q h9 => by rw [e102, fw_un (by omega), hn9 q h9]; exact hoF q h9⟩
        · refine lv_if_le (pc := 82) (tgt := 94) hx hb dMo_compile_82 (by decide) (fun hc => absurd hc (nI_nle ho0 (by omega))) (fun _ => ?_)
          have ha9 : a9 = i + 1 := by rw [← ha0, if_neg (fun h9 => absurd (hd0.mp h9) (by omega)), hi3]
          refine lv_aload_n (pc := 85) hx hb dMo_compile_85 rfl (lv_at hl 1 rfl) ?_
          refine lv_iconst (pc := 86) (v := (nI 0)) hx hb dMo_compile_86 (by decide) ?_
          refine fw_put (pc := 87) (ci := 10) (v := .int (nI 0)) (ty := .int) (C := RMo) (T := TMo) (N := 20) hx hb hW in_Mo tyMo tyMo_ok nmMo hown hK.1 hw b0 rfl 7 (by decide) (hW _ lf_Mo_46) (fun _ h => h) rfl (by decide +kernel) rfl rfl (Nat.le_of_ble_eq_true rfl) dMo_compile_87 (fun H locs hw => ?_)
          obtain ⟨w101, e101⟩ : ∃ w_, w_ = fw_up w1 (b) (.inr (10, [.int (nI (0)), .ref (b + 1), .ref (b + 2), .int (nI (0)), .ref (b + 3), .ref (b + 4), .int (nI (0)), .int (nI 0), .ref (b + 5), .ref (b + 6), .int (nI (d)), .int (nI (op)), .int (nI (1)), .int (nI (cl)), .ref (b + 7), .ref (b + 8), .int (nI (0)), .int (nI (0)), .int (nI (0)), .int (nI (0))])) := ⟨_, rfl⟩
          have hw : fw_H D kCl (fw_A w (sz)) s.heap w101 (sz) H locs := by rw [e101]; exact hw
          have b5_ : w101 (b + 5) = some (.inl (cI, 120, .inl (fun i => nI (oo i)))) := by rw [e101, fw_un (by omega)]; exact b5
          have b6_ : w101 (b + 6) = some (.inl (cI, 120, .inl (fun i => nI (vv i)))) := by rw [e101, fw_un (by omega)]; exact b6
          have b7_ : w101 (b + 7) = some (.inl (cI, 120, .inl (fun i => nI (tt i)))) := by rw [e101, fw_un (by omega)]; exact b7
          have b8_ : w101 (b + 8) = some (.inl (cI, 120, .inl (fun i => nI (cc9 i)))) := by rw [e101, fw_un (by omega)]; exact b8
          have b3_ : w101 (b + 3) = some (.inl (cI, 120, .inl (fun i => nI (K 0 i)))) := by rw [e101, fw_un (by omega)]; exact b3
          have b4_ : w101 (b + 4) = some (.inl (cI, 120, .inl (fun i => nI (K 1 i)))) := by rw [e101, fw_un (by omega)]; exact b4
          have b0_ : w101 (b) = some (.inr (10, [.int (nI (0)), .ref (b + 1), .ref (b + 2), .int (nI (0)), .ref (b + 3), .ref (b + 4), .int (nI (0)), .int (nI 0), .ref (b + 5), .ref (b + 6), .int (nI (d)), .int (nI (op)), .int (nI (1)), .int (nI (cl)), .ref (b + 7), .ref (b + 8), .int (nI (0)), .int (nI (0)), .int (nI (0)), .int (nI (0))])) := by rw [e101]; exact fw_us _ _ _
          have b0 := b0_
          have b5 := b5_
          have b6 := b6_
          have b7 := b7_
          have b8 := b8_
          have b3 := b3_
          have b4 := b4_
          have hT : moT cI cL w101 b (fun _ => 0) K S C (oo, vv, 0, tt, cc9, d, 1, cl, op) := hT.mk b0 b5 b6 b7 b8 (fun q h9 => by rw [e101, fw_un (by omega)])
          refine lv_iconst (pc := 90) (v := (nI 1)) hx hb dMo_compile_90 (by decide) ?_
          refine lv_iload_n (pc := 91) hx hb dMo_compile_91 rfl (lv_at hl 0 rfl) ?_
          refine lv_iadd (pc := 92) hx hb dMo_compile_92 ?_
          rw [show (((nI 1) + nI i) : Int32) = nI a9 from (by rw [ha9, Nat.add_comm i 1]; exact nI_add 1 i)]
          exact fw_iret (pc := 93) hx hb hr hlocks hw dMo_compile_93 ⟨by rw [if_neg (fun h9 => absurd h9.1 (by omega)), if_neg (by omega)], ⟨_, _, hT, rfl, rfl, rfl, rfl, rfl, rfl, rfl, rfl, fun h9 => absurd h9.1 (by omega), fun _ => ⟨rfl, rfl⟩⟩, fun q h9 => by rw [e101, fw_un (by omega)]; exact hoF q h9⟩
      · refine lv_icmp_ne (pc := 75) (tgt := 85) hx hb dMo_compile_75 (by decide) (fun _ => ?_) (fun hc => absurd hc (fun h9 => hx1 ((nI_eq (show x < 2 ^ 31 by omega) (by decide)).mp h9)))
        have ha9 : a9 = i + 1 := by (have h9 : tTr (K 0) (K 1) (I 3) 0 i (o, v, n, t, c8, dd, x) = (I 3 + 1, (o, v, n, t, c8, dd, x)) := if_neg hx1); (rw [h9] at htr); (have h8 := congrArg Prod.fst htr); (have h7 : I 3 + 1 = a9 := h8); omega
        refine lv_aload_n (pc := 85) hx hb dMo_compile_85 rfl (lv_at hl 1 rfl) ?_
        refine lv_iconst (pc := 86) (v := (nI 0)) hx hb dMo_compile_86 (by decide) ?_
        refine fw_put (pc := 87) (ci := 10) (v := .int (nI 0)) (ty := .int) (C := RMo) (T := TMo) (N := 20) hx hb hW in_Mo tyMo tyMo_ok nmMo hown hK.1 hw b0 rfl 7 (by decide) (hW _ lf_Mo_46) (fun _ h => h) rfl (by decide +kernel) rfl rfl (Nat.le_of_ble_eq_true rfl) dMo_compile_87 (fun H locs hw => ?_)
        obtain ⟨w101, e101⟩ : ∃ w_, w_ = fw_up w1 (b) (.inr (10, [.int (nI (0)), .ref (b + 1), .ref (b + 2), .int (nI (0)), .ref (b + 3), .ref (b + 4), .int (nI (0)), .int (nI 0), .ref (b + 5), .ref (b + 6), .int (nI (d)), .int (nI (op)), .int (nI (x)), .int (nI (cl)), .ref (b + 7), .ref (b + 8), .int (nI (0)), .int (nI (0)), .int (nI (0)), .int (nI (0))])) := ⟨_, rfl⟩
        have hw : fw_H D kCl (fw_A w (sz)) s.heap w101 (sz) H locs := by rw [e101]; exact hw
        have b5_ : w101 (b + 5) = some (.inl (cI, 120, .inl (fun i => nI (oo i)))) := by rw [e101, fw_un (by omega)]; exact b5
        have b6_ : w101 (b + 6) = some (.inl (cI, 120, .inl (fun i => nI (vv i)))) := by rw [e101, fw_un (by omega)]; exact b6
        have b7_ : w101 (b + 7) = some (.inl (cI, 120, .inl (fun i => nI (tt i)))) := by rw [e101, fw_un (by omega)]; exact b7
        have b8_ : w101 (b + 8) = some (.inl (cI, 120, .inl (fun i => nI (cc9 i)))) := by rw [e101, fw_un (by omega)]; exact b8
        have b3_ : w101 (b + 3) = some (.inl (cI, 120, .inl (fun i => nI (K 0 i)))) := by rw [e101, fw_un (by omega)]; exact b3
        have b4_ : w101 (b + 4) = some (.inl (cI, 120, .inl (fun i => nI (K 1 i)))) := by rw [e101, fw_un (by omega)]; exact b4
        have b0_ : w101 (b) = some (.inr (10, [.int (nI (0)), .ref (b + 1), .ref (b + 2), .int (nI (0)), .ref (b + 3), .ref (b + 4), .int (nI (0)), .int (nI 0), .ref (b + 5), .ref (b + 6), .int (nI (d)), .int (nI (op)), .int (nI (x)), .int (nI (cl)), .ref (b + 7), .ref (b + 8), .int (nI (0)), .int (nI (0)), .int (nI (0)), .int (nI (0))])) := by rw [e101]; exact fw_us _ _ _
        have b0 := b0_
        have b5 := b5_
        have b6 := b6_
        have b7 := b7_
        have b8 := b8_
        have b3 := b3_
        have b4 := b4_
        have hT : moT cI cL w101 b (fun _ => 0) K S C (oo, vv, 0, tt, cc9, d, x, cl, op) := hT.mk b0 b5 b6 b7 b8 (fun q h9 => by rw [e101, fw_un (by omega)])
        refine lv_iconst (pc := 90) (v := (nI 1)) hx hb dMo_compile_90 (by decide) ?_
        refine lv_iload_n (pc := 91) hx hb dMo_compile_91 rfl (lv_at hl 0 rfl) ?_
        refine lv_iadd (pc := 92) hx hb dMo_compile_92 ?_
        rw [show (((nI 1) + nI i) : Int32) = nI a9 from (by rw [ha9, Nat.add_comm i 1]; exact nI_add 1 i)]
        exact fw_iret (pc := 93) hx hb hr hlocks hw dMo_compile_93 ⟨by rw [if_neg (fun h9 => absurd h9.1 (by omega)), if_neg (by omega)], ⟨_, _, hT, rfl, rfl, rfl, rfl, rfl, rfl, rfl, rfl, fun h9 => absurd h9.1 (by omega), fun _ => ⟨rfl, rfl⟩⟩, fun q h9 => by rw [e101, fw_un (by omega)]; exact hoF q h9⟩
    | succ r ih =>
      intro i oo vv n tt cc9 d x cl op s9 hir hsm htr w1 H locs ls hw hl hT hoF
      have b0 : w1 (b) = some (.inr (10, [.int (nI (0)), .ref (b + 1), .ref (b + 2), .int (nI (0)), .ref (b + 3), .ref (b + 4), .int (nI (0)), .int (nI (n)), .ref (b + 5), .ref (b + 6), .int (nI (d)), .int (nI (op)), .int (nI (x)), .int (nI (cl)), .ref (b + 7), .ref (b + 8), .int (nI (0)), .int (nI (0)), .int (nI (0)), .int (nI (0))])) := hT.1
      have b5 : w1 (b + 5) = some (.inl (cI, 120, .inl (fun i => nI (oo i)))) := hT.2.2.2 2 (by decide)
      have b6 : w1 (b + 6) = some (.inl (cI, 120, .inl (fun i => nI (vv i)))) := hT.2.2.2 3 (by decide)
      have b7 : w1 (b + 7) = some (.inl (cI, 120, .inl (fun i => nI (tt i)))) := hT.2.2.2 4 (by decide)
      have b8 : w1 (b + 8) = some (.inl (cI, 120, .inl (fun i => nI (cc9 i)))) := hT.2.2.2 5 (by decide)
      have b3 : w1 (b + 3) = some (.inl (cI, 120, .inl (fun i => nI (K 0 i)))) := hT.2.2.2 0 (by decide)
      have b4 : w1 (b + 4) = some (.inl (cI, 120, .inl (fun i => nI (K 1 i)))) := hT.2.2.2 1 (by decide)
      obtain ⟨o, v, nn, t, c8, dd, xx⟩ := s9
      obtain ⟨hs1, hs2, hs3, hs4, hU, hs6, hs7⟩ := id hsm
      obtain ⟨hnd, ht, hx3, hcl, hop⟩ := id hU
      subst hs1
      subst hs2
      refine lv_iload_n (pc := 46) hx hb dMo_compile_46 rfl (lv_at hl 0 rfl) ?_
      refine lv_iload_n (pc := 47) hx hb dMo_compile_47 rfl (lv_at hl 2 rfl) ?_
      refine lv_icmp_ge (pc := 48) (tgt := 65) hx hb dMo_compile_48 (by decide) (fun hc => absurd hc (nI_ge (show i < I 3 by omega) (by omega))) (fun _ => ?_)
      refine lv_aload_n (pc := 51) hx hb dMo_compile_51 rfl (lv_at hl 1 rfl) ?_
      refine lv_iload_n (pc := 52) hx hb dMo_compile_52 rfl (lv_at hl 0 rfl) ?_
      obtain ⟨hq1, hq2⟩ := sim_step (u := K 1 i) hsm (hk i (by omega))
      refine fw_cV (pc := 53) (As := [.int (nI i)]) (rest := []) ⟨hx, hb, hml, hown, hW⟩ (c_Mo_stands (i := i) hT (by omega) (hk i (by omega)) hU) (cwV 1 hW (kw_V lm_Mo_117 im_Mo_stands se_Mo_stands ini_Mo cd_Mo_stands) rfl rfl rfl (by decide +kernel) ⟨Nat.le_of_ble_eq_true rfl, Nat.le_of_ble_eq_true rfl⟩) hK hw b0 rfl rfl hl.1 rfl (Nat.le_of_ble_eq_true rfl) dMo_compile_53 ⟨Nat.le_of_ble_eq_true rfl, Nat.le_of_ble_eq_true rfl⟩ (fun v w101 H locs hq hw => ?_)
      obtain ⟨rfl, hT, hn9⟩ := hq
      obtain ⟨bo, o2, v2, n2, t2, c2, d2, x2, cl2, op2, hst⟩ : ∃ y0 y1 y2 y3 y4 y5 y6 y7 y8 y9, uSt (K 0 i) (K 1 i) (oo, vv, n, tt, cc9, d, x, cl, op) = (y0, (y1, y2, y3, y4, y5, y6, y7, y8, y9)) := ⟨_, _, _, _, _, _, _, _, _, _, rfl⟩
      rw [hst] at hT hq1 hq2
      have hT : moT cI cL w101 b (fun _ => 0) K S C (o2, v2, n2, t2, c2, d2, x2, cl2, op2) := hT
      have b0 : w101 (b) = some (.inr (10, [.int (nI (0)), .ref (b + 1), .ref (b + 2), .int (nI (0)), .ref (b + 3), .ref (b + 4), .int (nI (0)), .int (nI (n2)), .ref (b + 5), .ref (b + 6), .int (nI (d2)), .int (nI (op2)), .int (nI (x2)), .int (nI (cl2)), .ref (b + 7), .ref (b + 8), .int (nI (0)), .int (nI (0)), .int (nI (0)), .int (nI (0))])) := hT.1
      have b5 : w101 (b + 5) = some (.inl (cI, 120, .inl (fun i => nI (o2 i)))) := hT.2.2.2 2 (by decide)
      have b6 : w101 (b + 6) = some (.inl (cI, 120, .inl (fun i => nI (v2 i)))) := hT.2.2.2 3 (by decide)
      have b7 : w101 (b + 7) = some (.inl (cI, 120, .inl (fun i => nI (t2 i)))) := hT.2.2.2 4 (by decide)
      have b8 : w101 (b + 8) = some (.inl (cI, 120, .inl (fun i => nI (c2 i)))) := hT.2.2.2 5 (by decide)
      have b3 : w101 (b + 3) = some (.inl (cI, 120, .inl (fun i => nI (K 0 i)))) := hT.2.2.2 0 (by decide)
      have b4 : w101 (b + 4) = some (.inl (cI, 120, .inl (fun i => nI (K 1 i)))) := hT.2.2.2 1 (by decide)
      have hq1 : bo = (tAc (K 0 i) (K 1 i) (o, v, n, t, c8, dd, x)).1 := hq1
      rw [hst]
      refine W.eq (g2 := F0 m 56 ls [.int (nI (if bo = true then 1 else 0))]) rfl ?_
      have hoF : ∀ q, q < b ∨ b + 9 ≤ q → w101 q = w q := fun q h9 => (hn9 q h9).trans (hoF q h9)
      rcases (show bo = true ∨ bo = false by (cases bo; exact Or.inr rfl; exact Or.inl rfl)) with hb9 | hb9
      · subst hb9
        refine lv_if_eq (pc := 56) (tgt := 65) hx hb dMo_compile_56 (by decide) (fun hc => absurd hc (show ¬ nI 1 = 0 by decide)) (fun _ => ?_)
        refine lv_iinc (pc := 59) (lv' := [(2, .int (nI (i + 1))), (0, .ref b), (1, .int (nI (I 3)))]) hx hb dMo_compile_59 hl (k := 0) rfl ((nI_add i 1)) (by decide) rfl (fun ls hl => ?_)
        refine lv_goto (pc := 62) (tgt := 46) hx hb dMo_compile_62 (by decide) ?_
        exact ih (i + 1) _ _ _ _ _ _ _ _ _ _ (by omega) (hq2 hq1.symm) ((if_pos hq1.symm).symm.trans htr) _ H locs ls hw (lv_sub hl [0, 1, 2] rfl) hT hoF
      · subst hb9
        refine lv_if_eq (pc := 56) (tgt := 65) hx hb dMo_compile_56 (by decide) (fun _ => ?_) (fun hc => absurd (show nI 0 = 0 by decide) hc)
        refine lv_iload_n (pc := 65) hx hb dMo_compile_65 rfl (lv_at hl 0 rfl) ?_
        refine lv_iload_n (pc := 66) hx hb dMo_compile_66 rfl (lv_at hl 2 rfl) ?_
        refine lv_icmp_lt (pc := 67) (tgt := 85) hx hb dMo_compile_67 (by decide) (fun _ => ?_) (fun hc => absurd ((nI_ltI (by omega) (by omega)).mpr (show i < I 3 by omega)) hc)
        have ha9 : a9 = i + 1 := (congrArg Prod.fst ((if_neg (by rw [← hq1]; decide)).symm.trans htr)).symm
        refine lv_aload_n (pc := 85) hx hb dMo_compile_85 rfl (lv_at hl 1 rfl) ?_
        refine lv_iconst (pc := 86) (v := (nI 0)) hx hb dMo_compile_86 (by decide) ?_
        refine fw_put (pc := 87) (ci := 10) (v := .int (nI 0)) (ty := .int) (C := RMo) (T := TMo) (N := 20) hx hb hW in_Mo tyMo tyMo_ok nmMo hown hK.1 hw b0 rfl 7 (by decide) (hW _ lf_Mo_46) (fun _ h => h) rfl (by decide +kernel) rfl rfl (Nat.le_of_ble_eq_true rfl) dMo_compile_87 (fun H locs hw => ?_)
        obtain ⟨w102, e102⟩ : ∃ w_, w_ = fw_up w101 (b) (.inr (10, [.int (nI (0)), .ref (b + 1), .ref (b + 2), .int (nI (0)), .ref (b + 3), .ref (b + 4), .int (nI (0)), .int (nI 0), .ref (b + 5), .ref (b + 6), .int (nI (d2)), .int (nI (op2)), .int (nI (x2)), .int (nI (cl2)), .ref (b + 7), .ref (b + 8), .int (nI (0)), .int (nI (0)), .int (nI (0)), .int (nI (0))])) := ⟨_, rfl⟩
        have hw : fw_H D kCl (fw_A w (sz)) s.heap w102 (sz) H locs := by rw [e102]; exact hw
        have b5_ : w102 (b + 5) = some (.inl (cI, 120, .inl (fun i => nI (o2 i)))) := by rw [e102, fw_un (by omega)]; exact b5
        have b6_ : w102 (b + 6) = some (.inl (cI, 120, .inl (fun i => nI (v2 i)))) := by rw [e102, fw_un (by omega)]; exact b6
        have b7_ : w102 (b + 7) = some (.inl (cI, 120, .inl (fun i => nI (t2 i)))) := by rw [e102, fw_un (by omega)]; exact b7
        have b8_ : w102 (b + 8) = some (.inl (cI, 120, .inl (fun i => nI (c2 i)))) := by rw [e102, fw_un (by omega)]; exact b8
        have b3_ : w102 (b + 3) = some (.inl (cI, 120, .inl (fun i => nI (K 0 i)))) := by rw [e102, fw_un (by omega)]; exact b3
        have b4_ : w102 (b + 4) = some (.inl (cI, 120, .inl (fun i => nI (K 1 i)))) := by rw [e102, fw_un (by omega)]; exact b4
        have b0_ : w102 (b) = some (.inr (10, [.int (nI (0)), .ref (b + 1), .ref (b + 2), .int (nI (0)), .ref (b + 3), .ref (b + 4), .int (nI (0)), .int (nI 0), .ref (b + 5), .ref (b + 6), .int (nI (d2)), .int (nI (op2)), .int (nI (x2)), .int (nI (cl2)), .ref (b + 7), .ref (b + 8), .int (nI (0)), .int (nI (0)), .int (nI (0)), .int (nI (0))])) := by rw [e102]; exact fw_us _ _ _
        have b0 := b0_
        have b5 := b5_
        have b6 := b6_
        have b7 := b7_
        have b8 := b8_
        have b3 := b3_
        have b4 := b4_
        have hT : moT cI cL w102 b (fun _ => 0) K S C (o2, v2, 0, t2, c2, d2, x2, cl2, op2) := hT.mk b0 b5 b6 b7 b8 (fun q h9 => by rw [e102, fw_un (by omega)])
        refine lv_iconst (pc := 90) (v := (nI 1)) hx hb dMo_compile_90 (by decide) ?_
        refine lv_iload_n (pc := 91) hx hb dMo_compile_91 rfl (lv_at hl 0 rfl) ?_
        refine lv_iadd (pc := 92) hx hb dMo_compile_92 ?_
        rw [show (((nI 1) + nI i) : Int32) = nI a9 from (by rw [ha9, Nat.add_comm i 1]; exact nI_add 1 i)]
        exact fw_iret (pc := 93) hx hb hr hlocks hw dMo_compile_93 ⟨by rw [if_neg (fun h9 => absurd h9.1 (by omega)), if_neg (by omega)], ⟨_, _, hT, rfl, rfl, rfl, rfl, rfl, rfl, rfl, rfl, fun h9 => absurd h9.1 (by omega), fun _ => ⟨rfl, rfl⟩⟩, fun q h9 => by rw [e102, fw_un (by omega)]; exact hoF q h9⟩
  have b0 : w b = some (.inr (10, [.int (nI (I 0)), .ref (b + 1), .ref (b + 2), .int (nI (I 3)), .ref (b + 3), .ref (b + 4), .int (nI (I 6)), .int (nI (I 7)), .ref (b + 5), .ref (b + 6), .int (nI (I 10)), .int (nI (I 11)), .int (nI (I 12)), .int (nI (I 13)), .ref (b + 7), .ref (b + 8), .int (nI (I 16)), .int (nI (I 17)), .int (nI (I 18)), .int (nI (I 19))])) := hS.1
  refine lv_aload_n (pc := 0) hx hb dMo_compile_0 rfl (lv_at hl 0 rfl) ?_
  refine lv_iconst (pc := 1) (v := (nI 0)) hx hb dMo_compile_1 (by decide) ?_
  refine fw_put (pc := 2) (ci := 10) (v := .int (nI 0)) (ty := .int) (C := RMo) (T := TMo) (N := 20) hx hb hW in_Mo tyMo tyMo_ok nmMo hown hK.1 hw b0 rfl 0 (by decide) (hW _ lf_Mo_35) (fun _ h => h) rfl (by decide +kernel) rfl rfl (Nat.le_of_ble_eq_true rfl) dMo_compile_2 (fun H locs hw => ?_)
  obtain ⟨w201, e201⟩ : ∃ w_, w_ = fw_up w (b) (.inr (10, [.int (nI 0), .ref (b + 1), .ref (b + 2), .int (nI (I 3)), .ref (b + 3), .ref (b + 4), .int (nI (I 6)), .int (nI (I 7)), .ref (b + 5), .ref (b + 6), .int (nI (I 10)), .int (nI (I 11)), .int (nI (I 12)), .int (nI (I 13)), .ref (b + 7), .ref (b + 8), .int (nI (I 16)), .int (nI (I 17)), .int (nI (I 18)), .int (nI (I 19))])) := ⟨_, rfl⟩
  have hw : fw_H D kCl (fw_A w (sz)) s.heap w201 (sz) H locs := by rw [e201]; exact hw
  have b0_ : w201 (b) = some (.inr (10, [.int (nI 0), .ref (b + 1), .ref (b + 2), .int (nI (I 3)), .ref (b + 3), .ref (b + 4), .int (nI (I 6)), .int (nI (I 7)), .ref (b + 5), .ref (b + 6), .int (nI (I 10)), .int (nI (I 11)), .int (nI (I 12)), .int (nI (I 13)), .ref (b + 7), .ref (b + 8), .int (nI (I 16)), .int (nI (I 17)), .int (nI (I 18)), .int (nI (I 19))])) := by rw [e201]; exact fw_us _ _ _
  have b0 := b0_
  refine lv_aload_n (pc := 5) hx hb dMo_compile_5 rfl (lv_at hl 0 rfl) ?_
  refine fw_get (pc := 6) (ci := 10) (v := .int (nI (I 3))) (C := RMo) (T := TMo) (N := 20) hx hb hW in_Mo hown hK.1 hw b0 rfl 3 (by decide) (hW _ lf_Mo_43) (fun _ h => h) rfl dMo_compile_6 ?_
  refine lv_istore_n (pc := 9) (lv' := [(1, .int (nI (I 3))), (0, .ref b)]) hx hb dMo_compile_9 rfl hl (by decide) rfl (fun ls hl => ?_)
  refine lv_aload_n (pc := 10) hx hb dMo_compile_10 rfl (lv_at hl 1 rfl) ?_
  refine lv_iconst (pc := 11) (v := (nI 0)) hx hb dMo_compile_11 (by decide) ?_
  refine fw_put (pc := 12) (ci := 10) (v := .int (nI 0)) (ty := .int) (C := RMo) (T := TMo) (N := 20) hx hb hW in_Mo tyMo tyMo_ok nmMo hown hK.1 hw b0 rfl 3 (by decide) (hW _ lf_Mo_43) (fun _ h => h) rfl (by decide +kernel) rfl rfl (Nat.le_of_ble_eq_true rfl) dMo_compile_12 (fun H locs hw => ?_)
  obtain ⟨w202, e202⟩ : ∃ w_, w_ = fw_up w201 (b) (.inr (10, [.int (nI 0), .ref (b + 1), .ref (b + 2), .int (nI 0), .ref (b + 3), .ref (b + 4), .int (nI (I 6)), .int (nI (I 7)), .ref (b + 5), .ref (b + 6), .int (nI (I 10)), .int (nI (I 11)), .int (nI (I 12)), .int (nI (I 13)), .ref (b + 7), .ref (b + 8), .int (nI (I 16)), .int (nI (I 17)), .int (nI (I 18)), .int (nI (I 19))])) := ⟨_, rfl⟩
  have hw : fw_H D kCl (fw_A w (sz)) s.heap w202 (sz) H locs := by rw [e202]; exact hw
  have b0_ : w202 (b) = some (.inr (10, [.int (nI 0), .ref (b + 1), .ref (b + 2), .int (nI 0), .ref (b + 3), .ref (b + 4), .int (nI (I 6)), .int (nI (I 7)), .ref (b + 5), .ref (b + 6), .int (nI (I 10)), .int (nI (I 11)), .int (nI (I 12)), .int (nI (I 13)), .ref (b + 7), .ref (b + 8), .int (nI (I 16)), .int (nI (I 17)), .int (nI (I 18)), .int (nI (I 19))])) := by rw [e202]; exact fw_us _ _ _
  have b0 := b0_
  refine lv_aload_n (pc := 15) hx hb dMo_compile_15 rfl (lv_at hl 1 rfl) ?_
  refine lv_iconst (pc := 16) (v := (nI 0)) hx hb dMo_compile_16 (by decide) ?_
  refine fw_put (pc := 17) (ci := 10) (v := .int (nI 0)) (ty := .boolean) (C := RMo) (T := TMo) (N := 20) hx hb hW in_Mo tyMo tyMo_ok nmMo hown hK.1 hw b0 rfl 6 (by decide) (hW _ lf_Mo_110) (fun _ h => h) rfl (by decide +kernel) rfl rfl (Nat.le_of_ble_eq_true rfl) dMo_compile_17 (fun H locs hw => ?_)
  obtain ⟨w203, e203⟩ : ∃ w_, w_ = fw_up w202 (b) (.inr (10, [.int (nI 0), .ref (b + 1), .ref (b + 2), .int (nI 0), .ref (b + 3), .ref (b + 4), .int (nI 0), .int (nI (I 7)), .ref (b + 5), .ref (b + 6), .int (nI (I 10)), .int (nI (I 11)), .int (nI (I 12)), .int (nI (I 13)), .ref (b + 7), .ref (b + 8), .int (nI (I 16)), .int (nI (I 17)), .int (nI (I 18)), .int (nI (I 19))])) := ⟨_, rfl⟩
  have hw : fw_H D kCl (fw_A w (sz)) s.heap w203 (sz) H locs := by rw [e203]; exact hw
  have b0_ : w203 (b) = some (.inr (10, [.int (nI 0), .ref (b + 1), .ref (b + 2), .int (nI 0), .ref (b + 3), .ref (b + 4), .int (nI 0), .int (nI (I 7)), .ref (b + 5), .ref (b + 6), .int (nI (I 10)), .int (nI (I 11)), .int (nI (I 12)), .int (nI (I 13)), .ref (b + 7), .ref (b + 8), .int (nI (I 16)), .int (nI (I 17)), .int (nI (I 18)), .int (nI (I 19))])) := by rw [e203]; exact fw_us _ _ _
  have b0 := b0_
  refine lv_aload_n (pc := 20) hx hb dMo_compile_20 rfl (lv_at hl 1 rfl) ?_
  refine lv_iconst (pc := 21) (v := (nI 0)) hx hb dMo_compile_21 (by decide) ?_
  refine fw_put (pc := 22) (ci := 10) (v := .int (nI 0)) (ty := .int) (C := RMo) (T := TMo) (N := 20) hx hb hW in_Mo tyMo tyMo_ok nmMo hown hK.1 hw b0 rfl 7 (by decide) (hW _ lf_Mo_46) (fun _ h => h) rfl (by decide +kernel) rfl rfl (Nat.le_of_ble_eq_true rfl) dMo_compile_22 (fun H locs hw => ?_)
  obtain ⟨w204, e204⟩ : ∃ w_, w_ = fw_up w203 (b) (.inr (10, [.int (nI 0), .ref (b + 1), .ref (b + 2), .int (nI 0), .ref (b + 3), .ref (b + 4), .int (nI 0), .int (nI 0), .ref (b + 5), .ref (b + 6), .int (nI (I 10)), .int (nI (I 11)), .int (nI (I 12)), .int (nI (I 13)), .ref (b + 7), .ref (b + 8), .int (nI (I 16)), .int (nI (I 17)), .int (nI (I 18)), .int (nI (I 19))])) := ⟨_, rfl⟩
  have hw : fw_H D kCl (fw_A w (sz)) s.heap w204 (sz) H locs := by rw [e204]; exact hw
  have b0_ : w204 (b) = some (.inr (10, [.int (nI 0), .ref (b + 1), .ref (b + 2), .int (nI 0), .ref (b + 3), .ref (b + 4), .int (nI 0), .int (nI 0), .ref (b + 5), .ref (b + 6), .int (nI (I 10)), .int (nI (I 11)), .int (nI (I 12)), .int (nI (I 13)), .ref (b + 7), .ref (b + 8), .int (nI (I 16)), .int (nI (I 17)), .int (nI (I 18)), .int (nI (I 19))])) := by rw [e204]; exact fw_us _ _ _
  have b0 := b0_
  refine lv_aload_n (pc := 25) hx hb dMo_compile_25 rfl (lv_at hl 1 rfl) ?_
  refine lv_iconst (pc := 26) (v := (nI 0)) hx hb dMo_compile_26 (by decide) ?_
  refine fw_put (pc := 27) (ci := 10) (v := .int (nI 0)) (ty := .int) (C := RMo) (T := TMo) (N := 20) hx hb hW in_Mo tyMo tyMo_ok nmMo hown hK.1 hw b0 rfl 10 (by decide) (hW _ lf_Mo_49) (fun _ h => h) rfl (by decide +kernel) rfl rfl (Nat.le_of_ble_eq_true rfl) dMo_compile_27 (fun H locs hw => ?_)
  obtain ⟨w205, e205⟩ : ∃ w_, w_ = fw_up w204 (b) (.inr (10, [.int (nI 0), .ref (b + 1), .ref (b + 2), .int (nI 0), .ref (b + 3), .ref (b + 4), .int (nI 0), .int (nI 0), .ref (b + 5), .ref (b + 6), .int (nI 0), .int (nI (I 11)), .int (nI (I 12)), .int (nI (I 13)), .ref (b + 7), .ref (b + 8), .int (nI (I 16)), .int (nI (I 17)), .int (nI (I 18)), .int (nI (I 19))])) := ⟨_, rfl⟩
  have hw : fw_H D kCl (fw_A w (sz)) s.heap w205 (sz) H locs := by rw [e205]; exact hw
  have b0_ : w205 (b) = some (.inr (10, [.int (nI 0), .ref (b + 1), .ref (b + 2), .int (nI 0), .ref (b + 3), .ref (b + 4), .int (nI 0), .int (nI 0), .ref (b + 5), .ref (b + 6), .int (nI 0), .int (nI (I 11)), .int (nI (I 12)), .int (nI (I 13)), .ref (b + 7), .ref (b + 8), .int (nI (I 16)), .int (nI (I 17)), .int (nI (I 18)), .int (nI (I 19))])) := by rw [e205]; exact fw_us _ _ _
  have b0 := b0_
  refine lv_aload_n (pc := 30) hx hb dMo_compile_30 rfl (lv_at hl 1 rfl) ?_
  refine lv_iconst (pc := 31) (v := (nI 0)) hx hb dMo_compile_31 (by decide) ?_
  refine fw_put (pc := 32) (ci := 10) (v := .int (nI 0)) (ty := .int) (C := RMo) (T := TMo) (N := 20) hx hb hW in_Mo tyMo tyMo_ok nmMo hown hK.1 hw b0 rfl 11 (by decide) (hW _ lf_Mo_66) (fun _ h => h) rfl (by decide +kernel) rfl rfl (Nat.le_of_ble_eq_true rfl) dMo_compile_32 (fun H locs hw => ?_)
  obtain ⟨w206, e206⟩ : ∃ w_, w_ = fw_up w205 (b) (.inr (10, [.int (nI 0), .ref (b + 1), .ref (b + 2), .int (nI 0), .ref (b + 3), .ref (b + 4), .int (nI 0), .int (nI 0), .ref (b + 5), .ref (b + 6), .int (nI 0), .int (nI 0), .int (nI (I 12)), .int (nI (I 13)), .ref (b + 7), .ref (b + 8), .int (nI (I 16)), .int (nI (I 17)), .int (nI (I 18)), .int (nI (I 19))])) := ⟨_, rfl⟩
  have hw : fw_H D kCl (fw_A w (sz)) s.heap w206 (sz) H locs := by rw [e206]; exact hw
  have b0_ : w206 (b) = some (.inr (10, [.int (nI 0), .ref (b + 1), .ref (b + 2), .int (nI 0), .ref (b + 3), .ref (b + 4), .int (nI 0), .int (nI 0), .ref (b + 5), .ref (b + 6), .int (nI 0), .int (nI 0), .int (nI (I 12)), .int (nI (I 13)), .ref (b + 7), .ref (b + 8), .int (nI (I 16)), .int (nI (I 17)), .int (nI (I 18)), .int (nI (I 19))])) := by rw [e206]; exact fw_us _ _ _
  have b0 := b0_
  refine lv_aload_n (pc := 35) hx hb dMo_compile_35 rfl (lv_at hl 1 rfl) ?_
  refine lv_iconst (pc := 36) (v := (nI 0)) hx hb dMo_compile_36 (by decide) ?_
  refine fw_put (pc := 37) (ci := 10) (v := .int (nI 0)) (ty := .int) (C := RMo) (T := TMo) (N := 20) hx hb hW in_Mo tyMo tyMo_ok nmMo hown hK.1 hw b0 rfl 12 (by decide) (hW _ lf_Mo_60) (fun _ h => h) rfl (by decide +kernel) rfl rfl (Nat.le_of_ble_eq_true rfl) dMo_compile_37 (fun H locs hw => ?_)
  obtain ⟨w207, e207⟩ : ∃ w_, w_ = fw_up w206 (b) (.inr (10, [.int (nI 0), .ref (b + 1), .ref (b + 2), .int (nI 0), .ref (b + 3), .ref (b + 4), .int (nI 0), .int (nI 0), .ref (b + 5), .ref (b + 6), .int (nI 0), .int (nI 0), .int (nI 0), .int (nI (I 13)), .ref (b + 7), .ref (b + 8), .int (nI (I 16)), .int (nI (I 17)), .int (nI (I 18)), .int (nI (I 19))])) := ⟨_, rfl⟩
  have hw : fw_H D kCl (fw_A w (sz)) s.heap w207 (sz) H locs := by rw [e207]; exact hw
  have b0_ : w207 (b) = some (.inr (10, [.int (nI 0), .ref (b + 1), .ref (b + 2), .int (nI 0), .ref (b + 3), .ref (b + 4), .int (nI 0), .int (nI 0), .ref (b + 5), .ref (b + 6), .int (nI 0), .int (nI 0), .int (nI 0), .int (nI (I 13)), .ref (b + 7), .ref (b + 8), .int (nI (I 16)), .int (nI (I 17)), .int (nI (I 18)), .int (nI (I 19))])) := by rw [e207]; exact fw_us _ _ _
  have b0 := b0_
  refine lv_aload_n (pc := 40) hx hb dMo_compile_40 rfl (lv_at hl 1 rfl) ?_
  have hS : moS cI cL w207 b (fun i => if 16 ≤ i then I i else if i = 13 then I 13 else 0) K S C := moS.int hS b0 (fun q h9 => by rw [e207, fw_un h9, e206, fw_un h9, e205, fw_un h9, e204, fw_un h9, e203, fw_un h9, e202, fw_un h9, e201, fw_un h9])
  refine fw_cV (pc := 41) (As := []) (rest := []) ⟨hx, hb, hml, hown, hW⟩ (c_Mo_begin hS) (cwV 0 hW (kw_V lm_Mo_114 im_Mo_begin se_Mo_begin ini_Mo cd_Mo_begin) rfl rfl rfl (by decide +kernel) ⟨Nat.le_of_ble_eq_true rfl, Nat.le_of_ble_eq_true rfl⟩) hK hw b0 rfl rfl hl.1 rfl (Nat.le_of_ble_eq_true rfl) dMo_compile_41 ⟨Nat.le_of_ble_eq_true rfl, Nat.le_of_ble_eq_true rfl⟩ (fun v w208 H locs hq hw => ?_)
  obtain ⟨rfl, hS, hn9⟩ := hq
  refine W.eq (g2 := F0 m 44 ls []) rfl ?_
  have hT : moT cI cL w208 b (fun _ => 0) K S C (K 2, K 3, 0, K 4, K 5, 0, 0, I 13, 0) := moT.of hS hS.1
  refine lv_iconst (pc := 44) (v := (nI 0)) hx hb dMo_compile_44 (by decide) ?_
  refine lv_istore_n (pc := 45) (lv' := [(2, .int (nI 0)), (1, .int (nI (I 3))), (0, .ref b)]) hx hb dMo_compile_45 rfl hl (by decide) rfl (fun ls hl => ?_)
  exact loop (I 3) 0 _ _ _ _ _ _ _ _ _ (o0, v0, 0, t0, c0, 0, 0) (Nat.zero_add _) ⟨rfl, rfl, fun j hj => absurd hj (Nat.not_lt_zero j), fun j hj => absurd hj (Nat.not_lt_zero j), ⟨Nat.le_refl 0, fun j hj => absurd hj (Nat.not_lt_zero j), by decide, fun h9 => absurd h9 (by decide), rfl⟩, fun h9 => absurd h9 (by decide), fun _ => rfl⟩ hTr _ _ _ ls hw (lv_sub hl [0, 2, 1] rfl) hT (fun q h9 => by rw [hn9 q (by omega), e207, fw_un (by omega), e206, fw_un (by omega), e205, fw_un (by omega), e204, fw_un (by omega), e203, fw_un (by omega), e202, fw_un (by omega), e201, fw_un (by omega)])
end MO17
