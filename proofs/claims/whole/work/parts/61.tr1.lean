/-- how many registers are in use behind i instructions, and at the most -/
def hg (o : Nat → Nat) : Nat → Nat
  | 0 => 0
  | i + 1 => hg o i - kOp (o i) + 1
def mx (o : Nat → Nat) : Nat → Nat
  | 0 => 0
  | i + 1 => max (mx o i) (hg o (i + 1))
theorem hg_le (o : Nat → Nat) (i : Nat) : hg o i ≤ i := by
  induction i with
  | zero => exact Nat.le_refl 0
  | succ i ih => show hg o i - kOp (o i) + 1 ≤ i + 1; omega
theorem mx_le (o : Nat → Nat) (i : Nat) : mx o i ≤ i := by
  induction i with
  | zero => exact Nat.le_refl 0
  | succ i ih =>
    have := hg_le o (i + 1)
    show max (mx o i) (hg o (i + 1)) ≤ i + 1
    omega
/-- the signs on top that bind at least so tightly become instructions: operations, operands, how many, how many wait -/
def rl (bd : Nat) (t : Nat → Nat) : Nat → (Nat → Nat) → (Nat → Nat) → Nat → (Nat → Nat) × (Nat → Nat) × Nat × Nat
  | 0, o, v, n => (o, v, n, 0)
  | d + 1, o, v, n => if bd ≤ kBi (t d) then rl bd t d (va_up o n (t d)) (va_up v n 0) (n + 1) else (o, v, n, d + 1)
theorem rl_no {bd d n : Nat} {t o v : Nat → Nat} (h : ¬ bd ≤ kBi (t d)) : rl bd t (d + 1) o v n = (o, v, n, d + 1) := if_neg h
theorem rl_yes {bd d n : Nat} {t o v : Nat → Nat} (h : bd ≤ kBi (t d)) : rl bd t (d + 1) o v n = rl bd t d (va_up o n (t d)) (va_up v n 0) (n + 1) := if_pos h
theorem kBi_lt (k : Nat) : kBi k < 2 ^ 31 := by
  by_cases h : k < 15
  · exact Nat.lt_of_lt_of_le ((show ∀ k, k < 15 → kBi k < 5 by decide) k h) (by decide)
  · unfold kBi; rw [List.getD_eq_getElem?_getD, List.getElem?_eq_none (by show 15 ≤ k; omega)]; decide
/-! BigCalculator.Code and BigCalculator.Translator. Written by wip/gen/trans1.py. -/
section TR1
variable {l : Launch} {D : va_G} {cI cL cQ : ClassId} {sz tO tB tC : Nat} {sa : Nat → Nat} {w : fw_W}
set_option maxHeartbeats 4000000 in
set_option maxRecDepth 100000 in
theorem c_Co_append {co n op x : Nat} {oo vv : Nat → Nat} (hn : n < 120) (h : w co = some (.inr (1, [.ref (co + 1), .ref (co + 2), .int (nI (n))]))) (h1 : w (co + 1) = some (.inl (cI, 120, .inl (fun i => nI (oo i))))) (h2 : w (co + 2) = some (.inl (cI, 120, .inl (fun i => nI (vv i))))) : fw_C l yCo_append (Cond.code yCo_append cCo_append 3 none :: kWs) ({ frames := 0, cells := 0, slots := 0, locals := 0 } : Room) D kCl (kty cI cL cQ) (kz tO tB tC sa) [.ref co, .int (nI op), .int (nI x)] (sz) w 0 0 (fun v w' => v = none ∧ w' co = some (.inr (1, [.ref (co + 1), .ref (co + 2), .int (nI (n + 1))])) ∧ w' (co + 1) = some (.inl (cI, 120, .inl (fun i => nI (va_up oo n op i)))) ∧ w' (co + 2) = some (.inl (cI, 120, .inl (fun i => nI (va_up vv n x i)))) ∧ ∀ q, q < co ∨ co + 3 ≤ q → w' q = w q) := by
  refine fw_ofW (cc := cCo_append) (maxL := 3) (ret := none) (by decide) rfl (Nat.le_of_ble_eq_true rfl) ?_
  intro p e s m args below meth c hx hb hr hts hown hlocks hname hml hK H ls hw hl
  have hW : ∀ w ∈ kWs, w.before args s = true := fun w h => hts w (List.mem_cons_of_mem _ h)
  have hown : s.vm.findClass RCo = some m.cls := hown
  have hl : lv_has ls 3 [(0, .ref co), (1, .int (nI op)), (2, .int (nI x))] := hl
  refine lv_aload_n (pc := 0) hx hb dCo_append_0 rfl (lv_at hl 0 rfl) ?_
  refine fw_get (pc := 1) (ci := 1) (v := .int (nI (n))) (C := RCo) (T := TCo) (N := 3) hx hb hW in_Co hown hK.1 hw h rfl 2 (by decide) (hW _ lf_Co_18) (fun _ h => h) rfl dCo_append_1 ?_
  refine lv_bipush (pc := 4) (v := (nI 120)) hx hb dCo_append_4 (by decide) ?_
  refine lv_icmp_ge (pc := 6) (tgt := 39) hx hb dCo_append_6 (by decide) (fun hc => absurd hc (nI_ge (b := 120) hn (by decide))) (fun _ => ?_)
  refine lv_aload_n (pc := 9) hx hb dCo_append_9 rfl (lv_at hl 0 rfl) ?_
  refine fw_get (pc := 10) (ci := 1) (v := .ref (co + 1)) (C := RCo) (T := TCo) (N := 3) hx hb hW in_Co hown hK.1 hw h rfl 0 (by decide) (hW _ lf_Co_9) (fun _ h => h) rfl dCo_append_10 ?_
  refine lv_aload_n (pc := 13) hx hb dCo_append_13 rfl (lv_at hl 0 rfl) ?_
  refine fw_get (pc := 14) (ci := 1) (v := .int (nI (n))) (C := RCo) (T := TCo) (N := 3) hx hb hW in_Co hown hK.1 hw h rfl 2 (by decide) (hW _ lf_Co_18) (fun _ h => h) rfl dCo_append_14 ?_
  refine lv_iload_n (pc := 17) hx hb dCo_append_17 rfl (lv_at hl 1 rfl) ?_
  refine fw_iastN (pc := 18) (f2 := fun i => nI (va_up oo n op i)) hx hb hK.1 hw 0 h1 rfl (n) hn (by decide) (nI_up _ _ _) dCo_append_18 (fun H locs hw => ?_)
  obtain ⟨w1, e1⟩ : ∃ w_, w_ = fw_up w (co + 1) (.inl (cI, 120, .inl (fun i => nI (va_up oo n op i)))) := ⟨_, rfl⟩
  have hw : fw_H D kCl (fw_A w (sz)) s.heap w1 (sz) H locs := by rw [e1]; exact hw
  have h_ : w1 (co) = some (.inr (1, [.ref (co + 1), .ref (co + 2), .int (nI (n))])) := by rw [e1, fw_un (by omega)]; exact h
  have h2_ : w1 (co + 2) = some (.inl (cI, 120, .inl (fun i => nI (vv i)))) := by rw [e1, fw_un (by omega)]; exact h2
  have h1_ : w1 (co + 1) = some (.inl (cI, 120, .inl (fun i => nI (va_up oo n op i)))) := by rw [e1]; exact fw_us _ _ _
  have h := h_
  have h1 := h1_
  have h2 := h2_
  refine lv_aload_n (pc := 19) hx hb dCo_append_19 rfl (lv_at hl 0 rfl) ?_
  refine fw_get (pc := 20) (ci := 1) (v := .ref (co + 2)) (C := RCo) (T := TCo) (N := 3) hx hb hW in_Co hown hK.1 hw h rfl 1 (by decide) (hW _ lf_Co_15) (fun _ h => h) rfl dCo_append_20 ?_
  refine lv_aload_n (pc := 23) hx hb dCo_append_23 rfl (lv_at hl 0 rfl) ?_
  refine fw_get (pc := 24) (ci := 1) (v := .int (nI (n))) (C := RCo) (T := TCo) (N := 3) hx hb hW in_Co hown hK.1 hw h rfl 2 (by decide) (hW _ lf_Co_18) (fun _ h => h) rfl dCo_append_24 ?_
  refine lv_iload_n (pc := 27) hx hb dCo_append_27 rfl (lv_at hl 2 rfl) ?_
  refine fw_iastN (pc := 28) (f2 := fun i => nI (va_up vv n x i)) hx hb hK.1 hw 0 h2 rfl (n) hn (by decide) (nI_up _ _ _) dCo_append_28 (fun H locs hw => ?_)
  obtain ⟨w2, e2⟩ : ∃ w_, w_ = fw_up w1 (co + 2) (.inl (cI, 120, .inl (fun i => nI (va_up vv n x i)))) := ⟨_, rfl⟩
  have hw : fw_H D kCl (fw_A w (sz)) s.heap w2 (sz) H locs := by rw [e2]; exact hw
  have h_ : w2 (co) = some (.inr (1, [.ref (co + 1), .ref (co + 2), .int (nI (n))])) := by rw [e2, fw_un (by omega)]; exact h
  have h1_ : w2 (co + 1) = some (.inl (cI, 120, .inl (fun i => nI (va_up oo n op i)))) := by rw [e2, fw_un (by omega)]; exact h1
  have h2_ : w2 (co + 2) = some (.inl (cI, 120, .inl (fun i => nI (va_up vv n x i)))) := by rw [e2]; exact fw_us _ _ _
  have h := h_
  have h1 := h1_
  have h2 := h2_
  refine lv_aload_n (pc := 29) hx hb dCo_append_29 rfl (lv_at hl 0 rfl) ?_
  refine lv_dup (pc := 30) hx hb dCo_append_30 rfl ?_
  refine fw_get (pc := 31) (ci := 1) (v := .int (nI (n))) (C := RCo) (T := TCo) (N := 3) hx hb hW in_Co hown hK.1 hw h rfl 2 (by decide) (hW _ lf_Co_18) (fun _ h => h) rfl dCo_append_31 ?_
  refine lv_iconst (pc := 34) (v := (nI 1)) hx hb dCo_append_34 (by decide) ?_
  refine lv_iadd (pc := 35) hx hb dCo_append_35 ?_
  rw [show ((nI (n) + (nI 1)) : Int32) = nI (n + 1) from (nI_add n 1)]
  refine fw_put (pc := 36) (ci := 1) (v := .int (nI (n + 1))) (ty := .int) (C := RCo) (T := TCo) (N := 3) hx hb hW in_Co tyCo tyCo_ok nmCo hown hK.1 hw h rfl 2 (by decide) (hW _ lf_Co_18) (fun _ h => h) rfl (by decide +kernel) rfl rfl (Nat.le_of_ble_eq_true rfl) dCo_append_36 (fun H locs hw => ?_)
  obtain ⟨w3, e3⟩ : ∃ w_, w_ = fw_up w2 (co) (.inr (1, [.ref (co + 1), .ref (co + 2), .int (nI (n + 1))])) := ⟨_, rfl⟩
  have hw : fw_H D kCl (fw_A w (sz)) s.heap w3 (sz) H locs := by rw [e3]; exact hw
  have h1_ : w3 (co + 1) = some (.inl (cI, 120, .inl (fun i => nI (va_up oo n op i)))) := by rw [e3, fw_un (by omega)]; exact h1
  have h2_ : w3 (co + 2) = some (.inl (cI, 120, .inl (fun i => nI (va_up vv n x i)))) := by rw [e3, fw_un (by omega)]; exact h2
  have h_ : w3 (co) = some (.inr (1, [.ref (co + 1), .ref (co + 2), .int (nI (n + 1))])) := by rw [e3]; exact fw_us _ _ _
  have h := h_
  have h1 := h1_
  have h2 := h2_
  exact fw_vret (pc := 39) hx hb hr hlocks hw dCo_append_39 ⟨rfl, h, h1, h2, fun q hq => by rw [e3, fw_un (by omega), e2, fw_un (by omega), e1, fw_un (by omega)]⟩

set_option maxHeartbeats 4000000 in
set_option maxRecDepth 100000 in
theorem c_Co_registersWanted {co n : Nat} {oo : Nat → Nat} (hn : n ≤ 120) (hok : ∀ i, i < n → oo i < 15 ∧ kOp (oo i) ≤ hg oo i) (h : w co = some (.inr (1, [.ref (co + 1), .ref (co + 2), .int (nI (n))]))) (h1 : w (co + 1) = some (.inl (cI, 120, .inl (fun i => nI (oo i))))) : fw_R l yCo_registersWanted (Cond.code yCo_registersWanted cCo_registersWanted 4 (some FieldType.int) :: kWs) ({ frames := 1, cells := 0, slots := 0, locals := 13 } : Room) D kCl (kty cI cL cQ) (kz tO tB tC sa) [.ref co] (sz) w (fun v => v = some (.int (nI (mx oo n)))) := by
  refine fw_ofR (cc := cCo_registersWanted) (maxL := 4) (ret := (some FieldType.int)) (by decide) rfl (Nat.le_of_ble_eq_true rfl) ?_
  intro p e s m args below meth c hx hb hr hts hown hlocks hml hK H ls hH hw hl
  have hW : ∀ w ∈ kWs, w.before args s = true := fun w h => hts w (List.mem_cons_of_mem _ h)
  have hown : s.vm.findClass RCo = some m.cls := hown
  have hl : lv_has ls 4 [(0, .ref co)] := hl
  have loop : ∀ (d i : Nat), i + d = n → ∀ (ls : Array Slot), lv_has ls 4 [(3, .int (nI i)), (2, .int (nI (mx oo i))), (1, .int (nI (hg oo i))), (0, .ref co)] → W p l e ({ frames := 1, cells := 0, slots := 0, locals := 13 } : Room) s m args below meth c H [] 0 0 (MQ below (fw_RQ (fun v => v = some (.int (nI (mx oo n))))) args s 0 0 (fun _ => False)) (F0 m 6 ls []) := by
    intro d
    induction d with
    | zero =>
      intro i hid ls hl
      have hgl := hg_le oo i
      have hml2 := mx_le oo i
      refine lv_iload_n (pc := 6) hx hb dCo_registersWanted_6 rfl (lv_at hl 0 rfl) ?_
      refine lv_aload_n (pc := 7) hx hb dCo_registersWanted_7 rfl (lv_at hl 3 rfl) ?_
      refine fw_get (pc := 8) (ci := 1) (v := .int (nI (n))) (C := RCo) (T := TCo) (N := 3) hx hb hW in_Co hown hK.1 hw h rfl 2 (by decide) (hW _ lf_Co_18) (fun _ h => h) rfl dCo_registersWanted_8 ?_
      refine lv_icmp_ge (pc := 11) (tgt := 41) hx hb dCo_registersWanted_11 (by decide) (fun _ => ?_) (fun hc => absurd (nI_le (show n ≤ i by omega) (by omega)) hc)
      refine lv_iload_n (pc := 41) hx hb dCo_registersWanted_41 rfl (lv_at hl 1 rfl) ?_
      exact fw_iretR (pc := 42) hx hb hr hlocks hH dCo_registersWanted_42 (by rw [show i = n by omega])
    | succ d ih =>
      intro i hid ls hl
      have hgl := hg_le oo i
      have hml2 := mx_le oo i
      obtain ⟨hk1, hk2⟩ := hok i (by omega)
      refine lv_iload_n (pc := 6) hx hb dCo_registersWanted_6 rfl (lv_at hl 0 rfl) ?_
      refine lv_aload_n (pc := 7) hx hb dCo_registersWanted_7 rfl (lv_at hl 3 rfl) ?_
      refine fw_get (pc := 8) (ci := 1) (v := .int (nI (n))) (C := RCo) (T := TCo) (N := 3) hx hb hW in_Co hown hK.1 hw h rfl 2 (by decide) (hW _ lf_Co_18) (fun _ h => h) rfl dCo_registersWanted_8 ?_
      refine lv_icmp_ge (pc := 11) (tgt := 41) hx hb dCo_registersWanted_11 (by decide) (fun hc => absurd hc (nI_ge (show i < n by omega) (by omega))) (fun _ => ?_)
      refine lv_iload_n (pc := 14) hx hb dCo_registersWanted_14 rfl (lv_at hl 2 rfl) ?_
      refine va_getsN (pc := 15) (C := "BigCalculator") hx hb hK.2.1.1.1 hw.2.2.2.2 hown (va_Nw.use rfl hK.2.1.2.2.2.1.2.2.1) (fun _ h => h) dCo_registersWanted_15 ?_
      refine lv_aload_n (pc := 18) hx hb dCo_registersWanted_18 rfl (lv_at hl 3 rfl) ?_
      refine fw_get (pc := 19) (ci := 1) (v := .ref (co + 1)) (C := RCo) (T := TCo) (N := 3) hx hb hW in_Co hown hK.1 hw h rfl 0 (by decide) (hW _ lf_Co_9) (fun _ h => h) rfl dCo_registersWanted_19 ?_
      refine lv_iload_n (pc := 22) hx hb dCo_registersWanted_22 rfl (lv_at hl 0 rfl) ?_
      refine fw_ialdN (pc := 23) (x := nI (oo (i))) hx hb hK.1 hw 0 h1 rfl (i) (show i < 120 by omega) (by decide) rfl dCo_registersWanted_23 ?_
      refine va_ti (pc := 24) (v := .int (nI (kOp (oo i)))) hx hb hK.2.1.1.2 hw.2.2.2.2 (nI_in (show oo i < 15 from hk1) (by decide)) (by rw [nI_clamp (show oo i < 2 ^ 31 from Nat.lt_trans hk1 (by decide))]) dCo_registersWanted_24 ?_
      refine lv_isub (pc := 25) hx hb dCo_registersWanted_25 ?_
      rw [show ((nI (hg oo i) - nI (kOp (oo i))) : Int32) = nI (hg oo i - kOp (oo i)) from (nI_subL hk2)]
      refine lv_iconst (pc := 26) (v := (nI 1)) hx hb dCo_registersWanted_26 (by decide) ?_
      refine lv_iadd (pc := 27) hx hb dCo_registersWanted_27 ?_
      rw [show ((nI (hg oo i - kOp (oo i)) + (nI 1)) : Int32) = nI (hg oo (i + 1)) from (nI_add _ 1)]
      refine lv_istore_n (pc := 28) (lv' := [(1, .int (nI (hg oo (i + 1)))), (3, .int (nI i)), (2, .int (nI (mx oo i))), (0, .ref co)]) hx hb dCo_registersWanted_28 rfl hl (by decide) rfl (fun ls hl => ?_)
      refine lv_iload_n (pc := 29) hx hb dCo_registersWanted_29 rfl (lv_at hl 2 rfl) ?_
      refine lv_iload_n (pc := 30) hx hb dCo_registersWanted_30 rfl (lv_at hl 0 rfl) ?_
      refine fw_max (pc := 31) hx hb hown (hW _ lm_Co_25) (hW _ sta_Jm_max) (hW _ ini_Jm) (hW _ cd_Jm_max) (by rw [hml]; exact hl.1) dCo_registersWanted_31 (Nat.le_of_ble_eq_true rfl) (Nat.le_of_ble_eq_true rfl) (Nat.zero_le _) (Nat.zero_le _) ?_
      have hgl2 := hg_le oo (i + 1)
      rw [nI_max (show mx oo i < 2 ^ 31 by omega) (show hg oo (i + 1) < 2 ^ 31 by omega)]
      rw [show max (mx oo i) (hg oo (i + 1)) = mx oo (i + 1) from rfl]
      refine lv_istore_n (pc := 34) (lv' := [(2, .int (nI (mx oo (i + 1)))), (1, .int (nI (hg oo (i + 1)))), (3, .int (nI i)), (0, .ref co)]) hx hb dCo_registersWanted_34 rfl hl (by decide) rfl (fun ls hl => ?_)
      refine lv_iinc (pc := 35) (lv' := [(3, .int (nI (i + 1))), (2, .int (nI (mx oo (i + 1)))), (1, .int (nI (hg oo (i + 1)))), (0, .ref co)]) hx hb dCo_registersWanted_35 hl (k := 2) rfl ((nI_add i 1)) (by decide) rfl (fun ls hl => ?_)
      refine lv_goto (pc := 38) (tgt := 6) hx hb dCo_registersWanted_38 (by decide) ?_
      exact ih (i + 1) (by omega) ls (lv_sub hl [0, 1, 2, 3] rfl)
  refine lv_iconst (pc := 0) (v := (nI 0)) hx hb dCo_registersWanted_0 (by decide) ?_
  refine lv_istore_n (pc := 1) (lv' := [(1, .int (nI 0)), (0, .ref co)]) hx hb dCo_registersWanted_1 rfl hl (by decide) rfl (fun ls hl => ?_)
  refine lv_iconst (pc := 2) (v := (nI 0)) hx hb dCo_registersWanted_2 (by decide) ?_
  refine lv_istore_n (pc := 3) (lv' := [(2, .int (nI 0)), (1, .int (nI 0)), (0, .ref co)]) hx hb dCo_registersWanted_3 rfl hl (by decide) rfl (fun ls hl => ?_)
  refine lv_iconst (pc := 4) (v := (nI 0)) hx hb dCo_registersWanted_4 (by decide) ?_
  refine lv_istore_n (pc := 5) (lv' := [(3, .int (nI 0)), (2, .int (nI 0)), (1, .int (nI 0)), (0, .ref co)]) hx hb dCo_registersWanted_5 rfl hl (by decide) rfl (fun ls hl => ?_)
  exact loop n 0 (by omega) ls (lv_sub hl [0, 1, 2, 3] rfl)

set_option maxHeartbeats 4000000 in
set_option maxRecDepth 100000 in
theorem c_Tr_push {tr d x k : Nat} {tt cc9 : Nat → Nat} (hd : d < 120) (hk : k < 15) (h : w tr = some (.inr (7, [.ref (tr + 1), .ref (tr + 4), .ref (tr + 5), .int (nI (d)), .int (nI (x))]))) (h1 : w (tr + 4) = some (.inl (cI, 120, .inl (fun i => nI (tt i))))) (h2 : w (tr + 5) = some (.inl (cI, 120, .inl (fun i => nI (cc9 i))))) : fw_C l yTr_push (Cond.code yTr_push cTr_push 2 none :: kWs) ({ frames := 0, cells := 0, slots := 0, locals := 0 } : Room) D kCl (kty cI cL cQ) (kz tO tB tC sa) [.ref tr, .int (nI k)] (sz) w 0 0 (fun v w' => v = none ∧ w' tr = some (.inr (7, [.ref (tr + 1), .ref (tr + 4), .ref (tr + 5), .int (nI (d + 1)), .int (nI (x))])) ∧ w' (tr + 4) = some (.inl (cI, 120, .inl (fun i => nI (va_up tt d k i)))) ∧ w' (tr + 5) = some (.inl (cI, 120, .inl (fun i => nI (va_up cc9 d (kCm k) i)))) ∧ ∀ q, q ≠ tr → q ≠ tr + 4 → q ≠ tr + 5 → w' q = w q) := by
  refine fw_ofW (cc := cTr_push) (maxL := 2) (ret := none) (by decide) rfl (Nat.le_of_ble_eq_true rfl) ?_
  intro p e s m args below meth c hx hb hr hts hown hlocks hname hml hK H ls hw hl
  have hW : ∀ w ∈ kWs, w.before args s = true := fun w h => hts w (List.mem_cons_of_mem _ h)
  have hown : s.vm.findClass RTr = some m.cls := hown
  have hl : lv_has ls 2 [(0, .ref tr), (1, .int (nI k))] := hl
  refine lv_aload_n (pc := 0) hx hb dTr_push_0 rfl (lv_at hl 0 rfl) ?_
  refine fw_get (pc := 1) (ci := 7) (v := .int (nI (d))) (C := RTr) (T := TTr) (N := 5) hx hb hW in_Tr hown hK.1 hw h rfl 3 (by decide) (hW _ lf_Tr_25) (fun _ h => h) rfl dTr_push_1 ?_
  refine lv_bipush (pc := 4) (v := (nI 120)) hx hb dTr_push_4 (by decide) ?_
  refine lv_icmp_ge (pc := 6) (tgt := 43) hx hb dTr_push_6 (by decide) (fun hc => absurd hc (nI_ge (b := 120) hd (by decide))) (fun _ => ?_)
  refine lv_aload_n (pc := 9) hx hb dTr_push_9 rfl (lv_at hl 0 rfl) ?_
  refine fw_get (pc := 10) (ci := 7) (v := .ref (tr + 4)) (C := RTr) (T := TTr) (N := 5) hx hb hW in_Tr hown hK.1 hw h rfl 1 (by decide) (hW _ lf_Tr_18) (fun _ h => h) rfl dTr_push_10 ?_
  refine lv_aload_n (pc := 13) hx hb dTr_push_13 rfl (lv_at hl 0 rfl) ?_
  refine fw_get (pc := 14) (ci := 7) (v := .int (nI (d))) (C := RTr) (T := TTr) (N := 5) hx hb hW in_Tr hown hK.1 hw h rfl 3 (by decide) (hW _ lf_Tr_25) (fun _ h => h) rfl dTr_push_14 ?_
  refine lv_iload_n (pc := 17) hx hb dTr_push_17 rfl (lv_at hl 1 rfl) ?_
  refine fw_iastN (pc := 18) (f2 := fun i => nI (va_up tt d k i)) hx hb hK.1 hw 0 h1 rfl (d) hd (by decide) (nI_up _ _ _) dTr_push_18 (fun H locs hw => ?_)
  obtain ⟨w1, e1⟩ : ∃ w_, w_ = fw_up w (tr + 4) (.inl (cI, 120, .inl (fun i => nI (va_up tt d k i)))) := ⟨_, rfl⟩
  have hw : fw_H D kCl (fw_A w (sz)) s.heap w1 (sz) H locs := by rw [e1]; exact hw
  have h_ : w1 (tr) = some (.inr (7, [.ref (tr + 1), .ref (tr + 4), .ref (tr + 5), .int (nI (d)), .int (nI (x))])) := by rw [e1, fw_un (by omega)]; exact h
  have h2_ : w1 (tr + 5) = some (.inl (cI, 120, .inl (fun i => nI (cc9 i)))) := by rw [e1, fw_un (by omega)]; exact h2
  have h1_ : w1 (tr + 4) = some (.inl (cI, 120, .inl (fun i => nI (va_up tt d k i)))) := by rw [e1]; exact fw_us _ _ _
  have h := h_
  have h1 := h1_
  have h2 := h2_
  refine lv_aload_n (pc := 19) hx hb dTr_push_19 rfl (lv_at hl 0 rfl) ?_
  refine fw_get (pc := 20) (ci := 7) (v := .ref (tr + 5)) (C := RTr) (T := TTr) (N := 5) hx hb hW in_Tr hown hK.1 hw h rfl 2 (by decide) (hW _ lf_Tr_22) (fun _ h => h) rfl dTr_push_20 ?_
  refine lv_aload_n (pc := 23) hx hb dTr_push_23 rfl (lv_at hl 0 rfl) ?_
  refine fw_get (pc := 24) (ci := 7) (v := .int (nI (d))) (C := RTr) (T := TTr) (N := 5) hx hb hW in_Tr hown hK.1 hw h rfl 3 (by decide) (hW _ lf_Tr_25) (fun _ h => h) rfl dTr_push_24 ?_
  refine va_getsN (pc := 27) (C := "BigCalculator") hx hb hK.2.1.2.2.1.1 hw.2.2.2.2 hown (va_Nw.use rfl hK.2.1.2.2.2.1.1) (fun _ h => h) dTr_push_27 ?_
  refine lv_iload_n (pc := 30) hx hb dTr_push_30 rfl (lv_at hl 1 rfl) ?_
  refine va_ti (pc := 31) (v := .int (nI (kCm (k)))) hx hb hK.2.1.2.2.1.2 hw.2.2.2.2 (nI_in (show k < 15 from hk) (by decide)) (by rw [nI_clamp (show k < 2 ^ 31 from Nat.lt_trans hk (by decide))]) dTr_push_31 ?_
  refine fw_iastN (pc := 32) (f2 := fun i => nI (va_up cc9 d (kCm k) i)) hx hb hK.1 hw 0 h2 rfl (d) hd (by decide) (nI_up _ _ _) dTr_push_32 (fun H locs hw => ?_)
  obtain ⟨w2, e2⟩ : ∃ w_, w_ = fw_up w1 (tr + 5) (.inl (cI, 120, .inl (fun i => nI (va_up cc9 d (kCm k) i)))) := ⟨_, rfl⟩
  have hw : fw_H D kCl (fw_A w (sz)) s.heap w2 (sz) H locs := by rw [e2]; exact hw
  have h_ : w2 (tr) = some (.inr (7, [.ref (tr + 1), .ref (tr + 4), .ref (tr + 5), .int (nI (d)), .int (nI (x))])) := by rw [e2, fw_un (by omega)]; exact h
  have h1_ : w2 (tr + 4) = some (.inl (cI, 120, .inl (fun i => nI (va_up tt d k i)))) := by rw [e2, fw_un (by omega)]; exact h1
  have h2_ : w2 (tr + 5) = some (.inl (cI, 120, .inl (fun i => nI (va_up cc9 d (kCm k) i)))) := by rw [e2]; exact fw_us _ _ _
  have h := h_
  have h1 := h1_
  have h2 := h2_
  refine lv_aload_n (pc := 33) hx hb dTr_push_33 rfl (lv_at hl 0 rfl) ?_
  refine lv_dup (pc := 34) hx hb dTr_push_34 rfl ?_
  refine fw_get (pc := 35) (ci := 7) (v := .int (nI (d))) (C := RTr) (T := TTr) (N := 5) hx hb hW in_Tr hown hK.1 hw h rfl 3 (by decide) (hW _ lf_Tr_25) (fun _ h => h) rfl dTr_push_35 ?_
  refine lv_iconst (pc := 38) (v := (nI 1)) hx hb dTr_push_38 (by decide) ?_
  refine lv_iadd (pc := 39) hx hb dTr_push_39 ?_
  rw [show ((nI (d) + (nI 1)) : Int32) = nI (d + 1) from (nI_add d 1)]
  refine fw_put (pc := 40) (ci := 7) (v := .int (nI (d + 1))) (ty := .int) (C := RTr) (T := TTr) (N := 5) hx hb hW in_Tr tyTr tyTr_ok nmTr hown hK.1 hw h rfl 3 (by decide) (hW _ lf_Tr_25) (fun _ h => h) rfl (by decide +kernel) rfl rfl (Nat.le_of_ble_eq_true rfl) dTr_push_40 (fun H locs hw => ?_)
  obtain ⟨w3, e3⟩ : ∃ w_, w_ = fw_up w2 (tr) (.inr (7, [.ref (tr + 1), .ref (tr + 4), .ref (tr + 5), .int (nI (d + 1)), .int (nI (x))])) := ⟨_, rfl⟩
  have hw : fw_H D kCl (fw_A w (sz)) s.heap w3 (sz) H locs := by rw [e3]; exact hw
  have h1_ : w3 (tr + 4) = some (.inl (cI, 120, .inl (fun i => nI (va_up tt d k i)))) := by rw [e3, fw_un (by omega)]; exact h1
  have h2_ : w3 (tr + 5) = some (.inl (cI, 120, .inl (fun i => nI (va_up cc9 d (kCm k) i)))) := by rw [e3, fw_un (by omega)]; exact h2
  have h_ : w3 (tr) = some (.inr (7, [.ref (tr + 1), .ref (tr + 4), .ref (tr + 5), .int (nI (d + 1)), .int (nI (x))])) := by rw [e3]; exact fw_us _ _ _
  have h := h_
  have h1 := h1_
  have h2 := h2_
  exact fw_vret (pc := 43) hx hb hr hlocks hw dTr_push_43 ⟨rfl, h, h1, h2, fun q q1 q2 q3 => by rw [e3, fw_un q1, e2, fw_un q3, e1, fw_un q2]⟩

set_option maxHeartbeats 4000000 in
set_option maxRecDepth 100000 in
theorem c_Tr_release {tr d x n bd : Nat} {oo vv tt : Nat → Nat} (hb5 : bd < 2 ^ 31) (hnd : n + d ≤ 120) (ht : ∀ i, i < d → tt i < 15) (h : w tr = some (.inr (7, [.ref (tr + 1), .ref (tr + 4), .ref (tr + 5), .int (nI (d)), .int (nI (x))]))) (hc : w (tr + 1) = some (.inr (1, [.ref (tr + 1 + 1), .ref (tr + 1 + 2), .int (nI (n))]))) (h1 : w (tr + 1 + 1) = some (.inl (cI, 120, .inl (fun i => nI (oo i))))) (h2 : w (tr + 1 + 2) = some (.inl (cI, 120, .inl (fun i => nI (vv i))))) (h4 : w (tr + 4) = some (.inl (cI, 120, .inl (fun i => nI (tt i))))) : fw_C l yTr_release (Cond.code yTr_release cTr_release 2 none :: kWs) ({ frames := 1, cells := 0, slots := 0, locals := 22 } : Room) D kCl (kty cI cL cQ) (kz tO tB tC sa) [.ref tr, .int (nI bd)] (sz) w 0 0 (fun v w' => v = none ∧ w' tr = some (.inr (7, [.ref (tr + 1), .ref (tr + 4), .ref (tr + 5), .int (nI ((rl bd tt d oo vv n).2.2.2)), .int (nI (x))])) ∧ w' (tr + 1) = some (.inr (1, [.ref (tr + 1 + 1), .ref (tr + 1 + 2), .int (nI ((rl bd tt d oo vv n).2.2.1))])) ∧ w' (tr + 1 + 1) = some (.inl (cI, 120, .inl (fun i => nI ((rl bd tt d oo vv n).1 i)))) ∧ w' (tr + 1 + 2) = some (.inl (cI, 120, .inl (fun i => nI ((rl bd tt d oo vv n).2.1 i)))) ∧ ∀ q, q < tr ∨ tr + 4 ≤ q → w' q = w q) := by
  refine fw_ofW (cc := cTr_release) (maxL := 2) (ret := none) (by decide) rfl (Nat.le_of_ble_eq_true rfl) ?_
  intro p e s m args below meth c hx hb hr hts hown hlocks hname hml hK H ls hw hl
  have hW : ∀ w ∈ kWs, w.before args s = true := fun w h => hts w (List.mem_cons_of_mem _ h)
  have hown : s.vm.findClass RTr = some m.cls := hown
  have hl : lv_has ls 2 [(0, .ref tr), (1, .int (nI bd))] := hl
  have h49 := h4
  have loop : ∀ (d : Nat) (n : Nat) (oo vv : Nat → Nat), n + d ≤ 120 → (∀ i, i < d → tt i < 15) → ∀ (w1 : fw_W) (H : Heap) (locs : List Loc) (ls : Array Slot), fw_H D kCl (fw_A w (sz)) s.heap w1 (sz) H locs → lv_has ls 2 [(0, .ref tr), (1, .int (nI bd))] → w1 tr = some (.inr (7, [.ref (tr + 1), .ref (tr + 4), .ref (tr + 5), .int (nI (d)), .int (nI (x))])) → w1 (tr + 1) = some (.inr (1, [.ref (tr + 1 + 1), .ref (tr + 1 + 2), .int (nI (n))])) → w1 (tr + 1 + 1) = some (.inl (cI, 120, .inl (fun i => nI (oo i)))) → w1 (tr + 1 + 2) = some (.inl (cI, 120, .inl (fun i => nI (vv i)))) → (∀ q, q < tr ∨ tr + 4 ≤ q → w1 q = w q) → W p l e ({ frames := 1, cells := 0, slots := 0, locals := 22 } : Room) s m args below meth c H locs 0 0 (MQ below (fw_Q D kCl w (sz) 0 (fun v w' => v = none ∧ w' tr = some (.inr (7, [.ref (tr + 1), .ref (tr + 4), .ref (tr + 5), .int (nI ((rl bd tt d oo vv n).2.2.2)), .int (nI (x))])) ∧ w' (tr + 1) = some (.inr (1, [.ref (tr + 1 + 1), .ref (tr + 1 + 2), .int (nI ((rl bd tt d oo vv n).2.2.1))])) ∧ w' (tr + 1 + 1) = some (.inl (cI, 120, .inl (fun i => nI ((rl bd tt d oo vv n).1 i)))) ∧ w' (tr + 1 + 2) = some (.inl (cI, 120, .inl (fun i => nI ((rl bd tt d oo vv n).2.1 i)))) ∧ ∀ q, q < tr ∨ tr + 4 ≤ q → w' q = w q)) args s 0 0 (fw_A w (sz))) (F0 m 0 ls []) := by
    intro d
    induction d with
    | zero =>
      intro n oo vv hnd ht w1 H locs ls hw hl h hc h1 h2 ho
      have h4 : w1 (tr + 4) = some (.inl (cI, 120, .inl (fun i => nI (tt i)))) := (ho _ (by omega)).trans h49
      refine lv_aload_n (pc := 0) hx hb dTr_release_0 rfl (lv_at hl 0 rfl) ?_
      refine fw_get (pc := 1) (ci := 7) (v := .int (nI (0))) (C := RTr) (T := TTr) (N := 5) hx hb hW in_Tr hown hK.1 hw h rfl 3 (by decide) (hW _ lf_Tr_25) (fun _ h => h) rfl dTr_release_1 ?_
      refine lv_if_le (pc := 4) (tgt := 56) hx hb dTr_release_4 (by decide) (fun _ => ?_) (fun hc => absurd (show nI 0 ≤ 0 by decide) hc)
      exact fw_vret (pc := 56) hx hb hr hlocks hw dTr_release_56 ⟨rfl, h, hc, h1, h2, ho⟩
    | succ d ih =>
      intro n oo vv hnd ht w1 H locs ls hw hl h hc h1 h2 ho
      have h4 : w1 (tr + 4) = some (.inl (cI, 120, .inl (fun i => nI (tt i)))) := (ho _ (by omega)).trans h49
      have ht9 := ht d (by omega)
      refine lv_aload_n (pc := 0) hx hb dTr_release_0 rfl (lv_at hl 0 rfl) ?_
      refine fw_get (pc := 1) (ci := 7) (v := .int (nI (d + 1))) (C := RTr) (T := TTr) (N := 5) hx hb hW in_Tr hown hK.1 hw h rfl 3 (by decide) (hW _ lf_Tr_25) (fun _ h => h) rfl dTr_release_1 ?_
      refine lv_if_le (pc := 4) (tgt := 56) hx hb dTr_release_4 (by decide) (fun hc => absurd hc (nI_nle (by omega) (by omega))) (fun _ => ?_)
      refine va_getsN (pc := 7) (C := "BigCalculator") hx hb hK.2.1.2.1.1 hw.2.2.2.2 hown (va_Nw.use rfl hK.2.1.2.2.2.1.2.1) (fun _ h => h) dTr_release_7 ?_
      refine lv_aload_n (pc := 10) hx hb dTr_release_10 rfl (lv_at hl 0 rfl) ?_
      refine fw_get (pc := 11) (ci := 7) (v := .ref (tr + 4)) (C := RTr) (T := TTr) (N := 5) hx hb hW in_Tr hown hK.1 hw h rfl 1 (by decide) (hW _ lf_Tr_18) (fun _ h => h) rfl dTr_release_11 ?_
      refine lv_aload_n (pc := 14) hx hb dTr_release_14 rfl (lv_at hl 0 rfl) ?_
      refine fw_get (pc := 15) (ci := 7) (v := .int (nI (d + 1))) (C := RTr) (T := TTr) (N := 5) hx hb hW in_Tr hown hK.1 hw h rfl 3 (by decide) (hW _ lf_Tr_25) (fun _ h => h) rfl dTr_release_15 ?_
      refine lv_iconst (pc := 18) (v := (nI 1)) hx hb dTr_release_18 (by decide) ?_
      refine lv_isub (pc := 19) hx hb dTr_release_19 ?_
      rw [show ((nI (d + 1) - (nI 1)) : Int32) = nI d from (nI_pred d)]
      refine fw_ialdN (pc := 20) (x := nI (tt (d))) hx hb hK.1 hw 0 h4 rfl (d) (show d < 120 by omega) (by decide) rfl dTr_release_20 ?_
      refine va_ti (pc := 21) (v := .int (nI (kBi (tt d)))) hx hb hK.2.1.2.1.2 hw.2.2.2.2 (nI_in (show tt d < 15 from ht9) (by decide)) (by rw [nI_clamp (show tt d < 2 ^ 31 from Nat.lt_trans ht9 (by decide))]) dTr_release_21 ?_
      refine lv_iload_n (pc := 22) hx hb dTr_release_22 rfl (lv_at hl 1 rfl) ?_
      refine lv_icmp_lt (pc := 23) (tgt := 56) hx hb dTr_release_23 (by decide) (fun hlt => ?_) (fun hlt => ?_)
      · have hb9 : ¬ bd ≤ kBi (tt d) := fun h9 => absurd ((nI_ltI (kBi_lt _) hb5).mp hlt) (by omega)
        exact fw_vret (pc := 56) hx hb hr hlocks hw dTr_release_56 (by rw [rl_no hb9]; exact ⟨rfl, h, hc, h1, h2, ho⟩)
      · have hb9 : bd ≤ kBi (tt d) := Nat.le_of_not_lt fun h9 => hlt ((nI_ltI (kBi_lt _) hb5).mpr h9)
        refine lv_aload_n (pc := 26) hx hb dTr_release_26 rfl (lv_at hl 0 rfl) ?_
        refine lv_dup (pc := 27) hx hb dTr_release_27 rfl ?_
        refine fw_get (pc := 28) (ci := 7) (v := .int (nI (d + 1))) (C := RTr) (T := TTr) (N := 5) hx hb hW in_Tr hown hK.1 hw h rfl 3 (by decide) (hW _ lf_Tr_25) (fun _ h => h) rfl dTr_release_28 ?_
        refine lv_iconst (pc := 31) (v := (nI 1)) hx hb dTr_release_31 (by decide) ?_
        refine lv_isub (pc := 32) hx hb dTr_release_32 ?_
        rw [show ((nI (d + 1) - (nI 1)) : Int32) = nI d from (nI_pred d)]
        refine fw_put (pc := 33) (ci := 7) (v := .int (nI d)) (ty := .int) (C := RTr) (T := TTr) (N := 5) hx hb hW in_Tr tyTr tyTr_ok nmTr hown hK.1 hw h rfl 3 (by decide) (hW _ lf_Tr_25) (fun _ h => h) rfl (by decide +kernel) rfl rfl (Nat.le_of_ble_eq_true rfl) dTr_release_33 (fun H locs hw => ?_)
        obtain ⟨w2, e2⟩ : ∃ w_, w_ = fw_up w1 (tr) (.inr (7, [.ref (tr + 1), .ref (tr + 4), .ref (tr + 5), .int (nI d), .int (nI (x))])) := ⟨_, rfl⟩
        have hw : fw_H D kCl (fw_A w (sz)) s.heap w2 (sz) H locs := by rw [e2]; exact hw
        have hc_ : w2 (tr + 1) = some (.inr (1, [.ref (tr + 1 + 1), .ref (tr + 1 + 2), .int (nI (n))])) := by rw [e2, fw_un (by omega)]; exact hc
        have h1_ : w2 (tr + 1 + 1) = some (.inl (cI, 120, .inl (fun i => nI (oo i)))) := by rw [e2, fw_un (fw_neK h1 h)]; exact h1
        have h2_ : w2 (tr + 1 + 2) = some (.inl (cI, 120, .inl (fun i => nI (vv i)))) := by rw [e2, fw_un (fw_neK h2 h)]; exact h2
        have h4_ : w2 (tr + 4) = some (.inl (cI, 120, .inl (fun i => nI (tt i)))) := by rw [e2, fw_un (by omega)]; exact h4
        have h_ : w2 (tr) = some (.inr (7, [.ref (tr + 1), .ref (tr + 4), .ref (tr + 5), .int (nI d), .int (nI (x))])) := by rw [e2]; exact fw_us _ _ _
        have h := h_
        have hc := hc_
        have h1 := h1_
        have h2 := h2_
        have h4 := h4_
        refine lv_aload_n (pc := 36) hx hb dTr_release_36 rfl (lv_at hl 0 rfl) ?_
        refine fw_get (pc := 37) (ci := 7) (v := .ref (tr + 1)) (C := RTr) (T := TTr) (N := 5) hx hb hW in_Tr hown hK.1 hw h rfl 0 (by decide) (hW _ lf_Tr_12) (fun _ h => h) rfl dTr_release_37 ?_
        refine lv_aload_n (pc := 40) hx hb dTr_release_40 rfl (lv_at hl 0 rfl) ?_
        refine fw_get (pc := 41) (ci := 7) (v := .ref (tr + 4)) (C := RTr) (T := TTr) (N := 5) hx hb hW in_Tr hown hK.1 hw h rfl 1 (by decide) (hW _ lf_Tr_18) (fun _ h => h) rfl dTr_release_41 ?_
        refine lv_aload_n (pc := 44) hx hb dTr_release_44 rfl (lv_at hl 0 rfl) ?_
        refine fw_get (pc := 45) (ci := 7) (v := .int (nI d)) (C := RTr) (T := TTr) (N := 5) hx hb hW in_Tr hown hK.1 hw h rfl 3 (by decide) (hW _ lf_Tr_25) (fun _ h => h) rfl dTr_release_45 ?_
        refine fw_ialdN (pc := 48) (x := nI (tt (d))) hx hb hK.1 hw 0 h4 rfl (d) (show d < 120 by omega) (by decide) rfl dTr_release_48 ?_
        refine lv_iconst (pc := 49) (v := (nI 0)) hx hb dTr_release_49 (by decide) ?_
        refine fw_cV (pc := 50) (As := [.int (nI (tt (d))), .int (nI 0)]) (rest := []) ⟨hx, hb, hml, hown, hW⟩ (c_Co_append (op := tt d) (x := 0) (by omega) hc h1 h2) (cwV 2 hW (kw_V lm_Tr_59 im_Co_append se_Co_append ini_Co cd_Co_append) rfl rfl rfl (by decide +kernel) ⟨Nat.le_of_ble_eq_true rfl, Nat.le_of_ble_eq_true rfl⟩) hK hw hc rfl rfl hl.1 rfl (Nat.le_of_ble_eq_true rfl) dTr_release_50 ⟨Nat.le_of_ble_eq_true rfl, Nat.le_of_ble_eq_true rfl⟩ (fun v w3 H locs hq hw => ?_)
        obtain ⟨rfl, hc, h1, h2, co9⟩ := hq
        have h_ : w3 (tr) = some (.inr (7, [.ref (tr + 1), .ref (tr + 4), .ref (tr + 5), .int (nI d), .int (nI (x))])) := (co9 _ (by omega)).trans h
        have h4_ : w3 (tr + 4) = some (.inl (cI, 120, .inl (fun i => nI (tt i)))) := (co9 _ (by omega)).trans h4
        have h := h_
        have h4 := h4_
        refine W.eq (g2 := F0 m 53 ls []) rfl ?_
        refine lv_goto (pc := 53) (tgt := 0) hx hb dTr_release_53 (by decide) ?_
        rw [rl_yes hb9]
        exact ih (n + 1) _ _ (by omega) (fun i hi => ht i (by omega)) _ H locs ls hw hl h hc h1 h2 (fun q hq => by rw [co9 q (by omega), e2, fw_un (by omega), ho q hq])
  exact loop d n oo vv hnd ht w H [] ls hw hl h hc h1 h2 (fun q _ => rfl)
end TR1
