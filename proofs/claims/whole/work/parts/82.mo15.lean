/-- the state of the reference's translator: orders, numbers, how many; the pile, its commas, how many; what is expected, the name that waits, how many are open -/
abbrev US : Type := (Nat → Nat) × (Nat → Nat) × Nat × (Nat → Nat) × (Nat → Nat) × Nat × Nat × Nat × Nat
def uI (I : Nat → Nat) (s : US) : Nat → Nat := fun i => if i = 7 then s.2.2.1 else if i = 10 then s.2.2.2.2.2.1 else if i = 11 then s.2.2.2.2.2.2.2.2 else if i = 12 then s.2.2.2.2.2.2.1 else if i = 13 then s.2.2.2.2.2.2.2.1 else I i
def uK (K : Nat → Nat → Nat) (s : US) : Nat → Nat → Nat := fun j => if j = 2 then s.1 else if j = 3 then s.2.1 else if j = 4 then s.2.2.2.1 else if j = 5 then s.2.2.2.2.1 else K j
def moT (cI cL : ClassId) (w : fw_W) (b : Nat) (I : Nat → Nat) (K : Nat → Nat → Nat) (S : Nat → Int32) (C : Nat → Nat) (s : US) : Prop := moS cI cL w b (uI I s) (uK K s) S C
theorem moT.mk {cI cL : ClassId} {w w' : fw_W} {b : Nat} {I : Nat → Nat} {K : Nat → Nat → Nat} {S : Nat → Int32} {C : Nat → Nat} {s s' : US} (h : moT cI cL w b I K S C s) (h0 : w' b = some (.inr (10, moF b (uI I s')))) (h5 : w' (b + 5) = some (.inl (cI, 120, .inl (fun i => nI (s'.1 i))))) (h6 : w' (b + 6) = some (.inl (cI, 120, .inl (fun i => nI (s'.2.1 i))))) (h7 : w' (b + 7) = some (.inl (cI, 120, .inl (fun i => nI (s'.2.2.2.1 i))))) (h8 : w' (b + 8) = some (.inl (cI, 120, .inl (fun i => nI (s'.2.2.2.2.1 i))))) (hk : ∀ q, q = b + 1 ∨ q = b + 2 ∨ q = b + 3 ∨ q = b + 4 → w' q = w q) : moT cI cL w' b I K S C s' := by
  refine ⟨h0, (hk _ (by omega)).trans h.2.1, (hk _ (by omega)).trans h.2.2.1, fun j hj => ?_⟩
  rcases (show j = 0 ∨ j = 1 ∨ j = 2 ∨ j = 3 ∨ j = 4 ∨ j = 5 by omega) with rfl | rfl | rfl | rfl | rfl | rfl
  · exact (hk _ (by omega)).trans (h.2.2.2 0 (by decide))
  · exact (hk _ (by omega)).trans (h.2.2.2 1 (by decide))
  · exact h5
  · exact h6
  · exact h7
  · exact h8
/-- the bracket on top: its place and 1, or 0 -/
def opn (t : Nat → Nat) : Nat → Nat
  | 0 => 0
  | d + 1 => if 1 ≤ kBi (t d) then opn t d else d + 1
theorem opn_no {t : Nat → Nat} {d : Nat} (h : ¬ 1 ≤ kBi (t d)) : opn t (d + 1) = d + 1 := if_neg h
theorem opn_yes {t : Nat → Nat} {d : Nat} (h : 1 ≤ kBi (t d)) : opn t (d + 1) = opn t d := if_pos h
theorem opn_rl {t : Nat → Nat} (d : Nat) : ∀ (o v : Nat → Nat) (n : Nat), (rl 1 t d o v n).2.2.2 = opn t d := by
  induction d with
  | zero => intro o v n; rfl
  | succ d ih =>
    intro o v n
    by_cases h : 1 ≤ kBi (t d)
    · rw [rl_yes h, opn_yes h]; exact ih _ _ _
    · rw [rl_no h, opn_no h]
theorem opn_le (t : Nat → Nat) (d : Nat) : opn t d ≤ d := by
  induction d with
  | zero => exact Nat.le_refl 0
  | succ d ih =>
    by_cases h : 1 ≤ kBi (t d)
    · rw [opn_yes h]; omega
    · rw [opn_no h]; exact Nat.le_refl _
/-! The reference's translator, first part. Written by wip/gen/model15.py. -/
section MO15
variable {l : Launch} {D : va_G} {cI cL cQ : ClassId} {z : kZ_T} {sz : Nat} {w : fw_W}
set_option maxHeartbeats 4000000 in
set_option maxRecDepth 100000 in
theorem c_Mo_emit {b : Nat} {I : Nat → Nat} {K : Nat → Nat → Nat} {S : Nat → Int32} {C oo vv tt cc9 : Nat → Nat} {n d x cl op : Nat} (hT : moT cI cL w b I K S C (oo, vv, n, tt, cc9, d, x, cl, op)) {k9 u9 : Nat} (hn : n < 120) : fw_C l yMo_emit (Cond.code yMo_emit cMo_emit 3 none :: kWs) ({ frames := 0, cells := 0, slots := 0, locals := 0 } : Room) D kCl (kty cI cL cQ) z [.ref b, .int (nI k9), .int (nI u9)] (sz) w 0 0 (fun v w' => v = none ∧ moT cI cL w' b I K S C (va_up oo n k9, va_up vv n u9, n + 1, tt, cc9, d, x, cl, op) ∧ ∀ q, q < b ∨ b + 9 ≤ q → w' q = w q) := by
  refine fw_ofW (cc := cMo_emit) (maxL := 3) (ret := none) (by decide) rfl (Nat.le_of_ble_eq_true rfl) ?_
  intro p e s m args below meth c hx hb hr hts hown hlocks hname hml hK H ls hw hl
  have hW : ∀ w ∈ kWs, w.before args s = true := fun w h => hts w (List.mem_cons_of_mem _ h)
  have hown : s.vm.findClass RMo = some m.cls := hown
  have hl : lv_has ls 3 [(0, .ref b), (1, .int (nI k9)), (2, .int (nI u9))] := hl
  have b0 : w (b) = some (.inr (10, [.int (nI (I 0)), .ref (b + 1), .ref (b + 2), .int (nI (I 3)), .ref (b + 3), .ref (b + 4), .int (nI (I 6)), .int (nI (n)), .ref (b + 5), .ref (b + 6), .int (nI (d)), .int (nI (op)), .int (nI (x)), .int (nI (cl)), .ref (b + 7), .ref (b + 8), .int (nI (I 16)), .int (nI (I 17)), .int (nI (I 18)), .int (nI (I 19))])) := hT.1
  have b5 : w (b + 5) = some (.inl (cI, 120, .inl (fun i => nI (oo i)))) := hT.2.2.2 2 (by decide)
  have b6 : w (b + 6) = some (.inl (cI, 120, .inl (fun i => nI (vv i)))) := hT.2.2.2 3 (by decide)
  have b7 : w (b + 7) = some (.inl (cI, 120, .inl (fun i => nI (tt i)))) := hT.2.2.2 4 (by decide)
  have b8 : w (b + 8) = some (.inl (cI, 120, .inl (fun i => nI (cc9 i)))) := hT.2.2.2 5 (by decide)
  have b3 : w (b + 3) = some (.inl (cI, 120, .inl (fun i => nI (K 0 i)))) := hT.2.2.2 0 (by decide)
  have b4 : w (b + 4) = some (.inl (cI, 120, .inl (fun i => nI (K 1 i)))) := hT.2.2.2 1 (by decide)
  refine lv_aload_n (pc := 0) hx hb dMo_emit_0 rfl (lv_at hl 0 rfl) ?_
  refine fw_get (pc := 1) (ci := 10) (v := .ref (b + 5)) (C := RMo) (T := TMo) (N := 20) hx hb hW in_Mo hown hK.1 hw b0 rfl 8 (by decide) (hW _ lf_Mo_23) (fun _ h => h) rfl dMo_emit_1 ?_
  refine lv_aload_n (pc := 4) hx hb dMo_emit_4 rfl (lv_at hl 0 rfl) ?_
  refine fw_get (pc := 5) (ci := 10) (v := .int (nI (n))) (C := RMo) (T := TMo) (N := 20) hx hb hW in_Mo hown hK.1 hw b0 rfl 7 (by decide) (hW _ lf_Mo_46) (fun _ h => h) rfl dMo_emit_5 ?_
  refine lv_iload_n (pc := 8) hx hb dMo_emit_8 rfl (lv_at hl 1 rfl) ?_
  refine fw_iastN (pc := 9) (f2 := fun i => nI (va_up oo n k9 i)) hx hb hK.1 hw 0 b5 rfl (n) hn (by decide) (nI_up _ _ _) dMo_emit_9 (fun H locs hw => ?_)
  obtain ⟨w1, e1⟩ : ∃ w_, w_ = fw_up w (b + 5) (.inl (cI, 120, .inl (fun i => nI (va_up oo n k9 i)))) := ⟨_, rfl⟩
  have hw : fw_H D kCl (fw_A w (sz)) s.heap w1 (sz) H locs := by rw [e1]; exact hw
  have b0_ : w1 (b) = some (.inr (10, [.int (nI (I 0)), .ref (b + 1), .ref (b + 2), .int (nI (I 3)), .ref (b + 3), .ref (b + 4), .int (nI (I 6)), .int (nI (n)), .ref (b + 5), .ref (b + 6), .int (nI (d)), .int (nI (op)), .int (nI (x)), .int (nI (cl)), .ref (b + 7), .ref (b + 8), .int (nI (I 16)), .int (nI (I 17)), .int (nI (I 18)), .int (nI (I 19))])) := by rw [e1, fw_un (by omega)]; exact b0
  have b6_ : w1 (b + 6) = some (.inl (cI, 120, .inl (fun i => nI (vv i)))) := by rw [e1, fw_un (by omega)]; exact b6
  have b7_ : w1 (b + 7) = some (.inl (cI, 120, .inl (fun i => nI (tt i)))) := by rw [e1, fw_un (by omega)]; exact b7
  have b8_ : w1 (b + 8) = some (.inl (cI, 120, .inl (fun i => nI (cc9 i)))) := by rw [e1, fw_un (by omega)]; exact b8
  have b3_ : w1 (b + 3) = some (.inl (cI, 120, .inl (fun i => nI (K 0 i)))) := by rw [e1, fw_un (by omega)]; exact b3
  have b4_ : w1 (b + 4) = some (.inl (cI, 120, .inl (fun i => nI (K 1 i)))) := by rw [e1, fw_un (by omega)]; exact b4
  have b5_ : w1 (b + 5) = some (.inl (cI, 120, .inl (fun i => nI (va_up oo n k9 i)))) := by rw [e1]; exact fw_us _ _ _
  have b0 := b0_
  have b5 := b5_
  have b6 := b6_
  have b7 := b7_
  have b8 := b8_
  have b3 := b3_
  have b4 := b4_
  refine lv_aload_n (pc := 10) hx hb dMo_emit_10 rfl (lv_at hl 0 rfl) ?_
  refine fw_get (pc := 11) (ci := 10) (v := .ref (b + 6)) (C := RMo) (T := TMo) (N := 20) hx hb hW in_Mo hown hK.1 hw b0 rfl 9 (by decide) (hW _ lf_Mo_26) (fun _ h => h) rfl dMo_emit_11 ?_
  refine lv_aload_n (pc := 14) hx hb dMo_emit_14 rfl (lv_at hl 0 rfl) ?_
  refine fw_get (pc := 15) (ci := 10) (v := .int (nI (n))) (C := RMo) (T := TMo) (N := 20) hx hb hW in_Mo hown hK.1 hw b0 rfl 7 (by decide) (hW _ lf_Mo_46) (fun _ h => h) rfl dMo_emit_15 ?_
  refine lv_iload_n (pc := 18) hx hb dMo_emit_18 rfl (lv_at hl 2 rfl) ?_
  refine fw_iastN (pc := 19) (f2 := fun i => nI (va_up vv n u9 i)) hx hb hK.1 hw 0 b6 rfl (n) hn (by decide) (nI_up _ _ _) dMo_emit_19 (fun H locs hw => ?_)
  obtain ⟨w2, e2⟩ : ∃ w_, w_ = fw_up w1 (b + 6) (.inl (cI, 120, .inl (fun i => nI (va_up vv n u9 i)))) := ⟨_, rfl⟩
  have hw : fw_H D kCl (fw_A w (sz)) s.heap w2 (sz) H locs := by rw [e2]; exact hw
  have b0_ : w2 (b) = some (.inr (10, [.int (nI (I 0)), .ref (b + 1), .ref (b + 2), .int (nI (I 3)), .ref (b + 3), .ref (b + 4), .int (nI (I 6)), .int (nI (n)), .ref (b + 5), .ref (b + 6), .int (nI (d)), .int (nI (op)), .int (nI (x)), .int (nI (cl)), .ref (b + 7), .ref (b + 8), .int (nI (I 16)), .int (nI (I 17)), .int (nI (I 18)), .int (nI (I 19))])) := by rw [e2, fw_un (by omega)]; exact b0
  have b5_ : w2 (b + 5) = some (.inl (cI, 120, .inl (fun i => nI (va_up oo n k9 i)))) := by rw [e2, fw_un (by omega)]; exact b5
  have b7_ : w2 (b + 7) = some (.inl (cI, 120, .inl (fun i => nI (tt i)))) := by rw [e2, fw_un (by omega)]; exact b7
  have b8_ : w2 (b + 8) = some (.inl (cI, 120, .inl (fun i => nI (cc9 i)))) := by rw [e2, fw_un (by omega)]; exact b8
  have b3_ : w2 (b + 3) = some (.inl (cI, 120, .inl (fun i => nI (K 0 i)))) := by rw [e2, fw_un (by omega)]; exact b3
  have b4_ : w2 (b + 4) = some (.inl (cI, 120, .inl (fun i => nI (K 1 i)))) := by rw [e2, fw_un (by omega)]; exact b4
  have b6_ : w2 (b + 6) = some (.inl (cI, 120, .inl (fun i => nI (va_up vv n u9 i)))) := by rw [e2]; exact fw_us _ _ _
  have b0 := b0_
  have b5 := b5_
  have b6 := b6_
  have b7 := b7_
  have b8 := b8_
  have b3 := b3_
  have b4 := b4_
  refine lv_aload_n (pc := 20) hx hb dMo_emit_20 rfl (lv_at hl 0 rfl) ?_
  refine lv_dup (pc := 21) hx hb dMo_emit_21 rfl ?_
  refine fw_get (pc := 22) (ci := 10) (v := .int (nI (n))) (C := RMo) (T := TMo) (N := 20) hx hb hW in_Mo hown hK.1 hw b0 rfl 7 (by decide) (hW _ lf_Mo_46) (fun _ h => h) rfl dMo_emit_22 ?_
  refine lv_iconst (pc := 25) (v := (nI 1)) hx hb dMo_emit_25 (by decide) ?_
  refine lv_iadd (pc := 26) hx hb dMo_emit_26 ?_
  rw [show ((nI (n) + (nI 1)) : Int32) = nI (n + 1) from (nI_add n 1)]
  refine fw_put (pc := 27) (ci := 10) (v := .int (nI (n + 1))) (ty := .int) (C := RMo) (T := TMo) (N := 20) hx hb hW in_Mo tyMo tyMo_ok nmMo hown hK.1 hw b0 rfl 7 (by decide) (hW _ lf_Mo_46) (fun _ h => h) rfl (by decide +kernel) rfl rfl (Nat.le_of_ble_eq_true rfl) dMo_emit_27 (fun H locs hw => ?_)
  obtain ⟨w3, e3⟩ : ∃ w_, w_ = fw_up w2 (b) (.inr (10, [.int (nI (I 0)), .ref (b + 1), .ref (b + 2), .int (nI (I 3)), .ref (b + 3), .ref (b + 4), .int (nI (I 6)), .int (nI (n + 1)), .ref (b + 5), .ref (b + 6), .int (nI (d)), .int (nI (op)), .int (nI (x)), .int (nI (cl)), .ref (b + 7), .ref (b + 8), .int (nI (I 16)), .int (nI (I 17)), .int (nI (I 18)), .int (nI (I 19))])) := ⟨_, rfl⟩
  have hw : fw_H D kCl (fw_A w (sz)) s.heap w3 (sz) H locs := by rw [e3]; exact hw
  have b5_ : w3 (b + 5) = some (.inl (cI, 120, .inl (fun i => nI (va_up oo n k9 i)))) := by rw [e3, fw_un (by omega)]; exact b5
  have b6_ : w3 (b + 6) = some (.inl (cI, 120, .inl (fun i => nI (va_up vv n u9 i)))) := by rw [e3, fw_un (by omega)]; exact b6
  have b7_ : w3 (b + 7) = some (.inl (cI, 120, .inl (fun i => nI (tt i)))) := by rw [e3, fw_un (by omega)]; exact b7
  have b8_ : w3 (b + 8) = some (.inl (cI, 120, .inl (fun i => nI (cc9 i)))) := by rw [e3, fw_un (by omega)]; exact b8
  have b3_ : w3 (b + 3) = some (.inl (cI, 120, .inl (fun i => nI (K 0 i)))) := by rw [e3, fw_un (by omega)]; exact b3
  have b4_ : w3 (b + 4) = some (.inl (cI, 120, .inl (fun i => nI (K 1 i)))) := by rw [e3, fw_un (by omega)]; exact b4
  have b0_ : w3 (b) = some (.inr (10, [.int (nI (I 0)), .ref (b + 1), .ref (b + 2), .int (nI (I 3)), .ref (b + 3), .ref (b + 4), .int (nI (I 6)), .int (nI (n + 1)), .ref (b + 5), .ref (b + 6), .int (nI (d)), .int (nI (op)), .int (nI (x)), .int (nI (cl)), .ref (b + 7), .ref (b + 8), .int (nI (I 16)), .int (nI (I 17)), .int (nI (I 18)), .int (nI (I 19))])) := by rw [e3]; exact fw_us _ _ _
  have b0 := b0_
  have b5 := b5_
  have b6 := b6_
  have b7 := b7_
  have b8 := b8_
  have b3 := b3_
  have b4 := b4_
  exact fw_vret (pc := 30) hx hb hr hlocks hw dMo_emit_30 ⟨rfl, (hT.mk b0 b5 b6 b7 b8 (fun q h9 => by rw [e3, fw_un (by omega), e2, fw_un (by omega), e1, fw_un (by omega)])), fun q h9 => by rw [e3, fw_un (by omega), e2, fw_un (by omega), e1, fw_un (by omega)]⟩

set_option maxHeartbeats 4000000 in
set_option maxRecDepth 100000 in
theorem c_Mo_heap {b : Nat} {I : Nat → Nat} {K : Nat → Nat → Nat} {S : Nat → Int32} {C oo vv tt cc9 : Nat → Nat} {n d x cl op : Nat} (hT : moT cI cL w b I K S C (oo, vv, n, tt, cc9, d, x, cl, op)) {k9 u9 : Nat} (hn : d < 120) : fw_C l yMo_heap (Cond.code yMo_heap cMo_heap 3 none :: kWs) ({ frames := 0, cells := 0, slots := 0, locals := 0 } : Room) D kCl (kty cI cL cQ) z [.ref b, .int (nI k9), .int (nI u9)] (sz) w 0 0 (fun v w' => v = none ∧ moT cI cL w' b I K S C (oo, vv, n, va_up tt d k9, va_up cc9 d u9, d + 1, x, cl, op) ∧ ∀ q, q < b ∨ b + 9 ≤ q → w' q = w q) := by
  refine fw_ofW (cc := cMo_heap) (maxL := 3) (ret := none) (by decide) rfl (Nat.le_of_ble_eq_true rfl) ?_
  intro p e s m args below meth c hx hb hr hts hown hlocks hname hml hK H ls hw hl
  have hW : ∀ w ∈ kWs, w.before args s = true := fun w h => hts w (List.mem_cons_of_mem _ h)
  have hown : s.vm.findClass RMo = some m.cls := hown
  have hl : lv_has ls 3 [(0, .ref b), (1, .int (nI k9)), (2, .int (nI u9))] := hl
  have b0 : w (b) = some (.inr (10, [.int (nI (I 0)), .ref (b + 1), .ref (b + 2), .int (nI (I 3)), .ref (b + 3), .ref (b + 4), .int (nI (I 6)), .int (nI (n)), .ref (b + 5), .ref (b + 6), .int (nI (d)), .int (nI (op)), .int (nI (x)), .int (nI (cl)), .ref (b + 7), .ref (b + 8), .int (nI (I 16)), .int (nI (I 17)), .int (nI (I 18)), .int (nI (I 19))])) := hT.1
  have b5 : w (b + 5) = some (.inl (cI, 120, .inl (fun i => nI (oo i)))) := hT.2.2.2 2 (by decide)
  have b6 : w (b + 6) = some (.inl (cI, 120, .inl (fun i => nI (vv i)))) := hT.2.2.2 3 (by decide)
  have b7 : w (b + 7) = some (.inl (cI, 120, .inl (fun i => nI (tt i)))) := hT.2.2.2 4 (by decide)
  have b8 : w (b + 8) = some (.inl (cI, 120, .inl (fun i => nI (cc9 i)))) := hT.2.2.2 5 (by decide)
  have b3 : w (b + 3) = some (.inl (cI, 120, .inl (fun i => nI (K 0 i)))) := hT.2.2.2 0 (by decide)
  have b4 : w (b + 4) = some (.inl (cI, 120, .inl (fun i => nI (K 1 i)))) := hT.2.2.2 1 (by decide)
  refine lv_aload_n (pc := 0) hx hb dMo_heap_0 rfl (lv_at hl 0 rfl) ?_
  refine fw_get (pc := 1) (ci := 10) (v := .ref (b + 7)) (C := RMo) (T := TMo) (N := 20) hx hb hW in_Mo hown hK.1 hw b0 rfl 14 (by decide) (hW _ lf_Mo_29) (fun _ h => h) rfl dMo_heap_1 ?_
  refine lv_aload_n (pc := 4) hx hb dMo_heap_4 rfl (lv_at hl 0 rfl) ?_
  refine fw_get (pc := 5) (ci := 10) (v := .int (nI (d))) (C := RMo) (T := TMo) (N := 20) hx hb hW in_Mo hown hK.1 hw b0 rfl 10 (by decide) (hW _ lf_Mo_49) (fun _ h => h) rfl dMo_heap_5 ?_
  refine lv_iload_n (pc := 8) hx hb dMo_heap_8 rfl (lv_at hl 1 rfl) ?_
  refine fw_iastN (pc := 9) (f2 := fun i => nI (va_up tt d k9 i)) hx hb hK.1 hw 0 b7 rfl (d) hn (by decide) (nI_up _ _ _) dMo_heap_9 (fun H locs hw => ?_)
  obtain ⟨w1, e1⟩ : ∃ w_, w_ = fw_up w (b + 7) (.inl (cI, 120, .inl (fun i => nI (va_up tt d k9 i)))) := ⟨_, rfl⟩
  have hw : fw_H D kCl (fw_A w (sz)) s.heap w1 (sz) H locs := by rw [e1]; exact hw
  have b0_ : w1 (b) = some (.inr (10, [.int (nI (I 0)), .ref (b + 1), .ref (b + 2), .int (nI (I 3)), .ref (b + 3), .ref (b + 4), .int (nI (I 6)), .int (nI (n)), .ref (b + 5), .ref (b + 6), .int (nI (d)), .int (nI (op)), .int (nI (x)), .int (nI (cl)), .ref (b + 7), .ref (b + 8), .int (nI (I 16)), .int (nI (I 17)), .int (nI (I 18)), .int (nI (I 19))])) := by rw [e1, fw_un (by omega)]; exact b0
  have b5_ : w1 (b + 5) = some (.inl (cI, 120, .inl (fun i => nI (oo i)))) := by rw [e1, fw_un (by omega)]; exact b5
  have b6_ : w1 (b + 6) = some (.inl (cI, 120, .inl (fun i => nI (vv i)))) := by rw [e1, fw_un (by omega)]; exact b6
  have b8_ : w1 (b + 8) = some (.inl (cI, 120, .inl (fun i => nI (cc9 i)))) := by rw [e1, fw_un (by omega)]; exact b8
  have b3_ : w1 (b + 3) = some (.inl (cI, 120, .inl (fun i => nI (K 0 i)))) := by rw [e1, fw_un (by omega)]; exact b3
  have b4_ : w1 (b + 4) = some (.inl (cI, 120, .inl (fun i => nI (K 1 i)))) := by rw [e1, fw_un (by omega)]; exact b4
  have b7_ : w1 (b + 7) = some (.inl (cI, 120, .inl (fun i => nI (va_up tt d k9 i)))) := by rw [e1]; exact fw_us _ _ _
  have b0 := b0_
  have b5 := b5_
  have b6 := b6_
  have b7 := b7_
  have b8 := b8_
  have b3 := b3_
  have b4 := b4_
  refine lv_aload_n (pc := 10) hx hb dMo_heap_10 rfl (lv_at hl 0 rfl) ?_
  refine fw_get (pc := 11) (ci := 10) (v := .ref (b + 8)) (C := RMo) (T := TMo) (N := 20) hx hb hW in_Mo hown hK.1 hw b0 rfl 15 (by decide) (hW _ lf_Mo_32) (fun _ h => h) rfl dMo_heap_11 ?_
  refine lv_aload_n (pc := 14) hx hb dMo_heap_14 rfl (lv_at hl 0 rfl) ?_
  refine fw_get (pc := 15) (ci := 10) (v := .int (nI (d))) (C := RMo) (T := TMo) (N := 20) hx hb hW in_Mo hown hK.1 hw b0 rfl 10 (by decide) (hW _ lf_Mo_49) (fun _ h => h) rfl dMo_heap_15 ?_
  refine lv_iload_n (pc := 18) hx hb dMo_heap_18 rfl (lv_at hl 2 rfl) ?_
  refine fw_iastN (pc := 19) (f2 := fun i => nI (va_up cc9 d u9 i)) hx hb hK.1 hw 0 b8 rfl (d) hn (by decide) (nI_up _ _ _) dMo_heap_19 (fun H locs hw => ?_)
  obtain ⟨w2, e2⟩ : ∃ w_, w_ = fw_up w1 (b + 8) (.inl (cI, 120, .inl (fun i => nI (va_up cc9 d u9 i)))) := ⟨_, rfl⟩
  have hw : fw_H D kCl (fw_A w (sz)) s.heap w2 (sz) H locs := by rw [e2]; exact hw
  have b0_ : w2 (b) = some (.inr (10, [.int (nI (I 0)), .ref (b + 1), .ref (b + 2), .int (nI (I 3)), .ref (b + 3), .ref (b + 4), .int (nI (I 6)), .int (nI (n)), .ref (b + 5), .ref (b + 6), .int (nI (d)), .int (nI (op)), .int (nI (x)), .int (nI (cl)), .ref (b + 7), .ref (b + 8), .int (nI (I 16)), .int (nI (I 17)), .int (nI (I 18)), .int (nI (I 19))])) := by rw [e2, fw_un (by omega)]; exact b0
  have b5_ : w2 (b + 5) = some (.inl (cI, 120, .inl (fun i => nI (oo i)))) := by rw [e2, fw_un (by omega)]; exact b5
  have b6_ : w2 (b + 6) = some (.inl (cI, 120, .inl (fun i => nI (vv i)))) := by rw [e2, fw_un (by omega)]; exact b6
  have b7_ : w2 (b + 7) = some (.inl (cI, 120, .inl (fun i => nI (va_up tt d k9 i)))) := by rw [e2, fw_un (by omega)]; exact b7
  have b3_ : w2 (b + 3) = some (.inl (cI, 120, .inl (fun i => nI (K 0 i)))) := by rw [e2, fw_un (by omega)]; exact b3
  have b4_ : w2 (b + 4) = some (.inl (cI, 120, .inl (fun i => nI (K 1 i)))) := by rw [e2, fw_un (by omega)]; exact b4
  have b8_ : w2 (b + 8) = some (.inl (cI, 120, .inl (fun i => nI (va_up cc9 d u9 i)))) := by rw [e2]; exact fw_us _ _ _
  have b0 := b0_
  have b5 := b5_
  have b6 := b6_
  have b7 := b7_
  have b8 := b8_
  have b3 := b3_
  have b4 := b4_
  refine lv_aload_n (pc := 20) hx hb dMo_heap_20 rfl (lv_at hl 0 rfl) ?_
  refine lv_dup (pc := 21) hx hb dMo_heap_21 rfl ?_
  refine fw_get (pc := 22) (ci := 10) (v := .int (nI (d))) (C := RMo) (T := TMo) (N := 20) hx hb hW in_Mo hown hK.1 hw b0 rfl 10 (by decide) (hW _ lf_Mo_49) (fun _ h => h) rfl dMo_heap_22 ?_
  refine lv_iconst (pc := 25) (v := (nI 1)) hx hb dMo_heap_25 (by decide) ?_
  refine lv_iadd (pc := 26) hx hb dMo_heap_26 ?_
  rw [show ((nI (d) + (nI 1)) : Int32) = nI (d + 1) from (nI_add d 1)]
  refine fw_put (pc := 27) (ci := 10) (v := .int (nI (d + 1))) (ty := .int) (C := RMo) (T := TMo) (N := 20) hx hb hW in_Mo tyMo tyMo_ok nmMo hown hK.1 hw b0 rfl 10 (by decide) (hW _ lf_Mo_49) (fun _ h => h) rfl (by decide +kernel) rfl rfl (Nat.le_of_ble_eq_true rfl) dMo_heap_27 (fun H locs hw => ?_)
  obtain ⟨w3, e3⟩ : ∃ w_, w_ = fw_up w2 (b) (.inr (10, [.int (nI (I 0)), .ref (b + 1), .ref (b + 2), .int (nI (I 3)), .ref (b + 3), .ref (b + 4), .int (nI (I 6)), .int (nI (n)), .ref (b + 5), .ref (b + 6), .int (nI (d + 1)), .int (nI (op)), .int (nI (x)), .int (nI (cl)), .ref (b + 7), .ref (b + 8), .int (nI (I 16)), .int (nI (I 17)), .int (nI (I 18)), .int (nI (I 19))])) := ⟨_, rfl⟩
  have hw : fw_H D kCl (fw_A w (sz)) s.heap w3 (sz) H locs := by rw [e3]; exact hw
  have b5_ : w3 (b + 5) = some (.inl (cI, 120, .inl (fun i => nI (oo i)))) := by rw [e3, fw_un (by omega)]; exact b5
  have b6_ : w3 (b + 6) = some (.inl (cI, 120, .inl (fun i => nI (vv i)))) := by rw [e3, fw_un (by omega)]; exact b6
  have b7_ : w3 (b + 7) = some (.inl (cI, 120, .inl (fun i => nI (va_up tt d k9 i)))) := by rw [e3, fw_un (by omega)]; exact b7
  have b8_ : w3 (b + 8) = some (.inl (cI, 120, .inl (fun i => nI (va_up cc9 d u9 i)))) := by rw [e3, fw_un (by omega)]; exact b8
  have b3_ : w3 (b + 3) = some (.inl (cI, 120, .inl (fun i => nI (K 0 i)))) := by rw [e3, fw_un (by omega)]; exact b3
  have b4_ : w3 (b + 4) = some (.inl (cI, 120, .inl (fun i => nI (K 1 i)))) := by rw [e3, fw_un (by omega)]; exact b4
  have b0_ : w3 (b) = some (.inr (10, [.int (nI (I 0)), .ref (b + 1), .ref (b + 2), .int (nI (I 3)), .ref (b + 3), .ref (b + 4), .int (nI (I 6)), .int (nI (n)), .ref (b + 5), .ref (b + 6), .int (nI (d + 1)), .int (nI (op)), .int (nI (x)), .int (nI (cl)), .ref (b + 7), .ref (b + 8), .int (nI (I 16)), .int (nI (I 17)), .int (nI (I 18)), .int (nI (I 19))])) := by rw [e3]; exact fw_us _ _ _
  have b0 := b0_
  have b5 := b5_
  have b6 := b6_
  have b7 := b7_
  have b8 := b8_
  have b3 := b3_
  have b4 := b4_
  exact fw_vret (pc := 30) hx hb hr hlocks hw dMo_heap_30 ⟨rfl, (hT.mk b0 b5 b6 b7 b8 (fun q h9 => by rw [e3, fw_un (by omega), e2, fw_un (by omega), e1, fw_un (by omega)])), fun q h9 => by rw [e3, fw_un (by omega), e2, fw_un (by omega), e1, fw_un (by omega)]⟩

set_option maxHeartbeats 4000000 in
set_option maxRecDepth 100000 in
theorem c_Mo_bond {k : Nat} (hk : k < 15) (hk2 : 1 < k) : fw_R l yMo_bond (Cond.code yMo_bond cMo_bond 1 (some FieldType.int) :: kWs) ({ frames := 0, cells := 0, slots := 0, locals := 0 } : Room) D kCl (kty cI cL cQ) z [.int (nI k)] (sz) w (fun v => v = some (.int (nI (kBi k)))) := by
  refine fw_ofR (cc := cMo_bond) (maxL := 1) (ret := (some FieldType.int)) (by decide) rfl (Nat.le_of_ble_eq_true rfl) ?_
  intro p e s m args below meth c hx hb hr hts hown hlocks hml hK H ls hH hw hl
  have hW : ∀ w ∈ kWs, w.before args s = true := fun w h => hts w (List.mem_cons_of_mem _ h)
  have hown : s.vm.findClass RMo = some m.cls := hown
  have hl : lv_has ls 1 [(0, .int (nI k))] := hl
  rcases (show k = 2 ∨ k = 3 ∨ k = 4 ∨ k = 5 ∨ k = 6 ∨ k = 7 ∨ k = 8 ∨ k = 9 ∨ k = 10 ∨ k = 11 ∨ k = 12 ∨ k = 13 ∨ k = 14 by omega) with rfl | rfl | rfl | rfl | rfl | rfl | rfl | rfl | rfl | rfl | rfl | rfl | rfl
  · refine lv_iload_n (pc := 0) hx hb dMo_bond_0 rfl (lv_at hl 0 rfl) ?_
    refine lv_tableIn (pc := 1) (tgt := 68) hx hb dMo_bond_1 (by decide) (by decide) rfl (by decide) ?_
    refine lv_iconst (pc := 68) (v := (nI 1)) hx hb dMo_bond_68 (by decide) ?_
    exact fw_iretR (pc := 69) hx hb hr hlocks hH dMo_bond_69 rfl
  · refine lv_iload_n (pc := 0) hx hb dMo_bond_0 rfl (lv_at hl 0 rfl) ?_
    refine lv_tableIn (pc := 1) (tgt := 68) hx hb dMo_bond_1 (by decide) (by decide) rfl (by decide) ?_
    refine lv_iconst (pc := 68) (v := (nI 1)) hx hb dMo_bond_68 (by decide) ?_
    exact fw_iretR (pc := 69) hx hb hr hlocks hH dMo_bond_69 rfl
  · refine lv_iload_n (pc := 0) hx hb dMo_bond_0 rfl (lv_at hl 0 rfl) ?_
    refine lv_tableIn (pc := 1) (tgt := 70) hx hb dMo_bond_1 (by decide) (by decide) rfl (by decide) ?_
    refine lv_iconst (pc := 70) (v := (nI 2)) hx hb dMo_bond_70 (by decide) ?_
    exact fw_iretR (pc := 71) hx hb hr hlocks hH dMo_bond_71 rfl
  · refine lv_iload_n (pc := 0) hx hb dMo_bond_0 rfl (lv_at hl 0 rfl) ?_
    refine lv_tableIn (pc := 1) (tgt := 70) hx hb dMo_bond_1 (by decide) (by decide) rfl (by decide) ?_
    refine lv_iconst (pc := 70) (v := (nI 2)) hx hb dMo_bond_70 (by decide) ?_
    exact fw_iretR (pc := 71) hx hb hr hlocks hH dMo_bond_71 rfl
  · refine lv_iload_n (pc := 0) hx hb dMo_bond_0 rfl (lv_at hl 0 rfl) ?_
    refine lv_tableIn (pc := 1) (tgt := 70) hx hb dMo_bond_1 (by decide) (by decide) rfl (by decide) ?_
    refine lv_iconst (pc := 70) (v := (nI 2)) hx hb dMo_bond_70 (by decide) ?_
    exact fw_iretR (pc := 71) hx hb hr hlocks hH dMo_bond_71 rfl
  · refine lv_iload_n (pc := 0) hx hb dMo_bond_0 rfl (lv_at hl 0 rfl) ?_
    refine lv_tableIn (pc := 1) (tgt := 74) hx hb dMo_bond_1 (by decide) (by decide) rfl (by decide) ?_
    refine lv_iconst (pc := 74) (v := (nI 4)) hx hb dMo_bond_74 (by decide) ?_
    exact fw_iretR (pc := 75) hx hb hr hlocks hH dMo_bond_75 rfl
  · refine lv_iload_n (pc := 0) hx hb dMo_bond_0 rfl (lv_at hl 0 rfl) ?_
    refine lv_tableIn (pc := 1) (tgt := 76) hx hb dMo_bond_1 (by decide) (by decide) rfl (by decide) ?_
    refine lv_iconst (pc := 76) (v := (nI 0)) hx hb dMo_bond_76 (by decide) ?_
    exact fw_iretR (pc := 77) hx hb hr hlocks hH dMo_bond_77 rfl
  · refine lv_iload_n (pc := 0) hx hb dMo_bond_0 rfl (lv_at hl 0 rfl) ?_
    refine lv_tableIn (pc := 1) (tgt := 76) hx hb dMo_bond_1 (by decide) (by decide) rfl (by decide) ?_
    refine lv_iconst (pc := 76) (v := (nI 0)) hx hb dMo_bond_76 (by decide) ?_
    exact fw_iretR (pc := 77) hx hb hr hlocks hH dMo_bond_77 rfl
  · refine lv_iload_n (pc := 0) hx hb dMo_bond_0 rfl (lv_at hl 0 rfl) ?_
    refine lv_tableIn (pc := 1) (tgt := 76) hx hb dMo_bond_1 (by decide) (by decide) rfl (by decide) ?_
    refine lv_iconst (pc := 76) (v := (nI 0)) hx hb dMo_bond_76 (by decide) ?_
    exact fw_iretR (pc := 77) hx hb hr hlocks hH dMo_bond_77 rfl
  · refine lv_iload_n (pc := 0) hx hb dMo_bond_0 rfl (lv_at hl 0 rfl) ?_
    refine lv_tableIn (pc := 1) (tgt := 76) hx hb dMo_bond_1 (by decide) (by decide) rfl (by decide) ?_
    refine lv_iconst (pc := 76) (v := (nI 0)) hx hb dMo_bond_76 (by decide) ?_
    exact fw_iretR (pc := 77) hx hb hr hlocks hH dMo_bond_77 rfl
  · refine lv_iload_n (pc := 0) hx hb dMo_bond_0 rfl (lv_at hl 0 rfl) ?_
    refine lv_tableIn (pc := 1) (tgt := 76) hx hb dMo_bond_1 (by decide) (by decide) rfl (by decide) ?_
    refine lv_iconst (pc := 76) (v := (nI 0)) hx hb dMo_bond_76 (by decide) ?_
    exact fw_iretR (pc := 77) hx hb hr hlocks hH dMo_bond_77 rfl
  · refine lv_iload_n (pc := 0) hx hb dMo_bond_0 rfl (lv_at hl 0 rfl) ?_
    refine lv_tableIn (pc := 1) (tgt := 76) hx hb dMo_bond_1 (by decide) (by decide) rfl (by decide) ?_
    refine lv_iconst (pc := 76) (v := (nI 0)) hx hb dMo_bond_76 (by decide) ?_
    exact fw_iretR (pc := 77) hx hb hr hlocks hH dMo_bond_77 rfl
  · refine lv_iload_n (pc := 0) hx hb dMo_bond_0 rfl (lv_at hl 0 rfl) ?_
    refine lv_tableIn (pc := 1) (tgt := 72) hx hb dMo_bond_1 (by decide) (by decide) rfl (by decide) ?_
    refine lv_iconst (pc := 72) (v := (nI 3)) hx hb dMo_bond_72 (by decide) ?_
    exact fw_iretR (pc := 73) hx hb hr hlocks hH dMo_bond_73 rfl

set_option maxHeartbeats 4000000 in
set_option maxRecDepth 100000 in
theorem c_Mo_unload {b : Nat} {I : Nat → Nat} {K : Nat → Nat → Nat} {S : Nat → Int32} {C oo vv tt cc9 : Nat → Nat} {n d x cl op : Nat} (hT : moT cI cL w b I K S C (oo, vv, n, tt, cc9, d, x, cl, op)) {bd : Nat} (hb5 : bd < 2 ^ 31) (hnd : n + d ≤ 120) (ht : ∀ i, i < d → 1 < tt i ∧ tt i < 15) : fw_C l yMo_unload (Cond.code yMo_unload cMo_unload 2 none :: kWs) ({ frames := 1, cells := 0, slots := 0, locals := 22 } : Room) D kCl (kty cI cL cQ) z [.ref b, .int (nI bd)] (sz) w 0 0 (fun v w' => v = none ∧ moT cI cL w' b I K S C ((rl bd tt d oo vv n).1, (rl bd tt d oo vv n).2.1, (rl bd tt d oo vv n).2.2.1, tt, cc9, (rl bd tt d oo vv n).2.2.2, x, cl, op) ∧ ∀ q, q < b ∨ b + 9 ≤ q → w' q = w q) := by
  refine fw_ofW (cc := cMo_unload) (maxL := 2) (ret := none) (by decide) rfl (Nat.le_of_ble_eq_true rfl) ?_
  intro p e s m args below meth c hx hb hr hts hown hlocks hname hml hK H ls hw hl
  have hW : ∀ w ∈ kWs, w.before args s = true := fun w h => hts w (List.mem_cons_of_mem _ h)
  have hown : s.vm.findClass RMo = some m.cls := hown
  have hl : lv_has ls 2 [(0, .ref b), (1, .int (nI bd))] := hl
  have b0 : w (b) = some (.inr (10, [.int (nI (I 0)), .ref (b + 1), .ref (b + 2), .int (nI (I 3)), .ref (b + 3), .ref (b + 4), .int (nI (I 6)), .int (nI (n)), .ref (b + 5), .ref (b + 6), .int (nI (d)), .int (nI (op)), .int (nI (x)), .int (nI (cl)), .ref (b + 7), .ref (b + 8), .int (nI (I 16)), .int (nI (I 17)), .int (nI (I 18)), .int (nI (I 19))])) := hT.1
  have b5 : w (b + 5) = some (.inl (cI, 120, .inl (fun i => nI (oo i)))) := hT.2.2.2 2 (by decide)
  have b6 : w (b + 6) = some (.inl (cI, 120, .inl (fun i => nI (vv i)))) := hT.2.2.2 3 (by decide)
  have b7 : w (b + 7) = some (.inl (cI, 120, .inl (fun i => nI (tt i)))) := hT.2.2.2 4 (by decide)
  have b8 : w (b + 8) = some (.inl (cI, 120, .inl (fun i => nI (cc9 i)))) := hT.2.2.2 5 (by decide)
  have b3 : w (b + 3) = some (.inl (cI, 120, .inl (fun i => nI (K 0 i)))) := hT.2.2.2 0 (by decide)
  have b4 : w (b + 4) = some (.inl (cI, 120, .inl (fun i => nI (K 1 i)))) := hT.2.2.2 1 (by decide)
  have loop : ∀ (d : Nat) (n : Nat) (oo vv : Nat → Nat), n + d ≤ 120 → (∀ i, i < d → 1 < tt i ∧ tt i < 15) → ∀ (w1 : fw_W) (H : Heap) (locs : List Loc) (ls : Array Slot), fw_H D kCl (fw_A w (sz)) s.heap w1 (sz) H locs → lv_has ls 2 [(0, .ref b), (1, .int (nI bd))] → moT cI cL w1 b I K S C (oo, vv, n, tt, cc9, d, x, cl, op) → (∀ q, q < b ∨ b + 9 ≤ q → w1 q = w q) → W p l e ({ frames := 1, cells := 0, slots := 0, locals := 22 } : Room) s m args below meth c H locs 0 0 (MQ below (fw_Q D kCl w (sz) 0 (fun v w' => v = none ∧ moT cI cL w' b I K S C ((rl bd tt d oo vv n).1, (rl bd tt d oo vv n).2.1, (rl bd tt d oo vv n).2.2.1, tt, cc9, (rl bd tt d oo vv n).2.2.2, x, cl, op) ∧ ∀ q, q < b ∨ b + 9 ≤ q → w' q = w q)) args s 0 0 (fw_A w (sz))) (F0 m 0 ls []) := by
    intro d
    induction d with
    | zero =>
      intro n oo vv hnd ht w1 H locs ls hw hl hT ho
      have b0 : w1 (b) = some (.inr (10, [.int (nI (I 0)), .ref (b + 1), .ref (b + 2), .int (nI (I 3)), .ref (b + 3), .ref (b + 4), .int (nI (I 6)), .int (nI (n)), .ref (b + 5), .ref (b + 6), .int (nI (0)), .int (nI (op)), .int (nI (x)), .int (nI (cl)), .ref (b + 7), .ref (b + 8), .int (nI (I 16)), .int (nI (I 17)), .int (nI (I 18)), .int (nI (I 19))])) := hT.1
      have b5 : w1 (b + 5) = some (.inl (cI, 120, .inl (fun i => nI (oo i)))) := hT.2.2.2 2 (by decide)
      have b6 : w1 (b + 6) = some (.inl (cI, 120, .inl (fun i => nI (vv i)))) := hT.2.2.2 3 (by decide)
      have b7 : w1 (b + 7) = some (.inl (cI, 120, .inl (fun i => nI (tt i)))) := hT.2.2.2 4 (by decide)
      have b8 : w1 (b + 8) = some (.inl (cI, 120, .inl (fun i => nI (cc9 i)))) := hT.2.2.2 5 (by decide)
      have b3 : w1 (b + 3) = some (.inl (cI, 120, .inl (fun i => nI (K 0 i)))) := hT.2.2.2 0 (by decide)
      have b4 : w1 (b + 4) = some (.inl (cI, 120, .inl (fun i => nI (K 1 i)))) := hT.2.2.2 1 (by decide)
      refine lv_aload_n (pc := 0) hx hb dMo_unload_0 rfl (lv_at hl 0 rfl) ?_
      refine fw_get (pc := 1) (ci := 10) (v := .int (nI (0))) (C := RMo) (T := TMo) (N := 20) hx hb hW in_Mo hown hK.1 hw b0 rfl 10 (by decide) (hW _ lf_Mo_49) (fun _ h => h) rfl dMo_unload_1 ?_
      refine lv_if_le (pc := 4) (tgt := 52) hx hb dMo_unload_4 (by decide) (fun _ => ?_) (fun hc => absurd (show nI 0 ≤ 0 by decide) hc)
      exact fw_vret (pc := 52) hx hb hr hlocks hw dMo_unload_52 ⟨rfl, hT, ho⟩
    | succ d ih =>
      intro n oo vv hnd ht w1 H locs ls hw hl hT ho
      have b0 : w1 (b) = some (.inr (10, [.int (nI (I 0)), .ref (b + 1), .ref (b + 2), .int (nI (I 3)), .ref (b + 3), .ref (b + 4), .int (nI (I 6)), .int (nI (n)), .ref (b + 5), .ref (b + 6), .int (nI (d + 1)), .int (nI (op)), .int (nI (x)), .int (nI (cl)), .ref (b + 7), .ref (b + 8), .int (nI (I 16)), .int (nI (I 17)), .int (nI (I 18)), .int (nI (I 19))])) := hT.1
      have b5 : w1 (b + 5) = some (.inl (cI, 120, .inl (fun i => nI (oo i)))) := hT.2.2.2 2 (by decide)
      have b6 : w1 (b + 6) = some (.inl (cI, 120, .inl (fun i => nI (vv i)))) := hT.2.2.2 3 (by decide)
      have b7 : w1 (b + 7) = some (.inl (cI, 120, .inl (fun i => nI (tt i)))) := hT.2.2.2 4 (by decide)
      have b8 : w1 (b + 8) = some (.inl (cI, 120, .inl (fun i => nI (cc9 i)))) := hT.2.2.2 5 (by decide)
      have b3 : w1 (b + 3) = some (.inl (cI, 120, .inl (fun i => nI (K 0 i)))) := hT.2.2.2 0 (by decide)
      have b4 : w1 (b + 4) = some (.inl (cI, 120, .inl (fun i => nI (K 1 i)))) := hT.2.2.2 1 (by decide)
      obtain ⟨ht8, ht9⟩ := ht d (by omega)
      refine lv_aload_n (pc := 0) hx hb dMo_unload_0 rfl (lv_at hl 0 rfl) ?_
      refine fw_get (pc := 1) (ci := 10) (v := .int (nI (d + 1))) (C := RMo) (T := TMo) (N := 20) hx hb hW in_Mo hown hK.1 hw b0 rfl 10 (by decide) (hW _ lf_Mo_49) (fun _ h => h) rfl dMo_unload_1 ?_
      refine lv_if_le (pc := 4) (tgt := 52) hx hb dMo_unload_4 (by decide) (fun hc => absurd hc (nI_nle (by omega) (by omega))) (fun _ => ?_)
      refine lv_aload_n (pc := 7) hx hb dMo_unload_7 rfl (lv_at hl 0 rfl) ?_
      refine fw_get (pc := 8) (ci := 10) (v := .ref (b + 7)) (C := RMo) (T := TMo) (N := 20) hx hb hW in_Mo hown hK.1 hw b0 rfl 14 (by decide) (hW _ lf_Mo_29) (fun _ h => h) rfl dMo_unload_8 ?_
      refine lv_aload_n (pc := 11) hx hb dMo_unload_11 rfl (lv_at hl 0 rfl) ?_
      refine fw_get (pc := 12) (ci := 10) (v := .int (nI (d + 1))) (C := RMo) (T := TMo) (N := 20) hx hb hW in_Mo hown hK.1 hw b0 rfl 10 (by decide) (hW _ lf_Mo_49) (fun _ h => h) rfl dMo_unload_12 ?_
      refine lv_iconst (pc := 15) (v := (nI 1)) hx hb dMo_unload_15 (by decide) ?_
      refine lv_isub (pc := 16) hx hb dMo_unload_16 ?_
      rw [show ((nI (d + 1) - (nI 1)) : Int32) = nI d from (nI_pred d)]
      refine fw_ialdN (pc := 17) (x := nI (tt (d))) hx hb hK.1 hw 0 b7 rfl (d) (show d < 120 by omega) (by decide) rfl dMo_unload_17 ?_
      refine fw_cSR (pc := 18) (As := [.int (nI (tt (d)))]) (rest := []) ⟨hx, hb, hml, hown, hW⟩ (c_Mo_bond ht9 ht8) (va_cwS 1 hW (kw_S lm_Mo_52 sta_Mo_bond ini_Mo cd_Mo_bond) rfl rfl rfl (by decide +kernel) ⟨Nat.le_of_ble_eq_true rfl, Nat.le_of_ble_eq_true rfl⟩) hK hw rfl hl.1 rfl (Nat.le_of_ble_eq_true rfl) dMo_unload_18 ⟨Nat.le_of_ble_eq_true rfl, Nat.le_of_ble_eq_true rfl⟩ (fun v hq => ?_)
      subst hq
      refine W.eq (g2 := F0 m 21 ls [.int (nI (kBi (tt d)))]) rfl ?_
      refine lv_iload_n (pc := 21) hx hb dMo_unload_21 rfl (lv_at hl 1 rfl) ?_
      refine lv_icmp_lt (pc := 22) (tgt := 52) hx hb dMo_unload_22 (by decide) (fun hlt => ?_) (fun hlt => ?_)
      · have hb9 : ¬ bd ≤ kBi (tt d) := fun h9 => absurd ((nI_ltI (kBi_lt _) hb5).mp hlt) (by omega)
        exact fw_vret (pc := 52) hx hb hr hlocks hw dMo_unload_52 (by rw [rl_no hb9]; exact ⟨rfl, hT, ho⟩)
      · have hb9 : bd ≤ kBi (tt d) := Nat.le_of_not_lt fun h9 => hlt ((nI_ltI (kBi_lt _) hb5).mpr h9)
        refine lv_aload_n (pc := 25) hx hb dMo_unload_25 rfl (lv_at hl 0 rfl) ?_
        refine lv_dup (pc := 26) hx hb dMo_unload_26 rfl ?_
        refine fw_get (pc := 27) (ci := 10) (v := .int (nI (d + 1))) (C := RMo) (T := TMo) (N := 20) hx hb hW in_Mo hown hK.1 hw b0 rfl 10 (by decide) (hW _ lf_Mo_49) (fun _ h => h) rfl dMo_unload_27 ?_
        refine lv_iconst (pc := 30) (v := (nI 1)) hx hb dMo_unload_30 (by decide) ?_
        refine lv_isub (pc := 31) hx hb dMo_unload_31 ?_
        rw [show ((nI (d + 1) - (nI 1)) : Int32) = nI d from (nI_pred d)]
        refine fw_put (pc := 32) (ci := 10) (v := .int (nI d)) (ty := .int) (C := RMo) (T := TMo) (N := 20) hx hb hW in_Mo tyMo tyMo_ok nmMo hown hK.1 hw b0 rfl 10 (by decide) (hW _ lf_Mo_49) (fun _ h => h) rfl (by decide +kernel) rfl rfl (Nat.le_of_ble_eq_true rfl) dMo_unload_32 (fun H locs hw => ?_)
        obtain ⟨w2, e2⟩ : ∃ w_, w_ = fw_up w1 (b) (.inr (10, [.int (nI (I 0)), .ref (b + 1), .ref (b + 2), .int (nI (I 3)), .ref (b + 3), .ref (b + 4), .int (nI (I 6)), .int (nI (n)), .ref (b + 5), .ref (b + 6), .int (nI d), .int (nI (op)), .int (nI (x)), .int (nI (cl)), .ref (b + 7), .ref (b + 8), .int (nI (I 16)), .int (nI (I 17)), .int (nI (I 18)), .int (nI (I 19))])) := ⟨_, rfl⟩
        have hw : fw_H D kCl (fw_A w (sz)) s.heap w2 (sz) H locs := by rw [e2]; exact hw
        have b5_ : w2 (b + 5) = some (.inl (cI, 120, .inl (fun i => nI (oo i)))) := by rw [e2, fw_un (by omega)]; exact b5
        have b6_ : w2 (b + 6) = some (.inl (cI, 120, .inl (fun i => nI (vv i)))) := by rw [e2, fw_un (by omega)]; exact b6
        have b7_ : w2 (b + 7) = some (.inl (cI, 120, .inl (fun i => nI (tt i)))) := by rw [e2, fw_un (by omega)]; exact b7
        have b8_ : w2 (b + 8) = some (.inl (cI, 120, .inl (fun i => nI (cc9 i)))) := by rw [e2, fw_un (by omega)]; exact b8
        have b3_ : w2 (b + 3) = some (.inl (cI, 120, .inl (fun i => nI (K 0 i)))) := by rw [e2, fw_un (by omega)]; exact b3
        have b4_ : w2 (b + 4) = some (.inl (cI, 120, .inl (fun i => nI (K 1 i)))) := by rw [e2, fw_un (by omega)]; exact b4
        have b0_ : w2 (b) = some (.inr (10, [.int (nI (I 0)), .ref (b + 1), .ref (b + 2), .int (nI (I 3)), .ref (b + 3), .ref (b + 4), .int (nI (I 6)), .int (nI (n)), .ref (b + 5), .ref (b + 6), .int (nI d), .int (nI (op)), .int (nI (x)), .int (nI (cl)), .ref (b + 7), .ref (b + 8), .int (nI (I 16)), .int (nI (I 17)), .int (nI (I 18)), .int (nI (I 19))])) := by rw [e2]; exact fw_us _ _ _
        have b0 := b0_
        have b5 := b5_
        have b6 := b6_
        have b7 := b7_
        have b8 := b8_
        have b3 := b3_
        have b4 := b4_
        have hT : moT cI cL w2 b I K S C (oo, vv, n, tt, cc9, d, x, cl, op) := hT.mk b0 b5 b6 b7 b8 (fun q h9 => by rw [e2, fw_un (by omega)])
        refine lv_aload_n (pc := 35) hx hb dMo_unload_35 rfl (lv_at hl 0 rfl) ?_
        refine lv_aload_n (pc := 36) hx hb dMo_unload_36 rfl (lv_at hl 0 rfl) ?_
        refine fw_get (pc := 37) (ci := 10) (v := .ref (b + 7)) (C := RMo) (T := TMo) (N := 20) hx hb hW in_Mo hown hK.1 hw b0 rfl 14 (by decide) (hW _ lf_Mo_29) (fun _ h => h) rfl dMo_unload_37 ?_
        refine lv_aload_n (pc := 40) hx hb dMo_unload_40 rfl (lv_at hl 0 rfl) ?_
        refine fw_get (pc := 41) (ci := 10) (v := .int (nI d)) (C := RMo) (T := TMo) (N := 20) hx hb hW in_Mo hown hK.1 hw b0 rfl 10 (by decide) (hW _ lf_Mo_49) (fun _ h => h) rfl dMo_unload_41 ?_
        refine fw_ialdN (pc := 44) (x := nI (tt (d))) hx hb hK.1 hw 0 b7 rfl (d) (show d < 120 by omega) (by decide) rfl dMo_unload_44 ?_
        refine lv_iconst (pc := 45) (v := (nI 0)) hx hb dMo_unload_45 (by decide) ?_
        refine fw_cV (pc := 46) (As := [.int (nI (tt (d))), .int (nI 0)]) (rest := []) ⟨hx, hb, hml, hown, hW⟩ (c_Mo_emit (k9 := tt d) (u9 := 0) hT (by omega)) (cwV 2 hW (kw_V lm_Mo_56 im_Mo_emit se_Mo_emit ini_Mo cd_Mo_emit) rfl rfl rfl (by decide +kernel) ⟨Nat.le_of_ble_eq_true rfl, Nat.le_of_ble_eq_true rfl⟩) hK hw b0 rfl rfl hl.1 rfl (Nat.le_of_ble_eq_true rfl) dMo_unload_46 ⟨Nat.le_of_ble_eq_true rfl, Nat.le_of_ble_eq_true rfl⟩ (fun v w3 H locs hq hw => ?_)
        obtain ⟨rfl, hT, co9⟩ := hq
        refine W.eq (g2 := F0 m 49 ls []) rfl ?_
        refine lv_goto (pc := 49) (tgt := 0) hx hb dMo_unload_49 (by decide) ?_
        rw [rl_yes hb9]
        exact ih (n + 1) _ _ (by omega) (fun i hi => ht i (by omega)) _ H locs ls hw hl hT (fun q hq => by rw [co9 q (by omega), e2, fw_un (by omega), ho q hq])
  exact loop d n oo vv hnd ht w H [] ls hw hl hT (fun q _ => rfl)

set_option maxHeartbeats 4000000 in
set_option maxRecDepth 100000 in
theorem c_Mo_opening {b : Nat} {I : Nat → Nat} {K : Nat → Nat → Nat} {S : Nat → Int32} {C oo vv tt cc9 : Nat → Nat} {n d x cl op : Nat} (hT : moT cI cL w b I K S C (oo, vv, n, tt, cc9, d, x, cl, op)) (hnd : n + d ≤ 120) (ht : ∀ i, i < d → 1 < tt i ∧ tt i < 15) : fw_R l yMo_opening (Cond.code yMo_opening cMo_opening 2 (some FieldType.int) :: kWs) ({ frames := 1, cells := 0, slots := 0, locals := 20 } : Room) D kCl (kty cI cL cQ) z [.ref b] (sz) w (fun v => v = some (.int (nI (opn tt d) - nI 1))) := by
  refine fw_ofR (cc := cMo_opening) (maxL := 2) (ret := (some FieldType.int)) (by decide) rfl (Nat.le_of_ble_eq_true rfl) ?_
  intro p e s m args below meth c hx hb hr hts hown hlocks hml hK H ls hH hw hl
  have hW : ∀ w ∈ kWs, w.before args s = true := fun w h => hts w (List.mem_cons_of_mem _ h)
  have hown : s.vm.findClass RMo = some m.cls := hown
  have hl : lv_has ls 2 [(0, .ref b)] := hl
  have b0 : w (b) = some (.inr (10, [.int (nI (I 0)), .ref (b + 1), .ref (b + 2), .int (nI (I 3)), .ref (b + 3), .ref (b + 4), .int (nI (I 6)), .int (nI (n)), .ref (b + 5), .ref (b + 6), .int (nI (d)), .int (nI (op)), .int (nI (x)), .int (nI (cl)), .ref (b + 7), .ref (b + 8), .int (nI (I 16)), .int (nI (I 17)), .int (nI (I 18)), .int (nI (I 19))])) := hT.1
  have b5 : w (b + 5) = some (.inl (cI, 120, .inl (fun i => nI (oo i)))) := hT.2.2.2 2 (by decide)
  have b6 : w (b + 6) = some (.inl (cI, 120, .inl (fun i => nI (vv i)))) := hT.2.2.2 3 (by decide)
  have b7 : w (b + 7) = some (.inl (cI, 120, .inl (fun i => nI (tt i)))) := hT.2.2.2 4 (by decide)
  have b8 : w (b + 8) = some (.inl (cI, 120, .inl (fun i => nI (cc9 i)))) := hT.2.2.2 5 (by decide)
  have b3 : w (b + 3) = some (.inl (cI, 120, .inl (fun i => nI (K 0 i)))) := hT.2.2.2 0 (by decide)
  have b4 : w (b + 4) = some (.inl (cI, 120, .inl (fun i => nI (K 1 i)))) := hT.2.2.2 1 (by decide)
  have loop : ∀ (k : Nat), k ≤ d → opn tt k = opn tt d → ∀ (ls : Array Slot), lv_has ls 2 [(1, .int (nI k - nI 1)), (0, .ref b)] → W p l e ({ frames := 1, cells := 0, slots := 0, locals := 20 } : Room) s m args below meth c H [] 0 0 (MQ below (fw_RQ (fun v => v = some (.int (nI (opn tt d) - nI 1)))) args s 0 0 (fun _ => False)) (F0 m 7 ls []) := by
    intro k
    induction k with
    | zero =>
      intro hk hop ls hl
      refine lv_iload_n (pc := 7) hx hb dMo_opening_7 rfl (lv_at hl 0 rfl) ?_
      refine lv_if_lt (pc := 8) (tgt := 29) hx hb dMo_opening_8 (by decide) (fun _ => ?_) (fun hc => absurd (show nI 0 - nI 1 < 0 by decide) hc)
      refine lv_iload_n (pc := 29) hx hb dMo_opening_29 rfl (lv_at hl 0 rfl) ?_
      exact fw_iretR (pc := 30) hx hb hr hlocks hH dMo_opening_30 (by rw [← hop]; rfl)
    | succ k ih =>
      intro hk hop ls hl
      rw [show nI (k + 1) - nI 1 = nI k from nI_pred k] at hl
      obtain ⟨ht8, ht9⟩ := ht k (by omega)
      refine lv_iload_n (pc := 7) hx hb dMo_opening_7 rfl (lv_at hl 0 rfl) ?_
      refine lv_if_lt (pc := 8) (tgt := 29) hx hb dMo_opening_8 (by decide) (fun hc => absurd hc (nI_pos (by omega))) (fun _ => ?_)
      refine lv_aload_n (pc := 11) hx hb dMo_opening_11 rfl (lv_at hl 1 rfl) ?_
      refine fw_get (pc := 12) (ci := 10) (v := .ref (b + 7)) (C := RMo) (T := TMo) (N := 20) hx hb hW in_Mo hown hK.1 hw b0 rfl 14 (by decide) (hW _ lf_Mo_29) (fun _ h => h) rfl dMo_opening_12 ?_
      refine lv_iload_n (pc := 15) hx hb dMo_opening_15 rfl (lv_at hl 0 rfl) ?_
      refine fw_ialdN (pc := 16) (x := nI (tt (k))) hx hb hK.1 hw 0 b7 rfl (k) (show k < 120 by omega) (by decide) rfl dMo_opening_16 ?_
      refine fw_cSR (pc := 17) (As := [.int (nI (tt (k)))]) (rest := []) ⟨hx, hb, hml, hown, hW⟩ (c_Mo_bond ht9 ht8) (va_cwS 1 hW (kw_S lm_Mo_52 sta_Mo_bond ini_Mo cd_Mo_bond) rfl rfl rfl (by decide +kernel) ⟨Nat.le_of_ble_eq_true rfl, Nat.le_of_ble_eq_true rfl⟩) hK hw rfl hl.1 rfl (Nat.le_of_ble_eq_true rfl) dMo_opening_17 ⟨Nat.le_of_ble_eq_true rfl, Nat.le_of_ble_eq_true rfl⟩ (fun v hq => ?_)
      subst hq
      refine W.eq (g2 := F0 m 20 ls [.int (nI (kBi (tt k)))]) rfl ?_
      rcases Nat.eq_zero_or_pos (kBi (tt k)) with hz | hz
      · rw [show (nI (kBi (tt k)) : Int32) = nI 0 from (by rw [hz])]
        refine lv_if_le (pc := 20) (tgt := 29) hx hb dMo_opening_20 (by decide) (fun _ => ?_) (fun hc => absurd (show nI 0 ≤ 0 by decide) hc)
        refine lv_iload_n (pc := 29) hx hb dMo_opening_29 rfl (lv_at hl 0 rfl) ?_
        exact fw_iretR (pc := 30) hx hb hr hlocks hH dMo_opening_30 (by rw [← hop, opn_no (by omega)]; exact congrArg (fun q => some (Value.int q)) (nI_pred k).symm)
      · refine lv_if_le (pc := 20) (tgt := 29) hx hb dMo_opening_20 (by decide) (fun hc => absurd hc (nI_nle hz (kBi_lt _))) (fun _ => ?_)
        refine lv_iinc (pc := 23) (lv' := [(1, .int (nI k - nI 1)), (0, .ref b)]) hx hb dMo_opening_23 hl (k := 0) rfl ((by rw [Int32.sub_eq_add_neg]; rfl)) (by decide) rfl (fun ls hl => ?_)
        refine lv_goto (pc := 26) (tgt := 7) hx hb dMo_opening_26 (by decide) ?_
        exact ih (by omega) (by rw [← hop, opn_yes hz]) ls (lv_sub hl [0, 1] rfl)
  refine lv_aload_n (pc := 0) hx hb dMo_opening_0 rfl (lv_at hl 0 rfl) ?_
  refine fw_get (pc := 1) (ci := 10) (v := .int (nI (d))) (C := RMo) (T := TMo) (N := 20) hx hb hW in_Mo hown hK.1 hw b0 rfl 10 (by decide) (hW _ lf_Mo_49) (fun _ h => h) rfl dMo_opening_1 ?_
  refine lv_iconst (pc := 4) (v := (nI 1)) hx hb dMo_opening_4 (by decide) ?_
  refine lv_isub (pc := 5) hx hb dMo_opening_5 ?_
  refine lv_istore_n (pc := 6) (lv' := [(1, .int ((nI (d) - (nI 1)))), (0, .ref b)]) hx hb dMo_opening_6 rfl hl (by decide) rfl (fun ls hl => ?_)
  exact loop d (Nat.le_refl _) rfl ls (lv_sub hl [0, 1] rfl)
end MO15
