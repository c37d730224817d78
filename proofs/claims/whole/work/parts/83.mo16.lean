def uCl : US → Bool × US
  | (o, v, n, t, c, d, x, cl, op) => match rl 1 t d o v n with
    | (o1, v1, n1, d1) => if d1 = 0 ∨ 0 < c (d1 - 1) then (false, (o, v, n, t, c, d, x, cl, op)) else if t (d1 - 1) = 8 then (true, (o1, v1, n1, t, c, d1 - 1, x, cl, op - 1)) else (true, (va_up o1 n1 (t (d1 - 1)), va_up v1 n1 0, n1 + 1, t, c, d1 - 1, x, cl, op - 1))
def uPa : US → Bool × US
  | (o, v, n, t, c, d, x, cl, op) => match rl 1 t d o v n with
    | (o1, v1, n1, d1) => if d1 = 0 ∨ c (d1 - 1) = 0 then (false, (o, v, n, t, c, d, x, cl, op)) else (true, (o1, v1, n1, t, va_up c (d1 - 1) (c (d1 - 1) - 1), d1, 0, cl, op))
def uBe (k u : Nat) : US → Bool × US
  | (o, v, n, t, c, d, x, cl, op) => if k < 2 then (true, (va_up o n k, va_up v n u, n + 1, t, c, d, 1, cl, op)) else if k = 3 then (true, (o, v, n, va_up t d 14, va_up c d 0, d + 1, x, cl, op)) else if k = 8 then (true, (o, v, n, va_up t d 8, va_up c d 0, d + 1, x, cl, op + 1)) else (decide (10 < k), (o, v, n, t, c, d, 2, k, op))
def uRp (bd k : Nat) : US → Bool × US
  | (o, v, n, t, c, d, _, cl, op) => match rl bd t d o v n with
    | (o1, v1, n1, d1) => (true, (o1, v1, n1, va_up t d1 k, va_up c d1 0, d1 + 1, 0, cl, op))
def uFo (k : Nat) (s : US) : Bool × US := if k = 9 then uCl s else if k = 10 then uPa s else if k < 2 ∨ 7 < k then (false, s) else uRp (if k = 7 then 5 else kBi k) k s
def uSt (k u : Nat) : US → Bool × US
  | (o, v, n, t, c, d, x, cl, op) => match x with
    | 0 => uBe k u (o, v, n, t, c, d, 0, cl, op)
    | 1 => uFo k (o, v, n, t, c, d, 1, cl, op)
    | y + 2 => if k = 8 then (true, (o, v, n, va_up t d cl, va_up c d (kCm cl), d + 1, 0, cl, op + 1)) else (false, (o, v, n, t, c, d, y + 2, cl, op))
theorem uCl_eq {o v t c o1 v1 : Nat → Nat} {n d x cl op n1 d1 : Nat} (hr : rl 1 t d o v n = (o1, v1, n1, d1)) : uCl (o, v, n, t, c, d, x, cl, op) = if d1 = 0 ∨ 0 < c (d1 - 1) then (false, (o, v, n, t, c, d, x, cl, op)) else if t (d1 - 1) = 8 then (true, (o1, v1, n1, t, c, d1 - 1, x, cl, op - 1)) else (true, (va_up o1 n1 (t (d1 - 1)), va_up v1 n1 0, n1 + 1, t, c, d1 - 1, x, cl, op - 1)) := by
  simp only [uCl, hr]
theorem uPa_eq {o v t c o1 v1 : Nat → Nat} {n d x cl op n1 d1 : Nat} (hr : rl 1 t d o v n = (o1, v1, n1, d1)) : uPa (o, v, n, t, c, d, x, cl, op) = if d1 = 0 ∨ c (d1 - 1) = 0 then (false, (o, v, n, t, c, d, x, cl, op)) else (true, (o1, v1, n1, t, va_up c (d1 - 1) (c (d1 - 1) - 1), d1, 0, cl, op)) := by
  simp only [uPa, hr]
theorem uRp_eq {o v t c o1 v1 : Nat → Nat} {bd k n d x cl op n1 d1 : Nat} (hr : rl bd t d o v n = (o1, v1, n1, d1)) : uRp bd k (o, v, n, t, c, d, x, cl, op) = (true, (o1, v1, n1, va_up t d1 k, va_up c d1 0, d1 + 1, 0, cl, op)) := by
  simp only [uRp, hr]
/-- how many brackets wait -/
def cnt (t : Nat → Nat) : Nat → Nat
  | 0 => 0
  | d + 1 => cnt t d + if 1 ≤ kBi (t d) then 0 else 1
theorem cnt_pos {t : Nat → Nat} {d : Nat} (h : 0 < opn t d) : 0 < cnt t d := by
  induction d with
  | zero => exact h
  | succ d ih =>
    show 0 < cnt t d + if 1 ≤ kBi (t d) then 0 else 1
    by_cases h1 : 1 ≤ kBi (t d)
    · rw [opn_yes h1] at h; have := ih h; omega
    · rw [if_neg h1]; omega
def uOk (i : Nat) : US → Prop
  | (_, _, n, t, c, d, x, cl, op) => n + d ≤ i ∧ (∀ j, j < d → 1 < t j ∧ t j < 15 ∧ c j < 3) ∧ x < 3 ∧ (x = 2 → 10 < cl ∧ cl < 14) ∧ op = cnt t d
/-! The reference's translator, second part. Written by wip/gen/model16.py. -/
section MO16
variable {l : Launch} {D : va_G} {cI cL cQ : ClassId} {z : kZ_T} {sz : Nat} {w : fw_W}
set_option maxHeartbeats 4000000 in
set_option maxRecDepth 100000 in
theorem c_Mo_closes {b : Nat} {I : Nat → Nat} {K : Nat → Nat → Nat} {S : Nat → Int32} {C oo vv tt cc9 : Nat → Nat} {n d x cl op : Nat} (hT : moT cI cL w b I K S C (oo, vv, n, tt, cc9, d, x, cl, op)) (hnd : n + d ≤ 120) (ht : ∀ i, i < d → 1 < tt i ∧ tt i < 15) {o1 v1 : Nat → Nat} {n1 d1 : Nat} (hr1 : rl 1 tt d oo vv n = (o1, v1, n1, d1)) (hcb : ∀ i, i < d → cc9 i < 3) (hop : d1 = 0 ∨ 0 < op) : fw_C l yMo_closes (Cond.code yMo_closes cMo_closes 2 (some FieldType.boolean) :: kWs) ({ frames := 2, cells := 0, slots := 0, locals := 43 } : Room) D kCl (kty cI cL cQ) z [.ref b] (sz) w 0 0 (fun v w' => v = some (.int (nI (if (uCl (oo, vv, n, tt, cc9, d, x, cl, op)).1 = true then 1 else 0))) ∧ moT cI cL w' b I K S C (uCl (oo, vv, n, tt, cc9, d, x, cl, op)).2 ∧ ∀ q, q < b ∨ b + 9 ≤ q → w' q = w q) := by
  refine fw_ofW (cc := cMo_closes) (maxL := 2) (ret := (some FieldType.boolean)) (by decide) rfl (Nat.le_of_ble_eq_true rfl) ?_
  intro p e s m args below meth c hx hb hr hts hown hlocks hname hml hK H ls hw hl
  have hW : ∀ w ∈ kWs, w.before args s = true := fun w h => hts w (List.mem_cons_of_mem _ h)
  have hown : s.vm.findClass RMo = some m.cls := hown
  have hl : lv_has ls 2 [(0, .ref b)] := hl
  have b0 : w (b) = some (.inr (10, [.int (nI (I 0)), .ref (b + 1), .ref (b + 2), .int (nI (I 3)), .ref (b + 3), .ref (b + 4), .int (nI (I 6)), .int (nI (n)), .ref (b + 5), .ref (b + 6), .int (nI (d)), .int (nI (op)), .int (nI (x)), .int (nI (cl)), .ref (b + 7), .ref (b + 8), .int (nI (I 16)), .int (nI (I 17)), .int (nI (I 18)), .int (nI (I 19))])) := hT.1
  have b5 : w (b + 5) = some (.inl (cI, 120, .inl (fun i => nI (oo i)))) := hT.2.2.2 2 (by decide)
  have b6 : w (b + 6) = some (.inl (cI, 120, .inl (fun i => nI (vv i)))) := hT.2.2.2 3 (by decide)
  have b7 : w (b + 7) = some (.inl (cI, 120, .inl (fun i => nI (tt i)))) := hT.2.2.2 4 (by decide)
  have b8 : w (b + 8) = some (.inl (cI, 120, .inl (fun i => nI (cc9 i)))) := hT.2.2.2 5 (by decide)
  have b3 : w (b + 3) = some (.inl (cI, 120, .inl (fun i => nI (K 0 i)))) := hT.2.2.2 0 (by decide)
  have b4 : w (b + 4) = some (.inl (cI, 120, .inl (fun i => nI (K 1 i)))) := hT.2.2.2 1 (by decide)
  have hdo : opn tt d = d1 := by rw [← opn_rl d oo vv n, hr1]
  have hd1 := opn_le tt d
  rw [hdo] at hd1
  have hsm := (rl_sum hr1).1
  refine lv_aload_n (pc := 0) hx hb dMo_closes_0 rfl (lv_at hl 0 rfl) ?_
  refine fw_cVR (pc := 1) (As := []) (rest := []) ⟨hx, hb, hml, hown, hW⟩ (c_Mo_opening hT hnd ht) (cwV 0 hW (kw_V lm_Mo_72 im_Mo_opening se_Mo_opening ini_Mo cd_Mo_opening) rfl rfl rfl (by decide +kernel) ⟨Nat.le_of_ble_eq_true rfl, Nat.le_of_ble_eq_true rfl⟩) hK hw b0 rfl rfl hl.1 rfl (Nat.le_of_ble_eq_true rfl) dMo_closes_1 ⟨Nat.le_of_ble_eq_true rfl, Nat.le_of_ble_eq_true rfl⟩ (fun v hq => ?_)
  rw [hdo] at hq
  subst hq
  refine W.eq (g2 := F0 m 4 ls [.int (nI d1 - nI 1)]) rfl ?_
  rcases Nat.eq_zero_or_pos d1 with hz | hz
  · subst hz
    refine lv_istore_n (pc := 4) (lv' := [(1, .int (nI 0 - nI 1)), (0, .ref b)]) hx hb dMo_closes_4 rfl hl (by decide) rfl (fun ls hl => ?_)
    refine lv_iload_n (pc := 5) hx hb dMo_closes_5 rfl (lv_at hl 0 rfl) ?_
    refine lv_if_lt (pc := 6) (tgt := 18) hx hb dMo_closes_6 (by decide) (fun _ => ?_) (fun hc => absurd (show nI 0 - nI 1 < 0 by decide) hc)
    have hf : uCl (oo, vv, n, tt, cc9, d, x, cl, op) = (false, (oo, vv, n, tt, cc9, d, x, cl, op)) := (uCl_eq hr1).trans (if_pos (Or.inl rfl))
    refine lv_iconst (pc := 18) (v := (nI 0)) hx hb dMo_closes_18 (by decide) ?_
    exact fw_zret (pc := 19) hx hb hr hlocks hw dMo_closes_19 (by rfl) ⟨by rw [hf]; rfl, by rw [hf]; exact hT, fun q _ => rfl⟩
  · obtain ⟨e1, rfl⟩ : ∃ e1, d1 = e1 + 1 := ⟨d1 - 1, by omega⟩
    rw [show (nI (e1 + 1) - nI 1 : Int32) = nI e1 from (nI_pred e1)]
    refine lv_istore_n (pc := 4) (lv' := [(1, .int (nI e1)), (0, .ref b)]) hx hb dMo_closes_4 rfl hl (by decide) rfl (fun ls hl => ?_)
    refine lv_iload_n (pc := 5) hx hb dMo_closes_5 rfl (lv_at hl 0 rfl) ?_
    refine lv_if_lt (pc := 6) (tgt := 18) hx hb dMo_closes_6 (by decide) (fun hc => absurd hc (nI_pos (by omega))) (fun _ => ?_)
    refine lv_aload_n (pc := 9) hx hb dMo_closes_9 rfl (lv_at hl 1 rfl) ?_
    refine fw_get (pc := 10) (ci := 10) (v := .ref (b + 8)) (C := RMo) (T := TMo) (N := 20) hx hb hW in_Mo hown hK.1 hw b0 rfl 15 (by decide) (hW _ lf_Mo_32) (fun _ h => h) rfl dMo_closes_10 ?_
    refine lv_iload_n (pc := 13) hx hb dMo_closes_13 rfl (lv_at hl 0 rfl) ?_
    refine fw_ialdN (pc := 14) (x := nI (cc9 (e1))) hx hb hK.1 hw 0 b8 rfl (e1) (show e1 < 120 by omega) (by decide) rfl dMo_closes_14 ?_
    have hc3 := hcb e1 (by omega)
    rcases Nat.eq_zero_or_pos (cc9 e1) with hy | hy
    · rw [show (nI (cc9 (e1)) : Int32) = nI 0 from (by rw [hy])]
      refine lv_if_le (pc := 15) (tgt := 20) hx hb dMo_closes_15 (by decide) (fun _ => ?_) (fun hc => absurd (show nI 0 ≤ 0 by decide) hc)
      have hng : ¬ (e1 + 1 = 0 ∨ 0 < cc9 e1) := fun h9 => Or.elim h9 (fun h8 => absurd h8 (by omega)) (fun h8 => absurd h8 (by omega))
      refine lv_aload_n (pc := 20) hx hb dMo_closes_20 rfl (lv_at hl 1 rfl) ?_
      refine lv_iconst (pc := 21) (v := (nI 1)) hx hb dMo_closes_21 (by decide) ?_
      refine fw_cV (pc := 22) (As := [.int (nI 1)]) (rest := []) ⟨hx, hb, hml, hown, hW⟩ (c_Mo_unload (bd := 1) hT (by decide) hnd ht) (cwV 1 hW (kw_V lm_Mo_76 im_Mo_unload se_Mo_unload ini_Mo cd_Mo_unload) rfl rfl rfl (by decide +kernel) ⟨Nat.le_of_ble_eq_true rfl, Nat.le_of_ble_eq_true rfl⟩) hK hw b0 rfl rfl hl.1 rfl (Nat.le_of_ble_eq_true rfl) dMo_closes_22 ⟨Nat.le_of_ble_eq_true rfl, Nat.le_of_ble_eq_true rfl⟩ (fun v w1 H locs hq hw => ?_)
      obtain ⟨rfl, hT, hn9⟩ := hq
      rw [hr1] at hT
      have hT : moT cI cL w1 b I K S C (o1, v1, n1, tt, cc9, e1 + 1, x, cl, op) := hT
      have b0 : w1 (b) = some (.inr (10, [.int (nI (I 0)), .ref (b + 1), .ref (b + 2), .int (nI (I 3)), .ref (b + 3), .ref (b + 4), .int (nI (I 6)), .int (nI (n1)), .ref (b + 5), .ref (b + 6), .int (nI (e1 + 1)), .int (nI (op)), .int (nI (x)), .int (nI (cl)), .ref (b + 7), .ref (b + 8), .int (nI (I 16)), .int (nI (I 17)), .int (nI (I 18)), .int (nI (I 19))])) := hT.1
      have b5 : w1 (b + 5) = some (.inl (cI, 120, .inl (fun i => nI (o1 i)))) := hT.2.2.2 2 (by decide)
      have b6 : w1 (b + 6) = some (.inl (cI, 120, .inl (fun i => nI (v1 i)))) := hT.2.2.2 3 (by decide)
      have b7 : w1 (b + 7) = some (.inl (cI, 120, .inl (fun i => nI (tt i)))) := hT.2.2.2 4 (by decide)
      have b8 : w1 (b + 8) = some (.inl (cI, 120, .inl (fun i => nI (cc9 i)))) := hT.2.2.2 5 (by decide)
      have b3 : w1 (b + 3) = some (.inl (cI, 120, .inl (fun i => nI (K 0 i)))) := hT.2.2.2 0 (by decide)
      have b4 : w1 (b + 4) = some (.inl (cI, 120, .inl (fun i => nI (K 1 i)))) := hT.2.2.2 1 (by decide)
      refine W.eq (g2 := F0 m 25 ls []) rfl ?_
      refine lv_aload_n (pc := 25) hx hb dMo_closes_25 rfl (lv_at hl 1 rfl) ?_
      refine lv_dup (pc := 26) hx hb dMo_closes_26 rfl ?_
      refine fw_get (pc := 27) (ci := 10) (v := .int (nI (e1 + 1))) (C := RMo) (T := TMo) (N := 20) hx hb hW in_Mo hown hK.1 hw b0 rfl 10 (by decide) (hW _ lf_Mo_49) (fun _ h => h) rfl dMo_closes_27 ?_
      refine lv_iconst (pc := 30) (v := (nI 1)) hx hb dMo_closes_30 (by decide) ?_
      refine lv_isub (pc := 31) hx hb dMo_closes_31 ?_
      rw [show ((nI (e1 + 1) - (nI 1)) : Int32) = nI e1 from (nI_pred e1)]
      refine fw_put (pc := 32) (ci := 10) (v := .int (nI e1)) (ty := .int) (C := RMo) (T := TMo) (N := 20) hx hb hW in_Mo tyMo tyMo_ok nmMo hown hK.1 hw b0 rfl 10 (by decide) (hW _ lf_Mo_49) (fun _ h => h) rfl (by decide +kernel) rfl rfl (Nat.le_of_ble_eq_true rfl) dMo_closes_32 (fun H locs hw => ?_)
      obtain ⟨w2, e2⟩ : ∃ w_, w_ = fw_up w1 (b) (.inr (10, [.int (nI (I 0)), .ref (b + 1), .ref (b + 2), .int (nI (I 3)), .ref (b + 3), .ref (b + 4), .int (nI (I 6)), .int (nI (n1)), .ref (b + 5), .ref (b + 6), .int (nI e1), .int (nI (op)), .int (nI (x)), .int (nI (cl)), .ref (b + 7), .ref (b + 8), .int (nI (I 16)), .int (nI (I 17)), .int (nI (I 18)), .int (nI (I 19))])) := ⟨_, rfl⟩
      have hw : fw_H D kCl (fw_A w (sz)) s.heap w2 (sz) H locs := by rw [e2]; exact hw
      have b5_ : w2 (b + 5) = some (.inl (cI, 120, .inl (fun i => nI (o1 i)))) := by rw [e2, fw_un (by omega)]; exact b5
      have b6_ : w2 (b + 6) = some (.inl (cI, 120, .inl (fun i => nI (v1 i)))) := by rw [e2, fw_un (by omega)]; exact b6
      have b7_ : w2 (b + 7) = some (.inl (cI, 120, .inl (fun i => nI (tt i)))) := by rw [e2, fw_un (by omega)]; exact b7
      have b8_ : w2 (b + 8) = some (.inl (cI, 120, .inl (fun i => nI (cc9 i)))) := by rw [e2, fw_un (by omega)]; exact b8
      have b3_ : w2 (b + 3) = some (.inl (cI, 120, .inl (fun i => nI (K 0 i)))) := by rw [e2, fw_un (by omega)]; exact b3
      have b4_ : w2 (b + 4) = some (.inl (cI, 120, .inl (fun i => nI (K 1 i)))) := by rw [e2, fw_un (by omega)]; exact b4
      have b0_ : w2 (b) = some (.inr (10, [.int (nI (I 0)), .ref (b + 1), .ref (b + 2), .int (nI (I 3)), .ref (b + 3), .ref (b + 4), .int (nI (I 6)), .int (nI (n1)), .ref (b + 5), .ref (b + 6), .int (nI e1), .int (nI (op)), .int (nI (x)), .int (nI (cl)), .ref (b + 7), .ref (b + 8), .int (nI (I 16)), .int (nI (I 17)), .int (nI (I 18)), .int (nI (I 19))])) := by rw [e2]; exact fw_us _ _ _
      have b0 := b0_
      have b5 := b5_
      have b6 := b6_
      have b7 := b7_
      have b8 := b8_
      have b3 := b3_
      have b4 := b4_
      refine lv_aload_n (pc := 35) hx hb dMo_closes_35 rfl (lv_at hl 1 rfl) ?_
      refine lv_dup (pc := 36) hx hb dMo_closes_36 rfl ?_
      refine fw_get (pc := 37) (ci := 10) (v := .int (nI (op))) (C := RMo) (T := TMo) (N := 20) hx hb hW in_Mo hown hK.1 hw b0 rfl 11 (by decide) (hW _ lf_Mo_66) (fun _ h => h) rfl dMo_closes_37 ?_
      refine lv_iconst (pc := 40) (v := (nI 1)) hx hb dMo_closes_40 (by decide) ?_
      refine lv_isub (pc := 41) hx hb dMo_closes_41 ?_
      rw [show ((nI (op) - (nI 1)) : Int32) = nI (op - 1) from (nI_subL (by omega))]
      refine fw_put (pc := 42) (ci := 10) (v := .int (nI (op - 1))) (ty := .int) (C := RMo) (T := TMo) (N := 20) hx hb hW in_Mo tyMo tyMo_ok nmMo hown hK.1 hw b0 rfl 11 (by decide) (hW _ lf_Mo_66) (fun _ h => h) rfl (by decide +kernel) rfl rfl (Nat.le_of_ble_eq_true rfl) dMo_closes_42 (fun H locs hw => ?_)
      obtain ⟨w3, e3⟩ : ∃ w_, w_ = fw_up w2 (b) (.inr (10, [.int (nI (I 0)), .ref (b + 1), .ref (b + 2), .int (nI (I 3)), .ref (b + 3), .ref (b + 4), .int (nI (I 6)), .int (nI (n1)), .ref (b + 5), .ref (b + 6), .int (nI e1), .int (nI (op - 1)), .int (nI (x)), .int (nI (cl)), .ref (b + 7), .ref (b + 8), .int (nI (I 16)), .int (nI (I 17)), .int (nI (I 18)), .int (nI (I 19))])) := ⟨_, rfl⟩
      have hw : fw_H D kCl (fw_A w (sz)) s.heap w3 (sz) H locs := by rw [e3]; exact hw
      have b5_ : w3 (b + 5) = some (.inl (cI, 120, .inl (fun i => nI (o1 i)))) := by rw [e3, fw_un (by omega)]; exact b5
      have b6_ : w3 (b + 6) = some (.inl (cI, 120, .inl (fun i => nI (v1 i)))) := by rw [e3, fw_un (by omega)]; exact b6
      have b7_ : w3 (b + 7) = some (.inl (cI, 120, .inl (fun i => nI (tt i)))) := by rw [e3, fw_un (by omega)]; exact b7
      have b8_ : w3 (b + 8) = some (.inl (cI, 120, .inl (fun i => nI (cc9 i)))) := by rw [e3, fw_un (by omega)]; exact b8
      have b3_ : w3 (b + 3) = some (.inl (cI, 120, .inl (fun i => nI (K 0 i)))) := by rw [e3, fw_un (by omega)]; exact b3
      have b4_ : w3 (b + 4) = some (.inl (cI, 120, .inl (fun i => nI (K 1 i)))) := by rw [e3, fw_un (by omega)]; exact b4
      have b0_ : w3 (b) = some (.inr (10, [.int (nI (I 0)), .ref (b + 1), .ref (b + 2), .int (nI (I 3)), .ref (b + 3), .ref (b + 4), .int (nI (I 6)), .int (nI (n1)), .ref (b + 5), .ref (b + 6), .int (nI e1), .int (nI (op - 1)), .int (nI (x)), .int (nI (cl)), .ref (b + 7), .ref (b + 8), .int (nI (I 16)), .int (nI (I 17)), .int (nI (I 18)), .int (nI (I 19))])) := by rw [e3]; exact fw_us _ _ _
      have b0 := b0_
      have b5 := b5_
      have b6 := b6_
      have b7 := b7_
      have b8 := b8_
      have b3 := b3_
      have b4 := b4_
      have hT : moT cI cL w3 b I K S C (o1, v1, n1, tt, cc9, e1, x, cl, op - 1) := hT.mk b0 b5 b6 b7 b8 (fun q h9 => by rw [e3, fw_un (by omega), e2, fw_un (by omega)])
      obtain ⟨ht8, ht9⟩ := ht e1 (by omega)
      refine lv_aload_n (pc := 45) hx hb dMo_closes_45 rfl (lv_at hl 1 rfl) ?_
      refine fw_get (pc := 46) (ci := 10) (v := .ref (b + 7)) (C := RMo) (T := TMo) (N := 20) hx hb hW in_Mo hown hK.1 hw b0 rfl 14 (by decide) (hW _ lf_Mo_29) (fun _ h => h) rfl dMo_closes_46 ?_
      refine lv_aload_n (pc := 49) hx hb dMo_closes_49 rfl (lv_at hl 1 rfl) ?_
      refine fw_get (pc := 50) (ci := 10) (v := .int (nI e1)) (C := RMo) (T := TMo) (N := 20) hx hb hW in_Mo hown hK.1 hw b0 rfl 10 (by decide) (hW _ lf_Mo_49) (fun _ h => h) rfl dMo_closes_50 ?_
      refine fw_ialdN (pc := 53) (x := nI (tt (e1))) hx hb hK.1 hw 0 b7 rfl (e1) (show e1 < 120 by omega) (by decide) rfl dMo_closes_53 ?_
      refine lv_bipush (pc := 54) (v := (nI 8)) hx hb dMo_closes_54 (by decide) ?_
      refine lv_icmp_eq (pc := 56) (tgt := 73) hx hb dMo_closes_56 (by decide) (fun h8 => ?_) (fun h8 => ?_)
      · have h88 : tt e1 = 8 := (nI_eq (by omega) (by decide)).mp h8
        have hf : uCl (oo, vv, n, tt, cc9, d, x, cl, op) = (true, (o1, v1, n1, tt, cc9, e1, x, cl, op - 1)) := (uCl_eq hr1).trans ((if_neg hng).trans (if_pos h88))
        refine lv_iconst (pc := 73) (v := (nI 1)) hx hb dMo_closes_73 (by decide) ?_
        exact fw_zret (pc := 74) hx hb hr hlocks hw dMo_closes_74 (by rfl) ⟨by rw [hf]; rfl, by rw [hf]; exact hT, fun q h9 => by rw [e3, fw_un (by omega), e2, fw_un (by omega), hn9 q h9]⟩
      · have h88 : ¬ tt e1 = 8 := fun h9 => h8 (by rw [h9])
        refine lv_aload_n (pc := 59) hx hb dMo_closes_59 rfl (lv_at hl 1 rfl) ?_
        refine lv_aload_n (pc := 60) hx hb dMo_closes_60 rfl (lv_at hl 1 rfl) ?_
        refine fw_get (pc := 61) (ci := 10) (v := .ref (b + 7)) (C := RMo) (T := TMo) (N := 20) hx hb hW in_Mo hown hK.1 hw b0 rfl 14 (by decide) (hW _ lf_Mo_29) (fun _ h => h) rfl dMo_closes_61 ?_
        refine lv_aload_n (pc := 64) hx hb dMo_closes_64 rfl (lv_at hl 1 rfl) ?_
        refine fw_get (pc := 65) (ci := 10) (v := .int (nI e1)) (C := RMo) (T := TMo) (N := 20) hx hb hW in_Mo hown hK.1 hw b0 rfl 10 (by decide) (hW _ lf_Mo_49) (fun _ h => h) rfl dMo_closes_65 ?_
        refine fw_ialdN (pc := 68) (x := nI (tt (e1))) hx hb hK.1 hw 0 b7 rfl (e1) (show e1 < 120 by omega) (by decide) rfl dMo_closes_68 ?_
        refine lv_iconst (pc := 69) (v := (nI 0)) hx hb dMo_closes_69 (by decide) ?_
        refine fw_cV (pc := 70) (As := [.int (nI (tt (e1))), .int (nI 0)]) (rest := []) ⟨hx, hb, hml, hown, hW⟩ (c_Mo_emit (k9 := tt e1) (u9 := 0) hT (by omega)) (cwV 2 hW (kw_V lm_Mo_56 im_Mo_emit se_Mo_emit ini_Mo cd_Mo_emit) rfl rfl rfl (by decide +kernel) ⟨Nat.le_of_ble_eq_true rfl, Nat.le_of_ble_eq_true rfl⟩) hK hw b0 rfl rfl hl.1 rfl (Nat.le_of_ble_eq_true rfl) dMo_closes_70 ⟨Nat.le_of_ble_eq_true rfl, Nat.le_of_ble_eq_true rfl⟩ (fun v w4 H locs hq hw => ?_)
        obtain ⟨rfl, hT, hn8⟩ := hq
        refine W.eq (g2 := F0 m 73 ls []) rfl ?_
        have hf : uCl (oo, vv, n, tt, cc9, d, x, cl, op) = (true, (va_up o1 n1 (tt e1), va_up v1 n1 0, n1 + 1, tt, cc9, e1, x, cl, op - 1)) := (uCl_eq hr1).trans ((if_neg hng).trans (if_neg h88))
        refine lv_iconst (pc := 73) (v := (nI 1)) hx hb dMo_closes_73 (by decide) ?_
        exact fw_zret (pc := 74) hx hb hr hlocks hw dMo_closes_74 (by rfl) ⟨by rw [hf]; rfl, by rw [hf]; exact hT, fun q h9 => by rw [hn8 q h9, e3, fw_un (by omega), e2, fw_un (by omega), hn9 q h9]⟩
    · refine lv_if_le (pc := 15) (tgt := 20) hx hb dMo_closes_15 (by decide) (fun hc => absurd hc (nI_nle hy (by omega))) (fun _ => ?_)
      have hf : uCl (oo, vv, n, tt, cc9, d, x, cl, op) = (false, (oo, vv, n, tt, cc9, d, x, cl, op)) := (uCl_eq hr1).trans (if_pos (Or.inr hy))
      refine lv_iconst (pc := 18) (v := (nI 0)) hx hb dMo_closes_18 (by decide) ?_
      exact fw_zret (pc := 19) hx hb hr hlocks hw dMo_closes_19 (by rfl) ⟨by rw [hf]; rfl, by rw [hf]; exact hT, fun q _ => rfl⟩

set_option maxHeartbeats 4000000 in
set_option maxRecDepth 100000 in
theorem c_Mo_parts {b : Nat} {I : Nat → Nat} {K : Nat → Nat → Nat} {S : Nat → Int32} {C oo vv tt cc9 : Nat → Nat} {n d x cl op : Nat} (hT : moT cI cL w b I K S C (oo, vv, n, tt, cc9, d, x, cl, op)) (hnd : n + d ≤ 120) (ht : ∀ i, i < d → 1 < tt i ∧ tt i < 15) {o1 v1 : Nat → Nat} {n1 d1 : Nat} (hr1 : rl 1 tt d oo vv n = (o1, v1, n1, d1)) (hcb : ∀ i, i < d → cc9 i < 3) : fw_C l yMo_parts (Cond.code yMo_parts cMo_parts 2 (some FieldType.boolean) :: kWs) ({ frames := 2, cells := 0, slots := 0, locals := 43 } : Room) D kCl (kty cI cL cQ) z [.ref b] (sz) w 0 0 (fun v w' => v = some (.int (nI (if (uPa (oo, vv, n, tt, cc9, d, x, cl, op)).1 = true then 1 else 0))) ∧ moT cI cL w' b I K S C (uPa (oo, vv, n, tt, cc9, d, x, cl, op)).2 ∧ ∀ q, q < b ∨ b + 9 ≤ q → w' q = w q) := by
  refine fw_ofW (cc := cMo_parts) (maxL := 2) (ret := (some FieldType.boolean)) (by decide) rfl (Nat.le_of_ble_eq_true rfl) ?_
  intro p e s m args below meth c hx hb hr hts hown hlocks hname hml hK H ls hw hl
  have hW : ∀ w ∈ kWs, w.before args s = true := fun w h => hts w (List.mem_cons_of_mem _ h)
  have hown : s.vm.findClass RMo = some m.cls := hown
  have hl : lv_has ls 2 [(0, .ref b)] := hl
  have b0 : w (b) = some (.inr (10, [.int (nI (I 0)), .ref (b + 1), .ref (b + 2), .int (nI (I 3)), .ref (b + 3), .ref (b + 4), .int (nI (I 6)), .int (nI (n)), .ref (b + 5), .ref (b + 6), .int (nI (d)), .int (nI (op)), .int (nI (x)), .int (nI (cl)), .ref (b + 7), .ref (b + 8), .int (nI (I 16)), .int (nI (I 17)), .int (nI (I 18)), .int (nI (I 19))])) := hT.1
  have b5 : w (b + 5) = some (.inl (cI, 120, .inl (fun i => nI (oo i)))) := hT.2.2.2 2 (by decide)
  have b6 : w (b + 6) = some (.inl (cI, 120, .inl (fun i => nI (vv i)))) := hT.2.2.2 3 (by decide)
  have b7 : w (b + 7) = some (.inl (cI, 120, .inl (fun i => nI (tt i)))) := hT.2.2.2 4 (by decide)
  have b8 : w (b + 8) = some (.inl (cI, 120, .inl (fun i => nI (cc9 i)))) := hT.2.2.2 5 (by decide)
  have b3 : w (b + 3) = some (.inl (cI, 120, .inl (fun i => nI (K 0 i)))) := hT.2.2.2 0 (by decide)
  have b4 : w (b + 4) = some (.inl (cI, 120, .inl (fun i => nI (K 1 i)))) := hT.2.2.2 1 (by decide)
  have hdo : opn tt d = d1 := by rw [← opn_rl d oo vv n, hr1]
  have hd1 := opn_le tt d
  rw [hdo] at hd1
  have hsm := (rl_sum hr1).1
  refine lv_aload_n (pc := 0) hx hb dMo_parts_0 rfl (lv_at hl 0 rfl) ?_
  refine fw_cVR (pc := 1) (As := []) (rest := []) ⟨hx, hb, hml, hown, hW⟩ (c_Mo_opening hT hnd ht) (cwV 0 hW (kw_V lm_Mo_72 im_Mo_opening se_Mo_opening ini_Mo cd_Mo_opening) rfl rfl rfl (by decide +kernel) ⟨Nat.le_of_ble_eq_true rfl, Nat.le_of_ble_eq_true rfl⟩) hK hw b0 rfl rfl hl.1 rfl (Nat.le_of_ble_eq_true rfl) dMo_parts_1 ⟨Nat.le_of_ble_eq_true rfl, Nat.le_of_ble_eq_true rfl⟩ (fun v hq => ?_)
  rw [hdo] at hq
  subst hq
  refine W.eq (g2 := F0 m 4 ls [.int (nI d1 - nI 1)]) rfl ?_
  rcases Nat.eq_zero_or_pos d1 with hz | hz
  · subst hz
    refine lv_istore_n (pc := 4) (lv' := [(1, .int (nI 0 - nI 1)), (0, .ref b)]) hx hb dMo_parts_4 rfl hl (by decide) rfl (fun ls hl => ?_)
    refine lv_iload_n (pc := 5) hx hb dMo_parts_5 rfl (lv_at hl 0 rfl) ?_
    refine lv_if_lt (pc := 6) (tgt := 18) hx hb dMo_parts_6 (by decide) (fun _ => ?_) (fun hc => absurd (show nI 0 - nI 1 < 0 by decide) hc)
    have hf : uPa (oo, vv, n, tt, cc9, d, x, cl, op) = (false, (oo, vv, n, tt, cc9, d, x, cl, op)) := (uPa_eq hr1).trans (if_pos (Or.inl rfl))
    refine lv_iconst (pc := 18) (v := (nI 0)) hx hb dMo_parts_18 (by decide) ?_
    exact fw_zret (pc := 19) hx hb hr hlocks hw dMo_parts_19 (by rfl) ⟨by rw [hf]; rfl, by rw [hf]; exact hT, fun q _ => rfl⟩
  · obtain ⟨e1, rfl⟩ : ∃ e1, d1 = e1 + 1 := ⟨d1 - 1, by omega⟩
    rw [show (nI (e1 + 1) - nI 1 : Int32) = nI e1 from (nI_pred e1)]
    refine lv_istore_n (pc := 4) (lv' := [(1, .int (nI e1)), (0, .ref b)]) hx hb dMo_parts_4 rfl hl (by decide) rfl (fun ls hl => ?_)
    refine lv_iload_n (pc := 5) hx hb dMo_parts_5 rfl (lv_at hl 0 rfl) ?_
    refine lv_if_lt (pc := 6) (tgt := 18) hx hb dMo_parts_6 (by decide) (fun hc => absurd hc (nI_pos (by omega))) (fun _ => ?_)
    refine lv_aload_n (pc := 9) hx hb dMo_parts_9 rfl (lv_at hl 1 rfl) ?_
    refine fw_get (pc := 10) (ci := 10) (v := .ref (b + 8)) (C := RMo) (T := TMo) (N := 20) hx hb hW in_Mo hown hK.1 hw b0 rfl 15 (by decide) (hW _ lf_Mo_32) (fun _ h => h) rfl dMo_parts_10 ?_
    refine lv_iload_n (pc := 13) hx hb dMo_parts_13 rfl (lv_at hl 0 rfl) ?_
    refine fw_ialdN (pc := 14) (x := nI (cc9 (e1))) hx hb hK.1 hw 0 b8 rfl (e1) (show e1 < 120 by omega) (by decide) rfl dMo_parts_14 ?_
    have hc3 := hcb e1 (by omega)
    rcases Nat.eq_zero_or_pos (cc9 e1) with hy | hy
    · rw [show (nI (cc9 (e1)) : Int32) = nI 0 from (by rw [hy])]
      refine lv_if_ne (pc := 15) (tgt := 20) hx hb dMo_parts_15 (by decide) (fun hc => absurd hc (fun h9 => h9 (by decide))) (fun _ => ?_)
      have hf : uPa (oo, vv, n, tt, cc9, d, x, cl, op) = (false, (oo, vv, n, tt, cc9, d, x, cl, op)) := (uPa_eq hr1).trans (if_pos (Or.inr hy))
      refine lv_iconst (pc := 18) (v := (nI 0)) hx hb dMo_parts_18 (by decide) ?_
      exact fw_zret (pc := 19) hx hb hr hlocks hw dMo_parts_19 (by rfl) ⟨by rw [hf]; rfl, by rw [hf]; exact hT, fun q _ => rfl⟩
    · refine lv_if_ne (pc := 15) (tgt := 20) hx hb dMo_parts_15 (by decide) (fun _ => ?_) (fun hc => absurd hc (nI_ne0 hy (by omega)))
      have hng : ¬ (e1 + 1 = 0 ∨ cc9 e1 = 0) := fun h9 => Or.elim h9 (fun h8 => absurd h8 (by omega)) (fun h8 => absurd h8 (by omega))
      refine lv_aload_n (pc := 20) hx hb dMo_parts_20 rfl (lv_at hl 1 rfl) ?_
      refine lv_iconst (pc := 21) (v := (nI 1)) hx hb dMo_parts_21 (by decide) ?_
      refine fw_cV (pc := 22) (As := [.int (nI 1)]) (rest := []) ⟨hx, hb, hml, hown, hW⟩ (c_Mo_unload (bd := 1) hT (by decide) hnd ht) (cwV 1 hW (kw_V lm_Mo_76 im_Mo_unload se_Mo_unload ini_Mo cd_Mo_unload) rfl rfl rfl (by decide +kernel) ⟨Nat.le_of_ble_eq_true rfl, Nat.le_of_ble_eq_true rfl⟩) hK hw b0 rfl rfl hl.1 rfl (Nat.le_of_ble_eq_true rfl) dMo_parts_22 ⟨Nat.le_of_ble_eq_true rfl, Nat.le_of_ble_eq_true rfl⟩ (fun v w1 H locs hq hw => ?_)
      obtain ⟨rfl, hT, hn9⟩ := hq
      rw [hr1] at hT
      have hT : moT cI cL w1 b I K S C (o1, v1, n1, tt, cc9, e1 + 1, x, cl, op) := hT
      have b0 : w1 (b) = some (.inr (10, [.int (nI (I 0)), .ref (b + 1), .ref (b + 2), .int (nI (I 3)), .ref (b + 3), .ref (b + 4), .int (nI (I 6)), .int (nI (n1)), .ref (b + 5), .ref (b + 6), .int (nI (e1 + 1)), .int (nI (op)), .int (nI (x)), .int (nI (cl)), .ref (b + 7), .ref (b + 8), .int (nI (I 16)), .int (nI (I 17)), .int (nI (I 18)), .int (nI (I 19))])) := hT.1
      have b5 : w1 (b + 5) = some (.inl (cI, 120, .inl (fun i => nI (o1 i)))) := hT.2.2.2 2 (by decide)
      have b6 : w1 (b + 6) = some (.inl (cI, 120, .inl (fun i => nI (v1 i)))) := hT.2.2.2 3 (by decide)
      have b7 : w1 (b + 7) = some (.inl (cI, 120, .inl (fun i => nI (tt i)))) := hT.2.2.2 4 (by decide)
      have b8 : w1 (b + 8) = some (.inl (cI, 120, .inl (fun i => nI (cc9 i)))) := hT.2.2.2 5 (by decide)
      have b3 : w1 (b + 3) = some (.inl (cI, 120, .inl (fun i => nI (K 0 i)))) := hT.2.2.2 0 (by decide)
      have b4 : w1 (b + 4) = some (.inl (cI, 120, .inl (fun i => nI (K 1 i)))) := hT.2.2.2 1 (by decide)
      refine W.eq (g2 := F0 m 25 ls []) rfl ?_
      refine lv_aload_n (pc := 25) hx hb dMo_parts_25 rfl (lv_at hl 1 rfl) ?_
      refine fw_get (pc := 26) (ci := 10) (v := .ref (b + 8)) (C := RMo) (T := TMo) (N := 20) hx hb hW in_Mo hown hK.1 hw b0 rfl 15 (by decide) (hW _ lf_Mo_32) (fun _ h => h) rfl dMo_parts_26 ?_
      refine lv_iload_n (pc := 29) hx hb dMo_parts_29 rfl (lv_at hl 0 rfl) ?_
      refine lv_dup2_11 (pc := 30) hx hb dMo_parts_30 rfl rfl ?_
      refine fw_ialdN (pc := 31) (x := nI (cc9 (e1))) hx hb hK.1 hw 0 b8 rfl (e1) (show e1 < 120 by omega) (by decide) rfl dMo_parts_31 ?_
      refine lv_iconst (pc := 32) (v := (nI 1)) hx hb dMo_parts_32 (by decide) ?_
      refine lv_isub (pc := 33) hx hb dMo_parts_33 ?_
      rw [show ((nI (cc9 (e1)) - (nI 1)) : Int32) = nI (cc9 e1 - 1) from (nI_subL (by omega))]
      refine fw_iastN (pc := 34) (f2 := fun i => nI (va_up cc9 e1 (cc9 e1 - 1) i)) hx hb hK.1 hw 0 b8 rfl (e1) (show e1 < 120 by omega) (by decide) (nI_up _ _ _) dMo_parts_34 (fun H locs hw => ?_)
      obtain ⟨w2, e2⟩ : ∃ w_, w_ = fw_up w1 (b + 8) (.inl (cI, 120, .inl (fun i => nI (va_up cc9 e1 (cc9 e1 - 1) i)))) := ⟨_, rfl⟩
      have hw : fw_H D kCl (fw_A w (sz)) s.heap w2 (sz) H locs := by rw [e2]; exact hw
      have b0_ : w2 (b) = some (.inr (10, [.int (nI (I 0)), .ref (b + 1), .ref (b + 2), .int (nI (I 3)), .ref (b + 3), .ref (b + 4), .int (nI (I 6)), .int (nI (n1)), .ref (b + 5), .ref (b + 6), .int (nI (e1 + 1)), .int (nI (op)), .int (nI (x)), .int (nI (cl)), .ref (b + 7), .ref (b + 8), .int (nI (I 16)), .int (nI (I 17)), .int (nI (I 18)), .int (nI (I 19))])) := by rw [e2, fw_un (by omega)]; exact b0
      have b5_ : w2 (b + 5) = some (.inl (cI, 120, .inl (fun i => nI (o1 i)))) := by rw [e2, fw_un (by omega)]; exact b5
      have b6_ : w2 (b + 6) = some (.inl (cI, 120, .inl (fun i => nI (v1 i)))) := by rw [e2, fw_un (by omega)]; exact b6
      have b7_ : w2 (b + 7) = some (.inl (cI, 120, .inl (fun i => nI (tt i)))) := by rw [e2, fw_un (by omega)]; exact b7
      have b3_ : w2 (b + 3) = some (.inl (cI, 120, .inl (fun i => nI (K 0 i)))) := by rw [e2, fw_un (by omega)]; exact b3
      have b4_ : w2 (b + 4) = some (.inl (cI, 120, .inl (fun i => nI (K 1 i)))) := by rw [e2, fw_un (by omega)]; exact b4
      have b8_ : w2 (b + 8) = some (.inl (cI, 120, .inl (fun i => nI (va_up cc9 e1 (cc9 e1 - 1) i)))) := by rw [e2]; exact fw_us _ _ _
      have b0 := b0_
      have b5 := b5_
      have b6 := b6_
      have b7 := b7_
      have b8 := b8_
      have b3 := b3_
      have b4 := b4_
      refine lv_aload_n (pc := 35) hx hb dMo_parts_35 rfl (lv_at hl 1 rfl) ?_
      refine lv_iconst (pc := 36) (v := (nI 0)) hx hb dMo_parts_36 (by decide) ?_
      refine fw_put (pc := 37) (ci := 10) (v := .int (nI 0)) (ty := .int) (C := RMo) (T := TMo) (N := 20) hx hb hW in_Mo tyMo tyMo_ok nmMo hown hK.1 hw b0 rfl 12 (by decide) (hW _ lf_Mo_60) (fun _ h => h) rfl (by decide +kernel) rfl rfl (Nat.le_of_ble_eq_true rfl) dMo_parts_37 (fun H locs hw => ?_)
      obtain ⟨w3, e3⟩ : ∃ w_, w_ = fw_up w2 (b) (.inr (10, [.int (nI (I 0)), .ref (b + 1), .ref (b + 2), .int (nI (I 3)), .ref (b + 3), .ref (b + 4), .int (nI (I 6)), .int (nI (n1)), .ref (b + 5), .ref (b + 6), .int (nI (e1 + 1)), .int (nI (op)), .int (nI 0), .int (nI (cl)), .ref (b + 7), .ref (b + 8), .int (nI (I 16)), .int (nI (I 17)), .int (nI (I 18)), .int (nI (I 19))])) := ⟨_, rfl⟩
      have hw : fw_H D kCl (fw_A w (sz)) s.heap w3 (sz) H locs := by rw [e3]; exact hw
      have b5_ : w3 (b + 5) = some (.inl (cI, 120, .inl (fun i => nI (o1 i)))) := by rw [e3, fw_un (by omega)]; exact b5
      have b6_ : w3 (b + 6) = some (.inl (cI, 120, .inl (fun i => nI (v1 i)))) := by rw [e3, fw_un (by omega)]; exact b6
      have b7_ : w3 (b + 7) = some (.inl (cI, 120, .inl (fun i => nI (tt i)))) := by rw [e3, fw_un (by omega)]; exact b7
      have b8_ : w3 (b + 8) = some (.inl (cI, 120, .inl (fun i => nI (va_up cc9 e1 (cc9 e1 - 1) i)))) := by rw [e3, fw_un (by omega)]; exact b8
      have b3_ : w3 (b + 3) = some (.inl (cI, 120, .inl (fun i => nI (K 0 i)))) := by rw [e3, fw_un (by omega)]; exact b3
      have b4_ : w3 (b + 4) = some (.inl (cI, 120, .inl (fun i => nI (K 1 i)))) := by rw [e3, fw_un (by omega)]; exact b4
      have b0_ : w3 (b) = some (.inr (10, [.int (nI (I 0)), .ref (b + 1), .ref (b + 2), .int (nI (I 3)), .ref (b + 3), .ref (b + 4), .int (nI (I 6)), .int (nI (n1)), .ref (b + 5), .ref (b + 6), .int (nI (e1 + 1)), .int (nI (op)), .int (nI 0), .int (nI (cl)), .ref (b + 7), .ref (b + 8), .int (nI (I 16)), .int (nI (I 17)), .int (nI (I 18)), .int (nI (I 19))])) := by rw [e3]; exact fw_us _ _ _
      have b0 := b0_
      have b5 := b5_
      have b6 := b6_
      have b7 := b7_
      have b8 := b8_
      have b3 := b3_
      have b4 := b4_
      have hT : moT cI cL w3 b I K S C (o1, v1, n1, tt, va_up cc9 e1 (cc9 e1 - 1), e1 + 1, 0, cl, op) := hT.mk b0 b5 b6 b7 b8 (fun q h9 => by rw [e3, fw_un (by omega), e2, fw_un (by omega)])
      have hf : uPa (oo, vv, n, tt, cc9, d, x, cl, op) = (true, (o1, v1, n1, tt, va_up cc9 e1 (cc9 e1 - 1), e1 + 1, 0, cl, op)) := (uPa_eq hr1).trans (if_neg hng)
      refine lv_iconst (pc := 40) (v := (nI 1)) hx hb dMo_parts_40 (by decide) ?_
      exact fw_zret (pc := 41) hx hb hr hlocks hw dMo_parts_41 (by rfl) ⟨by rw [hf]; rfl, by rw [hf]; exact hT, fun q h9 => by rw [e3, fw_un (by omega), e2, fw_un (by omega), hn9 q h9]⟩

set_option maxHeartbeats 4000000 in
set_option maxRecDepth 100000 in
theorem c_Mo_begins {b : Nat} {I : Nat → Nat} {K : Nat → Nat → Nat} {S : Nat → Int32} {C oo vv tt cc9 : Nat → Nat} {n d x cl op : Nat} (hT : moT cI cL w b I K S C (oo, vv, n, tt, cc9, d, x, cl, op)) {k9 u9 : Nat} (hk9 : k9 < 14) (hnd : n + d < 120) : fw_C l yMo_begins (Cond.code yMo_begins cMo_begins 3 (some FieldType.boolean) :: kWs) ({ frames := 1, cells := 0, slots := 0, locals := 22 } : Room) D kCl (kty cI cL cQ) z [.ref b, .int (nI k9), .int (nI u9)] (sz) w 0 0 (fun v w' => v = some (.int (nI (if (uBe k9 u9 (oo, vv, n, tt, cc9, d, x, cl, op)).1 = true then 1 else 0))) ∧ moT cI cL w' b I K S C (uBe k9 u9 (oo, vv, n, tt, cc9, d, x, cl, op)).2 ∧ ∀ q, q < b ∨ b + 9 ≤ q → w' q = w q) := by
  refine fw_ofW (cc := cMo_begins) (maxL := 3) (ret := (some FieldType.boolean)) (by decide) rfl (Nat.le_of_ble_eq_true rfl) ?_
  intro p e s m args below meth c hx hb hr hts hown hlocks hname hml hK H ls hw hl
  have hW : ∀ w ∈ kWs, w.before args s = true := fun w h => hts w (List.mem_cons_of_mem _ h)
  have hown : s.vm.findClass RMo = some m.cls := hown
  have hl : lv_has ls 3 [(0, .ref b), (1, .int (nI k9)), (2, .int (nI u9))] := hl
  have b0 : w (b) = some (.inr (10, [.int (nI (I 0)), .ref (b + 1), .ref (b + 2), .int (nI (I 3)), .ref (b + 3), .ref (b + 4), .int (nI (I 6)), .int (nI (n)), .ref (b + 5), .ref (b + 6), .int (nI (d)), .int (nI (op)), .int (nI (x)), .int (nI (cl)), .ref (b + 7), .ref (b + 8), .int (nI (I 16)), .int (nI (I 17)), .int (nI (I 18)), .int (nI (I 19))])) := hT.1
  have b5 : w (b + 5) = some (.inl (cI, 120, .inl (fun i => nI (oo i)))) := hT.2.2.2 2 (by decide)
  have b6 : w (b + 6) = some (.inl (cI, 120, .inl (fun i => nI (vv i)))) := hT.2.2.2 3 (by decide)
  have b7 : w (b + 7) = some (.inl (cI, 120, .inl (fun i => nI (tt i)))) := hT.2.2.2 4 (by decide)
  have b8 : w (b + 8) = some (.inl (cI, 120, .inl (fun i => nI (cc9 i)))) := hT.2.2.2 5 (by decide)
  have b3 : w (b + 3) = some (.inl (cI, 120, .inl (fun i => nI (K 0 i)))) := hT.2.2.2 0 (by decide)
  have b4 : w (b + 4) = some (.inl (cI, 120, .inl (fun i => nI (K 1 i)))) := hT.2.2.2 1 (by decide)
  refine lv_iload_n (pc := 0) hx hb dMo_begins_0 rfl (lv_at hl 1 rfl) ?_
  refine lv_iconst (pc := 1) (v := (nI 2)) hx hb dMo_begins_1 (by decide) ?_
  rcases (show k9 < 2 ∨ k9 = 3 ∨ k9 = 8 ∨ (2 ≤ k9 ∧ k9 ≠ 3 ∧ k9 ≠ 8) by omega) with hk | hk | hk | hk
  · refine lv_icmp_ge (pc := 2) (tgt := 18) hx hb dMo_begins_2 (by decide) (fun hc => absurd hc (nI_ge (b := 2) hk (by decide))) (fun _ => ?_)
    refine lv_aload_n (pc := 5) hx hb dMo_begins_5 rfl (lv_at hl 0 rfl) ?_
    refine lv_iload_n (pc := 6) hx hb dMo_begins_6 rfl (lv_at hl 1 rfl) ?_
    refine lv_iload_n (pc := 7) hx hb dMo_begins_7 rfl (lv_at hl 2 rfl) ?_
    refine fw_cV (pc := 8) (As := [.int (nI k9), .int (nI u9)]) (rest := []) ⟨hx, hb, hml, hown, hW⟩ (c_Mo_emit (k9 := k9) (u9 := u9) hT (by omega)) (cwV 2 hW (kw_V lm_Mo_56 im_Mo_emit se_Mo_emit ini_Mo cd_Mo_emit) rfl rfl rfl (by decide +kernel) ⟨Nat.le_of_ble_eq_true rfl, Nat.le_of_ble_eq_true rfl⟩) hK hw b0 rfl rfl hl.1 rfl (Nat.le_of_ble_eq_true rfl) dMo_begins_8 ⟨Nat.le_of_ble_eq_true rfl, Nat.le_of_ble_eq_true rfl⟩ (fun v w1 H locs hq hw => ?_)
    obtain ⟨rfl, hT, hn9⟩ := hq
    have b0 : w1 (b) = some (.inr (10, [.int (nI (I 0)), .ref (b + 1), .ref (b + 2), .int (nI (I 3)), .ref (b + 3), .ref (b + 4), .int (nI (I 6)), .int (nI (n + 1)), .ref (b + 5), .ref (b + 6), .int (nI (d)), .int (nI (op)), .int (nI (x)), .int (nI (cl)), .ref (b + 7), .ref (b + 8), .int (nI (I 16)), .int (nI (I 17)), .int (nI (I 18)), .int (nI (I 19))])) := hT.1
    have b5 : w1 (b + 5) = some (.inl (cI, 120, .inl (fun i => nI (va_up oo n k9 i)))) := hT.2.2.2 2 (by decide)
    have b6 : w1 (b + 6) = some (.inl (cI, 120, .inl (fun i => nI (va_up vv n u9 i)))) := hT.2.2.2 3 (by decide)
    have b7 : w1 (b + 7) = some (.inl (cI, 120, .inl (fun i => nI (tt i)))) := hT.2.2.2 4 (by decide)
    have b8 : w1 (b + 8) = some (.inl (cI, 120, .inl (fun i => nI (cc9 i)))) := hT.2.2.2 5 (by decide)
    have b3 : w1 (b + 3) = some (.inl (cI, 120, .inl (fun i => nI (K 0 i)))) := hT.2.2.2 0 (by decide)
    have b4 : w1 (b + 4) = some (.inl (cI, 120, .inl (fun i => nI (K 1 i)))) := hT.2.2.2 1 (by decide)
    refine W.eq (g2 := F0 m 11 ls []) rfl ?_
    refine lv_aload_n (pc := 11) hx hb dMo_begins_11 rfl (lv_at hl 0 rfl) ?_
    refine lv_iconst (pc := 12) (v := (nI 1)) hx hb dMo_begins_12 (by decide) ?_
    refine fw_put (pc := 13) (ci := 10) (v := .int (nI 1)) (ty := .int) (C := RMo) (T := TMo) (N := 20) hx hb hW in_Mo tyMo tyMo_ok nmMo hown hK.1 hw b0 rfl 12 (by decide) (hW _ lf_Mo_60) (fun _ h => h) rfl (by decide +kernel) rfl rfl (Nat.le_of_ble_eq_true rfl) dMo_begins_13 (fun H locs hw => ?_)
    obtain ⟨w2, e2⟩ : ∃ w_, w_ = fw_up w1 (b) (.inr (10, [.int (nI (I 0)), .ref (b + 1), .ref (b + 2), .int (nI (I 3)), .ref (b + 3), .ref (b + 4), .int (nI (I 6)), .int (nI (n + 1)), .ref (b + 5), .ref (b + 6), .int (nI (d)), .int (nI (op)), .int (nI 1), .int (nI (cl)), .ref (b + 7), .ref (b + 8), .int (nI (I 16)), .int (nI (I 17)), .int (nI (I 18)), .int (nI (I 19))])) := ⟨_, rfl⟩
    have hw : fw_H D kCl (fw_A w (sz)) s.heap w2 (sz) H locs := by rw [e2]; exact hw
    have b5_ : w2 (b + 5) = some (.inl (cI, 120, .inl (fun i => nI (va_up oo n k9 i)))) := by rw [e2, fw_un (by omega)]; exact b5
    have b6_ : w2 (b + 6) = some (.inl (cI, 120, .inl (fun i => nI (va_up vv n u9 i)))) := by rw [e2, fw_un (by omega)]; exact b6
    have b7_ : w2 (b + 7) = some (.inl (cI, 120, .inl (fun i => nI (tt i)))) := by rw [e2, fw_un (by omega)]; exact b7
    have b8_ : w2 (b + 8) = some (.inl (cI, 120, .inl (fun i => nI (cc9 i)))) := by rw [e2, fw_un (by omega)]; exact b8
    have b3_ : w2 (b + 3) = some (.inl (cI, 120, .inl (fun i => nI (K 0 i)))) := by rw [e2, fw_un (by omega)]; exact b3
    have b4_ : w2 (b + 4) = some (.inl (cI, 120, .inl (fun i => nI (K 1 i)))) := by rw [e2, fw_un (by omega)]; exact b4
    have b0_ : w2 (b) = some (.inr (10, [.int (nI (I 0)), .ref (b + 1), .ref (b + 2), .int (nI (I 3)), .ref (b + 3), .ref (b + 4), .int (nI (I 6)), .int (nI (n + 1)), .ref (b + 5), .ref (b + 6), .int (nI (d)), .int (nI (op)), .int (nI 1), .int (nI (cl)), .ref (b + 7), .ref (b + 8), .int (nI (I 16)), .int (nI (I 17)), .int (nI (I 18)), .int (nI (I 19))])) := by rw [e2]; exact fw_us _ _ _
    have b0 := b0_
    have b5 := b5_
    have b6 := b6_
    have b7 := b7_
    have b8 := b8_
    have b3 := b3_
    have b4 := b4_
    have hT : moT cI cL w2 b I K S C (va_up oo n k9, va_up vv n u9, n + 1, tt, cc9, d, 1, cl, op) := hT.mk b0 b5 b6 b7 b8 (fun q h9 => by rw [e2, fw_un (by omega)])
    have hf : uBe k9 u9 (oo, vv, n, tt, cc9, d, x, cl, op) = (true, (va_up oo n k9, va_up vv n u9, n + 1, tt, cc9, d, 1, cl, op)) := if_pos hk
    refine lv_iconst (pc := 16) (v := (nI 1)) hx hb dMo_begins_16 (by decide) ?_
    exact fw_zret (pc := 17) hx hb hr hlocks hw dMo_begins_17 (by rfl) ⟨by rw [hf]; rfl, by rw [hf]; exact hT, fun q h9 => by rw [e2, fw_un (by omega), hn9 q h9]⟩
  · refine lv_icmp_ge (pc := 2) (tgt := 18) hx hb dMo_begins_2 (by decide) (fun _ => ?_) (fun hc => absurd (nI_le (show 2 ≤ k9 by omega) (by omega)) hc)
    refine lv_iload_n (pc := 18) hx hb dMo_begins_18 rfl (lv_at hl 1 rfl) ?_
    refine lv_iconst (pc := 19) (v := (nI 3)) hx hb dMo_begins_19 (by decide) ?_
    refine lv_icmp_ne (pc := 20) (tgt := 32) hx hb dMo_begins_20 (by decide) (fun hc => absurd hc (fun h9 => h9 (by rw [hk]))) (fun _ => ?_)
    refine lv_aload_n (pc := 23) hx hb dMo_begins_23 rfl (lv_at hl 0 rfl) ?_
    refine lv_bipush (pc := 24) (v := (nI 14)) hx hb dMo_begins_24 (by decide) ?_
    refine lv_iconst (pc := 26) (v := (nI 0)) hx hb dMo_begins_26 (by decide) ?_
    refine fw_cV (pc := 27) (As := [.int (nI 14), .int (nI 0)]) (rest := []) ⟨hx, hb, hml, hown, hW⟩ (c_Mo_heap (k9 := 14) (u9 := 0) hT (by omega)) (cwV 2 hW (kw_V lm_Mo_63 im_Mo_heap se_Mo_heap ini_Mo cd_Mo_heap) rfl rfl rfl (by decide +kernel) ⟨Nat.le_of_ble_eq_true rfl, Nat.le_of_ble_eq_true rfl⟩) hK hw b0 rfl rfl hl.1 rfl (Nat.le_of_ble_eq_true rfl) dMo_begins_27 ⟨Nat.le_of_ble_eq_true rfl, Nat.le_of_ble_eq_true rfl⟩ (fun v w1 H locs hq hw => ?_)
    obtain ⟨rfl, hT, hn9⟩ := hq
    refine W.eq (g2 := F0 m 30 ls []) rfl ?_
    have hf : uBe k9 u9 (oo, vv, n, tt, cc9, d, x, cl, op) = (true, (oo, vv, n, va_up tt d 14, va_up cc9 d 0, d + 1, x, cl, op)) := (if_neg (show ¬ k9 < 2 by omega)).trans (if_pos hk)
    refine lv_iconst (pc := 30) (v := (nI 1)) hx hb dMo_begins_30 (by decide) ?_
    exact fw_zret (pc := 31) hx hb hr hlocks hw dMo_begins_31 (by rfl) ⟨by rw [hf]; rfl, by rw [hf]; exact hT, hn9⟩
  · refine lv_icmp_ge (pc := 2) (tgt := 18) hx hb dMo_begins_2 (by decide) (fun _ => ?_) (fun hc => absurd (nI_le (show 2 ≤ k9 by omega) (by omega)) hc)
    refine lv_iload_n (pc := 18) hx hb dMo_begins_18 rfl (lv_at hl 1 rfl) ?_
    refine lv_iconst (pc := 19) (v := (nI 3)) hx hb dMo_begins_19 (by decide) ?_
    refine lv_icmp_ne (pc := 20) (tgt := 32) hx hb dMo_begins_20 (by decide) (fun _ => ?_) (fun hc => absurd hc (fun h9 => absurd ((nI_eq (show k9 < 2 ^ 31 by omega) (by decide)).mp h9) (by omega)))
    refine lv_iload_n (pc := 32) hx hb dMo_begins_32 rfl (lv_at hl 1 rfl) ?_
    refine lv_bipush (pc := 33) (v := (nI 8)) hx hb dMo_begins_33 (by decide) ?_
    refine lv_icmp_ne (pc := 35) (tgt := 57) hx hb dMo_begins_35 (by decide) (fun hc => absurd hc (fun h9 => h9 (by rw [hk]))) (fun _ => ?_)
    refine lv_aload_n (pc := 38) hx hb dMo_begins_38 rfl (lv_at hl 0 rfl) ?_
    refine lv_bipush (pc := 39) (v := (nI 8)) hx hb dMo_begins_39 (by decide) ?_
    refine lv_iconst (pc := 41) (v := (nI 0)) hx hb dMo_begins_41 (by decide) ?_
    refine fw_cV (pc := 42) (As := [.int (nI 8), .int (nI 0)]) (rest := []) ⟨hx, hb, hml, hown, hW⟩ (c_Mo_heap (k9 := 8) (u9 := 0) hT (by omega)) (cwV 2 hW (kw_V lm_Mo_63 im_Mo_heap se_Mo_heap ini_Mo cd_Mo_heap) rfl rfl rfl (by decide +kernel) ⟨Nat.le_of_ble_eq_true rfl, Nat.le_of_ble_eq_true rfl⟩) hK hw b0 rfl rfl hl.1 rfl (Nat.le_of_ble_eq_true rfl) dMo_begins_42 ⟨Nat.le_of_ble_eq_true rfl, Nat.le_of_ble_eq_true rfl⟩ (fun v w1 H locs hq hw => ?_)
    obtain ⟨rfl, hT, hn9⟩ := hq
    have b0 : w1 (b) = some (.inr (10, [.int (nI (I 0)), .ref (b + 1), .ref (b + 2), .int (nI (I 3)), .ref (b + 3), .ref (b + 4), .int (nI (I 6)), .int (nI (n)), .ref (b + 5), .ref (b + 6), .int (nI (d + 1)), .int (nI (op)), .int (nI (x)), .int (nI (cl)), .ref (b + 7), .ref (b + 8), .int (nI (I 16)), .int (nI (I 17)), .int (nI (I 18)), .int (nI (I 19))])) := hT.1
    have b5 : w1 (b + 5) = some (.inl (cI, 120, .inl (fun i => nI (oo i)))) := hT.2.2.2 2 (by decide)
    have b6 : w1 (b + 6) = some (.inl (cI, 120, .inl (fun i => nI (vv i)))) := hT.2.2.2 3 (by decide)
    have b7 : w1 (b + 7) = some (.inl (cI, 120, .inl (fun i => nI (va_up tt d 8 i)))) := hT.2.2.2 4 (by decide)
    have b8 : w1 (b + 8) = some (.inl (cI, 120, .inl (fun i => nI (va_up cc9 d 0 i)))) := hT.2.2.2 5 (by decide)
    have b3 : w1 (b + 3) = some (.inl (cI, 120, .inl (fun i => nI (K 0 i)))) := hT.2.2.2 0 (by decide)
    have b4 : w1 (b + 4) = some (.inl (cI, 120, .inl (fun i => nI (K 1 i)))) := hT.2.2.2 1 (by decide)
    refine W.eq (g2 := F0 m 45 ls []) rfl ?_
    refine lv_aload_n (pc := 45) hx hb dMo_begins_45 rfl (lv_at hl 0 rfl) ?_
    refine lv_dup (pc := 46) hx hb dMo_begins_46 rfl ?_
    refine fw_get (pc := 47) (ci := 10) (v := .int (nI (op))) (C := RMo) (T := TMo) (N := 20) hx hb hW in_Mo hown hK.1 hw b0 rfl 11 (by decide) (hW _ lf_Mo_66) (fun _ h => h) rfl dMo_begins_47 ?_
    refine lv_iconst (pc := 50) (v := (nI 1)) hx hb dMo_begins_50 (by decide) ?_
    refine lv_iadd (pc := 51) hx hb dMo_begins_51 ?_
    rw [show ((nI (op) + (nI 1)) : Int32) = nI (op + 1) from (nI_add op 1)]
    refine fw_put (pc := 52) (ci := 10) (v := .int (nI (op + 1))) (ty := .int) (C := RMo) (T := TMo) (N := 20) hx hb hW in_Mo tyMo tyMo_ok nmMo hown hK.1 hw b0 rfl 11 (by decide) (hW _ lf_Mo_66) (fun _ h => h) rfl (by decide +kernel) rfl rfl (Nat.le_of_ble_eq_true rfl) dMo_begins_52 (fun H locs hw => ?_)
    obtain ⟨w2, e2⟩ : ∃ w_, w_ = fw_up w1 (b) (.inr (10, [.int (nI (I 0)), .ref (b + 1), .ref (b + 2), .int (nI (I 3)), .ref (b + 3), .ref (b + 4), .int (nI (I 6)), .int (nI (n)), .ref (b + 5), .ref (b + 6), .int (nI (d + 1)), .int (nI (op + 1)), .int (nI (x)), .int (nI (cl)), .ref (b + 7), .ref (b + 8), .int (nI (I 16)), .int (nI (I 17)), .int (nI (I 18)), .int (nI (I 19))])) := ⟨_, rfl⟩
    have hw : fw_H D kCl (fw_A w (sz)) s.heap w2 (sz) H locs := by rw [e2]; exact hw
    have b5_ : w2 (b + 5) = some (.inl (cI, 120, .inl (fun i => nI (oo i)))) := by rw [e2, fw_un (by omega)]; exact b5
    have b6_ : w2 (b + 6) = some (.inl (cI, 120, .inl (fun i => nI (vv i)))) := by rw [e2, fw_un (by omega)]; exact b6
    have b7_ : w2 (b + 7) = some (.inl (cI, 120, .inl (fun i => nI (va_up tt d 8 i)))) := by rw [e2, fw_un (by omega)]; exact b7
    have b8_ : w2 (b + 8) = some (.inl (cI, 120, .inl (fun i => nI (va_up cc9 d 0 i)))) := by rw [e2, fw_un (by omega)]; exact b8
    have b3_ : w2 (b + 3) = some (.inl (cI, 120, .inl (fun i => nI (K 0 i)))) := by rw [e2, fw_un (by omega)]; exact b3
    have b4_ : w2 (b + 4) = some (.inl (cI, 120, .inl (fun i => nI (K 1 i)))) := by rw [e2, fw_un (by omega)]; exact b4
    have b0_ : w2 (b) = some (.inr (10, [.int (nI (I 0)), .ref (b + 1), .ref (b + 2), .int (nI (I 3)), .ref (b + 3), .ref (b + 4), .int (nI (I 6)), .int (nI (n)), .ref (b + 5), .ref (b + 6), .int (nI (d + 1)), .int (nI (op + 1)), .int (nI (x)), .int (nI (cl)), .ref (b + 7), .ref (b + 8), .int (nI (I 16)), .int (nI (I 17)), .int (nI (I 18)), .int (nI (I 19))])) := by rw [e2]; exact fw_us _ _ _
    have b0 := b0_
    have b5 := b5_
    have b6 := b6_
    have b7 := b7_
    have b8 := b8_
    have b3 := b3_
    have b4 := b4_
    have hT : moT cI cL w2 b I K S C (oo, vv, n, va_up tt d 8, va_up cc9 d 0, d + 1, x, cl, op + 1) := hT.mk b0 b5 b6 b7 b8 (fun q h9 => by rw [e2, fw_un (by omega)])
    have hf : uBe k9 u9 (oo, vv, n, tt, cc9, d, x, cl, op) = (true, (oo, vv, n, va_up tt d 8, va_up cc9 d 0, d + 1, x, cl, op + 1)) := (if_neg (show ¬ k9 < 2 by omega)).trans ((if_neg (show ¬ k9 = 3 by omega)).trans (if_pos hk))
    refine lv_iconst (pc := 55) (v := (nI 1)) hx hb dMo_begins_55 (by decide) ?_
    exact fw_zret (pc := 56) hx hb hr hlocks hw dMo_begins_56 (by rfl) ⟨by rw [hf]; rfl, by rw [hf]; exact hT, fun q h9 => by rw [e2, fw_un (by omega), hn9 q h9]⟩
  · refine lv_icmp_ge (pc := 2) (tgt := 18) hx hb dMo_begins_2 (by decide) (fun _ => ?_) (fun hc => absurd (nI_le (show 2 ≤ k9 by omega) (by omega)) hc)
    refine lv_iload_n (pc := 18) hx hb dMo_begins_18 rfl (lv_at hl 1 rfl) ?_
    refine lv_iconst (pc := 19) (v := (nI 3)) hx hb dMo_begins_19 (by decide) ?_
    refine lv_icmp_ne (pc := 20) (tgt := 32) hx hb dMo_begins_20 (by decide) (fun _ => ?_) (fun hc => absurd hc (fun h9 => absurd ((nI_eq (show k9 < 2 ^ 31 by omega) (by decide)).mp h9) (by omega)))
    refine lv_iload_n (pc := 32) hx hb dMo_begins_32 rfl (lv_at hl 1 rfl) ?_
    refine lv_bipush (pc := 33) (v := (nI 8)) hx hb dMo_begins_33 (by decide) ?_
    refine lv_icmp_ne (pc := 35) (tgt := 57) hx hb dMo_begins_35 (by decide) (fun _ => ?_) (fun hc => absurd hc (fun h9 => absurd ((nI_eq (show k9 < 2 ^ 31 by omega) (by decide)).mp h9) (by omega)))
    refine lv_aload_n (pc := 57) hx hb dMo_begins_57 rfl (lv_at hl 0 rfl) ?_
    refine lv_iload_n (pc := 58) hx hb dMo_begins_58 rfl (lv_at hl 1 rfl) ?_
    refine fw_put (pc := 59) (ci := 10) (v := .int (nI k9)) (ty := .int) (C := RMo) (T := TMo) (N := 20) hx hb hW in_Mo tyMo tyMo_ok nmMo hown hK.1 hw b0 rfl 13 (by decide) (hW _ lf_Mo_69) (fun _ h => h) rfl (by decide +kernel) rfl rfl (Nat.le_of_ble_eq_true rfl) dMo_begins_59 (fun H locs hw => ?_)
    obtain ⟨w1, e1⟩ : ∃ w_, w_ = fw_up w (b) (.inr (10, [.int (nI (I 0)), .ref (b + 1), .ref (b + 2), .int (nI (I 3)), .ref (b + 3), .ref (b + 4), .int (nI (I 6)), .int (nI (n)), .ref (b + 5), .ref (b + 6), .int (nI (d)), .int (nI (op)), .int (nI (x)), .int (nI k9), .ref (b + 7), .ref (b + 8), .int (nI (I 16)), .int (nI (I 17)), .int (nI (I 18)), .int (nI (I 19))])) := ⟨_, rfl⟩
    have hw : fw_H D kCl (fw_A w (sz)) s.heap w1 (sz) H locs := by rw [e1]; exact hw
    have b5_ : w1 (b + 5) = some (.inl (cI, 120, .inl (fun i => nI (oo i)))) := by rw [e1, fw_un (by omega)]; exact b5
    have b6_ : w1 (b + 6) = some (.inl (cI, 120, .inl (fun i => nI (vv i)))) := by rw [e1, fw_un (by omega)]; exact b6
    have b7_ : w1 (b + 7) = some (.inl (cI, 120, .inl (fun i => nI (tt i)))) := by rw [e1, fw_un (by omega)]; exact b7
    have b8_ : w1 (b + 8) = some (.inl (cI, 120, .inl (fun i => nI (cc9 i)))) := by rw [e1, fw_un (by omega)]; exact b8
    have b3_ : w1 (b + 3) = some (.inl (cI, 120, .inl (fun i => nI (K 0 i)))) := by rw [e1, fw_un (by omega)]; exact b3
    have b4_ : w1 (b + 4) = some (.inl (cI, 120, .inl (fun i => nI (K 1 i)))) := by rw [e1, fw_un (by omega)]; exact b4
    have b0_ : w1 (b) = some (.inr (10, [.int (nI (I 0)), .ref (b + 1), .ref (b + 2), .int (nI (I 3)), .ref (b + 3), .ref (b + 4), .int (nI (I 6)), .int (nI (n)), .ref (b + 5), .ref (b + 6), .int (nI (d)), .int (nI (op)), .int (nI (x)), .int (nI k9), .ref (b + 7), .ref (b + 8), .int (nI (I 16)), .int (nI (I 17)), .int (nI (I 18)), .int (nI (I 19))])) := by rw [e1]; exact fw_us _ _ _
    have b0 := b0_
    have b5 := b5_
    have b6 := b6_
    have b7 := b7_
    have b8 := b8_
    have b3 := b3_
    have b4 := b4_
    refine lv_aload_n (pc := 62) hx hb dMo_begins_62 rfl (lv_at hl 0 rfl) ?_
    refine lv_iconst (pc := 63) (v := (nI 2)) hx hb dMo_begins_63 (by decide) ?_
    refine fw_put (pc := 64) (ci := 10) (v := .int (nI 2)) (ty := .int) (C := RMo) (T := TMo) (N := 20) hx hb hW in_Mo tyMo tyMo_ok nmMo hown hK.1 hw b0 rfl 12 (by decide) (hW _ lf_Mo_60) (fun _ h => h) rfl (by decide +kernel) rfl rfl (Nat.le_of_ble_eq_true rfl) dMo_begins_64 (fun H locs hw => ?_)
    obtain ⟨w2, e2⟩ : ∃ w_, w_ = fw_up w1 (b) (.inr (10, [.int (nI (I 0)), .ref (b + 1), .ref (b + 2), .int (nI (I 3)), .ref (b + 3), .ref (b + 4), .int (nI (I 6)), .int (nI (n)), .ref (b + 5), .ref (b + 6), .int (nI (d)), .int (nI (op)), .int (nI 2), .int (nI k9), .ref (b + 7), .ref (b + 8), .int (nI (I 16)), .int (nI (I 17)), .int (nI (I 18)), .int (nI (I 19))])) := ⟨_, rfl⟩
    have hw : fw_H D kCl (fw_A w (sz)) s.heap w2 (sz) H locs := by rw [e2]; exact hw
    have b5_ : w2 (b + 5) = some (.inl (cI, 120, .inl (fun i => nI (oo i)))) := by rw [e2, fw_un (by omega)]; exact b5
    have b6_ : w2 (b + 6) = some (.inl (cI, 120, .inl (fun i => nI (vv i)))) := by rw [e2, fw_un (by omega)]; exact b6
    have b7_ : w2 (b + 7) = some (.inl (cI, 120, .inl (fun i => nI (tt i)))) := by rw [e2, fw_un (by omega)]; exact b7
    have b8_ : w2 (b + 8) = some (.inl (cI, 120, .inl (fun i => nI (cc9 i)))) := by rw [e2, fw_un (by omega)]; exact b8
    have b3_ : w2 (b + 3) = some (.inl (cI, 120, .inl (fun i => nI (K 0 i)))) := by rw [e2, fw_un (by omega)]; exact b3
    have b4_ : w2 (b + 4) = some (.inl (cI, 120, .inl (fun i => nI (K 1 i)))) := by rw [e2, fw_un (by omega)]; exact b4
    have b0_ : w2 (b) = some (.inr (10, [.int (nI (I 0)), .ref (b + 1), .ref (b + 2), .int (nI (I 3)), .ref (b + 3), .ref (b + 4), .int (nI (I 6)), .int (nI (n)), .ref (b + 5), .ref (b + 6), .int (nI (d)), .int (nI (op)), .int (nI 2), .int (nI k9), .ref (b + 7), .ref (b + 8), .int (nI (I 16)), .int (nI (I 17)), .int (nI (I 18)), .int (nI (I 19))])) := by rw [e2]; exact fw_us _ _ _
    have b0 := b0_
    have b5 := b5_
    have b6 := b6_
    have b7 := b7_
    have b8 := b8_
    have b3 := b3_
    have b4 := b4_
    have hT : moT cI cL w2 b I K S C (oo, vv, n, tt, cc9, d, 2, k9, op) := hT.mk b0 b5 b6 b7 b8 (fun q h9 => by rw [e2, fw_un (by omega), e1, fw_un (by omega)])
    refine lv_iload_n (pc := 67) hx hb dMo_begins_67 rfl (lv_at hl 1 rfl) ?_
    refine lv_bipush (pc := 68) (v := (nI 10)) hx hb dMo_begins_68 (by decide) ?_
    rcases (show k9 ≤ 10 ∨ 10 < k9 by omega) with hk1 | hk1
    · refine lv_icmp_le (pc := 70) (tgt := 77) hx hb dMo_begins_70 (by decide) (fun _ => ?_) (fun hc => absurd (nI_le hk1 (by decide)) hc)
      have hf : uBe k9 u9 (oo, vv, n, tt, cc9, d, x, cl, op) = (false, (oo, vv, n, tt, cc9, d, 2, k9, op)) := (if_neg (show ¬ k9 < 2 by omega)).trans ((if_neg (show ¬ k9 = 3 by omega)).trans ((if_neg (show ¬ k9 = 8 by omega)).trans (by rw [decide_eq_false (show ¬ 10 < k9 by omega)])))
      refine lv_iconst (pc := 77) (v := (nI 0)) hx hb dMo_begins_77 (by decide) ?_
      exact fw_zret (pc := 78) hx hb hr hlocks hw dMo_begins_78 (by rfl) ⟨by rw [hf]; rfl, by rw [hf]; exact hT, fun q h9 => by rw [e2, fw_un (by omega), e1, fw_un (by omega)]⟩
    · refine lv_icmp_le (pc := 70) (tgt := 77) hx hb dMo_begins_70 (by decide) (fun hc => absurd hc (nI_ge hk1 (by omega))) (fun _ => ?_)
      have hf : uBe k9 u9 (oo, vv, n, tt, cc9, d, x, cl, op) = (true, (oo, vv, n, tt, cc9, d, 2, k9, op)) := (if_neg (show ¬ k9 < 2 by omega)).trans ((if_neg (show ¬ k9 = 3 by omega)).trans ((if_neg (show ¬ k9 = 8 by omega)).trans (by rw [decide_eq_true hk1])))
      refine lv_iconst (pc := 73) (v := (nI 1)) hx hb dMo_begins_73 (by decide) ?_
      refine lv_goto (pc := 74) (tgt := 78) hx hb dMo_begins_74 (by decide) ?_
      exact fw_zret (pc := 78) hx hb hr hlocks hw dMo_begins_78 (by rfl) ⟨by rw [hf]; rfl, by rw [hf]; exact hT, fun q h9 => by rw [e2, fw_un (by omega), e1, fw_un (by omega)]⟩

set_option maxHeartbeats 4000000 in
set_option maxRecDepth 100000 in
theorem c_Mo_follows {b : Nat} {I : Nat → Nat} {K : Nat → Nat → Nat} {S : Nat → Int32} {C oo vv tt cc9 : Nat → Nat} {n d x cl op : Nat} (hT : moT cI cL w b I K S C (oo, vv, n, tt, cc9, d, x, cl, op)) {k9 : Nat} (hk9 : k9 < 14) (hnd9 : n + d < 120) (ht : ∀ i, i < d → 1 < tt i ∧ tt i < 15) (hcb : ∀ i, i < d → cc9 i < 3) (hop : opn tt d = 0 ∨ 0 < op) : fw_C l yMo_follows (Cond.code yMo_follows cMo_follows 2 (some FieldType.boolean) :: kWs) ({ frames := 3, cells := 0, slots := 0, locals := 64 } : Room) D kCl (kty cI cL cQ) z [.ref b, .int (nI k9)] (sz) w 0 0 (fun v w' => v = some (.int (nI (if (uFo k9 (oo, vv, n, tt, cc9, d, x, cl, op)).1 = true then 1 else 0))) ∧ moT cI cL w' b I K S C (uFo k9 (oo, vv, n, tt, cc9, d, x, cl, op)).2 ∧ ∀ q, q < b ∨ b + 9 ≤ q → w' q = w q) := by
  refine fw_ofW (cc := cMo_follows) (maxL := 2) (ret := (some FieldType.boolean)) (by decide) rfl (Nat.le_of_ble_eq_true rfl) ?_
  intro p e s m args below meth c hx hb hr hts hown hlocks hname hml hK H ls hw hl
  have hW : ∀ w ∈ kWs, w.before args s = true := fun w h => hts w (List.mem_cons_of_mem _ h)
  have hown : s.vm.findClass RMo = some m.cls := hown
  have hl : lv_has ls 2 [(0, .ref b), (1, .int (nI k9))] := hl
  have b0 : w (b) = some (.inr (10, [.int (nI (I 0)), .ref (b + 1), .ref (b + 2), .int (nI (I 3)), .ref (b + 3), .ref (b + 4), .int (nI (I 6)), .int (nI (n)), .ref (b + 5), .ref (b + 6), .int (nI (d)), .int (nI (op)), .int (nI (x)), .int (nI (cl)), .ref (b + 7), .ref (b + 8), .int (nI (I 16)), .int (nI (I 17)), .int (nI (I 18)), .int (nI (I 19))])) := hT.1
  have b5 : w (b + 5) = some (.inl (cI, 120, .inl (fun i => nI (oo i)))) := hT.2.2.2 2 (by decide)
  have b6 : w (b + 6) = some (.inl (cI, 120, .inl (fun i => nI (vv i)))) := hT.2.2.2 3 (by decide)
  have b7 : w (b + 7) = some (.inl (cI, 120, .inl (fun i => nI (tt i)))) := hT.2.2.2 4 (by decide)
  have b8 : w (b + 8) = some (.inl (cI, 120, .inl (fun i => nI (cc9 i)))) := hT.2.2.2 5 (by decide)
  have b3 : w (b + 3) = some (.inl (cI, 120, .inl (fun i => nI (K 0 i)))) := hT.2.2.2 0 (by decide)
  have b4 : w (b + 4) = some (.inl (cI, 120, .inl (fun i => nI (K 1 i)))) := hT.2.2.2 1 (by decide)
  have hnd : n + d ≤ 120 := by omega
  refine lv_iload_n (pc := 0) hx hb dMo_follows_0 rfl (lv_at hl 1 rfl) ?_
  refine lv_bipush (pc := 1) (v := (nI 9)) hx hb dMo_follows_1 (by decide) ?_
  rcases (show k9 = 9 ∨ k9 = 10 ∨ (k9 < 2 ∨ 7 < k9) ∧ k9 ≠ 9 ∧ k9 ≠ 10 ∨ k9 = 7 ∨ (2 ≤ k9 ∧ k9 < 7) by omega) with hk | hk | hk | hk | hk
  · refine lv_icmp_ne (pc := 3) (tgt := 11) hx hb dMo_follows_3 (by decide) (fun hc => absurd hc (fun h9 => h9 (by rw [hk]))) (fun _ => ?_)
    refine lv_aload_n (pc := 6) hx hb dMo_follows_6 rfl (lv_at hl 0 rfl) ?_
    obtain ⟨o1, v1, n1, d1, hr1⟩ : ∃ o1 v1 n1 d1, rl 1 tt d oo vv n = (o1, v1, n1, d1) := ⟨_, _, _, _, rfl⟩
    have hdo : opn tt d = d1 := by rw [← opn_rl d oo vv n, hr1]
    refine fw_cV (pc := 7) (As := []) (rest := []) ⟨hx, hb, hml, hown, hW⟩ (c_Mo_closes hT hnd ht hr1 hcb (by rw [← hdo]; exact hop)) (cwV 0 hW (kw_V lm_Mo_80 im_Mo_closes se_Mo_closes ini_Mo cd_Mo_closes) rfl rfl rfl (by decide +kernel) ⟨Nat.le_of_ble_eq_true rfl, Nat.le_of_ble_eq_true rfl⟩) hK hw b0 rfl rfl hl.1 rfl (Nat.le_of_ble_eq_true rfl) dMo_follows_7 ⟨Nat.le_of_ble_eq_true rfl, Nat.le_of_ble_eq_true rfl⟩ (fun v w1 H locs hq hw => ?_)
    obtain ⟨rfl, hT, hn9⟩ := hq
    refine W.eq (g2 := F0 m 10 ls [.int (nI (if (uCl (oo, vv, n, tt, cc9, d, x, cl, op)).1 = true then 1 else 0))]) rfl ?_
    have hf : uFo k9 (oo, vv, n, tt, cc9, d, x, cl, op) = uCl (oo, vv, n, tt, cc9, d, x, cl, op) := if_pos hk
    exact fw_zret (pc := 10) hx hb hr hlocks hw dMo_follows_10 (by split <;> rfl) ⟨by rw [hf], by rw [hf]; exact hT, hn9⟩
  · refine lv_icmp_ne (pc := 3) (tgt := 11) hx hb dMo_follows_3 (by decide) (fun _ => ?_) (fun hc => absurd hc (fun h9 => absurd ((nI_eq (show k9 < 2 ^ 31 by omega) (by decide)).mp h9) (by omega)))
    refine lv_iload_n (pc := 11) hx hb dMo_follows_11 rfl (lv_at hl 1 rfl) ?_
    refine lv_bipush (pc := 12) (v := (nI 10)) hx hb dMo_follows_12 (by decide) ?_
    refine lv_icmp_ne (pc := 14) (tgt := 22) hx hb dMo_follows_14 (by decide) (fun hc => absurd hc (fun h9 => h9 (by rw [hk]))) (fun _ => ?_)
    refine lv_aload_n (pc := 17) hx hb dMo_follows_17 rfl (lv_at hl 0 rfl) ?_
    obtain ⟨o1, v1, n1, d1, hr1⟩ : ∃ o1 v1 n1 d1, rl 1 tt d oo vv n = (o1, v1, n1, d1) := ⟨_, _, _, _, rfl⟩
    refine fw_cV (pc := 18) (As := []) (rest := []) ⟨hx, hb, hml, hown, hW⟩ (c_Mo_parts hT hnd ht hr1 hcb) (cwV 0 hW (kw_V lm_Mo_84 im_Mo_parts se_Mo_parts ini_Mo cd_Mo_parts) rfl rfl rfl (by decide +kernel) ⟨Nat.le_of_ble_eq_true rfl, Nat.le_of_ble_eq_true rfl⟩) hK hw b0 rfl rfl hl.1 rfl (Nat.le_of_ble_eq_true rfl) dMo_follows_18 ⟨Nat.le_of_ble_eq_true rfl, Nat.le_of_ble_eq_true rfl⟩ (fun v w1 H locs hq hw => ?_)
    obtain ⟨rfl, hT, hn9⟩ := hq
    refine W.eq (g2 := F0 m 21 ls [.int (nI (if (uPa (oo, vv, n, tt, cc9, d, x, cl, op)).1 = true then 1 else 0))]) rfl ?_
    have hf : uFo k9 (oo, vv, n, tt, cc9, d, x, cl, op) = uPa (oo, vv, n, tt, cc9, d, x, cl, op) := (if_neg (show ¬ k9 = 9 by omega)).trans (if_pos hk)
    exact fw_zret (pc := 21) hx hb hr hlocks hw dMo_follows_21 (by split <;> rfl) ⟨by rw [hf], by rw [hf]; exact hT, hn9⟩
  · refine lv_icmp_ne (pc := 3) (tgt := 11) hx hb dMo_follows_3 (by decide) (fun _ => ?_) (fun hc => absurd hc (fun h9 => absurd ((nI_eq (show k9 < 2 ^ 31 by omega) (by decide)).mp h9) (by omega)))
    refine lv_iload_n (pc := 11) hx hb dMo_follows_11 rfl (lv_at hl 1 rfl) ?_
    refine lv_bipush (pc := 12) (v := (nI 10)) hx hb dMo_follows_12 (by decide) ?_
    refine lv_icmp_ne (pc := 14) (tgt := 22) hx hb dMo_follows_14 (by decide) (fun _ => ?_) (fun hc => absurd hc (fun h9 => absurd ((nI_eq (show k9 < 2 ^ 31 by omega) (by decide)).mp h9) (by omega)))
    refine lv_iload_n (pc := 22) hx hb dMo_follows_22 rfl (lv_at hl 1 rfl) ?_
    refine lv_iconst (pc := 23) (v := (nI 2)) hx hb dMo_follows_23 (by decide) ?_
    rcases hk.1 with hk1 | hk1
    · refine lv_icmp_lt (pc := 24) (tgt := 33) hx hb dMo_follows_24 (by decide) (fun _ => ?_) (fun hc => absurd ((nI_ltI (by omega) (by decide)).mpr hk1) hc)
      have hf : uFo k9 (oo, vv, n, tt, cc9, d, x, cl, op) = (false, (oo, vv, n, tt, cc9, d, x, cl, op)) := (if_neg (show ¬ k9 = 9 by omega)).trans ((if_neg (show ¬ k9 = 10 by omega)).trans (if_pos hk.1))
      refine lv_iconst (pc := 33) (v := (nI 0)) hx hb dMo_follows_33 (by decide) ?_
      exact fw_zret (pc := 34) hx hb hr hlocks hw dMo_follows_34 (by rfl) ⟨by rw [hf]; rfl, by rw [hf]; exact hT, fun q _ => rfl⟩
    · refine lv_icmp_lt (pc := 24) (tgt := 33) hx hb dMo_follows_24 (by decide) (fun hc => absurd hc (fun h9 => absurd ((nI_ltI (by omega) (by decide)).mp h9) (by omega))) (fun _ => ?_)
      refine lv_iload_n (pc := 27) hx hb dMo_follows_27 rfl (lv_at hl 1 rfl) ?_
      refine lv_bipush (pc := 28) (v := (nI 7)) hx hb dMo_follows_28 (by decide) ?_
      refine lv_icmp_le (pc := 30) (tgt := 35) hx hb dMo_follows_30 (by decide) (fun hc => absurd hc (nI_ge (show 7 < k9 by omega) (by omega))) (fun _ => ?_)
      have hf : uFo k9 (oo, vv, n, tt, cc9, d, x, cl, op) = (false, (oo, vv, n, tt, cc9, d, x, cl, op)) := (if_neg (show ¬ k9 = 9 by omega)).trans ((if_neg (show ¬ k9 = 10 by omega)).trans (if_pos hk.1))
      refine lv_iconst (pc := 33) (v := (nI 0)) hx hb dMo_follows_33 (by decide) ?_
      exact fw_zret (pc := 34) hx hb hr hlocks hw dMo_follows_34 (by rfl) ⟨by rw [hf]; rfl, by rw [hf]; exact hT, fun q _ => rfl⟩
  · refine lv_icmp_ne (pc := 3) (tgt := 11) hx hb dMo_follows_3 (by decide) (fun _ => ?_) (fun hc => absurd hc (fun h9 => absurd ((nI_eq (show k9 < 2 ^ 31 by omega) (by decide)).mp h9) (by omega)))
    refine lv_iload_n (pc := 11) hx hb dMo_follows_11 rfl (lv_at hl 1 rfl) ?_
    refine lv_bipush (pc := 12) (v := (nI 10)) hx hb dMo_follows_12 (by decide) ?_
    refine lv_icmp_ne (pc := 14) (tgt := 22) hx hb dMo_follows_14 (by decide) (fun _ => ?_) (fun hc => absurd hc (fun h9 => absurd ((nI_eq (show k9 < 2 ^ 31 by omega) (by decide)).mp h9) (by omega)))
    refine lv_iload_n (pc := 22) hx hb dMo_follows_22 rfl (lv_at hl 1 rfl) ?_
    refine lv_iconst (pc := 23) (v := (nI 2)) hx hb dMo_follows_23 (by decide) ?_
    refine lv_icmp_lt (pc := 24) (tgt := 33) hx hb dMo_follows_24 (by decide) (fun hc => absurd hc (fun h9 => absurd ((nI_ltI (by omega) (by decide)).mp h9) (by omega))) (fun _ => ?_)
    refine lv_iload_n (pc := 27) hx hb dMo_follows_27 rfl (lv_at hl 1 rfl) ?_
    refine lv_bipush (pc := 28) (v := (nI 7)) hx hb dMo_follows_28 (by decide) ?_
    refine lv_icmp_le (pc := 30) (tgt := 35) hx hb dMo_follows_30 (by decide) (fun _ => ?_) (fun hc => absurd (nI_le (show k9 ≤ 7 by omega) (by decide)) hc)
    refine lv_aload_n (pc := 35) hx hb dMo_follows_35 rfl (lv_at hl 0 rfl) ?_
    refine lv_iload_n (pc := 36) hx hb dMo_follows_36 rfl (lv_at hl 1 rfl) ?_
    refine lv_bipush (pc := 37) (v := (nI 7)) hx hb dMo_follows_37 (by decide) ?_
    obtain ⟨bd, hbd⟩ : ∃ bd, bd = if k9 = 7 then 5 else kBi k9 := ⟨_, rfl⟩
    refine lv_icmp_ne (pc := 39) (tgt := 46) hx hb dMo_follows_39 (by decide) (fun hc => absurd hc (fun h9 => h9 (by rw [hk]))) (fun _ => ?_)
    refine lv_iconst (pc := 42) (v := (nI 5)) hx hb dMo_follows_42 (by decide) ?_
    refine lv_goto (pc := 43) (tgt := 50) hx hb dMo_follows_43 (by decide) ?_
    rw [show ((nI 5) : Int32) = nI bd from (by rw [hbd, if_pos hk])]
    obtain ⟨o1, v1, n1, d1, hr1⟩ : ∃ o1 v1 n1 d1, rl bd tt d oo vv n = (o1, v1, n1, d1) := ⟨_, _, _, _, rfl⟩
    have hsm := (rl_sum hr1).1
    have hb31 : bd < 2 ^ 31 := by rw [hbd]; (split <;> first | exact kBi_lt _ | decide)
    refine fw_cV (pc := 50) (As := [.int (nI bd)]) (rest := []) ⟨hx, hb, hml, hown, hW⟩ (c_Mo_unload (bd := bd) hT hb31 hnd ht) (cwV 1 hW (kw_V lm_Mo_76 im_Mo_unload se_Mo_unload ini_Mo cd_Mo_unload) rfl rfl rfl (by decide +kernel) ⟨Nat.le_of_ble_eq_true rfl, Nat.le_of_ble_eq_true rfl⟩) hK hw b0 rfl rfl hl.1 rfl (Nat.le_of_ble_eq_true rfl) dMo_follows_50 ⟨Nat.le_of_ble_eq_true rfl, Nat.le_of_ble_eq_true rfl⟩ (fun v w2 H locs hq hw => ?_)
    obtain ⟨rfl, hT, hn9⟩ := hq
    rw [hr1] at hT
    have hT : moT cI cL w2 b I K S C (o1, v1, n1, tt, cc9, d1, x, cl, op) := hT
    have b0 : w2 (b) = some (.inr (10, [.int (nI (I 0)), .ref (b + 1), .ref (b + 2), .int (nI (I 3)), .ref (b + 3), .ref (b + 4), .int (nI (I 6)), .int (nI (n1)), .ref (b + 5), .ref (b + 6), .int (nI (d1)), .int (nI (op)), .int (nI (x)), .int (nI (cl)), .ref (b + 7), .ref (b + 8), .int (nI (I 16)), .int (nI (I 17)), .int (nI (I 18)), .int (nI (I 19))])) := hT.1
    have b5 : w2 (b + 5) = some (.inl (cI, 120, .inl (fun i => nI (o1 i)))) := hT.2.2.2 2 (by decide)
    have b6 : w2 (b + 6) = some (.inl (cI, 120, .inl (fun i => nI (v1 i)))) := hT.2.2.2 3 (by decide)
    have b7 : w2 (b + 7) = some (.inl (cI, 120, .inl (fun i => nI (tt i)))) := hT.2.2.2 4 (by decide)
    have b8 : w2 (b + 8) = some (.inl (cI, 120, .inl (fun i => nI (cc9 i)))) := hT.2.2.2 5 (by decide)
    have b3 : w2 (b + 3) = some (.inl (cI, 120, .inl (fun i => nI (K 0 i)))) := hT.2.2.2 0 (by decide)
    have b4 : w2 (b + 4) = some (.inl (cI, 120, .inl (fun i => nI (K 1 i)))) := hT.2.2.2 1 (by decide)
    refine W.eq (g2 := F0 m 53 ls []) rfl ?_
    refine lv_aload_n (pc := 53) hx hb dMo_follows_53 rfl (lv_at hl 0 rfl) ?_
    refine lv_iload_n (pc := 54) hx hb dMo_follows_54 rfl (lv_at hl 1 rfl) ?_
    refine lv_iconst (pc := 55) (v := (nI 0)) hx hb dMo_follows_55 (by decide) ?_
    refine fw_cV (pc := 56) (As := [.int (nI k9), .int (nI 0)]) (rest := []) ⟨hx, hb, hml, hown, hW⟩ (c_Mo_heap (k9 := k9) (u9 := 0) hT (by omega)) (cwV 2 hW (kw_V lm_Mo_63 im_Mo_heap se_Mo_heap ini_Mo cd_Mo_heap) rfl rfl rfl (by decide +kernel) ⟨Nat.le_of_ble_eq_true rfl, Nat.le_of_ble_eq_true rfl⟩) hK hw b0 rfl rfl hl.1 rfl (Nat.le_of_ble_eq_true rfl) dMo_follows_56 ⟨Nat.le_of_ble_eq_true rfl, Nat.le_of_ble_eq_true rfl⟩ (fun v w3 H locs hq hw => ?_)
    obtain ⟨rfl, hT, hn8⟩ := hq
    have b0 : w3 (b) = some (.inr (10, [.int (nI (I 0)), .ref (b + 1), .ref (b + 2), .int (nI (I 3)), .ref (b + 3), .ref (b + 4), .int (nI (I 6)), .int (nI (n1)), .ref (b + 5), .ref (b + 6), .int (nI (d1 + 1)), .int (nI (op)), .int (nI (x)), .int (nI (cl)), .ref (b + 7), .ref (b + 8), .int (nI (I 16)), .int (nI (I 17)), .int (nI (I 18)), .int (nI (I 19))])) := hT.1
    have b5 : w3 (b + 5) = some (.inl (cI, 120, .inl (fun i => nI (o1 i)))) := hT.2.2.2 2 (by decide)
    have b6 : w3 (b + 6) = some (.inl (cI, 120, .inl (fun i => nI (v1 i)))) := hT.2.2.2 3 (by decide)
    have b7 : w3 (b + 7) = some (.inl (cI, 120, .inl (fun i => nI (va_up tt d1 k9 i)))) := hT.2.2.2 4 (by decide)
    have b8 : w3 (b + 8) = some (.inl (cI, 120, .inl (fun i => nI (va_up cc9 d1 0 i)))) := hT.2.2.2 5 (by decide)
    have b3 : w3 (b + 3) = some (.inl (cI, 120, .inl (fun i => nI (K 0 i)))) := hT.2.2.2 0 (by decide)
    have b4 : w3 (b + 4) = some (.inl (cI, 120, .inl (fun i => nI (K 1 i)))) := hT.2.2.2 1 (by decide)
    refine W.eq (g2 := F0 m 59 ls []) rfl ?_
    refine lv_aload_n (pc := 59) hx hb dMo_follows_59 rfl (lv_at hl 0 rfl) ?_
    refine lv_iconst (pc := 60) (v := (nI 0)) hx hb dMo_follows_60 (by decide) ?_
    refine fw_put (pc := 61) (ci := 10) (v := .int (nI 0)) (ty := .int) (C := RMo) (T := TMo) (N := 20) hx hb hW in_Mo tyMo tyMo_ok nmMo hown hK.1 hw b0 rfl 12 (by decide) (hW _ lf_Mo_60) (fun _ h => h) rfl (by decide +kernel) rfl rfl (Nat.le_of_ble_eq_true rfl) dMo_follows_61 (fun H locs hw => ?_)
    obtain ⟨w4, e4⟩ : ∃ w_, w_ = fw_up w3 (b) (.inr (10, [.int (nI (I 0)), .ref (b + 1), .ref (b + 2), .int (nI (I 3)), .ref (b + 3), .ref (b + 4), .int (nI (I 6)), .int (nI (n1)), .ref (b + 5), .ref (b + 6), .int (nI (d1 + 1)), .int (nI (op)), .int (nI 0), .int (nI (cl)), .ref (b + 7), .ref (b + 8), .int (nI (I 16)), .int (nI (I 17)), .int (nI (I 18)), .int (nI (I 19))])) := ⟨_, rfl⟩
    have hw : fw_H D kCl (fw_A w (sz)) s.heap w4 (sz) H locs := by rw [e4]; exact hw
    have b5_ : w4 (b + 5) = some (.inl (cI, 120, .inl (fun i => nI (o1 i)))) := by rw [e4, fw_un (by omega)]; exact b5
    have b6_ : w4 (b + 6) = some (.inl (cI, 120, .inl (fun i => nI (v1 i)))) := by rw [e4, fw_un (by omega)]; exact b6
    have b7_ : w4 (b + 7) = some (.inl (cI, 120, .inl (fun i => nI (va_up tt d1 k9 i)))) := by rw [e4, fw_un (by omega)]; exact b7
    have b8_ : w4 (b + 8) = some (.inl (cI, 120, .inl (fun i => nI (va_up cc9 d1 0 i)))) := by rw [e4, fw_un (by omega)]; exact b8
    have b3_ : w4 (b + 3) = some (.inl (cI, 120, .inl (fun i => nI (K 0 i)))) := by rw [e4, fw_un (by omega)]; exact b3
    have b4_ : w4 (b + 4) = some (.inl (cI, 120, .inl (fun i => nI (K 1 i)))) := by rw [e4, fw_un (by omega)]; exact b4
    have b0_ : w4 (b) = some (.inr (10, [.int (nI (I 0)), .ref (b + 1), .ref (b + 2), .int (nI (I 3)), .ref (b + 3), .ref (b + 4), .int (nI (I 6)), .int (nI (n1)), .ref (b + 5), .ref (b + 6), .int (nI (d1 + 1)), .int (nI (op)), .int (nI 0), .int (nI (cl)), .ref (b + 7), .ref (b + 8), .int (nI (I 16)), .int (nI (I 17)), .int (nI (I 18)), .int (nI (I 19))])) := by rw [e4]; exact fw_us _ _ _
    have b0 := b0_
    have b5 := b5_
    have b6 := b6_
    have b7 := b7_
    have b8 := b8_
    have b3 := b3_
    have b4 := b4_
    have hT : moT cI cL w4 b I K S C (o1, v1, n1, va_up tt d1 k9, va_up cc9 d1 0, d1 + 1, 0, cl, op) := hT.mk b0 b5 b6 b7 b8 (fun q h9 => by rw [e4, fw_un (by omega)])
    have hf : uFo k9 (oo, vv, n, tt, cc9, d, x, cl, op) = (true, (o1, v1, n1, va_up tt d1 k9, va_up cc9 d1 0, d1 + 1, 0, cl, op)) := (if_neg (show ¬ k9 = 9 by omega)).trans ((if_neg (show ¬ k9 = 10 by omega)).trans ((if_neg (show ¬ (k9 < 2 ∨ 7 < k9) by omega)).trans (uRp_eq (by rw [← hbd]; exact hr1))))
    refine lv_iconst (pc := 64) (v := (nI 1)) hx hb dMo_follows_64 (by decide) ?_
    exact fw_zret (pc := 65) hx hb hr hlocks hw dMo_follows_65 (by rfl) ⟨by rw [hf]; rfl, by rw [hf]; exact hT, fun q h9 => by rw [e4, fw_un (by omega), hn8 q h9, hn9 q h9]⟩
  · refine lv_icmp_ne (pc := 3) (tgt := 11) hx hb dMo_follows_3 (by decide) (fun _ => ?_) (fun hc => absurd hc (fun h9 => absurd ((nI_eq (show k9 < 2 ^ 31 by omega) (by decide)).mp h9) (by omega)))
    refine lv_iload_n (pc := 11) hx hb dMo_follows_11 rfl (lv_at hl 1 rfl) ?_
    refine lv_bipush (pc := 12) (v := (nI 10)) hx hb dMo_follows_12 (by decide) ?_
    refine lv_icmp_ne (pc := 14) (tgt := 22) hx hb dMo_follows_14 (by decide) (fun _ => ?_) (fun hc => absurd hc (fun h9 => absurd ((nI_eq (show k9 < 2 ^ 31 by omega) (by decide)).mp h9) (by omega)))
    refine lv_iload_n (pc := 22) hx hb dMo_follows_22 rfl (lv_at hl 1 rfl) ?_
    refine lv_iconst (pc := 23) (v := (nI 2)) hx hb dMo_follows_23 (by decide) ?_
    refine lv_icmp_lt (pc := 24) (tgt := 33) hx hb dMo_follows_24 (by decide) (fun hc => absurd hc (fun h9 => absurd ((nI_ltI (by omega) (by decide)).mp h9) (by omega))) (fun _ => ?_)
    refine lv_iload_n (pc := 27) hx hb dMo_follows_27 rfl (lv_at hl 1 rfl) ?_
    refine lv_bipush (pc := 28) (v := (nI 7)) hx hb dMo_follows_28 (by decide) ?_
    refine lv_icmp_le (pc := 30) (tgt := 35) hx hb dMo_follows_30 (by decide) (fun _ => ?_) (fun hc => absurd (nI_le (show k9 ≤ 7 by omega) (by decide)) hc)
    refine lv_aload_n (pc := 35) hx hb dMo_follows_35 rfl (lv_at hl 0 rfl) ?_
    refine lv_iload_n (pc := 36) hx hb dMo_follows_36 rfl (lv_at hl 1 rfl) ?_
    refine lv_bipush (pc := 37) (v := (nI 7)) hx hb dMo_follows_37 (by decide) ?_
    obtain ⟨bd, hbd⟩ : ∃ bd, bd = if k9 = 7 then 5 else kBi k9 := ⟨_, rfl⟩
    refine lv_icmp_ne (pc := 39) (tgt := 46) hx hb dMo_follows_39 (by decide) (fun _ => ?_) (fun hc => absurd hc (fun h9 => absurd ((nI_eq (show k9 < 2 ^ 31 by omega) (by decide)).mp h9) (by omega)))
    refine lv_iload_n (pc := 46) hx hb dMo_follows_46 rfl (lv_at hl 1 rfl) ?_
    refine fw_cSR (pc := 47) (As := [.int (nI k9)]) (rest := [.ref b]) ⟨hx, hb, hml, hown, hW⟩ (c_Mo_bond (k := k9) (by omega) (by omega)) (va_cwS 1 hW (kw_S lm_Mo_52 sta_Mo_bond ini_Mo cd_Mo_bond) rfl rfl rfl (by decide +kernel) ⟨Nat.le_of_ble_eq_true rfl, Nat.le_of_ble_eq_true rfl⟩) hK hw rfl hl.1 rfl (Nat.le_of_ble_eq_true rfl) dMo_follows_47 ⟨Nat.le_of_ble_eq_true rfl, Nat.le_of_ble_eq_true rfl⟩ (fun v hq => ?_)
    subst hq
    refine W.eq (g2 := F0 m 50 ls [.int (nI (kBi k9)), .ref b]) rfl ?_
    rw [show (nI (kBi k9) : Int32) = nI bd from (by rw [hbd, if_neg (show ¬ k9 = 7 by omega)])]
    obtain ⟨o1, v1, n1, d1, hr1⟩ : ∃ o1 v1 n1 d1, rl bd tt d oo vv n = (o1, v1, n1, d1) := ⟨_, _, _, _, rfl⟩
    have hsm := (rl_sum hr1).1
    have hb31 : bd < 2 ^ 31 := by rw [hbd]; (split <;> first | exact kBi_lt _ | decide)
    refine fw_cV (pc := 50) (As := [.int (nI bd)]) (rest := []) ⟨hx, hb, hml, hown, hW⟩ (c_Mo_unload (bd := bd) hT hb31 hnd ht) (cwV 1 hW (kw_V lm_Mo_76 im_Mo_unload se_Mo_unload ini_Mo cd_Mo_unload) rfl rfl rfl (by decide +kernel) ⟨Nat.le_of_ble_eq_true rfl, Nat.le_of_ble_eq_true rfl⟩) hK hw b0 rfl rfl hl.1 rfl (Nat.le_of_ble_eq_true rfl) dMo_follows_50 ⟨Nat.le_of_ble_eq_true rfl, Nat.le_of_ble_eq_true rfl⟩ (fun v w5 H locs hq hw => ?_)
    obtain ⟨rfl, hT, hn9⟩ := hq
    rw [hr1] at hT
    have hT : moT cI cL w5 b I K S C (o1, v1, n1, tt, cc9, d1, x, cl, op) := hT
    have b0 : w5 (b) = some (.inr (10, [.int (nI (I 0)), .ref (b + 1), .ref (b + 2), .int (nI (I 3)), .ref (b + 3), .ref (b + 4), .int (nI (I 6)), .int (nI (n1)), .ref (b + 5), .ref (b + 6), .int (nI (d1)), .int (nI (op)), .int (nI (x)), .int (nI (cl)), .ref (b + 7), .ref (b + 8), .int (nI (I 16)), .int (nI (I 17)), .int (nI (I 18)), .int (nI (I 19))])) := hT.1
    have b5 : w5 (b + 5) = some (.inl (cI, 120, .inl (fun i => nI (o1 i)))) := hT.2.2.2 2 (by decide)
    have b6 : w5 (b + 6) = some (.inl (cI, 120, .inl (fun i => nI (v1 i)))) := hT.2.2.2 3 (by decide)
    have b7 : w5 (b + 7) = some (.inl (cI, 120, .inl (fun i => nI (tt i)))) := hT.2.2.2 4 (by decide)
    have b8 : w5 (b + 8) = some (.inl (cI, 120, .inl (fun i => nI (cc9 i)))) := hT.2.2.2 5 (by decide)
    have b3 : w5 (b + 3) = some (.inl (cI, 120, .inl (fun i => nI (K 0 i)))) := hT.2.2.2 0 (by decide)
    have b4 : w5 (b + 4) = some (.inl (cI, 120, .inl (fun i => nI (K 1 i)))) := hT.2.2.2 1 (by decide)
    refine W.eq (g2 := F0 m 53 ls []) rfl ?_
    refine lv_aload_n (pc := 53) hx hb dMo_follows_53 rfl (lv_at hl 0 rfl) ?_
    refine lv_iload_n (pc := 54) hx hb dMo_follows_54 rfl (lv_at hl 1 rfl) ?_
    refine lv_iconst (pc := 55) (v := (nI 0)) hx hb dMo_follows_55 (by decide) ?_
    refine fw_cV (pc := 56) (As := [.int (nI k9), .int (nI 0)]) (rest := []) ⟨hx, hb, hml, hown, hW⟩ (c_Mo_heap (k9 := k9) (u9 := 0) hT (by omega)) (cwV 2 hW (kw_V lm_Mo_63 im_Mo_heap se_Mo_heap ini_Mo cd_Mo_heap) rfl rfl rfl (by decide +kernel) ⟨Nat.le_of_ble_eq_true rfl, Nat.le_of_ble_eq_true rfl⟩) hK hw b0 rfl rfl hl.1 rfl (Nat.le_of_ble_eq_true rfl) dMo_follows_56 ⟨Nat.le_of_ble_eq_true rfl, Nat.le_of_ble_eq_true rfl⟩ (fun v w6 H locs hq hw => ?_)
    obtain ⟨rfl, hT, hn8⟩ := hq
    have b0 : w6 (b) = some (.inr (10, [.int (nI (I 0)), .ref (b + 1), .ref (b + 2), .int (nI (I 3)), .ref (b + 3), .ref (b + 4), .int (nI (I 6)), .int (nI (n1)), .ref (b + 5), .ref (b + 6), .int (nI (d1 + 1)), .int (nI (op)), .int (nI (x)), .int (nI (cl)), .ref (b + 7), .ref (b + 8), .int (nI (I 16)), .int (nI (I 17)), .int (nI (I 18)), .int (nI (I 19))])) := hT.1
    have b5 : w6 (b + 5) = some (.inl (cI, 120, .inl (fun i => nI (o1 i)))) := hT.2.2.2 2 (by decide)
    have b6 : w6 (b + 6) = some (.inl (cI, 120, .inl (fun i => nI (v1 i)))) := hT.2.2.2 3 (by decide)
    have b7 : w6 (b + 7) = some (.inl (cI, 120, .inl (fun i => nI (va_up tt d1 k9 i)))) := hT.2.2.2 4 (by decide)
    have b8 : w6 (b + 8) = some (.inl (cI, 120, .inl (fun i => nI (va_up cc9 d1 0 i)))) := hT.2.2.2 5 (by decide)
    have b3 : w6 (b + 3) = some (.inl (cI, 120, .inl (fun i => nI (K 0 i)))) := hT.2.2.2 0 (by decide)
    have b4 : w6 (b + 4) = some (.inl (cI, 120, .inl (fun i => nI (K 1 i)))) := hT.2.2.2 1 (by decide)
    refine W.eq (g2 := F0 m 59 ls []) rfl ?_
    refine lv_aload_n (pc := 59) hx hb dMo_follows_59 rfl (lv_at hl 0 rfl) ?_
    refine lv_iconst (pc := 60) (v := (nI 0)) hx hb dMo_follows_60 (by decide) ?_
    refine fw_put (pc := 61) (ci := 10) (v := .int (nI 0)) (ty := .int) (C := RMo) (T := TMo) (N := 20) hx hb hW in_Mo tyMo tyMo_ok nmMo hown hK.1 hw b0 rfl 12 (by decide) (hW _ lf_Mo_60) (fun _ h => h) rfl (by decide +kernel) rfl rfl (Nat.le_of_ble_eq_true rfl) dMo_follows_61 (fun H locs hw => ?_)
    obtain ⟨w7, e7⟩ : ∃ w_, w_ = fw_up w6 (b) (.inr (10, [.int (nI (I 0)), .ref (b + 1), .ref (b + 2), .int (nI (I 3)), .ref (b + 3), .ref (b + 4), .int (nI (I 6)), .int (nI (n1)), .ref (b + 5), .ref (b + 6), .int (nI (d1 + 1)), .int (nI (op)), .int (nI 0), .int (nI (cl)), .ref (b + 7), .ref (b + 8), .int (nI (I 16)), .int (nI (I 17)), .int (nI (I 18)), .int (nI (I 19))])) := ⟨_, rfl⟩
    have hw : fw_H D kCl (fw_A w (sz)) s.heap w7 (sz) H locs := by rw [e7]; exact hw
    have b5_ : w7 (b + 5) = some (.inl (cI, 120, .inl (fun i => nI (o1 i)))) := by rw [e7, fw_un (by omega)]; exact b5
    have b6_ : w7 (b + 6) = some (.inl (cI, 120, .inl (fun i => nI (v1 i)))) := by rw [e7, fw_un (by omega)]; exact b6
    have b7_ : w7 (b + 7) = some (.inl (cI, 120, .inl (fun i => nI (va_up tt d1 k9 i)))) := by rw [e7, fw_un (by omega)]; exact b7
    have b8_ : w7 (b + 8) = some (.inl (cI, 120, .inl (fun i => nI (va_up cc9 d1 0 i)))) := by rw [e7, fw_un (by omega)]; exact b8
    have b3_ : w7 (b + 3) = some (.inl (cI, 120, .inl (fun i => nI (K 0 i)))) := by rw [e7, fw_un (by omega)]; exact b3
    have b4_ : w7 (b + 4) = some (.inl (cI, 120, .inl (fun i => nI (K 1 i)))) := by rw [e7, fw_un (by omega)]; exact b4
    have b0_ : w7 (b) = some (.inr (10, [.int (nI (I 0)), .ref (b + 1), .ref (b + 2), .int (nI (I 3)), .ref (b + 3), .ref (b + 4), .int (nI (I 6)), .int (nI (n1)), .ref (b + 5), .ref (b + 6), .int (nI (d1 + 1)), .int (nI (op)), .int (nI 0), .int (nI (cl)), .ref (b + 7), .ref (b + 8), .int (nI (I 16)), .int (nI (I 17)), .int (nI (I 18)), .int (nI (I 19))])) := by rw [e7]; exact fw_us _ _ _
    have b0 := b0_
    have b5 := b5_
    have b6 := b6_
    have b7 := b7_
    have b8 := b8_
    have b3 := b3_
    have b4 := b4_
    have hT : moT cI cL w7 b I K S C (o1, v1, n1, va_up tt d1 k9, va_up cc9 d1 0, d1 + 1, 0, cl, op) := hT.mk b0 b5 b6 b7 b8 (fun q h9 => by rw [e7, fw_un (by omega)])
    have hf : uFo k9 (oo, vv, n, tt, cc9, d, x, cl, op) = (true, (o1, v1, n1, va_up tt d1 k9, va_up cc9 d1 0, d1 + 1, 0, cl, op)) := (if_neg (show ¬ k9 = 9 by omega)).trans ((if_neg (show ¬ k9 = 10 by omega)).trans ((if_neg (show ¬ (k9 < 2 ∨ 7 < k9) by omega)).trans (uRp_eq (by rw [← hbd]; exact hr1))))
    refine lv_iconst (pc := 64) (v := (nI 1)) hx hb dMo_follows_64 (by decide) ?_
    exact fw_zret (pc := 65) hx hb hr hlocks hw dMo_follows_65 (by rfl) ⟨by rw [hf]; rfl, by rw [hf]; exact hT, fun q h9 => by rw [e7, fw_un (by omega), hn8 q h9, hn9 q h9]⟩

set_option maxHeartbeats 4000000 in
set_option maxRecDepth 100000 in
theorem c_Mo_stands {b : Nat} {I : Nat → Nat} {K : Nat → Nat → Nat} {S : Nat → Int32} {C oo vv tt cc9 : Nat → Nat} {n d x cl op : Nat} (hT : moT cI cL w b I K S C (oo, vv, n, tt, cc9, d, x, cl, op)) {i : Nat} (hi : i < 120) (hk9 : K 0 i < 14) (hU : uOk i (oo, vv, n, tt, cc9, d, x, cl, op)) : fw_C l yMo_stands (Cond.code yMo_stands cMo_stands 2 (some FieldType.boolean) :: kWs) ({ frames := 4, cells := 0, slots := 0, locals := 85 } : Room) D kCl (kty cI cL cQ) z [.ref b, .int (nI i)] (sz) w 0 0 (fun v w' => v = some (.int (nI (if (uSt (K 0 i) (K 1 i) (oo, vv, n, tt, cc9, d, x, cl, op)).1 = true then 1 else 0))) ∧ moT cI cL w' b I K S C (uSt (K 0 i) (K 1 i) (oo, vv, n, tt, cc9, d, x, cl, op)).2 ∧ ∀ q, q < b ∨ b + 9 ≤ q → w' q = w q) := by
  refine fw_ofW (cc := cMo_stands) (maxL := 2) (ret := (some FieldType.boolean)) (by decide) rfl (Nat.le_of_ble_eq_true rfl) ?_
  intro p e s m args below meth c hx hb hr hts hown hlocks hname hml hK H ls hw hl
  have hW : ∀ w ∈ kWs, w.before args s = true := fun w h => hts w (List.mem_cons_of_mem _ h)
  have hown : s.vm.findClass RMo = some m.cls := hown
  have hl : lv_has ls 2 [(0, .ref b), (1, .int (nI i))] := hl
  have b0 : w (b) = some (.inr (10, [.int (nI (I 0)), .ref (b + 1), .ref (b + 2), .int (nI (I 3)), .ref (b + 3), .ref (b + 4), .int (nI (I 6)), .int (nI (n)), .ref (b + 5), .ref (b + 6), .int (nI (d)), .int (nI (op)), .int (nI (x)), .int (nI (cl)), .ref (b + 7), .ref (b + 8), .int (nI (I 16)), .int (nI (I 17)), .int (nI (I 18)), .int (nI (I 19))])) := hT.1
  have b5 : w (b + 5) = some (.inl (cI, 120, .inl (fun i => nI (oo i)))) := hT.2.2.2 2 (by decide)
  have b6 : w (b + 6) = some (.inl (cI, 120, .inl (fun i => nI (vv i)))) := hT.2.2.2 3 (by decide)
  have b7 : w (b + 7) = some (.inl (cI, 120, .inl (fun i => nI (tt i)))) := hT.2.2.2 4 (by decide)
  have b8 : w (b + 8) = some (.inl (cI, 120, .inl (fun i => nI (cc9 i)))) := hT.2.2.2 5 (by decide)
  have b3 : w (b + 3) = some (.inl (cI, 120, .inl (fun i => nI (K 0 i)))) := hT.2.2.2 0 (by decide)
  have b4 : w (b + 4) = some (.inl (cI, 120, .inl (fun i => nI (K 1 i)))) := hT.2.2.2 1 (by decide)
  obtain ⟨hnd, htc, hx3, hcl, hopc⟩ := id hU
  have ht : ∀ j, j < d → 1 < tt j ∧ tt j < 15 := fun j hj => ⟨(htc j hj).1, (htc j hj).2.1⟩
  have hcb : ∀ j, j < d → cc9 j < 3 := fun j hj => (htc j hj).2.2
  have hop : opn tt d = 0 ∨ 0 < op := by (rcases Nat.eq_zero_or_pos (opn tt d) with h9 | h9); exact Or.inl h9; exact Or.inr (by rw [hopc]; exact cnt_pos h9)
  rcases (show x = 0 ∨ x = 1 ∨ x = 2 by omega) with rfl | rfl | rfl
  · have b0 : w (b) = some (.inr (10, [.int (nI (I 0)), .ref (b + 1), .ref (b + 2), .int (nI (I 3)), .ref (b + 3), .ref (b + 4), .int (nI (I 6)), .int (nI (n)), .ref (b + 5), .ref (b + 6), .int (nI (d)), .int (nI (op)), .int (nI (0)), .int (nI (cl)), .ref (b + 7), .ref (b + 8), .int (nI (I 16)), .int (nI (I 17)), .int (nI (I 18)), .int (nI (I 19))])) := hT.1
    have b5 : w (b + 5) = some (.inl (cI, 120, .inl (fun i => nI (oo i)))) := hT.2.2.2 2 (by decide)
    have b6 : w (b + 6) = some (.inl (cI, 120, .inl (fun i => nI (vv i)))) := hT.2.2.2 3 (by decide)
    have b7 : w (b + 7) = some (.inl (cI, 120, .inl (fun i => nI (tt i)))) := hT.2.2.2 4 (by decide)
    have b8 : w (b + 8) = some (.inl (cI, 120, .inl (fun i => nI (cc9 i)))) := hT.2.2.2 5 (by decide)
    have b3 : w (b + 3) = some (.inl (cI, 120, .inl (fun i => nI (K 0 i)))) := hT.2.2.2 0 (by decide)
    have b4 : w (b + 4) = some (.inl (cI, 120, .inl (fun i => nI (K 1 i)))) := hT.2.2.2 1 (by decide)
    refine lv_aload_n (pc := 0) hx hb dMo_stands_0 rfl (lv_at hl 0 rfl) ?_
    refine fw_get (pc := 1) (ci := 10) (v := .int (nI (0))) (C := RMo) (T := TMo) (N := 20) hx hb hW in_Mo hown hK.1 hw b0 rfl 12 (by decide) (hW _ lf_Mo_60) (fun _ h => h) rfl dMo_stands_1 ?_
    refine lv_if_ne (pc := 4) (tgt := 24) hx hb dMo_stands_4 (by decide) (fun hc => absurd hc (fun h9 => h9 (by decide))) (fun _ => ?_)
    refine lv_aload_n (pc := 7) hx hb dMo_stands_7 rfl (lv_at hl 0 rfl) ?_
    refine lv_aload_n (pc := 8) hx hb dMo_stands_8 rfl (lv_at hl 0 rfl) ?_
    refine fw_get (pc := 9) (ci := 10) (v := .ref (b + 3)) (C := RMo) (T := TMo) (N := 20) hx hb hW in_Mo hown hK.1 hw b0 rfl 4 (by decide) (hW _ lf_Mo_17) (fun _ h => h) rfl dMo_stands_9 ?_
    refine lv_iload_n (pc := 12) hx hb dMo_stands_12 rfl (lv_at hl 1 rfl) ?_
    refine fw_ialdN (pc := 13) (x := nI (K 0 (i))) hx hb hK.1 hw 0 b3 rfl (i) hi (by decide) rfl dMo_stands_13 ?_
    refine lv_aload_n (pc := 14) hx hb dMo_stands_14 rfl (lv_at hl 0 rfl) ?_
    refine fw_get (pc := 15) (ci := 10) (v := .ref (b + 4)) (C := RMo) (T := TMo) (N := 20) hx hb hW in_Mo hown hK.1 hw b0 rfl 5 (by decide) (hW _ lf_Mo_20) (fun _ h => h) rfl dMo_stands_15 ?_
    refine lv_iload_n (pc := 18) hx hb dMo_stands_18 rfl (lv_at hl 1 rfl) ?_
    refine fw_ialdN (pc := 19) (x := nI (K 1 (i))) hx hb hK.1 hw 0 b4 rfl (i) hi (by decide) rfl dMo_stands_19 ?_
    refine fw_cV (pc := 20) (As := [.int (nI (K 0 (i))), .int (nI (K 1 (i)))]) (rest := []) ⟨hx, hb, hml, hown, hW⟩ (c_Mo_begins (k9 := K 0 i) (u9 := K 1 i) hT hk9 (by omega)) (cwV 2 hW (kw_V lm_Mo_87 im_Mo_begins se_Mo_begins ini_Mo cd_Mo_begins) rfl rfl rfl (by decide +kernel) ⟨Nat.le_of_ble_eq_true rfl, Nat.le_of_ble_eq_true rfl⟩) hK hw b0 rfl rfl hl.1 rfl (Nat.le_of_ble_eq_true rfl) dMo_stands_20 ⟨Nat.le_of_ble_eq_true rfl, Nat.le_of_ble_eq_true rfl⟩ (fun v w1 H locs hq hw => ?_)
    obtain ⟨rfl, hT, hn9⟩ := hq
    refine W.eq (g2 := F0 m 23 ls [.int (nI (if (uBe (K 0 i) (K 1 i) (oo, vv, n, tt, cc9, d, 0, cl, op)).1 = true then 1 else 0))]) rfl ?_
    exact fw_zret (pc := 23) hx hb hr hlocks hw dMo_stands_23 (by split <;> rfl) ⟨rfl, hT, hn9⟩
  · have b0 : w (b) = some (.inr (10, [.int (nI (I 0)), .ref (b + 1), .ref (b + 2), .int (nI (I 3)), .ref (b + 3), .ref (b + 4), .int (nI (I 6)), .int (nI (n)), .ref (b + 5), .ref (b + 6), .int (nI (d)), .int (nI (op)), .int (nI (1)), .int (nI (cl)), .ref (b + 7), .ref (b + 8), .int (nI (I 16)), .int (nI (I 17)), .int (nI (I 18)), .int (nI (I 19))])) := hT.1
    have b5 : w (b + 5) = some (.inl (cI, 120, .inl (fun i => nI (oo i)))) := hT.2.2.2 2 (by decide)
    have b6 : w (b + 6) = some (.inl (cI, 120, .inl (fun i => nI (vv i)))) := hT.2.2.2 3 (by decide)
    have b7 : w (b + 7) = some (.inl (cI, 120, .inl (fun i => nI (tt i)))) := hT.2.2.2 4 (by decide)
    have b8 : w (b + 8) = some (.inl (cI, 120, .inl (fun i => nI (cc9 i)))) := hT.2.2.2 5 (by decide)
    have b3 : w (b + 3) = some (.inl (cI, 120, .inl (fun i => nI (K 0 i)))) := hT.2.2.2 0 (by decide)
    have b4 : w (b + 4) = some (.inl (cI, 120, .inl (fun i => nI (K 1 i)))) := hT.2.2.2 1 (by decide)
    refine lv_aload_n (pc := 0) hx hb dMo_stands_0 rfl (lv_at hl 0 rfl) ?_
    refine fw_get (pc := 1) (ci := 10) (v := .int (nI (1))) (C := RMo) (T := TMo) (N := 20) hx hb hW in_Mo hown hK.1 hw b0 rfl 12 (by decide) (hW _ lf_Mo_60) (fun _ h => h) rfl dMo_stands_1 ?_
    refine lv_if_ne (pc := 4) (tgt := 24) hx hb dMo_stands_4 (by decide) (fun _ => ?_) (fun hc => absurd hc (by decide))
    refine lv_aload_n (pc := 24) hx hb dMo_stands_24 rfl (lv_at hl 0 rfl) ?_
    refine fw_get (pc := 25) (ci := 10) (v := .int (nI (1))) (C := RMo) (T := TMo) (N := 20) hx hb hW in_Mo hown hK.1 hw b0 rfl 12 (by decide) (hW _ lf_Mo_60) (fun _ h => h) rfl dMo_stands_25 ?_
    refine lv_iconst (pc := 28) (v := (nI 1)) hx hb dMo_stands_28 (by decide) ?_
    refine lv_icmp_ne (pc := 29) (tgt := 43) hx hb dMo_stands_29 (by decide) (fun hc => absurd hc (fun h9 => h9 rfl)) (fun _ => ?_)
    refine lv_aload_n (pc := 32) hx hb dMo_stands_32 rfl (lv_at hl 0 rfl) ?_
    refine lv_aload_n (pc := 33) hx hb dMo_stands_33 rfl (lv_at hl 0 rfl) ?_
    refine fw_get (pc := 34) (ci := 10) (v := .ref (b + 3)) (C := RMo) (T := TMo) (N := 20) hx hb hW in_Mo hown hK.1 hw b0 rfl 4 (by decide) (hW _ lf_Mo_17) (fun _ h => h) rfl dMo_stands_34 ?_
    refine lv_iload_n (pc := 37) hx hb dMo_stands_37 rfl (lv_at hl 1 rfl) ?_
    refine fw_ialdN (pc := 38) (x := nI (K 0 (i))) hx hb hK.1 hw 0 b3 rfl (i) hi (by decide) rfl dMo_stands_38 ?_
    refine fw_cV (pc := 39) (As := [.int (nI (K 0 (i)))]) (rest := []) ⟨hx, hb, hml, hown, hW⟩ (c_Mo_follows (k9 := K 0 i) hT hk9 (by omega) ht hcb hop) (cwV 1 hW (kw_V lm_Mo_91 im_Mo_follows se_Mo_follows ini_Mo cd_Mo_follows) rfl rfl rfl (by decide +kernel) ⟨Nat.le_of_ble_eq_true rfl, Nat.le_of_ble_eq_true rfl⟩) hK hw b0 rfl rfl hl.1 rfl (Nat.le_of_ble_eq_true rfl) dMo_stands_39 ⟨Nat.le_of_ble_eq_true rfl, Nat.le_of_ble_eq_true rfl⟩ (fun v w1 H locs hq hw => ?_)
    obtain ⟨rfl, hT, hn9⟩ := hq
    refine W.eq (g2 := F0 m 42 ls [.int (nI (if (uFo (K 0 i) (oo, vv, n, tt, cc9, d, 1, cl, op)).1 = true then 1 else 0))]) rfl ?_
    exact fw_zret (pc := 42) hx hb hr hlocks hw dMo_stands_42 (by split <;> rfl) ⟨rfl, hT, hn9⟩
  · have b0 : w (b) = some (.inr (10, [.int (nI (I 0)), .ref (b + 1), .ref (b + 2), .int (nI (I 3)), .ref (b + 3), .ref (b + 4), .int (nI (I 6)), .int (nI (n)), .ref (b + 5), .ref (b + 6), .int (nI (d)), .int (nI (op)), .int (nI (2)), .int (nI (cl)), .ref (b + 7), .ref (b + 8), .int (nI (I 16)), .int (nI (I 17)), .int (nI (I 18)), .int (nI (I 19))])) := hT.1
    have b5 : w (b + 5) = some (.inl (cI, 120, .inl (fun i => nI (oo i)))) := hT.2.2.2 2 (by decide)
    have b6 : w (b + 6) = some (.inl (cI, 120, .inl (fun i => nI (vv i)))) := hT.2.2.2 3 (by decide)
    have b7 : w (b + 7) = some (.inl (cI, 120, .inl (fun i => nI (tt i)))) := hT.2.2.2 4 (by decide)
    have b8 : w (b + 8) = some (.inl (cI, 120, .inl (fun i => nI (cc9 i)))) := hT.2.2.2 5 (by decide)
    have b3 : w (b + 3) = some (.inl (cI, 120, .inl (fun i => nI (K 0 i)))) := hT.2.2.2 0 (by decide)
    have b4 : w (b + 4) = some (.inl (cI, 120, .inl (fun i => nI (K 1 i)))) := hT.2.2.2 1 (by decide)
    refine lv_aload_n (pc := 0) hx hb dMo_stands_0 rfl (lv_at hl 0 rfl) ?_
    refine fw_get (pc := 1) (ci := 10) (v := .int (nI (2))) (C := RMo) (T := TMo) (N := 20) hx hb hW in_Mo hown hK.1 hw b0 rfl 12 (by decide) (hW _ lf_Mo_60) (fun _ h => h) rfl dMo_stands_1 ?_
    refine lv_if_ne (pc := 4) (tgt := 24) hx hb dMo_stands_4 (by decide) (fun _ => ?_) (fun hc => absurd hc (by decide))
    refine lv_aload_n (pc := 24) hx hb dMo_stands_24 rfl (lv_at hl 0 rfl) ?_
    refine fw_get (pc := 25) (ci := 10) (v := .int (nI (2))) (C := RMo) (T := TMo) (N := 20) hx hb hW in_Mo hown hK.1 hw b0 rfl 12 (by decide) (hW _ lf_Mo_60) (fun _ h => h) rfl dMo_stands_25 ?_
    refine lv_iconst (pc := 28) (v := (nI 1)) hx hb dMo_stands_28 (by decide) ?_
    refine lv_icmp_ne (pc := 29) (tgt := 43) hx hb dMo_stands_29 (by decide) (fun _ => ?_) (fun hc => absurd hc (by decide))
    refine lv_aload_n (pc := 43) hx hb dMo_stands_43 rfl (lv_at hl 0 rfl) ?_
    refine fw_get (pc := 44) (ci := 10) (v := .ref (b + 3)) (C := RMo) (T := TMo) (N := 20) hx hb hW in_Mo hown hK.1 hw b0 rfl 4 (by decide) (hW _ lf_Mo_17) (fun _ h => h) rfl dMo_stands_44 ?_
    refine lv_iload_n (pc := 47) hx hb dMo_stands_47 rfl (lv_at hl 1 rfl) ?_
    refine fw_ialdN (pc := 48) (x := nI (K 0 (i))) hx hb hK.1 hw 0 b3 rfl (i) hi (by decide) rfl dMo_stands_48 ?_
    refine lv_bipush (pc := 49) (v := (nI 8)) hx hb dMo_stands_49 (by decide) ?_
    refine lv_icmp_eq (pc := 51) (tgt := 56) hx hb dMo_stands_51 (by decide) (fun h8 => ?_) (fun h8 => ?_)
    · have h88 : K 0 i = 8 := (nI_eq (by omega) (by decide)).mp h8
      obtain ⟨hc1, hc2⟩ := hcl rfl
      rcases (show cl = 11 ∨ cl = 12 ∨ cl = 13 by omega) with rfl | rfl | rfl
      · have b0 : w (b) = some (.inr (10, [.int (nI (I 0)), .ref (b + 1), .ref (b + 2), .int (nI (I 3)), .ref (b + 3), .ref (b + 4), .int (nI (I 6)), .int (nI (n)), .ref (b + 5), .ref (b + 6), .int (nI (d)), .int (nI (op)), .int (nI (2)), .int (nI (11)), .ref (b + 7), .ref (b + 8), .int (nI (I 16)), .int (nI (I 17)), .int (nI (I 18)), .int (nI (I 19))])) := hT.1
        have b5 : w (b + 5) = some (.inl (cI, 120, .inl (fun i => nI (oo i)))) := hT.2.2.2 2 (by decide)
        have b6 : w (b + 6) = some (.inl (cI, 120, .inl (fun i => nI (vv i)))) := hT.2.2.2 3 (by decide)
        have b7 : w (b + 7) = some (.inl (cI, 120, .inl (fun i => nI (tt i)))) := hT.2.2.2 4 (by decide)
        have b8 : w (b + 8) = some (.inl (cI, 120, .inl (fun i => nI (cc9 i)))) := hT.2.2.2 5 (by decide)
        have b3 : w (b + 3) = some (.inl (cI, 120, .inl (fun i => nI (K 0 i)))) := hT.2.2.2 0 (by decide)
        have b4 : w (b + 4) = some (.inl (cI, 120, .inl (fun i => nI (K 1 i)))) := hT.2.2.2 1 (by decide)
        refine lv_aload_n (pc := 56) hx hb dMo_stands_56 rfl (lv_at hl 0 rfl) ?_
        refine lv_aload_n (pc := 57) hx hb dMo_stands_57 rfl (lv_at hl 0 rfl) ?_
        refine fw_get (pc := 58) (ci := 10) (v := .int (nI (11))) (C := RMo) (T := TMo) (N := 20) hx hb hW in_Mo hown hK.1 hw b0 rfl 13 (by decide) (hW _ lf_Mo_69) (fun _ h => h) rfl dMo_stands_58 ?_
        refine lv_aload_n (pc := 61) hx hb dMo_stands_61 rfl (lv_at hl 0 rfl) ?_
        refine fw_get (pc := 62) (ci := 10) (v := .int (nI (11))) (C := RMo) (T := TMo) (N := 20) hx hb hW in_Mo hown hK.1 hw b0 rfl 13 (by decide) (hW _ lf_Mo_69) (fun _ h => h) rfl dMo_stands_62 ?_
        refine lv_bipush (pc := 65) (v := (nI 11)) hx hb dMo_stands_65 (by decide) ?_
        refine lv_icmp_ne (pc := 67) (tgt := 74) hx hb dMo_stands_67 (by decide) (fun hc => absurd hc (fun h9 => h9 rfl)) (fun _ => ?_)
        refine lv_iconst (pc := 70) (v := (nI 1)) hx hb dMo_stands_70 (by decide) ?_
        refine lv_goto (pc := 71) (tgt := 88) hx hb dMo_stands_71 (by decide) ?_
        refine fw_cV (pc := 88) (As := [.int (nI (11)), .int (nI 1)]) (rest := []) ⟨hx, hb, hml, hown, hW⟩ (c_Mo_heap (k9 := 11) (u9 := 1) hT (by omega)) (cwV 2 hW (kw_V lm_Mo_63 im_Mo_heap se_Mo_heap ini_Mo cd_Mo_heap) rfl rfl rfl (by decide +kernel) ⟨Nat.le_of_ble_eq_true rfl, Nat.le_of_ble_eq_true rfl⟩) hK hw b0 rfl rfl hl.1 rfl (Nat.le_of_ble_eq_true rfl) dMo_stands_88 ⟨Nat.le_of_ble_eq_true rfl, Nat.le_of_ble_eq_true rfl⟩ (fun v w1 H locs hq hw => ?_)
        obtain ⟨rfl, hT, hn9⟩ := hq
        have b0 : w1 (b) = some (.inr (10, [.int (nI (I 0)), .ref (b + 1), .ref (b + 2), .int (nI (I 3)), .ref (b + 3), .ref (b + 4), .int (nI (I 6)), .int (nI (n)), .ref (b + 5), .ref (b + 6), .int (nI (d + 1)), .int (nI (op)), .int (nI (2)), .int (nI (11)), .ref (b + 7), .ref (b + 8), .int (nI (I 16)), .int (nI (I 17)), .int (nI (I 18)), .int (nI (I 19))])) := hT.1
        have b5 : w1 (b + 5) = some (.inl (cI, 120, .inl (fun i => nI (oo i)))) := hT.2.2.2 2 (by decide)
        have b6 : w1 (b + 6) = some (.inl (cI, 120, .inl (fun i => nI (vv i)))) := hT.2.2.2 3 (by decide)
        have b7 : w1 (b + 7) = some (.inl (cI, 120, .inl (fun i => nI (va_up tt d 11 i)))) := hT.2.2.2 4 (by decide)
        have b8 : w1 (b + 8) = some (.inl (cI, 120, .inl (fun i => nI (va_up cc9 d 1 i)))) := hT.2.2.2 5 (by decide)
        have b3 : w1 (b + 3) = some (.inl (cI, 120, .inl (fun i => nI (K 0 i)))) := hT.2.2.2 0 (by decide)
        have b4 : w1 (b + 4) = some (.inl (cI, 120, .inl (fun i => nI (K 1 i)))) := hT.2.2.2 1 (by decide)
        refine W.eq (g2 := F0 m 91 ls []) rfl ?_
        refine lv_aload_n (pc := 91) hx hb dMo_stands_91 rfl (lv_at hl 0 rfl) ?_
        refine lv_dup (pc := 92) hx hb dMo_stands_92 rfl ?_
        refine fw_get (pc := 93) (ci := 10) (v := .int (nI (op))) (C := RMo) (T := TMo) (N := 20) hx hb hW in_Mo hown hK.1 hw b0 rfl 11 (by decide) (hW _ lf_Mo_66) (fun _ h => h) rfl dMo_stands_93 ?_
        refine lv_iconst (pc := 96) (v := (nI 1)) hx hb dMo_stands_96 (by decide) ?_
        refine lv_iadd (pc := 97) hx hb dMo_stands_97 ?_
        rw [show ((nI (op) + (nI 1)) : Int32) = nI (op + 1) from (nI_add op 1)]
        refine fw_put (pc := 98) (ci := 10) (v := .int (nI (op + 1))) (ty := .int) (C := RMo) (T := TMo) (N := 20) hx hb hW in_Mo tyMo tyMo_ok nmMo hown hK.1 hw b0 rfl 11 (by decide) (hW _ lf_Mo_66) (fun _ h => h) rfl (by decide +kernel) rfl rfl (Nat.le_of_ble_eq_true rfl) dMo_stands_98 (fun H locs hw => ?_)
        obtain ⟨w2, e2⟩ : ∃ w_, w_ = fw_up w1 (b) (.inr (10, [.int (nI (I 0)), .ref (b + 1), .ref (b + 2), .int (nI (I 3)), .ref (b + 3), .ref (b + 4), .int (nI (I 6)), .int (nI (n)), .ref (b + 5), .ref (b + 6), .int (nI (d + 1)), .int (nI (op + 1)), .int (nI (2)), .int (nI (11)), .ref (b + 7), .ref (b + 8), .int (nI (I 16)), .int (nI (I 17)), .int (nI (I 18)), .int (nI (I 19))])) := ⟨_, rfl⟩
        have hw : fw_H D kCl (fw_A w (sz)) s.heap w2 (sz) H locs := by rw [e2]; exact hw
        have b5_ : w2 (b + 5) = some (.inl (cI, 120, .inl (fun i => nI (oo i)))) := by rw [e2, fw_un (by omega)]; exact b5
        have b6_ : w2 (b + 6) = some (.inl (cI, 120, .inl (fun i => nI (vv i)))) := by rw [e2, fw_un (by omega)]; exact b6
        have b7_ : w2 (b + 7) = some (.inl (cI, 120, .inl (fun i => nI (va_up tt d 11 i)))) := by rw [e2, fw_un (by omega)]; exact b7
        have b8_ : w2 (b + 8) = some (.inl (cI, 120, .inl (fun i => nI (va_up cc9 d 1 i)))) := by rw [e2, fw_un (by omega)]; exact b8
        have b3_ : w2 (b + 3) = some (.inl (cI, 120, .inl (fun i => nI (K 0 i)))) := by rw [e2, fw_un (by omega)]; exact b3
        have b4_ : w2 (b + 4) = some (.inl (cI, 120, .inl (fun i => nI (K 1 i)))) := by rw [e2, fw_un (by omega)]; exact b4
        have b0_ : w2 (b) = some (.inr (10, [.int (nI (I 0)), .ref (b + 1), .ref (b + 2), .int (nI (I 3)), .ref (b + 3), .ref (b + 4), .int (nI (I 6)), .int (nI (n)), .ref (b + 5), .ref (b + 6), .int (nI (d + 1)), .int (nI (op + 1)), .int (nI (2)), .int (nI (11)), .ref (b + 7), .ref (b + 8), .int (nI (I 16)), .int (nI (I 17)), .int (nI (I 18)), .int (nI (I 19))])) := by rw [e2]; exact fw_us _ _ _
        have b0 := b0_
        have b5 := b5_
        have b6 := b6_
        have b7 := b7_
        have b8 := b8_
        have b3 := b3_
        have b4 := b4_
        refine lv_aload_n (pc := 101) hx hb dMo_stands_101 rfl (lv_at hl 0 rfl) ?_
        refine lv_iconst (pc := 102) (v := (nI 0)) hx hb dMo_stands_102 (by decide) ?_
        refine fw_put (pc := 103) (ci := 10) (v := .int (nI 0)) (ty := .int) (C := RMo) (T := TMo) (N := 20) hx hb hW in_Mo tyMo tyMo_ok nmMo hown hK.1 hw b0 rfl 12 (by decide) (hW _ lf_Mo_60) (fun _ h => h) rfl (by decide +kernel) rfl rfl (Nat.le_of_ble_eq_true rfl) dMo_stands_103 (fun H locs hw => ?_)
        obtain ⟨w3, e3⟩ : ∃ w_, w_ = fw_up w2 (b) (.inr (10, [.int (nI (I 0)), .ref (b + 1), .ref (b + 2), .int (nI (I 3)), .ref (b + 3), .ref (b + 4), .int (nI (I 6)), .int (nI (n)), .ref (b + 5), .ref (b + 6), .int (nI (d + 1)), .int (nI (op + 1)), .int (nI 0), .int (nI (11)), .ref (b + 7), .ref (b + 8), .int (nI (I 16)), .int (nI (I 17)), .int (nI (I 18)), .int (nI (I 19))])) := ⟨_, rfl⟩
        have hw : fw_H D kCl (fw_A w (sz)) s.heap w3 (sz) H locs := by rw [e3]; exact hw
        have b5_ : w3 (b + 5) = some (.inl (cI, 120, .inl (fun i => nI (oo i)))) := by rw [e3, fw_un (by omega)]; exact b5
        have b6_ : w3 (b + 6) = some (.inl (cI, 120, .inl (fun i => nI (vv i)))) := by rw [e3, fw_un (by omega)]; exact b6
        have b7_ : w3 (b + 7) = some (.inl (cI, 120, .inl (fun i => nI (va_up tt d 11 i)))) := by rw [e3, fw_un (by omega)]; exact b7
        have b8_ : w3 (b + 8) = some (.inl (cI, 120, .inl (fun i => nI (va_up cc9 d 1 i)))) := by rw [e3, fw_un (by omega)]; exact b8
        have b3_ : w3 (b + 3) = some (.inl (cI, 120, .inl (fun i => nI (K 0 i)))) := by rw [e3, fw_un (by omega)]; exact b3
        have b4_ : w3 (b + 4) = some (.inl (cI, 120, .inl (fun i => nI (K 1 i)))) := by rw [e3, fw_un (by omega)]; exact b4
        have b0_ : w3 (b) = some (.inr (10, [.int (nI (I 0)), .ref (b + 1), .ref (b + 2), .int (nI (I 3)), .ref (b + 3), .ref (b + 4), .int (nI (I 6)), .int (nI (n)), .ref (b + 5), .ref (b + 6), .int (nI (d + 1)), .int (nI (op + 1)), .int (nI 0), .int (nI (11)), .ref (b + 7), .ref (b + 8), .int (nI (I 16)), .int (nI (I 17)), .int (nI (I 18)), .int (nI (I 19))])) := by rw [e3]; exact fw_us _ _ _
        have b0 := b0_
        have b5 := b5_
        have b6 := b6_
        have b7 := b7_
        have b8 := b8_
        have b3 := b3_
        have b4 := b4_
        have hT : moT cI cL w3 b I K S C (oo, vv, n, va_up tt d 11, va_up cc9 d 1, d + 1, 0, 11, op + 1) := hT.mk b0 b5 b6 b7 b8 (fun q h9 => by rw [e3, fw_un (by omega), e2, fw_un (by omega)])
        have hf : uSt (K 0 i) (K 1 i) (oo, vv, n, tt, cc9, d, 2, 11, op) = (true, (oo, vv, n, va_up tt d 11, va_up cc9 d 1, d + 1, 0, 11, op + 1)) := (if_pos h88).trans rfl
        refine lv_iconst (pc := 106) (v := (nI 1)) hx hb dMo_stands_106 (by decide) ?_
        exact fw_zret (pc := 107) hx hb hr hlocks hw dMo_stands_107 (by rfl) ⟨by rw [hf]; rfl, by rw [hf]; exact hT, fun q h9 => by rw [e3, fw_un (by omega), e2, fw_un (by omega), hn9 q h9]⟩
      · have b0 : w (b) = some (.inr (10, [.int (nI (I 0)), .ref (b + 1), .ref (b + 2), .int (nI (I 3)), .ref (b + 3), .ref (b + 4), .int (nI (I 6)), .int (nI (n)), .ref (b + 5), .ref (b + 6), .int (nI (d)), .int (nI (op)), .int (nI (2)), .int (nI (12)), .ref (b + 7), .ref (b + 8), .int (nI (I 16)), .int (nI (I 17)), .int (nI (I 18)), .int (nI (I 19))])) := hT.1
        have b5 : w (b + 5) = some (.inl (cI, 120, .inl (fun i => nI (oo i)))) := hT.2.2.2 2 (by decide)
        have b6 : w (b + 6) = some (.inl (cI, 120, .inl (fun i => nI (vv i)))) := hT.2.2.2 3 (by decide)
        have b7 : w (b + 7) = some (.inl (cI, 120, .inl (fun i => nI (tt i)))) := hT.2.2.2 4 (by decide)
        have b8 : w (b + 8) = some (.inl (cI, 120, .inl (fun i => nI (cc9 i)))) := hT.2.2.2 5 (by decide)
        have b3 : w (b + 3) = some (.inl (cI, 120, .inl (fun i => nI (K 0 i)))) := hT.2.2.2 0 (by decide)
        have b4 : w (b + 4) = some (.inl (cI, 120, .inl (fun i => nI (K 1 i)))) := hT.2.2.2 1 (by decide)
        refine lv_aload_n (pc := 56) hx hb dMo_stands_56 rfl (lv_at hl 0 rfl) ?_
        refine lv_aload_n (pc := 57) hx hb dMo_stands_57 rfl (lv_at hl 0 rfl) ?_
        refine fw_get (pc := 58) (ci := 10) (v := .int (nI (12))) (C := RMo) (T := TMo) (N := 20) hx hb hW in_Mo hown hK.1 hw b0 rfl 13 (by decide) (hW _ lf_Mo_69) (fun _ h => h) rfl dMo_stands_58 ?_
        refine lv_aload_n (pc := 61) hx hb dMo_stands_61 rfl (lv_at hl 0 rfl) ?_
        refine fw_get (pc := 62) (ci := 10) (v := .int (nI (12))) (C := RMo) (T := TMo) (N := 20) hx hb hW in_Mo hown hK.1 hw b0 rfl 13 (by decide) (hW _ lf_Mo_69) (fun _ h => h) rfl dMo_stands_62 ?_
        refine lv_bipush (pc := 65) (v := (nI 11)) hx hb dMo_stands_65 (by decide) ?_
        refine lv_icmp_ne (pc := 67) (tgt := 74) hx hb dMo_stands_67 (by decide) (fun _ => ?_) (fun hc => absurd hc (by decide))
        refine lv_aload_n (pc := 74) hx hb dMo_stands_74 rfl (lv_at hl 0 rfl) ?_
        refine fw_get (pc := 75) (ci := 10) (v := .int (nI (12))) (C := RMo) (T := TMo) (N := 20) hx hb hW in_Mo hown hK.1 hw b0 rfl 13 (by decide) (hW _ lf_Mo_69) (fun _ h => h) rfl dMo_stands_75 ?_
        refine lv_bipush (pc := 78) (v := (nI 12)) hx hb dMo_stands_78 (by decide) ?_
        refine lv_icmp_ne (pc := 80) (tgt := 87) hx hb dMo_stands_80 (by decide) (fun hc => absurd hc (fun h9 => h9 rfl)) (fun _ => ?_)
        refine lv_iconst (pc := 83) (v := (nI 0)) hx hb dMo_stands_83 (by decide) ?_
        refine lv_goto (pc := 84) (tgt := 88) hx hb dMo_stands_84 (by decide) ?_
        refine fw_cV (pc := 88) (As := [.int (nI (12)), .int (nI 0)]) (rest := []) ⟨hx, hb, hml, hown, hW⟩ (c_Mo_heap (k9 := 12) (u9 := 0) hT (by omega)) (cwV 2 hW (kw_V lm_Mo_63 im_Mo_heap se_Mo_heap ini_Mo cd_Mo_heap) rfl rfl rfl (by decide +kernel) ⟨Nat.le_of_ble_eq_true rfl, Nat.le_of_ble_eq_true rfl⟩) hK hw b0 rfl rfl hl.1 rfl (Nat.le_of_ble_eq_true rfl) dMo_stands_88 ⟨Nat.le_of_ble_eq_true rfl, Nat.le_of_ble_eq_true rfl⟩ (fun v w4 H locs hq hw => ?_)
        obtain ⟨rfl, hT, hn9⟩ := hq
        have b0 : w4 (b) = some (.inr (10, [.int (nI (I 0)), .ref (b + 1), .ref (b + 2), .int (nI (I 3)), .ref (b + 3), .ref (b + 4), .int (nI (I 6)), .int (nI (n)), .ref (b + 5), .ref (b + 6), .int (nI (d + 1)), .int (nI (op)), .int (nI (2)), .int (nI (12)), .ref (b + 7), .ref (b + 8), .int (nI (I 16)), .int (nI (I 17)), .int (nI (I 18)), .int (nI (I 19))])) := hT.1
        have b5 : w4 (b + 5) = some (.inl (cI, 120, .inl (fun i => nI (oo i)))) := hT.2.2.2 2 (by decide)
        have b6 : w4 (b + 6) = some (.inl (cI, 120, .inl (fun i => nI (vv i)))) := hT.2.2.2 3 (by decide)
        have b7 : w4 (b + 7) = some (.inl (cI, 120, .inl (fun i => nI (va_up tt d 12 i)))) := hT.2.2.2 4 (by decide)
        have b8 : w4 (b + 8) = some (.inl (cI, 120, .inl (fun i => nI (va_up cc9 d 0 i)))) := hT.2.2.2 5 (by decide)
        have b3 : w4 (b + 3) = some (.inl (cI, 120, .inl (fun i => nI (K 0 i)))) := hT.2.2.2 0 (by decide)
        have b4 : w4 (b + 4) = some (.inl (cI, 120, .inl (fun i => nI (K 1 i)))) := hT.2.2.2 1 (by decide)
        refine W.eq (g2 := F0 m 91 ls []) rfl ?_
        refine lv_aload_n (pc := 91) hx hb dMo_stands_91 rfl (lv_at hl 0 rfl) ?_
        refine lv_dup (pc := 92) hx hb dMo_stands_92 rfl ?_
        refine fw_get (pc := 93) (ci := 10) (v := .int (nI (op))) (C := RMo) (T := TMo) (N := 20) hx hb hW in_Mo hown hK.1 hw b0 rfl 11 (by decide) (hW _ lf_Mo_66) (fun _ h => h) rfl dMo_stands_93 ?_
        refine lv_iconst (pc := 96) (v := (nI 1)) hx hb dMo_stands_96 (by decide) ?_
        refine lv_iadd (pc := 97) hx hb dMo_stands_97 ?_
        rw [show ((nI (op) + (nI 1)) : Int32) = nI (op + 1) from (nI_add op 1)]
        refine fw_put (pc := 98) (ci := 10) (v := .int (nI (op + 1))) (ty := .int) (C := RMo) (T := TMo) (N := 20) hx hb hW in_Mo tyMo tyMo_ok nmMo hown hK.1 hw b0 rfl 11 (by decide) (hW _ lf_Mo_66) (fun _ h => h) rfl (by decide +kernel) rfl rfl (Nat.le_of_ble_eq_true rfl) dMo_stands_98 (fun H locs hw => ?_)
        obtain ⟨w5, e5⟩ : ∃ w_, w_ = fw_up w4 (b) (.inr (10, [.int (nI (I 0)), .ref (b + 1), .ref (b + 2), .int (nI (I 3)), .ref (b + 3), .ref (b + 4), .int (nI (I 6)), .int (nI (n)), .ref (b + 5), .ref (b + 6), .int (nI (d + 1)), .int (nI (op + 1)), .int (nI (2)), .int (nI (12)), .ref (b + 7), .ref (b + 8), .int (nI (I 16)), .int (nI (I 17)), .int (nI (I 18)), .int (nI (I 19))])) := ⟨_, rfl⟩
        have hw : fw_H D kCl (fw_A w (sz)) s.heap w5 (sz) H locs := by rw [e5]; exact hw
        have b5_ : w5 (b + 5) = some (.inl (cI, 120, .inl (fun i => nI (oo i)))) := by rw [e5, fw_un (by omega)]; exact b5
        have b6_ : w5 (b + 6) = some (.inl (cI, 120, .inl (fun i => nI (vv i)))) := by rw [e5, fw_un (by omega)]; exact b6
        have b7_ : w5 (b + 7) = some (.inl (cI, 120, .inl (fun i => nI (va_up tt d 12 i)))) := by rw [e5, fw_un (by omega)]; exact b7
        have b8_ : w5 (b + 8) = some (.inl (cI, 120, .inl (fun i => nI (va_up cc9 d 0 i)))) := by rw [e5, fw_un (by omega)]; exact b8
        have b3_ : w5 (b + 3) = some (.inl (cI, 120, .inl (fun i => nI (K 0 i)))) := by rw [e5, fw_un (by omega)]; exact b3
        have b4_ : w5 (b + 4) = some (.inl (cI, 120, .inl (fun i => nI (K 1 i)))) := by rw [e5, fw_un (by omega)]; exact b4
        have b0_ : w5 (b) = some (.inr (10, [.int (nI (I 0)), .ref (b + 1), .ref (b + 2), .int (nI (I 3)), .ref (b + 3), .ref (b + 4), .int (nI (I 6)), .int (nI (n)), .ref (b + 5), .ref (b + 6), .int (nI (d + 1)), .int (nI (op + 1)), .int (nI (2)), .int (nI (12)), .ref (b + 7), .ref (b + 8), .int (nI (I 16)), .int (nI (I 17)), .int (nI (I 18)), .int (nI (I 19))])) := by rw [e5]; exact fw_us _ _ _
        have b0 := b0_
        have b5 := b5_
        have b6 := b6_
        have b7 := b7_
        have b8 := b8_
        have b3 := b3_
        have b4 := b4_
        refine lv_aload_n (pc := 101) hx hb dMo_stands_101 rfl (lv_at hl 0 rfl) ?_
        refine lv_iconst (pc := 102) (v := (nI 0)) hx hb dMo_stands_102 (by decide) ?_
        refine fw_put (pc := 103) (ci := 10) (v := .int (nI 0)) (ty := .int) (C := RMo) (T := TMo) (N := 20) hx hb hW in_Mo tyMo tyMo_ok nmMo hown hK.1 hw b0 rfl 12 (by decide) (hW _ lf_Mo_60) (fun _ h => h) rfl (by decide +kernel) rfl rfl (Nat.le_of_ble_eq_true rfl) dMo_stands_103 (fun H locs hw => ?_)
        obtain ⟨w6, e6⟩ : ∃ w_, w_ = fw_up w5 (b) (.inr (10, [.int (nI (I 0)), .ref (b + 1), .ref (b + 2), .int (nI (I 3)), .ref (b + 3), .ref (b + 4), .int (nI (I 6)), .int (nI (n)), .ref (b + 5), .ref (b + 6), .int (nI (d + 1)), .int (nI (op + 1)), .int (nI 0), .int (nI (12)), .ref (b + 7), .ref (b + 8), .int (nI (I 16)), .int (nI (I 17)), .int (nI (I 18)), .int (nI (I 19))])) := ⟨_, rfl⟩
        have hw : fw_H D kCl (fw_A w (sz)) s.heap w6 (sz) H locs := by rw [e6]; exact hw
        have b5_ : w6 (b + 5) = some (.inl (cI, 120, .inl (fun i => nI (oo i)))) := by rw [e6, fw_un (by omega)]; exact b5
        have b6_ : w6 (b + 6) = some (.inl (cI, 120, .inl (fun i => nI (vv i)))) := by rw [e6, fw_un (by omega)]; exact b6
        have b7_ : w6 (b + 7) = some (.inl (cI, 120, .inl (fun i => nI (va_up tt d 12 i)))) := by rw [e6, fw_un (by omega)]; exact b7
        have b8_ : w6 (b + 8) = some (.inl (cI, 120, .inl (fun i => nI (va_up cc9 d 0 i)))) := by rw [e6, fw_un (by omega)]; exact b8
        have b3_ : w6 (b + 3) = some (.inl (cI, 120, .inl (fun i => nI (K 0 i)))) := by rw [e6, fw_un (by omega)]; exact b3
        have b4_ : w6 (b + 4) = some (.inl (cI, 120, .inl (fun i => nI (K 1 i)))) := by rw [e6, fw_un (by omega)]; exact b4
        have b0_ : w6 (b) = some (.inr (10, [.int (nI (I 0)), .ref (b + 1), .ref (b + 2), .int (nI (I 3)), .ref (b + 3), .ref (b + 4), .int (nI (I 6)), .int (nI (n)), .ref (b + 5), .ref (b + 6), .int (nI (d + 1)), .int (nI (op + 1)), .int (nI 0), .int (nI (12)), .ref (b + 7), .ref (b + 8), .int (nI (I 16)), .int (nI (I 17)), .int (nI (I 18)), .int (nI (I 19))])) := by rw [e6]; exact fw_us _ _ _
        have b0 := b0_
        have b5 := b5_
        have b6 := b6_
        have b7 := b7_
        have b8 := b8_
        have b3 := b3_
        have b4 := b4_
        have hT : moT cI cL w6 b I K S C (oo, vv, n, va_up tt d 12, va_up cc9 d 0, d + 1, 0, 12, op + 1) := hT.mk b0 b5 b6 b7 b8 (fun q h9 => by rw [e6, fw_un (by omega), e5, fw_un (by omega)])
        have hf : uSt (K 0 i) (K 1 i) (oo, vv, n, tt, cc9, d, 2, 12, op) = (true, (oo, vv, n, va_up tt d 12, va_up cc9 d 0, d + 1, 0, 12, op + 1)) := (if_pos h88).trans rfl
        refine lv_iconst (pc := 106) (v := (nI 1)) hx hb dMo_stands_106 (by decide) ?_
        exact fw_zret (pc := 107) hx hb hr hlocks hw dMo_stands_107 (by rfl) ⟨by rw [hf]; rfl, by rw [hf]; exact hT, fun q h9 => by rw [e6, fw_un (by omega), e5, fw_un (by omega), hn9 q h9]⟩
      · have b0 : w (b) = some (.inr (10, [.int (nI (I 0)), .ref (b + 1), .ref (b + 2), .int (nI (I 3)), .ref (b + 3), .ref (b + 4), .int (nI (I 6)), .int (nI (n)), .ref (b + 5), .ref (b + 6), .int (nI (d)), .int (nI (op)), .int (nI (2)), .int (nI (13)), .ref (b + 7), .ref (b + 8), .int (nI (I 16)), .int (nI (I 17)), .int (nI (I 18)), .int (nI (I 19))])) := hT.1
        have b5 : w (b + 5) = some (.inl (cI, 120, .inl (fun i => nI (oo i)))) := hT.2.2.2 2 (by decide)
        have b6 : w (b + 6) = some (.inl (cI, 120, .inl (fun i => nI (vv i)))) := hT.2.2.2 3 (by decide)
        have b7 : w (b + 7) = some (.inl (cI, 120, .inl (fun i => nI (tt i)))) := hT.2.2.2 4 (by decide)
        have b8 : w (b + 8) = some (.inl (cI, 120, .inl (fun i => nI (cc9 i)))) := hT.2.2.2 5 (by decide)
        have b3 : w (b + 3) = some (.inl (cI, 120, .inl (fun i => nI (K 0 i)))) := hT.2.2.2 0 (by decide)
        have b4 : w (b + 4) = some (.inl (cI, 120, .inl (fun i => nI (K 1 i)))) := hT.2.2.2 1 (by decide)
        refine lv_aload_n (pc := 56) hx hb dMo_stands_56 rfl (lv_at hl 0 rfl) ?_
        refine lv_aload_n (pc := 57) hx hb dMo_stands_57 rfl (lv_at hl 0 rfl) ?_
        refine fw_get (pc := 58) (ci := 10) (v := .int (nI (13))) (C := RMo) (T := TMo) (N := 20) hx hb hW in_Mo hown hK.1 hw b0 rfl 13 (by decide) (hW _ lf_Mo_69) (fun _ h => h) rfl dMo_stands_58 ?_
        refine lv_aload_n (pc := 61) hx hb dMo_stands_61 rfl (lv_at hl 0 rfl) ?_
        refine fw_get (pc := 62) (ci := 10) (v := .int (nI (13))) (C := RMo) (T := TMo) (N := 20) hx hb hW in_Mo hown hK.1 hw b0 rfl 13 (by decide) (hW _ lf_Mo_69) (fun _ h => h) rfl dMo_stands_62 ?_
        refine lv_bipush (pc := 65) (v := (nI 11)) hx hb dMo_stands_65 (by decide) ?_
        refine lv_icmp_ne (pc := 67) (tgt := 74) hx hb dMo_stands_67 (by decide) (fun _ => ?_) (fun hc => absurd hc (by decide))
        refine lv_aload_n (pc := 74) hx hb dMo_stands_74 rfl (lv_at hl 0 rfl) ?_
        refine fw_get (pc := 75) (ci := 10) (v := .int (nI (13))) (C := RMo) (T := TMo) (N := 20) hx hb hW in_Mo hown hK.1 hw b0 rfl 13 (by decide) (hW _ lf_Mo_69) (fun _ h => h) rfl dMo_stands_75 ?_
        refine lv_bipush (pc := 78) (v := (nI 12)) hx hb dMo_stands_78 (by decide) ?_
        refine lv_icmp_ne (pc := 80) (tgt := 87) hx hb dMo_stands_80 (by decide) (fun _ => ?_) (fun hc => absurd hc (by decide))
        refine lv_iconst (pc := 87) (v := (nI 2)) hx hb dMo_stands_87 (by decide) ?_
        refine fw_cV (pc := 88) (As := [.int (nI (13)), .int (nI 2)]) (rest := []) ⟨hx, hb, hml, hown, hW⟩ (c_Mo_heap (k9 := 13) (u9 := 2) hT (by omega)) (cwV 2 hW (kw_V lm_Mo_63 im_Mo_heap se_Mo_heap ini_Mo cd_Mo_heap) rfl rfl rfl (by decide +kernel) ⟨Nat.le_of_ble_eq_true rfl, Nat.le_of_ble_eq_true rfl⟩) hK hw b0 rfl rfl hl.1 rfl (Nat.le_of_ble_eq_true rfl) dMo_stands_88 ⟨Nat.le_of_ble_eq_true rfl, Nat.le_of_ble_eq_true rfl⟩ (fun v w7 H locs hq hw => ?_)
        obtain ⟨rfl, hT, hn9⟩ := hq
        have b0 : w7 (b) = some (.inr (10, [.int (nI (I 0)), .ref (b + 1), .ref (b + 2), .int (nI (I 3)), .ref (b + 3), .ref (b + 4), .int (nI (I 6)), .int (nI (n)), .ref (b + 5), .ref (b + 6), .int (nI (d + 1)), .int (nI (op)), .int (nI (2)), .int (nI (13)), .ref (b + 7), .ref (b + 8), .int (nI (I 16)), .int (nI (I 17)), .int (nI (I 18)), .int (nI (I 19))])) := hT.1
        have b5 : w7 (b + 5) = some (.inl (cI, 120, .inl (fun i => nI (oo i)))) := hT.2.2.2 2 (by decide)
        have b6 : w7 (b + 6) = some (.inl (cI, 120, .inl (fun i => nI (vv i)))) := hT.2.2.2 3 (by decide)
        have b7 : w7 (b + 7) = some (.inl (cI, 120, .inl (fun i => nI (va_up tt d 13 i)))) := hT.2.2.2 4 (by decide)
        have b8 : w7 (b + 8) = some (.inl (cI, 120, .inl (fun i => nI (va_up cc9 d 2 i)))) := hT.2.2.2 5 (by decide)
        have b3 : w7 (b + 3) = some (.inl (cI, 120, .inl (fun i => nI (K 0 i)))) := hT.2.2.2 0 (by decide)
        have b4 : w7 (b + 4) = some (.inl (cI, 120, .inl (fun i => nI (K 1 i)))) := hT.2.2.2 1 (by decide)
        refine W.eq (g2 := F0 m 91 ls []) rfl ?_
        refine lv_aload_n (pc := 91) hx hb dMo_stands_91 rfl (lv_at hl 0 rfl) ?_
        refine lv_dup (pc := 92) hx hb dMo_stands_92 rfl ?_
        refine fw_get (pc := 93) (ci := 10) (v := .int (nI (op))) (C := RMo) (T := TMo) (N := 20) hx hb hW in_Mo hown hK.1 hw b0 rfl 11 (by decide) (hW _ lf_Mo_66) (fun _ h => h) rfl dMo_stands_93 ?_
        refine lv_iconst (pc := 96) (v := (nI 1)) hx hb dMo_stands_96 (by decide) ?_
        refine lv_iadd (pc := 97) hx hb dMo_stands_97 ?_
        rw [show ((nI (op) + (nI 1)) : Int32) = nI (op + 1) from (nI_add op 1)]
        refine fw_put (pc := 98) (ci := 10) (v := .int (nI (op + 1))) (ty := .int) (C := RMo) (T := TMo) (N := 20) hx hb hW in_Mo tyMo tyMo_ok nmMo hown hK.1 hw b0 rfl 11 (by decide) (hW _ lf_Mo_66) (fun _ h => h) rfl (by decide +kernel) rfl rfl (Nat.le_of_ble_eq_true rfl) dMo_stands_98 (fun H locs hw => ?_)
        obtain ⟨w8, e8⟩ : ∃ w_, w_ = fw_up w7 (b) (.inr (10, [.int (nI (I 0)), .ref (b + 1), .ref (b + 2), .int (nI (I 3)), .ref (b + 3), .ref (b + 4), .int (nI (I 6)), .int (nI (n)), .ref (b + 5), .ref (b + 6), .int (nI (d + 1)), .int (nI (op + 1)), .int (nI (2)), .int (nI (13)), .ref (b + 7), .ref (b + 8), .int (nI (I 16)), .int (nI (I 17)), .int (nI (I 18)), .int (nI (I 19))])) := ⟨_, rfl⟩
        have hw : fw_H D kCl (fw_A w (sz)) s.heap w8 (sz) H locs := by rw [e8]; exact hw
        have b5_ : w8 (b + 5) = some (.inl (cI, 120, .inl (fun i => nI (oo i)))) := by rw [e8, fw_un (by omega)]; exact b5
        have b6_ : w8 (b + 6) = some (.inl (cI, 120, .inl (fun i => nI (vv i)))) := by rw [e8, fw_un (by omega)]; exact b6
        have b7_ : w8 (b + 7) = some (.inl (cI, 120, .inl (fun i => nI (va_up tt d 13 i)))) := by rw [e8, fw_un (by omega)]; exact b7
        have b8_ : w8 (b + 8) = some (.inl (cI, 120, .inl (fun i => nI (va_up cc9 d 2 i)))) := by rw [e8, fw_un (by omega)]; exact b8
        have b3_ : w8 (b + 3) = some (.inl (cI, 120, .inl (fun i => nI (K 0 i)))) := by rw [e8, fw_un (by omega)]; exact b3
        have b4_ : w8 (b + 4) = some (.inl (cI, 120, .inl (fun i => nI (K 1 i)))) := by rw [e8, fw_un (by omega)]; exact b4
        have b0_ : w8 (b) = some (.inr (10, [.int (nI (I 0)), .ref (b + 1), .ref (b + 2), .int (nI (I 3)), .ref (b + 3), .ref (b + 4), .int (nI (I 6)), .int (nI (n)), .ref (b + 5), .ref (b + 6), .int (nI (d + 1)), .int (nI (op + 1)), .int (nI (2)), .int (nI (13)), .ref (b + 7), .ref (b + 8), .int (nI (I 16)), .int (nI (I 17)), .int (nI (I 18)), .int (nI (I 19))])) := by rw [e8]; exact fw_us _ _ _
        have b0 := b0_
        have b5 := b5_
        have b6 := b6_
        have b7 := b7_
        have b8 := b8_
        have b3 := b3_
        have b4 := b4_
        refine lv_aload_n (pc := 101) hx hb dMo_stands_101 rfl (lv_at hl 0 rfl) ?_
        refine lv_iconst (pc := 102) (v := (nI 0)) hx hb dMo_stands_102 (by decide) ?_
        refine fw_put (pc := 103) (ci := 10) (v := .int (nI 0)) (ty := .int) (C := RMo) (T := TMo) (N := 20) hx hb hW in_Mo tyMo tyMo_ok nmMo hown hK.1 hw b0 rfl 12 (by decide) (hW _ lf_Mo_60) (fun _ h => h) rfl (by decide +kernel) rfl rfl (Nat.le_of_ble_eq_true rfl) dMo_stands_103 (fun H locs hw => ?_)
        obtain ⟨w9, e9⟩ : ∃ w_, w_ = fw_up w8 (b) (.inr (10, [.int (nI (I 0)), .ref (b + 1), .ref (b + 2), .int (nI (I 3)), .ref (b + 3), .ref (b + 4), .int (nI (I 6)), .int (nI (n)), .ref (b + 5), .ref (b + 6), .int (nI (d + 1)), .int (nI (op + 1)), .int (nI 0), .int (nI (13)), .ref (b + 7), .ref (b + 8), .int (nI (I 16)), .int (nI (I 17)), .int (nI (I 18)), .int (nI (I 19))])) := ⟨_, rfl⟩
        have hw : fw_H D kCl (fw_A w (sz)) s.heap w9 (sz) H locs := by rw [e9]; exact hw
        have b5_ : w9 (b + 5) = some (.inl (cI, 120, .inl (fun i => nI (oo i)))) := by rw [e9, fw_un (by omega)]; exact b5
        have b6_ : w9 (b + 6) = some (.inl (cI, 120, .inl (fun i => nI (vv i)))) := by rw [e9, fw_un (by omega)]; exact b6
        have b7_ : w9 (b + 7) = some (.inl (cI, 120, .inl (fun i => nI (va_up tt d 13 i)))) := by rw [e9, fw_un (by omega)]; exact b7
        have b8_ : w9 (b + 8) = some (.inl (cI, 120, .inl (fun i => nI (va_up cc9 d 2 i)))) := by rw [e9, fw_un (by omega)]; exact b8
        have b3_ : w9 (b + 3) = some (.inl (cI, 120, .inl (fun i => nI (K 0 i)))) := by rw [e9, fw_un (by omega)]; exact b3
        have b4_ : w9 (b + 4) = some (.inl (cI, 120, .inl (fun i => nI (K 1 i)))) := by rw [e9, fw_un (by omega)]; exact b4
        have b0_ : w9 (b) = some (.inr (10, [.int (nI (I 0)), .ref (b + 1), .ref (b + 2), .int (nI (I 3)), .ref (b + 3), .ref (b + 4), .int (nI (I 6)), .int (nI (n)), .ref (b + 5), .ref (b + 6), .int (nI (d + 1)), .int (nI (op + 1)), .int (nI 0), .int (nI (13)), .ref (b + 7), .ref (b + 8), .int (nI (I 16)), .int (nI (I 17)), .int (nI (I 18)), .int (nI (I 19))])) := by rw [e9]; exact fw_us _ _ _
        have b0 := b0_
        have b5 := b5_
        have b6 := b6_
        have b7 := b7_
        have b8 := b8_
        have b3 := b3_
        have b4 := b4_
        have hT : moT cI cL w9 b I K S C (oo, vv, n, va_up tt d 13, va_up cc9 d 2, d + 1, 0, 13, op + 1) := hT.mk b0 b5 b6 b7 b8 (fun q h9 => by rw [e9, fw_un (by omega), e8, fw_un (by omega)])
        have hf : uSt (K 0 i) (K 1 i) (oo, vv, n, tt, cc9, d, 2, 13, op) = (true, (oo, vv, n, va_up tt d 13, va_up cc9 d 2, d + 1, 0, 13, op + 1)) := (if_pos h88).trans rfl
        refine lv_iconst (pc := 106) (v := (nI 1)) hx hb dMo_stands_106 (by decide) ?_
        exact fw_zret (pc := 107) hx hb hr hlocks hw dMo_stands_107 (by rfl) ⟨by rw [hf]; rfl, by rw [hf]; exact hT, fun q h9 => by rw [e9, fw_un (by omega), e8, fw_un (by omega), hn9 q h9]⟩
    · have h88 : ¬ K 0 i = 8 := fun h9 => h8 (by rw [h9])
      have hf : uSt (K 0 i) (K 1 i) (oo, vv, n, tt, cc9, d, 2, cl, op) = (false, (oo, vv, n, tt, cc9, d, 2, cl, op)) := if_neg h88
      refine lv_iconst (pc := 54) (v := (nI 0)) hx hb dMo_stands_54 (by decide) ?_
      exact fw_zret (pc := 55) hx hb hr hlocks hw dMo_stands_55 (by rfl) ⟨by rw [hf]; rfl, by rw [hf]; exact hT, fun q _ => rfl⟩
end MO16
