/-- the state of a Translator: operations, operands, how many; what waits, its commas, how many; what is expected -/
abbrev TS : Type := (Nat → Nat) × (Nat → Nat) × Nat × (Nat → Nat) × (Nat → Nat) × Nat × Nat
def trS (cI : ClassId) (w : fw_W) (tr : Nat) (s : TS) : Prop :=
  w tr = some (.inr (7, [.ref (tr + 1), .ref (tr + 4), .ref (tr + 5), .int (nI s.2.2.2.2.2.1), .int (nI s.2.2.2.2.2.2)])) ∧ w (tr + 1) = some (.inr (1, [.ref (tr + 1 + 1), .ref (tr + 1 + 2), .int (nI s.2.2.1)])) ∧ w (tr + 1 + 1) = some (.inl (cI, 120, .inl (fun i => nI (s.1 i)))) ∧ w (tr + 1 + 2) = some (.inl (cI, 120, .inl (fun i => nI (s.2.1 i)))) ∧ w (tr + 4) = some (.inl (cI, 120, .inl (fun i => nI (s.2.2.2.1 i)))) ∧ w (tr + 5) = some (.inl (cI, 120, .inl (fun i => nI (s.2.2.2.2.1 i))))
def tCm : TS → Bool × TS
  | (o, v, n, t, c, d, x) => match rl 1 t d o v n with
    | (o, v, n, d1) => if d1 = 0 ∨ c (d1 - 1) = 0 then (false, (o, v, n, t, c, d1, x)) else (true, (o, v, n, t, va_up c (d1 - 1) (c (d1 - 1) - 1), d1, 0))
def tCl : TS → Bool × TS
  | (o, v, n, t, c, d, x) => match rl 1 t d o v n with
    | (o, v, n, d1) => if d1 = 0 ∨ c (d1 - 1) ≠ 0 then (false, (o, v, n, t, c, d1, x)) else if t (d1 - 1) = 8 then (true, (o, v, n, t, c, d1 - 1, x)) else (true, (va_up o n (t (d1 - 1)), va_up v n 0, n + 1, t, c, d1 - 1, x))
def tPu (k x' : Nat) : TS → TS
  | (o, v, n, t, c, d, _) => (o, v, n, va_up t d k, va_up c d (kCm k), d + 1, x')
def tOd (k u : Nat) : TS → Bool × TS
  | (o, v, n, t, c, d, x) => match k with
    | 0 => (true, (va_up o n 0, va_up v n u, n + 1, t, c, d, 1))
    | 1 => (true, (va_up o n 1, va_up v n u, n + 1, t, c, d, 1))
    | 3 => (true, tPu 14 x (o, v, n, t, c, d, x))
    | 8 => (true, tPu 8 x (o, v, n, t, c, d, x))
    | 11 => (true, tPu 11 2 (o, v, n, t, c, d, x))
    | 12 => (true, tPu 12 2 (o, v, n, t, c, d, x))
    | 13 => (true, tPu 13 2 (o, v, n, t, c, d, x))
    | _ => (false, (o, v, n, t, c, d, x))
def tRp (bd k : Nat) : TS → Bool × TS
  | (o, v, n, t, c, d, _) => match rl bd t d o v n with
    | (o, v, n, d1) => (true, (o, v, n, va_up t d1 k, va_up c d1 (kCm k), d1 + 1, 0))
def tOr (k : Nat) (s : TS) : Bool × TS :=
  match k with
  | 2 => tRp 1 2 s
  | 3 => tRp 1 3 s
  | 4 => tRp 2 4 s
  | 5 => tRp 2 5 s
  | 6 => tRp 2 6 s
  | 7 => (true, tPu 7 0 s)
  | 9 => tCl s
  | 10 => tCm s
  | _ => (false, s)
def tAc (k u : Nat) : TS → Bool × TS
  | (o, v, n, t, c, d, x) => match x with
    | 0 => tOd k u (o, v, n, t, c, d, 0)
    | 1 => tOr k (o, v, n, t, c, d, 1)
    | _ => (decide (k = 8), (o, v, n, t, c, d, 0))
theorem tCm_eq {o v t c o1 v1 : Nat → Nat} {n d x n1 d1 : Nat} (hr : rl 1 t d o v n = (o1, v1, n1, d1)) : tCm (o, v, n, t, c, d, x) = if d1 = 0 ∨ c (d1 - 1) = 0 then (false, (o1, v1, n1, t, c, d1, x)) else (true, (o1, v1, n1, t, va_up c (d1 - 1) (c (d1 - 1) - 1), d1, 0)) := by
  simp only [tCm, hr]
theorem tCl_eq {o v t c o1 v1 : Nat → Nat} {n d x n1 d1 : Nat} (hr : rl 1 t d o v n = (o1, v1, n1, d1)) : tCl (o, v, n, t, c, d, x) = if d1 = 0 ∨ c (d1 - 1) ≠ 0 then (false, (o1, v1, n1, t, c, d1, x)) else if t (d1 - 1) = 8 then (true, (o1, v1, n1, t, c, d1 - 1, x)) else (true, (va_up o1 n1 (t (d1 - 1)), va_up v1 n1 0, n1 + 1, t, c, d1 - 1, x)) := by
  simp only [tCl, hr]
theorem tRp_eq {o v t c o1 v1 : Nat → Nat} {bd k n d x n1 d1 : Nat} (hr : rl bd t d o v n = (o1, v1, n1, d1)) : tRp bd k (o, v, n, t, c, d, x) = (true, (o1, v1, n1, va_up t d1 k, va_up c d1 (kCm k), d1 + 1, 0)) := by
  simp only [tRp, hr]
theorem rl_sum {bd : Nat} {t : Nat → Nat} {d n n1 d1 : Nat} {o v o1 v1 : Nat → Nat} (h : rl bd t d o v n = (o1, v1, n1, d1)) : n1 + d1 = n + d ∧ d1 ≤ d := by
  induction d generalizing o v n with
  | zero => cases h; exact ⟨rfl, Nat.le_refl _⟩
  | succ d ih =>
    by_cases hb : bd ≤ kBi (t d)
    · rw [rl_yes hb] at h
      have := ih h
      omega
    · rw [rl_no hb] at h
      cases h
      exact ⟨rfl, Nat.le_refl _⟩
/-! BigCalculator.Translator, second part. Written by wip/gen/trans2.py. -/
section TR2
variable {l : Launch} {D : va_G} {cI cL cQ : ClassId} {sz tO tB tC : Nat} {sa : Nat → Nat} {w : fw_W}
set_option maxHeartbeats 4000000 in
set_option maxRecDepth 100000 in
theorem c_Tr_acceptComma {tr n d x : Nat} {oo vv tt cc9 : Nat → Nat} (hS : trS cI w tr (oo, vv, n, tt, cc9, d, x)) (hnd : n + d ≤ 120) (ht : ∀ i, i < d → tt i < 15) (hcb : ∀ i, i < d → cc9 i < 3) : fw_C l yTr_acceptComma (Cond.code yTr_acceptComma cTr_acceptComma 1 (some FieldType.boolean) :: kWs) ({ frames := 2, cells := 0, slots := 0, locals := 43 } : Room) D kCl (kty cI cL cQ) (kz tO tB tC sa) [.ref tr] (sz) w 0 0 (fun v w' => v = some (.int (nI (if (tCm (oo, vv, n, tt, cc9, d, x)).1 = true then 1 else 0))) ∧ trS cI w' tr (tCm (oo, vv, n, tt, cc9, d, x)).2 ∧ ∀ q, q < tr ∨ tr + 6 ≤ q → w' q = w q) := by
  refine fw_ofW (cc := cTr_acceptComma) (maxL := 1) (ret := (some FieldType.boolean)) (by decide) rfl (Nat.le_of_ble_eq_true rfl) ?_
  intro p e s m args below meth c hx hb hr hts hown hlocks hname hml hK H ls hw hl
  have hW : ∀ w ∈ kWs, w.before args s = true := fun w h => hts w (List.mem_cons_of_mem _ h)
  have hown : s.vm.findClass RTr = some m.cls := hown
  have hl : lv_has ls 1 [(0, .ref tr)] := hl
  have h : w (tr) = some (.inr (7, [.ref (tr + 1), .ref (tr + 4), .ref (tr + 5), .int (nI (d)), .int (nI (x))])) := hS.1
  have hc : w (tr + 1) = some (.inr (1, [.ref (tr + 1 + 1), .ref (tr + 1 + 2), .int (nI (n))])) := hS.2.1
  have h1 : w (tr + 1 + 1) = some (.inl (cI, 120, .inl (fun i => nI (oo i)))) := hS.2.2.1
  have h2 : w (tr + 1 + 2) = some (.inl (cI, 120, .inl (fun i => nI (vv i)))) := hS.2.2.2.1
  have h4 : w (tr + 4) = some (.inl (cI, 120, .inl (fun i => nI (tt i)))) := hS.2.2.2.2.1
  have h5 : w (tr + 5) = some (.inl (cI, 120, .inl (fun i => nI (cc9 i)))) := hS.2.2.2.2.2
  refine lv_aload_n (pc := 0) hx hb dTr_acceptComma_0 rfl (lv_at hl 0 rfl) ?_
  refine lv_iconst (pc := 1) (v := (nI 1)) hx hb dTr_acceptComma_1 (by decide) ?_
  refine fw_cV (pc := 2) (As := [.int (nI 1)]) (rest := []) ⟨hx, hb, hml, hown, hW⟩ (c_Tr_release (bd := 1) (by decide) (by omega) ht h hc h1 h2 h4) (cwV 1 hW (kw_V lm_Tr_48 im_Tr_release se_Tr_release ini_Tr cd_Tr_release) rfl rfl rfl (by decide +kernel) ⟨Nat.le_of_ble_eq_true rfl, Nat.le_of_ble_eq_true rfl⟩) hK hw h rfl rfl hl.1 rfl (Nat.le_of_ble_eq_true rfl) dTr_acceptComma_2 ⟨Nat.le_of_ble_eq_true rfl, Nat.le_of_ble_eq_true rfl⟩ (fun v w1 H locs hq hw => ?_)
  obtain ⟨o1, v1, n1, d1, hrl⟩ : ∃ o1 v1 n1 d1, rl (1) tt d oo vv n = (o1, v1, n1, d1) := ⟨_, _, _, _, rfl⟩
  have hrs := rl_sum hrl
  rw [hrl] at hq
  obtain ⟨rfl, h, hc, h1, h2, rf9⟩ := hq
  have h4_ : w1 (tr + 4) = some (.inl (cI, 120, .inl (fun i => nI (tt i)))) := (rf9 _ (by omega)).trans h4
  have h5_ : w1 (tr + 5) = some (.inl (cI, 120, .inl (fun i => nI (cc9 i)))) := (rf9 _ (by omega)).trans h5
  have h4 := h4_
  have h5 := h5_
  have h : w1 (tr) = some (.inr (7, [.ref (tr + 1), .ref (tr + 4), .ref (tr + 5), .int (nI (d1)), .int (nI (x))])) := h
  have hc : w1 (tr + 1) = some (.inr (1, [.ref (tr + 1 + 1), .ref (tr + 1 + 2), .int (nI (n1))])) := hc
  have h1 : w1 (tr + 1 + 1) = some (.inl (cI, 120, .inl (fun i => nI (o1 i)))) := h1
  have h2 : w1 (tr + 1 + 2) = some (.inl (cI, 120, .inl (fun i => nI (v1 i)))) := h2
  refine W.eq (g2 := F0 m 5 ls []) rfl ?_
  refine lv_aload_n (pc := 5) hx hb dTr_acceptComma_5 rfl (lv_at hl 0 rfl) ?_
  refine fw_get (pc := 6) (ci := 7) (v := .int (nI (d1))) (C := RTr) (T := TTr) (N := 5) hx hb hW in_Tr hown hK.1 hw h rfl 3 (by decide) (hW _ lf_Tr_25) (fun _ h => h) rfl dTr_acceptComma_6 ?_
  refine lv_if_eq (pc := 9) (tgt := 26) hx hb dTr_acceptComma_9 (by decide) (fun hz => ?_) (fun hz => ?_)
  · have hd0 : d1 = 0 := Classical.byContradiction fun h9 => nI_ne0 (by omega) (by omega) hz
    have hf : tCm (oo, vv, n, tt, cc9, d, x) = (false, (o1, v1, n1, tt, cc9, d1, x)) := (tCm_eq hrl).trans (if_pos (Or.inl hd0))
    refine lv_iconst (pc := 26) (v := (nI 0)) hx hb dTr_acceptComma_26 (by decide) ?_
    exact fw_zret (pc := 27) hx hb hr hlocks hw dTr_acceptComma_27 (by rfl) ⟨by rw [hf]; rfl, by rw [hf]; exact ⟨h, hc, h1, h2, h4, h5⟩, fun q hq => rf9 q (by omega)⟩
  · have hd0 : ¬ d1 = 0 := fun h9 => hz (by rw [h9]; rfl)
    have hc3 := hcb (d1 - 1) (by omega)
    refine lv_aload_n (pc := 12) hx hb dTr_acceptComma_12 rfl (lv_at hl 0 rfl) ?_
    refine fw_get (pc := 13) (ci := 7) (v := .ref (tr + 5)) (C := RTr) (T := TTr) (N := 5) hx hb hW in_Tr hown hK.1 hw h rfl 2 (by decide) (hW _ lf_Tr_22) (fun _ h => h) rfl dTr_acceptComma_13 ?_
    refine lv_aload_n (pc := 16) hx hb dTr_acceptComma_16 rfl (lv_at hl 0 rfl) ?_
    refine fw_get (pc := 17) (ci := 7) (v := .int (nI (d1))) (C := RTr) (T := TTr) (N := 5) hx hb hW in_Tr hown hK.1 hw h rfl 3 (by decide) (hW _ lf_Tr_25) (fun _ h => h) rfl dTr_acceptComma_17 ?_
    refine lv_iconst (pc := 20) (v := (nI 1)) hx hb dTr_acceptComma_20 (by decide) ?_
    refine lv_isub (pc := 21) hx hb dTr_acceptComma_21 ?_
    rw [show ((nI (d1) - (nI 1)) : Int32) = nI (d1 - 1) from (nI_subL (by omega))]
    refine fw_ialdN (pc := 22) (x := nI (cc9 (d1 - 1))) hx hb hK.1 hw 0 h5 rfl (d1 - 1) (show d1 - 1 < 120 by omega) (by decide) rfl dTr_acceptComma_22 ?_
    refine lv_if_ne (pc := 23) (tgt := 28) hx hb dTr_acceptComma_23 (by decide) (fun hy => ?_) (fun hy => ?_)
    · have hc0 : ¬ cc9 (d1 - 1) = 0 := fun h9 => hy (by rw [h9]; rfl)
      have hf : tCm (oo, vv, n, tt, cc9, d, x) = (true, (o1, v1, n1, tt, va_up cc9 (d1 - 1) (cc9 (d1 - 1) - 1), d1, 0)) := (tCm_eq hrl).trans (if_neg (fun h9 => Or.elim h9 hd0 hc0))
      refine lv_aload_n (pc := 28) hx hb dTr_acceptComma_28 rfl (lv_at hl 0 rfl) ?_
      refine fw_get (pc := 29) (ci := 7) (v := .ref (tr + 5)) (C := RTr) (T := TTr) (N := 5) hx hb hW in_Tr hown hK.1 hw h rfl 2 (by decide) (hW _ lf_Tr_22) (fun _ h => h) rfl dTr_acceptComma_29 ?_
      refine lv_aload_n (pc := 32) hx hb dTr_acceptComma_32 rfl (lv_at hl 0 rfl) ?_
      refine fw_get (pc := 33) (ci := 7) (v := .int (nI (d1))) (C := RTr) (T := TTr) (N := 5) hx hb hW in_Tr hown hK.1 hw h rfl 3 (by decide) (hW _ lf_Tr_25) (fun _ h => h) rfl dTr_acceptComma_33 ?_
      refine lv_iconst (pc := 36) (v := (nI 1)) hx hb dTr_acceptComma_36 (by decide) ?_
      refine lv_isub (pc := 37) hx hb dTr_acceptComma_37 ?_
      rw [show ((nI (d1) - (nI 1)) : Int32) = nI (d1 - 1) from (nI_subL (by omega))]
      refine lv_dup2_11 (pc := 38) hx hb dTr_acceptComma_38 rfl rfl ?_
      refine fw_ialdN (pc := 39) (x := nI (cc9 (d1 - 1))) hx hb hK.1 hw 0 h5 rfl (d1 - 1) (show d1 - 1 < 120 by omega) (by decide) rfl dTr_acceptComma_39 ?_
      refine lv_iconst (pc := 40) (v := (nI 1)) hx hb dTr_acceptComma_40 (by decide) ?_
      refine lv_isub (pc := 41) hx hb dTr_acceptComma_41 ?_
      rw [show ((nI (cc9 (d1 - 1)) - (nI 1)) : Int32) = nI (cc9 (d1 - 1) - 1) from (nI_subL (by omega))]
      refine fw_iastN (pc := 42) (f2 := fun i => nI (va_up cc9 (d1 - 1) (cc9 (d1 - 1) - 1) i)) hx hb hK.1 hw 0 h5 rfl (d1 - 1) (show d1 - 1 < 120 by omega) (by decide) (nI_up _ _ _) dTr_acceptComma_42 (fun H locs hw => ?_)
      obtain ⟨w2, e2⟩ : ∃ w_, w_ = fw_up w1 (tr + 5) (.inl (cI, 120, .inl (fun i => nI (va_up cc9 (d1 - 1) (cc9 (d1 - 1) - 1) i)))) := ⟨_, rfl⟩
      have hw : fw_H D kCl (fw_A w (sz)) s.heap w2 (sz) H locs := by rw [e2]; exact hw
      have h4_ : w2 (tr + 4) = some (.inl (cI, 120, .inl (fun i => nI (tt i)))) := by rw [e2, fw_un (by omega)]; exact h4
      have h_ : w2 (tr) = some (.inr (7, [.ref (tr + 1), .ref (tr + 4), .ref (tr + 5), .int (nI (d1)), .int (nI (x))])) := by rw [e2, fw_un (by omega)]; exact h
      have hc_ : w2 (tr + 1) = some (.inr (1, [.ref (tr + 1 + 1), .ref (tr + 1 + 2), .int (nI (n1))])) := by rw [e2, fw_un (by omega)]; exact hc
      have h1_ : w2 (tr + 1 + 1) = some (.inl (cI, 120, .inl (fun i => nI (o1 i)))) := by rw [e2, fw_un (by omega)]; exact h1
      have h2_ : w2 (tr + 1 + 2) = some (.inl (cI, 120, .inl (fun i => nI (v1 i)))) := by rw [e2, fw_un (by omega)]; exact h2
      have h5_ : w2 (tr + 5) = some (.inl (cI, 120, .inl (fun i => nI (va_up cc9 (d1 - 1) (cc9 (d1 - 1) - 1) i)))) := by rw [e2]; exact fw_us _ _ _
      have h4 := h4_
      have h5 := h5_
      have h := h_
      have hc := hc_
      have h1 := h1_
      have h2 := h2_
      refine lv_aload_n (pc := 43) hx hb dTr_acceptComma_43 rfl (lv_at hl 0 rfl) ?_
      refine lv_iconst (pc := 44) (v := (nI 0)) hx hb dTr_acceptComma_44 (by decide) ?_
      refine fw_put (pc := 45) (ci := 7) (v := .int (nI 0)) (ty := .int) (C := RTr) (T := TTr) (N := 5) hx hb hW in_Tr tyTr tyTr_ok nmTr hown hK.1 hw h rfl 4 (by decide) (hW _ lf_Tr_29) (fun _ h => h) rfl (by decide +kernel) rfl rfl (Nat.le_of_ble_eq_true rfl) dTr_acceptComma_45 (fun H locs hw => ?_)
      obtain ⟨w3, e3⟩ : ∃ w_, w_ = fw_up w2 (tr) (.inr (7, [.ref (tr + 1), .ref (tr + 4), .ref (tr + 5), .int (nI (d1)), .int (nI 0)])) := ⟨_, rfl⟩
      have hw : fw_H D kCl (fw_A w (sz)) s.heap w3 (sz) H locs := by rw [e3]; exact hw
      have h4_ : w3 (tr + 4) = some (.inl (cI, 120, .inl (fun i => nI (tt i)))) := by rw [e3, fw_un (by omega)]; exact h4
      have h5_ : w3 (tr + 5) = some (.inl (cI, 120, .inl (fun i => nI (va_up cc9 (d1 - 1) (cc9 (d1 - 1) - 1) i)))) := by rw [e3, fw_un (by omega)]; exact h5
      have hc_ : w3 (tr + 1) = some (.inr (1, [.ref (tr + 1 + 1), .ref (tr + 1 + 2), .int (nI (n1))])) := by rw [e3, fw_un (by omega)]; exact hc
      have h1_ : w3 (tr + 1 + 1) = some (.inl (cI, 120, .inl (fun i => nI (o1 i)))) := by rw [e3, fw_un (fw_neK h1 h)]; exact h1
      have h2_ : w3 (tr + 1 + 2) = some (.inl (cI, 120, .inl (fun i => nI (v1 i)))) := by rw [e3, fw_un (fw_neK h2 h)]; exact h2
      have h_ : w3 (tr) = some (.inr (7, [.ref (tr + 1), .ref (tr + 4), .ref (tr + 5), .int (nI (d1)), .int (nI 0)])) := by rw [e3]; exact fw_us _ _ _
      have h4 := h4_
      have h5 := h5_
      have h := h_
      have hc := hc_
      have h1 := h1_
      have h2 := h2_
      refine lv_iconst (pc := 48) (v := (nI 1)) hx hb dTr_acceptComma_48 (by decide) ?_
      exact fw_zret (pc := 49) hx hb hr hlocks hw dTr_acceptComma_49 (by rfl) ⟨by rw [hf]; rfl, by rw [hf]; exact ⟨h, hc, h1, h2, h4, h5⟩, fun q hq => by rw [e3, fw_un (by omega), e2, fw_un (by omega), rf9 q (by omega)]⟩
    · have hc0 : cc9 (d1 - 1) = 0 := (nI_eq (b := 0) (by omega) (by decide)).mp hy
      have hf : tCm (oo, vv, n, tt, cc9, d, x) = (false, (o1, v1, n1, tt, cc9, d1, x)) := (tCm_eq hrl).trans (if_pos (Or.inr hc0))
      refine lv_iconst (pc := 26) (v := (nI 0)) hx hb dTr_acceptComma_26 (by decide) ?_
      exact fw_zret (pc := 27) hx hb hr hlocks hw dTr_acceptComma_27 (by rfl) ⟨by rw [hf]; rfl, by rw [hf]; exact ⟨h, hc, h1, h2, h4, h5⟩, fun q hq => rf9 q (by omega)⟩

set_option maxHeartbeats 4000000 in
set_option maxRecDepth 100000 in
theorem c_Tr_acceptClose {tr n d x : Nat} {oo vv tt cc9 : Nat → Nat} (hS : trS cI w tr (oo, vv, n, tt, cc9, d, x)) (hnd : n + d ≤ 120) (ht : ∀ i, i < d → tt i < 15) (hcb : ∀ i, i < d → cc9 i < 3) : fw_C l yTr_acceptClose (Cond.code yTr_acceptClose cTr_acceptClose 1 (some FieldType.boolean) :: kWs) ({ frames := 2, cells := 0, slots := 0, locals := 43 } : Room) D kCl (kty cI cL cQ) (kz tO tB tC sa) [.ref tr] (sz) w 0 0 (fun v w' => v = some (.int (nI (if (tCl (oo, vv, n, tt, cc9, d, x)).1 = true then 1 else 0))) ∧ trS cI w' tr (tCl (oo, vv, n, tt, cc9, d, x)).2 ∧ ∀ q, q < tr ∨ tr + 6 ≤ q → w' q = w q) := by
  refine fw_ofW (cc := cTr_acceptClose) (maxL := 1) (ret := (some FieldType.boolean)) (by decide) rfl (Nat.le_of_ble_eq_true rfl) ?_
  intro p e s m args below meth c hx hb hr hts hown hlocks hname hml hK H ls hw hl
  have hW : ∀ w ∈ kWs, w.before args s = true := fun w h => hts w (List.mem_cons_of_mem _ h)
  have hown : s.vm.findClass RTr = some m.cls := hown
  have hl : lv_has ls 1 [(0, .ref tr)] := hl
  have h : w (tr) = some (.inr (7, [.ref (tr + 1), .ref (tr + 4), .ref (tr + 5), .int (nI (d)), .int (nI (x))])) := hS.1
  have hc : w (tr + 1) = some (.inr (1, [.ref (tr + 1 + 1), .ref (tr + 1 + 2), .int (nI (n))])) := hS.2.1
  have h1 : w (tr + 1 + 1) = some (.inl (cI, 120, .inl (fun i => nI (oo i)))) := hS.2.2.1
  have h2 : w (tr + 1 + 2) = some (.inl (cI, 120, .inl (fun i => nI (vv i)))) := hS.2.2.2.1
  have h4 : w (tr + 4) = some (.inl (cI, 120, .inl (fun i => nI (tt i)))) := hS.2.2.2.2.1
  have h5 : w (tr + 5) = some (.inl (cI, 120, .inl (fun i => nI (cc9 i)))) := hS.2.2.2.2.2
  refine lv_aload_n (pc := 0) hx hb dTr_acceptClose_0 rfl (lv_at hl 0 rfl) ?_
  refine lv_iconst (pc := 1) (v := (nI 1)) hx hb dTr_acceptClose_1 (by decide) ?_
  refine fw_cV (pc := 2) (As := [.int (nI 1)]) (rest := []) ⟨hx, hb, hml, hown, hW⟩ (c_Tr_release (bd := 1) (by decide) (by omega) ht h hc h1 h2 h4) (cwV 1 hW (kw_V lm_Tr_48 im_Tr_release se_Tr_release ini_Tr cd_Tr_release) rfl rfl rfl (by decide +kernel) ⟨Nat.le_of_ble_eq_true rfl, Nat.le_of_ble_eq_true rfl⟩) hK hw h rfl rfl hl.1 rfl (Nat.le_of_ble_eq_true rfl) dTr_acceptClose_2 ⟨Nat.le_of_ble_eq_true rfl, Nat.le_of_ble_eq_true rfl⟩ (fun v w1 H locs hq hw => ?_)
  obtain ⟨o1, v1, n1, d1, hrl⟩ : ∃ o1 v1 n1 d1, rl (1) tt d oo vv n = (o1, v1, n1, d1) := ⟨_, _, _, _, rfl⟩
  have hrs := rl_sum hrl
  rw [hrl] at hq
  obtain ⟨rfl, h, hc, h1, h2, rf9⟩ := hq
  have h4_ : w1 (tr + 4) = some (.inl (cI, 120, .inl (fun i => nI (tt i)))) := (rf9 _ (by omega)).trans h4
  have h5_ : w1 (tr + 5) = some (.inl (cI, 120, .inl (fun i => nI (cc9 i)))) := (rf9 _ (by omega)).trans h5
  have h4 := h4_
  have h5 := h5_
  have h : w1 (tr) = some (.inr (7, [.ref (tr + 1), .ref (tr + 4), .ref (tr + 5), .int (nI (d1)), .int (nI (x))])) := h
  have hc : w1 (tr + 1) = some (.inr (1, [.ref (tr + 1 + 1), .ref (tr + 1 + 2), .int (nI (n1))])) := hc
  have h1 : w1 (tr + 1 + 1) = some (.inl (cI, 120, .inl (fun i => nI (o1 i)))) := h1
  have h2 : w1 (tr + 1 + 2) = some (.inl (cI, 120, .inl (fun i => nI (v1 i)))) := h2
  refine W.eq (g2 := F0 m 5 ls []) rfl ?_
  refine lv_aload_n (pc := 5) hx hb dTr_acceptClose_5 rfl (lv_at hl 0 rfl) ?_
  refine fw_get (pc := 6) (ci := 7) (v := .int (nI (d1))) (C := RTr) (T := TTr) (N := 5) hx hb hW in_Tr hown hK.1 hw h rfl 3 (by decide) (hW _ lf_Tr_25) (fun _ h => h) rfl dTr_acceptClose_6 ?_
  refine lv_if_eq (pc := 9) (tgt := 26) hx hb dTr_acceptClose_9 (by decide) (fun hz => ?_) (fun hz => ?_)
  · have hd0 : d1 = 0 := Classical.byContradiction fun h9 => nI_ne0 (by omega) (by omega) hz
    have hf : tCl (oo, vv, n, tt, cc9, d, x) = (false, (o1, v1, n1, tt, cc9, d1, x)) := (tCl_eq hrl).trans (if_pos (Or.inl hd0))
    refine lv_iconst (pc := 26) (v := (nI 0)) hx hb dTr_acceptClose_26 (by decide) ?_
    exact fw_zret (pc := 27) hx hb hr hlocks hw dTr_acceptClose_27 (by rfl) ⟨by rw [hf]; rfl, by rw [hf]; exact ⟨h, hc, h1, h2, h4, h5⟩, fun q hq => rf9 q (by omega)⟩
  · have hd0 : ¬ d1 = 0 := fun h9 => hz (by rw [h9]; rfl)
    have hc3 := hcb (d1 - 1) (by omega)
    have ht3 := ht (d1 - 1) (by omega)
    refine lv_aload_n (pc := 12) hx hb dTr_acceptClose_12 rfl (lv_at hl 0 rfl) ?_
    refine fw_get (pc := 13) (ci := 7) (v := .ref (tr + 5)) (C := RTr) (T := TTr) (N := 5) hx hb hW in_Tr hown hK.1 hw h rfl 2 (by decide) (hW _ lf_Tr_22) (fun _ h => h) rfl dTr_acceptClose_13 ?_
    refine lv_aload_n (pc := 16) hx hb dTr_acceptClose_16 rfl (lv_at hl 0 rfl) ?_
    refine fw_get (pc := 17) (ci := 7) (v := .int (nI (d1))) (C := RTr) (T := TTr) (N := 5) hx hb hW in_Tr hown hK.1 hw h rfl 3 (by decide) (hW _ lf_Tr_25) (fun _ h => h) rfl dTr_acceptClose_17 ?_
    refine lv_iconst (pc := 20) (v := (nI 1)) hx hb dTr_acceptClose_20 (by decide) ?_
    refine lv_isub (pc := 21) hx hb dTr_acceptClose_21 ?_
    rw [show ((nI (d1) - (nI 1)) : Int32) = nI (d1 - 1) from (nI_subL (by omega))]
    refine fw_ialdN (pc := 22) (x := nI (cc9 (d1 - 1))) hx hb hK.1 hw 0 h5 rfl (d1 - 1) (show d1 - 1 < 120 by omega) (by decide) rfl dTr_acceptClose_22 ?_
    refine lv_if_eq (pc := 23) (tgt := 28) hx hb dTr_acceptClose_23 (by decide) (fun hy => ?_) (fun hy => ?_)
    · have hc0 : cc9 (d1 - 1) = 0 := (nI_eq (b := 0) (by omega) (by decide)).mp hy
      refine lv_aload_n (pc := 28) hx hb dTr_acceptClose_28 rfl (lv_at hl 0 rfl) ?_
      refine lv_dup (pc := 29) hx hb dTr_acceptClose_29 rfl ?_
      refine fw_get (pc := 30) (ci := 7) (v := .int (nI (d1))) (C := RTr) (T := TTr) (N := 5) hx hb hW in_Tr hown hK.1 hw h rfl 3 (by decide) (hW _ lf_Tr_25) (fun _ h => h) rfl dTr_acceptClose_30 ?_
      refine lv_iconst (pc := 33) (v := (nI 1)) hx hb dTr_acceptClose_33 (by decide) ?_
      refine lv_isub (pc := 34) hx hb dTr_acceptClose_34 ?_
      rw [show ((nI (d1) - (nI 1)) : Int32) = nI (d1 - 1) from (nI_subL (by omega))]
      refine fw_put (pc := 35) (ci := 7) (v := .int (nI (d1 - 1))) (ty := .int) (C := RTr) (T := TTr) (N := 5) hx hb hW in_Tr tyTr tyTr_ok nmTr hown hK.1 hw h rfl 3 (by decide) (hW _ lf_Tr_25) (fun _ h => h) rfl (by decide +kernel) rfl rfl (Nat.le_of_ble_eq_true rfl) dTr_acceptClose_35 (fun H locs hw => ?_)
      obtain ⟨w2, e2⟩ : ∃ w_, w_ = fw_up w1 (tr) (.inr (7, [.ref (tr + 1), .ref (tr + 4), .ref (tr + 5), .int (nI (d1 - 1)), .int (nI (x))])) := ⟨_, rfl⟩
      have hw : fw_H D kCl (fw_A w (sz)) s.heap w2 (sz) H locs := by rw [e2]; exact hw
      have h4_ : w2 (tr + 4) = some (.inl (cI, 120, .inl (fun i => nI (tt i)))) := by rw [e2, fw_un (by omega)]; exact h4
      have h5_ : w2 (tr + 5) = some (.inl (cI, 120, .inl (fun i => nI (cc9 i)))) := by rw [e2, fw_un (by omega)]; exact h5
      have hc_ : w2 (tr + 1) = some (.inr (1, [.ref (tr + 1 + 1), .ref (tr + 1 + 2), .int (nI (n1))])) := by rw [e2, fw_un (by omega)]; exact hc
      have h1_ : w2 (tr + 1 + 1) = some (.inl (cI, 120, .inl (fun i => nI (o1 i)))) := by rw [e2, fw_un (fw_neK h1 h)]; exact h1
      have h2_ : w2 (tr + 1 + 2) = some (.inl (cI, 120, .inl (fun i => nI (v1 i)))) := by rw [e2, fw_un (fw_neK h2 h)]; exact h2
      have h_ : w2 (tr) = some (.inr (7, [.ref (tr + 1), .ref (tr + 4), .ref (tr + 5), .int (nI (d1 - 1)), .int (nI (x))])) := by rw [e2]; exact fw_us _ _ _
      have h4 := h4_
      have h5 := h5_
      have h := h_
      have hc := hc_
      have h1 := h1_
      have h2 := h2_
      refine lv_aload_n (pc := 38) hx hb dTr_acceptClose_38 rfl (lv_at hl 0 rfl) ?_
      refine fw_get (pc := 39) (ci := 7) (v := .ref (tr + 4)) (C := RTr) (T := TTr) (N := 5) hx hb hW in_Tr hown hK.1 hw h rfl 1 (by decide) (hW _ lf_Tr_18) (fun _ h => h) rfl dTr_acceptClose_39 ?_
      refine lv_aload_n (pc := 42) hx hb dTr_acceptClose_42 rfl (lv_at hl 0 rfl) ?_
      refine fw_get (pc := 43) (ci := 7) (v := .int (nI (d1 - 1))) (C := RTr) (T := TTr) (N := 5) hx hb hW in_Tr hown hK.1 hw h rfl 3 (by decide) (hW _ lf_Tr_25) (fun _ h => h) rfl dTr_acceptClose_43 ?_
      refine fw_ialdN (pc := 46) (x := nI (tt (d1 - 1))) hx hb hK.1 hw 0 h4 rfl (d1 - 1) (show d1 - 1 < 120 by omega) (by decide) rfl dTr_acceptClose_46 ?_
      refine lv_bipush (pc := 47) (v := (nI 8)) hx hb dTr_acceptClose_47 (by decide) ?_
      refine lv_icmp_eq (pc := 49) (tgt := 69) hx hb dTr_acceptClose_49 (by decide) (fun h8 => ?_) (fun h8 => ?_)
      · have h88 : tt (d1 - 1) = 8 := (nI_eq (by omega) (by decide)).mp h8
        have hf : tCl (oo, vv, n, tt, cc9, d, x) = (true, (o1, v1, n1, tt, cc9, d1 - 1, x)) := (tCl_eq hrl).trans ((if_neg (fun h9 => Or.elim h9 hd0 (fun h7 => h7 hc0))).trans (if_pos h88))
        refine lv_iconst (pc := 69) (v := (nI 1)) hx hb dTr_acceptClose_69 (by decide) ?_
        exact fw_zret (pc := 70) hx hb hr hlocks hw dTr_acceptClose_70 (by rfl) ⟨by rw [hf]; rfl, by rw [hf]; exact ⟨h, hc, h1, h2, h4, h5⟩, fun q hq => by rw [e2, fw_un (by omega), rf9 q (by omega)]⟩
      · have h88 : ¬ tt (d1 - 1) = 8 := fun h9 => h8 (by rw [h9])
        have hf : tCl (oo, vv, n, tt, cc9, d, x) = (true, (va_up o1 n1 (tt (d1 - 1)), va_up v1 n1 0, n1 + 1, tt, cc9, d1 - 1, x)) := (tCl_eq hrl).trans ((if_neg (fun h9 => Or.elim h9 hd0 (fun h7 => h7 hc0))).trans (if_neg h88))
        refine lv_aload_n (pc := 52) hx hb dTr_acceptClose_52 rfl (lv_at hl 0 rfl) ?_
        refine fw_get (pc := 53) (ci := 7) (v := .ref (tr + 1)) (C := RTr) (T := TTr) (N := 5) hx hb hW in_Tr hown hK.1 hw h rfl 0 (by decide) (hW _ lf_Tr_12) (fun _ h => h) rfl dTr_acceptClose_53 ?_
        refine lv_aload_n (pc := 56) hx hb dTr_acceptClose_56 rfl (lv_at hl 0 rfl) ?_
        refine fw_get (pc := 57) (ci := 7) (v := .ref (tr + 4)) (C := RTr) (T := TTr) (N := 5) hx hb hW in_Tr hown hK.1 hw h rfl 1 (by decide) (hW _ lf_Tr_18) (fun _ h => h) rfl dTr_acceptClose_57 ?_
        refine lv_aload_n (pc := 60) hx hb dTr_acceptClose_60 rfl (lv_at hl 0 rfl) ?_
        refine fw_get (pc := 61) (ci := 7) (v := .int (nI (d1 - 1))) (C := RTr) (T := TTr) (N := 5) hx hb hW in_Tr hown hK.1 hw h rfl 3 (by decide) (hW _ lf_Tr_25) (fun _ h => h) rfl dTr_acceptClose_61 ?_
        refine fw_ialdN (pc := 64) (x := nI (tt (d1 - 1))) hx hb hK.1 hw 0 h4 rfl (d1 - 1) (show d1 - 1 < 120 by omega) (by decide) rfl dTr_acceptClose_64 ?_
        refine lv_iconst (pc := 65) (v := (nI 0)) hx hb dTr_acceptClose_65 (by decide) ?_
        refine fw_cV (pc := 66) (As := [.int (nI (tt (d1 - 1))), .int (nI 0)]) (rest := []) ⟨hx, hb, hml, hown, hW⟩ (c_Co_append (op := tt (d1 - 1)) (x := 0) (by omega) hc h1 h2) (cwV 2 hW (kw_V lm_Tr_59 im_Co_append se_Co_append ini_Co cd_Co_append) rfl rfl rfl (by decide +kernel) ⟨Nat.le_of_ble_eq_true rfl, Nat.le_of_ble_eq_true rfl⟩) hK hw hc rfl rfl hl.1 rfl (Nat.le_of_ble_eq_true rfl) dTr_acceptClose_66 ⟨Nat.le_of_ble_eq_true rfl, Nat.le_of_ble_eq_true rfl⟩ (fun v w3 H locs hq hw => ?_)
        obtain ⟨rfl, hc, h1, h2, co9⟩ := hq
        have h4_ : w3 (tr + 4) = some (.inl (cI, 120, .inl (fun i => nI (tt i)))) := (co9 _ (by omega)).trans h4
        have h5_ : w3 (tr + 5) = some (.inl (cI, 120, .inl (fun i => nI (cc9 i)))) := (co9 _ (by omega)).trans h5
        have h_ : w3 (tr) = some (.inr (7, [.ref (tr + 1), .ref (tr + 4), .ref (tr + 5), .int (nI (d1 - 1)), .int (nI (x))])) := (co9 _ (by omega)).trans h
        have h4 := h4_
        have h5 := h5_
        have h := h_
        refine W.eq (g2 := F0 m 69 ls []) rfl ?_
        refine lv_iconst (pc := 69) (v := (nI 1)) hx hb dTr_acceptClose_69 (by decide) ?_
        exact fw_zret (pc := 70) hx hb hr hlocks hw dTr_acceptClose_70 (by rfl) ⟨by rw [hf]; rfl, by rw [hf]; exact ⟨h, hc, h1, h2, h4, h5⟩, fun q hq => by rw [co9 q (by omega), e2, fw_un (by omega), rf9 q (by omega)]⟩
    · have hc0 : cc9 (d1 - 1) ≠ 0 := fun h9 => hy (by rw [h9]; rfl)
      have hf : tCl (oo, vv, n, tt, cc9, d, x) = (false, (o1, v1, n1, tt, cc9, d1, x)) := (tCl_eq hrl).trans (if_pos (Or.inr hc0))
      refine lv_iconst (pc := 26) (v := (nI 0)) hx hb dTr_acceptClose_26 (by decide) ?_
      exact fw_zret (pc := 27) hx hb hr hlocks hw dTr_acceptClose_27 (by rfl) ⟨by rw [hf]; rfl, by rw [hf]; exact ⟨h, hc, h1, h2, h4, h5⟩, fun q hq => rf9 q (by omega)⟩

set_option maxHeartbeats 4000000 in
set_option maxRecDepth 100000 in
theorem c_Tr_acceptOperand {tr n d x : Nat} {oo vv tt cc9 : Nat → Nat} (hS : trS cI w tr (oo, vv, n, tt, cc9, d, x)) (hnd : n + d < 120) (ht : ∀ i, i < d → tt i < 15) (hcb : ∀ i, i < d → cc9 i < 3) {k u : Nat} (hk : k < 14) : fw_C l yTr_acceptOperand (Cond.code yTr_acceptOperand cTr_acceptOperand 3 (some FieldType.boolean) :: kWs) ({ frames := 1, cells := 0, slots := 0, locals := 22 } : Room) D kCl (kty cI cL cQ) (kz tO tB tC sa) [.ref tr, .int (nI k), .int (nI u)] (sz) w 0 0 (fun v w' => v = some (.int (nI (if (tOd k u (oo, vv, n, tt, cc9, d, x)).1 = true then 1 else 0))) ∧ trS cI w' tr (tOd k u (oo, vv, n, tt, cc9, d, x)).2 ∧ ∀ q, q < tr ∨ tr + 6 ≤ q → w' q = w q) := by
  refine fw_ofW (cc := cTr_acceptOperand) (maxL := 3) (ret := (some FieldType.boolean)) (by decide) rfl (Nat.le_of_ble_eq_true rfl) ?_
  intro p e s m args below meth c hx hb hr hts hown hlocks hname hml hK H ls hw hl
  have hW : ∀ w ∈ kWs, w.before args s = true := fun w h => hts w (List.mem_cons_of_mem _ h)
  have hown : s.vm.findClass RTr = some m.cls := hown
  have hl : lv_has ls 3 [(0, .ref tr), (1, .int (nI k)), (2, .int (nI u))] := hl
  have h : w (tr) = some (.inr (7, [.ref (tr + 1), .ref (tr + 4), .ref (tr + 5), .int (nI (d)), .int (nI (x))])) := hS.1
  have hc : w (tr + 1) = some (.inr (1, [.ref (tr + 1 + 1), .ref (tr + 1 + 2), .int (nI (n))])) := hS.2.1
  have h1 : w (tr + 1 + 1) = some (.inl (cI, 120, .inl (fun i => nI (oo i)))) := hS.2.2.1
  have h2 : w (tr + 1 + 2) = some (.inl (cI, 120, .inl (fun i => nI (vv i)))) := hS.2.2.2.1
  have h4 : w (tr + 4) = some (.inl (cI, 120, .inl (fun i => nI (tt i)))) := hS.2.2.2.2.1
  have h5 : w (tr + 5) = some (.inl (cI, 120, .inl (fun i => nI (cc9 i)))) := hS.2.2.2.2.2
  refine lv_iload_n (pc := 0) hx hb dTr_acceptOperand_0 rfl (lv_at hl 1 rfl) ?_
  rcases (show k = 0 ∨ k = 1 ∨ k = 2 ∨ k = 3 ∨ k = 4 ∨ k = 5 ∨ k = 6 ∨ k = 7 ∨ k = 8 ∨ k = 9 ∨ k = 10 ∨ k = 11 ∨ k = 12 ∨ k = 13 by omega) with rfl | rfl | rfl | rfl | rfl | rfl | rfl | rfl | rfl | rfl | rfl | rfl | rfl | rfl
  · refine lv_tableIn (pc := 1) (tgt := 72) hx hb dTr_acceptOperand_1 (by decide) (by decide) rfl (by decide) ?_
    refine lv_aload_n (pc := 72) hx hb dTr_acceptOperand_72 rfl (lv_at hl 0 rfl) ?_
    refine fw_get (pc := 73) (ci := 7) (v := .ref (tr + 1)) (C := RTr) (T := TTr) (N := 5) hx hb hW in_Tr hown hK.1 hw h rfl 0 (by decide) (hW _ lf_Tr_12) (fun _ h => h) rfl dTr_acceptOperand_73 ?_
    refine lv_iload_n (pc := 76) hx hb dTr_acceptOperand_76 rfl (lv_at hl 1 rfl) ?_
    refine lv_iload_n (pc := 77) hx hb dTr_acceptOperand_77 rfl (lv_at hl 2 rfl) ?_
    refine fw_cV (pc := 78) (As := [.int (nI 0), .int (nI u)]) (rest := []) ⟨hx, hb, hml, hown, hW⟩ (c_Co_append (op := 0) (x := u) (by omega) hc h1 h2) (cwV 2 hW (kw_V lm_Tr_59 im_Co_append se_Co_append ini_Co cd_Co_append) rfl rfl rfl (by decide +kernel) ⟨Nat.le_of_ble_eq_true rfl, Nat.le_of_ble_eq_true rfl⟩) hK hw hc rfl rfl hl.1 rfl (Nat.le_of_ble_eq_true rfl) dTr_acceptOperand_78 ⟨Nat.le_of_ble_eq_true rfl, Nat.le_of_ble_eq_true rfl⟩ (fun v w1 H locs hq hw => ?_)
    obtain ⟨rfl, hc, h1, h2, co9⟩ := hq
    have h_ : w1 (tr) = some (.inr (7, [.ref (tr + 1), .ref (tr + 4), .ref (tr + 5), .int (nI (d)), .int (nI (x))])) := (co9 _ (by omega)).trans h
    have h4_ : w1 (tr + 4) = some (.inl (cI, 120, .inl (fun i => nI (tt i)))) := (co9 _ (by omega)).trans h4
    have h5_ : w1 (tr + 5) = some (.inl (cI, 120, .inl (fun i => nI (cc9 i)))) := (co9 _ (by omega)).trans h5
    have h := h_
    have h4 := h4_
    have h5 := h5_
    refine W.eq (g2 := F0 m 81 ls []) rfl ?_
    refine lv_aload_n (pc := 81) hx hb dTr_acceptOperand_81 rfl (lv_at hl 0 rfl) ?_
    refine lv_iconst (pc := 82) (v := (nI 1)) hx hb dTr_acceptOperand_82 (by decide) ?_
    refine fw_put (pc := 83) (ci := 7) (v := .int (nI 1)) (ty := .int) (C := RTr) (T := TTr) (N := 5) hx hb hW in_Tr tyTr tyTr_ok nmTr hown hK.1 hw h rfl 4 (by decide) (hW _ lf_Tr_29) (fun _ h => h) rfl (by decide +kernel) rfl rfl (Nat.le_of_ble_eq_true rfl) dTr_acceptOperand_83 (fun H locs hw => ?_)
    obtain ⟨w2, e2⟩ : ∃ w_, w_ = fw_up w1 (tr) (.inr (7, [.ref (tr + 1), .ref (tr + 4), .ref (tr + 5), .int (nI (d)), .int (nI 1)])) := ⟨_, rfl⟩
    have hw : fw_H D kCl (fw_A w (sz)) s.heap w2 (sz) H locs := by rw [e2]; exact hw
    have hc_ : w2 (tr + 1) = some (.inr (1, [.ref (tr + 1 + 1), .ref (tr + 1 + 2), .int (nI (n + 1))])) := by rw [e2, fw_un (by omega)]; exact hc
    have h1_ : w2 (tr + 1 + 1) = some (.inl (cI, 120, .inl (fun i => nI (va_up oo n (0) i)))) := by rw [e2, fw_un (fw_neK h1 h)]; exact h1
    have h2_ : w2 (tr + 1 + 2) = some (.inl (cI, 120, .inl (fun i => nI (va_up vv n u i)))) := by rw [e2, fw_un (fw_neK h2 h)]; exact h2
    have h4_ : w2 (tr + 4) = some (.inl (cI, 120, .inl (fun i => nI (tt i)))) := by rw [e2, fw_un (by omega)]; exact h4
    have h5_ : w2 (tr + 5) = some (.inl (cI, 120, .inl (fun i => nI (cc9 i)))) := by rw [e2, fw_un (by omega)]; exact h5
    have h_ : w2 (tr) = some (.inr (7, [.ref (tr + 1), .ref (tr + 4), .ref (tr + 5), .int (nI (d)), .int (nI 1)])) := by rw [e2]; exact fw_us _ _ _
    have h := h_
    have hc := hc_
    have h1 := h1_
    have h2 := h2_
    have h4 := h4_
    have h5 := h5_
    refine lv_iconst (pc := 86) (v := (nI 1)) hx hb dTr_acceptOperand_86 (by decide) ?_
    exact fw_zret (pc := 87) hx hb hr hlocks hw dTr_acceptOperand_87 (by rfl) ⟨rfl, ⟨h, hc, h1, h2, h4, h5⟩, fun q hq => by rw [e2, fw_un (by omega), co9 q (by omega)]⟩
  · refine lv_tableIn (pc := 1) (tgt := 72) hx hb dTr_acceptOperand_1 (by decide) (by decide) rfl (by decide) ?_
    refine lv_aload_n (pc := 72) hx hb dTr_acceptOperand_72 rfl (lv_at hl 0 rfl) ?_
    refine fw_get (pc := 73) (ci := 7) (v := .ref (tr + 1)) (C := RTr) (T := TTr) (N := 5) hx hb hW in_Tr hown hK.1 hw h rfl 0 (by decide) (hW _ lf_Tr_12) (fun _ h => h) rfl dTr_acceptOperand_73 ?_
    refine lv_iload_n (pc := 76) hx hb dTr_acceptOperand_76 rfl (lv_at hl 1 rfl) ?_
    refine lv_iload_n (pc := 77) hx hb dTr_acceptOperand_77 rfl (lv_at hl 2 rfl) ?_
    refine fw_cV (pc := 78) (As := [.int (nI 1), .int (nI u)]) (rest := []) ⟨hx, hb, hml, hown, hW⟩ (c_Co_append (op := 1) (x := u) (by omega) hc h1 h2) (cwV 2 hW (kw_V lm_Tr_59 im_Co_append se_Co_append ini_Co cd_Co_append) rfl rfl rfl (by decide +kernel) ⟨Nat.le_of_ble_eq_true rfl, Nat.le_of_ble_eq_true rfl⟩) hK hw hc rfl rfl hl.1 rfl (Nat.le_of_ble_eq_true rfl) dTr_acceptOperand_78 ⟨Nat.le_of_ble_eq_true rfl, Nat.le_of_ble_eq_true rfl⟩ (fun v w3 H locs hq hw => ?_)
    obtain ⟨rfl, hc, h1, h2, co9⟩ := hq
    have h_ : w3 (tr) = some (.inr (7, [.ref (tr + 1), .ref (tr + 4), .ref (tr + 5), .int (nI (d)), .int (nI (x))])) := (co9 _ (by omega)).trans h
    have h4_ : w3 (tr + 4) = some (.inl (cI, 120, .inl (fun i => nI (tt i)))) := (co9 _ (by omega)).trans h4
    have h5_ : w3 (tr + 5) = some (.inl (cI, 120, .inl (fun i => nI (cc9 i)))) := (co9 _ (by omega)).trans h5
    have h := h_
    have h4 := h4_
    have h5 := h5_
    refine W.eq (g2 := F0 m 81 ls []) rfl ?_
    refine lv_aload_n (pc := 81) hx hb dTr_acceptOperand_81 rfl (lv_at hl 0 rfl) ?_
    refine lv_iconst (pc := 82) (v := (nI 1)) hx hb dTr_acceptOperand_82 (by decide) ?_
    refine fw_put (pc := 83) (ci := 7) (v := .int (nI 1)) (ty := .int) (C := RTr) (T := TTr) (N := 5) hx hb hW in_Tr tyTr tyTr_ok nmTr hown hK.1 hw h rfl 4 (by decide) (hW _ lf_Tr_29) (fun _ h => h) rfl (by decide +kernel) rfl rfl (Nat.le_of_ble_eq_true rfl) dTr_acceptOperand_83 (fun H locs hw => ?_)
    obtain ⟨w4, e4⟩ : ∃ w_, w_ = fw_up w3 (tr) (.inr (7, [.ref (tr + 1), .ref (tr + 4), .ref (tr + 5), .int (nI (d)), .int (nI 1)])) := ⟨_, rfl⟩
    have hw : fw_H D kCl (fw_A w (sz)) s.heap w4 (sz) H locs := by rw [e4]; exact hw
    have hc_ : w4 (tr + 1) = some (.inr (1, [.ref (tr + 1 + 1), .ref (tr + 1 + 2), .int (nI (n + 1))])) := by rw [e4, fw_un (by omega)]; exact hc
    have h1_ : w4 (tr + 1 + 1) = some (.inl (cI, 120, .inl (fun i => nI (va_up oo n (1) i)))) := by rw [e4, fw_un (fw_neK h1 h)]; exact h1
    have h2_ : w4 (tr + 1 + 2) = some (.inl (cI, 120, .inl (fun i => nI (va_up vv n u i)))) := by rw [e4, fw_un (fw_neK h2 h)]; exact h2
    have h4_ : w4 (tr + 4) = some (.inl (cI, 120, .inl (fun i => nI (tt i)))) := by rw [e4, fw_un (by omega)]; exact h4
    have h5_ : w4 (tr + 5) = some (.inl (cI, 120, .inl (fun i => nI (cc9 i)))) := by rw [e4, fw_un (by omega)]; exact h5
    have h_ : w4 (tr) = some (.inr (7, [.ref (tr + 1), .ref (tr + 4), .ref (tr + 5), .int (nI (d)), .int (nI 1)])) := by rw [e4]; exact fw_us _ _ _
    have h := h_
    have hc := hc_
    have h1 := h1_
    have h2 := h2_
    have h4 := h4_
    have h5 := h5_
    refine lv_iconst (pc := 86) (v := (nI 1)) hx hb dTr_acceptOperand_86 (by decide) ?_
    exact fw_zret (pc := 87) hx hb hr hlocks hw dTr_acceptOperand_87 (by rfl) ⟨rfl, ⟨h, hc, h1, h2, h4, h5⟩, fun q hq => by rw [e4, fw_un (by omega), co9 q (by omega)]⟩
  · refine lv_tableIn (pc := 1) (tgt := 116) hx hb dTr_acceptOperand_1 (by decide) (by decide) rfl (by decide) ?_
    refine lv_iconst (pc := 116) (v := (nI 0)) hx hb dTr_acceptOperand_116 (by decide) ?_
    exact fw_zret (pc := 117) hx hb hr hlocks hw dTr_acceptOperand_117 (by rfl) ⟨rfl, ⟨h, hc, h1, h2, h4, h5⟩, fun q hq => rfl⟩
  · refine lv_tableIn (pc := 1) (tgt := 88) hx hb dTr_acceptOperand_1 (by decide) (by decide) rfl (by decide) ?_
    refine lv_aload_n (pc := 88) hx hb dTr_acceptOperand_88 rfl (lv_at hl 0 rfl) ?_
    refine lv_bipush (pc := 89) (v := (nI 14)) hx hb dTr_acceptOperand_89 (by decide) ?_
    refine fw_cV (pc := 91) (As := [.int (nI 14)]) (rest := []) ⟨hx, hb, hml, hown, hW⟩ (c_Tr_push (k := 14) (by omega) (by decide) h h4 h5) (cwV 1 hW (kw_V lm_Tr_63 im_Tr_push se_Tr_push ini_Tr cd_Tr_push) rfl rfl rfl (by decide +kernel) ⟨Nat.le_of_ble_eq_true rfl, Nat.le_of_ble_eq_true rfl⟩) hK hw h rfl rfl hl.1 rfl (Nat.le_of_ble_eq_true rfl) dTr_acceptOperand_91 ⟨Nat.le_of_ble_eq_true rfl, Nat.le_of_ble_eq_true rfl⟩ (fun v w5 H locs hq hw => ?_)
    obtain ⟨rfl, h, h4, h5, pf9⟩ := hq
    have hc_ : w5 (tr + 1) = some (.inr (1, [.ref (tr + 1 + 1), .ref (tr + 1 + 2), .int (nI (n))])) := (pf9 _ (by omega) (by omega) (by omega)).trans hc
    have h1_ : w5 (tr + 1 + 1) = some (.inl (cI, 120, .inl (fun i => nI (oo i)))) := (pf9 _ (by omega) (by omega) (by omega)).trans h1
    have h2_ : w5 (tr + 1 + 2) = some (.inl (cI, 120, .inl (fun i => nI (vv i)))) := (pf9 _ (by omega) (by omega) (by omega)).trans h2
    have hc := hc_
    have h1 := h1_
    have h2 := h2_
    refine W.eq (g2 := F0 m 94 ls []) rfl ?_
    refine lv_iconst (pc := 94) (v := (nI 1)) hx hb dTr_acceptOperand_94 (by decide) ?_
    exact fw_zret (pc := 95) hx hb hr hlocks hw dTr_acceptOperand_95 (by rfl) ⟨rfl, ⟨h, hc, h1, h2, h4, h5⟩, fun q hq => pf9 q (by omega) (by omega) (by omega)⟩
  · refine lv_tableIn (pc := 1) (tgt := 116) hx hb dTr_acceptOperand_1 (by decide) (by decide) rfl (by decide) ?_
    refine lv_iconst (pc := 116) (v := (nI 0)) hx hb dTr_acceptOperand_116 (by decide) ?_
    exact fw_zret (pc := 117) hx hb hr hlocks hw dTr_acceptOperand_117 (by rfl) ⟨rfl, ⟨h, hc, h1, h2, h4, h5⟩, fun q hq => rfl⟩
  · refine lv_tableIn (pc := 1) (tgt := 116) hx hb dTr_acceptOperand_1 (by decide) (by decide) rfl (by decide) ?_
    refine lv_iconst (pc := 116) (v := (nI 0)) hx hb dTr_acceptOperand_116 (by decide) ?_
    exact fw_zret (pc := 117) hx hb hr hlocks hw dTr_acceptOperand_117 (by rfl) ⟨rfl, ⟨h, hc, h1, h2, h4, h5⟩, fun q hq => rfl⟩
  · refine lv_tableIn (pc := 1) (tgt := 116) hx hb dTr_acceptOperand_1 (by decide) (by decide) rfl (by decide) ?_
    refine lv_iconst (pc := 116) (v := (nI 0)) hx hb dTr_acceptOperand_116 (by decide) ?_
    exact fw_zret (pc := 117) hx hb hr hlocks hw dTr_acceptOperand_117 (by rfl) ⟨rfl, ⟨h, hc, h1, h2, h4, h5⟩, fun q hq => rfl⟩
  · refine lv_tableIn (pc := 1) (tgt := 116) hx hb dTr_acceptOperand_1 (by decide) (by decide) rfl (by decide) ?_
    refine lv_iconst (pc := 116) (v := (nI 0)) hx hb dTr_acceptOperand_116 (by decide) ?_
    exact fw_zret (pc := 117) hx hb hr hlocks hw dTr_acceptOperand_117 (by rfl) ⟨rfl, ⟨h, hc, h1, h2, h4, h5⟩, fun q hq => rfl⟩
  · refine lv_tableIn (pc := 1) (tgt := 96) hx hb dTr_acceptOperand_1 (by decide) (by decide) rfl (by decide) ?_
    refine lv_aload_n (pc := 96) hx hb dTr_acceptOperand_96 rfl (lv_at hl 0 rfl) ?_
    refine lv_bipush (pc := 97) (v := (nI 8)) hx hb dTr_acceptOperand_97 (by decide) ?_
    refine fw_cV (pc := 99) (As := [.int (nI 8)]) (rest := []) ⟨hx, hb, hml, hown, hW⟩ (c_Tr_push (k := 8) (by omega) (by decide) h h4 h5) (cwV 1 hW (kw_V lm_Tr_63 im_Tr_push se_Tr_push ini_Tr cd_Tr_push) rfl rfl rfl (by decide +kernel) ⟨Nat.le_of_ble_eq_true rfl, Nat.le_of_ble_eq_true rfl⟩) hK hw h rfl rfl hl.1 rfl (Nat.le_of_ble_eq_true rfl) dTr_acceptOperand_99 ⟨Nat.le_of_ble_eq_true rfl, Nat.le_of_ble_eq_true rfl⟩ (fun v w6 H locs hq hw => ?_)
    obtain ⟨rfl, h, h4, h5, pf9⟩ := hq
    have hc_ : w6 (tr + 1) = some (.inr (1, [.ref (tr + 1 + 1), .ref (tr + 1 + 2), .int (nI (n))])) := (pf9 _ (by omega) (by omega) (by omega)).trans hc
    have h1_ : w6 (tr + 1 + 1) = some (.inl (cI, 120, .inl (fun i => nI (oo i)))) := (pf9 _ (by omega) (by omega) (by omega)).trans h1
    have h2_ : w6 (tr + 1 + 2) = some (.inl (cI, 120, .inl (fun i => nI (vv i)))) := (pf9 _ (by omega) (by omega) (by omega)).trans h2
    have hc := hc_
    have h1 := h1_
    have h2 := h2_
    refine W.eq (g2 := F0 m 102 ls []) rfl ?_
    refine lv_iconst (pc := 102) (v := (nI 1)) hx hb dTr_acceptOperand_102 (by decide) ?_
    exact fw_zret (pc := 103) hx hb hr hlocks hw dTr_acceptOperand_103 (by rfl) ⟨rfl, ⟨h, hc, h1, h2, h4, h5⟩, fun q hq => pf9 q (by omega) (by omega) (by omega)⟩
  · refine lv_tableIn (pc := 1) (tgt := 116) hx hb dTr_acceptOperand_1 (by decide) (by decide) rfl (by decide) ?_
    refine lv_iconst (pc := 116) (v := (nI 0)) hx hb dTr_acceptOperand_116 (by decide) ?_
    exact fw_zret (pc := 117) hx hb hr hlocks hw dTr_acceptOperand_117 (by rfl) ⟨rfl, ⟨h, hc, h1, h2, h4, h5⟩, fun q hq => rfl⟩
  · refine lv_tableIn (pc := 1) (tgt := 116) hx hb dTr_acceptOperand_1 (by decide) (by decide) rfl (by decide) ?_
    refine lv_iconst (pc := 116) (v := (nI 0)) hx hb dTr_acceptOperand_116 (by decide) ?_
    exact fw_zret (pc := 117) hx hb hr hlocks hw dTr_acceptOperand_117 (by rfl) ⟨rfl, ⟨h, hc, h1, h2, h4, h5⟩, fun q hq => rfl⟩
  · refine lv_tableIn (pc := 1) (tgt := 104) hx hb dTr_acceptOperand_1 (by decide) (by decide) rfl (by decide) ?_
    refine lv_aload_n (pc := 104) hx hb dTr_acceptOperand_104 rfl (lv_at hl 0 rfl) ?_
    refine lv_iload_n (pc := 105) hx hb dTr_acceptOperand_105 rfl (lv_at hl 1 rfl) ?_
    refine fw_cV (pc := 106) (As := [.int (nI 11)]) (rest := []) ⟨hx, hb, hml, hown, hW⟩ (c_Tr_push (k := 11) (by omega) (by decide) h h4 h5) (cwV 1 hW (kw_V lm_Tr_63 im_Tr_push se_Tr_push ini_Tr cd_Tr_push) rfl rfl rfl (by decide +kernel) ⟨Nat.le_of_ble_eq_true rfl, Nat.le_of_ble_eq_true rfl⟩) hK hw h rfl rfl hl.1 rfl (Nat.le_of_ble_eq_true rfl) dTr_acceptOperand_106 ⟨Nat.le_of_ble_eq_true rfl, Nat.le_of_ble_eq_true rfl⟩ (fun v w7 H locs hq hw => ?_)
    obtain ⟨rfl, h, h4, h5, pf9⟩ := hq
    have hc_ : w7 (tr + 1) = some (.inr (1, [.ref (tr + 1 + 1), .ref (tr + 1 + 2), .int (nI (n))])) := (pf9 _ (by omega) (by omega) (by omega)).trans hc
    have h1_ : w7 (tr + 1 + 1) = some (.inl (cI, 120, .inl (fun i => nI (oo i)))) := (pf9 _ (by omega) (by omega) (by omega)).trans h1
    have h2_ : w7 (tr + 1 + 2) = some (.inl (cI, 120, .inl (fun i => nI (vv i)))) := (pf9 _ (by omega) (by omega) (by omega)).trans h2
    have hc := hc_
    have h1 := h1_
    have h2 := h2_
    refine W.eq (g2 := F0 m 109 ls []) rfl ?_
    refine lv_aload_n (pc := 109) hx hb dTr_acceptOperand_109 rfl (lv_at hl 0 rfl) ?_
    refine lv_iconst (pc := 110) (v := (nI 2)) hx hb dTr_acceptOperand_110 (by decide) ?_
    refine fw_put (pc := 111) (ci := 7) (v := .int (nI 2)) (ty := .int) (C := RTr) (T := TTr) (N := 5) hx hb hW in_Tr tyTr tyTr_ok nmTr hown hK.1 hw h rfl 4 (by decide) (hW _ lf_Tr_29) (fun _ h => h) rfl (by decide +kernel) rfl rfl (Nat.le_of_ble_eq_true rfl) dTr_acceptOperand_111 (fun H locs hw => ?_)
    obtain ⟨w8, e8⟩ : ∃ w_, w_ = fw_up w7 (tr) (.inr (7, [.ref (tr + 1), .ref (tr + 4), .ref (tr + 5), .int (nI (d + 1)), .int (nI 2)])) := ⟨_, rfl⟩
    have hw : fw_H D kCl (fw_A w (sz)) s.heap w8 (sz) H locs := by rw [e8]; exact hw
    have hc_ : w8 (tr + 1) = some (.inr (1, [.ref (tr + 1 + 1), .ref (tr + 1 + 2), .int (nI (n))])) := by rw [e8, fw_un (by omega)]; exact hc
    have h1_ : w8 (tr + 1 + 1) = some (.inl (cI, 120, .inl (fun i => nI (oo i)))) := by rw [e8, fw_un (fw_neK h1 h)]; exact h1
    have h2_ : w8 (tr + 1 + 2) = some (.inl (cI, 120, .inl (fun i => nI (vv i)))) := by rw [e8, fw_un (fw_neK h2 h)]; exact h2
    have h4_ : w8 (tr + 4) = some (.inl (cI, 120, .inl (fun i => nI (va_up tt d (11) i)))) := by rw [e8, fw_un (by omega)]; exact h4
    have h5_ : w8 (tr + 5) = some (.inl (cI, 120, .inl (fun i => nI (va_up cc9 d (kCm (11)) i)))) := by rw [e8, fw_un (by omega)]; exact h5
    have h_ : w8 (tr) = some (.inr (7, [.ref (tr + 1), .ref (tr + 4), .ref (tr + 5), .int (nI (d + 1)), .int (nI 2)])) := by rw [e8]; exact fw_us _ _ _
    have h := h_
    have hc := hc_
    have h1 := h1_
    have h2 := h2_
    have h4 := h4_
    have h5 := h5_
    refine lv_iconst (pc := 114) (v := (nI 1)) hx hb dTr_acceptOperand_114 (by decide) ?_
    exact fw_zret (pc := 115) hx hb hr hlocks hw dTr_acceptOperand_115 (by rfl) ⟨rfl, ⟨h, hc, h1, h2, h4, h5⟩, fun q hq => by rw [e8, fw_un (by omega), pf9 q (by omega) (by omega) (by omega)]⟩
  · refine lv_tableIn (pc := 1) (tgt := 104) hx hb dTr_acceptOperand_1 (by decide) (by decide) rfl (by decide) ?_
    refine lv_aload_n (pc := 104) hx hb dTr_acceptOperand_104 rfl (lv_at hl 0 rfl) ?_
    refine lv_iload_n (pc := 105) hx hb dTr_acceptOperand_105 rfl (lv_at hl 1 rfl) ?_
    refine fw_cV (pc := 106) (As := [.int (nI 12)]) (rest := []) ⟨hx, hb, hml, hown, hW⟩ (c_Tr_push (k := 12) (by omega) (by decide) h h4 h5) (cwV 1 hW (kw_V lm_Tr_63 im_Tr_push se_Tr_push ini_Tr cd_Tr_push) rfl rfl rfl (by decide +kernel) ⟨Nat.le_of_ble_eq_true rfl, Nat.le_of_ble_eq_true rfl⟩) hK hw h rfl rfl hl.1 rfl (Nat.le_of_ble_eq_true rfl) dTr_acceptOperand_106 ⟨Nat.le_of_ble_eq_true rfl, Nat.le_of_ble_eq_true rfl⟩ (fun v w9 H locs hq hw => ?_)
    obtain ⟨rfl, h, h4, h5, pf9⟩ := hq
    have hc_ : w9 (tr + 1) = some (.inr (1, [.ref (tr + 1 + 1), .ref (tr + 1 + 2), .int (nI (n))])) := (pf9 _ (by omega) (by omega) (by omega)).trans hc
    have h1_ : w9 (tr + 1 + 1) = some (.inl (cI, 120, .inl (fun i => nI (oo i)))) := (pf9 _ (by omega) (by omega) (by omega)).trans h1
    have h2_ : w9 (tr + 1 + 2) = some (.inl (cI, 120, .inl (fun i => nI (vv i)))) := (pf9 _ (by omega) (by omega) (by omega)).trans h2
    have hc := hc_
    have h1 := h1_
    have h2 := h2_
    refine W.eq (g2 := F0 m 109 ls []) rfl ?_
    refine lv_aload_n (pc := 109) hx hb dTr_acceptOperand_109 rfl (lv_at hl 0 rfl) ?_
    refine lv_iconst (pc := 110) (v := (nI 2)) hx hb dTr_acceptOperand_110 (by decide) ?_
    refine fw_put (pc := 111) (ci := 7) (v := .int (nI 2)) (ty := .int) (C := RTr) (T := TTr) (N := 5) hx hb hW in_Tr tyTr tyTr_ok nmTr hown hK.1 hw h rfl 4 (by decide) (hW _ lf_Tr_29) (fun _ h => h) rfl (by decide +kernel) rfl rfl (Nat.le_of_ble_eq_true rfl) dTr_acceptOperand_111 (fun H locs hw => ?_)
    obtain ⟨w10, e10⟩ : ∃ w_, w_ = fw_up w9 (tr) (.inr (7, [.ref (tr + 1), .ref (tr + 4), .ref (tr + 5), .int (nI (d + 1)), .int (nI 2)])) := ⟨_, rfl⟩
    have hw : fw_H D kCl (fw_A w (sz)) s.heap w10 (sz) H locs := by rw [e10]; exact hw
    have hc_ : w10 (tr + 1) = some (.inr (1, [.ref (tr + 1 + 1), .ref (tr + 1 + 2), .int (nI (n))])) := by rw [e10, fw_un (by omega)]; exact hc
    have h1_ : w10 (tr + 1 + 1) = some (.inl (cI, 120, .inl (fun i => nI (oo i)))) := by rw [e10, fw_un (fw_neK h1 h)]; exact h1
    have h2_ : w10 (tr + 1 + 2) = some (.inl (cI, 120, .inl (fun i => nI (vv i)))) := by rw [e10, fw_un (fw_neK h2 h)]; exact h2
    have h4_ : w10 (tr + 4) = some (.inl (cI, 120, .inl (fun i => nI (va_up tt d (12) i)))) := by rw [e10, fw_un (by omega)]; exact h4
    have h5_ : w10 (tr + 5) = some (.inl (cI, 120, .inl (fun i => nI (va_up cc9 d (kCm (12)) i)))) := by rw [e10, fw_un (by omega)]; exact h5
    have h_ : w10 (tr) = some (.inr (7, [.ref (tr + 1), .ref (tr + 4), .ref (tr + 5), .int (nI (d + 1)), .int (nI 2)])) := by rw [e10]; exact fw_us _ _ _
    have h := h_
    have hc := hc_
    have h1 := h1_
    have h2 := h2_
    have h4 := h4_
    have h5 := h5_
    refine lv_iconst (pc := 114) (v := (nI 1)) hx hb dTr_acceptOperand_114 (by decide) ?_
    exact fw_zret (pc := 115) hx hb hr hlocks hw dTr_acceptOperand_115 (by rfl) ⟨rfl, ⟨h, hc, h1, h2, h4, h5⟩, fun q hq => by rw [e10, fw_un (by omega), pf9 q (by omega) (by omega) (by omega)]⟩
  · refine lv_tableIn (pc := 1) (tgt := 104) hx hb dTr_acceptOperand_1 (by decide) (by decide) rfl (by decide) ?_
    refine lv_aload_n (pc := 104) hx hb dTr_acceptOperand_104 rfl (lv_at hl 0 rfl) ?_
    refine lv_iload_n (pc := 105) hx hb dTr_acceptOperand_105 rfl (lv_at hl 1 rfl) ?_
    refine fw_cV (pc := 106) (As := [.int (nI 13)]) (rest := []) ⟨hx, hb, hml, hown, hW⟩ (c_Tr_push (k := 13) (by omega) (by decide) h h4 h5) (cwV 1 hW (kw_V lm_Tr_63 im_Tr_push se_Tr_push ini_Tr cd_Tr_push) rfl rfl rfl (by decide +kernel) ⟨Nat.le_of_ble_eq_true rfl, Nat.le_of_ble_eq_true rfl⟩) hK hw h rfl rfl hl.1 rfl (Nat.le_of_ble_eq_true rfl) dTr_acceptOperand_106 ⟨Nat.le_of_ble_eq_true rfl, Nat.le_of_ble_eq_true rfl⟩ (fun v w11 H locs hq hw => ?_)
    obtain ⟨rfl, h, h4, h5, pf9⟩ := hq
    have hc_ : w11 (tr + 1) = some (.inr (1, [.ref (tr + 1 + 1), .ref (tr + 1 + 2), .int (nI (n))])) := (pf9 _ (by omega) (by omega) (by omega)).trans hc
    have h1_ : w11 (tr + 1 + 1) = some (.inl (cI, 120, .inl (fun i => nI (oo i)))) := (pf9 _ (by omega) (by omega) (by omega)).trans h1
    have h2_ : w11 (tr + 1 + 2) = some (.inl (cI, 120, .inl (fun i => nI (vv i)))) := (pf9 _ (by omega) (by omega) (by omega)).trans h2
    have hc := hc_
    have h1 := h1_
    have h2 := h2_
    refine W.eq (g2 := F0 m 109 ls []) rfl ?_
    refine lv_aload_n (pc := 109) hx hb dTr_acceptOperand_109 rfl (lv_at hl 0 rfl) ?_
    refine lv_iconst (pc := 110) (v := (nI 2)) hx hb dTr_acceptOperand_110 (by decide) ?_
    refine fw_put (pc := 111) (ci := 7) (v := .int (nI 2)) (ty := .int) (C := RTr) (T := TTr) (N := 5) hx hb hW in_Tr tyTr tyTr_ok nmTr hown hK.1 hw h rfl 4 (by decide) (hW _ lf_Tr_29) (fun _ h => h) rfl (by decide +kernel) rfl rfl (Nat.le_of_ble_eq_true rfl) dTr_acceptOperand_111 (fun H locs hw => ?_)
    obtain ⟨w12, e12⟩ : ∃ w_, w_ = fw_up w11 (tr) (.inr (7, [.ref (tr + 1), .ref (tr + 4), .ref (tr + 5), .int (nI (d + 1)), .int (nI 2)])) := ⟨_, rfl⟩
    have hw : fw_H D kCl (fw_A w (sz)) s.heap w12 (sz) H locs := by rw [e12]; exact hw
    have hc_ : w12 (tr + 1) = some (.inr (1, [.ref (tr + 1 + 1), .ref (tr + 1 + 2), .int (nI (n))])) := by rw [e12, fw_un (by omega)]; exact hc
    have h1_ : w12 (tr + 1 + 1) = some (.inl (cI, 120, .inl (fun i => nI (oo i)))) := by rw [e12, fw_un (fw_neK h1 h)]; exact h1
    have h2_ : w12 (tr + 1 + 2) = some (.inl (cI, 120, .inl (fun i => nI (vv i)))) := by rw [e12, fw_un (fw_neK h2 h)]; exact h2
    have h4_ : w12 (tr + 4) = some (.inl (cI, 120, .inl (fun i => nI (va_up tt d (13) i)))) := by rw [e12, fw_un (by omega)]; exact h4
    have h5_ : w12 (tr + 5) = some (.inl (cI, 120, .inl (fun i => nI (va_up cc9 d (kCm (13)) i)))) := by rw [e12, fw_un (by omega)]; exact h5
    have h_ : w12 (tr) = some (.inr (7, [.ref (tr + 1), .ref (tr + 4), .ref (tr + 5), .int (nI (d + 1)), .int (nI 2)])) := by rw [e12]; exact fw_us _ _ _
    have h := h_
    have hc := hc_
    have h1 := h1_
    have h2 := h2_
    have h4 := h4_
    have h5 := h5_
    refine lv_iconst (pc := 114) (v := (nI 1)) hx hb dTr_acceptOperand_114 (by decide) ?_
    exact fw_zret (pc := 115) hx hb hr hlocks hw dTr_acceptOperand_115 (by rfl) ⟨rfl, ⟨h, hc, h1, h2, h4, h5⟩, fun q hq => by rw [e12, fw_un (by omega), pf9 q (by omega) (by omega) (by omega)]⟩

set_option maxHeartbeats 4000000 in
set_option maxRecDepth 100000 in
theorem c_Tr_acceptOperator {tr n d x : Nat} {oo vv tt cc9 : Nat → Nat} (hS : trS cI w tr (oo, vv, n, tt, cc9, d, x)) (hnd : n + d < 120) (ht : ∀ i, i < d → tt i < 15) (hcb : ∀ i, i < d → cc9 i < 3) {k : Nat} (hk : k < 14) : fw_C l yTr_acceptOperator (Cond.code yTr_acceptOperator cTr_acceptOperator 2 (some FieldType.boolean) :: kWs) ({ frames := 3, cells := 0, slots := 0, locals := 63 } : Room) D kCl (kty cI cL cQ) (kz tO tB tC sa) [.ref tr, .int (nI k)] (sz) w 0 0 (fun v w' => v = some (.int (nI (if (tOr k (oo, vv, n, tt, cc9, d, x)).1 = true then 1 else 0))) ∧ trS cI w' tr (tOr k (oo, vv, n, tt, cc9, d, x)).2 ∧ ∀ q, q < tr ∨ tr + 6 ≤ q → w' q = w q) := by
  refine fw_ofW (cc := cTr_acceptOperator) (maxL := 2) (ret := (some FieldType.boolean)) (by decide) rfl (Nat.le_of_ble_eq_true rfl) ?_
  intro p e s m args below meth c hx hb hr hts hown hlocks hname hml hK H ls hw hl
  have hW : ∀ w ∈ kWs, w.before args s = true := fun w h => hts w (List.mem_cons_of_mem _ h)
  have hown : s.vm.findClass RTr = some m.cls := hown
  have hl : lv_has ls 2 [(0, .ref tr), (1, .int (nI k))] := hl
  have h : w (tr) = some (.inr (7, [.ref (tr + 1), .ref (tr + 4), .ref (tr + 5), .int (nI (d)), .int (nI (x))])) := hS.1
  have hc : w (tr + 1) = some (.inr (1, [.ref (tr + 1 + 1), .ref (tr + 1 + 2), .int (nI (n))])) := hS.2.1
  have h1 : w (tr + 1 + 1) = some (.inl (cI, 120, .inl (fun i => nI (oo i)))) := hS.2.2.1
  have h2 : w (tr + 1 + 2) = some (.inl (cI, 120, .inl (fun i => nI (vv i)))) := hS.2.2.2.1
  have h4 : w (tr + 4) = some (.inl (cI, 120, .inl (fun i => nI (tt i)))) := hS.2.2.2.2.1
  have h5 : w (tr + 5) = some (.inl (cI, 120, .inl (fun i => nI (cc9 i)))) := hS.2.2.2.2.2
  refine lv_iload_n (pc := 0) hx hb dTr_acceptOperator_0 rfl (lv_at hl 1 rfl) ?_
  rcases (show k = 0 ∨ k = 1 ∨ k = 2 ∨ k = 3 ∨ k = 4 ∨ k = 5 ∨ k = 6 ∨ k = 7 ∨ k = 8 ∨ k = 9 ∨ k = 10 ∨ k = 11 ∨ k = 12 ∨ k = 13 by omega) with rfl | rfl | rfl | rfl | rfl | rfl | rfl | rfl | rfl | rfl | rfl | rfl | rfl | rfl
  · refine lv_tableOut (pc := 1) (tgt := 95) hx hb dTr_acceptOperator_1 (by decide) (by decide) ?_
    refine lv_iconst (pc := 95) (v := (nI 0)) hx hb dTr_acceptOperator_95 (by decide) ?_
    exact fw_zret (pc := 96) hx hb hr hlocks hw dTr_acceptOperator_96 (by rfl) ⟨rfl, ⟨h, hc, h1, h2, h4, h5⟩, fun q hq => rfl⟩
  · refine lv_tableOut (pc := 1) (tgt := 95) hx hb dTr_acceptOperator_1 (by decide) (by decide) ?_
    refine lv_iconst (pc := 95) (v := (nI 0)) hx hb dTr_acceptOperator_95 (by decide) ?_
    exact fw_zret (pc := 96) hx hb hr hlocks hw dTr_acceptOperator_96 (by rfl) ⟨rfl, ⟨h, hc, h1, h2, h4, h5⟩, fun q hq => rfl⟩
  · refine lv_tableIn (pc := 1) (tgt := 52) hx hb dTr_acceptOperator_1 (by decide) (by decide) rfl (by decide) ?_
    refine lv_aload_n (pc := 52) hx hb dTr_acceptOperator_52 rfl (lv_at hl 0 rfl) ?_
    refine va_getsN (pc := 53) (C := "BigCalculator") hx hb hK.2.1.2.1.1 hw.2.2.2.2 hown (va_Nw.use rfl hK.2.1.2.2.2.1.2.1) (fun _ h => h) dTr_acceptOperator_53 ?_
    refine lv_iload_n (pc := 56) hx hb dTr_acceptOperator_56 rfl (lv_at hl 1 rfl) ?_
    refine va_ti (pc := 57) (v := .int (nI (kBi (2)))) hx hb hK.2.1.2.1.2 hw.2.2.2.2 (nI_in (show 2 < 15 from (show 2 < 15 by decide)) (by decide)) (by rw [nI_clamp (show 2 < 2 ^ 31 from Nat.lt_trans (show 2 < 15 by decide) (by decide))]) dTr_acceptOperator_57 ?_
    rw [show (nI (kBi (2)) : Int32) = nI 1 from (by decide)]
    refine fw_cV (pc := 58) (As := [.int (nI 1)]) (rest := []) ⟨hx, hb, hml, hown, hW⟩ (c_Tr_release (bd := 1) (by decide) (by omega) ht h hc h1 h2 h4) (cwV 1 hW (kw_V lm_Tr_48 im_Tr_release se_Tr_release ini_Tr cd_Tr_release) rfl rfl rfl (by decide +kernel) ⟨Nat.le_of_ble_eq_true rfl, Nat.le_of_ble_eq_true rfl⟩) hK hw h rfl rfl hl.1 rfl (Nat.le_of_ble_eq_true rfl) dTr_acceptOperator_58 ⟨Nat.le_of_ble_eq_true rfl, Nat.le_of_ble_eq_true rfl⟩ (fun v w1 H locs hq hw => ?_)
    obtain ⟨o1, v1, n1, d1, hrl⟩ : ∃ o1 v1 n1 d1, rl (1) tt d oo vv n = (o1, v1, n1, d1) := ⟨_, _, _, _, rfl⟩
    have hrs := rl_sum hrl
    rw [hrl] at hq
    obtain ⟨rfl, h, hc, h1, h2, rf9⟩ := hq
    have h4_ : w1 (tr + 4) = some (.inl (cI, 120, .inl (fun i => nI (tt i)))) := (rf9 _ (by omega)).trans h4
    have h5_ : w1 (tr + 5) = some (.inl (cI, 120, .inl (fun i => nI (cc9 i)))) := (rf9 _ (by omega)).trans h5
    have h4 := h4_
    have h5 := h5_
    have h : w1 (tr) = some (.inr (7, [.ref (tr + 1), .ref (tr + 4), .ref (tr + 5), .int (nI (d1)), .int (nI (x))])) := h
    have hc : w1 (tr + 1) = some (.inr (1, [.ref (tr + 1 + 1), .ref (tr + 1 + 2), .int (nI (n1))])) := hc
    have h1 : w1 (tr + 1 + 1) = some (.inl (cI, 120, .inl (fun i => nI (o1 i)))) := h1
    have h2 : w1 (tr + 1 + 2) = some (.inl (cI, 120, .inl (fun i => nI (v1 i)))) := h2
    refine W.eq (g2 := F0 m 61 ls []) rfl ?_
    refine lv_aload_n (pc := 61) hx hb dTr_acceptOperator_61 rfl (lv_at hl 0 rfl) ?_
    refine lv_iload_n (pc := 62) hx hb dTr_acceptOperator_62 rfl (lv_at hl 1 rfl) ?_
    refine fw_cV (pc := 63) (As := [.int (nI 2)]) (rest := []) ⟨hx, hb, hml, hown, hW⟩ (c_Tr_push (k := 2) (by omega) (by decide) h h4 h5) (cwV 1 hW (kw_V lm_Tr_63 im_Tr_push se_Tr_push ini_Tr cd_Tr_push) rfl rfl rfl (by decide +kernel) ⟨Nat.le_of_ble_eq_true rfl, Nat.le_of_ble_eq_true rfl⟩) hK hw h rfl rfl hl.1 rfl (Nat.le_of_ble_eq_true rfl) dTr_acceptOperator_63 ⟨Nat.le_of_ble_eq_true rfl, Nat.le_of_ble_eq_true rfl⟩ (fun v w2 H locs hq hw => ?_)
    obtain ⟨rfl, h, h4, h5, pf9⟩ := hq
    have hc_ : w2 (tr + 1) = some (.inr (1, [.ref (tr + 1 + 1), .ref (tr + 1 + 2), .int (nI (n1))])) := (pf9 _ (by omega) (by omega) (by omega)).trans hc
    have h1_ : w2 (tr + 1 + 1) = some (.inl (cI, 120, .inl (fun i => nI (o1 i)))) := (pf9 _ (by omega) (by omega) (by omega)).trans h1
    have h2_ : w2 (tr + 1 + 2) = some (.inl (cI, 120, .inl (fun i => nI (v1 i)))) := (pf9 _ (by omega) (by omega) (by omega)).trans h2
    have hc := hc_
    have h1 := h1_
    have h2 := h2_
    refine W.eq (g2 := F0 m 66 ls []) rfl ?_
    refine lv_aload_n (pc := 66) hx hb dTr_acceptOperator_66 rfl (lv_at hl 0 rfl) ?_
    refine lv_iconst (pc := 67) (v := (nI 0)) hx hb dTr_acceptOperator_67 (by decide) ?_
    refine fw_put (pc := 68) (ci := 7) (v := .int (nI 0)) (ty := .int) (C := RTr) (T := TTr) (N := 5) hx hb hW in_Tr tyTr tyTr_ok nmTr hown hK.1 hw h rfl 4 (by decide) (hW _ lf_Tr_29) (fun _ h => h) rfl (by decide +kernel) rfl rfl (Nat.le_of_ble_eq_true rfl) dTr_acceptOperator_68 (fun H locs hw => ?_)
    obtain ⟨w3, e3⟩ : ∃ w_, w_ = fw_up w2 (tr) (.inr (7, [.ref (tr + 1), .ref (tr + 4), .ref (tr + 5), .int (nI (d1 + 1)), .int (nI 0)])) := ⟨_, rfl⟩
    have hw : fw_H D kCl (fw_A w (sz)) s.heap w3 (sz) H locs := by rw [e3]; exact hw
    have h4_ : w3 (tr + 4) = some (.inl (cI, 120, .inl (fun i => nI (va_up tt d1 (2) i)))) := by rw [e3, fw_un (by omega)]; exact h4
    have h5_ : w3 (tr + 5) = some (.inl (cI, 120, .inl (fun i => nI (va_up cc9 d1 (kCm (2)) i)))) := by rw [e3, fw_un (by omega)]; exact h5
    have hc_ : w3 (tr + 1) = some (.inr (1, [.ref (tr + 1 + 1), .ref (tr + 1 + 2), .int (nI (n1))])) := by rw [e3, fw_un (by omega)]; exact hc
    have h1_ : w3 (tr + 1 + 1) = some (.inl (cI, 120, .inl (fun i => nI (o1 i)))) := by rw [e3, fw_un (fw_neK h1 h)]; exact h1
    have h2_ : w3 (tr + 1 + 2) = some (.inl (cI, 120, .inl (fun i => nI (v1 i)))) := by rw [e3, fw_un (fw_neK h2 h)]; exact h2
    have h_ : w3 (tr) = some (.inr (7, [.ref (tr + 1), .ref (tr + 4), .ref (tr + 5), .int (nI (d1 + 1)), .int (nI 0)])) := by rw [e3]; exact fw_us _ _ _
    have h4 := h4_
    have h5 := h5_
    have h := h_
    have hc := hc_
    have h1 := h1_
    have h2 := h2_
    refine lv_iconst (pc := 71) (v := (nI 1)) hx hb dTr_acceptOperator_71 (by decide) ?_
    have hf : tOr 2 (oo, vv, n, tt, cc9, d, x) = (true, (o1, v1, n1, va_up tt d1 2, va_up cc9 d1 (kCm 2), d1 + 1, 0)) := tRp_eq (x := x) hrl
    exact fw_zret (pc := 72) hx hb hr hlocks hw dTr_acceptOperator_72 (by rfl) ⟨by rw [hf]; rfl, by rw [hf]; exact ⟨h, hc, h1, h2, h4, h5⟩, fun q hq => by rw [e3, fw_un (by omega), pf9 q (by omega) (by omega) (by omega), rf9 q (by omega)]⟩
  · refine lv_tableIn (pc := 1) (tgt := 52) hx hb dTr_acceptOperator_1 (by decide) (by decide) rfl (by decide) ?_
    refine lv_aload_n (pc := 52) hx hb dTr_acceptOperator_52 rfl (lv_at hl 0 rfl) ?_
    refine va_getsN (pc := 53) (C := "BigCalculator") hx hb hK.2.1.2.1.1 hw.2.2.2.2 hown (va_Nw.use rfl hK.2.1.2.2.2.1.2.1) (fun _ h => h) dTr_acceptOperator_53 ?_
    refine lv_iload_n (pc := 56) hx hb dTr_acceptOperator_56 rfl (lv_at hl 1 rfl) ?_
    refine va_ti (pc := 57) (v := .int (nI (kBi (3)))) hx hb hK.2.1.2.1.2 hw.2.2.2.2 (nI_in (show 3 < 15 from (show 3 < 15 by decide)) (by decide)) (by rw [nI_clamp (show 3 < 2 ^ 31 from Nat.lt_trans (show 3 < 15 by decide) (by decide))]) dTr_acceptOperator_57 ?_
    rw [show (nI (kBi (3)) : Int32) = nI 1 from (by decide)]
    refine fw_cV (pc := 58) (As := [.int (nI 1)]) (rest := []) ⟨hx, hb, hml, hown, hW⟩ (c_Tr_release (bd := 1) (by decide) (by omega) ht h hc h1 h2 h4) (cwV 1 hW (kw_V lm_Tr_48 im_Tr_release se_Tr_release ini_Tr cd_Tr_release) rfl rfl rfl (by decide +kernel) ⟨Nat.le_of_ble_eq_true rfl, Nat.le_of_ble_eq_true rfl⟩) hK hw h rfl rfl hl.1 rfl (Nat.le_of_ble_eq_true rfl) dTr_acceptOperator_58 ⟨Nat.le_of_ble_eq_true rfl, Nat.le_of_ble_eq_true rfl⟩ (fun v w4 H locs hq hw => ?_)
    obtain ⟨o1, v1, n1, d1, hrl⟩ : ∃ o1 v1 n1 d1, rl (1) tt d oo vv n = (o1, v1, n1, d1) := ⟨_, _, _, _, rfl⟩
    have hrs := rl_sum hrl
    rw [hrl] at hq
    obtain ⟨rfl, h, hc, h1, h2, rf9⟩ := hq
    have h4_ : w4 (tr + 4) = some (.inl (cI, 120, .inl (fun i => nI (tt i)))) := (rf9 _ (by omega)).trans h4
    have h5_ : w4 (tr + 5) = some (.inl (cI, 120, .inl (fun i => nI (cc9 i)))) := (rf9 _ (by omega)).trans h5
    have h4 := h4_
    have h5 := h5_
    have h : w4 (tr) = some (.inr (7, [.ref (tr + 1), .ref (tr + 4), .ref (tr + 5), .int (nI (d1)), .int (nI (x))])) := h
    have hc : w4 (tr + 1) = some (.inr (1, [.ref (tr + 1 + 1), .ref (tr + 1 + 2), .int (nI (n1))])) := hc
    have h1 : w4 (tr + 1 + 1) = some (.inl (cI, 120, .inl (fun i => nI (o1 i)))) := h1
    have h2 : w4 (tr + 1 + 2) = some (.inl (cI, 120, .inl (fun i => nI (v1 i)))) := h2
    refine W.eq (g2 := F0 m 61 ls []) rfl ?_
    refine lv_aload_n (pc := 61) hx hb dTr_acceptOperator_61 rfl (lv_at hl 0 rfl) ?_
    refine lv_iload_n (pc := 62) hx hb dTr_acceptOperator_62 rfl (lv_at hl 1 rfl) ?_
    refine fw_cV (pc := 63) (As := [.int (nI 3)]) (rest := []) ⟨hx, hb, hml, hown, hW⟩ (c_Tr_push (k := 3) (by omega) (by decide) h h4 h5) (cwV 1 hW (kw_V lm_Tr_63 im_Tr_push se_Tr_push ini_Tr cd_Tr_push) rfl rfl rfl (by decide +kernel) ⟨Nat.le_of_ble_eq_true rfl, Nat.le_of_ble_eq_true rfl⟩) hK hw h rfl rfl hl.1 rfl (Nat.le_of_ble_eq_true rfl) dTr_acceptOperator_63 ⟨Nat.le_of_ble_eq_true rfl, Nat.le_of_ble_eq_true rfl⟩ (fun v w5 H locs hq hw => ?_)
    obtain ⟨rfl, h, h4, h5, pf9⟩ := hq
    have hc_ : w5 (tr + 1) = some (.inr (1, [.ref (tr + 1 + 1), .ref (tr + 1 + 2), .int (nI (n1))])) := (pf9 _ (by omega) (by omega) (by omega)).trans hc
    have h1_ : w5 (tr + 1 + 1) = some (.inl (cI, 120, .inl (fun i => nI (o1 i)))) := (pf9 _ (by omega) (by omega) (by omega)).trans h1
    have h2_ : w5 (tr + 1 + 2) = some (.inl (cI, 120, .inl (fun i => nI (v1 i)))) := (pf9 _ (by omega) (by omega) (by omega)).trans h2
    have hc := hc_
    have h1 := h1_
    have h2 := h2_
    refine W.eq (g2 := F0 m 66 ls []) rfl ?_
    refine lv_aload_n (pc := 66) hx hb dTr_acceptOperator_66 rfl (lv_at hl 0 rfl) ?_
    refine lv_iconst (pc := 67) (v := (nI 0)) hx hb dTr_acceptOperator_67 (by decide) ?_
    refine fw_put (pc := 68) (ci := 7) (v := .int (nI 0)) (ty := .int) (C := RTr) (T := TTr) (N := 5) hx hb hW in_Tr tyTr tyTr_ok nmTr hown hK.1 hw h rfl 4 (by decide) (hW _ lf_Tr_29) (fun _ h => h) rfl (by decide +kernel) rfl rfl (Nat.le_of_ble_eq_true rfl) dTr_acceptOperator_68 (fun H locs hw => ?_)
    obtain ⟨w6, e6⟩ : ∃ w_, w_ = fw_up w5 (tr) (.inr (7, [.ref (tr + 1), .ref (tr + 4), .ref (tr + 5), .int (nI (d1 + 1)), .int (nI 0)])) := ⟨_, rfl⟩
    have hw : fw_H D kCl (fw_A w (sz)) s.heap w6 (sz) H locs := by rw [e6]; exact hw
    have h4_ : w6 (tr + 4) = some (.inl (cI, 120, .inl (fun i => nI (va_up tt d1 (3) i)))) := by rw [e6, fw_un (by omega)]; exact h4
    have h5_ : w6 (tr + 5) = some (.inl (cI, 120, .inl (fun i => nI (va_up cc9 d1 (kCm (3)) i)))) := by rw [e6, fw_un (by omega)]; exact h5
    have hc_ : w6 (tr + 1) = some (.inr (1, [.ref (tr + 1 + 1), .ref (tr + 1 + 2), .int (nI (n1))])) := by rw [e6, fw_un (by omega)]; exact hc
    have h1_ : w6 (tr + 1 + 1) = some (.inl (cI, 120, .inl (fun i => nI (o1 i)))) := by rw [e6, fw_un (fw_neK h1 h)]; exact h1
    have h2_ : w6 (tr + 1 + 2) = some (.inl (cI, 120, .inl (fun i => nI (v1 i)))) := by rw [e6, fw_un (fw_neK h2 h)]; exact h2
    have h_ : w6 (tr) = some (.inr (7, [.ref (tr + 1), .ref (tr + 4), .ref (tr + 5), .int (nI (d1 + 1)), .int (nI 0)])) := by rw [e6]; exact fw_us _ _ _
    have h4 := h4_
    have h5 := h5_
    have h := h_
    have hc := hc_
    have h1 := h1_
    have h2 := h2_
    refine lv_iconst (pc := 71) (v := (nI 1)) hx hb dTr_acceptOperator_71 (by decide) ?_
    have hf : tOr 3 (oo, vv, n, tt, cc9, d, x) = (true, (o1, v1, n1, va_up tt d1 3, va_up cc9 d1 (kCm 3), d1 + 1, 0)) := tRp_eq (x := x) hrl
    exact fw_zret (pc := 72) hx hb hr hlocks hw dTr_acceptOperator_72 (by rfl) ⟨by rw [hf]; rfl, by rw [hf]; exact ⟨h, hc, h1, h2, h4, h5⟩, fun q hq => by rw [e6, fw_un (by omega), pf9 q (by omega) (by omega) (by omega), rf9 q (by omega)]⟩
  · refine lv_tableIn (pc := 1) (tgt := 52) hx hb dTr_acceptOperator_1 (by decide) (by decide) rfl (by decide) ?_
    refine lv_aload_n (pc := 52) hx hb dTr_acceptOperator_52 rfl (lv_at hl 0 rfl) ?_
    refine va_getsN (pc := 53) (C := "BigCalculator") hx hb hK.2.1.2.1.1 hw.2.2.2.2 hown (va_Nw.use rfl hK.2.1.2.2.2.1.2.1) (fun _ h => h) dTr_acceptOperator_53 ?_
    refine lv_iload_n (pc := 56) hx hb dTr_acceptOperator_56 rfl (lv_at hl 1 rfl) ?_
    refine va_ti (pc := 57) (v := .int (nI (kBi (4)))) hx hb hK.2.1.2.1.2 hw.2.2.2.2 (nI_in (show 4 < 15 from (show 4 < 15 by decide)) (by decide)) (by rw [nI_clamp (show 4 < 2 ^ 31 from Nat.lt_trans (show 4 < 15 by decide) (by decide))]) dTr_acceptOperator_57 ?_
    rw [show (nI (kBi (4)) : Int32) = nI 2 from (by decide)]
    refine fw_cV (pc := 58) (As := [.int (nI 2)]) (rest := []) ⟨hx, hb, hml, hown, hW⟩ (c_Tr_release (bd := 2) (by decide) (by omega) ht h hc h1 h2 h4) (cwV 1 hW (kw_V lm_Tr_48 im_Tr_release se_Tr_release ini_Tr cd_Tr_release) rfl rfl rfl (by decide +kernel) ⟨Nat.le_of_ble_eq_true rfl, Nat.le_of_ble_eq_true rfl⟩) hK hw h rfl rfl hl.1 rfl (Nat.le_of_ble_eq_true rfl) dTr_acceptOperator_58 ⟨Nat.le_of_ble_eq_true rfl, Nat.le_of_ble_eq_true rfl⟩ (fun v w7 H locs hq hw => ?_)
    obtain ⟨o1, v1, n1, d1, hrl⟩ : ∃ o1 v1 n1 d1, rl (2) tt d oo vv n = (o1, v1, n1, d1) := ⟨_, _, _, _, rfl⟩
    have hrs := rl_sum hrl
    rw [hrl] at hq
    obtain ⟨rfl, h, hc, h1, h2, rf9⟩ := hq
    have h4_ : w7 (tr + 4) = some (.inl (cI, 120, .inl (fun i => nI (tt i)))) := (rf9 _ (by omega)).trans h4
    have h5_ : w7 (tr + 5) = some (.inl (cI, 120, .inl (fun i => nI (cc9 i)))) := (rf9 _ (by omega)).trans h5
    have h4 := h4_
    have h5 := h5_
    have h : w7 (tr) = some (.inr (7, [.ref (tr + 1), .ref (tr + 4), .ref (tr + 5), .int (nI (d1)), .int (nI (x))])) := h
    have hc : w7 (tr + 1) = some (.inr (1, [.ref (tr + 1 + 1), .ref (tr + 1 + 2), .int (nI (n1))])) := hc
    have h1 : w7 (tr + 1 + 1) = some (.inl (cI, 120, .inl (fun i => nI (o1 i)))) := h1
    have h2 : w7 (tr + 1 + 2) = some (.inl (cI, 120, .inl (fun i => nI (v1 i)))) := h2
    refine W.eq (g2 := F0 m 61 ls []) rfl ?_
    refine lv_aload_n (pc := 61) hx hb dTr_acceptOperator_61 rfl (lv_at hl 0 rfl) ?_
    refine lv_iload_n (pc := 62) hx hb dTr_acceptOperator_62 rfl (lv_at hl 1 rfl) ?_
    refine fw_cV (pc := 63) (As := [.int (nI 4)]) (rest := []) ⟨hx, hb, hml, hown, hW⟩ (c_Tr_push (k := 4) (by omega) (by decide) h h4 h5) (cwV 1 hW (kw_V lm_Tr_63 im_Tr_push se_Tr_push ini_Tr cd_Tr_push) rfl rfl rfl (by decide +kernel) ⟨Nat.le_of_ble_eq_true rfl, Nat.le_of_ble_eq_true rfl⟩) hK hw h rfl rfl hl.1 rfl (Nat.le_of_ble_eq_true rfl) dTr_acceptOperator_63 ⟨Nat.le_of_ble_eq_true rfl, Nat.le_of_ble_eq_true rfl⟩ (fun v w8 H locs hq hw => ?_)
    obtain ⟨rfl, h, h4, h5, pf9⟩ := hq
    have hc_ : w8 (tr + 1) = some (.inr (1, [.ref (tr + 1 + 1), .ref (tr + 1 + 2), .int (nI (n1))])) := (pf9 _ (by omega) (by omega) (by omega)).trans hc
    have h1_ : w8 (tr + 1 + 1) = some (.inl (cI, 120, .inl (fun i => nI (o1 i)))) := (pf9 _ (by omega) (by omega) (by omega)).trans h1
    have h2_ : w8 (tr + 1 + 2) = some (.inl (cI, 120, .inl (fun i => nI (v1 i)))) := (pf9 _ (by omega) (by omega) (by omega)).trans h2
    have hc := hc_
    have h1 := h1_
    have h2 := h2_
    refine W.eq (g2 := F0 m 66 ls []) rfl ?_
    refine lv_aload_n (pc := 66) hx hb dTr_acceptOperator_66 rfl (lv_at hl 0 rfl) ?_
    refine lv_iconst (pc := 67) (v := (nI 0)) hx hb dTr_acceptOperator_67 (by decide) ?_
    refine fw_put (pc := 68) (ci := 7) (v := .int (nI 0)) (ty := .int) (C := RTr) (T := TTr) (N := 5) hx hb hW in_Tr tyTr tyTr_ok nmTr hown hK.1 hw h rfl 4 (by decide) (hW _ lf_Tr_29) (fun _ h => h) rfl (by decide +kernel) rfl rfl (Nat.le_of_ble_eq_true rfl) dTr_acceptOperator_68 (fun H locs hw => ?_)
    obtain ⟨w9, e9⟩ : ∃ w_, w_ = fw_up w8 (tr) (.inr (7, [.ref (tr + 1), .ref (tr + 4), .ref (tr + 5), .int (nI (d1 + 1)), .int (nI 0)])) := ⟨_, rfl⟩
    have hw : fw_H D kCl (fw_A w (sz)) s.heap w9 (sz) H locs := by rw [e9]; exact hw
    have h4_ : w9 (tr + 4) = some (.inl (cI, 120, .inl (fun i => nI (va_up tt d1 (4) i)))) := by rw [e9, fw_un (by omega)]; exact h4
    have h5_ : w9 (tr + 5) = some (.inl (cI, 120, .inl (fun i => nI (va_up cc9 d1 (kCm (4)) i)))) := by rw [e9, fw_un (by omega)]; exact h5
    have hc_ : w9 (tr + 1) = some (.inr (1, [.ref (tr + 1 + 1), .ref (tr + 1 + 2), .int (nI (n1))])) := by rw [e9, fw_un (by omega)]; exact hc
    have h1_ : w9 (tr + 1 + 1) = some (.inl (cI, 120, .inl (fun i => nI (o1 i)))) := by rw [e9, fw_un (fw_neK h1 h)]; exact h1
    have h2_ : w9 (tr + 1 + 2) = some (.inl (cI, 120, .inl (fun i => nI (v1 i)))) := by rw [e9, fw_un (fw_neK h2 h)]; exact h2
    have h_ : w9 (tr) = some (.inr (7, [.ref (tr + 1), .ref (tr + 4), .ref (tr + 5), .int (nI (d1 + 1)), .int (nI 0)])) := by rw [e9]; exact fw_us _ _ _
    have h4 := h4_
    have h5 := h5_
    have h := h_
    have hc := hc_
    have h1 := h1_
    have h2 := h2_
    refine lv_iconst (pc := 71) (v := (nI 1)) hx hb dTr_acceptOperator_71 (by decide) ?_
    have hf : tOr 4 (oo, vv, n, tt, cc9, d, x) = (true, (o1, v1, n1, va_up tt d1 4, va_up cc9 d1 (kCm 4), d1 + 1, 0)) := tRp_eq (x := x) hrl
    exact fw_zret (pc := 72) hx hb hr hlocks hw dTr_acceptOperator_72 (by rfl) ⟨by rw [hf]; rfl, by rw [hf]; exact ⟨h, hc, h1, h2, h4, h5⟩, fun q hq => by rw [e9, fw_un (by omega), pf9 q (by omega) (by omega) (by omega), rf9 q (by omega)]⟩
  · refine lv_tableIn (pc := 1) (tgt := 52) hx hb dTr_acceptOperator_1 (by decide) (by decide) rfl (by decide) ?_
    refine lv_aload_n (pc := 52) hx hb dTr_acceptOperator_52 rfl (lv_at hl 0 rfl) ?_
    refine va_getsN (pc := 53) (C := "BigCalculator") hx hb hK.2.1.2.1.1 hw.2.2.2.2 hown (va_Nw.use rfl hK.2.1.2.2.2.1.2.1) (fun _ h => h) dTr_acceptOperator_53 ?_
    refine lv_iload_n (pc := 56) hx hb dTr_acceptOperator_56 rfl (lv_at hl 1 rfl) ?_
    refine va_ti (pc := 57) (v := .int (nI (kBi (5)))) hx hb hK.2.1.2.1.2 hw.2.2.2.2 (nI_in (show 5 < 15 from (show 5 < 15 by decide)) (by decide)) (by rw [nI_clamp (show 5 < 2 ^ 31 from Nat.lt_trans (show 5 < 15 by decide) (by decide))]) dTr_acceptOperator_57 ?_
    rw [show (nI (kBi (5)) : Int32) = nI 2 from (by decide)]
    refine fw_cV (pc := 58) (As := [.int (nI 2)]) (rest := []) ⟨hx, hb, hml, hown, hW⟩ (c_Tr_release (bd := 2) (by decide) (by omega) ht h hc h1 h2 h4) (cwV 1 hW (kw_V lm_Tr_48 im_Tr_release se_Tr_release ini_Tr cd_Tr_release) rfl rfl rfl (by decide +kernel) ⟨Nat.le_of_ble_eq_true rfl, Nat.le_of_ble_eq_true rfl⟩) hK hw h rfl rfl hl.1 rfl (Nat.le_of_ble_eq_true rfl) dTr_acceptOperator_58 ⟨Nat.le_of_ble_eq_true rfl, Nat.le_of_ble_eq_true rfl⟩ (fun v w10 H locs hq hw => ?_)
    obtain ⟨o1, v1, n1, d1, hrl⟩ : ∃ o1 v1 n1 d1, rl (2) tt d oo vv n = (o1, v1, n1, d1) := ⟨_, _, _, _, rfl⟩
    have hrs := rl_sum hrl
    rw [hrl] at hq
    obtain ⟨rfl, h, hc, h1, h2, rf9⟩ := hq
    have h4_ : w10 (tr + 4) = some (.inl (cI, 120, .inl (fun i => nI (tt i)))) := (rf9 _ (by omega)).trans h4
    have h5_ : w10 (tr + 5) = some (.inl (cI, 120, .inl (fun i => nI (cc9 i)))) := (rf9 _ (by omega)).trans h5
    have h4 := h4_
    have h5 := h5_
    have h : w10 (tr) = some (.inr (7, [.ref (tr + 1), .ref (tr + 4), .ref (tr + 5), .int (nI (d1)), .int (nI (x))])) := h
    have hc : w10 (tr + 1) = some (.inr (1, [.ref (tr + 1 + 1), .ref (tr + 1 + 2), .int (nI (n1))])) := hc
    have h1 : w10 (tr + 1 + 1) = some (.inl (cI, 120, .inl (fun i => nI (o1 i)))) := h1
    have h2 : w10 (tr + 1 + 2) = some (.inl (cI, 120, .inl (fun i => nI (v1 i)))) := h2
    refine W.eq (g2 := F0 m 61 ls []) rfl ?_
    refine lv_aload_n (pc := 61) hx hb dTr_acceptOperator_61 rfl (lv_at hl 0 rfl) ?_
    refine lv_iload_n (pc := 62) hx hb dTr_acceptOperator_62 rfl (lv_at hl 1 rfl) ?_
    refine fw_cV (pc := 63) (As := [.int (nI 5)]) (rest := []) ⟨hx, hb, hml, hown, hW⟩ (c_Tr_push (k := 5) (by omega) (by decide) h h4 h5) (cwV 1 hW (kw_V lm_Tr_63 im_Tr_push se_Tr_push ini_Tr cd_Tr_push) rfl rfl rfl (by decide +kernel) ⟨Nat.le_of_ble_eq_true rfl, Nat.le_of_ble_eq_true rfl⟩) hK hw h rfl rfl hl.1 rfl (Nat.le_of_ble_eq_true rfl) dTr_acceptOperator_63 ⟨Nat.le_of_ble_eq_true rfl, Nat.le_of_ble_eq_true rfl⟩ (fun v w11 H locs hq hw => ?_)
    obtain ⟨rfl, h, h4, h5, pf9⟩ := hq
    have hc_ : w11 (tr + 1) = some (.inr (1, [.ref (tr + 1 + 1), .ref (tr + 1 + 2), .int (nI (n1))])) := (pf9 _ (by omega) (by omega) (by omega)).trans hc
    have h1_ : w11 (tr + 1 + 1) = some (.inl (cI, 120, .inl (fun i => nI (o1 i)))) := (pf9 _ (by omega) (by omega) (by omega)).trans h1
    have h2_ : w11 (tr + 1 + 2) = some (.inl (cI, 120, .inl (fun i => nI (v1 i)))) := (pf9 _ (by omega) (by omega) (by omega)).trans h2
    have hc := hc_
    have h1 := h1_
    have h2 := h2_
    refine W.eq (g2 := F0 m 66 ls []) rfl ?_
    refine lv_aload_n (pc := 66) hx hb dTr_acceptOperator_66 rfl (lv_at hl 0 rfl) ?_
    refine lv_iconst (pc := 67) (v := (nI 0)) hx hb dTr_acceptOperator_67 (by decide) ?_
    refine fw_put (pc := 68) (ci := 7) (v := .int (nI 0)) (ty := .int) (C := RTr) (T := TTr) (N := 5) hx hb hW in_Tr tyTr tyTr_ok nmTr hown hK.1 hw h rfl 4 (by decide) (hW _ lf_Tr_29) (fun _ h => h) rfl (by decide +kernel) rfl rfl (Nat.le_of_ble_eq_true rfl) dTr_acceptOperator_68 (fun H locs hw => ?_)
    obtain ⟨w12, e12⟩ : ∃ w_, w_ = fw_up w11 (tr) (.inr (7, [.ref (tr + 1), .ref (tr + 4), .ref (tr + 5), .int (nI (d1 + 1)), .int (nI 0)])) := ⟨_, rfl⟩
    have hw : fw_H D kCl (fw_A w (sz)) s.heap w12 (sz) H locs := by rw [e12]; exact hw
    have h4_ : w12 (tr + 4) = some (.inl (cI, 120, .inl (fun i => nI (va_up tt d1 (5) i)))) := by rw [e12, fw_un (by omega)]; exact h4
    have h5_ : w12 (tr + 5) = some (.inl (cI, 120, .inl (fun i => nI (va_up cc9 d1 (kCm (5)) i)))) := by rw [e12, fw_un (by omega)]; exact h5
    have hc_ : w12 (tr + 1) = some (.inr (1, [.ref (tr + 1 + 1), .ref (tr + 1 + 2), .int (nI (n1))])) := by rw [e12, fw_un (by omega)]; exact hc
    have h1_ : w12 (tr + 1 + 1) = some (.inl (cI, 120, .inl (fun i => nI (o1 i)))) := by rw [e12, fw_un (fw_neK h1 h)]; exact h1
    have h2_ : w12 (tr + 1 + 2) = some (.inl (cI, 120, .inl (fun i => nI (v1 i)))) := by rw [e12, fw_un (fw_neK h2 h)]; exact h2
    have h_ : w12 (tr) = some (.inr (7, [.ref (tr + 1), .ref (tr + 4), .ref (tr + 5), .int (nI (d1 + 1)), .int (nI 0)])) := by rw [e12]; exact fw_us _ _ _
    have h4 := h4_
    have h5 := h5_
    have h := h_
    have hc := hc_
    have h1 := h1_
    have h2 := h2_
    refine lv_iconst (pc := 71) (v := (nI 1)) hx hb dTr_acceptOperator_71 (by decide) ?_
    have hf : tOr 5 (oo, vv, n, tt, cc9, d, x) = (true, (o1, v1, n1, va_up tt d1 5, va_up cc9 d1 (kCm 5), d1 + 1, 0)) := tRp_eq (x := x) hrl
    exact fw_zret (pc := 72) hx hb hr hlocks hw dTr_acceptOperator_72 (by rfl) ⟨by rw [hf]; rfl, by rw [hf]; exact ⟨h, hc, h1, h2, h4, h5⟩, fun q hq => by rw [e12, fw_un (by omega), pf9 q (by omega) (by omega) (by omega), rf9 q (by omega)]⟩
  · refine lv_tableIn (pc := 1) (tgt := 52) hx hb dTr_acceptOperator_1 (by decide) (by decide) rfl (by decide) ?_
    refine lv_aload_n (pc := 52) hx hb dTr_acceptOperator_52 rfl (lv_at hl 0 rfl) ?_
    refine va_getsN (pc := 53) (C := "BigCalculator") hx hb hK.2.1.2.1.1 hw.2.2.2.2 hown (va_Nw.use rfl hK.2.1.2.2.2.1.2.1) (fun _ h => h) dTr_acceptOperator_53 ?_
    refine lv_iload_n (pc := 56) hx hb dTr_acceptOperator_56 rfl (lv_at hl 1 rfl) ?_
    refine va_ti (pc := 57) (v := .int (nI (kBi (6)))) hx hb hK.2.1.2.1.2 hw.2.2.2.2 (nI_in (show 6 < 15 from (show 6 < 15 by decide)) (by decide)) (by rw [nI_clamp (show 6 < 2 ^ 31 from Nat.lt_trans (show 6 < 15 by decide) (by decide))]) dTr_acceptOperator_57 ?_
    rw [show (nI (kBi (6)) : Int32) = nI 2 from (by decide)]
    refine fw_cV (pc := 58) (As := [.int (nI 2)]) (rest := []) ⟨hx, hb, hml, hown, hW⟩ (c_Tr_release (bd := 2) (by decide) (by omega) ht h hc h1 h2 h4) (cwV 1 hW (kw_V lm_Tr_48 im_Tr_release se_Tr_release ini_Tr cd_Tr_release) rfl rfl rfl (by decide +kernel) ⟨Nat.le_of_ble_eq_true rfl, Nat.le_of_ble_eq_true rfl⟩) hK hw h rfl rfl hl.1 rfl (Nat.le_of_ble_eq_true rfl) dTr_acceptOperator_58 ⟨Nat.le_of_ble_eq_true rfl, Nat.le_of_ble_eq_true rfl⟩ (fun v w13 H locs hq hw => ?_)
    obtain ⟨o1, v1, n1, d1, hrl⟩ : ∃ o1 v1 n1 d1, rl (2) tt d oo vv n = (o1, v1, n1, d1) := ⟨_, _, _, _, rfl⟩
    have hrs := rl_sum hrl
    rw [hrl] at hq
    obtain ⟨rfl, h, hc, h1, h2, rf9⟩ := hq
    have h4_ : w13 (tr + 4) = some (.inl (cI, 120, .inl (fun i => nI (tt i)))) := (rf9 _ (by omega)).trans h4
    have h5_ : w13 (tr + 5) = some (.inl (cI, 120, .inl (fun i => nI (cc9 i)))) := (rf9 _ (by omega)).trans h5
    have h4 := h4_
    have h5 := h5_
    have h : w13 (tr) = some (.inr (7, [.ref (tr + 1), .ref (tr + 4), .ref (tr + 5), .int (nI (d1)), .int (nI (x))])) := h
    have hc : w13 (tr + 1) = some (.inr (1, [.ref (tr + 1 + 1), .ref (tr + 1 + 2), .int (nI (n1))])) := hc
    have h1 : w13 (tr + 1 + 1) = some (.inl (cI, 120, .inl (fun i => nI (o1 i)))) := h1
    have h2 : w13 (tr + 1 + 2) = some (.inl (cI, 120, .inl (fun i => nI (v1 i)))) := h2
    refine W.eq (g2 := F0 m 61 ls []) rfl ?_
    refine lv_aload_n (pc := 61) hx hb dTr_acceptOperator_61 rfl (lv_at hl 0 rfl) ?_
    refine lv_iload_n (pc := 62) hx hb dTr_acceptOperator_62 rfl (lv_at hl 1 rfl) ?_
    refine fw_cV (pc := 63) (As := [.int (nI 6)]) (rest := []) ⟨hx, hb, hml, hown, hW⟩ (c_Tr_push (k := 6) (by omega) (by decide) h h4 h5) (cwV 1 hW (kw_V lm_Tr_63 im_Tr_push se_Tr_push ini_Tr cd_Tr_push) rfl rfl rfl (by decide +kernel) ⟨Nat.le_of_ble_eq_true rfl, Nat.le_of_ble_eq_true rfl⟩) hK hw h rfl rfl hl.1 rfl (Nat.le_of_ble_eq_true rfl) dTr_acceptOperator_63 ⟨Nat.le_of_ble_eq_true rfl, Nat.le_of_ble_eq_true rfl⟩ (fun v w14 H locs hq hw => ?_)
    obtain ⟨rfl, h, h4, h5, pf9⟩ := hq
    have hc_ : w14 (tr + 1) = some (.inr (1, [.ref (tr + 1 + 1), .ref (tr + 1 + 2), .int (nI (n1))])) := (pf9 _ (by omega) (by omega) (by omega)).trans hc
    have h1_ : w14 (tr + 1 + 1) = some (.inl (cI, 120, .inl (fun i => nI (o1 i)))) := (pf9 _ (by omega) (by omega) (by omega)).trans h1
    have h2_ : w14 (tr + 1 + 2) = some (.inl (cI, 120, .inl (fun i => nI (v1 i)))) := (pf9 _ (by omega) (by omega) (by omega)).trans h2
    have hc := hc_
    have h1 := h1_
    have h2 := h2_
    refine W.eq (g2 := F0 m 66 ls []) rfl ?_
    refine lv_aload_n (pc := 66) hx hb dTr_acceptOperator_66 rfl (lv_at hl 0 rfl) ?_
    refine lv_iconst (pc := 67) (v := (nI 0)) hx hb dTr_acceptOperator_67 (by decide) ?_
    refine fw_put (pc := 68) (ci := 7) (v := .int (nI 0)) (ty := .int) (C := RTr) (T := TTr) (N := 5) hx hb hW in_Tr tyTr tyTr_ok nmTr hown hK.1 hw h rfl 4 (by decide) (hW _ lf_Tr_29) (fun _ h => h) rfl (by decide +kernel) rfl rfl (Nat.le_of_ble_eq_true rfl) dTr_acceptOperator_68 (fun H locs hw => ?_)
    obtain ⟨w15, e15⟩ : ∃ w_, w_ = fw_up w14 (tr) (.inr (7, [.ref (tr + 1), .ref (tr + 4), .ref (tr + 5), .int (nI (d1 + 1)), .int (nI 0)])) := ⟨_, rfl⟩
    have hw : fw_H D kCl (fw_A w (sz)) s.heap w15 (sz) H locs := by rw [e15]; exact hw
    have h4_ : w15 (tr + 4) = some (.inl (cI, 120, .inl (fun i => nI (va_up tt d1 (6) i)))) := by rw [e15, fw_un (by omega)]; exact h4
    have h5_ : w15 (tr + 5) = some (.inl (cI, 120, .inl (fun i => nI (va_up cc9 d1 (kCm (6)) i)))) := by rw [e15, fw_un (by omega)]; exact h5
    have hc_ : w15 (tr + 1) = some (.inr (1, [.ref (tr + 1 + 1), .ref (tr + 1 + 2), .int (nI (n1))])) := by rw [e15, fw_un (by omega)]; exact hc
    have h1_ : w15 (tr + 1 + 1) = some (.inl (cI, 120, .inl (fun i => nI (o1 i)))) := by rw [e15, fw_un (fw_neK h1 h)]; exact h1
    have h2_ : w15 (tr + 1 + 2) = some (.inl (cI, 120, .inl (fun i => nI (v1 i)))) := by rw [e15, fw_un (fw_neK h2 h)]; exact h2
    have h_ : w15 (tr) = some (.inr (7, [.ref (tr + 1), .ref (tr + 4), .ref (tr + 5), .int (nI (d1 + 1)), .int (nI 0)])) := by rw [e15]; exact fw_us _ _ _
    have h4 := h4_
    have h5 := h5_
    have h := h_
    have hc := hc_
    have h1 := h1_
    have h2 := h2_
    refine lv_iconst (pc := 71) (v := (nI 1)) hx hb dTr_acceptOperator_71 (by decide) ?_
    have hf : tOr 6 (oo, vv, n, tt, cc9, d, x) = (true, (o1, v1, n1, va_up tt d1 6, va_up cc9 d1 (kCm 6), d1 + 1, 0)) := tRp_eq (x := x) hrl
    exact fw_zret (pc := 72) hx hb hr hlocks hw dTr_acceptOperator_72 (by rfl) ⟨by rw [hf]; rfl, by rw [hf]; exact ⟨h, hc, h1, h2, h4, h5⟩, fun q hq => by rw [e15, fw_un (by omega), pf9 q (by omega) (by omega) (by omega), rf9 q (by omega)]⟩
  · refine lv_tableIn (pc := 1) (tgt := 73) hx hb dTr_acceptOperator_1 (by decide) (by decide) rfl (by decide) ?_
    refine lv_aload_n (pc := 73) hx hb dTr_acceptOperator_73 rfl (lv_at hl 0 rfl) ?_
    refine lv_iload_n (pc := 74) hx hb dTr_acceptOperator_74 rfl (lv_at hl 1 rfl) ?_
    refine fw_cV (pc := 75) (As := [.int (nI 7)]) (rest := []) ⟨hx, hb, hml, hown, hW⟩ (c_Tr_push (k := 7) (by omega) (by decide) h h4 h5) (cwV 1 hW (kw_V lm_Tr_63 im_Tr_push se_Tr_push ini_Tr cd_Tr_push) rfl rfl rfl (by decide +kernel) ⟨Nat.le_of_ble_eq_true rfl, Nat.le_of_ble_eq_true rfl⟩) hK hw h rfl rfl hl.1 rfl (Nat.le_of_ble_eq_true rfl) dTr_acceptOperator_75 ⟨Nat.le_of_ble_eq_true rfl, Nat.le_of_ble_eq_true rfl⟩ (fun v w16 H locs hq hw => ?_)
    obtain ⟨rfl, h, h4, h5, pf9⟩ := hq
    have hc_ : w16 (tr + 1) = some (.inr (1, [.ref (tr + 1 + 1), .ref (tr + 1 + 2), .int (nI (n))])) := (pf9 _ (by omega) (by omega) (by omega)).trans hc
    have h1_ : w16 (tr + 1 + 1) = some (.inl (cI, 120, .inl (fun i => nI (oo i)))) := (pf9 _ (by omega) (by omega) (by omega)).trans h1
    have h2_ : w16 (tr + 1 + 2) = some (.inl (cI, 120, .inl (fun i => nI (vv i)))) := (pf9 _ (by omega) (by omega) (by omega)).trans h2
    have hc := hc_
    have h1 := h1_
    have h2 := h2_
    refine W.eq (g2 := F0 m 78 ls []) rfl ?_
    refine lv_aload_n (pc := 78) hx hb dTr_acceptOperator_78 rfl (lv_at hl 0 rfl) ?_
    refine lv_iconst (pc := 79) (v := (nI 0)) hx hb dTr_acceptOperator_79 (by decide) ?_
    refine fw_put (pc := 80) (ci := 7) (v := .int (nI 0)) (ty := .int) (C := RTr) (T := TTr) (N := 5) hx hb hW in_Tr tyTr tyTr_ok nmTr hown hK.1 hw h rfl 4 (by decide) (hW _ lf_Tr_29) (fun _ h => h) rfl (by decide +kernel) rfl rfl (Nat.le_of_ble_eq_true rfl) dTr_acceptOperator_80 (fun H locs hw => ?_)
    obtain ⟨w17, e17⟩ : ∃ w_, w_ = fw_up w16 (tr) (.inr (7, [.ref (tr + 1), .ref (tr + 4), .ref (tr + 5), .int (nI (d + 1)), .int (nI 0)])) := ⟨_, rfl⟩
    have hw : fw_H D kCl (fw_A w (sz)) s.heap w17 (sz) H locs := by rw [e17]; exact hw
    have hc_ : w17 (tr + 1) = some (.inr (1, [.ref (tr + 1 + 1), .ref (tr + 1 + 2), .int (nI (n))])) := by rw [e17, fw_un (by omega)]; exact hc
    have h1_ : w17 (tr + 1 + 1) = some (.inl (cI, 120, .inl (fun i => nI (oo i)))) := by rw [e17, fw_un (fw_neK h1 h)]; exact h1
    have h2_ : w17 (tr + 1 + 2) = some (.inl (cI, 120, .inl (fun i => nI (vv i)))) := by rw [e17, fw_un (fw_neK h2 h)]; exact h2
    have h4_ : w17 (tr + 4) = some (.inl (cI, 120, .inl (fun i => nI (va_up tt d (7) i)))) := by rw [e17, fw_un (by omega)]; exact h4
    have h5_ : w17 (tr + 5) = some (.inl (cI, 120, .inl (fun i => nI (va_up cc9 d (kCm (7)) i)))) := by rw [e17, fw_un (by omega)]; exact h5
    have h_ : w17 (tr) = some (.inr (7, [.ref (tr + 1), .ref (tr + 4), .ref (tr + 5), .int (nI (d + 1)), .int (nI 0)])) := by rw [e17]; exact fw_us _ _ _
    have h := h_
    have hc := hc_
    have h1 := h1_
    have h2 := h2_
    have h4 := h4_
    have h5 := h5_
    refine lv_iconst (pc := 83) (v := (nI 1)) hx hb dTr_acceptOperator_83 (by decide) ?_
    exact fw_zret (pc := 84) hx hb hr hlocks hw dTr_acceptOperator_84 (by rfl) ⟨rfl, ⟨h, hc, h1, h2, h4, h5⟩, fun q hq => by rw [e17, fw_un (by omega), pf9 q (by omega) (by omega) (by omega)]⟩
  · refine lv_tableIn (pc := 1) (tgt := 95) hx hb dTr_acceptOperator_1 (by decide) (by decide) rfl (by decide) ?_
    refine lv_iconst (pc := 95) (v := (nI 0)) hx hb dTr_acceptOperator_95 (by decide) ?_
    exact fw_zret (pc := 96) hx hb hr hlocks hw dTr_acceptOperator_96 (by rfl) ⟨rfl, ⟨h, hc, h1, h2, h4, h5⟩, fun q hq => rfl⟩
  · refine lv_tableIn (pc := 1) (tgt := 90) hx hb dTr_acceptOperator_1 (by decide) (by decide) rfl (by decide) ?_
    refine lv_aload_n (pc := 90) hx hb dTr_acceptOperator_90 rfl (lv_at hl 0 rfl) ?_
    refine fw_cV (pc := 91) (As := []) (rest := []) ⟨hx, hb, hml, hown, hW⟩ (c_Tr_acceptClose hS (by omega) ht hcb) (cwV 0 hW (kw_V lm_Tr_73 im_Tr_acceptClose se_Tr_acceptClose ini_Tr cd_Tr_acceptClose) rfl rfl rfl (by decide +kernel) ⟨Nat.le_of_ble_eq_true rfl, Nat.le_of_ble_eq_true rfl⟩) hK hw h rfl rfl hl.1 rfl (Nat.le_of_ble_eq_true rfl) dTr_acceptOperator_91 ⟨Nat.le_of_ble_eq_true rfl, Nat.le_of_ble_eq_true rfl⟩ (fun v w18 H locs hq hw => ?_)
    obtain ⟨rfl, hS9, rf9⟩ := hq
    refine W.eq (g2 := F0 m 94 ls [.int (nI (if (tCl (oo, vv, n, tt, cc9, d, x)).1 = true then 1 else 0))]) rfl ?_
    exact fw_zret (pc := 94) hx hb hr hlocks hw dTr_acceptOperator_94 (by split <;> rfl) ⟨rfl, hS9, rf9⟩
  · refine lv_tableIn (pc := 1) (tgt := 85) hx hb dTr_acceptOperator_1 (by decide) (by decide) rfl (by decide) ?_
    refine lv_aload_n (pc := 85) hx hb dTr_acceptOperator_85 rfl (lv_at hl 0 rfl) ?_
    refine fw_cV (pc := 86) (As := []) (rest := []) ⟨hx, hb, hml, hown, hW⟩ (c_Tr_acceptComma hS (by omega) ht hcb) (cwV 0 hW (kw_V lm_Tr_69 im_Tr_acceptComma se_Tr_acceptComma ini_Tr cd_Tr_acceptComma) rfl rfl rfl (by decide +kernel) ⟨Nat.le_of_ble_eq_true rfl, Nat.le_of_ble_eq_true rfl⟩) hK hw h rfl rfl hl.1 rfl (Nat.le_of_ble_eq_true rfl) dTr_acceptOperator_86 ⟨Nat.le_of_ble_eq_true rfl, Nat.le_of_ble_eq_true rfl⟩ (fun v w19 H locs hq hw => ?_)
    obtain ⟨rfl, hS9, rf9⟩ := hq
    refine W.eq (g2 := F0 m 89 ls [.int (nI (if (tCm (oo, vv, n, tt, cc9, d, x)).1 = true then 1 else 0))]) rfl ?_
    exact fw_zret (pc := 89) hx hb hr hlocks hw dTr_acceptOperator_89 (by split <;> rfl) ⟨rfl, hS9, rf9⟩
  · refine lv_tableOut (pc := 1) (tgt := 95) hx hb dTr_acceptOperator_1 (by decide) (by decide) ?_
    refine lv_iconst (pc := 95) (v := (nI 0)) hx hb dTr_acceptOperator_95 (by decide) ?_
    exact fw_zret (pc := 96) hx hb hr hlocks hw dTr_acceptOperator_96 (by rfl) ⟨rfl, ⟨h, hc, h1, h2, h4, h5⟩, fun q hq => rfl⟩
  · refine lv_tableOut (pc := 1) (tgt := 95) hx hb dTr_acceptOperator_1 (by decide) (by decide) ?_
    refine lv_iconst (pc := 95) (v := (nI 0)) hx hb dTr_acceptOperator_95 (by decide) ?_
    exact fw_zret (pc := 96) hx hb hr hlocks hw dTr_acceptOperator_96 (by rfl) ⟨rfl, ⟨h, hc, h1, h2, h4, h5⟩, fun q hq => rfl⟩
  · refine lv_tableOut (pc := 1) (tgt := 95) hx hb dTr_acceptOperator_1 (by decide) (by decide) ?_
    refine lv_iconst (pc := 95) (v := (nI 0)) hx hb dTr_acceptOperator_95 (by decide) ?_
    exact fw_zret (pc := 96) hx hb hr hlocks hw dTr_acceptOperator_96 (by rfl) ⟨rfl, ⟨h, hc, h1, h2, h4, h5⟩, fun q hq => rfl⟩

set_option maxHeartbeats 4000000 in
set_option maxRecDepth 100000 in
theorem c_Tr_accept {tr n d x : Nat} {oo vv tt cc9 : Nat → Nat} (hS : trS cI w tr (oo, vv, n, tt, cc9, d, x)) (hnd : n + d < 120) (ht : ∀ i, i < d → tt i < 15) (hcb : ∀ i, i < d → cc9 i < 3) (hx3 : x < 3) {k u : Nat} (hk : k < 14) : fw_C l yTr_accept (Cond.code yTr_accept cTr_accept 3 (some FieldType.boolean) :: kWs) ({ frames := 4, cells := 0, slots := 0, locals := 84 } : Room) D kCl (kty cI cL cQ) (kz tO tB tC sa) [.ref tr, .int (nI k), .int (nI u)] (sz) w 0 0 (fun v w' => v = some (.int (nI (if (tAc k u (oo, vv, n, tt, cc9, d, x)).1 = true then 1 else 0))) ∧ trS cI w' tr (tAc k u (oo, vv, n, tt, cc9, d, x)).2 ∧ ∀ q, q < tr ∨ tr + 6 ≤ q → w' q = w q) := by
  refine fw_ofW (cc := cTr_accept) (maxL := 3) (ret := (some FieldType.boolean)) (by decide) rfl (Nat.le_of_ble_eq_true rfl) ?_
  intro p e s m args below meth c hx hb hr hts hown hlocks hname hml hK H ls hw hl
  have hW : ∀ w ∈ kWs, w.before args s = true := fun w h => hts w (List.mem_cons_of_mem _ h)
  have hown : s.vm.findClass RTr = some m.cls := hown
  have hl : lv_has ls 3 [(0, .ref tr), (1, .int (nI k)), (2, .int (nI u))] := hl
  have h : w (tr) = some (.inr (7, [.ref (tr + 1), .ref (tr + 4), .ref (tr + 5), .int (nI (d)), .int (nI (x))])) := hS.1
  have hc : w (tr + 1) = some (.inr (1, [.ref (tr + 1 + 1), .ref (tr + 1 + 2), .int (nI (n))])) := hS.2.1
  have h1 : w (tr + 1 + 1) = some (.inl (cI, 120, .inl (fun i => nI (oo i)))) := hS.2.2.1
  have h2 : w (tr + 1 + 2) = some (.inl (cI, 120, .inl (fun i => nI (vv i)))) := hS.2.2.2.1
  have h4 : w (tr + 4) = some (.inl (cI, 120, .inl (fun i => nI (tt i)))) := hS.2.2.2.2.1
  have h5 : w (tr + 5) = some (.inl (cI, 120, .inl (fun i => nI (cc9 i)))) := hS.2.2.2.2.2
  refine lv_aload_n (pc := 0) hx hb dTr_accept_0 rfl (lv_at hl 0 rfl) ?_
  refine fw_get (pc := 1) (ci := 7) (v := .int (nI (x))) (C := RTr) (T := TTr) (N := 5) hx hb hW in_Tr hown hK.1 hw h rfl 4 (by decide) (hW _ lf_Tr_29) (fun _ h => h) rfl dTr_accept_1 ?_
  rcases (show x = 0 ∨ x = 1 ∨ x = 2 by omega) with rfl | rfl | rfl
  · refine lv_lookup (pc := 4) (tgt := 32) (off := 28) hx hb dTr_accept_4 (by decide) (by decide) (by decide) ?_
    refine lv_aload_n (pc := 32) hx hb dTr_accept_32 rfl (lv_at hl 0 rfl) ?_
    refine lv_iload_n (pc := 33) hx hb dTr_accept_33 rfl (lv_at hl 1 rfl) ?_
    refine lv_iload_n (pc := 34) hx hb dTr_accept_34 rfl (lv_at hl 2 rfl) ?_
    refine fw_cV (pc := 35) (As := [.int (nI k), .int (nI u)]) (rest := []) ⟨hx, hb, hml, hown, hW⟩ (c_Tr_acceptOperand hS hnd ht hcb hk) (cwV 2 hW (kw_V lm_Tr_52 im_Tr_acceptOperand se_Tr_acceptOperand ini_Tr cd_Tr_acceptOperand) rfl rfl rfl (by decide +kernel) ⟨Nat.le_of_ble_eq_true rfl, Nat.le_of_ble_eq_true rfl⟩) hK hw h rfl rfl hl.1 rfl (Nat.le_of_ble_eq_true rfl) dTr_accept_35 ⟨Nat.le_of_ble_eq_true rfl, Nat.le_of_ble_eq_true rfl⟩ (fun v w1 H locs hq hw => ?_)
    obtain ⟨rfl, hS9, rf9⟩ := hq
    refine W.eq (g2 := F0 m 38 ls [.int (nI (if (tOd k u (oo, vv, n, tt, cc9, d, 0)).1 = true then 1 else 0))]) rfl ?_
    exact fw_zret (pc := 38) hx hb hr hlocks hw dTr_accept_38 (by split <;> rfl) ⟨rfl, hS9, rf9⟩
  · refine lv_lookup (pc := 4) (tgt := 39) (off := 35) hx hb dTr_accept_4 (by decide) (by decide) (by decide) ?_
    refine lv_aload_n (pc := 39) hx hb dTr_accept_39 rfl (lv_at hl 0 rfl) ?_
    refine lv_iload_n (pc := 40) hx hb dTr_accept_40 rfl (lv_at hl 1 rfl) ?_
    refine fw_cV (pc := 41) (As := [.int (nI k)]) (rest := []) ⟨hx, hb, hml, hown, hW⟩ (c_Tr_acceptOperator hS hnd ht hcb hk) (cwV 1 hW (kw_V lm_Tr_55 im_Tr_acceptOperator se_Tr_acceptOperator ini_Tr cd_Tr_acceptOperator) rfl rfl rfl (by decide +kernel) ⟨Nat.le_of_ble_eq_true rfl, Nat.le_of_ble_eq_true rfl⟩) hK hw h rfl rfl hl.1 rfl (Nat.le_of_ble_eq_true rfl) dTr_accept_41 ⟨Nat.le_of_ble_eq_true rfl, Nat.le_of_ble_eq_true rfl⟩ (fun v w2 H locs hq hw => ?_)
    obtain ⟨rfl, hS9, rf9⟩ := hq
    refine W.eq (g2 := F0 m 44 ls [.int (nI (if (tOr k (oo, vv, n, tt, cc9, d, 1)).1 = true then 1 else 0))]) rfl ?_
    exact fw_zret (pc := 44) hx hb hr hlocks hw dTr_accept_44 (by split <;> rfl) ⟨rfl, hS9, rf9⟩
  · refine lv_lookup (pc := 4) (tgt := 45) (off := 41) hx hb dTr_accept_4 (by decide) (by decide) (by decide) ?_
    refine lv_aload_n (pc := 45) hx hb dTr_accept_45 rfl (lv_at hl 0 rfl) ?_
    refine lv_iconst (pc := 46) (v := (nI 0)) hx hb dTr_accept_46 (by decide) ?_
    refine fw_put (pc := 47) (ci := 7) (v := .int (nI 0)) (ty := .int) (C := RTr) (T := TTr) (N := 5) hx hb hW in_Tr tyTr tyTr_ok nmTr hown hK.1 hw h rfl 4 (by decide) (hW _ lf_Tr_29) (fun _ h => h) rfl (by decide +kernel) rfl rfl (Nat.le_of_ble_eq_true rfl) dTr_accept_47 (fun H locs hw => ?_)
    obtain ⟨w3, e3⟩ : ∃ w_, w_ = fw_up w (tr) (.inr (7, [.ref (tr + 1), .ref (tr + 4), .ref (tr + 5), .int (nI (d)), .int (nI 0)])) := ⟨_, rfl⟩
    have hw : fw_H D kCl (fw_A w (sz)) s.heap w3 (sz) H locs := by rw [e3]; exact hw
    have hc_ : w3 (tr + 1) = some (.inr (1, [.ref (tr + 1 + 1), .ref (tr + 1 + 2), .int (nI (n))])) := by rw [e3, fw_un (by omega)]; exact hc
    have h1_ : w3 (tr + 1 + 1) = some (.inl (cI, 120, .inl (fun i => nI (oo i)))) := by rw [e3, fw_un (fw_neK h1 h)]; exact h1
    have h2_ : w3 (tr + 1 + 2) = some (.inl (cI, 120, .inl (fun i => nI (vv i)))) := by rw [e3, fw_un (fw_neK h2 h)]; exact h2
    have h4_ : w3 (tr + 4) = some (.inl (cI, 120, .inl (fun i => nI (tt i)))) := by rw [e3, fw_un (by omega)]; exact h4
    have h5_ : w3 (tr + 5) = some (.inl (cI, 120, .inl (fun i => nI (cc9 i)))) := by rw [e3, fw_un (by omega)]; exact h5
    have h_ : w3 (tr) = some (.inr (7, [.ref (tr + 1), .ref (tr + 4), .ref (tr + 5), .int (nI (d)), .int (nI 0)])) := by rw [e3]; exact fw_us _ _ _
    have h := h_
    have hc := hc_
    have h1 := h1_
    have h2 := h2_
    have h4 := h4_
    have h5 := h5_
    refine lv_iload_n (pc := 50) hx hb dTr_accept_50 rfl (lv_at hl 1 rfl) ?_
    refine lv_bipush (pc := 51) (v := (nI 8)) hx hb dTr_accept_51 (by decide) ?_
    refine lv_icmp_ne (pc := 53) (tgt := 60) hx hb dTr_accept_53 (by decide) (fun h8 => ?_) (fun h8 => ?_)
    · have h88 : ¬ k = 8 := fun h9 => h8 (by rw [h9])
      have hf : tAc k u (oo, vv, n, tt, cc9, d, 2) = (false, (oo, vv, n, tt, cc9, d, 0)) := by (show (decide (k = 8), _) = _); rw [decide_eq_false h88]
      refine lv_iconst (pc := 60) (v := (nI 0)) hx hb dTr_accept_60 (by decide) ?_
      exact fw_zret (pc := 61) hx hb hr hlocks hw dTr_accept_61 (by rfl) ⟨by rw [hf]; rfl, by rw [hf]; exact ⟨h, hc, h1, h2, h4, h5⟩, fun q hq => by rw [e3, fw_un (by omega)]⟩
    · have h88 : k = 8 := (nI_eq (by omega) (by decide)).mp h8
      have hf : tAc k u (oo, vv, n, tt, cc9, d, 2) = (true, (oo, vv, n, tt, cc9, d, 0)) := by (show (decide (k = 8), _) = _); rw [decide_eq_true h88]
      refine lv_iconst (pc := 56) (v := (nI 1)) hx hb dTr_accept_56 (by decide) ?_
      refine lv_goto (pc := 57) (tgt := 61) hx hb dTr_accept_57 (by decide) ?_
      exact fw_zret (pc := 61) hx hb hr hlocks hw dTr_accept_61 (by rfl) ⟨by rw [hf]; rfl, by rw [hf]; exact ⟨h, hc, h1, h2, h4, h5⟩, fun q hq => by rw [e3, fw_un (by omega)]⟩
end TR2
