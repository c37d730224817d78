/-- the registers of the class at b hold R, its variables Y -/
def rgS (cL : ClassId) (w : fw_W) (b : Nat) (R : Nat → Int) : Prop := ∀ i, i < 10 → isI cL w (b + 12 + 3 * i) (R i)
def vrS (cL : ClassId) (w : fw_W) (b : Nat) (Y : Nat → Int) : Prop := ∀ i, i < 8 → isI cL w (b + 43 + 3 * i) (Y i)
theorem rgS.kept {cL : ClassId} {w w' : fw_W} {b : Nat} {R : Nat → Int} (h : rgS cL w b R) (hk : ∀ q, b + 12 ≤ q → q < b + 42 → w' q = w q) : rgS cL w' b R := fun i hi => (h i hi).kept (fun a h1 h2 => hk a (by omega) (by omega))
theorem vrS.kept {cL : ClassId} {w w' : fw_W} {b : Nat} {Y : Nat → Int} (h : vrS cL w b Y) (hk : ∀ q, b + 43 ≤ q → q < b + 67 → w' q = w q) : vrS cL w' b Y := fun i hi => (h i hi).kept (fun a h1 h2 => hk a (by omega) (by omega))
theorem rgS.up {cL : ClassId} {w w' : fw_W} {b lo : Nat} {R : Nat → Int} {r : Int} (h : rgS cL w b R) (hl : lo < 10) (hn : isI cL w' (b + 12 + 3 * lo) r) (hk : ∀ q, q < b + 67 ∨ b + 83 ≤ q → q < b + 12 + 3 * lo ∨ b + 12 + 3 * lo + 3 ≤ q → w' q = w q) : rgS cL w' b (va_up R lo r) := fun i hi => by
  unfold va_up
  by_cases hi2 : i = lo
  · subst hi2; rw [if_pos rfl]; exact hn
  · rw [if_neg hi2]
    exact (h i hi).kept (fun a h1 h2 => hk a (by omega) (by omega))
/-- an instruction: its answer and the outcome -/
def sOp (op u : Nat) (Y : Nat → Int) (a b c : Int) : Nat × Int :=
  match op with
  | 0 => (0, (u : Int))
  | 1 => (0, Y u)
  | 2 => sFit (a + b) a
  | 3 => sFit (a - b) a
  | 4 => sFit (a * b) a
  | 5 => sQuo a b
  | 6 => sRst a b
  | 7 => sPow a b
  | 11 => sGcd a b
  | 12 => sRoot a
  | 13 => sMod a b c
  | _ => (0, -a)
/-- the machine: next, used, most, failure, registers -/
abbrev MS : Type := Nat × Nat × Nat × Nat × (Nat → Int)
def mStep (o v : Nat → Nat) (Y : Nat → Int) : MS → MS
  | (nx, us, mo, _, R) =>
    let lo := us - kOp (o nx)
    let z := sOp (o nx) (v nx) Y (R lo) (R (lo + 1)) (R (lo + 2))
    if z.1 = 0 then (nx + 1, lo + 1, max mo (lo + 1), 0, va_up R lo z.2) else (nx, us, mo, z.1, va_up R lo z.2)
def mRun (o v : Nat → Nat) (Y : Nat → Int) (sz : Nat) : Nat → MS → MS
  | 0, s => s
  | k + 1, s => if s.1 < sz ∧ s.2.2.2.1 = 0 then mRun o v Y sz k (mStep o v Y s) else s
def mAns (sz : Nat) (s : MS) : Nat := if s.2.2.2.1 = 0 then (if s.1 = sz then 0 else 1) else s.2.2.2.1
def cOk (o v : Nat → Nat) (sz : Nat) : Prop := sz ≤ 120 ∧ ∀ i, i < sz → o i < 15 ∧ (o i < 8 ∨ 10 < o i) ∧ kOp (o i) ≤ hg o i ∧ hg o i ≤ 10 ∧ hg o (i + 1) ≤ 10 ∧ v i < 2 ^ 31 ∧ (o i = 1 → v i < 8)
def mOk (o : Nat → Nat) (sz : Nat) : MS → Prop
  | (nx, us, mo, fa, R) => nx ≤ sz ∧ us = hg o nx ∧ us ≤ 10 ∧ mo ≤ 10 ∧ fa < 7 ∧ (fa ≠ 0 → nx < sz) ∧ ∀ i, (R i).natAbs < 2 ^ 768
theorem sFit_ok {r a : Int} (ha : a.natAbs < 2 ^ 768) : (sFit r a).1 < 7 ∧ (sFit r a).2.natAbs < 2 ^ 768 := by
  unfold sFit; split
  · next h => exact ⟨by show 0 < 7; decide, h⟩
  · exact ⟨by show 6 < 7; decide, ha⟩
theorem isq_le (x : Nat) : isq x ≤ x := by
  by_cases h : isq x = 0
  · omega
  · exact Nat.le_trans (Nat.le_mul_of_pos_left _ (by omega)) (isq_ok x).1
theorem sOp_ok {op u : Nat} {Y : Nat → Int} {a b c : Int} (ha : a.natAbs < 2 ^ 768) (hb : b.natAbs < 2 ^ 768) (hc : c.natAbs < 2 ^ 768) (hu : u < 2 ^ 31) (hY : (Y u).natAbs < 2 ^ 768) : (sOp op u Y a b c).1 < 7 ∧ (sOp op u Y a b c).2.natAbs < 2 ^ 768 := by
  have p1 : 1 < 2 ^ 768 := by decide +kernel
  have p31 : 2 ^ 31 < 2 ^ 768 := by decide +kernel
  have hneg : ((0, -a) : Nat × Int).1 < 7 ∧ ((0, -a) : Nat × Int).2.natAbs < 2 ^ 768 := ⟨by show 0 < 7; decide, by show (-a).natAbs < _; rw [Int.natAbs_neg]; exact ha⟩
  unfold sOp
  split
  · exact ⟨by show 0 < 7; decide, by show ((u : Nat) : Int).natAbs < _; rw [Int.natAbs_natCast]; exact Nat.lt_trans hu p31⟩
  · exact ⟨by show 0 < 7; decide, hY⟩
  · exact sFit_ok ha
  · exact sFit_ok ha
  · exact sFit_ok ha
  · unfold sQuo; split
    · exact ⟨by show 2 < 7; decide, ha⟩
    · next h =>
      refine ⟨by show 0 < 7; decide, ?_⟩
      show (wv _ _).natAbs < _
      rw [wv_abs]
      have hq := quo_le (x := a.natAbs) (y := b.natAbs) (by omega) ha p1
      by_cases h2 : sgz a = sgz b ∨ a.natAbs % b.natAbs = 0
      · rw [if_pos h2]; exact Nat.lt_of_le_of_lt (Nat.le_trans (Nat.le_refl _) (Nat.div_le_self _ _)) ha
      · rw [if_neg h2]; rw [if_neg (fun h3 => h2 (Or.inr h3))] at hq; exact hq
  · unfold sRst; split
    · exact ⟨by show 2 < 7; decide, ha⟩
    · next h =>
      refine ⟨by show 0 < 7; decide, ?_⟩
      show (wv _ _).natAbs < _
      rw [wv_abs]
      exact Nat.lt_trans (rmg_lt h) hb
  · unfold sPow; split
    · exact ⟨by show 3 < 7; decide, ha⟩
    · exact sFit_ok ha
  · unfold sGcd
    refine ⟨by show 0 < 7; decide, ?_⟩
    show ((Nat.gcd a.natAbs b.natAbs : Nat) : Int).natAbs < _
    rw [Int.natAbs_natCast]
    by_cases h0 : a.natAbs = 0
    · rw [h0, Nat.gcd_zero_left]; exact hb
    · exact Nat.lt_of_le_of_lt (Nat.gcd_le_left _ (by omega)) ha
  · unfold sRoot; split
    · exact ⟨by show 4 < 7; decide, ha⟩
    · refine ⟨by show 0 < 7; decide, ?_⟩
      show ((isq a.natAbs : Nat) : Int).natAbs < _
      rw [Int.natAbs_natCast]
      exact Nat.lt_of_le_of_lt (isq_le _) ha
  · unfold sMod; split
    · exact ⟨by show 2 < 7; decide, ha⟩
    · next h =>
      split
      · exact ⟨by show 3 < 7; decide, ha⟩
      · split
        · exact ⟨by show 5 < 7; decide, ha⟩
        · refine ⟨by show 0 < 7; decide, ?_⟩
          show ((rmg a c ^ b.natAbs % c.natAbs : Nat) : Int).natAbs < _
          rw [Int.natAbs_natCast]
          exact Nat.lt_trans (Nat.mod_lt _ (by omega)) hc
  · exact hneg
theorem mStep_ok {o v : Nat → Nat} {Y : Nat → Int} {sz : Nat} {nx us mo fa : Nat} {R : Nat → Int} (hc : cOk o v sz) (hY : ∀ i, (Y i).natAbs < 2 ^ 768) (h : mOk o sz (nx, us, mo, fa, R)) (hn : nx < sz) : mOk o sz (mStep o v Y (nx, us, mo, fa, R)) := by
  obtain ⟨h1, h2, h3, h4, h5, h6, h7⟩ := h
  obtain ⟨c1, c2, c3, c4, c5, c6, c7⟩ := hc.2 nx hn
  have hs := sOp_ok (op := o nx) (u := v nx) (Y := Y) (h7 (us - kOp (o nx))) (h7 (us - kOp (o nx) + 1)) (h7 (us - kOp (o nx) + 2)) c6 (hY _)
  have hR : ∀ i, (va_up R (us - kOp (o nx)) (sOp (o nx) (v nx) Y (R (us - kOp (o nx))) (R (us - kOp (o nx) + 1)) (R (us - kOp (o nx) + 2))).2 i).natAbs < 2 ^ 768 := fun i => by
    unfold va_up; split
    · exact hs.2
    · exact h7 i
  have hg1 : hg o (nx + 1) = us - kOp (o nx) + 1 := by rw [h2]; rfl
  by_cases hz : (sOp (o nx) (v nx) Y (R (us - kOp (o nx))) (R (us - kOp (o nx) + 1)) (R (us - kOp (o nx) + 2))).1 = 0
  · rw [show mStep o v Y (nx, us, mo, fa, R) = (nx + 1, us - kOp (o nx) + 1, max mo (us - kOp (o nx) + 1), 0, va_up R (us - kOp (o nx)) (sOp (o nx) (v nx) Y (R (us - kOp (o nx))) (R (us - kOp (o nx) + 1)) (R (us - kOp (o nx) + 2))).2) from if_pos hz]
    exact ⟨hn, hg1.symm, by omega, by omega, by decide, fun h => absurd rfl h, hR⟩
  · rw [show mStep o v Y (nx, us, mo, fa, R) = (nx, us, mo, (sOp (o nx) (v nx) Y (R (us - kOp (o nx))) (R (us - kOp (o nx) + 1)) (R (us - kOp (o nx) + 2))).1, va_up R (us - kOp (o nx)) (sOp (o nx) (v nx) Y (R (us - kOp (o nx))) (R (us - kOp (o nx) + 1)) (R (us - kOp (o nx) + 2))).2) from if_neg hz]
    exact ⟨h1, h2, h3, h4, hs.1, fun _ => hn, hR⟩
def maS (cL cQ : ClassId) (w : fw_W) (b : Nat) (s : MS) : Prop :=
  w (b + 10) = some (.inr (4, [.ref (b + 11), .ref (b + 42), .int (nI s.1), .int (nI s.2.1), .int (nI s.2.2.1), .int (nI s.2.2.2.1), .ref (b + 67)])) ∧ w (b + 11) = some (.inl (cQ, 10, .inr (.inr (.inr (.inr (fun j => if j < 10 then some (b + 12 + 3 * j) else none)))))) ∧ w (b + 42) = some (.inl (cQ, 8, .inr (.inr (.inr (.inr (fun j => if j < 8 then some (b + 43 + 3 * j) else none)))))) ∧ rgS cL w b s.2.2.2.2 ∧ arS cL w (b + 67)
/-! BigCalculator.Machine. Written by wip/gen/machine1.py. -/
section MA1
variable {l : Launch} {D : va_G} {cI cL cQ : ClassId} {sz tO tB tC : Nat} {sa : Nat → Nat} {w : fw_W}
set_option maxHeartbeats 4000000 in
set_option maxRecDepth 100000 in
theorem c_Ma_perform {b op u lo nx us mo fa : Nat} {R Y : Nat → Int} (h : w (b + 10) = some (.inr (4, [.ref (b + 11), .ref (b + 42), .int (nI (nx)), .int (nI (us)), .int (nI (mo)), .int (nI (fa)), .ref (b + 67)]))) (h1 : w (b + 11) = some (.inl (cQ, 10, .inr (.inr (.inr (.inr (fun j => if j < 10 then some (b + 12 + 3 * j) else none))))))) (h2 : w (b + 42) = some (.inl (cQ, 8, .inr (.inr (.inr (.inr (fun j => if j < 8 then some (b + 43 + 3 * j) else none))))))) (hR : rgS cL w b R) (hY : vrS cL w b Y) (hA : arS cL w (b + 67)) (hR7 : ∀ i, (R i).natAbs < 2 ^ 768) (hop : op < 15) (hop2 : op < 8 ∨ 10 < op) (hlo : lo < 10) (hlk : lo + kOp op ≤ 10) (hu : u < 2 ^ 31) (hu8 : op = 1 → u < 8) : fw_C l yMa_perform (Cond.code yMa_perform cMa_perform 5 (some FieldType.int) :: kWs) ({ frames := 6, cells := 0, slots := 0, locals := 154 } : Room) D kCl (kty cI cL cQ) (kz tO tB tC sa) [.ref (b + 10), .int (nI op), .int (nI u), .int (nI lo)] (sz) w 0 0 (fun v w' => v = some (.int (nI (sOp op u Y (R lo) (R (lo + 1)) (R (lo + 2))).1)) ∧ rgS cL w' b (va_up R lo (sOp op u Y (R lo) (R (lo + 1)) (R (lo + 2))).2) ∧ arS cL w' (b + 67) ∧ ∀ q, q < b + 67 ∨ b + 83 ≤ q → q < b + 12 + 3 * lo ∨ b + 12 + 3 * lo + 3 ≤ q → w' q = w q) := by
  refine fw_ofW (cc := cMa_perform) (maxL := 5) (ret := (some FieldType.int)) (by decide) rfl (Nat.le_of_ble_eq_true rfl) ?_
  intro p e s m args below meth c hx hb hr hts hown hlocks hname hml hK H ls hw hl
  have hW : ∀ w ∈ kWs, w.before args s = true := fun w h => hts w (List.mem_cons_of_mem _ h)
  have hown : s.vm.findClass RMa = some m.cls := hown
  have hl : lv_has ls 5 [(0, .ref (b + 10)), (1, .int (nI op)), (2, .int (nI u)), (3, .int (nI lo))] := hl
  refine lv_aload_n (pc := 0) hx hb dMa_perform_0 rfl (lv_at hl 0 rfl) ?_
  refine fw_get (pc := 1) (ci := 4) (v := .ref (b + 11)) (C := RMa) (T := TMa) (N := 7) hx hb hW in_Ma hown hK.1 hw h rfl 0 (by decide) (hW _ lf_Ma_11) (fun _ h => h) rfl dMa_perform_1 ?_
  refine lv_iload_n (pc := 4) hx hb dMa_perform_4 rfl (lv_at hl 3 rfl) ?_
  refine fw_aaldN (pc := 5) (x := b + 12 + 3 * lo) (C := "BigCalculator$Whole") hx hb hK.1 hw 2 h1 rfl (lo) hlo (by decide) (if_pos hlo) dMa_perform_5 ?_
  refine lv_astore (pc := 6) (lv' := [(4, .ref (b + 12 + 3 * lo)), (0, .ref (b + 10)), (1, .int (nI op)), (2, .int (nI u)), (3, .int (nI lo))]) hx hb dMa_perform_6 hl (by decide) rfl (fun ls hl => ?_)
  refine lv_iload_n (pc := 8) hx hb dMa_perform_8 rfl (lv_at hl 2 rfl) ?_
  rcases (show op = 0 ∨ op = 1 ∨ op = 2 ∨ op = 3 ∨ op = 4 ∨ op = 5 ∨ op = 6 ∨ op = 7 ∨ op = 11 ∨ op = 12 ∨ op = 13 ∨ op = 14 by omega) with rfl | rfl | rfl | rfl | rfl | rfl | rfl | rfl | rfl | rfl | rfl | rfl
  · refine lv_tableIn (pc := 9) (tgt := 84) hx hb dMa_perform_9 (by decide) (by decide) rfl (by decide) ?_
    refine lv_aload (pc := 84) hx hb dMa_perform_84 (lv_at hl 0 rfl) ?_
    refine lv_iload_n (pc := 86) hx hb dMa_perform_86 rfl (lv_at hl 3 rfl) ?_
    refine lv_i2l (pc := 87) (v := lN u) hx hb dMa_perform_87 (nI_l hu) ?_
    obtain ⟨sg1, x1, s1, p1, h1, v1, e1_⟩ := id (hR lo hlo)
    refine fw_cV (pc := 88) (As := [.long (lN u)]) (rest := []) ⟨hx, hb, hml, hown, hW⟩ (c_Wh_becomeLong (y := u) (by omega) h1 v1) (cwV 1 hW (kw_V lm_Ma_66 im_Wh_becomeLong se_Wh_becomeLong ini_Wh cd_Wh_becomeLong) rfl rfl rfl (by decide +kernel) ⟨Nat.le_of_ble_eq_true rfl, Nat.le_of_ble_eq_true rfl⟩) hK hw h1 rfl rfl hl.1 rfl (Nat.le_of_ble_eq_true rfl) dMa_perform_88 ⟨Nat.le_of_ble_eq_true rfl, Nat.le_of_ble_eq_true rfl⟩ (fun v w1 H locs hq hw => ?_)
    obtain ⟨rfl, hc9, hv9, fr9⟩ := hq
    refine W.eq (g2 := F0 m 91 ls []) rfl ?_
    refine lv_iconst (pc := 91) (v := (nI 0)) hx hb dMa_perform_91 (by decide) ?_
    have e9 : lsg u = 0 ∧ lmg u = u := ⟨if_pos (by omega), if_pos (by omega)⟩
    rw [e9.1] at hc9
    rw [e9.2] at hv9
    exact fw_iret (pc := 92) hx hb hr hlocks hw dMa_perform_92 ⟨rfl, rgS.up hR hlo ⟨0, u, by decide, fun h7 => absurd h7 (by decide), hc9, hv9, rfl⟩ (fun q h7 h8 => fr9 q (by omega)), (hA.kept (fun q h7 h8 => fr9 q (by omega))), (fun q h7 h8 => fr9 q (by omega))⟩
  · refine lv_tableIn (pc := 9) (tgt := 93) hx hb dMa_perform_9 (by decide) (by decide) rfl (by decide) ?_
    refine lv_aload (pc := 93) hx hb dMa_perform_93 (lv_at hl 0 rfl) ?_
    refine lv_aload_n (pc := 95) hx hb dMa_perform_95 rfl (lv_at hl 1 rfl) ?_
    refine fw_get (pc := 96) (ci := 4) (v := .ref (b + 42)) (C := RMa) (T := TMa) (N := 7) hx hb hW in_Ma hown hK.1 hw h rfl 1 (by decide) (hW _ lf_Ma_18) (fun _ h => h) rfl dMa_perform_96 ?_
    refine lv_iload_n (pc := 99) hx hb dMa_perform_99 rfl (lv_at hl 3 rfl) ?_
    have hu9 := hu8 rfl
    refine fw_aaldN (pc := 100) (x := b + 43 + 3 * u) (C := "BigCalculator$Whole") hx hb hK.1 hw 2 h2 rfl (u) hu9 (by decide) (if_pos hu9) dMa_perform_100 ?_
    obtain ⟨sg2, x2, s2, p2, h2, v2, e2_⟩ := id (hR lo hlo)
    obtain ⟨sg3, x3, s3, p3, h3, v3, e3_⟩ := id (hY u hu9)
    refine fw_cV (pc := 101) (As := [.ref (b + 43 + 3 * u)]) (rest := []) ⟨hx, hb, hml, hown, hW⟩ (c_Wh_become s3 (by omega) h2 v2 h3 v3) (cwV 1 hW (kw_V lm_Ma_70 im_Wh_become se_Wh_become ini_Wh cd_Wh_become) rfl rfl rfl (by decide +kernel) ⟨Nat.le_of_ble_eq_true rfl, Nat.le_of_ble_eq_true rfl⟩) hK hw h2 rfl rfl hl.1 rfl (Nat.le_of_ble_eq_true rfl) dMa_perform_101 ⟨Nat.le_of_ble_eq_true rfl, Nat.le_of_ble_eq_true rfl⟩ (fun v w2 H locs hq hw => ?_)
    obtain ⟨rfl, hc9, hv9, fr9⟩ := hq
    refine W.eq (g2 := F0 m 104 ls []) rfl ?_
    refine lv_iconst (pc := 104) (v := (nI 0)) hx hb dMa_perform_104 (by decide) ?_
    exact fw_iret (pc := 105) hx hb hr hlocks hw dMa_perform_105 ⟨rfl, rgS.up hR hlo ⟨sg3, x3, s3, p3, hc9, hv9, e3_⟩ (fun q h7 h8 => fr9 q (by omega)), (hA.kept (fun q h7 h8 => fr9 q (by omega))), (fun q h7 h8 => fr9 q (by omega))⟩
  · refine lv_tableIn (pc := 9) (tgt := 113) hx hb dMa_perform_9 (by decide) (by decide) rfl (by decide) ?_
    have hk9 : lo + 2 ≤ 10 := hlk
    have A0 := hA.1
    refine lv_aload_n (pc := 113) hx hb dMa_perform_113 rfl (lv_at hl 1 rfl) ?_
    refine fw_get (pc := 114) (ci := 4) (v := .ref (b + 67)) (C := RMa) (T := TMa) (N := 7) hx hb hW in_Ma hown hK.1 hw h rfl 6 (by decide) (hW _ lf_Ma_37) (fun _ h => h) rfl dMa_perform_114 ?_
    refine lv_aload (pc := 117) hx hb dMa_perform_117 (lv_at hl 0 rfl) ?_
    refine lv_aload_n (pc := 119) hx hb dMa_perform_119 rfl (lv_at hl 1 rfl) ?_
    refine fw_get (pc := 120) (ci := 4) (v := .ref (b + 11)) (C := RMa) (T := TMa) (N := 7) hx hb hW in_Ma hown hK.1 hw h rfl 0 (by decide) (hW _ lf_Ma_11) (fun _ h => h) rfl dMa_perform_120 ?_
    refine lv_iload_n (pc := 123) hx hb dMa_perform_123 rfl (lv_at hl 4 rfl) ?_
    refine lv_iconst (pc := 124) (v := (nI 1)) hx hb dMa_perform_124 (by decide) ?_
    refine lv_iadd (pc := 125) hx hb dMa_perform_125 ?_
    rw [show ((nI lo + (nI 1)) : Int32) = nI (lo + 1) from (nI_add lo 1)]
    refine fw_aaldN (pc := 126) (x := b + 12 + 3 * (lo + 1)) (C := "BigCalculator$Whole") hx hb hK.1 hw 2 h1 rfl (lo + 1) (show lo + 1 < 10 by omega) (by decide) (if_pos (by omega)) dMa_perform_126 ?_
    refine fw_cV (pc := 127) (As := [.ref (b + 12 + 3 * lo), .ref (b + 12 + 3 * (lo + 1))]) (rest := []) ⟨hx, hb, hml, hown, hW⟩ (c_Ar_add hA (hR lo hlo) (hR (lo + 1) (by omega)) (by omega) (by omega) (by omega) (hR7 lo) (hR7 (lo + 1))) (cwV 2 hW (kw_V lm_Ma_77 im_Ar_add se_Ar_add ini_Ar cd_Ar_add) rfl rfl rfl (by decide +kernel) ⟨Nat.le_of_ble_eq_true rfl, Nat.le_of_ble_eq_true rfl⟩) hK hw A0 rfl rfl hl.1 rfl (Nat.le_of_ble_eq_true rfl) dMa_perform_127 ⟨Nat.le_of_ble_eq_true rfl, Nat.le_of_ble_eq_true rfl⟩ (fun v w3 H locs hq hw => ?_)
    obtain ⟨rfl, hi9, hA9, fr9⟩ := hq
    refine W.eq (g2 := F0 m 130 ls [.int (nI (sOp 2 u Y (R lo) (R (lo + 1)) (R (lo + 2))).1)]) rfl ?_
    exact fw_iret (pc := 130) hx hb hr hlocks hw dMa_perform_130 ⟨rfl, rgS.up hR hlo hi9 fr9, hA9, fr9⟩
  · refine lv_tableIn (pc := 9) (tgt := 131) hx hb dMa_perform_9 (by decide) (by decide) rfl (by decide) ?_
    have hk9 : lo + 2 ≤ 10 := hlk
    have A0 := hA.1
    refine lv_aload_n (pc := 131) hx hb dMa_perform_131 rfl (lv_at hl 1 rfl) ?_
    refine fw_get (pc := 132) (ci := 4) (v := .ref (b + 67)) (C := RMa) (T := TMa) (N := 7) hx hb hW in_Ma hown hK.1 hw h rfl 6 (by decide) (hW _ lf_Ma_37) (fun _ h => h) rfl dMa_perform_132 ?_
    refine lv_aload (pc := 135) hx hb dMa_perform_135 (lv_at hl 0 rfl) ?_
    refine lv_aload_n (pc := 137) hx hb dMa_perform_137 rfl (lv_at hl 1 rfl) ?_
    refine fw_get (pc := 138) (ci := 4) (v := .ref (b + 11)) (C := RMa) (T := TMa) (N := 7) hx hb hW in_Ma hown hK.1 hw h rfl 0 (by decide) (hW _ lf_Ma_11) (fun _ h => h) rfl dMa_perform_138 ?_
    refine lv_iload_n (pc := 141) hx hb dMa_perform_141 rfl (lv_at hl 4 rfl) ?_
    refine lv_iconst (pc := 142) (v := (nI 1)) hx hb dMa_perform_142 (by decide) ?_
    refine lv_iadd (pc := 143) hx hb dMa_perform_143 ?_
    rw [show ((nI lo + (nI 1)) : Int32) = nI (lo + 1) from (nI_add lo 1)]
    refine fw_aaldN (pc := 144) (x := b + 12 + 3 * (lo + 1)) (C := "BigCalculator$Whole") hx hb hK.1 hw 2 h1 rfl (lo + 1) (show lo + 1 < 10 by omega) (by decide) (if_pos (by omega)) dMa_perform_144 ?_
    refine fw_cV (pc := 145) (As := [.ref (b + 12 + 3 * lo), .ref (b + 12 + 3 * (lo + 1))]) (rest := []) ⟨hx, hb, hml, hown, hW⟩ (c_Ar_subtract hA (hR lo hlo) (hR (lo + 1) (by omega)) (by omega) (by omega) (by omega) (hR7 lo) (hR7 (lo + 1))) (cwV 2 hW (kw_V lm_Ma_81 im_Ar_subtract se_Ar_subtract ini_Ar cd_Ar_subtract) rfl rfl rfl (by decide +kernel) ⟨Nat.le_of_ble_eq_true rfl, Nat.le_of_ble_eq_true rfl⟩) hK hw A0 rfl rfl hl.1 rfl (Nat.le_of_ble_eq_true rfl) dMa_perform_145 ⟨Nat.le_of_ble_eq_true rfl, Nat.le_of_ble_eq_true rfl⟩ (fun v w4 H locs hq hw => ?_)
    obtain ⟨rfl, hi9, hA9, fr9⟩ := hq
    refine W.eq (g2 := F0 m 148 ls [.int (nI (sOp 3 u Y (R lo) (R (lo + 1)) (R (lo + 2))).1)]) rfl ?_
    exact fw_iret (pc := 148) hx hb hr hlocks hw dMa_perform_148 ⟨rfl, rgS.up hR hlo hi9 fr9, hA9, fr9⟩
  · refine lv_tableIn (pc := 9) (tgt := 149) hx hb dMa_perform_9 (by decide) (by decide) rfl (by decide) ?_
    have hk9 : lo + 2 ≤ 10 := hlk
    have A0 := hA.1
    refine lv_aload_n (pc := 149) hx hb dMa_perform_149 rfl (lv_at hl 1 rfl) ?_
    refine fw_get (pc := 150) (ci := 4) (v := .ref (b + 67)) (C := RMa) (T := TMa) (N := 7) hx hb hW in_Ma hown hK.1 hw h rfl 6 (by decide) (hW _ lf_Ma_37) (fun _ h => h) rfl dMa_perform_150 ?_
    refine lv_aload (pc := 153) hx hb dMa_perform_153 (lv_at hl 0 rfl) ?_
    refine lv_aload_n (pc := 155) hx hb dMa_perform_155 rfl (lv_at hl 1 rfl) ?_
    refine fw_get (pc := 156) (ci := 4) (v := .ref (b + 11)) (C := RMa) (T := TMa) (N := 7) hx hb hW in_Ma hown hK.1 hw h rfl 0 (by decide) (hW _ lf_Ma_11) (fun _ h => h) rfl dMa_perform_156 ?_
    refine lv_iload_n (pc := 159) hx hb dMa_perform_159 rfl (lv_at hl 4 rfl) ?_
    refine lv_iconst (pc := 160) (v := (nI 1)) hx hb dMa_perform_160 (by decide) ?_
    refine lv_iadd (pc := 161) hx hb dMa_perform_161 ?_
    rw [show ((nI lo + (nI 1)) : Int32) = nI (lo + 1) from (nI_add lo 1)]
    refine fw_aaldN (pc := 162) (x := b + 12 + 3 * (lo + 1)) (C := "BigCalculator$Whole") hx hb hK.1 hw 2 h1 rfl (lo + 1) (show lo + 1 < 10 by omega) (by decide) (if_pos (by omega)) dMa_perform_162 ?_
    refine fw_cV (pc := 163) (As := [.ref (b + 12 + 3 * lo), .ref (b + 12 + 3 * (lo + 1))]) (rest := []) ⟨hx, hb, hml, hown, hW⟩ (c_Ar_multiply hA (hR lo hlo) (hR (lo + 1) (by omega)) (by omega) (by omega) (by omega) (hR7 lo) (hR7 (lo + 1))) (cwV 2 hW (kw_V lm_Ma_84 im_Ar_multiply se_Ar_multiply ini_Ar cd_Ar_multiply) rfl rfl rfl (by decide +kernel) ⟨Nat.le_of_ble_eq_true rfl, Nat.le_of_ble_eq_true rfl⟩) hK hw A0 rfl rfl hl.1 rfl (Nat.le_of_ble_eq_true rfl) dMa_perform_163 ⟨Nat.le_of_ble_eq_true rfl, Nat.le_of_ble_eq_true rfl⟩ (fun v w5 H locs hq hw => ?_)
    obtain ⟨rfl, hi9, hA9, fr9⟩ := hq
    refine W.eq (g2 := F0 m 166 ls [.int (nI (sOp 4 u Y (R lo) (R (lo + 1)) (R (lo + 2))).1)]) rfl ?_
    exact fw_iret (pc := 166) hx hb hr hlocks hw dMa_perform_166 ⟨rfl, rgS.up hR hlo hi9 fr9, hA9, fr9⟩
  · refine lv_tableIn (pc := 9) (tgt := 167) hx hb dMa_perform_9 (by decide) (by decide) rfl (by decide) ?_
    have hk9 : lo + 2 ≤ 10 := hlk
    have A0 := hA.1
    refine lv_aload_n (pc := 167) hx hb dMa_perform_167 rfl (lv_at hl 1 rfl) ?_
    refine fw_get (pc := 168) (ci := 4) (v := .ref (b + 67)) (C := RMa) (T := TMa) (N := 7) hx hb hW in_Ma hown hK.1 hw h rfl 6 (by decide) (hW _ lf_Ma_37) (fun _ h => h) rfl dMa_perform_168 ?_
    refine lv_aload (pc := 171) hx hb dMa_perform_171 (lv_at hl 0 rfl) ?_
    refine lv_aload_n (pc := 173) hx hb dMa_perform_173 rfl (lv_at hl 1 rfl) ?_
    refine fw_get (pc := 174) (ci := 4) (v := .ref (b + 11)) (C := RMa) (T := TMa) (N := 7) hx hb hW in_Ma hown hK.1 hw h rfl 0 (by decide) (hW _ lf_Ma_11) (fun _ h => h) rfl dMa_perform_174 ?_
    refine lv_iload_n (pc := 177) hx hb dMa_perform_177 rfl (lv_at hl 4 rfl) ?_
    refine lv_iconst (pc := 178) (v := (nI 1)) hx hb dMa_perform_178 (by decide) ?_
    refine lv_iadd (pc := 179) hx hb dMa_perform_179 ?_
    rw [show ((nI lo + (nI 1)) : Int32) = nI (lo + 1) from (nI_add lo 1)]
    refine fw_aaldN (pc := 180) (x := b + 12 + 3 * (lo + 1)) (C := "BigCalculator$Whole") hx hb hK.1 hw 2 h1 rfl (lo + 1) (show lo + 1 < 10 by omega) (by decide) (if_pos (by omega)) dMa_perform_180 ?_
    refine fw_cV (pc := 181) (As := [.ref (b + 12 + 3 * lo), .ref (b + 12 + 3 * (lo + 1))]) (rest := []) ⟨hx, hb, hml, hown, hW⟩ (c_Ar_divideForQuotient hA (hR lo hlo) (hR (lo + 1) (by omega)) (by omega) (by omega) (by omega) (hR7 lo) (hR7 (lo + 1))) (cwV 2 hW (kw_V lm_Ma_87 im_Ar_divideForQuotient se_Ar_divideForQuotient ini_Ar cd_Ar_divideForQuotient) rfl rfl rfl (by decide +kernel) ⟨Nat.le_of_ble_eq_true rfl, Nat.le_of_ble_eq_true rfl⟩) hK hw A0 rfl rfl hl.1 rfl (Nat.le_of_ble_eq_true rfl) dMa_perform_181 ⟨Nat.le_of_ble_eq_true rfl, Nat.le_of_ble_eq_true rfl⟩ (fun v w6 H locs hq hw => ?_)
    obtain ⟨rfl, hi9, hA9, fr9⟩ := hq
    refine W.eq (g2 := F0 m 184 ls [.int (nI (sOp 5 u Y (R lo) (R (lo + 1)) (R (lo + 2))).1)]) rfl ?_
    exact fw_iret (pc := 184) hx hb hr hlocks hw dMa_perform_184 ⟨rfl, rgS.up hR hlo hi9 fr9, hA9, fr9⟩
  · refine lv_tableIn (pc := 9) (tgt := 185) hx hb dMa_perform_9 (by decide) (by decide) rfl (by decide) ?_
    have hk9 : lo + 2 ≤ 10 := hlk
    have A0 := hA.1
    refine lv_aload_n (pc := 185) hx hb dMa_perform_185 rfl (lv_at hl 1 rfl) ?_
    refine fw_get (pc := 186) (ci := 4) (v := .ref (b + 67)) (C := RMa) (T := TMa) (N := 7) hx hb hW in_Ma hown hK.1 hw h rfl 6 (by decide) (hW _ lf_Ma_37) (fun _ h => h) rfl dMa_perform_186 ?_
    refine lv_aload (pc := 189) hx hb dMa_perform_189 (lv_at hl 0 rfl) ?_
    refine lv_aload_n (pc := 191) hx hb dMa_perform_191 rfl (lv_at hl 1 rfl) ?_
    refine fw_get (pc := 192) (ci := 4) (v := .ref (b + 11)) (C := RMa) (T := TMa) (N := 7) hx hb hW in_Ma hown hK.1 hw h rfl 0 (by decide) (hW _ lf_Ma_11) (fun _ h => h) rfl dMa_perform_192 ?_
    refine lv_iload_n (pc := 195) hx hb dMa_perform_195 rfl (lv_at hl 4 rfl) ?_
    refine lv_iconst (pc := 196) (v := (nI 1)) hx hb dMa_perform_196 (by decide) ?_
    refine lv_iadd (pc := 197) hx hb dMa_perform_197 ?_
    rw [show ((nI lo + (nI 1)) : Int32) = nI (lo + 1) from (nI_add lo 1)]
    refine fw_aaldN (pc := 198) (x := b + 12 + 3 * (lo + 1)) (C := "BigCalculator$Whole") hx hb hK.1 hw 2 h1 rfl (lo + 1) (show lo + 1 < 10 by omega) (by decide) (if_pos (by omega)) dMa_perform_198 ?_
    refine fw_cV (pc := 199) (As := [.ref (b + 12 + 3 * lo), .ref (b + 12 + 3 * (lo + 1))]) (rest := []) ⟨hx, hb, hml, hown, hW⟩ (c_Ar_divideForRest hA (hR lo hlo) (hR (lo + 1) (by omega)) (by omega) (by omega) (by omega) (hR7 lo) (hR7 (lo + 1))) (cwV 2 hW (kw_V lm_Ma_90 im_Ar_divideForRest se_Ar_divideForRest ini_Ar cd_Ar_divideForRest) rfl rfl rfl (by decide +kernel) ⟨Nat.le_of_ble_eq_true rfl, Nat.le_of_ble_eq_true rfl⟩) hK hw A0 rfl rfl hl.1 rfl (Nat.le_of_ble_eq_true rfl) dMa_perform_199 ⟨Nat.le_of_ble_eq_true rfl, Nat.le_of_ble_eq_true rfl⟩ (fun v w7 H locs hq hw => ?_)
    obtain ⟨rfl, hi9, hA9, fr9⟩ := hq
    refine W.eq (g2 := F0 m 202 ls [.int (nI (sOp 6 u Y (R lo) (R (lo + 1)) (R (lo + 2))).1)]) rfl ?_
    exact fw_iret (pc := 202) hx hb hr hlocks hw dMa_perform_202 ⟨rfl, rgS.up hR hlo hi9 fr9, hA9, fr9⟩
  · refine lv_tableIn (pc := 9) (tgt := 203) hx hb dMa_perform_9 (by decide) (by decide) rfl (by decide) ?_
    have hk9 : lo + 2 ≤ 10 := hlk
    have A0 := hA.1
    refine lv_aload_n (pc := 203) hx hb dMa_perform_203 rfl (lv_at hl 1 rfl) ?_
    refine fw_get (pc := 204) (ci := 4) (v := .ref (b + 67)) (C := RMa) (T := TMa) (N := 7) hx hb hW in_Ma hown hK.1 hw h rfl 6 (by decide) (hW _ lf_Ma_37) (fun _ h => h) rfl dMa_perform_204 ?_
    refine lv_aload (pc := 207) hx hb dMa_perform_207 (lv_at hl 0 rfl) ?_
    refine lv_aload_n (pc := 209) hx hb dMa_perform_209 rfl (lv_at hl 1 rfl) ?_
    refine fw_get (pc := 210) (ci := 4) (v := .ref (b + 11)) (C := RMa) (T := TMa) (N := 7) hx hb hW in_Ma hown hK.1 hw h rfl 0 (by decide) (hW _ lf_Ma_11) (fun _ h => h) rfl dMa_perform_210 ?_
    refine lv_iload_n (pc := 213) hx hb dMa_perform_213 rfl (lv_at hl 4 rfl) ?_
    refine lv_iconst (pc := 214) (v := (nI 1)) hx hb dMa_perform_214 (by decide) ?_
    refine lv_iadd (pc := 215) hx hb dMa_perform_215 ?_
    rw [show ((nI lo + (nI 1)) : Int32) = nI (lo + 1) from (nI_add lo 1)]
    refine fw_aaldN (pc := 216) (x := b + 12 + 3 * (lo + 1)) (C := "BigCalculator$Whole") hx hb hK.1 hw 2 h1 rfl (lo + 1) (show lo + 1 < 10 by omega) (by decide) (if_pos (by omega)) dMa_perform_216 ?_
    refine fw_cV (pc := 217) (As := [.ref (b + 12 + 3 * lo), .ref (b + 12 + 3 * (lo + 1))]) (rest := []) ⟨hx, hb, hml, hown, hW⟩ (c_Ar_raise hA (hR lo hlo) (hR (lo + 1) (by omega)) (by omega) (by omega) (by omega) (hR7 lo) (hR7 (lo + 1))) (cwV 2 hW (kw_V lm_Ma_93 im_Ar_raise se_Ar_raise ini_Ar cd_Ar_raise) rfl rfl rfl (by decide +kernel) ⟨Nat.le_of_ble_eq_true rfl, Nat.le_of_ble_eq_true rfl⟩) hK hw A0 rfl rfl hl.1 rfl (Nat.le_of_ble_eq_true rfl) dMa_perform_217 ⟨Nat.le_of_ble_eq_true rfl, Nat.le_of_ble_eq_true rfl⟩ (fun v w8 H locs hq hw => ?_)
    obtain ⟨rfl, hi9, hA9, fr9⟩ := hq
    refine W.eq (g2 := F0 m 220 ls [.int (nI (sOp 7 u Y (R lo) (R (lo + 1)) (R (lo + 2))).1)]) rfl ?_
    exact fw_iret (pc := 220) hx hb hr hlocks hw dMa_perform_220 ⟨rfl, rgS.up hR hlo hi9 fr9, hA9, fr9⟩
  · refine lv_tableIn (pc := 9) (tgt := 221) hx hb dMa_perform_9 (by decide) (by decide) rfl (by decide) ?_
    have hk9 : lo + 2 ≤ 10 := hlk
    have A0 := hA.1
    refine lv_aload_n (pc := 221) hx hb dMa_perform_221 rfl (lv_at hl 1 rfl) ?_
    refine fw_get (pc := 222) (ci := 4) (v := .ref (b + 67)) (C := RMa) (T := TMa) (N := 7) hx hb hW in_Ma hown hK.1 hw h rfl 6 (by decide) (hW _ lf_Ma_37) (fun _ h => h) rfl dMa_perform_222 ?_
    refine lv_aload (pc := 225) hx hb dMa_perform_225 (lv_at hl 0 rfl) ?_
    refine lv_aload_n (pc := 227) hx hb dMa_perform_227 rfl (lv_at hl 1 rfl) ?_
    refine fw_get (pc := 228) (ci := 4) (v := .ref (b + 11)) (C := RMa) (T := TMa) (N := 7) hx hb hW in_Ma hown hK.1 hw h rfl 0 (by decide) (hW _ lf_Ma_11) (fun _ h => h) rfl dMa_perform_228 ?_
    refine lv_iload_n (pc := 231) hx hb dMa_perform_231 rfl (lv_at hl 4 rfl) ?_
    refine lv_iconst (pc := 232) (v := (nI 1)) hx hb dMa_perform_232 (by decide) ?_
    refine lv_iadd (pc := 233) hx hb dMa_perform_233 ?_
    rw [show ((nI lo + (nI 1)) : Int32) = nI (lo + 1) from (nI_add lo 1)]
    refine fw_aaldN (pc := 234) (x := b + 12 + 3 * (lo + 1)) (C := "BigCalculator$Whole") hx hb hK.1 hw 2 h1 rfl (lo + 1) (show lo + 1 < 10 by omega) (by decide) (if_pos (by omega)) dMa_perform_234 ?_
    refine fw_cV (pc := 235) (As := [.ref (b + 12 + 3 * lo), .ref (b + 12 + 3 * (lo + 1))]) (rest := []) ⟨hx, hb, hml, hown, hW⟩ (c_Ar_gcd hA (hR lo hlo) (hR (lo + 1) (by omega)) (by omega) (by omega) (by omega) (hR7 lo) (hR7 (lo + 1))) (cwV 2 hW (kw_V lm_Ma_96 im_Ar_gcd se_Ar_gcd ini_Ar cd_Ar_gcd) rfl rfl rfl (by decide +kernel) ⟨Nat.le_of_ble_eq_true rfl, Nat.le_of_ble_eq_true rfl⟩) hK hw A0 rfl rfl hl.1 rfl (Nat.le_of_ble_eq_true rfl) dMa_perform_235 ⟨Nat.le_of_ble_eq_true rfl, Nat.le_of_ble_eq_true rfl⟩ (fun v w9 H locs hq hw => ?_)
    obtain ⟨rfl, hi9, hA9, fr9⟩ := hq
    refine W.eq (g2 := F0 m 238 ls [.int (nI (sOp 11 u Y (R lo) (R (lo + 1)) (R (lo + 2))).1)]) rfl ?_
    exact fw_iret (pc := 238) hx hb hr hlocks hw dMa_perform_238 ⟨rfl, rgS.up hR hlo hi9 fr9, hA9, fr9⟩
  · refine lv_tableIn (pc := 9) (tgt := 239) hx hb dMa_perform_9 (by decide) (by decide) rfl (by decide) ?_
    have hk9 : lo + 1 ≤ 10 := hlk
    have A0 := hA.1
    refine lv_aload_n (pc := 239) hx hb dMa_perform_239 rfl (lv_at hl 1 rfl) ?_
    refine fw_get (pc := 240) (ci := 4) (v := .ref (b + 67)) (C := RMa) (T := TMa) (N := 7) hx hb hW in_Ma hown hK.1 hw h rfl 6 (by decide) (hW _ lf_Ma_37) (fun _ h => h) rfl dMa_perform_240 ?_
    refine lv_aload (pc := 243) hx hb dMa_perform_243 (lv_at hl 0 rfl) ?_
    refine fw_cV (pc := 245) (As := [.ref (b + 12 + 3 * lo)]) (rest := []) ⟨hx, hb, hml, hown, hW⟩ (c_Ar_root hA (hR lo hlo) (by omega) (hR7 lo)) (cwV 1 hW (kw_V lm_Ma_99 im_Ar_root se_Ar_root ini_Ar cd_Ar_root) rfl rfl rfl (by decide +kernel) ⟨Nat.le_of_ble_eq_true rfl, Nat.le_of_ble_eq_true rfl⟩) hK hw A0 rfl rfl hl.1 rfl (Nat.le_of_ble_eq_true rfl) dMa_perform_245 ⟨Nat.le_of_ble_eq_true rfl, Nat.le_of_ble_eq_true rfl⟩ (fun v w10 H locs hq hw => ?_)
    obtain ⟨rfl, hi9, hA9, fr9⟩ := hq
    refine W.eq (g2 := F0 m 248 ls [.int (nI (sOp 12 u Y (R lo) (R (lo + 1)) (R (lo + 2))).1)]) rfl ?_
    exact fw_iret (pc := 248) hx hb hr hlocks hw dMa_perform_248 ⟨rfl, rgS.up hR hlo hi9 fr9, hA9, fr9⟩
  · refine lv_tableIn (pc := 9) (tgt := 249) hx hb dMa_perform_9 (by decide) (by decide) rfl (by decide) ?_
    have hk9 : lo + 3 ≤ 10 := hlk
    have A0 := hA.1
    refine lv_aload_n (pc := 249) hx hb dMa_perform_249 rfl (lv_at hl 1 rfl) ?_
    refine fw_get (pc := 250) (ci := 4) (v := .ref (b + 67)) (C := RMa) (T := TMa) (N := 7) hx hb hW in_Ma hown hK.1 hw h rfl 6 (by decide) (hW _ lf_Ma_37) (fun _ h => h) rfl dMa_perform_250 ?_
    refine lv_aload (pc := 253) hx hb dMa_perform_253 (lv_at hl 0 rfl) ?_
    refine lv_aload_n (pc := 255) hx hb dMa_perform_255 rfl (lv_at hl 1 rfl) ?_
    refine fw_get (pc := 256) (ci := 4) (v := .ref (b + 11)) (C := RMa) (T := TMa) (N := 7) hx hb hW in_Ma hown hK.1 hw h rfl 0 (by decide) (hW _ lf_Ma_11) (fun _ h => h) rfl dMa_perform_256 ?_
    refine lv_iload_n (pc := 259) hx hb dMa_perform_259 rfl (lv_at hl 4 rfl) ?_
    refine lv_iconst (pc := 260) (v := (nI 1)) hx hb dMa_perform_260 (by decide) ?_
    refine lv_iadd (pc := 261) hx hb dMa_perform_261 ?_
    rw [show ((nI lo + (nI 1)) : Int32) = nI (lo + 1) from (nI_add lo 1)]
    refine fw_aaldN (pc := 262) (x := b + 12 + 3 * (lo + 1)) (C := "BigCalculator$Whole") hx hb hK.1 hw 2 h1 rfl (lo + 1) (show lo + 1 < 10 by omega) (by decide) (if_pos (by omega)) dMa_perform_262 ?_
    refine lv_aload_n (pc := 263) hx hb dMa_perform_263 rfl (lv_at hl 1 rfl) ?_
    refine fw_get (pc := 264) (ci := 4) (v := .ref (b + 11)) (C := RMa) (T := TMa) (N := 7) hx hb hW in_Ma hown hK.1 hw h rfl 0 (by decide) (hW _ lf_Ma_11) (fun _ h => h) rfl dMa_perform_264 ?_
    refine lv_iload_n (pc := 267) hx hb dMa_perform_267 rfl (lv_at hl 4 rfl) ?_
    refine lv_iconst (pc := 268) (v := (nI 2)) hx hb dMa_perform_268 (by decide) ?_
    refine lv_iadd (pc := 269) hx hb dMa_perform_269 ?_
    rw [show ((nI lo + (nI 2)) : Int32) = nI (lo + 2) from (nI_add lo 2)]
    refine fw_aaldN (pc := 270) (x := b + 12 + 3 * (lo + 2)) (C := "BigCalculator$Whole") hx hb hK.1 hw 2 h1 rfl (lo + 2) (show lo + 2 < 10 by omega) (by decide) (if_pos (by omega)) dMa_perform_270 ?_
    refine fw_cV (pc := 271) (As := [.ref (b + 12 + 3 * lo), .ref (b + 12 + 3 * (lo + 1)), .ref (b + 12 + 3 * (lo + 2))]) (rest := []) ⟨hx, hb, hml, hown, hW⟩ (c_Ar_modular hA (hR lo hlo) (hR (lo + 1) (by omega)) (hR (lo + 2) (by omega)) (by omega) (by omega) (by omega) (hR7 lo) (hR7 (lo + 1)) (by omega) (by omega) (by omega) (hR7 (lo + 2))) (cwV 3 hW (kw_V lm_Ma_103 im_Ar_modular se_Ar_modular ini_Ar cd_Ar_modular) rfl rfl rfl (by decide +kernel) ⟨Nat.le_of_ble_eq_true rfl, Nat.le_of_ble_eq_true rfl⟩) hK hw A0 rfl rfl hl.1 rfl (Nat.le_of_ble_eq_true rfl) dMa_perform_271 ⟨Nat.le_of_ble_eq_true rfl, Nat.le_of_ble_eq_true rfl⟩ (fun v w11 H locs hq hw => ?_)
    obtain ⟨rfl, hi9, hA9, fr9⟩ := hq
    refine W.eq (g2 := F0 m 274 ls [.int (nI (sOp 13 u Y (R lo) (R (lo + 1)) (R (lo + 2))).1)]) rfl ?_
    exact fw_iret (pc := 274) hx hb hr hlocks hw dMa_perform_274 ⟨rfl, rgS.up hR hlo hi9 fr9, hA9, fr9⟩
  · refine lv_tableIn (pc := 9) (tgt := 106) hx hb dMa_perform_9 (by decide) (by decide) rfl (by decide) ?_
    refine lv_aload (pc := 106) hx hb dMa_perform_106 (lv_at hl 0 rfl) ?_
    obtain ⟨sg4, x4, s4, p4, h4, v4, e4_⟩ := id (hR lo hlo)
    refine fw_cV (pc := 108) (As := []) (rest := []) ⟨hx, hb, hml, hown, hW⟩ (c_Wh_negate (hR lo hlo)) (cwV 0 hW (kw_V lm_Ma_74 im_Wh_negate se_Wh_negate ini_Wh cd_Wh_negate) rfl rfl rfl (by decide +kernel) ⟨Nat.le_of_ble_eq_true rfl, Nat.le_of_ble_eq_true rfl⟩) hK hw h4 rfl rfl hl.1 rfl (Nat.le_of_ble_eq_true rfl) dMa_perform_108 ⟨Nat.le_of_ble_eq_true rfl, Nat.le_of_ble_eq_true rfl⟩ (fun v w12 H locs hq hw => ?_)
    obtain ⟨rfl, hi9, fr9⟩ := hq
    refine W.eq (g2 := F0 m 111 ls []) rfl ?_
    refine lv_iconst (pc := 111) (v := (nI 0)) hx hb dMa_perform_111 (by decide) ?_
    exact fw_iret (pc := 112) hx hb hr hlocks hw dMa_perform_112 ⟨rfl, rgS.up hR hlo hi9 (fun q h7 h8 => fr9 q (by omega)), (hA.kept (fun q h7 h8 => fr9 q (by omega))), (fun q h7 h8 => fr9 q (by omega))⟩

set_option maxHeartbeats 4000000 in
set_option maxRecDepth 100000 in
theorem c_Ma_advance {b N sz9 nx us mo fa : Nat} {R Y : Nat → Int} {oo vv : Nat → Nat} (hN : N < 2 ^ 31) (hM : maS cL cQ w b (nx, us, mo, fa, R)) (hY : vrS cL w b Y) (hY7 : ∀ i, (Y i).natAbs < 2 ^ 768) (hC : cOk oo vv sz9) (hO : mOk oo sz9 (nx, us, mo, fa, R)) (hc5 : w (b + 5) = some (.inr (1, [.ref (b + 6), .ref (b + 7), .int (nI sz9)]))) (hc6 : w (b + 6) = some (.inl (cI, 120, .inl (fun i => nI (oo i))))) (hc7 : w (b + 7) = some (.inl (cI, 120, .inl (fun i => nI (vv i))))) : fw_C l yMa_advance (Cond.code yMa_advance cMa_advance 6 (some FieldType.int) :: kWs) ({ frames := 7, cells := 0, slots := 0, locals := 178 } : Room) D kCl (kty cI cL cQ) (kz tO tB tC sa) [.ref (b + 10), .ref (b + 5), .int (nI N)] (sz) w 0 0 (fun v w' => v = some (.int (nI (mAns sz9 (mRun oo vv Y sz9 N (nx, us, mo, fa, R))))) ∧ maS cL cQ w' b (mRun oo vv Y sz9 N (nx, us, mo, fa, R)) ∧ ∀ q, q < b + 10 ∨ q = b + 11 ∨ (b + 42 ≤ q ∧ q < b + 67) ∨ b + 83 ≤ q → w' q = w q) := by
  refine fw_ofW (cc := cMa_advance) (maxL := 6) (ret := (some FieldType.int)) (by decide) rfl (Nat.le_of_ble_eq_true rfl) ?_
  intro p e s m args below meth c hx hb hr hts hown hlocks hname hml hK H ls hw hl
  have hW : ∀ w ∈ kWs, w.before args s = true := fun w h => hts w (List.mem_cons_of_mem _ h)
  have hown : s.vm.findClass RMa = some m.cls := hown
  have hl : lv_has ls 6 [(0, .ref (b + 10)), (1, .ref (b + 5)), (2, .int (nI N))] := hl
  have hY9 := hY
  have hc59 := hc5
  have hc69 := hc6
  have hc79 := hc7
  have loop : ∀ (r9 i : Nat), i + r9 = N → ∀ (ms : MS), mOk oo sz9 ms → ∀ (w1 : fw_W) (H : Heap) (locs : List Loc) (ls : Array Slot), fw_H D kCl (fw_A w (sz)) s.heap w1 (sz) H locs → lv_has ls 6 [(3, .int (nI i)), (0, .ref (b + 10)), (1, .ref (b + 5)), (2, .int (nI N))] → maS cL cQ w1 b ms → (∀ q, q < b + 10 ∨ q = b + 11 ∨ (b + 42 ≤ q ∧ q < b + 67) ∨ b + 83 ≤ q → w1 q = w q) → W p l e ({ frames := 7, cells := 0, slots := 0, locals := 178 } : Room) s m args below meth c H locs 0 0 (MQ below (fw_Q D kCl w (sz) 0 (fun v w' => v = some (.int (nI (mAns sz9 (mRun oo vv Y sz9 r9 ms)))) ∧ maS cL cQ w' b (mRun oo vv Y sz9 r9 ms) ∧ ∀ q, q < b + 10 ∨ q = b + 11 ∨ (b + 42 ≤ q ∧ q < b + 67) ∨ b + 83 ≤ q → w' q = w q)) args s 0 0 (fw_A w (sz))) (F0 m 2 ls []) := by
    intro r9
    induction r9 with
    | zero =>
      intro i hir ms hok w1 H locs ls hw hl hM ho
      obtain ⟨nx, us, mo, fa, R⟩ := ms
      obtain ⟨k1, k2, k3, k4, k5, k6, k7⟩ := id hok
      have hsz := hC.1
      have h : w1 (b + 10) = some (.inr (4, [.ref (b + 11), .ref (b + 42), .int (nI (nx)), .int (nI (us)), .int (nI (mo)), .int (nI (fa)), .ref (b + 67)])) := hM.1
      have h1 : w1 (b + 11) = some (.inl (cQ, 10, .inr (.inr (.inr (.inr (fun j => if j < 10 then some (b + 12 + 3 * j) else none)))))) := hM.2.1
      have h2 : w1 (b + 42) = some (.inl (cQ, 8, .inr (.inr (.inr (.inr (fun j => if j < 8 then some (b + 43 + 3 * j) else none)))))) := hM.2.2.1
      have hR := hM.2.2.2.1
      have hA := hM.2.2.2.2
      have hY := hY9.kept (w' := w1) (fun q h7 h8 => ho q (by omega))
      have hc5 : w1 (b + 5) = some (.inr (1, [.ref (b + 6), .ref (b + 7), .int (nI sz9)])) := (ho _ (by omega)).trans hc59
      have hc6 : w1 (b + 6) = some (.inl (cI, 120, .inl (fun i => nI (oo i)))) := (ho _ (by omega)).trans hc69
      have hc7 : w1 (b + 7) = some (.inl (cI, 120, .inl (fun i => nI (vv i)))) := (ho _ (by omega)).trans hc79
      have hcn : True := trivial
      refine lv_iload_n (pc := 2) hx hb dMa_advance_2 rfl (lv_at hl 0 rfl) ?_
      refine lv_iload_n (pc := 3) hx hb dMa_advance_3 rfl (lv_at hl 3 rfl) ?_
      refine lv_icmp_ge (pc := 4) (tgt := 116) hx hb dMa_advance_4 (by decide) (fun _ => ?_) (fun hc => absurd (nI_le (show N ≤ i by omega) (by omega)) hc)
      have hrn : mRun oo vv Y sz9 0 (nx, us, mo, fa, R) = (nx, us, mo, fa, R) := by first | rfl | exact if_neg hcn
      refine lv_aload_n (pc := 116) hx hb dMa_advance_116 rfl (lv_at hl 1 rfl) ?_
      refine fw_get (pc := 117) (ci := 4) (v := .int (nI (fa))) (C := RMa) (T := TMa) (N := 7) hx hb hW in_Ma hown hK.1 hw h rfl 5 (by decide) (hW _ lf_Ma_31) (fun _ h => h) rfl dMa_advance_117 ?_
      rcases (show fa = 0 ∨ ¬ fa = 0 by omega) with hf0 | hf0
      · refine lv_if_eq (pc := 120) (tgt := 128) hx hb dMa_advance_120 (by decide) (fun _ => ?_) (fun hc => absurd (by rw [hf0]; rfl) hc)
        refine lv_aload_n (pc := 128) hx hb dMa_advance_128 rfl (lv_at hl 1 rfl) ?_
        refine fw_get (pc := 129) (ci := 4) (v := .int (nI (nx))) (C := RMa) (T := TMa) (N := 7) hx hb hW in_Ma hown hK.1 hw h rfl 2 (by decide) (hW _ lf_Ma_21) (fun _ h => h) rfl dMa_advance_129 ?_
        refine lv_aload_n (pc := 132) hx hb dMa_advance_132 rfl (lv_at hl 2 rfl) ?_
        refine fw_get (pc := 133) (ci := 1) (v := .int (nI sz9)) (C := RCo) (T := TCo) (N := 3) hx hb hW in_Co hown hK.1 hw hc5 rfl 2 (by decide) (hW _ lf_Ma_41) (fun _ h => h) rfl dMa_advance_133 ?_
        rcases (show nx = sz9 ∨ ¬ nx = sz9 by omega) with hn0 | hn0
        · refine lv_icmp_ne (pc := 136) (tgt := 143) hx hb dMa_advance_136 (by decide) (fun hc => absurd hc (fun h9 => h9 (by rw [hn0]))) (fun _ => ?_)
          refine lv_iconst (pc := 139) (v := (nI 0)) hx hb dMa_advance_139 (by decide) ?_
          refine lv_goto (pc := 140) (tgt := 144) hx hb dMa_advance_140 (by decide) ?_
          exact fw_iret (pc := 144) hx hb hr hlocks hw dMa_advance_144 ⟨by rw [hrn]; (show _ = some (Value.int (nI (if fa = 0 then (if nx = sz9 then 0 else 1) else fa)))); rw [if_pos hf0, if_pos hn0], by rw [hrn]; exact hM, ho⟩
        · refine lv_icmp_ne (pc := 136) (tgt := 143) hx hb dMa_advance_136 (by decide) (fun _ => ?_) (fun hc => absurd hc (fun h9 => hn0 ((nI_eq (by omega) (by omega)).mp h9)))
          refine lv_iconst (pc := 143) (v := (nI 1)) hx hb dMa_advance_143 (by decide) ?_
          exact fw_iret (pc := 144) hx hb hr hlocks hw dMa_advance_144 ⟨by rw [hrn]; (show _ = some (Value.int (nI (if fa = 0 then (if nx = sz9 then 0 else 1) else fa)))); rw [if_pos hf0, if_neg hn0], by rw [hrn]; exact hM, ho⟩
      · refine lv_if_eq (pc := 120) (tgt := 128) hx hb dMa_advance_120 (by decide) (fun hc => absurd hc (nI_ne0 (by omega) (by omega))) (fun _ => ?_)
        refine lv_aload_n (pc := 123) hx hb dMa_advance_123 rfl (lv_at hl 1 rfl) ?_
        refine fw_get (pc := 124) (ci := 4) (v := .int (nI (fa))) (C := RMa) (T := TMa) (N := 7) hx hb hW in_Ma hown hK.1 hw h rfl 5 (by decide) (hW _ lf_Ma_31) (fun _ h => h) rfl dMa_advance_124 ?_
        exact fw_iret (pc := 127) hx hb hr hlocks hw dMa_advance_127 ⟨by rw [hrn]; (show _ = some (Value.int (nI (if fa = 0 then (if nx = sz9 then 0 else 1) else fa)))); rw [if_neg hf0], by rw [hrn]; exact hM, ho⟩
    | succ r9 ih =>
      intro i hir ms hok w1 H locs ls hw hl hM ho
      obtain ⟨nx, us, mo, fa, R⟩ := ms
      obtain ⟨k1, k2, k3, k4, k5, k6, k7⟩ := id hok
      have hsz := hC.1
      have h : w1 (b + 10) = some (.inr (4, [.ref (b + 11), .ref (b + 42), .int (nI (nx)), .int (nI (us)), .int (nI (mo)), .int (nI (fa)), .ref (b + 67)])) := hM.1
      have h1 : w1 (b + 11) = some (.inl (cQ, 10, .inr (.inr (.inr (.inr (fun j => if j < 10 then some (b + 12 + 3 * j) else none)))))) := hM.2.1
      have h2 : w1 (b + 42) = some (.inl (cQ, 8, .inr (.inr (.inr (.inr (fun j => if j < 8 then some (b + 43 + 3 * j) else none)))))) := hM.2.2.1
      have hR := hM.2.2.2.1
      have hA := hM.2.2.2.2
      have hY := hY9.kept (w' := w1) (fun q h7 h8 => ho q (by omega))
      have hc5 : w1 (b + 5) = some (.inr (1, [.ref (b + 6), .ref (b + 7), .int (nI sz9)])) := (ho _ (by omega)).trans hc59
      have hc6 : w1 (b + 6) = some (.inl (cI, 120, .inl (fun i => nI (oo i)))) := (ho _ (by omega)).trans hc69
      have hc7 : w1 (b + 7) = some (.inl (cI, 120, .inl (fun i => nI (vv i)))) := (ho _ (by omega)).trans hc79
      refine lv_iload_n (pc := 2) hx hb dMa_advance_2 rfl (lv_at hl 0 rfl) ?_
      refine lv_iload_n (pc := 3) hx hb dMa_advance_3 rfl (lv_at hl 3 rfl) ?_
      refine lv_icmp_ge (pc := 4) (tgt := 116) hx hb dMa_advance_4 (by decide) (fun hc => absurd hc (nI_ge (show i < N by omega) (by omega))) (fun _ => ?_)
      refine lv_aload_n (pc := 7) hx hb dMa_advance_7 rfl (lv_at hl 1 rfl) ?_
      refine fw_get (pc := 8) (ci := 4) (v := .int (nI (nx))) (C := RMa) (T := TMa) (N := 7) hx hb hW in_Ma hown hK.1 hw h rfl 2 (by decide) (hW _ lf_Ma_21) (fun _ h => h) rfl dMa_advance_8 ?_
      refine lv_aload_n (pc := 11) hx hb dMa_advance_11 rfl (lv_at hl 2 rfl) ?_
      refine fw_get (pc := 12) (ci := 1) (v := .int (nI sz9)) (C := RCo) (T := TCo) (N := 3) hx hb hW in_Co hown hK.1 hw hc5 rfl 2 (by decide) (hW _ lf_Ma_41) (fun _ h => h) rfl dMa_advance_12 ?_
      rcases (show sz9 ≤ nx ∨ nx < sz9 by omega) with hns | hns
      · refine lv_icmp_ge (pc := 15) (tgt := 116) hx hb dMa_advance_15 (by decide) (fun _ => ?_) (fun hc => absurd (nI_le hns (by omega)) hc)
        have hcn : ¬ (nx < sz9 ∧ fa = 0) := fun h9 => absurd h9.1 (by omega)
        have hrn : mRun oo vv Y sz9 (r9 + 1) (nx, us, mo, fa, R) = (nx, us, mo, fa, R) := by first | rfl | exact if_neg hcn
        refine lv_aload_n (pc := 116) hx hb dMa_advance_116 rfl (lv_at hl 1 rfl) ?_
        refine fw_get (pc := 117) (ci := 4) (v := .int (nI (fa))) (C := RMa) (T := TMa) (N := 7) hx hb hW in_Ma hown hK.1 hw h rfl 5 (by decide) (hW _ lf_Ma_31) (fun _ h => h) rfl dMa_advance_117 ?_
        rcases (show fa = 0 ∨ ¬ fa = 0 by omega) with hf0 | hf0
        · refine lv_if_eq (pc := 120) (tgt := 128) hx hb dMa_advance_120 (by decide) (fun _ => ?_) (fun hc => absurd (by rw [hf0]; rfl) hc)
          refine lv_aload_n (pc := 128) hx hb dMa_advance_128 rfl (lv_at hl 1 rfl) ?_
          refine fw_get (pc := 129) (ci := 4) (v := .int (nI (nx))) (C := RMa) (T := TMa) (N := 7) hx hb hW in_Ma hown hK.1 hw h rfl 2 (by decide) (hW _ lf_Ma_21) (fun _ h => h) rfl dMa_advance_129 ?_
          refine lv_aload_n (pc := 132) hx hb dMa_advance_132 rfl (lv_at hl 2 rfl) ?_
          refine fw_get (pc := 133) (ci := 1) (v := .int (nI sz9)) (C := RCo) (T := TCo) (N := 3) hx hb hW in_Co hown hK.1 hw hc5 rfl 2 (by decide) (hW _ lf_Ma_41) (fun _ h => h) rfl dMa_advance_133 ?_
          rcases (show nx = sz9 ∨ ¬ nx = sz9 by omega) with hn0 | hn0
          · refine lv_icmp_ne (pc := 136) (tgt := 143) hx hb dMa_advance_136 (by decide) (fun hc => absurd hc (fun h9 => h9 (by rw [hn0]))) (fun _ => ?_)
            refine lv_iconst (pc := 139) (v := (nI 0)) hx hb dMa_advance_139 (by decide) ?_
            refine lv_goto (pc := 140) (tgt := 144) hx hb dMa_advance_140 (by decide) ?_
            exact fw_iret (pc := 144) hx hb hr hlocks hw dMa_advance_144 ⟨by rw [hrn]; (show _ = some (Value.int (nI (if fa = 0 then (if nx = sz9 then 0 else 1) else fa)))); rw [if_pos hf0, if_pos hn0], by rw [hrn]; exact hM, ho⟩
          · refine lv_icmp_ne (pc := 136) (tgt := 143) hx hb dMa_advance_136 (by decide) (fun _ => ?_) (fun hc => absurd hc (fun h9 => hn0 ((nI_eq (by omega) (by omega)).mp h9)))
            refine lv_iconst (pc := 143) (v := (nI 1)) hx hb dMa_advance_143 (by decide) ?_
            exact fw_iret (pc := 144) hx hb hr hlocks hw dMa_advance_144 ⟨by rw [hrn]; (show _ = some (Value.int (nI (if fa = 0 then (if nx = sz9 then 0 else 1) else fa)))); rw [if_pos hf0, if_neg hn0], by rw [hrn]; exact hM, ho⟩
        · refine lv_if_eq (pc := 120) (tgt := 128) hx hb dMa_advance_120 (by decide) (fun hc => absurd hc (nI_ne0 (by omega) (by omega))) (fun _ => ?_)
          refine lv_aload_n (pc := 123) hx hb dMa_advance_123 rfl (lv_at hl 1 rfl) ?_
          refine fw_get (pc := 124) (ci := 4) (v := .int (nI (fa))) (C := RMa) (T := TMa) (N := 7) hx hb hW in_Ma hown hK.1 hw h rfl 5 (by decide) (hW _ lf_Ma_31) (fun _ h => h) rfl dMa_advance_124 ?_
          exact fw_iret (pc := 127) hx hb hr hlocks hw dMa_advance_127 ⟨by rw [hrn]; (show _ = some (Value.int (nI (if fa = 0 then (if nx = sz9 then 0 else 1) else fa)))); rw [if_neg hf0], by rw [hrn]; exact hM, ho⟩
      · refine lv_icmp_ge (pc := 15) (tgt := 116) hx hb dMa_advance_15 (by decide) (fun hc => absurd hc (nI_ge hns (by omega))) (fun _ => ?_)
        refine lv_aload_n (pc := 18) hx hb dMa_advance_18 rfl (lv_at hl 1 rfl) ?_
        refine fw_get (pc := 19) (ci := 4) (v := .int (nI (fa))) (C := RMa) (T := TMa) (N := 7) hx hb hW in_Ma hown hK.1 hw h rfl 5 (by decide) (hW _ lf_Ma_31) (fun _ h => h) rfl dMa_advance_19 ?_
        rcases (show fa = 0 ∨ ¬ fa = 0 by omega) with hf0 | hf0
        · subst hf0
          refine lv_if_ne (pc := 22) (tgt := 116) hx hb dMa_advance_22 (by decide) (fun hc => absurd hc (fun h9 => h9 (by decide))) (fun _ => ?_)
          obtain ⟨c1, c2, c3, c4, c5, c6, c7⟩ := hC.2 nx hns
          obtain ⟨op, hop⟩ : ∃ op, op = oo nx := ⟨_, rfl⟩
          obtain ⟨lo, hlo⟩ : ∃ lo, lo = us - kOp op := ⟨_, rfl⟩
          have hg1 : hg oo (nx + 1) = lo + 1 := by rw [hlo, hop, k2]; rfl
          rw [← hop] at c1 c2 c3 c7
          rw [hg1] at c5
          refine lv_aload_n (pc := 25) hx hb dMa_advance_25 rfl (lv_at hl 2 rfl) ?_
          refine fw_get (pc := 26) (ci := 1) (v := .ref (b + 6)) (C := RCo) (T := TCo) (N := 3) hx hb hW in_Co hown hK.1 hw hc5 rfl 0 (by decide) (hW _ lf_Ma_46) (fun _ h => h) rfl dMa_advance_26 ?_
          refine lv_aload_n (pc := 29) hx hb dMa_advance_29 rfl (lv_at hl 1 rfl) ?_
          refine fw_get (pc := 30) (ci := 4) (v := .int (nI (nx))) (C := RMa) (T := TMa) (N := 7) hx hb hW in_Ma hown hK.1 hw h rfl 2 (by decide) (hW _ lf_Ma_21) (fun _ h => h) rfl dMa_advance_30 ?_
          refine fw_ialdN (pc := 33) (x := nI (oo (nx))) hx hb hK.1 hw 0 hc6 rfl (nx) (show nx < 120 by omega) (by decide) rfl dMa_advance_33 ?_
          rw [show (nI (oo (nx)) : Int32) = nI op from (by rw [hop])]
          refine lv_istore (pc := 34) (lv' := [(4, .int (nI op)), (3, .int (nI i)), (0, .ref (b + 10)), (1, .ref (b + 5)), (2, .int (nI N))]) hx hb dMa_advance_34 hl (by decide) rfl (fun ls hl => ?_)
          refine lv_aload_n (pc := 36) hx hb dMa_advance_36 rfl (lv_at hl 2 rfl) ?_
          refine fw_get (pc := 37) (ci := 4) (v := .int (nI (us))) (C := RMa) (T := TMa) (N := 7) hx hb hW in_Ma hown hK.1 hw h rfl 3 (by decide) (hW _ lf_Ma_25) (fun _ h => h) rfl dMa_advance_37 ?_
          refine va_getsN (pc := 40) (C := "BigCalculator") hx hb hK.2.1.1.1 hw.2.2.2.2 hown (va_Nw.use rfl hK.2.1.2.2.2.1.2.2.2) (fun _ h => h) dMa_advance_40 ?_
          refine lv_iload (pc := 43) hx hb dMa_advance_43 (lv_at hl 0 rfl) ?_
          refine va_ti (pc := 45) (v := .int (nI (kOp (op)))) hx hb hK.2.1.1.2 hw.2.2.2.2 (nI_in (show op < 15 from c1) (by decide)) (by rw [nI_clamp (show op < 2 ^ 31 from Nat.lt_trans c1 (by decide))]) dMa_advance_45 ?_
          refine lv_isub (pc := 46) hx hb dMa_advance_46 ?_
          rw [show ((nI (us) - nI (kOp (op))) : Int32) = nI lo from (by rw [hlo]; exact nI_subL (by omega))]
          refine lv_istore (pc := 47) (lv' := [(5, .int (nI lo)), (4, .int (nI op)), (3, .int (nI i)), (0, .ref (b + 10)), (1, .ref (b + 5)), (2, .int (nI N))]) hx hb dMa_advance_47 hl (by decide) rfl (fun ls hl => ?_)
          refine lv_aload_n (pc := 49) hx hb dMa_advance_49 rfl (lv_at hl 3 rfl) ?_
          refine lv_aload_n (pc := 50) hx hb dMa_advance_50 rfl (lv_at hl 3 rfl) ?_
          refine lv_iload (pc := 51) hx hb dMa_advance_51 (lv_at hl 1 rfl) ?_
          refine lv_aload_n (pc := 53) hx hb dMa_advance_53 rfl (lv_at hl 4 rfl) ?_
          refine fw_get (pc := 54) (ci := 1) (v := .ref (b + 7)) (C := RCo) (T := TCo) (N := 3) hx hb hW in_Co hown hK.1 hw hc5 rfl 1 (by decide) (hW _ lf_Ma_53) (fun _ h => h) rfl dMa_advance_54 ?_
          refine lv_aload_n (pc := 57) hx hb dMa_advance_57 rfl (lv_at hl 3 rfl) ?_
          refine fw_get (pc := 58) (ci := 4) (v := .int (nI (nx))) (C := RMa) (T := TMa) (N := 7) hx hb hW in_Ma hown hK.1 hw h rfl 2 (by decide) (hW _ lf_Ma_21) (fun _ h => h) rfl dMa_advance_58 ?_
          refine fw_ialdN (pc := 61) (x := nI (vv (nx))) hx hb hK.1 hw 0 hc7 rfl (nx) (show nx < 120 by omega) (by decide) rfl dMa_advance_61 ?_
          refine lv_iload (pc := 62) hx hb dMa_advance_62 (lv_at hl 0 rfl) ?_
          refine fw_cV (pc := 64) (As := [.int (nI op), .int (nI (vv (nx))), .int (nI lo)]) (rest := [.ref (b + 10)]) ⟨hx, hb, hml, hown, hW⟩ (c_Ma_perform (op := op) (u := vv nx) (lo := lo) h h1 h2 hR hY hA k7 c1 c2 (by omega) (by omega) c6 c7) (cwV 3 hW (kw_V lm_Ma_56 im_Ma_perform se_Ma_perform ini_Ma cd_Ma_perform) rfl rfl rfl (by decide +kernel) ⟨Nat.le_of_ble_eq_true rfl, Nat.le_of_ble_eq_true rfl⟩) hK hw h rfl rfl hl.1 rfl (Nat.le_of_ble_eq_true rfl) dMa_advance_64 ⟨Nat.le_of_ble_eq_true rfl, Nat.le_of_ble_eq_true rfl⟩ (fun v w2 H locs hq hw => ?_)
          obtain ⟨rfl, hR9, hA9, pf9⟩ := hq
          obtain ⟨z9, hz9⟩ : ∃ z9, z9 = sOp op (vv nx) Y (R lo) (R (lo + 1)) (R (lo + 2)) := ⟨_, rfl⟩
          rw [← hz9] at hR9
          have h_ : w2 (b + 10) = some (.inr (4, [.ref (b + 11), .ref (b + 42), .int (nI (nx)), .int (nI (us)), .int (nI (mo)), .int (nI (0)), .ref (b + 67)])) := (pf9 _ (by omega) (by omega)).trans h
          have hc5_ : w2 (b + 5) = some (.inr (1, [.ref (b + 6), .ref (b + 7), .int (nI sz9)])) := (pf9 _ (by omega) (by omega)).trans hc5
          have hc6_ : w2 (b + 6) = some (.inl (cI, 120, .inl (fun i => nI (oo i)))) := (pf9 _ (by omega) (by omega)).trans hc6
          have hc7_ : w2 (b + 7) = some (.inl (cI, 120, .inl (fun i => nI (vv i)))) := (pf9 _ (by omega) (by omega)).trans hc7
          have h := h_
          have hc5 := hc5_
          have hc6 := hc6_
          have hc7 := hc7_
          have h1 := (pf9 _ (by omega) (by omega)).trans h1
          have h2 := (pf9 _ (by omega) (by omega)).trans h2
          rw [← hz9]
          refine W.eq (g2 := F0 m 67 ls [.int (nI z9.1), .ref (b + 10)]) rfl ?_
          refine fw_put (pc := 67) (ci := 4) (v := .int (nI z9.1)) (ty := .int) (C := RMa) (T := TMa) (N := 7) hx hb hW in_Ma tyMa tyMa_ok nmMa hown hK.1 hw h rfl 5 (by decide) (hW _ lf_Ma_31) (fun _ h => h) rfl (by decide +kernel) rfl rfl (Nat.le_of_ble_eq_true rfl) dMa_advance_67 (fun H locs hw => ?_)
          obtain ⟨w3, e3⟩ : ∃ w_, w_ = fw_up w2 (b + 10) (.inr (4, [.ref (b + 11), .ref (b + 42), .int (nI (nx)), .int (nI (us)), .int (nI (mo)), .int (nI z9.1), .ref (b + 67)])) := ⟨_, rfl⟩
          have hw : fw_H D kCl (fw_A w (sz)) s.heap w3 (sz) H locs := by rw [e3]; exact hw
          have hc5_ : w3 (b + 5) = some (.inr (1, [.ref (b + 6), .ref (b + 7), .int (nI sz9)])) := by rw [e3, fw_un (by omega)]; exact hc5
          have hc6_ : w3 (b + 6) = some (.inl (cI, 120, .inl (fun i => nI (oo i)))) := by rw [e3, fw_un (by omega)]; exact hc6
          have hc7_ : w3 (b + 7) = some (.inl (cI, 120, .inl (fun i => nI (vv i)))) := by rw [e3, fw_un (by omega)]; exact hc7
          have h_ : w3 (b + 10) = some (.inr (4, [.ref (b + 11), .ref (b + 42), .int (nI (nx)), .int (nI (us)), .int (nI (mo)), .int (nI z9.1), .ref (b + 67)])) := by rw [e3]; exact fw_us _ _ _
          have h := h_
          have hc5 := hc5_
          have hc6 := hc6_
          have hc7 := hc7_
          refine lv_aload_n (pc := 70) hx hb dMa_advance_70 rfl (lv_at hl 3 rfl) ?_
          refine fw_get (pc := 71) (ci := 4) (v := .int (nI z9.1)) (C := RMa) (T := TMa) (N := 7) hx hb hW in_Ma hown hK.1 hw h rfl 5 (by decide) (hW _ lf_Ma_31) (fun _ h => h) rfl dMa_advance_71 ?_
          have hst : mStep oo vv Y (nx, us, mo, 0, R) = if z9.1 = 0 then (nx + 1, lo + 1, max mo (lo + 1), 0, va_up R lo z9.2) else (nx, us, mo, z9.1, va_up R lo z9.2) := by rw [hz9, hlo, hop]; rfl
          have hrn : mRun oo vv Y sz9 (r9 + 1) (nx, us, mo, 0, R) = mRun oo vv Y sz9 r9 (mStep oo vv Y (nx, us, mo, 0, R)) := if_pos ⟨hns, rfl⟩
          have hok2 := mStep_ok (Y := Y) hC hY7 hok hns
          have hz7 : z9.1 < 7 := by rw [hz9]; exact (sOp_ok (k7 _) (k7 _) (k7 _) c6 (hY7 _)).1
          rcases (show z9.1 = 0 ∨ ¬ z9.1 = 0 by omega) with hz0 | hz0
          · rw [if_pos hz0] at hst
            refine lv_if_ne (pc := 74) (tgt := 110) hx hb dMa_advance_74 (by decide) (fun hc => absurd hc (fun h9 => h9 (by rw [hz0]; rfl))) (fun _ => ?_)
            refine lv_aload_n (pc := 77) hx hb dMa_advance_77 rfl (lv_at hl 3 rfl) ?_
            refine lv_dup (pc := 78) hx hb dMa_advance_78 rfl ?_
            refine fw_get (pc := 79) (ci := 4) (v := .int (nI (nx))) (C := RMa) (T := TMa) (N := 7) hx hb hW in_Ma hown hK.1 hw h rfl 2 (by decide) (hW _ lf_Ma_21) (fun _ h => h) rfl dMa_advance_79 ?_
            refine lv_iconst (pc := 82) (v := (nI 1)) hx hb dMa_advance_82 (by decide) ?_
            refine lv_iadd (pc := 83) hx hb dMa_advance_83 ?_
            rw [show ((nI (nx) + (nI 1)) : Int32) = nI (nx + 1) from (nI_add nx 1)]
            refine fw_put (pc := 84) (ci := 4) (v := .int (nI (nx + 1))) (ty := .int) (C := RMa) (T := TMa) (N := 7) hx hb hW in_Ma tyMa tyMa_ok nmMa hown hK.1 hw h rfl 2 (by decide) (hW _ lf_Ma_21) (fun _ h => h) rfl (by decide +kernel) rfl rfl (Nat.le_of_ble_eq_true rfl) dMa_advance_84 (fun H locs hw => ?_)
            obtain ⟨w4, e4⟩ : ∃ w_, w_ = fw_up w3 (b + 10) (.inr (4, [.ref (b + 11), .ref (b + 42), .int (nI (nx + 1)), .int (nI (us)), .int (nI (mo)), .int (nI (z9.1)), .ref (b + 67)])) := ⟨_, rfl⟩
            have hw : fw_H D kCl (fw_A w (sz)) s.heap w4 (sz) H locs := by rw [e4]; exact hw
            have hc5_ : w4 (b + 5) = some (.inr (1, [.ref (b + 6), .ref (b + 7), .int (nI sz9)])) := by rw [e4, fw_un (by omega)]; exact hc5
            have hc6_ : w4 (b + 6) = some (.inl (cI, 120, .inl (fun i => nI (oo i)))) := by rw [e4, fw_un (by omega)]; exact hc6
            have hc7_ : w4 (b + 7) = some (.inl (cI, 120, .inl (fun i => nI (vv i)))) := by rw [e4, fw_un (by omega)]; exact hc7
            have h_ : w4 (b + 10) = some (.inr (4, [.ref (b + 11), .ref (b + 42), .int (nI (nx + 1)), .int (nI (us)), .int (nI (mo)), .int (nI (z9.1)), .ref (b + 67)])) := by rw [e4]; exact fw_us _ _ _
            have h := h_
            have hc5 := hc5_
            have hc6 := hc6_
            have hc7 := hc7_
            refine lv_aload_n (pc := 87) hx hb dMa_advance_87 rfl (lv_at hl 3 rfl) ?_
            refine lv_iload (pc := 88) hx hb dMa_advance_88 (lv_at hl 0 rfl) ?_
            refine lv_iconst (pc := 90) (v := (nI 1)) hx hb dMa_advance_90 (by decide) ?_
            refine lv_iadd (pc := 91) hx hb dMa_advance_91 ?_
            rw [show ((nI lo + (nI 1)) : Int32) = nI (lo + 1) from (nI_add lo 1)]
            refine fw_put (pc := 92) (ci := 4) (v := .int (nI (lo + 1))) (ty := .int) (C := RMa) (T := TMa) (N := 7) hx hb hW in_Ma tyMa tyMa_ok nmMa hown hK.1 hw h rfl 3 (by decide) (hW _ lf_Ma_25) (fun _ h => h) rfl (by decide +kernel) rfl rfl (Nat.le_of_ble_eq_true rfl) dMa_advance_92 (fun H locs hw => ?_)
            obtain ⟨w5, e5⟩ : ∃ w_, w_ = fw_up w4 (b + 10) (.inr (4, [.ref (b + 11), .ref (b + 42), .int (nI (nx + 1)), .int (nI (lo + 1)), .int (nI (mo)), .int (nI (z9.1)), .ref (b + 67)])) := ⟨_, rfl⟩
            have hw : fw_H D kCl (fw_A w (sz)) s.heap w5 (sz) H locs := by rw [e5]; exact hw
            have hc5_ : w5 (b + 5) = some (.inr (1, [.ref (b + 6), .ref (b + 7), .int (nI sz9)])) := by rw [e5, fw_un (by omega)]; exact hc5
            have hc6_ : w5 (b + 6) = some (.inl (cI, 120, .inl (fun i => nI (oo i)))) := by rw [e5, fw_un (by omega)]; exact hc6
            have hc7_ : w5 (b + 7) = some (.inl (cI, 120, .inl (fun i => nI (vv i)))) := by rw [e5, fw_un (by omega)]; exact hc7
            have h_ : w5 (b + 10) = some (.inr (4, [.ref (b + 11), .ref (b + 42), .int (nI (nx + 1)), .int (nI (lo + 1)), .int (nI (mo)), .int (nI (z9.1)), .ref (b + 67)])) := by rw [e5]; exact fw_us _ _ _
            have h := h_
            have hc5 := hc5_
            have hc6 := hc6_
            have hc7 := hc7_
            refine lv_aload_n (pc := 95) hx hb dMa_advance_95 rfl (lv_at hl 3 rfl) ?_
            refine lv_aload_n (pc := 96) hx hb dMa_advance_96 rfl (lv_at hl 3 rfl) ?_
            refine fw_get (pc := 97) (ci := 4) (v := .int (nI (mo))) (C := RMa) (T := TMa) (N := 7) hx hb hW in_Ma hown hK.1 hw h rfl 4 (by decide) (hW _ lf_Ma_28) (fun _ h => h) rfl dMa_advance_97 ?_
            refine lv_aload_n (pc := 100) hx hb dMa_advance_100 rfl (lv_at hl 3 rfl) ?_
            refine fw_get (pc := 101) (ci := 4) (v := .int (nI (lo + 1))) (C := RMa) (T := TMa) (N := 7) hx hb hW in_Ma hown hK.1 hw h rfl 3 (by decide) (hW _ lf_Ma_25) (fun _ h => h) rfl dMa_advance_101 ?_
            refine fw_max (pc := 104) (rest := [.ref (b + 10)]) hx hb hown (hW _ lm_Ma_60) (hW _ sta_Jm_max) (hW _ ini_Jm) (hW _ cd_Jm_max) (by rw [hml]; exact hl.1) dMa_advance_104 (Nat.le_of_ble_eq_true rfl) (Nat.le_of_ble_eq_true rfl) (Nat.zero_le _) (Nat.zero_le _) ?_
            rw [nI_max (show mo < 2 ^ 31 by omega) (show lo + 1 < 2 ^ 31 by omega)]
            refine fw_put (pc := 107) (ci := 4) (v := .int (nI (max mo (lo + 1)))) (ty := .int) (C := RMa) (T := TMa) (N := 7) hx hb hW in_Ma tyMa tyMa_ok nmMa hown hK.1 hw h rfl 4 (by decide) (hW _ lf_Ma_28) (fun _ h => h) rfl (by decide +kernel) rfl rfl (Nat.le_of_ble_eq_true rfl) dMa_advance_107 (fun H locs hw => ?_)
            obtain ⟨w6, e6⟩ : ∃ w_, w_ = fw_up w5 (b + 10) (.inr (4, [.ref (b + 11), .ref (b + 42), .int (nI (nx + 1)), .int (nI (lo + 1)), .int (nI (max mo (lo + 1))), .int (nI (z9.1)), .ref (b + 67)])) := ⟨_, rfl⟩
            have hw : fw_H D kCl (fw_A w (sz)) s.heap w6 (sz) H locs := by rw [e6]; exact hw
            have hc5_ : w6 (b + 5) = some (.inr (1, [.ref (b + 6), .ref (b + 7), .int (nI sz9)])) := by rw [e6, fw_un (by omega)]; exact hc5
            have hc6_ : w6 (b + 6) = some (.inl (cI, 120, .inl (fun i => nI (oo i)))) := by rw [e6, fw_un (by omega)]; exact hc6
            have hc7_ : w6 (b + 7) = some (.inl (cI, 120, .inl (fun i => nI (vv i)))) := by rw [e6, fw_un (by omega)]; exact hc7
            have h_ : w6 (b + 10) = some (.inr (4, [.ref (b + 11), .ref (b + 42), .int (nI (nx + 1)), .int (nI (lo + 1)), .int (nI (max mo (lo + 1))), .int (nI (z9.1)), .ref (b + 67)])) := by rw [e6]; exact fw_us _ _ _
            have h := h_
            have hc5 := hc5_
            have hc6 := hc6_
            have hc7 := hc7_
            rw [hz0] at h
            refine lv_iinc (pc := 110) (lv' := [(3, .int (nI (i + 1))), (5, .int (nI lo)), (4, .int (nI op)), (0, .ref (b + 10)), (1, .ref (b + 5)), (2, .int (nI N))]) hx hb dMa_advance_110 hl (k := 2) rfl ((nI_add i 1)) (by decide) rfl (fun ls hl => ?_)
            refine lv_goto (pc := 113) (tgt := 2) hx hb dMa_advance_113 (by decide) ?_
            rw [hrn, hst]
            rw [hst] at hok2
            exact ih (i + 1) (by omega) _ hok2 _ H locs ls hw (lv_sub hl [0, 3, 4, 5] rfl) ⟨h, (by rw [e6, fw_un (by omega), e5, fw_un (by omega), e4, fw_un (by omega), e3, fw_un (by omega)]; exact h1), (by rw [e6, fw_un (by omega), e5, fw_un (by omega), e4, fw_un (by omega), e3, fw_un (by omega)]; exact h2), hR9.kept (fun q h7 h8 => by rw [e6, fw_un (by omega), e5, fw_un (by omega), e4, fw_un (by omega), e3, fw_un (by omega)]), hA9.kept (fun q h7 h8 => by rw [e6, fw_un (by omega), e5, fw_un (by omega), e4, fw_un (by omega), e3, fw_un (by omega)])⟩ (fun q h7 => by rw [e6, fw_un (by omega), e5, fw_un (by omega), e4, fw_un (by omega), e3, fw_un (by omega), pf9 q (by omega) (by omega), ho q h7])
          · rw [if_neg hz0] at hst
            refine lv_if_ne (pc := 74) (tgt := 110) hx hb dMa_advance_74 (by decide) (fun _ => ?_) (fun hc => absurd hc (nI_ne0 (by omega) (by omega)))
            refine lv_iinc (pc := 110) (lv' := [(3, .int (nI (i + 1))), (5, .int (nI lo)), (4, .int (nI op)), (0, .ref (b + 10)), (1, .ref (b + 5)), (2, .int (nI N))]) hx hb dMa_advance_110 hl (k := 2) rfl ((nI_add i 1)) (by decide) rfl (fun ls hl => ?_)
            refine lv_goto (pc := 113) (tgt := 2) hx hb dMa_advance_113 (by decide) ?_
            rw [hrn, hst]
            rw [hst] at hok2
            exact ih (i + 1) (by omega) _ hok2 _ H locs ls hw (lv_sub hl [0, 3, 4, 5] rfl) ⟨h, (by rw [e3, fw_un (by omega)]; exact h1), (by rw [e3, fw_un (by omega)]; exact h2), hR9.kept (fun q h7 h8 => by rw [e3, fw_un (by omega)]), hA9.kept (fun q h7 h8 => by rw [e3, fw_un (by omega)])⟩ (fun q h7 => by rw [e3, fw_un (by omega), pf9 q (by omega) (by omega), ho q h7])
        · refine lv_if_ne (pc := 22) (tgt := 116) hx hb dMa_advance_22 (by decide) (fun _ => ?_) (fun hc => absurd hc (nI_ne0 (by omega) (by omega)))
          have hcn : ¬ (nx < sz9 ∧ fa = 0) := fun h9 => absurd h9.2 hf0
          have hrn : mRun oo vv Y sz9 (r9 + 1) (nx, us, mo, fa, R) = (nx, us, mo, fa, R) := by first | rfl | exact if_neg hcn
          refine lv_aload_n (pc := 116) hx hb dMa_advance_116 rfl (lv_at hl 1 rfl) ?_
          refine fw_get (pc := 117) (ci := 4) (v := .int (nI (fa))) (C := RMa) (T := TMa) (N := 7) hx hb hW in_Ma hown hK.1 hw h rfl 5 (by decide) (hW _ lf_Ma_31) (fun _ h => h) rfl dMa_advance_117 ?_
          rcases (show fa = 0 ∨ ¬ fa = 0 by omega) with hf0 | hf0
          · refine lv_if_eq (pc := 120) (tgt := 128) hx hb dMa_advance_120 (by decide) (fun _ => ?_) (fun hc => absurd (by rw [hf0]; rfl) hc)
            refine lv_aload_n (pc := 128) hx hb dMa_advance_128 rfl (lv_at hl 1 rfl) ?_
            refine fw_get (pc := 129) (ci := 4) (v := .int (nI (nx))) (C := RMa) (T := TMa) (N := 7) hx hb hW in_Ma hown hK.1 hw h rfl 2 (by decide) (hW _ lf_Ma_21) (fun _ h => h) rfl dMa_advance_129 ?_
            refine lv_aload_n (pc := 132) hx hb dMa_advance_132 rfl (lv_at hl 2 rfl) ?_
            refine fw_get (pc := 133) (ci := 1) (v := .int (nI sz9)) (C := RCo) (T := TCo) (N := 3) hx hb hW in_Co hown hK.1 hw hc5 rfl 2 (by decide) (hW _ lf_Ma_41) (fun _ h => h) rfl dMa_advance_133 ?_
            rcases (show nx = sz9 ∨ ¬ nx = sz9 by omega) with hn0 | hn0
            · refine lv_icmp_ne (pc := 136) (tgt := 143) hx hb dMa_advance_136 (by decide) (fun hc => absurd hc (fun h9 => h9 (by rw [hn0]))) (fun _ => ?_)
              refine lv_iconst (pc := 139) (v := (nI 0)) hx hb dMa_advance_139 (by decide) ?_
              refine lv_goto (pc := 140) (tgt := 144) hx hb dMa_advance_140 (by decide) ?_
              exact fw_iret (pc := 144) hx hb hr hlocks hw dMa_advance_144 ⟨by rw [hrn]; (show _ = some (Value.int (nI (if fa = 0 then (if nx = sz9 then 0 else 1) else fa)))); rw [if_pos hf0, if_pos hn0], by rw [hrn]; exact hM, ho⟩
            · refine lv_icmp_ne (pc := 136) (tgt := 143) hx hb dMa_advance_136 (by decide) (fun _ => ?_) (fun hc => absurd hc (fun h9 => hn0 ((nI_eq (by omega) (by omega)).mp h9)))
              refine lv_iconst (pc := 143) (v := (nI 1)) hx hb dMa_advance_143 (by decide) ?_
              exact fw_iret (pc := 144) hx hb hr hlocks hw dMa_advance_144 ⟨by rw [hrn]; (show _ = some (Value.int (nI (if fa = 0 then (if nx = sz9 then 0 else 1) else fa)))); rw [if_pos hf0, if_neg hn0], by rw [hrn]; exact hM, ho⟩
          · refine lv_if_eq (pc := 120) (tgt := 128) hx hb dMa_advance_120 (by decide) (fun hc => absurd hc (nI_ne0 (by omega) (by omega))) (fun _ => ?_)
            refine lv_aload_n (pc := 123) hx hb dMa_advance_123 rfl (lv_at hl 1 rfl) ?_
            refine fw_get (pc := 124) (ci := 4) (v := .int (nI (fa))) (C := RMa) (T := TMa) (N := 7) hx hb hW in_Ma hown hK.1 hw h rfl 5 (by decide) (hW _ lf_Ma_31) (fun _ h => h) rfl dMa_advance_124 ?_
            exact fw_iret (pc := 127) hx hb hr hlocks hw dMa_advance_127 ⟨by rw [hrn]; (show _ = some (Value.int (nI (if fa = 0 then (if nx = sz9 then 0 else 1) else fa)))); rw [if_neg hf0], by rw [hrn]; exact hM, ho⟩
  refine lv_iconst (pc := 0) (v := (nI 0)) hx hb dMa_advance_0 (by decide) ?_
  refine lv_istore_n (pc := 1) (lv' := [(3, .int (nI 0)), (0, .ref (b + 10)), (1, .ref (b + 5)), (2, .int (nI N))]) hx hb dMa_advance_1 rfl hl (by decide) rfl (fun ls hl => ?_)
  exact loop N 0 (by omega) (nx, us, mo, fa, R) hO w H [] ls hw (lv_sub hl [0, 1, 2, 3] rfl) hM (fun q _ => rfl)
end MA1
