theorem nw_upd {b : Nat} {g : Nat → Nat} {a m n y : Nat} (hm : m < n) : nw b (va_up g (a + m) y) a n + g (a + m) * b ^ m = nw b g a n + y * b ^ m := by
  induction n with
  | zero => omega
  | succ n ih =>
    rw [nw_s, nw_s]
    by_cases h : m = n
    · subst h
      rw [nw_eq (h := g) (fun i hi => up_o (by omega)), up_s]
      omega
    · rw [up_o (show a + n ≠ a + m by omega)]
      have := ih (by omega)
      omega
/-- a limb of a place grows -/
theorem mC_cell {X : Nat → Nat} {p k q : Nat} (hk : k < 64) (hX : X p < nM ^ 64) (hq : mC X (64 * p + k) + q < nM) : va_up (mC X) (64 * p + k) (mC X (64 * p + k) + q) = mC (va_up X p (X p + q * nM ^ k)) := by
  refine mC_of (fun i hi => ?_) ?_ (fun j hj => up_o (by omega))
  · by_cases h : i = k
    · subst h; rw [up_s]; exact hq
    · rw [up_o (by omega)]; exact mC_lt X _
  · have h1 := nw_upd (b := nM) (g := mC X) (a := 64 * p) (y := mC X (64 * p + k) + q) hk
    rw [mC_val hX, Nat.add_mul] at h1
    omega
theorem dq_top {M x j : Nat} : x / M ^ j = x / M ^ (j + 1) * M + x / M ^ j % M := by
  rw [Nat.pow_succ, ← Nat.div_div_eq_div_mul]
  have := Nat.div_add_mod (x / M ^ j) M
  rw [Nat.mul_comm] at this; omega
/-- the reference's estimate is never too much -/
theorem dq_le {M a b k n bt q0 q : Nat} (hn : 0 < n) (hb : b < (bt + 1) * M ^ (n - 1)) (hr : b * M ^ k ≤ a) (h0 : q0 = a / M ^ (k + n - 1) / (bt + 1)) (hq : q = if q0 = 0 then 1 else q0) : q * b * M ^ k ≤ a ∧ 0 < q := by
  by_cases hz : q0 = 0
  · rw [hq, if_pos hz, Nat.one_mul]; exact ⟨hr, by decide⟩
  · rw [hq, if_neg hz]
    refine ⟨?_, by omega⟩
    have h1 : q0 * (bt + 1) ≤ a / M ^ (k + n - 1) := by rw [h0]; exact Nat.div_mul_le_self _ _
    have h2 := Nat.div_mul_le_self a (M ^ (k + n - 1))
    have h3 : q0 * b * M ^ k ≤ q0 * ((bt + 1) * M ^ (n - 1)) * M ^ k := Nat.mul_le_mul_right _ (Nat.mul_le_mul_left _ (Nat.le_of_lt hb))
    have h4 : q0 * ((bt + 1) * M ^ (n - 1)) * M ^ k = q0 * (bt + 1) * M ^ (k + n - 1) := by
      rw [show k + n - 1 = (n - 1) + k by omega, Nat.pow_add, ← Nat.mul_assoc, Nat.mul_assoc (q0 * (bt + 1))]
    have h5 : q0 * (bt + 1) * M ^ (k + n - 1) ≤ a / M ^ (k + n - 1) * M ^ (k + n - 1) := Nat.mul_le_mul_right _ h1
    omega
theorem dq_lt {M a b k q : Nat} (hb : 0 < b) (h : q * b * M ^ k ≤ a) (ha : a < b * M ^ (k + 1)) (hM : 0 < M) : q < M := by
  rw [Nat.pow_succ] at ha
  have h1 : q * (b * M ^ k) < M * (b * M ^ k) := by
    have e1 : q * b * M ^ k = q * (b * M ^ k) := Nat.mul_assoc _ _ _
    have e2 : b * (M ^ k * M) = M * (b * M ^ k) := by rw [Nat.mul_comm M, Nat.mul_assoc]
    omega
  exact Nat.lt_of_mul_lt_mul_right h1
theorem dq_end {Q A B A0 : Nat} (h : Q * B + A = A0) (hA : A < B) : Q = A0 / B ∧ A = A0 % B := by
  have h1 := (Nat.div_mod_unique (show 0 < B by omega)).mpr ⟨(by rw [Nat.mul_comm B, Nat.add_comm]; exact h : A + B * Q = A0), hA⟩
  exact ⟨h1.1.symm, h1.2.symm⟩
theorem mC_b {X : Nat → Nat} {p n : Nat} (hn : 0 < n) (hn2 : n ≤ 64) (h : ml (X p) n) : X p < (mC X (64 * p + (n - 1)) + 1) * nM ^ (n - 1) ∧ mC X (64 * p + (n - 1)) = X p / nM ^ (n - 1) := by
  have h1 : X p / nM ^ (n - 1) < nM := by
    rw [Nat.div_lt_iff_lt_mul (Nat.pow_pos (by decide)), Nat.mul_comm, ← Nat.pow_succ, show (n - 1).succ = n by omega]; exact h.1
  have h2 : mC X (64 * p + (n - 1)) = X p / nM ^ (n - 1) := by rw [mC_at X (by omega), Nat.mod_eq_of_lt h1]
  refine ⟨?_, h2⟩
  rw [h2, Nat.mul_comm]
  exact Nat.lt_mul_div_succ _ (Nat.pow_pos (by decide))
theorem up_sw {X : Nat → Nat} {p x y z : Nat} (h : p ≠ 20) : va_up (va_up (va_up X 20 x) p y) 20 z = va_up (va_up X 20 z) p y := by
  funext i
  unfold va_up
  by_cases h1 : i = 20
  · rw [if_pos h1, if_neg (by omega), if_pos h1]
  · rw [if_neg h1]
    by_cases h2 : i = p
    · rw [if_pos h2, if_pos h2]
    · rw [if_neg h2, if_neg h1, if_neg h2, if_neg h1]
/-! The reference's methods, fifth part. Written by wip/gen/model5.py. -/
section MO5
variable {l : Launch} {D : va_G} {cI cL cQ : ClassId} {z : kZ_T} {sz : Nat} {w : fw_W}
set_option maxHeartbeats 4000000 in
set_option maxRecDepth 100000 in
theorem c_Mo_reaches {b : Nat} {I : Nat → Nat} {K : Nat → Nat → Nat} {S : Nat → Int32} {X : Nat → Nat} (hS : moS cI cL w b I K S (mC X)) (hX : ∀ p, X p < nM ^ 64) {pa pb n h9 : Nat} (ha : pa < 24) (hb2 : pb < 24) (hn : 0 < n) (hnh : n + h9 ≤ 64) (hml9 : ml (X pb) n) : fw_R l yMo_reaches (Cond.code yMo_reaches cMo_reaches 8 (some FieldType.boolean) :: kWs) ({ frames := 0, cells := 0, slots := 0, locals := 0 } : Room) D kCl (kty cI cL cQ) z [.ref b, .int (nI pa), .int (nI pb), .int (nI n), .int (nI h9)] (sz) w (fun v => v = some (.int (nI (if X pb * nM ^ h9 ≤ X pa then 1 else 0)))) := by
  refine fw_ofR (cc := cMo_reaches) (maxL := 8) (ret := (some FieldType.boolean)) (by decide) rfl (Nat.le_of_ble_eq_true rfl) ?_
  intro p e s m args below meth c hx hb hr hts hown hlocks hml hK H ls hH hw hl
  have hW : ∀ w ∈ kWs, w.before args s = true := fun w h => hts w (List.mem_cons_of_mem _ h)
  have hown : s.vm.findClass RMo = some m.cls := hown
  have hl : lv_has ls 8 [(0, .ref b), (1, .int (nI pa)), (2, .int (nI pb)), (3, .int (nI n)), (4, .int (nI h9))] := hl
  have b0 : w b = some (.inr (10, [.int (nI (I 0)), .ref (b + 1), .ref (b + 2), .int (nI (I 3)), .ref (b + 3), .ref (b + 4), .int (nI (I 6)), .int (nI (I 7)), .ref (b + 5), .ref (b + 6), .int (nI (I 10)), .int (nI (I 11)), .int (nI (I 12)), .int (nI (I 13)), .ref (b + 7), .ref (b + 8), .int (nI (I 16)), .int (nI (I 17)), .int (nI (I 18)), .int (nI (I 19))])) := hS.1
  have b1 : w (b + 1) = some (.inl (cL, 1536, .inr (.inl (fun i => lN (mC X i))))) := hS.2.1
  have b2 : w (b + 2) = some (.inl (cI, 24, .inl (S))) := hS.2.2.1
  have b09 := b0
  have b29 := b2
  have vB : nw nM (mC X) (64 * pb) n = X pb := by rw [mC_nw X pb (by omega), Nat.mod_eq_of_lt hml9.1]
  have hP : 0 < nM ^ h9 := Nat.pow_pos (by decide)
  have two : (∀ i, n + h9 ≤ i → i < 64 → mC X (64 * pa + i) = 0) → ∀ (j : Nat), j ≤ n → (∀ i, j ≤ i → i < n → mC X (64 * pa + h9 + i) = mC X (64 * pb + i)) → ∀ (ls : Array Slot), lv_has ls 8 [(5, .int (nI j - nI 1)), (0, .ref b), (1, .int (nI pa)), (2, .int (nI pb)), (3, .int (nI n)), (4, .int (nI h9))] → W p l e ({ frames := 0, cells := 0, slots := 0, locals := 0 } : Room) s m args below meth c H [] 0 0 (MQ below (fw_RQ (fun v => v = some (.int (nI (if X pb * nM ^ h9 ≤ X pa then 1 else 0))))) args s 0 0 (fun _ => False)) (F0 m 43 ls []) := by
    intro hz
    have vA : nw nM (mC X) (64 * pa + h9) n = X pa / nM ^ h9 := by
      rw [← mC_hi (hX pa) (show h9 ≤ 64 by omega)]; exact (nv_cut (show n ≤ 64 - h9 by omega) (fun i h1 h2 => by have h3 := hz (h9 + i) (by omega) (by omega); rw [← Nat.add_assoc] at h3; exact h3)).symm
    intro j
    induction j with
    | zero =>
      intro hj heq ls hl
      refine lv_iload (pc := 43) hx hb dMo_reaches_43 (lv_at hl 0 rfl) ?_
      refine lv_if_lt (pc := 45) (tgt := 104) hx hb dMo_reaches_45 (by decide) (fun _ => ?_) (fun hc => absurd (show nI 0 - nI 1 < 0 by decide) hc)
      refine lv_iconst (pc := 104) (v := (nI 1)) hx hb dMo_reaches_104 (by decide) ?_
      exact fw_zretR (pc := 105) hx hb hr hlocks hH dMo_reaches_105 (by rfl) (by rw [if_pos ((Nat.le_div_iff_mul_le hP).mp (by rw [← vA, ← vB]; exact Nat.le_of_eq (nv_eq (fun i hi => (heq i (Nat.zero_le _) hi).symm))))])
    | succ j ih =>
      intro hj heq ls hl
      rw [show nI (j + 1) - nI 1 = nI j from nI_pred j] at hl
      refine lv_iload (pc := 43) hx hb dMo_reaches_43 (lv_at hl 0 rfl) ?_
      refine lv_if_lt (pc := 45) (tgt := 104) hx hb dMo_reaches_45 (by decide) (fun hc => absurd hc (nI_pos (by omega))) (fun _ => ?_)
      have la := mC_lt24 (X := X) (64 * pa + h9 + j)
      have lb := mC_lt24 (X := X) (64 * pb + j)
      refine lv_aload_n (pc := 48) hx hb dMo_reaches_48 rfl (lv_at hl 1 rfl) ?_
      refine fw_get (pc := 49) (ci := 10) (v := .ref (b + 1)) (C := RMo) (T := TMo) (N := 20) hx hb hW in_Mo hown hK.1 hw b0 rfl 1 (by decide) (hW _ lf_Mo_7) (fun _ h => h) rfl dMo_reaches_49 ?_
      refine lv_bipush (pc := 52) (v := (nI 64)) hx hb dMo_reaches_52 (by decide) ?_
      refine lv_iload_n (pc := 54) hx hb dMo_reaches_54 rfl (lv_at hl 2 rfl) ?_
      refine lv_imul (pc := 55) hx hb dMo_reaches_55 ?_
      rw [show (((nI 64) * nI pa) : Int32) = nI (64 * pa) from (nI_mul 64 pa)]
      refine lv_iload (pc := 56) hx hb dMo_reaches_56 (lv_at hl 0 rfl) ?_
      refine lv_iadd (pc := 58) hx hb dMo_reaches_58 ?_
      rw [show ((nI (64 * pa) + nI j) : Int32) = nI (64 * pa + j) from (nI_add (64 * pa) j)]
      refine lv_iload (pc := 59) hx hb dMo_reaches_59 (lv_at hl 5 rfl) ?_
      refine lv_iadd (pc := 61) hx hb dMo_reaches_61 ?_
      rw [show ((nI (64 * pa + j) + nI h9) : Int32) = nI (64 * pa + h9 + j) from (by rw [nI_add]; congr 1; omega)]
      refine fw_laldN (pc := 62) (x := lN (mC X (64 * pa + h9 + j))) hx hb hK.1 hw 1 b1 rfl (64 * pa + h9 + j) (by omega) (by decide) rfl dMo_reaches_62 ?_
      refine lv_aload_n (pc := 63) hx hb dMo_reaches_63 rfl (lv_at hl 1 rfl) ?_
      refine fw_get (pc := 64) (ci := 10) (v := .ref (b + 1)) (C := RMo) (T := TMo) (N := 20) hx hb hW in_Mo hown hK.1 hw b0 rfl 1 (by decide) (hW _ lf_Mo_7) (fun _ h => h) rfl dMo_reaches_64 ?_
      refine lv_bipush (pc := 67) (v := (nI 64)) hx hb dMo_reaches_67 (by decide) ?_
      refine lv_iload_n (pc := 69) hx hb dMo_reaches_69 rfl (lv_at hl 3 rfl) ?_
      refine lv_imul (pc := 70) hx hb dMo_reaches_70 ?_
      rw [show (((nI 64) * nI pb) : Int32) = nI (64 * pb) from (nI_mul 64 pb)]
      refine lv_iload (pc := 71) hx hb dMo_reaches_71 (lv_at hl 0 rfl) ?_
      refine lv_iadd (pc := 73) hx hb dMo_reaches_73 ?_
      rw [show ((nI (64 * pb) + nI j) : Int32) = nI (64 * pb + j) from (nI_add (64 * pb) j)]
      refine fw_laldN (pc := 74) (x := lN (mC X (64 * pb + j))) hx hb hK.1 hw 1 b1 rfl (64 * pb + j) (by omega) (by decide) rfl dMo_reaches_74 ?_
      refine lv_lsub (pc := 75) hx hb dMo_reaches_75 ?_
      refine lv_lstore (pc := 76) (lv' := [(6, .long ((lN (mC X (64 * pa + h9 + j)) - lN (mC X (64 * pb + j))))), (5, .int (nI j)), (0, .ref b), (1, .int (nI pa)), (2, .int (nI pb)), (3, .int (nI n)), (4, .int (nI h9))]) hx hb dMo_reaches_76 hl (by decide) rfl (fun ls hl => ?_)
      refine lv_lload (pc := 78) hx hb dMo_reaches_78 (lv_at hl 0 rfl) ?_
      refine lv_lconst (pc := 80) (v := lN 0) hx hb dMo_reaches_80 (by decide) ?_
      refine W.lcmp (pc := 81) hx hb dMo_reaches_81 ?_
      refine lv_if_eq (pc := 82) (tgt := 98) hx hb dMo_reaches_82 (by decide) (fun hc => ?_) (fun hc => ?_)
      · have he9 : mC X (64 * pa + h9 + j) = mC X (64 * pb + j) := (ls_eq (by omega) (by omega)).mp ((lg_cmp_eq _ _).mp hc)
        refine lv_iinc (pc := 98) (lv' := [(5, .int (nI j - nI 1)), (6, .long ((lN (mC X (64 * pa + h9 + j)) - lN (mC X (64 * pb + j))))), (0, .ref b), (1, .int (nI pa)), (2, .int (nI pb)), (3, .int (nI n)), (4, .int (nI h9))]) hx hb dMo_reaches_98 hl (k := 1) rfl ((by rw [Int32.sub_eq_add_neg]; rfl)) (by decide) rfl (fun ls hl => ?_)
        refine lv_goto (pc := 101) (tgt := 43) hx hb dMo_reaches_101 (by decide) ?_
        exact ih (by omega) (fun i h1 h2 => by (rcases Nat.eq_or_lt_of_le h1 with rfl | h3); exact he9; exact heq i h3 h2) ls (lv_sub hl [0, 2, 3, 4, 5, 6] rfl)
      · have hne : mC X (64 * pa + h9 + j) ≠ mC X (64 * pb + j) := fun h8 => hc ((lg_cmp_eq _ _).mpr ((ls_eq (by omega) (by omega)).mpr h8))
        refine lv_lload (pc := 85) hx hb dMo_reaches_85 (lv_at hl 0 rfl) ?_
        refine lv_lconst (pc := 87) (v := lN 0) hx hb dMo_reaches_87 (by decide) ?_
        refine W.lcmp (pc := 88) hx hb dMo_reaches_88 ?_
        refine lv_if_le (pc := 89) (tgt := 96) hx hb dMo_reaches_89 (by decide) (fun hd => ?_) (fun hd => ?_)
        · have hlt : mC X (64 * pa + h9 + j) < mC X (64 * pb + j) := by (have h8 : ¬ mC X (64 * pb + j) < mC X (64 * pa + h9 + j) := fun h7 => absurd ((ls_gt (by omega) (by omega)).mpr h7) (Int64.not_lt.mpr ((lg_cmp_le _ _).mp hd))); omega
          refine lv_iconst (pc := 96) (v := (nI 0)) hx hb dMo_reaches_96 (by decide) ?_
          exact fw_zretR (pc := 97) hx hb hr hlocks hH dMo_reaches_97 (by rfl) (by rw [if_neg (fun h8 => absurd ((Nat.le_div_iff_mul_le hP).mpr h8) (Nat.not_le.mpr (by rw [← vA, ← vB]; exact nv_less (b := nM) (fun i _ => mC_lt X _) (show j < n by omega) hlt (fun i h1 h2 => heq i h1 h2))))])
        · have hgt : mC X (64 * pb + j) < mC X (64 * pa + h9 + j) := (ls_gt (by omega) (by omega)).mp (Int64.not_le.mp (fun h8 => hd ((lg_cmp_le _ _).mpr h8)))
          refine lv_iconst (pc := 92) (v := (nI 1)) hx hb dMo_reaches_92 (by decide) ?_
          refine lv_goto (pc := 93) (tgt := 97) hx hb dMo_reaches_93 (by decide) ?_
          exact fw_zretR (pc := 97) hx hb hr hlocks hH dMo_reaches_97 (by rfl) (by rw [if_pos ((Nat.le_div_iff_mul_le hP).mp (by rw [← vA, ← vB]; exact Nat.le_of_lt (nv_less (b := nM) (fun i _ => mC_lt X _) (show j < n by omega) hgt (fun i h1 h2 => (heq i h1 h2).symm))))])
  have one : ∀ (d : Nat), n + h9 + d ≤ 64 → (∀ i, n + h9 + d ≤ i → i < 64 → mC X (64 * pa + i) = 0) → ∀ (ls : Array Slot), lv_has ls 8 [(5, .int (nI (n + h9 + d - 1))), (0, .ref b), (1, .int (nI pa)), (2, .int (nI pb)), (3, .int (nI n)), (4, .int (nI h9))] → W p l e ({ frames := 0, cells := 0, slots := 0, locals := 0 } : Room) s m args below meth c H [] 0 0 (MQ below (fw_RQ (fun v => v = some (.int (nI (if X pb * nM ^ h9 ≤ X pa then 1 else 0))))) args s 0 0 (fun _ => False)) (F0 m 4 ls []) := by
    intro d
    induction d with
    | zero =>
      intro hd9 hz ls hl
      rw [Nat.add_zero] at hl
      refine lv_iload (pc := 4) hx hb dMo_reaches_4 (lv_at hl 0 rfl) ?_
      refine lv_iload_n (pc := 6) hx hb dMo_reaches_6 rfl (lv_at hl 4 rfl) ?_
      refine lv_iload (pc := 7) hx hb dMo_reaches_7 (lv_at hl 5 rfl) ?_
      refine lv_iadd (pc := 9) hx hb dMo_reaches_9 ?_
      rw [show ((nI n + nI h9) : Int32) = nI (n + h9) from (nI_add n h9)]
      refine lv_icmp_lt (pc := 10) (tgt := 38) hx hb dMo_reaches_10 (by decide) (fun _ => ?_) (fun hc => absurd ((nI_ltI (by omega) (by omega)).mpr (show n + h9 - 1 < n + h9 by omega)) hc)
      refine lv_iload_n (pc := 38) hx hb dMo_reaches_38 rfl (lv_at hl 4 rfl) ?_
      refine lv_iconst (pc := 39) (v := (nI 1)) hx hb dMo_reaches_39 (by decide) ?_
      refine lv_isub (pc := 40) hx hb dMo_reaches_40 ?_
      refine lv_istore (pc := 41) (lv' := [(5, .int ((nI n - (nI 1)))), (0, .ref b), (1, .int (nI pa)), (2, .int (nI pb)), (3, .int (nI n)), (4, .int (nI h9))]) hx hb dMo_reaches_41 hl (by decide) rfl (fun ls hl => ?_)
      exact two (fun i h1 h2 => hz i (by omega) h2) n (Nat.le_refl n) (fun i h1 h2 => absurd h2 (by omega)) ls (lv_sub hl [0, 1, 2, 3, 4, 5] rfl)
    | succ d ih =>
      intro hd9 hz ls hl
      rw [show n + h9 + (d + 1) - 1 = n + h9 + d by omega] at hl
      refine lv_iload (pc := 4) hx hb dMo_reaches_4 (lv_at hl 0 rfl) ?_
      refine lv_iload_n (pc := 6) hx hb dMo_reaches_6 rfl (lv_at hl 4 rfl) ?_
      refine lv_iload (pc := 7) hx hb dMo_reaches_7 (lv_at hl 5 rfl) ?_
      refine lv_iadd (pc := 9) hx hb dMo_reaches_9 ?_
      rw [show ((nI n + nI h9) : Int32) = nI (n + h9) from (nI_add n h9)]
      refine lv_icmp_lt (pc := 10) (tgt := 38) hx hb dMo_reaches_10 (by decide) (fun hc => absurd hc (nI_nlt (show n + h9 ≤ n + h9 + d by omega) (by omega))) (fun _ => ?_)
      have la := mC_lt24 (X := X) (64 * pa + (n + h9 + d))
      refine lv_aload_n (pc := 13) hx hb dMo_reaches_13 rfl (lv_at hl 1 rfl) ?_
      refine fw_get (pc := 14) (ci := 10) (v := .ref (b + 1)) (C := RMo) (T := TMo) (N := 20) hx hb hW in_Mo hown hK.1 hw b0 rfl 1 (by decide) (hW _ lf_Mo_7) (fun _ h => h) rfl dMo_reaches_14 ?_
      refine lv_bipush (pc := 17) (v := (nI 64)) hx hb dMo_reaches_17 (by decide) ?_
      refine lv_iload_n (pc := 19) hx hb dMo_reaches_19 rfl (lv_at hl 2 rfl) ?_
      refine lv_imul (pc := 20) hx hb dMo_reaches_20 ?_
      rw [show (((nI 64) * nI pa) : Int32) = nI (64 * pa) from (nI_mul 64 pa)]
      refine lv_iload (pc := 21) hx hb dMo_reaches_21 (lv_at hl 0 rfl) ?_
      refine lv_iadd (pc := 23) hx hb dMo_reaches_23 ?_
      rw [show ((nI (64 * pa) + nI (n + h9 + d)) : Int32) = nI (64 * pa + (n + h9 + d)) from (nI_add (64 * pa) (n + h9 + d))]
      refine fw_laldN (pc := 24) (x := lN (mC X (64 * pa + (n + h9 + d)))) hx hb hK.1 hw 1 b1 rfl (64 * pa + (n + h9 + d)) (by omega) (by decide) rfl dMo_reaches_24 ?_
      refine lv_lconst (pc := 25) (v := lN 0) hx hb dMo_reaches_25 (by decide) ?_
      refine W.lcmp (pc := 26) hx hb dMo_reaches_26 ?_
      refine lv_if_le (pc := 27) (tgt := 32) hx hb dMo_reaches_27 (by decide) (fun hc => ?_) (fun hc => ?_)
      · have hz9 : mC X (64 * pa + (n + h9 + d)) = 0 := lN_le00 (by omega) ((lg_cmp_le _ _).mp hc)
        refine lv_iinc (pc := 32) (lv' := [(5, .int (nI (n + h9 + d - 1))), (0, .ref b), (1, .int (nI pa)), (2, .int (nI pb)), (3, .int (nI n)), (4, .int (nI h9))]) hx hb dMo_reaches_32 hl (k := 0) rfl ((by rw [show Int32.ofInt (-1) = -(nI 1) by decide, ← Int32.sub_eq_add_neg]; exact nI_subL (by omega))) (by decide) rfl (fun ls hl => ?_)
        refine lv_goto (pc := 35) (tgt := 4) hx hb dMo_reaches_35 (by decide) ?_
        exact ih (by omega) (fun i h1 h2 => by (rcases Nat.eq_or_lt_of_le h1 with rfl | h3); exact hz9; exact hz i h3 h2) ls (lv_sub hl [0, 1, 2, 3, 4, 5] rfl)
      · have hgt : mC X (64 * pa + (n + h9 + d)) ≠ 0 := fun h8 => hc (by rw [h8]; decide)
        refine lv_iconst (pc := 30) (v := (nI 1)) hx hb dMo_reaches_30 (by decide) ?_
        have hge := mC_ge (X := X) (p := pa) (n := n + h9 + d) (by omega) hgt
        exact fw_zretR (pc := 31) hx hb hr hlocks hH dMo_reaches_31 (by rfl) (by rw [if_pos (Nat.le_of_lt (Nat.lt_of_lt_of_le (by rw [Nat.pow_add]; exact Nat.mul_lt_mul_of_pos_right hml9.1 hP) (Nat.le_trans (Nat.pow_le_pow_right (by decide) (show n + h9 ≤ n + h9 + d by omega)) hge)))])
  refine lv_bipush (pc := 0) (v := (nI 63)) hx hb dMo_reaches_0 (by decide) ?_
  rw [show ((nI 63) : Int32) = nI (n + h9 + (64 - n - h9) - 1) from (by congr 1; omega)]
  refine lv_istore (pc := 2) (lv' := [(5, .int (nI (n + h9 + (64 - n - h9) - 1))), (0, .ref b), (1, .int (nI pa)), (2, .int (nI pb)), (3, .int (nI n)), (4, .int (nI h9))]) hx hb dMo_reaches_2 hl (by decide) rfl (fun ls hl => ?_)
  exact one (64 - n - h9) (by omega) (fun i h1 h2 => absurd h2 (by omega)) ls (lv_sub hl [0, 1, 2, 3, 4, 5] rfl)

set_option maxHeartbeats 4000000 in
set_option maxRecDepth 100000 in
theorem c_Mo_divide {b : Nat} {I : Nat → Nat} {K : Nat → Nat → Nat} {S : Nat → Int32} {X : Nat → Nat} (hS : moS cI cL w b I K S (mC X)) (hX : ∀ p, X p < nM ^ 64) {pa pb : Nat} (ha : pa < 24) (ha20 : pa ≠ 20) (hb2 : pb < 24) (hb20 : pb ≠ 20) (hne : pa ≠ pb) (hpos : 0 < X pb) : fw_C l yMo_divide (Cond.code yMo_divide cMo_divide 11 none :: kWs) ({ frames := 1, cells := 0, slots := 0, locals := 30 } : Room) D kCl (kty cI cL cQ) z [.ref b, .int (nI pa), .int (nI pb)] (sz) w 0 0 (fun v w' => v = none ∧ moS cI cL w' b (I) K (va_up S 20 (nI 0)) (mC (va_up (va_up X 20 (X pa / X pb)) pa (X pa % X pb))) ∧ ∀ q, q < b ∨ b + 9 ≤ q → w' q = w q) := by
  refine fw_ofW (cc := cMo_divide) (maxL := 11) (ret := none) (by decide) rfl (Nat.le_of_ble_eq_true rfl) ?_
  intro p e s m args below meth c hx hb hr hts hown hlocks hname hml hK H ls hw hl
  have hW : ∀ w ∈ kWs, w.before args s = true := fun w h => hts w (List.mem_cons_of_mem _ h)
  have hown : s.vm.findClass RMo = some m.cls := hown
  have hl : lv_has ls 11 [(0, .ref b), (1, .int (nI pa)), (2, .int (nI pb))] := hl
  have b0 : w b = some (.inr (10, [.int (nI (I 0)), .ref (b + 1), .ref (b + 2), .int (nI (I 3)), .ref (b + 3), .ref (b + 4), .int (nI (I 6)), .int (nI (I 7)), .ref (b + 5), .ref (b + 6), .int (nI (I 10)), .int (nI (I 11)), .int (nI (I 12)), .int (nI (I 13)), .ref (b + 7), .ref (b + 8), .int (nI (I 16)), .int (nI (I 17)), .int (nI (I 18)), .int (nI (I 19))])) := hS.1
  have b1 : w (b + 1) = some (.inl (cL, 1536, .inr (.inl (fun i => lN (mC X i))))) := hS.2.1
  have b2 : w (b + 2) = some (.inl (cI, 24, .inl (S))) := hS.2.2.1
  have b09 := b0
  have b29 := b2
  refine lv_aload_n (pc := 0) hx hb dMo_divide_0 rfl (lv_at hl 0 rfl) ?_
  refine lv_bipush (pc := 1) (v := (nI 20)) hx hb dMo_divide_1 (by decide) ?_
  refine fw_cV (pc := 3) (As := [.int (nI 20)]) (rest := []) ⟨hx, hb, hml, hown, hW⟩ (c_Mo_clear (p0 := 20) hS (by decide)) (cwV 1 hW (kw_V lm_Mo_125 im_Mo_clear se_Mo_clear ini_Mo cd_Mo_clear) rfl rfl rfl (by decide +kernel) ⟨Nat.le_of_ble_eq_true rfl, Nat.le_of_ble_eq_true rfl⟩) hK hw b0 rfl rfl hl.1 rfl (Nat.le_of_ble_eq_true rfl) dMo_divide_3 ⟨Nat.le_of_ble_eq_true rfl, Nat.le_of_ble_eq_true rfl⟩ (fun v w51 H locs hq hw => ?_)
  obtain ⟨rfl, hS1, hc9⟩ := hq
  rw [clr_all] at hS1
  obtain ⟨A0, hA0⟩ : ∃ A0, A0 = X pa := ⟨_, rfl⟩
  obtain ⟨B, hBe⟩ : ∃ B, B = X pb := ⟨_, rfl⟩
  rw [← hBe] at hpos
  have hA64 : A0 < nM ^ 64 := by rw [hA0]; exact hX pa
  have hS2 : moS cI cL w51 b I K (va_up S 20 (nI 0)) (mC (va_up (va_up X 20 0) pa A0)) := by rw [show va_up (va_up X 20 0) pa A0 = va_up X 20 0 from by (funext i; unfold va_up; split; (next h9 => rw [if_neg (by omega), h9, hA0]); rfl)]; exact hS1
  have hXC : ∀ Q A, Q ≤ A0 → A ≤ A0 → ∀ p, (va_up (va_up X 20 Q) pa A) p < nM ^ 64 := fun Q A h1 h2 p => by (unfold va_up; split; exact Nat.lt_of_le_of_lt h2 hA64; split; exact Nat.lt_of_le_of_lt h1 hA64; exact hX p)
  have hCa : ∀ Q A, (va_up (va_up X 20 Q) pa A) pa = A := fun Q A => up_s
  have hCb : ∀ Q A, (va_up (va_up X 20 Q) pa A) pb = B := fun Q A => by rw [up_o (fun h => hne h.symm), up_o hb20, hBe]
  have hCq : ∀ Q A, (va_up (va_up X 20 Q) pa A) 20 = Q := fun Q A => by rw [up_o (fun h => ha20 h.symm), up_s]
  have b0 : w51 b = some (.inr (10, [.int (nI (I 0)), .ref (b + 1), .ref (b + 2), .int (nI (I 3)), .ref (b + 3), .ref (b + 4), .int (nI (I 6)), .int (nI (I 7)), .ref (b + 5), .ref (b + 6), .int (nI (I 10)), .int (nI (I 11)), .int (nI (I 12)), .int (nI (I 13)), .ref (b + 7), .ref (b + 8), .int (nI (I 16)), .int (nI (I 17)), .int (nI (I 18)), .int (nI (I 19))])) := hS2.1
  have b1 : w51 (b + 1) = some (.inl (cL, 1536, .inr (.inl (fun i => lN (mC (va_up (va_up X 20 0) pa A0) i))))) := hS2.2.1
  refine W.eq (g2 := F0 m 6 ls []) rfl ?_
  have hX2 := hXC 0 A0 (Nat.zero_le _) (Nat.le_refl _)
  refine lv_aload_n (pc := 6) hx hb dMo_divide_6 rfl (lv_at hl 0 rfl) ?_
  refine lv_iload_n (pc := 7) hx hb dMo_divide_7 rfl (lv_at hl 2 rfl) ?_
  refine fw_cVR (pc := 8) (As := [.int (nI pb)]) (rest := []) ⟨hx, hb, hml, hown, hW⟩ (c_Mo_limbs hS2 hX2 hb2) (cwV 1 hW (kw_V lm_Mo_128 im_Mo_limbs se_Mo_limbs ini_Mo cd_Mo_limbs) rfl rfl rfl (by decide +kernel) ⟨Nat.le_of_ble_eq_true rfl, Nat.le_of_ble_eq_true rfl⟩) hK hw b0 rfl rfl hl.1 rfl (Nat.le_of_ble_eq_true rfl) dMo_divide_8 ⟨Nat.le_of_ble_eq_true rfl, Nat.le_of_ble_eq_true rfl⟩ (fun v hq => ?_)
  obtain ⟨n, rfl, hn, hln⟩ := hq
  refine W.eq (g2 := F0 m 11 ls [.int (nI n)]) rfl ?_
  have hn0 : 0 < n := Nat.pos_of_ne_zero fun h9 => by rw [h9, hCb, ml, Nat.pow_zero] at hln; have := hln.1; omega
  obtain ⟨hbt1, hbt2⟩ := mC_b hn0 hn hln
  rw [hCb] at hbt1 hln
  obtain ⟨bt, hbt⟩ : ∃ bt, bt = mC (va_up (va_up X 20 0) pa A0) (64 * pb + (n - 1)) := ⟨_, rfl⟩
  have hbl9 : bt < 16777216 := by rw [hbt]; exact mC_lt24 _
  rw [← hbt] at hbt1
  refine lv_istore_n (pc := 11) (lv' := [(3, .int (nI n)), (0, .ref b), (1, .int (nI pa)), (2, .int (nI pb))]) hx hb dMo_divide_11 rfl hl (by decide) rfl (fun ls hl => ?_)
  refine lv_aload_n (pc := 12) hx hb dMo_divide_12 rfl (lv_at hl 1 rfl) ?_
  refine fw_get (pc := 13) (ci := 10) (v := .ref (b + 1)) (C := RMo) (T := TMo) (N := 20) hx hb hW in_Mo hown hK.1 hw b0 rfl 1 (by decide) (hW _ lf_Mo_7) (fun _ h => h) rfl dMo_divide_13 ?_
  refine lv_bipush (pc := 16) (v := (nI 64)) hx hb dMo_divide_16 (by decide) ?_
  refine lv_iload_n (pc := 18) hx hb dMo_divide_18 rfl (lv_at hl 3 rfl) ?_
  refine lv_imul (pc := 19) hx hb dMo_divide_19 ?_
  rw [show (((nI 64) * nI pb) : Int32) = nI (64 * pb) from (nI_mul 64 pb)]
  refine lv_iload_n (pc := 20) hx hb dMo_divide_20 rfl (lv_at hl 0 rfl) ?_
  refine lv_iadd (pc := 21) hx hb dMo_divide_21 ?_
  rw [show ((nI (64 * pb) + nI n) : Int32) = nI (64 * pb + n) from (nI_add (64 * pb) n)]
  refine lv_iconst (pc := 22) (v := (nI 1)) hx hb dMo_divide_22 (by decide) ?_
  refine lv_isub (pc := 23) hx hb dMo_divide_23 ?_
  rw [show ((nI (64 * pb + n) - (nI 1)) : Int32) = nI (64 * pb + (n - 1)) from (by rw [nI_subL (by omega)]; congr 1; omega)]
  refine fw_laldN (pc := 24) (x := lN (mC (va_up (va_up X 20 0) pa A0) (64 * pb + (n - 1)))) hx hb hK.1 hw 1 b1 rfl (64 * pb + (n - 1)) (by omega) (by decide) rfl dMo_divide_24 ?_
  rw [show (lN (mC (va_up (va_up X 20 0) pa A0) (64 * pb + (n - 1))) : Int64) = lN bt from (by rw [hbt])]
  refine lv_lconst (pc := 25) (v := lN 1) hx hb dMo_divide_25 (by decide) ?_
  refine lv_ladd (pc := 26) hx hb dMo_divide_26 ?_
  rw [show ((lN bt + (lN 1)) : Int64) = lN (bt + 1) from (lN_add _ _)]
  refine lv_lstore (pc := 27) (lv' := [(4, .long (lN (bt + 1))), (3, .int (nI n)), (0, .ref b), (1, .int (nI pa)), (2, .int (nI pb))]) hx hb dMo_divide_27 hl (by decide) rfl (fun ls hl => ?_)
  refine lv_aload_n (pc := 29) hx hb dMo_divide_29 rfl (lv_at hl 2 rfl) ?_
  refine lv_iload_n (pc := 30) hx hb dMo_divide_30 rfl (lv_at hl 3 rfl) ?_
  refine fw_cVR (pc := 31) (As := [.int (nI pa)]) (rest := []) ⟨hx, hb, hml, hown, hW⟩ (c_Mo_limbs hS2 hX2 ha) (cwV 1 hW (kw_V lm_Mo_128 im_Mo_limbs se_Mo_limbs ini_Mo cd_Mo_limbs) rfl rfl rfl (by decide +kernel) ⟨Nat.le_of_ble_eq_true rfl, Nat.le_of_ble_eq_true rfl⟩) hK hw b0 rfl rfl hl.1 rfl (Nat.le_of_ble_eq_true rfl) dMo_divide_31 ⟨Nat.le_of_ble_eq_true rfl, Nat.le_of_ble_eq_true rfl⟩ (fun v hq => ?_)
  obtain ⟨la, rfl, hla, hlla⟩ := hq
  refine W.eq (g2 := F0 m 34 ls [.int (nI la)]) rfl ?_
  rw [hCa] at hlla
  refine lv_iload_n (pc := 34) hx hb dMo_divide_34 rfl (lv_at hl 1 rfl) ?_
  refine lv_isub (pc := 35) hx hb dMo_divide_35 ?_
  have loop : ∀ (k1 : Nat), k1 + n ≤ 65 → ∀ (A Q : Nat), Q * B + A = A0 → (∃ Q2, Q = Q2 * nM ^ k1) → A < B * nM ^ k1 → ∀ (w1 : fw_W) (H : Heap) (locs : List Loc) (ls : Array Slot), fw_H D kCl (fw_A w (sz)) s.heap w1 (sz) H locs → lv_has ls 11 [(6, .int (nI k1 - nI 1)), (4, .long (lN (bt + 1))), (3, .int (nI n)), (0, .ref b), (1, .int (nI pa)), (2, .int (nI pb))] → moS cI cL w1 b I K (va_up S 20 (nI 0)) (mC (va_up (va_up X 20 Q) pa A)) → (∀ q, q < b ∨ b + 9 ≤ q → w1 q = w q) → W p l e ({ frames := 1, cells := 0, slots := 0, locals := 30 } : Room) s m args below meth c H locs 0 0 (MQ below (fw_Q D kCl w (sz) 0 (fun v w' => v = none ∧ moS cI cL w' b (I) K (va_up S 20 (nI 0)) (mC (va_up (va_up X 20 (X pa / X pb)) pa (X pa % X pb))) ∧ ∀ q, q < b ∨ b + 9 ≤ q → w' q = w q)) args s 0 0 (fw_A w (sz))) (F0 m 38 ls []) := by
    intro k1
    induction k1 with
    | zero =>
      intro hk A Q hQA hQ2 hAl w1 H locs ls hw hl hM ho
      have b0 : w1 b = some (.inr (10, [.int (nI (I 0)), .ref (b + 1), .ref (b + 2), .int (nI (I 3)), .ref (b + 3), .ref (b + 4), .int (nI (I 6)), .int (nI (I 7)), .ref (b + 5), .ref (b + 6), .int (nI (I 10)), .int (nI (I 11)), .int (nI (I 12)), .int (nI (I 13)), .ref (b + 7), .ref (b + 8), .int (nI (I 16)), .int (nI (I 17)), .int (nI (I 18)), .int (nI (I 19))])) := hM.1
      have b1 : w1 (b + 1) = some (.inl (cL, 1536, .inr (.inl (fun i => lN (mC (va_up (va_up X 20 Q) pa A) i))))) := hM.2.1
      refine lv_iload (pc := 38) hx hb dMo_divide_38 (lv_at hl 0 rfl) ?_
      refine lv_if_lt (pc := 40) (tgt := 161) hx hb dMo_divide_40 (by decide) (fun _ => ?_) (fun hc => absurd (show nI 0 - nI 1 < 0 by decide) hc)
      rw [Nat.pow_zero, Nat.mul_one] at hAl
      obtain ⟨e1, e2⟩ := dq_end hQA hAl
      rw [e1, e2, hA0, hBe] at hM
      exact fw_vret (pc := 161) hx hb hr hlocks hw dMo_divide_161 ⟨rfl, hM, ho⟩
    | succ k ih =>
      intro hk A Q hQA hQ2 hAl w1 H locs ls hw hl hM ho
      rw [show nI (k + 1) - nI 1 = nI k from nI_pred k] at hl
      have hP : 0 < nM ^ k := Nat.pow_pos (by decide)
      have inner : ∀ (N A Q cc : Nat), A ≤ N → Q * B + A = A0 → (∃ Q2, Q = Q2 * nM ^ (k + 1) + cc * nM ^ k) → A + cc * B * nM ^ k < B * nM ^ (k + 1) → ∀ (w1 : fw_W) (H : Heap) (locs : List Loc) (ls : Array Slot), fw_H D kCl (fw_A w (sz)) s.heap w1 (sz) H locs → lv_has ls 11 [(6, .int (nI k)), (4, .long (lN (bt + 1))), (3, .int (nI n)), (0, .ref b), (1, .int (nI pa)), (2, .int (nI pb))] → moS cI cL w1 b I K (va_up S 20 (nI 0)) (mC (va_up (va_up X 20 Q) pa A)) → (∀ q, q < b ∨ b + 9 ≤ q → w1 q = w q) → W p l e ({ frames := 1, cells := 0, slots := 0, locals := 30 } : Room) s m args below meth c H locs 0 0 (MQ below (fw_Q D kCl w (sz) 0 (fun v w' => v = none ∧ moS cI cL w' b (I) K (va_up S 20 (nI 0)) (mC (va_up (va_up X 20 (X pa / X pb)) pa (X pa % X pb))) ∧ ∀ q, q < b ∨ b + 9 ≤ q → w' q = w q)) args s 0 0 (fw_A w (sz))) (F0 m 43 ls []) := by
        intro N
        induction N with
        | zero =>
          intro A Q cc hAN hQA hQ2 hAl w1 H locs ls hw hl hM ho
          have b0 : w1 b = some (.inr (10, [.int (nI (I 0)), .ref (b + 1), .ref (b + 2), .int (nI (I 3)), .ref (b + 3), .ref (b + 4), .int (nI (I 6)), .int (nI (I 7)), .ref (b + 5), .ref (b + 6), .int (nI (I 10)), .int (nI (I 11)), .int (nI (I 12)), .int (nI (I 13)), .ref (b + 7), .ref (b + 8), .int (nI (I 16)), .int (nI (I 17)), .int (nI (I 18)), .int (nI (I 19))])) := hM.1
          have b1 : w1 (b + 1) = some (.inl (cL, 1536, .inr (.inl (fun i => lN (mC (va_up (va_up X 20 Q) pa A) i))))) := hM.2.1
          have hQle : Q ≤ A0 := by (have h8 : Q * 1 ≤ Q * B := Nat.mul_le_mul_left _ hpos); omega
          have hXc := hXC Q A hQle (by omega)
          refine lv_aload_n (pc := 43) hx hb dMo_divide_43 rfl (lv_at hl 3 rfl) ?_
          refine lv_iload_n (pc := 44) hx hb dMo_divide_44 rfl (lv_at hl 4 rfl) ?_
          refine lv_iload_n (pc := 45) hx hb dMo_divide_45 rfl (lv_at hl 5 rfl) ?_
          refine lv_iload_n (pc := 46) hx hb dMo_divide_46 rfl (lv_at hl 2 rfl) ?_
          refine lv_iload (pc := 47) hx hb dMo_divide_47 (lv_at hl 0 rfl) ?_
          refine fw_cVR (pc := 49) (As := [.int (nI pa), .int (nI pb), .int (nI n), .int (nI k)]) (rest := []) ⟨hx, hb, hml, hown, hW⟩ (c_Mo_reaches (n := n) (h9 := k) hM hXc ha hb2 hn0 (by omega) (by rw [hCb]; exact hln)) (cwV 4 hW (kw_V lm_Mo_131 im_Mo_reaches se_Mo_reaches ini_Mo cd_Mo_reaches) rfl rfl rfl (by decide +kernel) ⟨Nat.le_of_ble_eq_true rfl, Nat.le_of_ble_eq_true rfl⟩) hK hw b0 rfl rfl hl.1 rfl (Nat.le_of_ble_eq_true rfl) dMo_divide_49 ⟨Nat.le_of_ble_eq_true rfl, Nat.le_of_ble_eq_true rfl⟩ (fun v hq => ?_)
          rw [hCa, hCb] at hq
          by_cases hre : B * nM ^ k ≤ A
          · subst hq
            rw [if_pos hre]
            refine W.eq (g2 := F0 m 52 ls [.int (nI 1)]) rfl ?_
            refine lv_if_eq (pc := 52) (tgt := 155) hx hb dMo_divide_52 (by decide) (fun hc => absurd hc (show ¬ nI 1 = 0 by decide)) (fun _ => ?_)
            exact absurd (show 0 < A from Nat.lt_of_lt_of_le (Nat.mul_pos hpos hP) hre) (by omega)
          · subst hq
            rw [if_neg hre]
            refine W.eq (g2 := F0 m 52 ls [.int (nI 0)]) rfl ?_
            refine lv_if_eq (pc := 52) (tgt := 155) hx hb dMo_divide_52 (by decide) (fun _ => ?_) (fun hc => absurd (show nI 0 = 0 by decide) hc)
            refine lv_iinc (pc := 155) (lv' := [(6, .int (nI k - nI 1)), (4, .long (lN (bt + 1))), (3, .int (nI n)), (0, .ref b), (1, .int (nI pa)), (2, .int (nI pb))]) hx hb dMo_divide_155 hl (k := 0) rfl ((by rw [Int32.sub_eq_add_neg]; rfl)) (by decide) rfl (fun ls hl => ?_)
            refine lv_goto (pc := 158) (tgt := 38) hx hb dMo_divide_158 (by decide) ?_
            exact ih (by omega) A Q hQA (by obtain ⟨Q2, h8⟩ := hQ2; exact ⟨Q2 * nM + cc, by rw [h8, Nat.pow_succ, Nat.add_mul]; congr 1; rw [Nat.mul_assoc, Nat.mul_comm nM]⟩) (Nat.lt_of_not_le hre) _ H locs ls hw (lv_sub hl [0, 1, 2, 3, 4, 5] rfl) hM ho
        | succ N ihN =>
          intro A Q cc hAN hQA hQ2 hAl w1 H locs ls hw hl hM ho
          have b0 : w1 b = some (.inr (10, [.int (nI (I 0)), .ref (b + 1), .ref (b + 2), .int (nI (I 3)), .ref (b + 3), .ref (b + 4), .int (nI (I 6)), .int (nI (I 7)), .ref (b + 5), .ref (b + 6), .int (nI (I 10)), .int (nI (I 11)), .int (nI (I 12)), .int (nI (I 13)), .ref (b + 7), .ref (b + 8), .int (nI (I 16)), .int (nI (I 17)), .int (nI (I 18)), .int (nI (I 19))])) := hM.1
          have b1 : w1 (b + 1) = some (.inl (cL, 1536, .inr (.inl (fun i => lN (mC (va_up (va_up X 20 Q) pa A) i))))) := hM.2.1
          have hQle : Q ≤ A0 := by (have h8 : Q * 1 ≤ Q * B := Nat.mul_le_mul_left _ hpos); omega
          have hXc := hXC Q A hQle (by omega)
          refine lv_aload_n (pc := 43) hx hb dMo_divide_43 rfl (lv_at hl 3 rfl) ?_
          refine lv_iload_n (pc := 44) hx hb dMo_divide_44 rfl (lv_at hl 4 rfl) ?_
          refine lv_iload_n (pc := 45) hx hb dMo_divide_45 rfl (lv_at hl 5 rfl) ?_
          refine lv_iload_n (pc := 46) hx hb dMo_divide_46 rfl (lv_at hl 2 rfl) ?_
          refine lv_iload (pc := 47) hx hb dMo_divide_47 (lv_at hl 0 rfl) ?_
          refine fw_cVR (pc := 49) (As := [.int (nI pa), .int (nI pb), .int (nI n), .int (nI k)]) (rest := []) ⟨hx, hb, hml, hown, hW⟩ (c_Mo_reaches (n := n) (h9 := k) hM hXc ha hb2 hn0 (by omega) (by rw [hCb]; exact hln)) (cwV 4 hW (kw_V lm_Mo_131 im_Mo_reaches se_Mo_reaches ini_Mo cd_Mo_reaches) rfl rfl rfl (by decide +kernel) ⟨Nat.le_of_ble_eq_true rfl, Nat.le_of_ble_eq_true rfl⟩) hK hw b0 rfl rfl hl.1 rfl (Nat.le_of_ble_eq_true rfl) dMo_divide_49 ⟨Nat.le_of_ble_eq_true rfl, Nat.le_of_ble_eq_true rfl⟩ (fun v hq => ?_)
          rw [hCa, hCb] at hq
          by_cases hre : B * nM ^ k ≤ A
          · subst hq
            rw [if_pos hre]
            refine W.eq (g2 := F0 m 52 ls [.int (nI 1)]) rfl ?_
            refine lv_if_eq (pc := 52) (tgt := 155) hx hb dMo_divide_52 (by decide) (fun hc => absurd hc (show ¬ nI 1 = 0 by decide)) (fun _ => ?_)
            have hAk : A < B * nM ^ (k + 1) := by omega
            have htop : A / nM ^ (k + n) < nM := by
              rw [Nat.div_lt_iff_lt_mul (Nat.pow_pos (by decide)), Nat.mul_comm, ← Nat.pow_succ]
              refine Nat.lt_of_lt_of_le hAk ?_
              rw [show (k + n).succ = n + (k + 1) by omega, Nat.pow_add nM n (k + 1)]; exact Nat.mul_le_mul_right _ (Nat.le_of_lt hln.1)
            have htop2 : A / nM ^ (k + n) < 16777216 := htop
            obtain ⟨tw, htw⟩ : ∃ tw, tw = A / nM ^ (k + n) * 16777216 := ⟨_, rfl⟩
            obtain ⟨tp, htp⟩ : ∃ tp, tp = A / nM ^ (k + n - 1) := ⟨_, rfl⟩
            have htd : tp = tw + A / nM ^ (k + n - 1) % nM := by (have h8 := dq_top (M := nM) (x := A) (j := k + n - 1)); rw [show k + n - 1 + 1 = k + n by omega, ← htp] at h8; rw [htw, ← htp]; exact h8
            have hdl : A / nM ^ (k + n - 1) % nM < 16777216 := Nat.mod_lt _ (by decide)
            obtain ⟨q0, hq0⟩ : ∃ q0, q0 = tp / (bt + 1) := ⟨_, rfl⟩
            obtain ⟨qq, hqq⟩ : ∃ qq, qq = (if q0 = 0 then 1 else q0) := ⟨_, rfl⟩
            obtain ⟨hq1, hq2⟩ := dq_le (M := nM) hn0 hbt1 hre (by rw [hq0, htp]) hqq
            have hq3 : qq < 16777216 := dq_lt hpos hq1 hAk (by decide)
            have f124 : ∀ (ls : Array Slot), lv_has ls 11 [(6, .int (nI k)), (4, .long (lN (bt + 1))), (3, .int (nI n)), (0, .ref b), (1, .int (nI pa)), (2, .int (nI pb))] → W p l e ({ frames := 1, cells := 0, slots := 0, locals := 30 } : Room) s m args below meth c H locs 0 0 (MQ below (fw_Q D kCl w (sz) 0 (fun v w' => v = none ∧ moS cI cL w' b (I) K (va_up S 20 (nI 0)) (mC (va_up (va_up X 20 (X pa / X pb)) pa (X pa % X pb))) ∧ ∀ q, q < b ∨ b + 9 ≤ q → w' q = w q)) args s 0 0 (fw_A w (sz))) (F0 m 124 ls [.long (lN qq)]) := by
              intro ls hl
              refine lv_lstore (pc := 124) (lv' := [(9, .long (lN qq)), (6, .int (nI k)), (4, .long (lN (bt + 1))), (3, .int (nI n)), (0, .ref b), (1, .int (nI pa)), (2, .int (nI pb))]) hx hb dMo_divide_124 hl (by decide) rfl (fun ls hl => ?_)
              refine lv_aload_n (pc := 126) hx hb dMo_divide_126 rfl (lv_at hl 4 rfl) ?_
              refine lv_iload_n (pc := 127) hx hb dMo_divide_127 rfl (lv_at hl 5 rfl) ?_
              refine lv_iload_n (pc := 128) hx hb dMo_divide_128 rfl (lv_at hl 6 rfl) ?_
              refine lv_lload (pc := 129) hx hb dMo_divide_129 (lv_at hl 0 rfl) ?_
              refine lv_iload (pc := 131) hx hb dMo_divide_131 (lv_at hl 1 rfl) ?_
              refine fw_cV (pc := 133) (As := [.int (nI pa), .int (nI pb), .long (lN qq), .int (nI k)]) (rest := []) ⟨hx, hb, hml, hown, hW⟩ (c_Mo_takeFrom (t9 := qq) (h9 := k) hM hXc ha hb2 hne hq3 (by omega) (by rw [hCa, hCb]; exact hq1)) (cwV 4 hW (kw_V lm_Mo_135 im_Mo_takeFrom se_Mo_takeFrom ini_Mo cd_Mo_takeFrom) rfl rfl rfl (by decide +kernel) ⟨Nat.le_of_ble_eq_true rfl, Nat.le_of_ble_eq_true rfl⟩) hK hw b0 rfl rfl hl.1 rfl (Nat.le_of_ble_eq_true rfl) dMo_divide_133 ⟨Nat.le_of_ble_eq_true rfl, Nat.le_of_ble_eq_true rfl⟩ (fun v w54 H locs hq hw => ?_)
              obtain ⟨rfl, hM2, ho2⟩ := hq
              rw [hCa, hCb, va_upup] at hM2
              obtain ⟨A1, hA1⟩ : ∃ A1, A1 = A - qq * B * nM ^ k := ⟨_, rfl⟩
              rw [← hA1] at hM2
              have b0 : w54 b = some (.inr (10, [.int (nI (I 0)), .ref (b + 1), .ref (b + 2), .int (nI (I 3)), .ref (b + 3), .ref (b + 4), .int (nI (I 6)), .int (nI (I 7)), .ref (b + 5), .ref (b + 6), .int (nI (I 10)), .int (nI (I 11)), .int (nI (I 12)), .int (nI (I 13)), .ref (b + 7), .ref (b + 8), .int (nI (I 16)), .int (nI (I 17)), .int (nI (I 18)), .int (nI (I 19))])) := hM2.1
              have b1 : w54 (b + 1) = some (.inl (cL, 1536, .inr (.inl (fun i => lN (mC (va_up (va_up X 20 Q) pa A1) i))))) := hM2.2.1
              refine W.eq (g2 := F0 m 136 ls []) rfl ?_
              have hcd : mC (va_up (va_up X 20 Q) pa A1) (64 * 20 + k) = cc := by
                obtain ⟨Q2, h8⟩ := hQ2
                rw [mC_at _ (show k < 64 by omega), hCq, h8, Nat.pow_succ, show Q2 * (nM ^ k * nM) + cc * nM ^ k = nM ^ k * (Q2 * nM + cc) from by rw [Nat.mul_add, Nat.mul_comm (nM ^ k) cc]; congr 1; ac_rfl, Nat.mul_div_cancel_left _ hP, Nat.mul_comm Q2 nM, Nat.mul_add_mod]
                exact Nat.mod_eq_of_lt (Nat.lt_of_mul_lt_mul_right (show cc * (B * nM ^ k) < nM * (B * nM ^ k) by (have e1 : cc * B * nM ^ k = cc * (B * nM ^ k) := Nat.mul_assoc _ _ _); (have e2 : B * nM ^ (k + 1) = nM * (B * nM ^ k) := by rw [Nat.pow_succ]; ac_rfl); omega))
              have hA9 : A1 + qq * B * nM ^ k = A := by omega
              have hsum : A1 + (cc + qq) * B * nM ^ k < B * nM ^ (k + 1) := by (have e1 : (cc + qq) * B * nM ^ k = cc * B * nM ^ k + qq * B * nM ^ k := by rw [Nat.add_mul, Nat.add_mul]); omega
              have hcq : cc + qq < nM := Nat.lt_of_mul_lt_mul_right (show (cc + qq) * (B * nM ^ k) < nM * (B * nM ^ k) by (have e1 : (cc + qq) * B * nM ^ k = (cc + qq) * (B * nM ^ k) := Nat.mul_assoc _ _ _); (have e2 : B * nM ^ (k + 1) = nM * (B * nM ^ k) := by rw [Nat.pow_succ]; ac_rfl); omega)
              refine lv_aload_n (pc := 136) hx hb dMo_divide_136 rfl (lv_at hl 4 rfl) ?_
              refine fw_get (pc := 137) (ci := 10) (v := .ref (b + 1)) (C := RMo) (T := TMo) (N := 20) hx hb hW in_Mo hown hK.1 hw b0 rfl 1 (by decide) (hW _ lf_Mo_7) (fun _ h => h) rfl dMo_divide_137 ?_
              refine lv_sipush (pc := 140) (v := (nI 1280)) hx hb dMo_divide_140 (by decide) ?_
              refine lv_iload (pc := 143) hx hb dMo_divide_143 (lv_at hl 1 rfl) ?_
              refine lv_iadd (pc := 145) hx hb dMo_divide_145 ?_
              rw [show (((nI 1280) + nI k) : Int32) = nI (64 * 20 + k) from (nI_add 1280 k)]
              refine lv_dup2_11 (pc := 146) hx hb dMo_divide_146 rfl rfl ?_
              refine fw_laldN (pc := 147) (x := lN (mC (va_up (va_up X 20 Q) pa A1) (64 * 20 + k))) hx hb hK.1 hw 1 b1 rfl (64 * 20 + k) (by omega) (by decide) rfl dMo_divide_147 ?_
              refine lv_lload (pc := 148) hx hb dMo_divide_148 (lv_at hl 0 rfl) ?_
              refine lv_ladd (pc := 150) hx hb dMo_divide_150 ?_
              rw [show ((lN (mC (va_up (va_up X 20 Q) pa A1) (64 * 20 + k)) + lN qq) : Int64) = lN (mC (va_up (va_up X 20 Q) pa A1) (64 * 20 + k) + qq) from (lN_add _ _)]
              refine fw_lastN (pc := 151) (f2 := fun i => lN (mC (va_up (va_up (va_up X 20 Q) pa A1) 20 ((va_up (va_up X 20 Q) pa A1) 20 + qq * nM ^ k)) i)) hx hb hK.1 hw 1 b1 rfl (64 * 20 + k) (by omega) (by decide) (by rw [lN_up, mC_cell (show k < 64 by omega) (hXC Q A1 hQle (by omega) 20) (by rw [hcd]; exact hcq)]) dMo_divide_151 (fun H locs hw => ?_)
              obtain ⟨w55, e55⟩ : ∃ w_, w_ = fw_up w54 (b + 1) (.inl (cL, 1536, .inr (.inl (fun i => lN (mC (va_up (va_up (va_up X 20 Q) pa A1) 20 ((va_up (va_up X 20 Q) pa A1) 20 + qq * nM ^ k)) i))))) := ⟨_, rfl⟩
              have hw : fw_H D kCl (fw_A w (sz)) s.heap w55 (sz) H locs := by rw [e55]; exact hw
              have b0_ : w55 (b) = some (.inr (10, [.int (nI (I 0)), .ref (b + 1), .ref (b + 2), .int (nI (I 3)), .ref (b + 3), .ref (b + 4), .int (nI (I 6)), .int (nI (I 7)), .ref (b + 5), .ref (b + 6), .int (nI (I 10)), .int (nI (I 11)), .int (nI (I 12)), .int (nI (I 13)), .ref (b + 7), .ref (b + 8), .int (nI (I 16)), .int (nI (I 17)), .int (nI (I 18)), .int (nI (I 19))])) := by rw [e55, fw_un (by omega)]; exact b0
              have b1_ : w55 (b + 1) = some (.inl (cL, 1536, .inr (.inl (fun i => lN (mC (va_up (va_up (va_up X 20 Q) pa A1) 20 ((va_up (va_up X 20 Q) pa A1) 20 + qq * nM ^ k)) i))))) := by rw [e55]; exact fw_us _ _ _
              have b0 := b0_
              have b1 := b1_
              refine lv_goto (pc := 152) (tgt := 43) hx hb dMo_divide_152 (by decide) ?_
              have hxe : va_up (va_up (va_up X 20 Q) pa A1) 20 ((va_up (va_up X 20 Q) pa A1) 20 + qq * nM ^ k) = va_up (va_up X 20 (Q + qq * nM ^ k)) pa A1 := by rw [hCq]; exact up_sw ha20
              rw [hxe] at b1
              exact ihN A1 (Q + qq * nM ^ k) (cc + qq) (by have h8 : 1 * (B * nM ^ k) ≤ qq * (B * nM ^ k) := Nat.mul_le_mul_right _ hq2; rw [← Nat.mul_assoc qq] at h8; have h7 := Nat.mul_pos hpos hP; omega) (by (have e1 : (Q + qq * nM ^ k) * B = Q * B + qq * B * nM ^ k := by rw [Nat.add_mul, Nat.mul_right_comm]); omega) (by obtain ⟨Q2, h8⟩ := hQ2; exact ⟨Q2, by rw [h8, Nat.add_mul]; omega⟩) hsum _ H locs ls hw (lv_sub hl [1, 2, 3, 4, 5, 6] rfl) ⟨(by rw [e55, fw_un (by omega)]; exact hM2.1), b1, (by rw [e55, fw_un (by omega)]; exact hM2.2.2.1), fun j hj => (by rw [e55, fw_un (by omega)]; exact hM2.2.2.2 j hj)⟩ (fun q h8 => by rw [e55, fw_un (by omega), ho2 q h8, ho q h8])
            have f85 : ∀ (ls : Array Slot), lv_has ls 11 [(6, .int (nI k)), (4, .long (lN (bt + 1))), (3, .int (nI n)), (0, .ref b), (1, .int (nI pa)), (2, .int (nI pb))] → W p l e ({ frames := 1, cells := 0, slots := 0, locals := 30 } : Room) s m args below meth c H locs 0 0 (MQ below (fw_Q D kCl w (sz) 0 (fun v w' => v = none ∧ moS cI cL w' b (I) K (va_up S 20 (nI 0)) (mC (va_up (va_up X 20 (X pa / X pb)) pa (X pa % X pb))) ∧ ∀ q, q < b ∨ b + 9 ≤ q → w' q = w q)) args s 0 0 (fw_A w (sz))) (F0 m 85 ls [.long (lN tw)]) := by
              intro ls hl
              refine lv_lstore (pc := 85) (lv' := [(7, .long (lN tw)), (6, .int (nI k)), (4, .long (lN (bt + 1))), (3, .int (nI n)), (0, .ref b), (1, .int (nI pa)), (2, .int (nI pb))]) hx hb dMo_divide_85 hl (by decide) rfl (fun ls hl => ?_)
              refine lv_lload (pc := 87) hx hb dMo_divide_87 (lv_at hl 0 rfl) ?_
              refine lv_aload_n (pc := 89) hx hb dMo_divide_89 rfl (lv_at hl 4 rfl) ?_
              refine fw_get (pc := 90) (ci := 10) (v := .ref (b + 1)) (C := RMo) (T := TMo) (N := 20) hx hb hW in_Mo hown hK.1 hw b0 rfl 1 (by decide) (hW _ lf_Mo_7) (fun _ h => h) rfl dMo_divide_90 ?_
              refine lv_bipush (pc := 93) (v := (nI 64)) hx hb dMo_divide_93 (by decide) ?_
              refine lv_iload_n (pc := 95) hx hb dMo_divide_95 rfl (lv_at hl 5 rfl) ?_
              refine lv_imul (pc := 96) hx hb dMo_divide_96 ?_
              rw [show (((nI 64) * nI pa) : Int32) = nI (64 * pa) from (nI_mul 64 pa)]
              refine lv_iload (pc := 97) hx hb dMo_divide_97 (lv_at hl 1 rfl) ?_
              refine lv_iadd (pc := 99) hx hb dMo_divide_99 ?_
              rw [show ((nI (64 * pa) + nI k) : Int32) = nI (64 * pa + k) from (nI_add (64 * pa) k)]
              refine lv_iload_n (pc := 100) hx hb dMo_divide_100 rfl (lv_at hl 3 rfl) ?_
              refine lv_iadd (pc := 101) hx hb dMo_divide_101 ?_
              rw [show ((nI (64 * pa + k) + nI n) : Int32) = nI (64 * pa + k + n) from (nI_add (64 * pa + k) n)]
              refine lv_iconst (pc := 102) (v := (nI 1)) hx hb dMo_divide_102 (by decide) ?_
              refine lv_isub (pc := 103) hx hb dMo_divide_103 ?_
              rw [show ((nI (64 * pa + k + n) - (nI 1)) : Int32) = nI (64 * pa + (k + n - 1)) from (by rw [nI_subL (by omega)]; congr 1; omega)]
              refine fw_laldN (pc := 104) (x := lN (mC (va_up (va_up X 20 Q) pa A) (64 * pa + (k + n - 1)))) hx hb hK.1 hw 1 b1 rfl (64 * pa + (k + n - 1)) (by omega) (by decide) rfl dMo_divide_104 ?_
              rw [show (lN (mC (va_up (va_up X 20 Q) pa A) (64 * pa + (k + n - 1))) : Int64) = lN (A / nM ^ (k + n - 1) % nM) from (by rw [mC_at _ (by omega), hCa])]
              refine lv_ladd (pc := 105) hx hb dMo_divide_105 ?_
              rw [show ((lN tw + lN (A / nM ^ (k + n - 1) % nM)) : Int64) = lN tp from (by rw [lN_add, ← htd])]
              refine lv_lload (pc := 106) hx hb dMo_divide_106 (lv_at hl 2 rfl) ?_
              refine lv_ldiv (pc := 108) hx hb dMo_divide_108 (fun h8 => by have := lN_zero (by omega) h8; omega) ?_
              rw [show ((lN tp / lN (bt + 1)) : Int64) = lN q0 from (by rw [hq0]; exact pk_lDiv (by omega) (by omega) (by omega))]
              have hq0l : q0 ≤ tp := by rw [hq0]; exact Nat.div_le_self _ _
              refine lv_lstore (pc := 109) (lv' := [(9, .long (lN q0)), (7, .long (lN tw)), (6, .int (nI k)), (4, .long (lN (bt + 1))), (3, .int (nI n)), (0, .ref b), (1, .int (nI pa)), (2, .int (nI pb))]) hx hb dMo_divide_109 hl (by decide) rfl (fun ls hl => ?_)
              refine lv_lload (pc := 111) hx hb dMo_divide_111 (lv_at hl 0 rfl) ?_
              refine lv_lconst (pc := 113) (v := lN 0) hx hb dMo_divide_113 (by decide) ?_
              refine W.lcmp (pc := 114) hx hb dMo_divide_114 ?_
              refine lv_if_ne (pc := 115) (tgt := 122) hx hb dMo_divide_115 (by decide) (fun hc => ?_) (fun hc => ?_)
              · have h8 : ¬ q0 = 0 := fun h7 => hc ((lg_cmp_eq _ _).mpr (by rw [h7]))
                refine lv_lload (pc := 122) hx hb dMo_divide_122 (lv_at hl 0 rfl) ?_
                rw [show (lN q0 : Int64) = lN qq from (by rw [hqq, if_neg h8])]
                exact f124 ls (lv_sub hl [2, 3, 4, 5, 6, 7] rfl)
              · have h8 : q0 = 0 := lN_inj (by omega) (by decide) ((lg_cmp_eq _ _).mp hc)
                refine lv_lconst (pc := 118) (v := lN 1) hx hb dMo_divide_118 (by decide) ?_
                refine lv_goto (pc := 119) (tgt := 124) hx hb dMo_divide_119 (by decide) ?_
                rw [show ((lN 1) : Int64) = lN qq from (by rw [hqq, if_pos h8])]
                exact f124 ls (lv_sub hl [2, 3, 4, 5, 6, 7] rfl)
            refine lv_iload (pc := 55) hx hb dMo_divide_55 (lv_at hl 0 rfl) ?_
            refine lv_iload_n (pc := 57) hx hb dMo_divide_57 rfl (lv_at hl 2 rfl) ?_
            refine lv_iadd (pc := 58) hx hb dMo_divide_58 ?_
            rw [show ((nI k + nI n) : Int32) = nI (k + n) from (nI_add k n)]
            refine lv_bipush (pc := 59) (v := (nI 64)) hx hb dMo_divide_59 (by decide) ?_
            by_cases hkn : k + n < 64
            · refine lv_icmp_ge (pc := 61) (tgt := 84) hx hb dMo_divide_61 (by decide) (fun hc => absurd hc (nI_ge hkn (by decide))) (fun _ => ?_)
              refine lv_aload_n (pc := 64) hx hb dMo_divide_64 rfl (lv_at hl 3 rfl) ?_
              refine fw_get (pc := 65) (ci := 10) (v := .ref (b + 1)) (C := RMo) (T := TMo) (N := 20) hx hb hW in_Mo hown hK.1 hw b0 rfl 1 (by decide) (hW _ lf_Mo_7) (fun _ h => h) rfl dMo_divide_65 ?_
              refine lv_bipush (pc := 68) (v := (nI 64)) hx hb dMo_divide_68 (by decide) ?_
              refine lv_iload_n (pc := 70) hx hb dMo_divide_70 rfl (lv_at hl 4 rfl) ?_
              refine lv_imul (pc := 71) hx hb dMo_divide_71 ?_
              rw [show (((nI 64) * nI pa) : Int32) = nI (64 * pa) from (nI_mul 64 pa)]
              refine lv_iload (pc := 72) hx hb dMo_divide_72 (lv_at hl 0 rfl) ?_
              refine lv_iadd (pc := 74) hx hb dMo_divide_74 ?_
              rw [show ((nI (64 * pa) + nI k) : Int32) = nI (64 * pa + k) from (nI_add (64 * pa) k)]
              refine lv_iload_n (pc := 75) hx hb dMo_divide_75 rfl (lv_at hl 2 rfl) ?_
              refine lv_iadd (pc := 76) hx hb dMo_divide_76 ?_
              rw [show ((nI (64 * pa + k) + nI n) : Int32) = nI (64 * pa + (k + n)) from (by rw [nI_add]; congr 1; omega)]
              refine fw_laldN (pc := 77) (x := lN (mC (va_up (va_up X 20 Q) pa A) (64 * pa + (k + n)))) hx hb hK.1 hw 1 b1 rfl (64 * pa + (k + n)) (by omega) (by decide) rfl dMo_divide_77 ?_
              rw [show (lN (mC (va_up (va_up X 20 Q) pa A) (64 * pa + (k + n))) : Int64) = lN (A / nM ^ (k + n)) from (by rw [mC_at _ hkn, hCa, Nat.mod_eq_of_lt htop])]
              refine lv_bipush (pc := 78) (v := (nI 24)) hx hb dMo_divide_78 (by decide) ?_
              refine lv_lshl (pc := 80) (v := lN tw) hx hb dMo_divide_80 (by rw [htw]; exact wb_shl _ (k := 24) (by decide)) ?_
              refine lv_goto (pc := 81) (tgt := 85) hx hb dMo_divide_81 (by decide) ?_
              exact f85 ls hl
            · refine lv_icmp_ge (pc := 61) (tgt := 84) hx hb dMo_divide_61 (by decide) (fun _ => ?_) (fun hc => absurd (nI_le (show 64 ≤ k + n by omega) (by omega)) hc)
              refine lv_lconst (pc := 84) (v := lN 0) hx hb dMo_divide_84 (by decide) ?_
              rw [show ((lN 0) : Int64) = lN tw from (by rw [htw, Nat.div_eq_of_lt (Nat.lt_of_lt_of_le (show A < nM ^ 64 from Nat.lt_of_le_of_lt (show A ≤ A0 by omega) hA64) (Nat.pow_le_pow_right (by decide) (show 64 ≤ k + n by omega))), Nat.zero_mul])]
              exact f85 ls hl
          · subst hq
            rw [if_neg hre]
            refine W.eq (g2 := F0 m 52 ls [.int (nI 0)]) rfl ?_
            refine lv_if_eq (pc := 52) (tgt := 155) hx hb dMo_divide_52 (by decide) (fun _ => ?_) (fun hc => absurd (show nI 0 = 0 by decide) hc)
            refine lv_iinc (pc := 155) (lv' := [(6, .int (nI k - nI 1)), (4, .long (lN (bt + 1))), (3, .int (nI n)), (0, .ref b), (1, .int (nI pa)), (2, .int (nI pb))]) hx hb dMo_divide_155 hl (k := 0) rfl ((by rw [Int32.sub_eq_add_neg]; rfl)) (by decide) rfl (fun ls hl => ?_)
            refine lv_goto (pc := 158) (tgt := 38) hx hb dMo_divide_158 (by decide) ?_
            exact ih (by omega) A Q hQA (by obtain ⟨Q2, h8⟩ := hQ2; exact ⟨Q2 * nM + cc, by rw [h8, Nat.pow_succ, Nat.add_mul]; congr 1; rw [Nat.mul_assoc, Nat.mul_comm nM]⟩) (Nat.lt_of_not_le hre) _ H locs ls hw (lv_sub hl [0, 1, 2, 3, 4, 5] rfl) hM ho
      have b0 : w1 b = some (.inr (10, [.int (nI (I 0)), .ref (b + 1), .ref (b + 2), .int (nI (I 3)), .ref (b + 3), .ref (b + 4), .int (nI (I 6)), .int (nI (I 7)), .ref (b + 5), .ref (b + 6), .int (nI (I 10)), .int (nI (I 11)), .int (nI (I 12)), .int (nI (I 13)), .ref (b + 7), .ref (b + 8), .int (nI (I 16)), .int (nI (I 17)), .int (nI (I 18)), .int (nI (I 19))])) := hM.1
      have b1 : w1 (b + 1) = some (.inl (cL, 1536, .inr (.inl (fun i => lN (mC (va_up (va_up X 20 Q) pa A) i))))) := hM.2.1
      refine lv_iload (pc := 38) hx hb dMo_divide_38 (lv_at hl 0 rfl) ?_
      refine lv_if_lt (pc := 40) (tgt := 161) hx hb dMo_divide_40 (by decide) (fun hc => absurd hc (nI_pos (by omega))) (fun _ => ?_)
      exact inner A A Q 0 (Nat.le_refl A) hQA (by obtain ⟨Q2, h8⟩ := hQ2; exact ⟨Q2, by rw [h8]; omega⟩) (by rw [Nat.zero_mul, Nat.zero_mul, Nat.add_zero]; exact hAl) w1 H locs ls hw hl hM ho
  have hoo : ∀ q, q < b ∨ b + 9 ≤ q → w51 q = w q := fun q h8 => hc9 q (by omega) (by omega)
  by_cases hnl : n ≤ la
  · rw [show ((nI la - nI n) : Int32) = nI (la - n + 1) - nI 1 from (by rw [nI_subL hnl, show nI (la - n + 1) - nI 1 = nI (la - n) from nI_pred _])]
    refine lv_istore (pc := 36) (lv' := [(6, .int (nI (la - n + 1) - nI 1)), (4, .long (lN (bt + 1))), (3, .int (nI n)), (0, .ref b), (1, .int (nI pa)), (2, .int (nI pb))]) hx hb dMo_divide_36 hl (by decide) rfl (fun ls hl => ?_)
    have hpw : nM ^ la = nM ^ (n - 1) * nM ^ (la - n + 1) := by rw [← Nat.pow_add]; congr 1; omega
    exact loop (la - n + 1) (by omega) A0 0 (by rw [Nat.zero_mul, Nat.zero_add]) ⟨0, by rw [Nat.zero_mul]⟩ (Nat.lt_of_lt_of_le hlla.1 (by rw [hpw]; exact Nat.mul_le_mul_right _ (hln.2 hn0))) _ H locs ls hw (lv_sub hl [0, 1, 2, 3, 4, 5] rfl) hS2 hoo
  · refine lv_istore (pc := 36) (lv' := [(6, .int (nI la - nI n)), (4, .long (lN (bt + 1))), (3, .int (nI n)), (0, .ref b), (1, .int (nI pa)), (2, .int (nI pb))]) hx hb dMo_divide_36 hl (by decide) rfl (fun ls hl => ?_)
    have hAB : A0 < B := Nat.lt_of_lt_of_le hlla.1 (Nat.le_trans (Nat.pow_le_pow_right (by decide) (show la ≤ n - 1 by omega)) (hln.2 hn0))
    refine lv_iload (pc := 38) hx hb dMo_divide_38 (lv_at hl 0 rfl) ?_
    refine lv_if_lt (pc := 40) (tgt := 161) hx hb dMo_divide_40 (by decide) (fun _ => ?_) (fun hc => absurd (pk_sneg (by omega) (show la < n by omega)) hc)
    have e1 : X pa / X pb = 0 := by rw [← hA0, ← hBe, Nat.div_eq_of_lt hAB]
    have e2 : X pa % X pb = A0 := by rw [← hA0, ← hBe, Nat.mod_eq_of_lt hAB]
    exact fw_vret (pc := 161) hx hb hr hlocks hw dMo_divide_161 ⟨rfl, by rw [e1, e2]; exact hS2, hoo⟩
end MO5
