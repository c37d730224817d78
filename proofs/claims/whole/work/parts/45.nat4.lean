theorem lN_subW {a b : Nat} (hb : b ≤ 2 ^ 64) : lN a - lN b = lN (a + 2 ^ 64 - b) := by
  rw [← lN_sub (show b ≤ a + 2 ^ 64 by omega), wb_mod (a + 2 ^ 64), Nat.add_mod_right, ← wb_mod]
/-! BigCalculator.Natural, fourth part. Written by wip/gen/natural4.py. -/
section NA4
variable {l : Launch} {D : va_G} {cI cL cQ : ClassId} {z : kZ_T} {sz : Nat} {w : fw_W}
set_option maxHeartbeats 4000000 in
set_option maxRecDepth 100000 in
theorem c_Na_becomeDifference {n na nb x y y0 : Nat} (hpa : na + 1 < n ∨ n + 1 < na) (hpb : nb + 1 < n ∨ n + 1 < nb) (hv : isV cL w n y0) (hva : isV cL w na x) (hvb : isV cL w nb y) (hyx : y ≤ x) : fw_C l yNa_becomeDifference (Cond.code yNa_becomeDifference cNa_becomeDifference 9 none :: kWs) ({ frames := 1, cells := 0, slots := 0, locals := 21 } : Room) D kCl (kty cI cL cQ) z [.ref n, .ref na, .ref nb] (sz) w 0 0 (fun v w' => v = none ∧ isV cL w' n (x - y) ∧ ∀ q, q ≠ n → q ≠ n + 1 → w' q = w q) := by
  refine fw_ofW (cc := cNa_becomeDifference) (maxL := 9) (ret := none) (by decide) rfl (Nat.le_of_ble_eq_true rfl) ?_
  intro p e s m args below meth c hx hb hr hts hown hlocks hname hml hK H ls hw hl
  have hW : ∀ w ∈ kWs, w.before args s = true := fun w h => hts w (List.mem_cons_of_mem _ h)
  have hown : s.vm.findClass RNa = some m.cls := hown
  have hl : lv_has ls 9 [(0, .ref n), (1, .ref na), (2, .ref nb)] := hl
  obtain ⟨g, k, ⟨o0, o1⟩, ok, og, on, ov⟩ := id hv
  obtain ⟨ga, ka, ⟨a0, a1⟩, ak, ag, an, av⟩ := id hva
  obtain ⟨gb, kb, ⟨b0, b1⟩, bk, bg, bn, bv⟩ := id hvb
  have hba : kb ≤ ka := Nat.le_of_not_lt (fun h => by have h9 := nk_less an bn (by decide) h; rw [av, bv] at h9; omega)
  have loop : ∀ (d i : Nat), i + d = ka → ∀ (w1 : fw_W) (H : Heap) (locs : List Loc) (ls : Array Slot) (bw : Nat) (g1 : Nat → Nat), fw_H D kCl (fw_A w (sz)) s.heap w1 (sz) H locs → lv_has ls 9 [(6, .int (nI i)), (4, .long (lN bw)), (3, .int (nI ka)), (0, .ref n), (1, .ref na), (2, .ref nb)] → w1 (n + 1) = some (.inl (cL, 50, .inr (.inl (fun i => lN (g1 i))))) → (∀ q, q ≠ n + 1 → w1 q = w q) → (∀ j, j < 50 → g1 j < 2 ^ 64) → (∀ j, j < i → g1 j < nB) → bw ≤ 1 → nv nB g1 i + nv nB (nl gb kb) i = nv nB ga i + bw * nB ^ i → W p l e ({ frames := 1, cells := 0, slots := 0, locals := 21 } : Room) s m args below meth c H locs 0 0 (MQ below (fw_Q D kCl w (sz) 0 (fun v w' => v = none ∧ isV cL w' n (x - y) ∧ ∀ q, q ≠ n → q ≠ n + 1 → w' q = w q)) args s 0 0 (fw_A w (sz))) (F0 m 11 ls []) := by
    intro d
    induction d with
    | zero =>
      intro i hid w1 H locs ls bw g1 hw hl h2 ho hg hgb hcy hs
      have o0 : w1 n = some (.inr (5, [.ref (n + 1), .int (nI k)])) := (ho _ (by omega)).trans o0
      have a0 : w1 na = some (.inr (5, [.ref (na + 1), .int (nI ka)])) := (ho _ (by omega)).trans a0
      have a1 : w1 (na + 1) = some (.inl (cL, 50, .inr (.inl (fun i => lN (ga i))))) := (ho _ (by omega)).trans a1
      have b0 : w1 nb = some (.inr (5, [.ref (nb + 1), .int (nI kb)])) := (ho _ (by omega)).trans b0
      have b1 : w1 (nb + 1) = some (.inl (cL, 50, .inr (.inl (fun i => lN (gb i))))) := (ho _ (by omega)).trans b1
      obtain rfl : i = ka := by omega
      refine lv_iload (pc := 11) hx hb dNa_becomeDifference_11 (lv_at hl 0 rfl) ?_
      refine lv_iload_n (pc := 13) hx hb dNa_becomeDifference_13 rfl (lv_at hl 2 rfl) ?_
      refine lv_icmp_ge (pc := 14) (tgt := 69) hx hb dNa_becomeDifference_14 (by decide) (fun _ => ?_) (fun hc => absurd (nI_le (Nat.le_refl i) (by omega)) hc)
      refine lv_aload_n (pc := 69) hx hb dNa_becomeDifference_69 rfl (lv_at hl 3 rfl) ?_
      refine lv_iload_n (pc := 70) hx hb dNa_becomeDifference_70 rfl (lv_at hl 2 rfl) ?_
      refine fw_cV (pc := 71) (As := [.int (nI i)]) (rest := []) ⟨hx, hb, hml, hown, hW⟩ (c_Na_trim (k := i) (by omega) hg o0 h2) (cwV 1 hW (kw_V lm_Na_41 im_Na_trim se_Na_trim ini_Na cd_Na_trim) rfl rfl rfl (by decide +kernel) ⟨Nat.le_of_ble_eq_true rfl, Nat.le_of_ble_eq_true rfl⟩) hK hw o0 rfl rfl hl.1 rfl (Nat.le_of_ble_eq_true rfl) dNa_becomeDifference_71 ⟨Nat.le_of_ble_eq_true rfl, Nat.le_of_ble_eq_true rfl⟩ (fun v w2 H locs hq hw => ?_)
      obtain ⟨rfl, j, hj, hz, hnz, f1, hto⟩ := hq
      refine W.eq (g2 := F0 m 74 ls []) rfl ?_
      have hlt := nv_lt (b := nB) (g := g1) (n := i) hgb
      rw [nv_nl hba, av, bv] at hs
      have hb0 : bw = 0 := Classical.byContradiction fun h9 => by (obtain rfl : bw = 1 := by omega); omega
      have hval : nv nB g1 i = x - y := by (subst hb0); omega
      exact fw_vret (pc := 74) hx hb hr hlocks hw dNa_becomeDifference_74 ⟨rfl, ⟨_, j, ⟨f1, (hto _ (by omega)).trans h2⟩, by omega, hg, ⟨fun q hq => hgb q (by omega), hnz⟩, (nv_cut hj hz).symm.trans hval⟩, fun q h1 h3 => by rw [hto q h1, ho q h3]⟩
    | succ d ih =>
      intro i hid w1 H locs ls bw g1 hw hl h2 ho hg hgb hcy hs
      have o0 : w1 n = some (.inr (5, [.ref (n + 1), .int (nI k)])) := (ho _ (by omega)).trans o0
      have a0 : w1 na = some (.inr (5, [.ref (na + 1), .int (nI ka)])) := (ho _ (by omega)).trans a0
      have a1 : w1 (na + 1) = some (.inl (cL, 50, .inr (.inl (fun i => lN (ga i))))) := (ho _ (by omega)).trans a1
      have b0 : w1 nb = some (.inr (5, [.ref (nb + 1), .int (nI kb)])) := (ho _ (by omega)).trans b0
      have b1 : w1 (nb + 1) = some (.inl (cL, 50, .inr (.inl (fun i => lN (gb i))))) := (ho _ (by omega)).trans b1
      refine lv_iload (pc := 11) hx hb dNa_becomeDifference_11 (lv_at hl 0 rfl) ?_
      refine lv_iload_n (pc := 13) hx hb dNa_becomeDifference_13 rfl (lv_at hl 2 rfl) ?_
      refine lv_icmp_ge (pc := 14) (tgt := 69) hx hb dNa_becomeDifference_14 (by decide) (fun hc => absurd hc (nI_ge (show i < ka by omega) (by omega))) (fun _ => ?_)
      refine lv_aload_n (pc := 17) hx hb dNa_becomeDifference_17 rfl (lv_at hl 4 rfl) ?_
      refine fw_get (pc := 18) (ci := 5) (v := .ref (na + 1)) (C := RNa) (T := TNa) (N := 2) hx hb hW in_Na hown hK.1 hw a0 rfl 0 (by decide) (hW _ lf_Na_9) (fun _ h => h) rfl dNa_becomeDifference_18 ?_
      refine lv_iload (pc := 21) hx hb dNa_becomeDifference_21 (lv_at hl 0 rfl) ?_
      refine fw_laldN (pc := 23) (x := lN (ga (i))) hx hb hK.1 hw 1 a1 rfl (i) (show i < 50 by omega) (by decide) rfl dNa_becomeDifference_23 ?_
      refine lv_aload_n (pc := 24) hx hb dNa_becomeDifference_24 rfl (lv_at hl 5 rfl) ?_
      refine lv_iload (pc := 25) hx hb dNa_becomeDifference_25 (lv_at hl 0 rfl) ?_
      refine fw_cVR (pc := 27) (As := [.int (nI i)]) (rest := [.long (lN (ga (i)))]) ⟨hx, hb, hml, hown, hW⟩ (c_Na_limbAt bk (by omega) b0 b1) (cwV 1 hW (kw_V lm_Na_29 im_Na_limbAt se_Na_limbAt ini_Na cd_Na_limbAt) rfl rfl rfl (by decide +kernel) ⟨Nat.le_of_ble_eq_true rfl, Nat.le_of_ble_eq_true rfl⟩) hK hw b0 rfl rfl hl.1 rfl (Nat.le_of_ble_eq_true rfl) dNa_becomeDifference_27 ⟨Nat.le_of_ble_eq_true rfl, Nat.le_of_ble_eq_true rfl⟩ (fun v hq => ?_)
      subst hq
      refine W.eq (g2 := F0 m 30 ls [.long (lN (nl gb kb i)), .long (lN (ga (i)))]) rfl ?_
      have l1 : ga i < nB := an.1 i (by omega)
      have l2 : nl gb kb i < nB := nl_lt (by decide) bn.1
      have l3 : nB = 4294967296 := rfl
      obtain ⟨dd, hdd⟩ : ∃ dd, dd = (ga i + 2 ^ 64 - nl gb kb i - bw) % 2 ^ 64 := ⟨_, rfl⟩
      refine lv_lsub (pc := 30) hx hb dNa_becomeDifference_30 ?_
      refine lv_lload (pc := 31) hx hb dNa_becomeDifference_31 (lv_at hl 1 rfl) ?_
      refine lv_lsub (pc := 33) hx hb dNa_becomeDifference_33 ?_
      rw [show (((lN (ga (i)) - lN (nl gb kb i)) - lN bw) : Int64) = lN dd from (by rw [lN_subW (by omega), lN_sub (by omega), wb_mod, hdd])]
      have hd64 : dd < 2 ^ 64 := by omega
      refine lv_lstore (pc := 34) (lv' := [(7, .long (lN dd)), (6, .int (nI i)), (4, .long (lN bw)), (3, .int (nI ka)), (0, .ref n), (1, .ref na), (2, .ref nb)]) hx hb dNa_becomeDifference_34 hl (by decide) rfl (fun ls hl => ?_)
      refine lv_aload_n (pc := 36) hx hb dNa_becomeDifference_36 rfl (lv_at hl 4 rfl) ?_
      refine fw_get (pc := 37) (ci := 5) (v := .ref (n + 1)) (C := RNa) (T := TNa) (N := 2) hx hb hW in_Na hown hK.1 hw o0 rfl 0 (by decide) (hW _ lf_Na_9) (fun _ h => h) rfl dNa_becomeDifference_37 ?_
      refine lv_iload (pc := 40) hx hb dNa_becomeDifference_40 (lv_at hl 1 rfl) ?_
      refine lv_lload (pc := 42) hx hb dNa_becomeDifference_42 (lv_at hl 0 rfl) ?_
      refine lv_ldc2 (pc := 44) (v := lN 4294967295) hx hb hown (hW _ kl_Na_39) dNa_becomeDifference_44 ?_
      refine lv_land (pc := 47) hx hb dNa_becomeDifference_47 ?_
      rw [show ((lN dd &&& (lN 4294967295)) : Int64) = lN (dd % 4294967296) from (g_mask (s := 32) (p := 4294967296) (by decide) (by decide) hd64)]
      refine fw_lastN (pc := 48) (f2 := fun j => lN (va_up g1 i (dd % 4294967296) j)) hx hb hK.1 hw 1 h2 rfl (i) (show i < 50 by omega) (by decide) (lN_up _ _ _) dNa_becomeDifference_48 (fun H locs hw => ?_)
      obtain ⟨w2, e2⟩ : ∃ w_, w_ = fw_up w1 (n + 1) (.inl (cL, 50, .inr (.inl (fun j => lN (va_up g1 i (dd % 4294967296) j))))) := ⟨_, rfl⟩
      have hw : fw_H D kCl (fw_A w (sz)) s.heap w2 (sz) H locs := by rw [e2]; exact hw
      have o0_ : w2 (n) = some (.inr (5, [.ref (n + 1), .int (nI k)])) := by rw [e2, fw_un (by omega)]; exact o0
      have h2_ : w2 (n + 1) = some (.inl (cL, 50, .inr (.inl (fun j => lN (va_up g1 i (dd % 4294967296) j))))) := by rw [e2]; exact fw_us _ _ _
      have o0 := o0_
      have h2 := h2_
      refine lv_lload (pc := 49) hx hb dNa_becomeDifference_49 (lv_at hl 0 rfl) ?_
      refine lv_lconst (pc := 51) (v := lN 0) hx hb dNa_becomeDifference_51 (by decide) ?_
      refine W.lcmp (pc := 52) hx hb dNa_becomeDifference_52 ?_
      refine lv_if_ge (pc := 53) (tgt := 60) hx hb dNa_becomeDifference_53 (by decide) (fun hc => ?_) (fun hc => ?_)
      · have hds : dd < 2 ^ 63 := (lN_le0 hd64).mp ((lg_cmp_ge _ _).mp hc)
        have hlm : dd % 4294967296 + nl gb kb i + bw = ga i + 0 * 4294967296 := by omega
        refine lv_lconst (pc := 60) (v := lN 0) hx hb dNa_becomeDifference_60 (by decide) ?_
        refine lv_lstore (pc := 61) (lv' := [(4, .long (lN 0)), (7, .long (lN dd)), (6, .int (nI i)), (3, .int (nI ka)), (0, .ref n), (1, .ref na), (2, .ref nb)]) hx hb dNa_becomeDifference_61 hl (by decide) rfl (fun ls hl => ?_)
        refine lv_iinc (pc := 63) (lv' := [(6, .int (nI (i + 1))), (4, .long (lN 0)), (7, .long (lN dd)), (3, .int (nI ka)), (0, .ref n), (1, .ref na), (2, .ref nb)]) hx hb dNa_becomeDifference_63 hl (k := 2) rfl ((nI_add i 1)) (by decide) rfl (fun ls hl => ?_)
        refine lv_goto (pc := 66) (tgt := 11) hx hb dNa_becomeDifference_66 (by decide) ?_
        refine ih (i + 1) (by omega) _ H locs ls 0 (va_up g1 i (dd % 4294967296)) hw (lv_sub hl [0, 1, 3, 4, 5, 6] rfl) h2 (fun q hq => by rw [e2, fw_un hq, ho q hq]) (fun j hj => by (unfold va_up; split; omega; exact hg j hj)) (fun j hj => by (unfold va_up; split; exact Nat.mod_lt _ (by decide); exact hgb j (by omega))) (by decide) ?_
        rw [nv_more rfl, nv_s nB (nl gb kb) i, nv_s nB ga i, Nat.pow_succ]
        have hp : (dd % 4294967296) * nB ^ i + nl gb kb i * nB ^ i + bw * nB ^ i = ga i * nB ^ i + 0 * (nB ^ i * nB) := by rw [← Nat.add_mul, ← Nat.add_mul, hlm, Nat.add_mul]; congr 1; rw [Nat.mul_assoc, Nat.mul_comm 4294967296]
        omega
      · have hds : ¬ dd < 2 ^ 63 := fun h => hc ((lg_cmp_ge _ _).mpr ((lN_le0 hd64).mpr h))
        have hlm : dd % 4294967296 + nl gb kb i + bw = ga i + 1 * 4294967296 := by omega
        refine lv_lconst (pc := 56) (v := lN 1) hx hb dNa_becomeDifference_56 (by decide) ?_
        refine lv_goto (pc := 57) (tgt := 61) hx hb dNa_becomeDifference_57 (by decide) ?_
        refine lv_lstore (pc := 61) (lv' := [(4, .long (lN 1)), (7, .long (lN dd)), (6, .int (nI i)), (3, .int (nI ka)), (0, .ref n), (1, .ref na), (2, .ref nb)]) hx hb dNa_becomeDifference_61 hl (by decide) rfl (fun ls hl => ?_)
        refine lv_iinc (pc := 63) (lv' := [(6, .int (nI (i + 1))), (4, .long (lN 1)), (7, .long (lN dd)), (3, .int (nI ka)), (0, .ref n), (1, .ref na), (2, .ref nb)]) hx hb dNa_becomeDifference_63 hl (k := 2) rfl ((nI_add i 1)) (by decide) rfl (fun ls hl => ?_)
        refine lv_goto (pc := 66) (tgt := 11) hx hb dNa_becomeDifference_66 (by decide) ?_
        refine ih (i + 1) (by omega) _ H locs ls 1 (va_up g1 i (dd % 4294967296)) hw (lv_sub hl [0, 1, 3, 4, 5, 6] rfl) h2 (fun q hq => by rw [e2, fw_un hq, ho q hq]) (fun j hj => by (unfold va_up; split; omega; exact hg j hj)) (fun j hj => by (unfold va_up; split; exact Nat.mod_lt _ (by decide); exact hgb j (by omega))) (by decide) ?_
        rw [nv_more rfl, nv_s nB (nl gb kb) i, nv_s nB ga i, Nat.pow_succ]
        have hp : (dd % 4294967296) * nB ^ i + nl gb kb i * nB ^ i + bw * nB ^ i = ga i * nB ^ i + 1 * (nB ^ i * nB) := by rw [← Nat.add_mul, ← Nat.add_mul, hlm, Nat.add_mul]; congr 1; rw [Nat.mul_assoc, Nat.mul_comm 4294967296]
        omega
  refine lv_aload_n (pc := 0) hx hb dNa_becomeDifference_0 rfl (lv_at hl 1 rfl) ?_
  refine fw_get (pc := 1) (ci := 5) (v := .int (nI ka)) (C := RNa) (T := TNa) (N := 2) hx hb hW in_Na hown hK.1 hw a0 rfl 1 (by decide) (hW _ lf_Na_15) (fun _ h => h) rfl dNa_becomeDifference_1 ?_
  refine lv_istore_n (pc := 4) (lv' := [(3, .int (nI ka)), (0, .ref n), (1, .ref na), (2, .ref nb)]) hx hb dNa_becomeDifference_4 rfl hl (by decide) rfl (fun ls hl => ?_)
  refine lv_lconst (pc := 5) (v := lN 0) hx hb dNa_becomeDifference_5 (by decide) ?_
  refine lv_lstore (pc := 6) (lv' := [(4, .long (lN 0)), (3, .int (nI ka)), (0, .ref n), (1, .ref na), (2, .ref nb)]) hx hb dNa_becomeDifference_6 hl (by decide) rfl (fun ls hl => ?_)
  refine lv_iconst (pc := 8) (v := (nI 0)) hx hb dNa_becomeDifference_8 (by decide) ?_
  refine lv_istore (pc := 9) (lv' := [(6, .int (nI 0)), (4, .long (lN 0)), (3, .int (nI ka)), (0, .ref n), (1, .ref na), (2, .ref nb)]) hx hb dNa_becomeDifference_9 hl (by decide) rfl (fun ls hl => ?_)
  exact loop ka 0 (by omega) w H [] ls 0 g hw (lv_sub hl [0, 1, 2, 3, 4, 5] rfl) o1 (fun q _ => rfl) og (fun j hj => absurd hj (by omega)) (by decide) (by rw [nv_0, nv_0, nv_0]; simp)
end NA4
