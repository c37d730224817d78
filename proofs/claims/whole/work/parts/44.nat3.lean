theorem nI_max {x y : Nat} (hx : x < 2 ^ 31) (hy : y < 2 ^ 31) : (if nI x < nI y then nI y else nI x) = nI (max x y) := by
  by_cases h : x < y
  · rw [if_pos ((nI_ltI hx hy).mpr h), Nat.max_eq_right (by omega)]
  · rw [if_neg (fun h2 => h ((nI_ltI hx hy).mp h2)), Nat.max_eq_left (by omega)]
theorem fw_max {p : Program} {l : Launch} {e : Env} {R : Room} {s : State} {m : MethodId} {args : Array Value} {below : List Frame} {meth : Method} {c : Code} {H : Heap} {locs : List Loc} {cells slots : Nat} {Q : State → Prop} {cc : ByteArray} {pc : Nat} {ls : Array Slot} {rest : List Value} (hexec : p.tables.exec = Jvm.exec) (hb : c.code = cc) {own : String} {index : Nat} (hown : s.vm.findClass own = some m.cls)
    (hlink : (Cond.methodLink own index Lib.Math.max.name).before args s = true) (hstat : (Cond.static Lib.Math.max.name).before args s = true) (hinit : (Cond.initialized "java/lang/Math").before args s = true) (hcode : (Cond.code Lib.Math.max.name Lib.Math.max.code 2 (some .int)).before args s = true)
    {a b : Int32} (hsize : ls.size = c.maxLocals) (hdg : decode cc pc = .ok (.invokestatic index, 3)) (hframes : 1 ≤ R.frames) (hlocals : (rest.map fun v => v.category).sum + 13 ≤ R.locals) (hcells : cells ≤ R.cells) (hslots : slots ≤ R.slots)
    (kk : W p l e R s m args below meth c H locs cells slots Q (F0 m (pc + 3) ls (.int (if a < b then b else a) :: rest))) : W p l e R s m args below meth c H locs cells slots Q (F0 m pc ls (.int b :: .int a :: rest)) := by
  intro T hT X
  obtain ⟨vm', X', st⟩ := va_mathMaxV X hexec hown hlink hstat hinit hcode (g := F0 m pc ls (.int b :: .int a :: rest)) rfl hsize rfl (by rw [hb]; exact hdg) hframes (by show 2 * 0 + _ + 13 ≤ _; omega) hcells hslots
  obtain ⟨t, a1, b1⟩ := kk (T.setVm vm') hT X'
  exact ⟨t, st t a1, b1⟩
theorem nk_size {g : Nat → Nat} {n m : Nat} (hk : nk nB g n) (h : nv nB g n < nB ^ m) : n ≤ m := by
  refine Classical.byContradiction fun h2 => ?_
  cases n with
  | zero => omega
  | succ n =>
    have h3 := nv_top (b := nB) (g := g) (n := n) (hk.2 (by omega))
    have h4 : nB ^ m ≤ nB ^ n := Nat.pow_le_pow_right (by decide) (by omega)
    omega
/-! BigCalculator.Natural, third part. Written by wip/gen/natural3.py. -/
section NA3
variable {l : Launch} {D : va_G} {cI cL cQ : ClassId} {z : kZ_T} {sz : Nat} {w : fw_W}
set_option maxHeartbeats 4000000 in
set_option maxRecDepth 100000 in
theorem c_Na_becomeSum {n na nb x y y0 : Nat} (hpa : na + 1 < n ∨ n + 1 < na) (hpb : nb + 1 < n ∨ n + 1 < nb) (hv : isV cL w n y0) (hva : isV cL w na x) (hvb : isV cL w nb y) (hxl : x < nB ^ 49) (hyl : y < nB ^ 49) : fw_C l yNa_becomeSum (Cond.code yNa_becomeSum cNa_becomeSum 9 none :: kWs) ({ frames := 1, cells := 0, slots := 0, locals := 21 } : Room) D kCl (kty cI cL cQ) z [.ref n, .ref na, .ref nb] (sz) w 0 0 (fun v w' => v = none ∧ isV cL w' n (x + y) ∧ ∀ q, q ≠ n → q ≠ n + 1 → w' q = w q) := by
  refine fw_ofW (cc := cNa_becomeSum) (maxL := 9) (ret := none) (by decide) rfl (Nat.le_of_ble_eq_true rfl) ?_
  intro p e s m args below meth c hx hb hr hts hown hlocks hname hml hK H ls hw hl
  have hW : ∀ w ∈ kWs, w.before args s = true := fun w h => hts w (List.mem_cons_of_mem _ h)
  have hown : s.vm.findClass RNa = some m.cls := hown
  have hl : lv_has ls 9 [(0, .ref n), (1, .ref na), (2, .ref nb)] := hl
  obtain ⟨g, k, ⟨o0, o1⟩, ok, og, on, ov⟩ := id hv
  obtain ⟨ga, ka, ⟨a0, a1⟩, ak, ag, an, av⟩ := id hva
  obtain ⟨gb, kb, ⟨b0, b1⟩, bk, bg, bn, bv⟩ := id hvb
  have la : ka ≤ 49 := nk_size an (by rw [av]; exact hxl)
  have lb : kb ≤ 49 := nk_size bn (by rw [bv]; exact hyl)
  have loop : ∀ (d i : Nat), i + d = max ka kb → ∀ (w1 : fw_W) (H : Heap) (locs : List Loc) (ls : Array Slot) (cy : Nat) (g1 : Nat → Nat), fw_H D kCl (fw_A w (sz)) s.heap w1 (sz) H locs → lv_has ls 9 [(6, .int (nI i)), (4, .long (lN cy)), (3, .int (nI (max ka kb))), (0, .ref n), (1, .ref na), (2, .ref nb)] → w1 (n + 1) = some (.inl (cL, 50, .inr (.inl (fun i => lN (g1 i))))) → (∀ q, q ≠ n + 1 → w1 q = w q) → (∀ j, j < 50 → g1 j < 2 ^ 64) → (∀ j, j < i → g1 j < nB) → cy ≤ 1 → nv nB g1 i + cy * nB ^ i = nv nB (nl ga ka) i + nv nB (nl gb kb) i → W p l e ({ frames := 1, cells := 0, slots := 0, locals := 21 } : Room) s m args below meth c H locs 0 0 (MQ below (fw_Q D kCl w (sz) 0 (fun v w' => v = none ∧ isV cL w' n (x + y) ∧ ∀ q, q ≠ n → q ≠ n + 1 → w' q = w q)) args s 0 0 (fw_A w (sz))) (F0 m 18 ls []) := by
    intro d
    induction d with
    | zero =>
      intro i hid w1 H locs ls cy g1 hw hl h2 ho hg hgb hcy hs
      have hm : max ka kb ≤ 49 := Nat.max_le.mpr ⟨la, lb⟩
      have o0 : w1 n = some (.inr (5, [.ref (n + 1), .int (nI k)])) := (ho _ (by omega)).trans o0
      have a0 : w1 na = some (.inr (5, [.ref (na + 1), .int (nI ka)])) := (ho _ (by omega)).trans a0
      have a1 : w1 (na + 1) = some (.inl (cL, 50, .inr (.inl (fun i => lN (ga i))))) := (ho _ (by omega)).trans a1
      have b0 : w1 nb = some (.inr (5, [.ref (nb + 1), .int (nI kb)])) := (ho _ (by omega)).trans b0
      have b1 : w1 (nb + 1) = some (.inl (cL, 50, .inr (.inl (fun i => lN (gb i))))) := (ho _ (by omega)).trans b1
      obtain hie : i = max ka kb := by omega
      refine lv_iload (pc := 18) hx hb dNa_becomeSum_18 (lv_at hl 0 rfl) ?_
      refine lv_iload_n (pc := 20) hx hb dNa_becomeSum_20 rfl (lv_at hl 2 rfl) ?_
      refine lv_icmp_ge (pc := 21) (tgt := 68) hx hb dNa_becomeSum_21 (by decide) (fun _ => ?_) (fun hc => absurd (nI_le (by omega) (by omega)) hc)
      refine lv_aload_n (pc := 68) hx hb dNa_becomeSum_68 rfl (lv_at hl 3 rfl) ?_
      refine fw_get (pc := 69) (ci := 5) (v := .ref (n + 1)) (C := RNa) (T := TNa) (N := 2) hx hb hW in_Na hown hK.1 hw o0 rfl 0 (by decide) (hW _ lf_Na_9) (fun _ h => h) rfl dNa_becomeSum_69 ?_
      refine lv_iload_n (pc := 72) hx hb dNa_becomeSum_72 rfl (lv_at hl 2 rfl) ?_
      refine lv_lload (pc := 73) hx hb dNa_becomeSum_73 (lv_at hl 1 rfl) ?_
      refine fw_lastN (pc := 75) (f2 := fun j => lN (va_up g1 (max ka kb) cy j)) hx hb hK.1 hw 1 h2 rfl (max ka kb) (by omega) (by decide) (lN_up _ _ _) dNa_becomeSum_75 (fun H locs hw => ?_)
      obtain ⟨w2, e2⟩ : ∃ w_, w_ = fw_up w1 (n + 1) (.inl (cL, 50, .inr (.inl (fun j => lN (va_up g1 (max ka kb) cy j))))) := ⟨_, rfl⟩
      have hw : fw_H D kCl (fw_A w (sz)) s.heap w2 (sz) H locs := by rw [e2]; exact hw
      have o0_ : w2 (n) = some (.inr (5, [.ref (n + 1), .int (nI k)])) := by rw [e2, fw_un (by omega)]; exact o0
      have h2_ : w2 (n + 1) = some (.inl (cL, 50, .inr (.inl (fun j => lN (va_up g1 (max ka kb) cy j))))) := by rw [e2]; exact fw_us _ _ _
      have o0 := o0_
      have h2 := h2_
      refine lv_aload_n (pc := 76) hx hb dNa_becomeSum_76 rfl (lv_at hl 3 rfl) ?_
      refine lv_iload_n (pc := 77) hx hb dNa_becomeSum_77 rfl (lv_at hl 2 rfl) ?_
      refine lv_iconst (pc := 78) (v := (nI 1)) hx hb dNa_becomeSum_78 (by decide) ?_
      refine lv_iadd (pc := 79) hx hb dNa_becomeSum_79 ?_
      rw [show ((nI (max ka kb) + (nI 1)) : Int32) = nI (max ka kb + 1) from (nI_add (max ka kb) 1)]
      have hg2 : ∀ j, j < 50 → va_up g1 (max ka kb) cy j < 2 ^ 64 := fun j hj => by (unfold va_up; split; omega; exact hg j hj)
      refine fw_cV (pc := 80) (As := [.int (nI (max ka kb + 1))]) (rest := []) ⟨hx, hb, hml, hown, hW⟩ (c_Na_trim (k := max ka kb + 1) (by omega) hg2 o0 h2) (cwV 1 hW (kw_V lm_Na_41 im_Na_trim se_Na_trim ini_Na cd_Na_trim) rfl rfl rfl (by decide +kernel) ⟨Nat.le_of_ble_eq_true rfl, Nat.le_of_ble_eq_true rfl⟩) hK hw o0 rfl rfl hl.1 rfl (Nat.le_of_ble_eq_true rfl) dNa_becomeSum_80 ⟨Nat.le_of_ble_eq_true rfl, Nat.le_of_ble_eq_true rfl⟩ (fun v w3 H locs hq hw => ?_)
      obtain ⟨rfl, j, hj, hz, hnz, f1, hto⟩ := hq
      refine W.eq (g2 := F0 m 83 ls []) rfl ?_
      have hval : nv nB (va_up g1 (max ka kb) cy) (max ka kb + 1) = x + y := by rw [nv_more rfl, ← hie, hs, nv_nl (by omega), nv_nl (by omega), av, bv]
      exact fw_vret (pc := 83) hx hb hr hlocks hw dNa_becomeSum_83 ⟨rfl, ⟨_, j, ⟨f1, (hto _ (by omega)).trans h2⟩, by omega, hg2, ⟨fun q hq => by (unfold va_up; split; exact Nat.lt_of_le_of_lt hcy (by decide); exact hgb q (by omega)), hnz⟩, (nv_cut hj hz).symm.trans hval⟩, fun q h1 h3 => by rw [hto q h1, e2, fw_un h3, ho q h3]⟩
    | succ d ih =>
      intro i hid w1 H locs ls cy g1 hw hl h2 ho hg hgb hcy hs
      have hm : max ka kb ≤ 49 := Nat.max_le.mpr ⟨la, lb⟩
      have o0 : w1 n = some (.inr (5, [.ref (n + 1), .int (nI k)])) := (ho _ (by omega)).trans o0
      have a0 : w1 na = some (.inr (5, [.ref (na + 1), .int (nI ka)])) := (ho _ (by omega)).trans a0
      have a1 : w1 (na + 1) = some (.inl (cL, 50, .inr (.inl (fun i => lN (ga i))))) := (ho _ (by omega)).trans a1
      have b0 : w1 nb = some (.inr (5, [.ref (nb + 1), .int (nI kb)])) := (ho _ (by omega)).trans b0
      have b1 : w1 (nb + 1) = some (.inl (cL, 50, .inr (.inl (fun i => lN (gb i))))) := (ho _ (by omega)).trans b1
      refine lv_iload (pc := 18) hx hb dNa_becomeSum_18 (lv_at hl 0 rfl) ?_
      refine lv_iload_n (pc := 20) hx hb dNa_becomeSum_20 rfl (lv_at hl 2 rfl) ?_
      refine lv_icmp_ge (pc := 21) (tgt := 68) hx hb dNa_becomeSum_21 (by decide) (fun hc => absurd hc (nI_ge (show i < max ka kb by omega) (by omega))) (fun _ => ?_)
      refine lv_aload_n (pc := 24) hx hb dNa_becomeSum_24 rfl (lv_at hl 4 rfl) ?_
      refine lv_iload (pc := 25) hx hb dNa_becomeSum_25 (lv_at hl 0 rfl) ?_
      refine fw_cVR (pc := 27) (As := [.int (nI i)]) (rest := []) ⟨hx, hb, hml, hown, hW⟩ (c_Na_limbAt ak (by omega) a0 a1) (cwV 1 hW (kw_V lm_Na_29 im_Na_limbAt se_Na_limbAt ini_Na cd_Na_limbAt) rfl rfl rfl (by decide +kernel) ⟨Nat.le_of_ble_eq_true rfl, Nat.le_of_ble_eq_true rfl⟩) hK hw a0 rfl rfl hl.1 rfl (Nat.le_of_ble_eq_true rfl) dNa_becomeSum_27 ⟨Nat.le_of_ble_eq_true rfl, Nat.le_of_ble_eq_true rfl⟩ (fun v hq => ?_)
      subst hq
      refine W.eq (g2 := F0 m 30 ls [.long (lN (nl ga ka i))]) rfl ?_
      refine lv_aload_n (pc := 30) hx hb dNa_becomeSum_30 rfl (lv_at hl 5 rfl) ?_
      refine lv_iload (pc := 31) hx hb dNa_becomeSum_31 (lv_at hl 0 rfl) ?_
      refine fw_cVR (pc := 33) (As := [.int (nI i)]) (rest := [.long (lN (nl ga ka i))]) ⟨hx, hb, hml, hown, hW⟩ (c_Na_limbAt bk (by omega) b0 b1) (cwV 1 hW (kw_V lm_Na_29 im_Na_limbAt se_Na_limbAt ini_Na cd_Na_limbAt) rfl rfl rfl (by decide +kernel) ⟨Nat.le_of_ble_eq_true rfl, Nat.le_of_ble_eq_true rfl⟩) hK hw b0 rfl rfl hl.1 rfl (Nat.le_of_ble_eq_true rfl) dNa_becomeSum_33 ⟨Nat.le_of_ble_eq_true rfl, Nat.le_of_ble_eq_true rfl⟩ (fun v hq => ?_)
      subst hq
      refine W.eq (g2 := F0 m 36 ls [.long (lN (nl gb kb i)), .long (lN (nl ga ka i))]) rfl ?_
      have l1 : nl ga ka i < nB := nl_lt (by decide) an.1
      have l2 : nl gb kb i < nB := nl_lt (by decide) bn.1
      have l3 : nB = 4294967296 := rfl
      refine lv_ladd (pc := 36) hx hb dNa_becomeSum_36 ?_
      rw [show ((lN (nl ga ka i) + lN (nl gb kb i)) : Int64) = lN (nl ga ka i + nl gb kb i) from (lN_add _ _)]
      refine lv_lload (pc := 37) hx hb dNa_becomeSum_37 (lv_at hl 1 rfl) ?_
      refine lv_ladd (pc := 39) hx hb dNa_becomeSum_39 ?_
      rw [show ((lN (nl ga ka i + nl gb kb i) + lN cy) : Int64) = lN (nl ga ka i + nl gb kb i + cy) from (lN_add _ _)]
      obtain ⟨sm, hsm⟩ : ∃ sm, sm = nl ga ka i + nl gb kb i + cy := ⟨_, rfl⟩
      rw [show (lN (nl ga ka i + nl gb kb i + cy) : Int64) = lN sm from (by rw [hsm])]
      have hs64 : sm < 2 ^ 64 := by omega
      refine lv_lstore (pc := 40) (lv' := [(7, .long (lN sm)), (6, .int (nI i)), (4, .long (lN cy)), (3, .int (nI (max ka kb))), (0, .ref n), (1, .ref na), (2, .ref nb)]) hx hb dNa_becomeSum_40 hl (by decide) rfl (fun ls hl => ?_)
      refine lv_aload_n (pc := 42) hx hb dNa_becomeSum_42 rfl (lv_at hl 4 rfl) ?_
      refine fw_get (pc := 43) (ci := 5) (v := .ref (n + 1)) (C := RNa) (T := TNa) (N := 2) hx hb hW in_Na hown hK.1 hw o0 rfl 0 (by decide) (hW _ lf_Na_9) (fun _ h => h) rfl dNa_becomeSum_43 ?_
      refine lv_iload (pc := 46) hx hb dNa_becomeSum_46 (lv_at hl 1 rfl) ?_
      refine lv_lload (pc := 48) hx hb dNa_becomeSum_48 (lv_at hl 0 rfl) ?_
      refine lv_ldc2 (pc := 50) (v := lN 4294967295) hx hb hown (hW _ kl_Na_39) dNa_becomeSum_50 ?_
      refine lv_land (pc := 53) hx hb dNa_becomeSum_53 ?_
      rw [show ((lN sm &&& (lN 4294967295)) : Int64) = lN (sm % 4294967296) from (g_mask (s := 32) (p := 4294967296) (by decide) (by decide) hs64)]
      refine fw_lastN (pc := 54) (f2 := fun j => lN (va_up g1 i (sm % 4294967296) j)) hx hb hK.1 hw 1 h2 rfl (i) (show i < 50 by omega) (by decide) (lN_up _ _ _) dNa_becomeSum_54 (fun H locs hw => ?_)
      obtain ⟨w2, e2⟩ : ∃ w_, w_ = fw_up w1 (n + 1) (.inl (cL, 50, .inr (.inl (fun j => lN (va_up g1 i (sm % 4294967296) j))))) := ⟨_, rfl⟩
      have hw : fw_H D kCl (fw_A w (sz)) s.heap w2 (sz) H locs := by rw [e2]; exact hw
      have o0_ : w2 (n) = some (.inr (5, [.ref (n + 1), .int (nI k)])) := by rw [e2, fw_un (by omega)]; exact o0
      have h2_ : w2 (n + 1) = some (.inl (cL, 50, .inr (.inl (fun j => lN (va_up g1 i (sm % 4294967296) j))))) := by rw [e2]; exact fw_us _ _ _
      have o0 := o0_
      have h2 := h2_
      refine lv_lload (pc := 55) hx hb dNa_becomeSum_55 (lv_at hl 0 rfl) ?_
      refine lv_bipush (pc := 57) (v := (nI 32)) hx hb dNa_becomeSum_57 (by decide) ?_
      refine lv_lushr (pc := 59) (v := lN (sm / 4294967296)) hx hb dNa_becomeSum_59 (wb_shr (k := 32) hs64 (by decide)) ?_
      refine lv_lstore (pc := 60) (lv' := [(4, .long (lN (sm / 4294967296))), (7, .long (lN sm)), (6, .int (nI i)), (3, .int (nI (max ka kb))), (0, .ref n), (1, .ref na), (2, .ref nb)]) hx hb dNa_becomeSum_60 hl (by decide) rfl (fun ls hl => ?_)
      refine lv_iinc (pc := 62) (lv' := [(6, .int (nI (i + 1))), (4, .long (lN (sm / 4294967296))), (7, .long (lN sm)), (3, .int (nI (max ka kb))), (0, .ref n), (1, .ref na), (2, .ref nb)]) hx hb dNa_becomeSum_62 hl (k := 2) rfl ((nI_add i 1)) (by decide) rfl (fun ls hl => ?_)
      refine lv_goto (pc := 65) (tgt := 18) hx hb dNa_becomeSum_65 (by decide) ?_
      refine ih (i + 1) (by omega) _ H locs ls (sm / 4294967296) (va_up g1 i (sm % 4294967296)) hw (lv_sub hl [0, 1, 3, 4, 5, 6] rfl) h2 (fun q hq => by rw [e2, fw_un hq, ho q hq]) (fun j hj => by (unfold va_up; split; omega; exact hg j hj)) (fun j hj => by (unfold va_up; split; exact Nat.mod_lt _ (by decide); exact hgb j (by omega))) (by omega) ?_
      have hc9 := nv_carry (b := nB) hs sm
      rw [nv_s nB (nl ga ka) i, nv_s nB (nl gb kb) i]
      have hm9 : sm * nB ^ i = nl ga ka i * nB ^ i + nl gb kb i * nB ^ i + cy * nB ^ i := by rw [hsm, Nat.add_mul, Nat.add_mul]
      show nv nB (va_up g1 i (sm % nB)) (i + 1) + sm / nB * nB ^ (i + 1) = _
      omega
  refine lv_aload_n (pc := 0) hx hb dNa_becomeSum_0 rfl (lv_at hl 1 rfl) ?_
  refine fw_get (pc := 1) (ci := 5) (v := .int (nI ka)) (C := RNa) (T := TNa) (N := 2) hx hb hW in_Na hown hK.1 hw a0 rfl 1 (by decide) (hW _ lf_Na_15) (fun _ h => h) rfl dNa_becomeSum_1 ?_
  refine lv_aload_n (pc := 4) hx hb dNa_becomeSum_4 rfl (lv_at hl 2 rfl) ?_
  refine fw_get (pc := 5) (ci := 5) (v := .int (nI kb)) (C := RNa) (T := TNa) (N := 2) hx hb hW in_Na hown hK.1 hw b0 rfl 1 (by decide) (hW _ lf_Na_15) (fun _ h => h) rfl dNa_becomeSum_5 ?_
  refine fw_max (pc := 8) hx hb hown (hW _ lm_Na_48) (hW _ sta_Jm_max) (hW _ ini_Jm) (hW _ cd_Jm_max) (by rw [hml]; exact hl.1) dNa_becomeSum_8 (Nat.le_of_ble_eq_true rfl) (Nat.le_of_ble_eq_true rfl) (Nat.zero_le _) (Nat.zero_le _) ?_
  rw [nI_max (show ka < 2 ^ 31 by omega) (show kb < 2 ^ 31 by omega)]
  refine lv_istore_n (pc := 11) (lv' := [(3, .int (nI (max ka kb))), (0, .ref n), (1, .ref na), (2, .ref nb)]) hx hb dNa_becomeSum_11 rfl hl (by decide) rfl (fun ls hl => ?_)
  refine lv_lconst (pc := 12) (v := lN 0) hx hb dNa_becomeSum_12 (by decide) ?_
  refine lv_lstore (pc := 13) (lv' := [(4, .long (lN 0)), (3, .int (nI (max ka kb))), (0, .ref n), (1, .ref na), (2, .ref nb)]) hx hb dNa_becomeSum_13 hl (by decide) rfl (fun ls hl => ?_)
  refine lv_iconst (pc := 15) (v := (nI 0)) hx hb dNa_becomeSum_15 (by decide) ?_
  refine lv_istore (pc := 16) (lv' := [(6, .int (nI 0)), (4, .long (lN 0)), (3, .int (nI (max ka kb))), (0, .ref n), (1, .ref na), (2, .ref nb)]) hx hb dNa_becomeSum_16 hl (by decide) rfl (fun ls hl => ?_)
  exact loop (max ka kb) 0 (by omega) w H [] ls 0 g hw (lv_sub hl [0, 1, 2, 3, 4, 5] rfl) o1 (fun q _ => rfl) og (fun j hj => absurd hj (by omega)) (by decide) (by rw [nv_0, nv_0, nv_0]; simp)
end NA3
