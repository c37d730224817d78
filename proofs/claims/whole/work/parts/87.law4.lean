/-! The law's roads, one call each, where they answer. Written by wip/gen/law4.py. -/
section LAW4
variable {p : Program} {l : Launch} {e : Env} {s : State} {m : MethodId} {args : Array Value} {below : List Frame} {meth : Method} {c : Code} {H : Heap} {locs : List Loc} {cells slots : Nat} {Q : State → Prop} {ls : Array Slot} {D : va_G} {A : Nat → Prop} {cI cL cQ : ClassId} {tO tB tC : Nat} {sa : Nat → Nat} {w : fw_W} {n b a0 L i : Nat} {xs : Nat → Int32} {f : Nat → Int64} {I : Nat → Nat} {J : Nat → Nat → Nat} {V G : Nat → Nat} {MI : Nat → Nat} {K : Nat → Nat → Nat} {S : Nat → Int32} {X : Nat → Nat}
set_option maxHeartbeats 4000000 in
set_option maxRecDepth 100000 in
theorem s_sign (hx : p.tables.exec = Jvm.exec) (hb : c.code = code) (hown : s.vm.findClass RLa = some m.cls) (hml : c.maxLocals = 8) (hW : ∀ w ∈ kWs, w.before args s = true) (hK : kK D kCl (kty cI cL cQ) (kz tO tB tC sa) A s s.heap) (hst : l.stackTraces = false) (hX : va_X a0 L xs s s.heap) (hbl : a0 < s.heap.size) (hbA : ¬ A a0) (hL : L < 2 ^ 31) (hi : i + 4 ≤ L) (hcs : cells + 1 ≤ 601024) (hss : slots + 6 ≤ 7293034) (hw : fw_H D kCl A s.heap w n H locs) (hl : lv_has ls 8 [(4, .int (nI i)), (3, .ref (b + 95)), (2, .ref (b + 86)), (1, .ref b), (0, .ref a0)]) (hB : bcS cI cL cQ w b I J V G) (hM : moS cI cL w (b + 86) MI K S (mC X)) (hO : w (b + 95) = some (.inl (cL, 1, .inr (.inl f)))) (heq : (if V 0 = 0 then nI 0 else if G 0 = 0 then nI 1 else -1) = S 0) (h0 : 0 < I 1) (h1 : I 1 < 2 ^ 31) (h4 : I 4 = I 1) (h6 : MI 6 < 2 ^ 31) (h7 : MI 7 < 2 ^ 31) (h16 : MI 16 < 2 ^ 31) (hnm : 0 < MI 6 ∧ MI 16 = MI 7) (hG : gOk V G) (hX9 : ∀ p, X p < nM ^ 64) (kk : ∀ (w1 : fw_W) (n1 : Nat) (H1 : Heap) (locs1 : List Loc) (ls1 : Array Slot) (f1 : Nat → Int64), fw_H D kCl A s.heap w1 n1 H1 locs1 → bcS cI cL cQ w1 b I J V G → moS cI cL w1 (b + 86) (va_up MI 0 0) K S (mC X) → w1 (b + 95) = some (.inl (cL, 1, .inr (.inl f1))) → lv_has ls1 8 [(4, .int (nI i)), (3, .ref (b + 95)), (2, .ref (b + 86)), (1, .ref b), (0, .ref a0)] → W p l e room_1 s m args below meth c H1 locs1 (cells + 1) (slots + 6) Q (F0 m 609 ls1 [])) : W p l e room_1 s m args below meth c H locs cells slots Q (F0 m 373 ls []) := by
  refine lv_aload_n (pc := 373) hx hb dLa_law_373 rfl (lv_at hl 3 rfl) ?_
  refine lv_aload_n (pc := 374) hx hb dLa_law_374 rfl (lv_at hl 1 rfl) ?_
  refine fw_cSL (pc := 375) (As := [.ref b, .ref (b + 95)]) (rest := []) (mc := 0) (ms := 0) ⟨hx, hb, hml, hown, hW⟩ (w_sign hB h0 h1 h4 hG (Or.inr (by omega)) hO) (fw_wLof 2 hW lm_La_83 sta_La_sign ini_La cd_La_sign rfl rfl (by decide +kernel) ⟨Nat.le_of_ble_eq_true rfl, Nat.le_of_ble_eq_true rfl⟩) hK hw rfl hl.1 rfl (Nat.le_of_ble_eq_true rfl) dLa_law_375 ⟨by show _ ≤ 601024; omega, by show _ ≤ 7293034; omega⟩ (fun v w1 n1 H locs hq hw => ?_)
  obtain ⟨rfl, hO_, hfr⟩ := hq
  have hB := hB.kept (fun a h1 h2 => hfr a (by omega))
  have hM := hM.kept (fun a h1 h2 => hfr a (by omega))
  have hO := hO_
  refine W.eq (g2 := F0 m 378 ls [.int (nI 0)]) rfl ?_
  refine lv_istore (pc := 378) (lv' := [(5, .int (nI 0)), (4, .int (nI i)), (3, .ref (b + 95)), (2, .ref (b + 86)), (1, .ref b), (0, .ref a0)]) hx hb dLa_law_378 hl (by decide) rfl (fun ls hl => ?_)
  refine lv_aload_n (pc := 380) hx hb dLa_law_380 rfl (lv_at hl 3 rfl) ?_
  refine fw_cV (pc := 381) (As := []) (rest := []) ⟨hx, hb, hml, hown, hW⟩ (c_Mo_sign hM hX9 h6 h7 h16 hnm) (cwV 0 hW (kw_V lm_La_86 im_Mo_sign se_Mo_sign ini_Mo cd_Mo_sign) rfl rfl rfl (by decide +kernel) ⟨Nat.le_of_ble_eq_true rfl, Nat.le_of_ble_eq_true rfl⟩) hK hw hM.1 rfl rfl hl.1 rfl (Nat.le_of_ble_eq_true rfl) dLa_law_381 ⟨by show _ ≤ 601024; omega, by show _ ≤ 7293034; omega⟩ (fun v w2 H locs hq hw => ?_)
  obtain ⟨rfl, hM_, hfr⟩ := hq
  have hB := hB.kept (fun a h1 h2 => hfr a (by omega))
  have hO := (hfr _ (by omega)).trans hO
  have hM := hM_
  refine W.eq (g2 := F0 m 384 ls [.int (S 0)]) rfl ?_
  refine lv_istore (pc := 384) (lv' := [(6, .int (S 0)), (5, .int (nI 0)), (4, .int (nI i)), (3, .ref (b + 95)), (2, .ref (b + 86)), (1, .ref b), (0, .ref a0)]) hx hb dLa_law_384 hl (by decide) rfl (fun ls hl => ?_)
  refine lv_aload_n (pc := 386) hx hb dLa_law_386 rfl (lv_at hl 4 rfl) ?_
  refine fw_cVR (pc := 387) (As := []) (rest := []) ⟨hx, hb, hml, hown, hW⟩ (c_Mo_thrown hM) (cwV 0 hW (kw_V lm_La_58 im_Mo_thrown se_Mo_thrown ini_Mo cd_Mo_thrown) rfl rfl rfl (by decide +kernel) ⟨Nat.le_of_ble_eq_true rfl, Nat.le_of_ble_eq_true rfl⟩) hK hw hM.1 rfl rfl hl.1 rfl (Nat.le_of_ble_eq_true rfl) dLa_law_387 ⟨by show _ ≤ 601024; omega, by show _ ≤ 7293034; omega⟩ (fun v hq => ?_)
  have hq : v = some (.int (nI 0)) := hq
  subst hq
  refine W.eq (g2 := F0 m 390 ls [.int (nI 0)]) rfl ?_
  refine lv_iload (pc := 390) hx hb dLa_law_390 (lv_at hl 1 rfl) ?_
  refine lv_icmp_eq (pc := 392) (tgt := 397) hx hb dLa_law_392 (by decide) (fun _ => ?_) (fun hc => absurd rfl hc)
  refine lv_iload (pc := 397) hx hb dLa_law_397 (lv_at hl 1 rfl) ?_
  refine lv_if_ne (pc := 399) (tgt := 414) hx hb dLa_law_399 (by decide) (fun hc => absurd hc (fun h => h rfl)) (fun _ => ?_)
  refine lv_aload_n (pc := 402) hx hb dLa_law_402 rfl (lv_at hl 3 rfl) ?_
  refine lv_iconst (pc := 403) (v := (nI 0)) hx hb dLa_law_403 (by decide) ?_
  refine fw_laldN (pc := 404) (x := ((if V 0 = 0 then nI 0 else if G 0 = 0 then nI 1 else -1).toInt64)) hx hb hK.1 hw 1 hO rfl (0) (by decide) (by decide) rfl dLa_law_404 ?_
  refine lv_iload (pc := 405) hx hb dLa_law_405 (lv_at hl 0 rfl) ?_
  refine lv_i2l (pc := 407) (v := ((S 0).toInt64)) hx hb dLa_law_407 rfl ?_
  refine W.lcmp (pc := 408) hx hb dLa_law_408 ?_
  refine lv_if_eq (pc := 409) (tgt := 414) hx hb dLa_law_409 (by decide) (fun _ => ?_) (fun hc => absurd (by rw [heq]; exact (lg_cmp_eq _ _).mpr rfl) hc)
  refine lv_goto (pc := 414) (tgt := 609) hx hb dLa_law_414 (by decide) ?_
  refine W.widen (k := cells + 1) (n := slots + 6) (by omega) (by omega) ?_
  exact kk  _ _ H locs ls _ hw hB hM hO (lv_sub hl [2, 3, 4, 5, 6] rfl)

set_option maxHeartbeats 4000000 in
set_option maxRecDepth 100000 in
theorem s_limb (hx : p.tables.exec = Jvm.exec) (hb : c.code = code) (hown : s.vm.findClass RLa = some m.cls) (hml : c.maxLocals = 8) (hW : ∀ w ∈ kWs, w.before args s = true) (hK : kK D kCl (kty cI cL cQ) (kz tO tB tC sa) A s s.heap) (hst : l.stackTraces = false) (hX : va_X a0 L xs s s.heap) (hbl : a0 < s.heap.size) (hbA : ¬ A a0) (hL : L < 2 ^ 31) (hi : i + 4 ≤ L) (hcs : cells + 1 ≤ 601024) (hss : slots + 6 ≤ 7293034) (hw : fw_H D kCl A s.heap w n H locs) (hl : lv_has ls 8 [(4, .int (nI i)), (3, .ref (b + 95)), (2, .ref (b + 86)), (1, .ref b), (0, .ref a0)]) (hB : bcS cI cL cQ w b I J V G) (hM : moS cI cL w (b + 86) MI K S (mC X)) (hO : w (b + 95) = some (.inl (cL, 1, .inr (.inl f)))) {k : Nat} (hk : k < 24) (hke : xs (i + 1) = nI k) (hv0 : V 0 = X 0) (h0 : 0 < I 1) (h1 : I 1 < 2 ^ 31) (h4 : I 4 = I 1) (h6 : MI 6 < 2 ^ 31) (h7 : MI 7 < 2 ^ 31) (h16 : MI 16 < 2 ^ 31) (hnm : 0 < MI 6 ∧ MI 16 = MI 7) (hG : gOk V G) (hX9 : ∀ p, X p < nM ^ 64) (kk : ∀ (w1 : fw_W) (n1 : Nat) (H1 : Heap) (locs1 : List Loc) (ls1 : Array Slot) (f1 : Nat → Int64), fw_H D kCl A s.heap w1 n1 H1 locs1 → bcS cI cL cQ w1 b I J V G → moS cI cL w1 (b + 86) (va_up MI 0 0) K S (mC X) → w1 (b + 95) = some (.inl (cL, 1, .inr (.inl f1))) → lv_has ls1 8 [(4, .int (nI i)), (3, .ref (b + 95)), (2, .ref (b + 86)), (1, .ref b), (0, .ref a0)] → W p l e room_1 s m args below meth c H1 locs1 (cells + 1) (slots + 6) Q (F0 m 609 ls1 [])) : W p l e room_1 s m args below meth c H locs cells slots Q (F0 m 417 ls []) := by
  refine lv_aload_n (pc := 417) hx hb dLa_law_417 rfl (lv_at hl 3 rfl) ?_
  refine lv_aload_n (pc := 418) hx hb dLa_law_418 rfl (lv_at hl 4 rfl) ?_
  refine lv_iload (pc := 419) hx hb dLa_law_419 (lv_at hl 0 rfl) ?_
  refine lv_iconst (pc := 421) (v := (nI 1)) hx hb dLa_law_421 (by decide) ?_
  refine lv_iadd (pc := 422) hx hb dLa_law_422 ?_
  rw [show ((nI i + (nI 1)) : Int32) = nI (i + 1) from (nI_add i 1)]
  refine va_sld (pc := 423) hx hb hX hbl hbA hw.2.2.2.2 (vp_in_nI (show i + 1 < L by omega) hL) dLa_law_423 ?_
  rw [nI_clamp (show i + 1 < 2 ^ 31 by omega)]
  rw [show (xs (i + 1) : Int32) = nI k from hke]
  refine lv_aload_n (pc := 424) hx hb dLa_law_424 rfl (lv_at hl 1 rfl) ?_
  refine fw_cSL (pc := 425) (As := [.ref b, .int (nI k), .ref (b + 95)]) (rest := []) (mc := 0) (ms := 0) ⟨hx, hb, hml, hown, hW⟩ (w_limb hB h0 h1 h4 hk (Or.inr (by omega)) hO) (fw_wLof 3 hW lm_La_87 sta_La_limb ini_La cd_La_limb rfl rfl (by decide +kernel) ⟨Nat.le_of_ble_eq_true rfl, Nat.le_of_ble_eq_true rfl⟩) hK hw rfl hl.1 rfl (Nat.le_of_ble_eq_true rfl) dLa_law_425 ⟨by show _ ≤ 601024; omega, by show _ ≤ 7293034; omega⟩ (fun v w1 n1 H locs hq hw => ?_)
  obtain ⟨rfl, hO_, hfr⟩ := hq
  have hB := hB.kept (fun a h1 h2 => hfr a (by omega))
  have hM := hM.kept (fun a h1 h2 => hfr a (by omega))
  have hO := hO_
  refine W.eq (g2 := F0 m 428 ls [.int (nI 0)]) rfl ?_
  refine lv_istore (pc := 428) (lv' := [(5, .int (nI 0)), (4, .int (nI i)), (3, .ref (b + 95)), (2, .ref (b + 86)), (1, .ref b), (0, .ref a0)]) hx hb dLa_law_428 hl (by decide) rfl (fun ls hl => ?_)
  refine lv_aload_n (pc := 430) hx hb dLa_law_430 rfl (lv_at hl 3 rfl) ?_
  refine lv_aload_n (pc := 431) hx hb dLa_law_431 rfl (lv_at hl 5 rfl) ?_
  refine lv_iload (pc := 432) hx hb dLa_law_432 (lv_at hl 1 rfl) ?_
  refine lv_iconst (pc := 434) (v := (nI 1)) hx hb dLa_law_434 (by decide) ?_
  refine lv_iadd (pc := 435) hx hb dLa_law_435 ?_
  rw [show ((nI i + (nI 1)) : Int32) = nI (i + 1) from (nI_add i 1)]
  refine va_sld (pc := 436) hx hb hX hbl hbA hw.2.2.2.2 (vp_in_nI (show i + 1 < L by omega) hL) dLa_law_436 ?_
  rw [nI_clamp (show i + 1 < 2 ^ 31 by omega)]
  rw [show (xs (i + 1) : Int32) = nI k from hke]
  refine fw_cV (pc := 437) (As := [.int (nI k)]) (rest := []) ⟨hx, hb, hml, hown, hW⟩ (c_Mo_limb hM hX9 h6 h7 h16 hnm hk) (cwV 1 hW (kw_V lm_La_89 im_Mo_limb se_Mo_limb ini_Mo cd_Mo_limb) rfl rfl rfl (by decide +kernel) ⟨Nat.le_of_ble_eq_true rfl, Nat.le_of_ble_eq_true rfl⟩) hK hw hM.1 rfl rfl hl.1 rfl (Nat.le_of_ble_eq_true rfl) dLa_law_437 ⟨by show _ ≤ 601024; omega, by show _ ≤ 7293034; omega⟩ (fun v w2 H locs hq hw => ?_)
  obtain ⟨rfl, hM_, hfr⟩ := hq
  have hB := hB.kept (fun a h1 h2 => hfr a (by omega))
  have hO := (hfr _ (by omega)).trans hO
  have hM := hM_
  refine W.eq (g2 := F0 m 440 ls [.long (lN (X 0 / nB ^ k % nB))]) rfl ?_
  refine lv_lstore (pc := 440) (lv' := [(6, .long (lN (X 0 / nB ^ k % nB))), (5, .int (nI 0)), (4, .int (nI i)), (3, .ref (b + 95)), (2, .ref (b + 86)), (1, .ref b), (0, .ref a0)]) hx hb dLa_law_440 hl (by decide) rfl (fun ls hl => ?_)
  refine lv_aload_n (pc := 442) hx hb dLa_law_442 rfl (lv_at hl 4 rfl) ?_
  refine fw_cVR (pc := 443) (As := []) (rest := []) ⟨hx, hb, hml, hown, hW⟩ (c_Mo_thrown hM) (cwV 0 hW (kw_V lm_La_58 im_Mo_thrown se_Mo_thrown ini_Mo cd_Mo_thrown) rfl rfl rfl (by decide +kernel) ⟨Nat.le_of_ble_eq_true rfl, Nat.le_of_ble_eq_true rfl⟩) hK hw hM.1 rfl rfl hl.1 rfl (Nat.le_of_ble_eq_true rfl) dLa_law_443 ⟨by show _ ≤ 601024; omega, by show _ ≤ 7293034; omega⟩ (fun v hq => ?_)
  have hq : v = some (.int (nI 0)) := hq
  subst hq
  refine W.eq (g2 := F0 m 446 ls [.int (nI 0)]) rfl ?_
  refine lv_iload (pc := 446) hx hb dLa_law_446 (lv_at hl 1 rfl) ?_
  refine lv_icmp_eq (pc := 448) (tgt := 453) hx hb dLa_law_448 (by decide) (fun _ => ?_) (fun hc => absurd rfl hc)
  refine lv_iload (pc := 453) hx hb dLa_law_453 (lv_at hl 1 rfl) ?_
  refine lv_if_ne (pc := 455) (tgt := 469) hx hb dLa_law_455 (by decide) (fun hc => absurd hc (fun h => h rfl)) (fun _ => ?_)
  refine lv_aload_n (pc := 458) hx hb dLa_law_458 rfl (lv_at hl 3 rfl) ?_
  refine lv_iconst (pc := 459) (v := (nI 0)) hx hb dLa_law_459 (by decide) ?_
  refine fw_laldN (pc := 460) (x := (lN (V 0 / nB ^ k % nB))) hx hb hK.1 hw 1 hO rfl (0) (by decide) (by decide) rfl dLa_law_460 ?_
  refine lv_lload (pc := 461) hx hb dLa_law_461 (lv_at hl 0 rfl) ?_
  refine W.lcmp (pc := 463) hx hb dLa_law_463 ?_
  refine lv_if_eq (pc := 464) (tgt := 469) hx hb dLa_law_464 (by decide) (fun _ => ?_) (fun hc => absurd (by rw [hv0]; exact (lg_cmp_eq _ _).mpr rfl) hc)
  refine lv_goto (pc := 469) (tgt := 609) hx hb dLa_law_469 (by decide) ?_
  refine W.widen (k := cells + 1) (n := slots + 6) (by omega) (by omega) ?_
  exact kk  _ _ H locs ls _ hw hB hM hO (lv_sub hl [2, 3, 4, 5, 6] rfl)

set_option maxHeartbeats 4000000 in
set_option maxRecDepth 100000 in
theorem s_compare (hx : p.tables.exec = Jvm.exec) (hb : c.code = code) (hown : s.vm.findClass RLa = some m.cls) (hml : c.maxLocals = 8) (hW : ∀ w ∈ kWs, w.before args s = true) (hK : kK D kCl (kty cI cL cQ) (kz tO tB tC sa) A s s.heap) (hst : l.stackTraces = false) (hX : va_X a0 L xs s s.heap) (hbl : a0 < s.heap.size) (hbA : ¬ A a0) (hL : L < 2 ^ 31) (hi : i + 4 ≤ L) (hcs : cells + 1 ≤ 601024) (hss : slots + 6 ≤ 7293034) (hw : fw_H D kCl A s.heap w n H locs) (hl : lv_has ls 8 [(4, .int (nI i)), (3, .ref (b + 95)), (2, .ref (b + 86)), (1, .ref b), (0, .ref a0)]) (hB : bcS cI cL cQ w b I J V G) (hM : moS cI cL w (b + 86) MI K S (mC X)) (hO : w (b + 95) = some (.inl (cL, 1, .inr (.inl f)))) {j : Nat} (hj : j < 8) (hje : xs (i + 1) = nI j) (ra : X 0 = Int.natAbs (wv (G 0) (V 0)) ∧ S 0 = sg32 (wv (G 0) (V 0))) (rb : X (10 + j) = Int.natAbs (wv (G (10 + j)) (V (10 + j))) ∧ S (10 + j) = sg32 (wv (G (10 + j)) (V (10 + j)))) (h0 : 0 < I 1) (h1 : I 1 < 2 ^ 31) (h4 : I 4 = I 1) (h6 : MI 6 < 2 ^ 31) (h7 : MI 7 < 2 ^ 31) (h16 : MI 16 < 2 ^ 31) (hnm : 0 < MI 6 ∧ MI 16 = MI 7) (hG : gOk V G) (hX9 : ∀ p, X p < nM ^ 64) (kk : ∀ (w1 : fw_W) (n1 : Nat) (H1 : Heap) (locs1 : List Loc) (ls1 : Array Slot) (f1 : Nat → Int64), fw_H D kCl A s.heap w1 n1 H1 locs1 → bcS cI cL cQ w1 b I J V G → moS cI cL w1 (b + 86) (va_up MI 0 0) K S (mC X) → w1 (b + 95) = some (.inl (cL, 1, .inr (.inl f1))) → lv_has ls1 8 [(4, .int (nI i)), (3, .ref (b + 95)), (2, .ref (b + 86)), (1, .ref b), (0, .ref a0)] → W p l e room_1 s m args below meth c H1 locs1 (cells + 1) (slots + 6) Q (F0 m 609 ls1 [])) : W p l e room_1 s m args below meth c H locs cells slots Q (F0 m 528 ls []) := by
  refine lv_aload_n (pc := 528) hx hb dLa_law_528 rfl (lv_at hl 3 rfl) ?_
  refine lv_aload_n (pc := 529) hx hb dLa_law_529 rfl (lv_at hl 4 rfl) ?_
  refine lv_iload (pc := 530) hx hb dLa_law_530 (lv_at hl 0 rfl) ?_
  refine lv_iconst (pc := 532) (v := (nI 1)) hx hb dLa_law_532 (by decide) ?_
  refine lv_iadd (pc := 533) hx hb dLa_law_533 ?_
  rw [show ((nI i + (nI 1)) : Int32) = nI (i + 1) from (nI_add i 1)]
  refine va_sld (pc := 534) hx hb hX hbl hbA hw.2.2.2.2 (vp_in_nI (show i + 1 < L by omega) hL) dLa_law_534 ?_
  rw [nI_clamp (show i + 1 < 2 ^ 31 by omega)]
  rw [show (xs (i + 1) : Int32) = nI j from hje]
  refine lv_aload_n (pc := 535) hx hb dLa_law_535 rfl (lv_at hl 1 rfl) ?_
  refine fw_cSL (pc := 536) (As := [.ref b, .int (nI j), .ref (b + 95)]) (rest := []) (mc := 0) (ms := 0) ⟨hx, hb, hml, hown, hW⟩ (w_compare hB h0 h1 h4 hG hj (Or.inr (by omega)) hO) (fw_wLof 3 hW lm_La_93 sta_La_compare ini_La cd_La_compare rfl rfl (by decide +kernel) ⟨Nat.le_of_ble_eq_true rfl, Nat.le_of_ble_eq_true rfl⟩) hK hw rfl hl.1 rfl (Nat.le_of_ble_eq_true rfl) dLa_law_536 ⟨by show _ ≤ 601024; omega, by show _ ≤ 7293034; omega⟩ (fun v w1 n1 H locs hq hw => ?_)
  obtain ⟨rfl, hO_, hfr⟩ := hq
  have hB := hB.kept (fun a h1 h2 => hfr a (by omega))
  have hM := hM.kept (fun a h1 h2 => hfr a (by omega))
  have hO := hO_
  refine W.eq (g2 := F0 m 539 ls [.int (nI 0)]) rfl ?_
  refine lv_istore (pc := 539) (lv' := [(5, .int (nI 0)), (4, .int (nI i)), (3, .ref (b + 95)), (2, .ref (b + 86)), (1, .ref b), (0, .ref a0)]) hx hb dLa_law_539 hl (by decide) rfl (fun ls hl => ?_)
  refine lv_aload_n (pc := 541) hx hb dLa_law_541 rfl (lv_at hl 3 rfl) ?_
  refine lv_aload_n (pc := 542) hx hb dLa_law_542 rfl (lv_at hl 5 rfl) ?_
  refine lv_iload (pc := 543) hx hb dLa_law_543 (lv_at hl 1 rfl) ?_
  refine lv_iconst (pc := 545) (v := (nI 1)) hx hb dLa_law_545 (by decide) ?_
  refine lv_iadd (pc := 546) hx hb dLa_law_546 ?_
  rw [show ((nI i + (nI 1)) : Int32) = nI (i + 1) from (nI_add i 1)]
  refine va_sld (pc := 547) hx hb hX hbl hbA hw.2.2.2.2 (vp_in_nI (show i + 1 < L by omega) hL) dLa_law_547 ?_
  rw [nI_clamp (show i + 1 < 2 ^ 31 by omega)]
  rw [show (xs (i + 1) : Int32) = nI j from hje]
  refine fw_cV (pc := 548) (As := [.int (nI j)]) (rest := []) ⟨hx, hb, hml, hown, hW⟩ (c_Mo_compare hM hX9 h6 h7 h16 hnm hj ra rb) (cwV 1 hW (kw_V lm_La_95 im_Mo_compare se_Mo_compare ini_Mo cd_Mo_compare) rfl rfl rfl (by decide +kernel) ⟨Nat.le_of_ble_eq_true rfl, Nat.le_of_ble_eq_true rfl⟩) hK hw hM.1 rfl rfl hl.1 rfl (Nat.le_of_ble_eq_true rfl) dLa_law_548 ⟨by show _ ≤ 601024; omega, by show _ ≤ 7293034; omega⟩ (fun v w2 H locs hq hw => ?_)
  obtain ⟨rfl, hM_, hfr⟩ := hq
  have hB := hB.kept (fun a h1 h2 => hfr a (by omega))
  have hO := (hfr _ (by omega)).trans hO
  have hM := hM_
  refine W.eq (g2 := F0 m 551 ls [.int (ordZ (wv (G 0) (V 0)) (wv (G (10 + j)) (V (10 + j))))]) rfl ?_
  refine lv_istore (pc := 551) (lv' := [(6, .int (ordZ (wv (G 0) (V 0)) (wv (G (10 + j)) (V (10 + j))))), (5, .int (nI 0)), (4, .int (nI i)), (3, .ref (b + 95)), (2, .ref (b + 86)), (1, .ref b), (0, .ref a0)]) hx hb dLa_law_551 hl (by decide) rfl (fun ls hl => ?_)
  refine lv_aload_n (pc := 553) hx hb dLa_law_553 rfl (lv_at hl 4 rfl) ?_
  refine fw_cVR (pc := 554) (As := []) (rest := []) ⟨hx, hb, hml, hown, hW⟩ (c_Mo_thrown hM) (cwV 0 hW (kw_V lm_La_58 im_Mo_thrown se_Mo_thrown ini_Mo cd_Mo_thrown) rfl rfl rfl (by decide +kernel) ⟨Nat.le_of_ble_eq_true rfl, Nat.le_of_ble_eq_true rfl⟩) hK hw hM.1 rfl rfl hl.1 rfl (Nat.le_of_ble_eq_true rfl) dLa_law_554 ⟨by show _ ≤ 601024; omega, by show _ ≤ 7293034; omega⟩ (fun v hq => ?_)
  have hq : v = some (.int (nI 0)) := hq
  subst hq
  refine W.eq (g2 := F0 m 557 ls [.int (nI 0)]) rfl ?_
  refine lv_iload (pc := 557) hx hb dLa_law_557 (lv_at hl 1 rfl) ?_
  refine lv_icmp_eq (pc := 559) (tgt := 564) hx hb dLa_law_559 (by decide) (fun _ => ?_) (fun hc => absurd rfl hc)
  refine lv_iload (pc := 564) hx hb dLa_law_564 (lv_at hl 1 rfl) ?_
  refine lv_if_ne (pc := 566) (tgt := 581) hx hb dLa_law_566 (by decide) (fun hc => absurd hc (fun h => h rfl)) (fun _ => ?_)
  refine lv_aload_n (pc := 569) hx hb dLa_law_569 rfl (lv_at hl 3 rfl) ?_
  refine lv_iconst (pc := 570) (v := (nI 0)) hx hb dLa_law_570 (by decide) ?_
  refine fw_laldN (pc := 571) (x := ((ordZ (wv (G 0) (V 0)) (wv (G (10 + j)) (V (10 + j)))).toInt64)) hx hb hK.1 hw 1 hO rfl (0) (by decide) (by decide) rfl dLa_law_571 ?_
  refine lv_iload (pc := 572) hx hb dLa_law_572 (lv_at hl 0 rfl) ?_
  refine lv_i2l (pc := 574) (v := ((ordZ (wv (G 0) (V 0)) (wv (G (10 + j)) (V (10 + j)))).toInt64)) hx hb dLa_law_574 rfl ?_
  refine W.lcmp (pc := 575) hx hb dLa_law_575 ?_
  refine lv_if_eq (pc := 576) (tgt := 581) hx hb dLa_law_576 (by decide) (fun _ => ?_) (fun hc => absurd ((lg_cmp_eq _ _).mpr rfl) hc)
  refine lv_goto (pc := 581) (tgt := 609) hx hb dLa_law_581 (by decide) ?_
  refine W.widen (k := cells + 1) (n := slots + 6) (by omega) (by omega) ?_
  exact kk  _ _ H locs ls _ hw hB hM hO (lv_sub hl [2, 3, 4, 5, 6] rfl)

set_option maxHeartbeats 4000000 in
set_option maxRecDepth 100000 in
theorem s_keep (hx : p.tables.exec = Jvm.exec) (hb : c.code = code) (hown : s.vm.findClass RLa = some m.cls) (hml : c.maxLocals = 8) (hW : ∀ w ∈ kWs, w.before args s = true) (hK : kK D kCl (kty cI cL cQ) (kz tO tB tC sa) A s s.heap) (hst : l.stackTraces = false) (hX : va_X a0 L xs s s.heap) (hbl : a0 < s.heap.size) (hbA : ¬ A a0) (hL : L < 2 ^ 31) (hi : i + 4 ≤ L) (hcs : cells + 1 ≤ 601024) (hss : slots + 6 ≤ 7293034) (hw : fw_H D kCl A s.heap w n H locs) (hl : lv_has ls 8 [(4, .int (nI i)), (3, .ref (b + 95)), (2, .ref (b + 86)), (1, .ref b), (0, .ref a0)]) (hB : bcS cI cL cQ w b I J V G) (hM : moS cI cL w (b + 86) MI K S (mC X)) (hO : w (b + 95) = some (.inl (cL, 1, .inr (.inl f)))) {j : Nat} (hj : j < 8) (hje : xs (i + 1) = nI j) (h0 : 0 < I 1) (h1 : I 1 < 2 ^ 31) (h4 : I 4 = I 1) (h6 : MI 6 < 2 ^ 31) (h7 : MI 7 < 2 ^ 31) (h16 : MI 16 < 2 ^ 31) (hnm : 0 < MI 6 ∧ MI 16 = MI 7) (hG : gOk V G) (hX9 : ∀ p, X p < nM ^ 64) (kk : ∀ (w1 : fw_W) (n1 : Nat) (H1 : Heap) (locs1 : List Loc) (ls1 : Array Slot) (f1 : Nat → Int64), fw_H D kCl A s.heap w1 n1 H1 locs1 → bcS cI cL cQ w1 b I J (va_up V (10 + j) (V 0)) (va_up G (10 + j) (G 0)) → moS cI cL w1 (b + 86) (va_up MI 0 0) K (va_up S (10 + j) (S 0)) (mC (va_up X (10 + j) (X 0))) → w1 (b + 95) = some (.inl (cL, 1, .inr (.inl f1))) → lv_has ls1 8 [(4, .int (nI i)), (3, .ref (b + 95)), (2, .ref (b + 86)), (1, .ref b), (0, .ref a0)] → W p l e room_1 s m args below meth c H1 locs1 (cells + 1) (slots + 6) Q (F0 m 609 ls1 [])) : W p l e room_1 s m args below meth c H locs cells slots Q (F0 m 257 ls []) := by
  refine lv_aload_n (pc := 257) hx hb dLa_law_257 rfl (lv_at hl 3 rfl) ?_
  refine lv_aload_n (pc := 258) hx hb dLa_law_258 rfl (lv_at hl 4 rfl) ?_
  refine lv_iload (pc := 259) hx hb dLa_law_259 (lv_at hl 0 rfl) ?_
  refine lv_iconst (pc := 261) (v := (nI 1)) hx hb dLa_law_261 (by decide) ?_
  refine lv_iadd (pc := 262) hx hb dLa_law_262 ?_
  rw [show ((nI i + (nI 1)) : Int32) = nI (i + 1) from (nI_add i 1)]
  refine va_sld (pc := 263) hx hb hX hbl hbA hw.2.2.2.2 (vp_in_nI (show i + 1 < L by omega) hL) dLa_law_263 ?_
  rw [nI_clamp (show i + 1 < 2 ^ 31 by omega)]
  rw [show (xs (i + 1) : Int32) = nI j from hje]
  refine fw_cSL (pc := 264) (As := [.ref b, .int (nI j)]) (rest := []) (mc := 0) (ms := 0) ⟨hx, hb, hml, hown, hW⟩ (w_keep hB h0 h1 h4 hG hj) (fw_wLof 2 hW lm_La_71 sta_La_keep ini_La cd_La_keep rfl rfl (by decide +kernel) ⟨Nat.le_of_ble_eq_true rfl, Nat.le_of_ble_eq_true rfl⟩) hK hw rfl hl.1 rfl (Nat.le_of_ble_eq_true rfl) dLa_law_264 ⟨by show _ ≤ 601024; omega, by show _ ≤ 7293034; omega⟩ (fun v w1 n1 H locs hq hw => ?_)
  obtain ⟨rfl, hB_, hfr⟩ := hq
  have hM := hM.kept (fun a h1 h2 => hfr a (by omega))
  have hO := (hfr _ (by omega)).trans hO
  have hB := hB_
  refine W.eq (g2 := F0 m 267 ls [.int (nI 0)]) rfl ?_
  refine lv_istore (pc := 267) (lv' := [(5, .int (nI 0)), (4, .int (nI i)), (3, .ref (b + 95)), (2, .ref (b + 86)), (1, .ref b), (0, .ref a0)]) hx hb dLa_law_267 hl (by decide) rfl (fun ls hl => ?_)
  refine lv_aload_n (pc := 269) hx hb dLa_law_269 rfl (lv_at hl 3 rfl) ?_
  refine lv_aload_n (pc := 270) hx hb dLa_law_270 rfl (lv_at hl 5 rfl) ?_
  refine lv_iload (pc := 271) hx hb dLa_law_271 (lv_at hl 1 rfl) ?_
  refine lv_iconst (pc := 273) (v := (nI 1)) hx hb dLa_law_273 (by decide) ?_
  refine lv_iadd (pc := 274) hx hb dLa_law_274 ?_
  rw [show ((nI i + (nI 1)) : Int32) = nI (i + 1) from (nI_add i 1)]
  refine va_sld (pc := 275) hx hb hX hbl hbA hw.2.2.2.2 (vp_in_nI (show i + 1 < L by omega) hL) dLa_law_275 ?_
  rw [nI_clamp (show i + 1 < 2 ^ 31 by omega)]
  rw [show (xs (i + 1) : Int32) = nI j from hje]
  refine fw_cV (pc := 276) (As := [.int (nI j)]) (rest := []) ⟨hx, hb, hml, hown, hW⟩ (c_Mo_keep hM hX9 h6 h7 h16 hnm hj) (cwV 1 hW (kw_V lm_La_74 im_Mo_keep se_Mo_keep ini_Mo cd_Mo_keep) rfl rfl rfl (by decide +kernel) ⟨Nat.le_of_ble_eq_true rfl, Nat.le_of_ble_eq_true rfl⟩) hK hw hM.1 rfl rfl hl.1 rfl (Nat.le_of_ble_eq_true rfl) dLa_law_276 ⟨by show _ ≤ 601024; omega, by show _ ≤ 7293034; omega⟩ (fun v w2 H locs hq hw => ?_)
  obtain ⟨rfl, hM_, hfr⟩ := hq
  have hB := hB.kept (fun a h1 h2 => hfr a (by omega))
  have hO := (hfr _ (by omega)).trans hO
  have hM := hM_
  refine W.eq (g2 := F0 m 279 ls []) rfl ?_
  refine lv_aload_n (pc := 279) hx hb dLa_law_279 rfl (lv_at hl 3 rfl) ?_
  refine fw_cVR (pc := 280) (As := []) (rest := []) ⟨hx, hb, hml, hown, hW⟩ (c_Mo_thrown hM) (cwV 0 hW (kw_V lm_La_58 im_Mo_thrown se_Mo_thrown ini_Mo cd_Mo_thrown) rfl rfl rfl (by decide +kernel) ⟨Nat.le_of_ble_eq_true rfl, Nat.le_of_ble_eq_true rfl⟩) hK hw hM.1 rfl rfl hl.1 rfl (Nat.le_of_ble_eq_true rfl) dLa_law_280 ⟨by show _ ≤ 601024; omega, by show _ ≤ 7293034; omega⟩ (fun v hq => ?_)
  have hq : v = some (.int (nI 0)) := hq
  subst hq
  refine W.eq (g2 := F0 m 283 ls [.int (nI 0)]) rfl ?_
  refine lv_iload (pc := 283) hx hb dLa_law_283 (lv_at hl 0 rfl) ?_
  refine lv_icmp_eq (pc := 285) (tgt := 290) hx hb dLa_law_285 (by decide) (fun _ => ?_) (fun hc => absurd rfl hc)
  refine lv_goto (pc := 290) (tgt := 609) hx hb dLa_law_290 (by decide) ?_
  refine W.widen (k := cells + 1) (n := slots + 6) (by omega) (by omega) ?_
  exact kk  _ _ H locs ls _ hw hB hM hO (lv_sub hl [1, 2, 3, 4, 5] rfl)

set_option maxHeartbeats 4000000 in
set_option maxRecDepth 100000 in
theorem s_digit (hx : p.tables.exec = Jvm.exec) (hb : c.code = code) (hown : s.vm.findClass RLa = some m.cls) (hml : c.maxLocals = 8) (hW : ∀ w ∈ kWs, w.before args s = true) (hK : kK D kCl (kty cI cL cQ) (kz tO tB tC sa) A s s.heap) (hst : l.stackTraces = false) (hX : va_X a0 L xs s s.heap) (hbl : a0 < s.heap.size) (hbA : ¬ A a0) (hL : L < 2 ^ 31) (hi : i + 4 ≤ L) (hcs : cells + 1 ≤ 601024) (hss : slots + 6 ≤ 7293034) (hw : fw_H D kCl A s.heap w n H locs) (hl : lv_has ls 8 [(4, .int (nI i)), (3, .ref (b + 95)), (2, .ref (b + 86)), (1, .ref b), (0, .ref a0)]) (hB : bcS cI cL cQ w b I J V G) (hM : moS cI cL w (b + 86) MI K S (mC X)) (hO : w (b + 95) = some (.inl (cL, 1, .inr (.inl f)))) {k : Nat} (hk : k < 2 ^ 31) (hke : xs (i + 1) = nI k) (hv0 : V 0 = X 0) (h70 : X 0 < 2 ^ 768) (h0 : 0 < I 1) (h1 : I 1 < 2 ^ 31) (h4 : I 4 = I 1) (h6 : MI 6 < 2 ^ 31) (h7 : MI 7 < 2 ^ 31) (h16 : MI 16 < 2 ^ 31) (hnm : 0 < MI 6 ∧ MI 16 = MI 7) (hG : gOk V G) (hX9 : ∀ p, X p < nM ^ 64) (kk : ∀ (e4 e5 : Nat), e5 ≤ X 0 → ∀ (w1 : fw_W) (n1 : Nat) (H1 : Heap) (locs1 : List Loc) (ls1 : Array Slot) (f1 : Nat → Int64), fw_H D kCl A s.heap w1 n1 H1 locs1 → bcS cI cL cQ w1 b I J (va_up V 25 e4) G → moS cI cL w1 (b + 86) (va_up MI 0 0) K (va_up S 18 (S 0)) (mC (va_up X 18 e5)) → w1 (b + 95) = some (.inl (cL, 1, .inr (.inl f1))) → lv_has ls1 8 [(4, .int (nI i)), (3, .ref (b + 95)), (2, .ref (b + 86)), (1, .ref b), (0, .ref a0)] → W p l e room_1 s m args below meth c H1 locs1 (cells + 1) (slots + 6) Q (F0 m 609 ls1 [])) : W p l e room_1 s m args below meth c H locs cells slots Q (F0 m 472 ls []) := by
  refine lv_aload_n (pc := 472) hx hb dLa_law_472 rfl (lv_at hl 3 rfl) ?_
  refine lv_aload_n (pc := 473) hx hb dLa_law_473 rfl (lv_at hl 4 rfl) ?_
  refine lv_iload (pc := 474) hx hb dLa_law_474 (lv_at hl 0 rfl) ?_
  refine lv_iconst (pc := 476) (v := (nI 1)) hx hb dLa_law_476 (by decide) ?_
  refine lv_iadd (pc := 477) hx hb dLa_law_477 ?_
  rw [show ((nI i + (nI 1)) : Int32) = nI (i + 1) from (nI_add i 1)]
  refine va_sld (pc := 478) hx hb hX hbl hbA hw.2.2.2.2 (vp_in_nI (show i + 1 < L by omega) hL) dLa_law_478 ?_
  rw [nI_clamp (show i + 1 < 2 ^ 31 by omega)]
  rw [show (xs (i + 1) : Int32) = nI k from hke]
  refine lv_aload_n (pc := 479) hx hb dLa_law_479 rfl (lv_at hl 1 rfl) ?_
  refine fw_cSL (pc := 480) (As := [.ref b, .int (nI k), .ref (b + 95)]) (rest := []) (mc := 0) (ms := 0) ⟨hx, hb, hml, hown, hW⟩ (w_digit hB h0 h1 h4 hG hk (Or.inr (by omega)) hO) (fw_wLof 3 hW lm_La_90 sta_La_digit ini_La cd_La_digit rfl rfl (by decide +kernel) ⟨Nat.le_of_ble_eq_true rfl, Nat.le_of_ble_eq_true rfl⟩) hK hw rfl hl.1 rfl (Nat.le_of_ble_eq_true rfl) dLa_law_480 ⟨by show _ ≤ 601024; omega, by show _ ≤ 7293034; omega⟩ (fun v w1 n1 H locs hq hw => ?_)
  obtain ⟨rfl, ⟨e4, hB_⟩, hO_, hfr⟩ := hq
  have hM := hM.kept (fun a h1 h2 => hfr a (by omega) (by omega))
  have hB := hB_
  have hO := hO_
  refine W.eq (g2 := F0 m 483 ls [.int (nI 0)]) rfl ?_
  refine lv_istore (pc := 483) (lv' := [(5, .int (nI 0)), (4, .int (nI i)), (3, .ref (b + 95)), (2, .ref (b + 86)), (1, .ref b), (0, .ref a0)]) hx hb dLa_law_483 hl (by decide) rfl (fun ls hl => ?_)
  refine lv_aload_n (pc := 485) hx hb dLa_law_485 rfl (lv_at hl 3 rfl) ?_
  refine lv_aload_n (pc := 486) hx hb dLa_law_486 rfl (lv_at hl 5 rfl) ?_
  refine lv_iload (pc := 487) hx hb dLa_law_487 (lv_at hl 1 rfl) ?_
  refine lv_iconst (pc := 489) (v := (nI 1)) hx hb dLa_law_489 (by decide) ?_
  refine lv_iadd (pc := 490) hx hb dLa_law_490 ?_
  rw [show ((nI i + (nI 1)) : Int32) = nI (i + 1) from (nI_add i 1)]
  refine va_sld (pc := 491) hx hb hX hbl hbA hw.2.2.2.2 (vp_in_nI (show i + 1 < L by omega) hL) dLa_law_491 ?_
  rw [nI_clamp (show i + 1 < 2 ^ 31 by omega)]
  rw [show (xs (i + 1) : Int32) = nI k from hke]
  refine fw_cV (pc := 492) (As := [.int (nI k)]) (rest := []) ⟨hx, hb, hml, hown, hW⟩ (c_Mo_digit hM hX9 h6 h7 h16 hnm h70 hk) (cwV 1 hW (kw_V lm_La_92 im_Mo_digit se_Mo_digit ini_Mo cd_Mo_digit) rfl rfl rfl (by decide +kernel) ⟨Nat.le_of_ble_eq_true rfl, Nat.le_of_ble_eq_true rfl⟩) hK hw hM.1 rfl rfl hl.1 rfl (Nat.le_of_ble_eq_true rfl) dLa_law_492 ⟨by show _ ≤ 601024; omega, by show _ ≤ 7293034; omega⟩ (fun v w2 H locs hq hw => ?_)
  obtain ⟨rfl, ⟨e5, hM_, he⟩, hfr⟩ := hq
  have hB := hB.kept (fun a h1 h2 => hfr a (by omega))
  have hO := (hfr _ (by omega)).trans hO
  have hM := hM_
  refine W.eq (g2 := F0 m 495 ls [.int (nI (X 0 / 10 ^ k % 10))]) rfl ?_
  refine lv_istore (pc := 495) (lv' := [(6, .int (nI (X 0 / 10 ^ k % 10))), (5, .int (nI 0)), (4, .int (nI i)), (3, .ref (b + 95)), (2, .ref (b + 86)), (1, .ref b), (0, .ref a0)]) hx hb dLa_law_495 hl (by decide) rfl (fun ls hl => ?_)
  refine lv_aload_n (pc := 497) hx hb dLa_law_497 rfl (lv_at hl 4 rfl) ?_
  refine fw_cVR (pc := 498) (As := []) (rest := []) ⟨hx, hb, hml, hown, hW⟩ (c_Mo_thrown hM) (cwV 0 hW (kw_V lm_La_58 im_Mo_thrown se_Mo_thrown ini_Mo cd_Mo_thrown) rfl rfl rfl (by decide +kernel) ⟨Nat.le_of_ble_eq_true rfl, Nat.le_of_ble_eq_true rfl⟩) hK hw hM.1 rfl rfl hl.1 rfl (Nat.le_of_ble_eq_true rfl) dLa_law_498 ⟨by show _ ≤ 601024; omega, by show _ ≤ 7293034; omega⟩ (fun v hq => ?_)
  have hq : v = some (.int (nI 0)) := hq
  subst hq
  refine W.eq (g2 := F0 m 501 ls [.int (nI 0)]) rfl ?_
  refine lv_iload (pc := 501) hx hb dLa_law_501 (lv_at hl 1 rfl) ?_
  refine lv_icmp_eq (pc := 503) (tgt := 508) hx hb dLa_law_503 (by decide) (fun _ => ?_) (fun hc => absurd rfl hc)
  refine lv_iload (pc := 508) hx hb dLa_law_508 (lv_at hl 1 rfl) ?_
  refine lv_if_ne (pc := 510) (tgt := 525) hx hb dLa_law_510 (by decide) (fun hc => absurd hc (fun h => h rfl)) (fun _ => ?_)
  refine lv_aload_n (pc := 513) hx hb dLa_law_513 rfl (lv_at hl 3 rfl) ?_
  refine lv_iconst (pc := 514) (v := (nI 0)) hx hb dLa_law_514 (by decide) ?_
  refine fw_laldN (pc := 515) (x := ((nI (V 0 / 10 ^ k % 10)).toInt64)) hx hb hK.1 hw 1 hO rfl (0) (by decide) (by decide) rfl dLa_law_515 ?_
  refine lv_iload (pc := 516) hx hb dLa_law_516 (lv_at hl 0 rfl) ?_
  refine lv_i2l (pc := 518) (v := ((nI (X 0 / 10 ^ k % 10)).toInt64)) hx hb dLa_law_518 rfl ?_
  refine W.lcmp (pc := 519) hx hb dLa_law_519 ?_
  refine lv_if_eq (pc := 520) (tgt := 525) hx hb dLa_law_520 (by decide) (fun _ => ?_) (fun hc => absurd (by rw [hv0]; exact (lg_cmp_eq _ _).mpr rfl) hc)
  refine lv_goto (pc := 525) (tgt := 609) hx hb dLa_law_525 (by decide) ?_
  refine W.widen (k := cells + 1) (n := slots + 6) (by omega) (by omega) ?_
  exact kk e4 e5 he _ _ H locs ls _ hw hB hM hO (lv_sub hl [2, 3, 4, 5, 6] rfl)

set_option maxHeartbeats 4000000 in
set_option maxRecDepth 100000 in
theorem s_run (hx : p.tables.exec = Jvm.exec) (hb : c.code = code) (hown : s.vm.findClass RLa = some m.cls) (hml : c.maxLocals = 8) (hW : ∀ w ∈ kWs, w.before args s = true) (hK : kK D kCl (kty cI cL cQ) (kz tO tB tC sa) A s s.heap) (hst : l.stackTraces = false) (hX : va_X a0 L xs s s.heap) (hbl : a0 < s.heap.size) (hbA : ¬ A a0) (hL : L < 2 ^ 31) (hi : i + 4 ≤ L) (hcs : cells + 1 ≤ 601024) (hss : slots + 6 ≤ 7293034) (hw : fw_H D kCl A s.heap w n H locs) (hl : lv_has ls 8 [(4, .int (nI i)), (3, .ref (b + 95)), (2, .ref (b + 86)), (1, .ref b), (0, .ref a0)]) (hB : bcS cI cL cQ w b I J V G) (hM : moS cI cL w (b + 86) MI K S (mC X)) (hO : w (b + 95) = some (.inl (cL, 1, .inr (.inl f)))) {k : Nat} (hk : k ≤ 10000) (hke : xs (i + 1) = nI k) (hG : gOk V G) (h1 : 0 < I 1) (hC : cOk (J 2) (J 3) (I 1)) (hO9 : mOk (J 2) (I 1) (I 4, I 5, I 6, I 7, rV V G)) (h6 : MI 6 = 1) (h7 : MI 7 = I 1) (h16 : MI 16 = I 4) (h17 : MI 17 = I 5) (h18 : MI 18 = I 6) (h19 : MI 19 = I 7) (hC2 : cOk (K 2) (K 3) (MI 7)) (hO2 : mOk (K 2) (MI 7) (I 4, I 5, I 6, I 7, rV V G)) (hrf : mRf S X (I 4, I 5, I 6, I 7, rV V G) (yV V G)) (hrun : mRun (K 2) (K 3) (yV V G) (MI 7) k (I 4, I 5, I 6, I 7, rV V G) = mRun (J 2) (J 3) (yV V G) (I 1) k (I 4, I 5, I 6, I 7, rV V G)) (kk : ∀ (V2 G2 : Nat → Nat) (S2 : Nat → Int32) (X2 : Nat → Nat), gOk V2 G2 → (∀ i, i < 10 → rV V2 G2 i = (mRun (J 2) (J 3) (yV V G) (I 1) k (I 4, I 5, I 6, I 7, rV V G)).2.2.2.2 i) → (∀ i, i < 8 → yV V2 G2 i = yV V G i) → mRf S2 X2 (mRun (J 2) (J 3) (yV V G) (I 1) k (I 4, I 5, I 6, I 7, rV V G)) (yV V G) → ∀ (w1 : fw_W) (n1 : Nat) (H1 : Heap) (locs1 : List Loc) (ls1 : Array Slot) (f1 : Nat → Int64), fw_H D kCl A s.heap w1 n1 H1 locs1 → bcS cI cL cQ w1 b (mI I (mRun (J 2) (J 3) (yV V G) (I 1) k (I 4, I 5, I 6, I 7, rV V G))) J V2 G2 → moS cI cL w1 (b + 86) (moI (va_up MI 0 0) (mRun (J 2) (J 3) (yV V G) (I 1) k (I 4, I 5, I 6, I 7, rV V G))) K S2 (mC X2) → w1 (b + 95) = some (.inl (cL, 1, .inr (.inl f1))) → lv_has ls1 8 [(4, .int (nI i)), (3, .ref (b + 95)), (2, .ref (b + 86)), (1, .ref b), (0, .ref a0)] → W p l e room_1 s m args below meth c H1 locs1 (cells + 1) (slots + 6) Q (F0 m 609 ls1 [])) : W p l e room_1 s m args below meth c H locs cells slots Q (F0 m 317 ls []) := by
  refine lv_aload_n (pc := 317) hx hb dLa_law_317 rfl (lv_at hl 3 rfl) ?_
  refine lv_aload_n (pc := 318) hx hb dLa_law_318 rfl (lv_at hl 4 rfl) ?_
  refine lv_iload (pc := 319) hx hb dLa_law_319 (lv_at hl 0 rfl) ?_
  refine lv_iconst (pc := 321) (v := (nI 1)) hx hb dLa_law_321 (by decide) ?_
  refine lv_iadd (pc := 322) hx hb dLa_law_322 ?_
  rw [show ((nI i + (nI 1)) : Int32) = nI (i + 1) from (nI_add i 1)]
  refine va_sld (pc := 323) hx hb hX hbl hbA hw.2.2.2.2 (vp_in_nI (show i + 1 < L by omega) hL) dLa_law_323 ?_
  rw [nI_clamp (show i + 1 < 2 ^ 31 by omega)]
  rw [show (xs (i + 1) : Int32) = nI k from hke]
  refine lv_aload_n (pc := 324) hx hb dLa_law_324 rfl (lv_at hl 1 rfl) ?_
  refine fw_cSL (pc := 325) (As := [.ref b, .int (nI k), .ref (b + 95)]) (rest := []) (mc := 0) (ms := 0) ⟨hx, hb, hml, hown, hW⟩ (w_run hB hG hk h1 hC hO9 (Or.inr (by omega)) hO) (fw_wLof 3 hW lm_La_79 sta_La_run ini_La cd_La_run rfl rfl (by decide +kernel) ⟨Nat.le_of_ble_eq_true rfl, Nat.le_of_ble_eq_true rfl⟩) hK hw rfl hl.1 rfl (Nat.le_of_ble_eq_true rfl) dLa_law_325 ⟨by show _ ≤ 601024; omega, by show _ ≤ 7293034; omega⟩ (fun v w1 n1 H locs hq hw => ?_)
  obtain ⟨rfl, ⟨V2, G2, hB_, z2, z3, z4⟩, hO_, hfr⟩ := hq
  have hM := hM.kept (fun a h1 h2 => hfr a (by omega) (by omega))
  have hB := hB_
  have hO := hO_
  refine W.eq (g2 := F0 m 328 ls [.int (nI 0)]) rfl ?_
  refine lv_istore (pc := 328) (lv' := [(5, .int (nI 0)), (4, .int (nI i)), (3, .ref (b + 95)), (2, .ref (b + 86)), (1, .ref b), (0, .ref a0)]) hx hb dLa_law_328 hl (by decide) rfl (fun ls hl => ?_)
  refine lv_aload_n (pc := 330) hx hb dLa_law_330 rfl (lv_at hl 3 rfl) ?_
  refine lv_aload_n (pc := 331) hx hb dLa_law_331 rfl (lv_at hl 5 rfl) ?_
  refine lv_iload (pc := 332) hx hb dLa_law_332 (lv_at hl 1 rfl) ?_
  refine lv_iconst (pc := 334) (v := (nI 1)) hx hb dLa_law_334 (by decide) ?_
  refine lv_iadd (pc := 335) hx hb dLa_law_335 ?_
  rw [show ((nI i + (nI 1)) : Int32) = nI (i + 1) from (nI_add i 1)]
  refine va_sld (pc := 336) hx hb hX hbl hbA hw.2.2.2.2 (vp_in_nI (show i + 1 < L by omega) hL) dLa_law_336 ?_
  rw [nI_clamp (show i + 1 < 2 ^ 31 by omega)]
  rw [show (xs (i + 1) : Int32) = nI k from hke]
  refine fw_cV (pc := 337) (As := [.int (nI k)]) (rest := []) ⟨hx, hb, hml, hown, hW⟩ (c_Mo_run (n := k) (Y := yV V G) (R9 := rV V G) hM hk h6 h16 h17 h18 h19 hC2 hO2 (yV_lt hG) hrf hrun) (cwV 1 hW (kw_V lm_La_82 im_Mo_run se_Mo_run ini_Mo cd_Mo_run) rfl rfl rfl (by decide +kernel) ⟨Nat.le_of_ble_eq_true rfl, Nat.le_of_ble_eq_true rfl⟩) hK hw hM.1 rfl rfl hl.1 rfl (Nat.le_of_ble_eq_true rfl) dLa_law_337 ⟨by show _ ≤ 601024; omega, by show _ ≤ 7293034; omega⟩ (fun v w2 H locs hq hw => ?_)
  obtain ⟨rfl, ⟨S2, X2, hM_, hrf2⟩, hfr⟩ := hq
  have hB := hB.kept (fun a h1 h2 => hfr a (by omega))
  have hO := (hfr _ (by omega)).trans hO
  have hM := hM_
  refine W.eq (g2 := F0 m 340 ls [.int (nI (mAns (MI 7) (mRun (J 2) (J 3) (yV V G) (I 1) k (I 4, I 5, I 6, I 7, rV V G))))]) rfl ?_
  refine lv_istore (pc := 340) (lv' := [(6, .int (nI (mAns (MI 7) (mRun (J 2) (J 3) (yV V G) (I 1) k (I 4, I 5, I 6, I 7, rV V G))))), (5, .int (nI 0)), (4, .int (nI i)), (3, .ref (b + 95)), (2, .ref (b + 86)), (1, .ref b), (0, .ref a0)]) hx hb dLa_law_340 hl (by decide) rfl (fun ls hl => ?_)
  refine lv_aload_n (pc := 342) hx hb dLa_law_342 rfl (lv_at hl 4 rfl) ?_
  refine fw_cVR (pc := 343) (As := []) (rest := []) ⟨hx, hb, hml, hown, hW⟩ (c_Mo_thrown hM) (cwV 0 hW (kw_V lm_La_58 im_Mo_thrown se_Mo_thrown ini_Mo cd_Mo_thrown) rfl rfl rfl (by decide +kernel) ⟨Nat.le_of_ble_eq_true rfl, Nat.le_of_ble_eq_true rfl⟩) hK hw hM.1 rfl rfl hl.1 rfl (Nat.le_of_ble_eq_true rfl) dLa_law_343 ⟨by show _ ≤ 601024; omega, by show _ ≤ 7293034; omega⟩ (fun v hq => ?_)
  have hq : v = some (.int (nI 0)) := hq
  subst hq
  refine W.eq (g2 := F0 m 346 ls [.int (nI 0)]) rfl ?_
  refine lv_iload (pc := 346) hx hb dLa_law_346 (lv_at hl 1 rfl) ?_
  refine lv_icmp_eq (pc := 348) (tgt := 353) hx hb dLa_law_348 (by decide) (fun _ => ?_) (fun hc => absurd rfl hc)
  refine lv_iload (pc := 353) hx hb dLa_law_353 (lv_at hl 1 rfl) ?_
  refine lv_if_ne (pc := 355) (tgt := 370) hx hb dLa_law_355 (by decide) (fun hc => absurd hc (fun h => h rfl)) (fun _ => ?_)
  refine lv_aload_n (pc := 358) hx hb dLa_law_358 rfl (lv_at hl 3 rfl) ?_
  refine lv_iconst (pc := 359) (v := (nI 0)) hx hb dLa_law_359 (by decide) ?_
  refine fw_laldN (pc := 360) (x := ((nI (mAns (I 1) (mRun (J 2) (J 3) (yV V G) (I 1) k (I 4, I 5, I 6, I 7, rV V G)))).toInt64)) hx hb hK.1 hw 1 hO rfl (0) (by decide) (by decide) rfl dLa_law_360 ?_
  refine lv_iload (pc := 361) hx hb dLa_law_361 (lv_at hl 0 rfl) ?_
  refine lv_i2l (pc := 363) (v := ((nI (mAns (MI 7) (mRun (J 2) (J 3) (yV V G) (I 1) k (I 4, I 5, I 6, I 7, rV V G)))).toInt64)) hx hb dLa_law_363 rfl ?_
  refine W.lcmp (pc := 364) hx hb dLa_law_364 ?_
  refine lv_if_eq (pc := 365) (tgt := 370) hx hb dLa_law_365 (by decide) (fun _ => ?_) (fun hc => absurd (by rw [h7]; exact (lg_cmp_eq _ _).mpr rfl) hc)
  refine lv_goto (pc := 370) (tgt := 609) hx hb dLa_law_370 (by decide) ?_
  refine W.widen (k := cells + 1) (n := slots + 6) (by omega) (by omega) ?_
  exact kk V2 G2 S2 X2 z2 z3 z4 hrf2 _ _ H locs ls _ hw hB hM hO (lv_sub hl [2, 3, 4, 5, 6] rfl)

set_option maxHeartbeats 4000000 in
set_option maxRecDepth 100000 in
theorem s_count6 (hx : p.tables.exec = Jvm.exec) (hb : c.code = code) (hown : s.vm.findClass RLa = some m.cls) (hml : c.maxLocals = 8) (hW : ∀ w ∈ kWs, w.before args s = true) (hK : kK D kCl (kty cI cL cQ) (kz tO tB tC sa) A s s.heap) (hst : l.stackTraces = false) (hX : va_X a0 L xs s s.heap) (hbl : a0 < s.heap.size) (hbA : ¬ A a0) (hL : L < 2 ^ 31) (hi : i + 4 ≤ L) (hcs : cells + 1 ≤ 601024) (hss : slots + 6 ≤ 7293034) (hw : fw_H D kCl A s.heap w n H locs) (hl : lv_has ls 8 [(4, .int (nI i)), (3, .ref (b + 95)), (2, .ref (b + 86)), (1, .ref b), (0, .ref a0)]) (hB : bcS cI cL cQ w b I J V G) (hM : moS cI cL w (b + 86) MI K S (mC X)) (hO : w (b + 95) = some (.inl (cL, 1, .inr (.inl f)))) (hje : xs (i + 1) = nI 6) (hv0 : V 0 = X 0) (h0 : 0 < I 1) (h1 : I 1 < 2 ^ 31) (h4 : I 4 = I 1) (h6 : MI 6 < 2 ^ 31) (h7 : MI 7 < 2 ^ 31) (h16 : MI 16 < 2 ^ 31) (hnm : 0 < MI 6 ∧ MI 16 = MI 7) (hG : gOk V G) (hX9 : ∀ p, X p < nM ^ 64) (kk : ∀ (w1 : fw_W) (n1 : Nat) (H1 : Heap) (locs1 : List Loc) (ls1 : Array Slot) (f1 : Nat → Int64), fw_H D kCl A s.heap w1 n1 H1 locs1 → bcS cI cL cQ w1 b I J V G → moS cI cL w1 (b + 86) (va_up MI 0 0) K S (mC X) → w1 (b + 95) = some (.inl (cL, 1, .inr (.inl f1))) → lv_has ls1 8 [(4, .int (nI i)), (3, .ref (b + 95)), (2, .ref (b + 86)), (1, .ref b), (0, .ref a0)] → W p l e room_1 s m args below meth c H1 locs1 (cells + 1) (slots + 6) Q (F0 m 609 ls1 [])) : W p l e room_1 s m args below meth c H locs cells slots Q (F0 m 584 ls []) := by
  refine lv_aload_n (pc := 584) hx hb dLa_law_584 rfl (lv_at hl 3 rfl) ?_
  refine lv_aload_n (pc := 585) hx hb dLa_law_585 rfl (lv_at hl 4 rfl) ?_
  refine lv_iload (pc := 586) hx hb dLa_law_586 (lv_at hl 0 rfl) ?_
  refine lv_iconst (pc := 588) (v := (nI 1)) hx hb dLa_law_588 (by decide) ?_
  refine lv_iadd (pc := 589) hx hb dLa_law_589 ?_
  rw [show ((nI i + (nI 1)) : Int32) = nI (i + 1) from (nI_add i 1)]
  refine va_sld (pc := 590) hx hb hX hbl hbA hw.2.2.2.2 (vp_in_nI (show i + 1 < L by omega) hL) dLa_law_590 ?_
  rw [nI_clamp (show i + 1 < 2 ^ 31 by omega)]
  rw [show (xs (i + 1) : Int32) = nI 6 from hje]
  refine fw_cVR (pc := 591) (As := [.int (nI 6)]) (rest := []) ⟨hx, hb, hml, hown, hW⟩ (c_Bc_count6 hB h0 h1 h4 hG) (cwV 1 hW (kw_V lm_La_96 im_Bc_count se_Bc_count ini_Bc cd_Bc_count) rfl rfl rfl (by decide +kernel) ⟨Nat.le_of_ble_eq_true rfl, Nat.le_of_ble_eq_true rfl⟩) hK hw hB.1.1 rfl rfl hl.1 rfl (Nat.le_of_ble_eq_true rfl) dLa_law_591 ⟨by show _ ≤ 601024; omega, by show _ ≤ 7293034; omega⟩ (fun v hq => ?_)
  subst hq
  refine W.eq (g2 := F0 m 594 ls [.int (nI (bl (V 0)))]) rfl ?_
  refine lv_aload_n (pc := 594) hx hb dLa_law_594 rfl (lv_at hl 2 rfl) ?_
  refine lv_aload_n (pc := 595) hx hb dLa_law_595 rfl (lv_at hl 4 rfl) ?_
  refine lv_iload (pc := 596) hx hb dLa_law_596 (lv_at hl 0 rfl) ?_
  refine lv_iconst (pc := 598) (v := (nI 1)) hx hb dLa_law_598 (by decide) ?_
  refine lv_iadd (pc := 599) hx hb dLa_law_599 ?_
  rw [show ((nI i + (nI 1)) : Int32) = nI (i + 1) from (nI_add i 1)]
  refine va_sld (pc := 600) hx hb hX hbl hbA hw.2.2.2.2 (vp_in_nI (show i + 1 < L by omega) hL) dLa_law_600 ?_
  rw [nI_clamp (show i + 1 < 2 ^ 31 by omega)]
  rw [show (xs (i + 1) : Int32) = nI 6 from hje]
  refine fw_cV (pc := 601) (As := [.int (nI 6)]) (rest := [.int (nI (bl (V 0)))]) ⟨hx, hb, hml, hown, hW⟩ (c_Mo_count6 hM hX9 h6 h7 h16 hnm) (cwV 1 hW (kw_V lm_La_99 im_Mo_count se_Mo_count ini_Mo cd_Mo_count) rfl rfl rfl (by decide +kernel) ⟨Nat.le_of_ble_eq_true rfl, Nat.le_of_ble_eq_true rfl⟩) hK hw hM.1 rfl rfl hl.1 rfl (Nat.le_of_ble_eq_true rfl) dLa_law_601 ⟨by show _ ≤ 601024; omega, by show _ ≤ 7293034; omega⟩ (fun v w1 H locs hq hw => ?_)
  obtain ⟨rfl, hM_, hfr⟩ := hq
  have hB := hB.kept (fun a h1 h2 => hfr a (by omega))
  have hO := (hfr _ (by omega)).trans hO
  have hM := hM_
  refine W.eq (g2 := F0 m 604 ls [.int (nI (bl (X 0))), .int (nI (bl (V 0)))]) rfl ?_
  refine lv_icmp_eq (pc := 604) (tgt := 609) hx hb dLa_law_604 (by decide) (fun _ => ?_) (fun hc => absurd (by rw [hv0]) hc)
  refine W.widen (k := cells + 1) (n := slots + 6) (by omega) (by omega) ?_
  exact kk  _ _ H locs ls _ hw hB hM hO (lv_sub hl [0, 1, 2, 3, 4] rfl)

set_option maxHeartbeats 4000000 in
set_option maxRecDepth 100000 in
theorem s_count7 (hx : p.tables.exec = Jvm.exec) (hb : c.code = code) (hown : s.vm.findClass RLa = some m.cls) (hml : c.maxLocals = 8) (hW : ∀ w ∈ kWs, w.before args s = true) (hK : kK D kCl (kty cI cL cQ) (kz tO tB tC sa) A s s.heap) (hst : l.stackTraces = false) (hX : va_X a0 L xs s s.heap) (hbl : a0 < s.heap.size) (hbA : ¬ A a0) (hL : L < 2 ^ 31) (hi : i + 4 ≤ L) (hcs : cells + 1 ≤ 601024) (hss : slots + 6 ≤ 7293034) (hw : fw_H D kCl A s.heap w n H locs) (hl : lv_has ls 8 [(4, .int (nI i)), (3, .ref (b + 95)), (2, .ref (b + 86)), (1, .ref b), (0, .ref a0)]) (hB : bcS cI cL cQ w b I J V G) (hM : moS cI cL w (b + 86) MI K S (mC X)) (hO : w (b + 95) = some (.inl (cL, 1, .inr (.inl f)))) (hje : xs (i + 1) = nI 7) (hv0 : V 0 = X 0) (h70 : X 0 < 2 ^ 768) (h0 : 0 < I 1) (h1 : I 1 < 2 ^ 31) (h4 : I 4 = I 1) (h6 : MI 6 < 2 ^ 31) (h7 : MI 7 < 2 ^ 31) (h16 : MI 16 < 2 ^ 31) (hnm : 0 < MI 6 ∧ MI 16 = MI 7) (hG : gOk V G) (hX9 : ∀ p, X p < nM ^ 64) (kk : ∀ (e4 e5 : Nat), e5 ≤ X 0 → ∀ (w1 : fw_W) (n1 : Nat) (H1 : Heap) (locs1 : List Loc) (ls1 : Array Slot) (f1 : Nat → Int64), fw_H D kCl A s.heap w1 n1 H1 locs1 → bcS cI cL cQ w1 b I J (va_up V 25 e4) G → moS cI cL w1 (b + 86) (va_up MI 0 0) K (va_up S 18 (S 0)) (mC (va_up X 18 e5)) → w1 (b + 95) = some (.inl (cL, 1, .inr (.inl f1))) → lv_has ls1 8 [(4, .int (nI i)), (3, .ref (b + 95)), (2, .ref (b + 86)), (1, .ref b), (0, .ref a0)] → W p l e room_1 s m args below meth c H1 locs1 (cells + 1) (slots + 6) Q (F0 m 609 ls1 [])) : W p l e room_1 s m args below meth c H locs cells slots Q (F0 m 584 ls []) := by
  refine lv_aload_n (pc := 584) hx hb dLa_law_584 rfl (lv_at hl 3 rfl) ?_
  refine lv_aload_n (pc := 585) hx hb dLa_law_585 rfl (lv_at hl 4 rfl) ?_
  refine lv_iload (pc := 586) hx hb dLa_law_586 (lv_at hl 0 rfl) ?_
  refine lv_iconst (pc := 588) (v := (nI 1)) hx hb dLa_law_588 (by decide) ?_
  refine lv_iadd (pc := 589) hx hb dLa_law_589 ?_
  rw [show ((nI i + (nI 1)) : Int32) = nI (i + 1) from (nI_add i 1)]
  refine va_sld (pc := 590) hx hb hX hbl hbA hw.2.2.2.2 (vp_in_nI (show i + 1 < L by omega) hL) dLa_law_590 ?_
  rw [nI_clamp (show i + 1 < 2 ^ 31 by omega)]
  rw [show (xs (i + 1) : Int32) = nI 7 from hje]
  refine fw_cV (pc := 591) (As := [.int (nI 7)]) (rest := []) ⟨hx, hb, hml, hown, hW⟩ (c_Bc_count7 hB h0 h1 h4 hG) (cwV 1 hW (kw_V lm_La_96 im_Bc_count se_Bc_count ini_Bc cd_Bc_count) rfl rfl rfl (by decide +kernel) ⟨Nat.le_of_ble_eq_true rfl, Nat.le_of_ble_eq_true rfl⟩) hK hw hB.1.1 rfl rfl hl.1 rfl (Nat.le_of_ble_eq_true rfl) dLa_law_591 ⟨by show _ ≤ 601024; omega, by show _ ≤ 7293034; omega⟩ (fun v w1 H locs hq hw => ?_)
  obtain ⟨⟨c7, rfl, hd7, hc7⟩, ⟨e4, hB_⟩, hfr⟩ := hq
  have hM := hM.kept (fun a h1 h2 => hfr a (by omega))
  have hO := (hfr _ (by omega)).trans hO
  have hB := hB_
  refine W.eq (g2 := F0 m 594 ls [.int (nI c7)]) rfl ?_
  refine lv_aload_n (pc := 594) hx hb dLa_law_594 rfl (lv_at hl 2 rfl) ?_
  refine lv_aload_n (pc := 595) hx hb dLa_law_595 rfl (lv_at hl 4 rfl) ?_
  refine lv_iload (pc := 596) hx hb dLa_law_596 (lv_at hl 0 rfl) ?_
  refine lv_iconst (pc := 598) (v := (nI 1)) hx hb dLa_law_598 (by decide) ?_
  refine lv_iadd (pc := 599) hx hb dLa_law_599 ?_
  rw [show ((nI i + (nI 1)) : Int32) = nI (i + 1) from (nI_add i 1)]
  refine va_sld (pc := 600) hx hb hX hbl hbA hw.2.2.2.2 (vp_in_nI (show i + 1 < L by omega) hL) dLa_law_600 ?_
  rw [nI_clamp (show i + 1 < 2 ^ 31 by omega)]
  rw [show (xs (i + 1) : Int32) = nI 7 from hje]
  refine fw_cV (pc := 601) (As := [.int (nI 7)]) (rest := [.int (nI c7)]) ⟨hx, hb, hml, hown, hW⟩ (c_Mo_count7 hM hX9 h6 h7 h16 hnm h70) (cwV 1 hW (kw_V lm_La_99 im_Mo_count se_Mo_count ini_Mo cd_Mo_count) rfl rfl rfl (by decide +kernel) ⟨Nat.le_of_ble_eq_true rfl, Nat.le_of_ble_eq_true rfl⟩) hK hw hM.1 rfl rfl hl.1 rfl (Nat.le_of_ble_eq_true rfl) dLa_law_601 ⟨by show _ ≤ 601024; omega, by show _ ≤ 7293034; omega⟩ (fun v w2 H locs hq hw => ?_)
  obtain ⟨⟨c8, rfl, hd8, hc8⟩, ⟨e5, hM_, he⟩, hfr⟩ := hq
  have hB := hB.kept (fun a h1 h2 => hfr a (by omega))
  have hO := (hfr _ (by omega)).trans hO
  have hM := hM_
  refine W.eq (g2 := F0 m 604 ls [.int (nI c8), .int (nI c7)]) rfl ?_
  refine lv_icmp_eq (pc := 604) (tgt := 609) hx hb dLa_law_604 (by decide) (fun _ => ?_) (fun hc => absurd (by rw [isDl_uniq hd7 (by rw [hv0]; exact hd8)]) hc)
  refine W.widen (k := cells + 1) (n := slots + 6) (by omega) (by omega) ?_
  exact kk e4 e5 he _ _ H locs ls _ hw hB hM hO (lv_sub hl [0, 1, 2, 3, 4] rfl)

set_option maxHeartbeats 4000000 in
set_option maxRecDepth 100000 in
theorem s_compile (hx : p.tables.exec = Jvm.exec) (hb : c.code = code) (hown : s.vm.findClass RLa = some m.cls) (hml : c.maxLocals = 8) (hW : ∀ w ∈ kWs, w.before args s = true) (hK : kK D kCl (kty cI cL cQ) (kz tO tB tC sa) A s s.heap) (hst : l.stackTraces = false) (hX : va_X a0 L xs s s.heap) (hbl : a0 < s.heap.size) (hbA : ¬ A a0) (hL : L < 2 ^ 31) (hi : i + 4 ≤ L) (hcs : cells + 1 ≤ 601024) (hss : slots + 6 ≤ 7293034) (hw : fw_H D kCl A s.heap w n H locs) (hl : lv_has ls 8 [(4, .int (nI i)), (3, .ref (b + 95)), (2, .ref (b + 86)), (1, .ref b), (0, .ref a0)]) (hB : bcS cI cL cQ w b I J V G) (hM : moS cI cL w (b + 86) MI K S (mC X)) (hO : w (b + 95) = some (.inl (cL, 1, .inr (.inl f)))) {a9 n9 d9 x9 : Nat} {o9 v9 t9 c9 : Nat → Nat} (hG : gOk V G) (h0 : I 0 ≤ 120) (hk : ∀ i, i < I 0 → J 0 i < 14) (hu : ∀ i, i < I 0 → J 1 i < 2 ^ 31) (hu8 : ∀ i, i < I 0 → J 0 i = 1 → J 1 i < 8) (hct : cT I J = (a9, (o9, v9, n9, t9, c9, d9, x9))) (h03 : MI 3 ≤ 120) (hkm : ∀ i, i < MI 3 → K 0 i < 14) (htr : tTr (K 0) (K 1) (MI 3) (MI 3) 0 (J 2, J 3, 0, J 4, J 5, 0, 0) = (a9, (o9, v9, n9, t9, c9, d9, x9))) (hgd : a9 = 0 → cGd o9 v9 n9 ∧ n9 ≤ MI 3) (kk : ∀ (MI2 : Nat → Nat) (K2 : Nat → Nat → Nat), K2 0 = K 0 ∧ K2 1 = K 1 ∧ MI2 0 = 0 ∧ MI2 3 = 0 ∧ MI2 16 = 0 ∧ MI2 17 = 0 ∧ MI2 18 = 0 ∧ MI2 19 = 0 ∧ ((a9 = 0 ∧ mx o9 n9 ≤ 10) → MI2 6 = 1 ∧ MI2 7 = n9 ∧ ∀ i, i < n9 → K2 2 i = o9 i ∧ K2 3 i = v9 i) ∧ (¬ (a9 = 0 ∧ mx o9 n9 ≤ 10) → MI2 6 = 0 ∧ MI2 7 = 0) → ∀ (w1 : fw_W) (n1 : Nat) (H1 : Heap) (locs1 : List Loc) (ls1 : Array Slot) (f1 : Nat → Int64), fw_H D kCl A s.heap w1 n1 H1 locs1 → bcS cI cL cQ w1 b (cI9 I J) (cJ9 I J) V G → moS cI cL w1 (b + 86) MI2 K2 S (mC X) → w1 (b + 95) = some (.inl (cL, 1, .inr (.inl f1))) → lv_has ls1 8 [(4, .int (nI i)), (3, .ref (b + 95)), (2, .ref (b + 86)), (1, .ref b), (0, .ref a0)] → W p l e room_1 s m args below meth c H1 locs1 (cells + 1) (slots + 6) Q (F0 m 609 ls1 [])) : W p l e room_1 s m args below meth c H locs cells slots Q (F0 m 164 ls []) := by
  refine lv_aload_n (pc := 164) hx hb dLa_law_164 rfl (lv_at hl 3 rfl) ?_
  refine fw_cV (pc := 165) (As := []) (rest := []) ⟨hx, hb, hml, hown, hW⟩ (c_Bc_compile hB hG h0 hk hu hu8) (cwV 0 hW (kw_V lm_La_61 im_Bc_compile se_Bc_compile ini_Bc cd_Bc_compile) rfl rfl rfl (by decide +kernel) ⟨Nat.le_of_ble_eq_true rfl, Nat.le_of_ble_eq_true rfl⟩) hK hw hB.1.1 rfl rfl hl.1 rfl (Nat.le_of_ble_eq_true rfl) dLa_law_165 ⟨by show _ ≤ 601024; omega, by show _ ≤ 7293034; omega⟩ (fun v w1 H locs hq hw => ?_)
  obtain ⟨rfl, hB_, hfr⟩ := hq
  have hM := hM.kept (fun a h1 h2 => hfr a (by omega))
  have hO := (hfr _ (by omega)).trans hO
  have hB := hB_
  refine W.eq (g2 := F0 m 168 ls [.int (cA I J)]) rfl ?_
  refine lv_aload_n (pc := 168) hx hb dLa_law_168 rfl (lv_at hl 2 rfl) ?_
  refine fw_cV (pc := 169) (As := []) (rest := [.int (cA I J)]) ⟨hx, hb, hml, hown, hW⟩ (c_Mo_compile hM h03 hkm htr hgd) (cwV 0 hW (kw_V lm_La_64 im_Mo_compile se_Mo_compile ini_Mo cd_Mo_compile) rfl rfl rfl (by decide +kernel) ⟨Nat.le_of_ble_eq_true rfl, Nat.le_of_ble_eq_true rfl⟩) hK hw hM.1 rfl rfl hl.1 rfl (Nat.le_of_ble_eq_true rfl) dLa_law_169 ⟨by show _ ≤ 601024; omega, by show _ ≤ 7293034; omega⟩ (fun v w2 H locs hq hw => ?_)
  obtain ⟨rfl, ⟨MI2, K2, hM_, y1⟩, hfr⟩ := hq
  have hB := hB.kept (fun a h1 h2 => hfr a (by omega))
  have hO := (hfr _ (by omega)).trans hO
  have hM := hM_
  refine W.eq (g2 := F0 m 172 ls [.int ((if (a9 = 0 ∧ mx o9 n9 ≤ 10) then nI 0 else if a9 = 0 then -2 else nI a9)), .int (cA I J)]) rfl ?_
  refine lv_icmp_eq (pc := 172) (tgt := 609) hx hb dLa_law_172 (by decide) (fun _ => ?_) (fun hc => absurd (by unfold cA; rw [hct]) hc)
  refine W.widen (k := cells + 1) (n := slots + 6) (by omega) (by omega) ?_
  exact kk MI2 K2 y1 _ _ H locs ls _ hw hB hM hO (lv_sub hl [0, 1, 2, 3, 4] rfl)
end LAW4
