theorem law_tgt {t : Nat} (h : 10 < t) : ([96, 164, 177, 257, 293, 317, 373, 417, 472, 528, 584] : List Nat).getD t 609 = 609 := by
  rw [List.getD_eq_getElem?_getD, List.getElem?_eq_none (by show 11 ≤ t; omega)]
  rfl
theorem and15 (x : Int32) : ∃ t, t < 16 ∧ (x &&& nI 15 : Int32) = nI t := by
  obtain ⟨n, hn, rfl⟩ := wb_of32 x
  refine ⟨n % 16, Nat.mod_lt _ (by decide), Int32.toBitVec_inj.mp ?_⟩
  rw [Int32.toBitVec_and]
  show BitVec.ofNat 32 n &&& BitVec.ofNat 32 15 = BitVec.ofNat 32 (n % 16)
  apply BitVec.eq_of_toNat_eq
  rw [BitVec.toNat_and, BitVec.toNat_ofNat, BitVec.toNat_ofNat, BitVec.toNat_ofNat, Nat.mod_eq_of_lt hn, Nat.mod_eq_of_lt (show 15 < 2 ^ 32 by decide), Nat.mod_eq_of_lt (show n % 16 < 2 ^ 32 by omega)]
  exact Nat.and_two_pow_sub_one_eq_mod n 4
theorem nI_subL {a b : Nat} (h : b ≤ a) : nI a - nI b = nI (a - b) := by
  have h2 := nI_add (a - b) b
  rw [Nat.sub_add_cancel h] at h2
  rw [← h2, Int32.add_sub_cancel]
theorem law_gt {i L : Nat} (hL : L < 2 ^ 31) (hi : i < 2 ^ 31) : (Int32.ofNat L - nI 4 < nI i) ↔ L < i + 4 := by
  rw [Int32.lt_iff_toInt_lt, nI_toInt hi]
  by_cases h : 4 ≤ L
  · rw [show Int32.ofNat L - nI 4 = nI (L - 4) from nI_subL h, nI_toInt (by omega)]
    omega
  · rcases (show L = 0 ∨ L = 1 ∨ L = 2 ∨ L = 3 by omega) with rfl | rfl | rfl | rfl
    · rw [show (Int32.ofNat 0 - nI 4).toInt = -4 by decide]; omega
    · rw [show (Int32.ofNat 1 - nI 4).toInt = -3 by decide]; omega
    · rw [show (Int32.ofNat 2 - nI 4).toInt = -2 by decide]; omega
    · rw [show (Int32.ofNat 3 - nI 4).toInt = -1 by decide]; omega
/-! The law's roads, one call each, second part. Written by wip/gen/law2.py. -/
section LAW2
variable {p : Program} {l : Launch} {e : Env} {s : State} {m : MethodId} {args : Array Value} {below : List Frame} {meth : Method} {c : Code} {H : Heap} {locs : List Loc} {cells slots : Nat} {Q : State → Prop} {ls : Array Slot} {D : va_G} {A : Nat → Prop} {cI cL cQ : ClassId} {tO tB tC : Nat} {sa : Nat → Nat} {w : fw_W} {n b a0 L i : Nat} {xs : Nat → Int32} {f : Nat → Int64} {I : Nat → Nat} {J : Nat → Nat → Nat} {V G : Nat → Nat} {MI : Nat → Nat} {K : Nat → Nat → Nat} {S : Nat → Int32} {C : Nat → Nat}
set_option maxHeartbeats 4000000 in
set_option maxRecDepth 100000 in
theorem s_keepS (hx : p.tables.exec = Jvm.exec) (hb : c.code = code) (hown : s.vm.findClass RLa = some m.cls) (hml : c.maxLocals = 8) (hW : ∀ w ∈ kWs, w.before args s = true) (hK : kK D kCl (kty cI cL cQ) (kz tO tB tC sa) A s s.heap) (hst : l.stackTraces = false) (hX : va_X a0 L xs s s.heap) (hbl : a0 < s.heap.size) (hbA : ¬ A a0) (hL : L < 2 ^ 31) (hi : i + 4 ≤ L) (hcs : cells + 1 ≤ 601024) (hss : slots + 6 ≤ 7293034) (hw : fw_H D kCl A s.heap w n H locs) (hl : lv_has ls 8 [(4, .int (nI i)), (3, .ref (b + 95)), (2, .ref (b + 86)), (1, .ref b), (0, .ref a0)]) (hB : bcS cI cL cQ w b I J V G) (hM : moS cI cL w (b + 86) MI K S C) (hO : w (b + 95) = some (.inl (cL, 1, .inr (.inl f)))) {j : Nat} (hj : j < 8) (hje : xs (i + 1) = nI j) (h1 : I 1 < 2 ^ 31) (h4 : I 4 < 2 ^ 31) (hno : ¬ (0 < I 1 ∧ I 4 = I 1)) (h6 : MI 6 < 2 ^ 31) (h7 : MI 7 < 2 ^ 31) (h16 : MI 16 < 2 ^ 31) (hnm : ¬ (0 < MI 6 ∧ MI 16 = MI 7)) (kk : ∀ (w1 : fw_W) (n1 : Nat) (H1 : Heap) (locs1 : List Loc) (ls1 : Array Slot) (f1 : Nat → Int64), fw_H D kCl A s.heap w1 n1 H1 locs1 → bcS cI cL cQ w1 b I J V G → moS cI cL w1 (b + 86) (va_up MI 0 2) K S C → w1 (b + 95) = some (.inl (cL, 1, .inr (.inl f1))) → lv_has ls1 8 [(4, .int (nI i)), (3, .ref (b + 95)), (2, .ref (b + 86)), (1, .ref b), (0, .ref a0)] → W p l e room_1 s m args below meth c H1 locs1 (cells + 1) (slots + 6) Q (F0 m 609 ls1 [])) : W p l e room_1 s m args below meth c H locs cells slots Q (F0 m 257 ls []) := by
  refine lv_aload_n (pc := 257) hx hb dLa_law_257 rfl (lv_at hl 3 rfl) ?_
  refine lv_aload_n (pc := 258) hx hb dLa_law_258 rfl (lv_at hl 4 rfl) ?_
  refine lv_iload (pc := 259) hx hb dLa_law_259 (lv_at hl 0 rfl) ?_
  refine lv_iconst (pc := 261) (v := (nI 1)) hx hb dLa_law_261 (by decide) ?_
  refine lv_iadd (pc := 262) hx hb dLa_law_262 ?_
  rw [show ((nI i + (nI 1)) : Int32) = nI (i + 1) from (nI_add i 1)]
  refine va_sld (pc := 263) hx hb hX hbl hbA hw.2.2.2.2 (vp_in_nI (show i + 1 < L by omega) hL) dLa_law_263 ?_
  rw [nI_clamp (show i + 1 < 2 ^ 31 by omega)]
  rw [show (xs (i + 1) : Int32) = nI j from hje]
  refine fw_cSL (pc := 264) (As := [.ref b, .int (nI j)]) (rest := []) (mc := 1) (ms := 6) ⟨hx, hb, hml, hown, hW⟩ (w_keepS hB hj hst h1 h4 hno) (fw_wLof 2 hW lm_La_71 sta_La_keep ini_La cd_La_keep rfl rfl (by decide +kernel) ⟨Nat.le_of_ble_eq_true rfl, Nat.le_of_ble_eq_true rfl⟩) hK hw rfl hl.1 rfl (Nat.le_of_ble_eq_true rfl) dLa_law_264 ⟨by show _ ≤ 601024; omega, by show _ ≤ 7293034; omega⟩ (fun v w1 n1 H locs hq hw => ?_)
  obtain ⟨rfl, hww⟩ := hq
  have hB : bcS cI cL cQ w1 b I J V G := by rw [hww]; exact hB
  have hM : moS cI cL w1 (b + 86) MI K S C := by rw [hww]; exact hM
  have hO : w1 (b + 95) = some (.inl (cL, 1, .inr (.inl f))) := by rw [hww]; exact hO
  refine W.eq (g2 := F0 m 267 ls [.int (nI 2)]) rfl ?_
  refine lv_istore (pc := 267) (lv' := [(5, .int (nI 2)), (4, .int (nI i)), (3, .ref (b + 95)), (2, .ref (b + 86)), (1, .ref b), (0, .ref a0)]) hx hb dLa_law_267 hl (by decide) rfl (fun ls hl => ?_)
  refine lv_aload_n (pc := 269) hx hb dLa_law_269 rfl (lv_at hl 3 rfl) ?_
  refine lv_aload_n (pc := 270) hx hb dLa_law_270 rfl (lv_at hl 5 rfl) ?_
  refine lv_iload (pc := 271) hx hb dLa_law_271 (lv_at hl 1 rfl) ?_
  refine lv_iconst (pc := 273) (v := (nI 1)) hx hb dLa_law_273 (by decide) ?_
  refine lv_iadd (pc := 274) hx hb dLa_law_274 ?_
  rw [show ((nI i + (nI 1)) : Int32) = nI (i + 1) from (nI_add i 1)]
  refine va_sld (pc := 275) hx hb hX hbl hbA hw.2.2.2.2 (vp_in_nI (show i + 1 < L by omega) hL) dLa_law_275 ?_
  rw [nI_clamp (show i + 1 < 2 ^ 31 by omega)]
  rw [show (xs (i + 1) : Int32) = nI j from hje]
  refine fw_cV (pc := 276) (As := [.int (nI j)]) (rest := []) ⟨hx, hb, hml, hown, hW⟩ (c_Mo_keepS hM hj h6 h7 h16 hnm) (cwV 1 hW (kw_V lm_La_74 im_Mo_keep se_Mo_keep ini_Mo cd_Mo_keep) rfl rfl rfl (by decide +kernel) ⟨Nat.le_of_ble_eq_true rfl, Nat.le_of_ble_eq_true rfl⟩) hK hw hM.1 rfl rfl hl.1 rfl (Nat.le_of_ble_eq_true rfl) dLa_law_276 ⟨by show _ ≤ 601024; omega, by show _ ≤ 7293034; omega⟩ (fun v w2 H locs hq hw => ?_)
  obtain ⟨rfl, hM_, hfr⟩ := hq
  have hB := hB.kept (fun a h1 h2 => hfr a (by omega))
  have hO := (hfr _ (by omega)).trans hO
  have hM := hM_
  refine W.eq (g2 := F0 m 279 ls []) rfl ?_
  refine lv_aload_n (pc := 279) hx hb dLa_law_279 rfl (lv_at hl 3 rfl) ?_
  refine fw_cVR (pc := 280) (As := []) (rest := []) ⟨hx, hb, hml, hown, hW⟩ (c_Mo_thrown hM) (cwV 0 hW (kw_V lm_La_58 im_Mo_thrown se_Mo_thrown ini_Mo cd_Mo_thrown) rfl rfl rfl (by decide +kernel) ⟨Nat.le_of_ble_eq_true rfl, Nat.le_of_ble_eq_true rfl⟩) hK hw hM.1 rfl rfl hl.1 rfl (Nat.le_of_ble_eq_true rfl) dLa_law_280 ⟨by show _ ≤ 601024; omega, by show _ ≤ 7293034; omega⟩ (fun v hq => ?_)
  have hq : v = some (.int (nI 2)) := hq
  subst hq
  refine W.eq (g2 := F0 m 283 ls [.int (nI 2)]) rfl ?_
  refine lv_iload (pc := 283) hx hb dLa_law_283 (lv_at hl 0 rfl) ?_
  refine lv_icmp_eq (pc := 285) (tgt := 290) hx hb dLa_law_285 (by decide) (fun _ => ?_) (fun hc => absurd rfl hc)
  refine lv_goto (pc := 290) (tgt := 609) hx hb dLa_law_290 (by decide) ?_
  refine W.widen (k := cells + 1) (n := slots + 6) (by omega) (by omega) ?_
  exact kk _ _ H locs ls _ hw hB hM hO (lv_sub hl [1, 2, 3, 4, 5] rfl)

set_option maxHeartbeats 4000000 in
set_option maxRecDepth 100000 in
theorem s_compareS (hx : p.tables.exec = Jvm.exec) (hb : c.code = code) (hown : s.vm.findClass RLa = some m.cls) (hml : c.maxLocals = 8) (hW : ∀ w ∈ kWs, w.before args s = true) (hK : kK D kCl (kty cI cL cQ) (kz tO tB tC sa) A s s.heap) (hst : l.stackTraces = false) (hX : va_X a0 L xs s s.heap) (hbl : a0 < s.heap.size) (hbA : ¬ A a0) (hL : L < 2 ^ 31) (hi : i + 4 ≤ L) (hcs : cells + 1 ≤ 601024) (hss : slots + 6 ≤ 7293034) (hw : fw_H D kCl A s.heap w n H locs) (hl : lv_has ls 8 [(4, .int (nI i)), (3, .ref (b + 95)), (2, .ref (b + 86)), (1, .ref b), (0, .ref a0)]) (hB : bcS cI cL cQ w b I J V G) (hM : moS cI cL w (b + 86) MI K S C) (hO : w (b + 95) = some (.inl (cL, 1, .inr (.inl f)))) {j : Nat} (hj : j < 8) (hje : xs (i + 1) = nI j) (h1 : I 1 < 2 ^ 31) (h4 : I 4 < 2 ^ 31) (hno : ¬ (0 < I 1 ∧ I 4 = I 1)) (h6 : MI 6 < 2 ^ 31) (h7 : MI 7 < 2 ^ 31) (h16 : MI 16 < 2 ^ 31) (hnm : ¬ (0 < MI 6 ∧ MI 16 = MI 7)) (kk : ∀ (w1 : fw_W) (n1 : Nat) (H1 : Heap) (locs1 : List Loc) (ls1 : Array Slot) (f1 : Nat → Int64), fw_H D kCl A s.heap w1 n1 H1 locs1 → bcS cI cL cQ w1 b I J V G → moS cI cL w1 (b + 86) (va_up MI 0 2) K S C → w1 (b + 95) = some (.inl (cL, 1, .inr (.inl f1))) → lv_has ls1 8 [(4, .int (nI i)), (3, .ref (b + 95)), (2, .ref (b + 86)), (1, .ref b), (0, .ref a0)] → W p l e room_1 s m args below meth c H1 locs1 (cells + 1) (slots + 6) Q (F0 m 609 ls1 [])) : W p l e room_1 s m args below meth c H locs cells slots Q (F0 m 528 ls []) := by
  refine lv_aload_n (pc := 528) hx hb dLa_law_528 rfl (lv_at hl 3 rfl) ?_
  refine lv_aload_n (pc := 529) hx hb dLa_law_529 rfl (lv_at hl 4 rfl) ?_
  refine lv_iload (pc := 530) hx hb dLa_law_530 (lv_at hl 0 rfl) ?_
  refine lv_iconst (pc := 532) (v := (nI 1)) hx hb dLa_law_532 (by decide) ?_
  refine lv_iadd (pc := 533) hx hb dLa_law_533 ?_
  rw [show ((nI i + (nI 1)) : Int32) = nI (i + 1) from (nI_add i 1)]
  refine va_sld (pc := 534) hx hb hX hbl hbA hw.2.2.2.2 (vp_in_nI (show i + 1 < L by omega) hL) dLa_law_534 ?_
  rw [nI_clamp (show i + 1 < 2 ^ 31 by omega)]
  rw [show (xs (i + 1) : Int32) = nI j from hje]
  refine lv_aload_n (pc := 535) hx hb dLa_law_535 rfl (lv_at hl 1 rfl) ?_
  refine fw_cSL (pc := 536) (As := [.ref b, .int (nI j), .ref (b + 95)]) (rest := []) (mc := 1) (ms := 6) ⟨hx, hb, hml, hown, hW⟩ (w_compareS hB hj hst h1 h4 hno (Or.inr (by omega)) hO) (fw_wLof 3 hW lm_La_93 sta_La_compare ini_La cd_La_compare rfl rfl (by decide +kernel) ⟨Nat.le_of_ble_eq_true rfl, Nat.le_of_ble_eq_true rfl⟩) hK hw rfl hl.1 rfl (Nat.le_of_ble_eq_true rfl) dLa_law_536 ⟨by show _ ≤ 601024; omega, by show _ ≤ 7293034; omega⟩ (fun v w1 n1 H locs hq hw => ?_)
  obtain ⟨rfl, hww⟩ := hq
  have hB : bcS cI cL cQ w1 b I J V G := by rw [hww]; exact hB
  have hM : moS cI cL w1 (b + 86) MI K S C := by rw [hww]; exact hM
  have hO : w1 (b + 95) = some (.inl (cL, 1, .inr (.inl f))) := by rw [hww]; exact hO
  refine W.eq (g2 := F0 m 539 ls [.int (nI 2)]) rfl ?_
  refine lv_istore (pc := 539) (lv' := [(5, .int (nI 2)), (4, .int (nI i)), (3, .ref (b + 95)), (2, .ref (b + 86)), (1, .ref b), (0, .ref a0)]) hx hb dLa_law_539 hl (by decide) rfl (fun ls hl => ?_)
  refine lv_aload_n (pc := 541) hx hb dLa_law_541 rfl (lv_at hl 3 rfl) ?_
  refine lv_aload_n (pc := 542) hx hb dLa_law_542 rfl (lv_at hl 5 rfl) ?_
  refine lv_iload (pc := 543) hx hb dLa_law_543 (lv_at hl 1 rfl) ?_
  refine lv_iconst (pc := 545) (v := (nI 1)) hx hb dLa_law_545 (by decide) ?_
  refine lv_iadd (pc := 546) hx hb dLa_law_546 ?_
  rw [show ((nI i + (nI 1)) : Int32) = nI (i + 1) from (nI_add i 1)]
  refine va_sld (pc := 547) hx hb hX hbl hbA hw.2.2.2.2 (vp_in_nI (show i + 1 < L by omega) hL) dLa_law_547 ?_
  rw [nI_clamp (show i + 1 < 2 ^ 31 by omega)]
  rw [show (xs (i + 1) : Int32) = nI j from hje]
  refine fw_cV (pc := 548) (As := [.int (nI j)]) (rest := []) ⟨hx, hb, hml, hown, hW⟩ (c_Mo_compareS hM hj h6 h7 h16 hnm) (cwV 1 hW (kw_V lm_La_95 im_Mo_compare se_Mo_compare ini_Mo cd_Mo_compare) rfl rfl rfl (by decide +kernel) ⟨Nat.le_of_ble_eq_true rfl, Nat.le_of_ble_eq_true rfl⟩) hK hw hM.1 rfl rfl hl.1 rfl (Nat.le_of_ble_eq_true rfl) dLa_law_548 ⟨by show _ ≤ 601024; omega, by show _ ≤ 7293034; omega⟩ (fun v w2 H locs hq hw => ?_)
  obtain ⟨rfl, hM_, hfr⟩ := hq
  have hB := hB.kept (fun a h1 h2 => hfr a (by omega))
  have hO := (hfr _ (by omega)).trans hO
  have hM := hM_
  refine W.eq (g2 := F0 m 551 ls [.int (nI 0)]) rfl ?_
  refine lv_istore (pc := 551) (lv' := [(6, .int (nI 0)), (5, .int (nI 2)), (4, .int (nI i)), (3, .ref (b + 95)), (2, .ref (b + 86)), (1, .ref b), (0, .ref a0)]) hx hb dLa_law_551 hl (by decide) rfl (fun ls hl => ?_)
  refine lv_aload_n (pc := 553) hx hb dLa_law_553 rfl (lv_at hl 4 rfl) ?_
  refine fw_cVR (pc := 554) (As := []) (rest := []) ⟨hx, hb, hml, hown, hW⟩ (c_Mo_thrown hM) (cwV 0 hW (kw_V lm_La_58 im_Mo_thrown se_Mo_thrown ini_Mo cd_Mo_thrown) rfl rfl rfl (by decide +kernel) ⟨Nat.le_of_ble_eq_true rfl, Nat.le_of_ble_eq_true rfl⟩) hK hw hM.1 rfl rfl hl.1 rfl (Nat.le_of_ble_eq_true rfl) dLa_law_554 ⟨by show _ ≤ 601024; omega, by show _ ≤ 7293034; omega⟩ (fun v hq => ?_)
  have hq : v = some (.int (nI 2)) := hq
  subst hq
  refine W.eq (g2 := F0 m 557 ls [.int (nI 2)]) rfl ?_
  refine lv_iload (pc := 557) hx hb dLa_law_557 (lv_at hl 1 rfl) ?_
  refine lv_icmp_eq (pc := 559) (tgt := 564) hx hb dLa_law_559 (by decide) (fun _ => ?_) (fun hc => absurd rfl hc)
  refine lv_iload (pc := 564) hx hb dLa_law_564 (lv_at hl 1 rfl) ?_
  refine lv_if_ne (pc := 566) (tgt := 581) hx hb dLa_law_566 (by decide) (fun _ => ?_) (fun hc => absurd hc (show ¬ nI 2 = 0 by decide))
  refine lv_goto (pc := 581) (tgt := 609) hx hb dLa_law_581 (by decide) ?_
  refine W.widen (k := cells + 1) (n := slots + 6) (by omega) (by omega) ?_
  exact kk _ _ H locs ls _ hw hB hM hO (lv_sub hl [2, 3, 4, 5, 6] rfl)

set_option maxHeartbeats 4000000 in
set_option maxRecDepth 100000 in
theorem s_feedFull (hx : p.tables.exec = Jvm.exec) (hb : c.code = code) (hown : s.vm.findClass RLa = some m.cls) (hml : c.maxLocals = 8) (hW : ∀ w ∈ kWs, w.before args s = true) (hK : kK D kCl (kty cI cL cQ) (kz tO tB tC sa) A s s.heap) (hst : l.stackTraces = false) (hX : va_X a0 L xs s s.heap) (hbl : a0 < s.heap.size) (hbA : ¬ A a0) (hL : L < 2 ^ 31) (hi : i + 4 ≤ L) (hcs : cells + 1 ≤ 601024) (hss : slots + 6 ≤ 7293034) (hw : fw_H D kCl A s.heap w n H locs) (hl : lv_has ls 8 [(4, .int (nI i)), (3, .ref (b + 95)), (2, .ref (b + 86)), (1, .ref b), (0, .ref a0)]) (hB : bcS cI cL cQ w b I J V G) (hM : moS cI cL w (b + 86) MI K S C) (hO : w (b + 95) = some (.inl (cL, 1, .inr (.inl f)))) {k u : Nat} (hk : xs (i + 1) = nI k) (hu : xs (i + 2) = nI u) (ht : tk (nI k) (nI u) = true) (h0 : I 0 = 120) (h3 : MI 3 = I 0) (kk : ∀ (w1 : fw_W) (n1 : Nat) (H1 : Heap) (locs1 : List Loc) (ls1 : Array Slot) (f1 : Nat → Int64), fw_H D kCl A s.heap w1 n1 H1 locs1 → bcS cI cL cQ w1 b I J V G → moS cI cL w1 (b + 86) (va_up MI 0 0) K S C → w1 (b + 95) = some (.inl (cL, 1, .inr (.inl f1))) → lv_has ls1 8 [(4, .int (nI i)), (3, .ref (b + 95)), (2, .ref (b + 86)), (1, .ref b), (0, .ref a0)] → W p l e room_1 s m args below meth c H1 locs1 (cells + 1) (slots + 6) Q (F0 m 609 ls1 [])) : W p l e room_1 s m args below meth c H locs cells slots Q (F0 m 96 ls []) := by
  refine lv_aload_n (pc := 96) hx hb dLa_law_96 rfl (lv_at hl 3 rfl) ?_
  refine lv_aload_n (pc := 97) hx hb dLa_law_97 rfl (lv_at hl 4 rfl) ?_
  refine lv_iload (pc := 98) hx hb dLa_law_98 (lv_at hl 0 rfl) ?_
  refine lv_iconst (pc := 100) (v := (nI 1)) hx hb dLa_law_100 (by decide) ?_
  refine lv_iadd (pc := 101) hx hb dLa_law_101 ?_
  rw [show ((nI i + (nI 1)) : Int32) = nI (i + 1) from (nI_add i 1)]
  refine va_sld (pc := 102) hx hb hX hbl hbA hw.2.2.2.2 (vp_in_nI (show i + 1 < L by omega) hL) dLa_law_102 ?_
  rw [nI_clamp (show i + 1 < 2 ^ 31 by omega)]
  rw [show (xs (i + 1) : Int32) = nI k from hk]
  refine lv_aload_n (pc := 103) hx hb dLa_law_103 rfl (lv_at hl 4 rfl) ?_
  refine lv_iload (pc := 104) hx hb dLa_law_104 (lv_at hl 0 rfl) ?_
  refine lv_iconst (pc := 106) (v := (nI 2)) hx hb dLa_law_106 (by decide) ?_
  refine lv_iadd (pc := 107) hx hb dLa_law_107 ?_
  rw [show ((nI i + (nI 2)) : Int32) = nI (i + 2) from (nI_add i 2)]
  refine va_sld (pc := 108) hx hb hX hbl hbA hw.2.2.2.2 (vp_in_nI (show i + 2 < L by omega) hL) dLa_law_108 ?_
  rw [nI_clamp (show i + 2 < 2 ^ 31 by omega)]
  rw [show (xs (i + 2) : Int32) = nI u from hu]
  refine lv_aload_n (pc := 109) hx hb dLa_law_109 rfl (lv_at hl 1 rfl) ?_
  refine fw_cSL (pc := 110) (As := [.ref b, .int (nI k), .int (nI u), .ref (b + 95)]) (rest := []) (mc := 0) (ms := 0) ⟨hx, hb, hml, hown, hW⟩ (w_feedFull hB ht h0 (Or.inr (by omega)) hO) (fw_wLof 4 hW lm_La_52 sta_La_feed ini_La cd_La_feed rfl rfl (by decide +kernel) ⟨Nat.le_of_ble_eq_true rfl, Nat.le_of_ble_eq_true rfl⟩) hK hw rfl hl.1 rfl (Nat.le_of_ble_eq_true rfl) dLa_law_110 ⟨by show _ ≤ 601024; omega, by show _ ≤ 7293034; omega⟩ (fun v w1 n1 H locs hq hw => ?_)
  obtain ⟨rfl, hO_, hfr⟩ := hq
  have hB := hB.kept (fun a h1 h2 => hfr a (by omega))
  have hM := hM.kept (fun a h1 h2 => hfr a (by omega))
  have hO := hO_
  refine W.eq (g2 := F0 m 113 ls [.int (nI 0)]) rfl ?_
  refine lv_istore (pc := 113) (lv' := [(5, .int (nI 0)), (4, .int (nI i)), (3, .ref (b + 95)), (2, .ref (b + 86)), (1, .ref b), (0, .ref a0)]) hx hb dLa_law_113 hl (by decide) rfl (fun ls hl => ?_)
  refine lv_aload_n (pc := 115) hx hb dLa_law_115 rfl (lv_at hl 3 rfl) ?_
  refine lv_aload_n (pc := 116) hx hb dLa_law_116 rfl (lv_at hl 5 rfl) ?_
  refine lv_iload (pc := 117) hx hb dLa_law_117 (lv_at hl 1 rfl) ?_
  refine lv_iconst (pc := 119) (v := (nI 1)) hx hb dLa_law_119 (by decide) ?_
  refine lv_iadd (pc := 120) hx hb dLa_law_120 ?_
  rw [show ((nI i + (nI 1)) : Int32) = nI (i + 1) from (nI_add i 1)]
  refine va_sld (pc := 121) hx hb hX hbl hbA hw.2.2.2.2 (vp_in_nI (show i + 1 < L by omega) hL) dLa_law_121 ?_
  rw [nI_clamp (show i + 1 < 2 ^ 31 by omega)]
  rw [show (xs (i + 1) : Int32) = nI k from hk]
  refine lv_aload_n (pc := 122) hx hb dLa_law_122 rfl (lv_at hl 5 rfl) ?_
  refine lv_iload (pc := 123) hx hb dLa_law_123 (lv_at hl 1 rfl) ?_
  refine lv_iconst (pc := 125) (v := (nI 2)) hx hb dLa_law_125 (by decide) ?_
  refine lv_iadd (pc := 126) hx hb dLa_law_126 ?_
  rw [show ((nI i + (nI 2)) : Int32) = nI (i + 2) from (nI_add i 2)]
  refine va_sld (pc := 127) hx hb hX hbl hbA hw.2.2.2.2 (vp_in_nI (show i + 2 < L by omega) hL) dLa_law_127 ?_
  rw [nI_clamp (show i + 2 < 2 ^ 31 by omega)]
  rw [show (xs (i + 2) : Int32) = nI u from hu]
  refine fw_cV (pc := 128) (As := [.int (nI k), .int (nI u)]) (rest := []) ⟨hx, hb, hml, hown, hW⟩ (c_Mo_feedFull hM (by rw [ht]; decide) (by omega)) (cwV 2 hW (kw_V lm_La_57 im_Mo_feed se_Mo_feed ini_Mo cd_Mo_feed) rfl rfl rfl (by decide +kernel) ⟨Nat.le_of_ble_eq_true rfl, Nat.le_of_ble_eq_true rfl⟩) hK hw hM.1 rfl rfl hl.1 rfl (Nat.le_of_ble_eq_true rfl) dLa_law_128 ⟨by show _ ≤ 601024; omega, by show _ ≤ 7293034; omega⟩ (fun v w2 H locs hq hw => ?_)
  obtain ⟨rfl, hM_, hfr⟩ := hq
  have hB := hB.kept (fun a h1 h2 => hfr a (by omega))
  have hO := (hfr _ (by omega)).trans hO
  have hM := hM_
  refine W.eq (g2 := F0 m 131 ls [.int (-1)]) rfl ?_
  refine lv_istore (pc := 131) (lv' := [(6, .int (-1)), (5, .int (nI 0)), (4, .int (nI i)), (3, .ref (b + 95)), (2, .ref (b + 86)), (1, .ref b), (0, .ref a0)]) hx hb dLa_law_131 hl (by decide) rfl (fun ls hl => ?_)
  refine lv_aload_n (pc := 133) hx hb dLa_law_133 rfl (lv_at hl 4 rfl) ?_
  refine fw_cVR (pc := 134) (As := []) (rest := []) ⟨hx, hb, hml, hown, hW⟩ (c_Mo_thrown hM) (cwV 0 hW (kw_V lm_La_58 im_Mo_thrown se_Mo_thrown ini_Mo cd_Mo_thrown) rfl rfl rfl (by decide +kernel) ⟨Nat.le_of_ble_eq_true rfl, Nat.le_of_ble_eq_true rfl⟩) hK hw hM.1 rfl rfl hl.1 rfl (Nat.le_of_ble_eq_true rfl) dLa_law_134 ⟨by show _ ≤ 601024; omega, by show _ ≤ 7293034; omega⟩ (fun v hq => ?_)
  have hq : v = some (.int (nI 0)) := hq
  subst hq
  refine W.eq (g2 := F0 m 137 ls [.int (nI 0)]) rfl ?_
  refine lv_iload (pc := 137) hx hb dLa_law_137 (lv_at hl 1 rfl) ?_
  refine lv_icmp_eq (pc := 139) (tgt := 144) hx hb dLa_law_139 (by decide) (fun _ => ?_) (fun hc => absurd rfl hc)
  refine lv_iload (pc := 144) hx hb dLa_law_144 (lv_at hl 1 rfl) ?_
  refine lv_if_ne (pc := 146) (tgt := 161) hx hb dLa_law_146 (by decide) (fun hc => absurd hc (fun h => h rfl)) (fun _ => ?_)
  refine lv_aload_n (pc := 149) hx hb dLa_law_149 rfl (lv_at hl 3 rfl) ?_
  refine lv_iconst (pc := 150) (v := (nI 0)) hx hb dLa_law_150 (by decide) ?_
  refine fw_laldN (pc := 151) (x := (-1)) hx hb hK.1 hw 1 hO rfl (0) (by decide) (by decide) rfl dLa_law_151 ?_
  refine lv_iload (pc := 152) hx hb dLa_law_152 (lv_at hl 0 rfl) ?_
  refine lv_i2l (pc := 154) (v := (-1)) hx hb dLa_law_154 (by decide) ?_
  refine W.lcmp (pc := 155) hx hb dLa_law_155 ?_
  refine lv_if_eq (pc := 156) (tgt := 161) hx hb dLa_law_156 (by decide) (fun _ => ?_) (fun hc => absurd ((lg_cmp_eq _ _).mpr rfl) hc)
  refine lv_goto (pc := 161) (tgt := 609) hx hb dLa_law_161 (by decide) ?_
  refine W.widen (k := cells + 1) (n := slots + 6) (by omega) (by omega) ?_
  exact kk _ _ H locs ls _ hw hB hM hO (lv_sub hl [2, 3, 4, 5, 6] rfl)

set_option maxHeartbeats 4000000 in
set_option maxRecDepth 100000 in
theorem s_feed (hx : p.tables.exec = Jvm.exec) (hb : c.code = code) (hown : s.vm.findClass RLa = some m.cls) (hml : c.maxLocals = 8) (hW : ∀ w ∈ kWs, w.before args s = true) (hK : kK D kCl (kty cI cL cQ) (kz tO tB tC sa) A s s.heap) (hst : l.stackTraces = false) (hX : va_X a0 L xs s s.heap) (hbl : a0 < s.heap.size) (hbA : ¬ A a0) (hL : L < 2 ^ 31) (hi : i + 4 ≤ L) (hcs : cells + 1 ≤ 601024) (hss : slots + 6 ≤ 7293034) (hw : fw_H D kCl A s.heap w n H locs) (hl : lv_has ls 8 [(4, .int (nI i)), (3, .ref (b + 95)), (2, .ref (b + 86)), (1, .ref b), (0, .ref a0)]) (hB : bcS cI cL cQ w b I J V G) (hM : moS cI cL w (b + 86) MI K S C) (hO : w (b + 95) = some (.inl (cL, 1, .inr (.inl f)))) {k u : Nat} (hk : xs (i + 1) = nI k) (hu : xs (i + 2) = nI u) (ht : tk (nI k) (nI u) = true) (h0 : I 0 < 120) (h3 : MI 3 = I 0) (kk : ∀ (w1 : fw_W) (n1 : Nat) (H1 : Heap) (locs1 : List Loc) (ls1 : Array Slot) (f1 : Nat → Int64), fw_H D kCl A s.heap w1 n1 H1 locs1 → bcS cI cL cQ w1 b (va_up I 0 (I 0 + 1)) (va_up (va_up J 0 (va_up (J 0) (I 0) k)) 1 (va_up (J 1) (I 0) u)) V G → moS cI cL w1 (b + 86) (va_up (va_up MI 0 0) 3 (MI 3 + 1)) (va_up (va_up K 0 (va_up (K 0) (MI 3) k)) 1 (va_up (K 1) (MI 3) u)) S C → w1 (b + 95) = some (.inl (cL, 1, .inr (.inl f1))) → lv_has ls1 8 [(4, .int (nI i)), (3, .ref (b + 95)), (2, .ref (b + 86)), (1, .ref b), (0, .ref a0)] → W p l e room_1 s m args below meth c H1 locs1 (cells + 1) (slots + 6) Q (F0 m 609 ls1 [])) : W p l e room_1 s m args below meth c H locs cells slots Q (F0 m 96 ls []) := by
  refine lv_aload_n (pc := 96) hx hb dLa_law_96 rfl (lv_at hl 3 rfl) ?_
  refine lv_aload_n (pc := 97) hx hb dLa_law_97 rfl (lv_at hl 4 rfl) ?_
  refine lv_iload (pc := 98) hx hb dLa_law_98 (lv_at hl 0 rfl) ?_
  refine lv_iconst (pc := 100) (v := (nI 1)) hx hb dLa_law_100 (by decide) ?_
  refine lv_iadd (pc := 101) hx hb dLa_law_101 ?_
  rw [show ((nI i + (nI 1)) : Int32) = nI (i + 1) from (nI_add i 1)]
  refine va_sld (pc := 102) hx hb hX hbl hbA hw.2.2.2.2 (vp_in_nI (show i + 1 < L by omega) hL) dLa_law_102 ?_
  rw [nI_clamp (show i + 1 < 2 ^ 31 by omega)]
  rw [show (xs (i + 1) : Int32) = nI k from hk]
  refine lv_aload_n (pc := 103) hx hb dLa_law_103 rfl (lv_at hl 4 rfl) ?_
  refine lv_iload (pc := 104) hx hb dLa_law_104 (lv_at hl 0 rfl) ?_
  refine lv_iconst (pc := 106) (v := (nI 2)) hx hb dLa_law_106 (by decide) ?_
  refine lv_iadd (pc := 107) hx hb dLa_law_107 ?_
  rw [show ((nI i + (nI 2)) : Int32) = nI (i + 2) from (nI_add i 2)]
  refine va_sld (pc := 108) hx hb hX hbl hbA hw.2.2.2.2 (vp_in_nI (show i + 2 < L by omega) hL) dLa_law_108 ?_
  rw [nI_clamp (show i + 2 < 2 ^ 31 by omega)]
  rw [show (xs (i + 2) : Int32) = nI u from hu]
  refine lv_aload_n (pc := 109) hx hb dLa_law_109 rfl (lv_at hl 1 rfl) ?_
  refine fw_cSL (pc := 110) (As := [.ref b, .int (nI k), .int (nI u), .ref (b + 95)]) (rest := []) (mc := 0) (ms := 0) ⟨hx, hb, hml, hown, hW⟩ (w_feed hB ht h0 (Or.inr (by omega)) hO) (fw_wLof 4 hW lm_La_52 sta_La_feed ini_La cd_La_feed rfl rfl (by decide +kernel) ⟨Nat.le_of_ble_eq_true rfl, Nat.le_of_ble_eq_true rfl⟩) hK hw rfl hl.1 rfl (Nat.le_of_ble_eq_true rfl) dLa_law_110 ⟨by show _ ≤ 601024; omega, by show _ ≤ 7293034; omega⟩ (fun v w1 n1 H locs hq hw => ?_)
  obtain ⟨rfl, hB_, hO_, hfr⟩ := hq
  have hM := hM.kept (fun a h1 h2 => hfr a (by omega) (by omega))
  have hB := hB_
  have hO := hO_
  refine W.eq (g2 := F0 m 113 ls [.int (nI 0)]) rfl ?_
  refine lv_istore (pc := 113) (lv' := [(5, .int (nI 0)), (4, .int (nI i)), (3, .ref (b + 95)), (2, .ref (b + 86)), (1, .ref b), (0, .ref a0)]) hx hb dLa_law_113 hl (by decide) rfl (fun ls hl => ?_)
  refine lv_aload_n (pc := 115) hx hb dLa_law_115 rfl (lv_at hl 3 rfl) ?_
  refine lv_aload_n (pc := 116) hx hb dLa_law_116 rfl (lv_at hl 5 rfl) ?_
  refine lv_iload (pc := 117) hx hb dLa_law_117 (lv_at hl 1 rfl) ?_
  refine lv_iconst (pc := 119) (v := (nI 1)) hx hb dLa_law_119 (by decide) ?_
  refine lv_iadd (pc := 120) hx hb dLa_law_120 ?_
  rw [show ((nI i + (nI 1)) : Int32) = nI (i + 1) from (nI_add i 1)]
  refine va_sld (pc := 121) hx hb hX hbl hbA hw.2.2.2.2 (vp_in_nI (show i + 1 < L by omega) hL) dLa_law_121 ?_
  rw [nI_clamp (show i + 1 < 2 ^ 31 by omega)]
  rw [show (xs (i + 1) : Int32) = nI k from hk]
  refine lv_aload_n (pc := 122) hx hb dLa_law_122 rfl (lv_at hl 5 rfl) ?_
  refine lv_iload (pc := 123) hx hb dLa_law_123 (lv_at hl 1 rfl) ?_
  refine lv_iconst (pc := 125) (v := (nI 2)) hx hb dLa_law_125 (by decide) ?_
  refine lv_iadd (pc := 126) hx hb dLa_law_126 ?_
  rw [show ((nI i + (nI 2)) : Int32) = nI (i + 2) from (nI_add i 2)]
  refine va_sld (pc := 127) hx hb hX hbl hbA hw.2.2.2.2 (vp_in_nI (show i + 2 < L by omega) hL) dLa_law_127 ?_
  rw [nI_clamp (show i + 2 < 2 ^ 31 by omega)]
  rw [show (xs (i + 2) : Int32) = nI u from hu]
  refine fw_cV (pc := 128) (As := [.int (nI k), .int (nI u)]) (rest := []) ⟨hx, hb, hml, hown, hW⟩ (c_Mo_feed hM (by rw [ht]; decide) (by omega)) (cwV 2 hW (kw_V lm_La_57 im_Mo_feed se_Mo_feed ini_Mo cd_Mo_feed) rfl rfl rfl (by decide +kernel) ⟨Nat.le_of_ble_eq_true rfl, Nat.le_of_ble_eq_true rfl⟩) hK hw hM.1 rfl rfl hl.1 rfl (Nat.le_of_ble_eq_true rfl) dLa_law_128 ⟨by show _ ≤ 601024; omega, by show _ ≤ 7293034; omega⟩ (fun v w2 H locs hq hw => ?_)
  obtain ⟨rfl, hM_, hfr⟩ := hq
  have hB := hB.kept (fun a h1 h2 => hfr a (by omega))
  have hO := (hfr _ (by omega)).trans hO
  have hM := hM_
  refine W.eq (g2 := F0 m 131 ls [.int (nI (MI 3 + 1))]) rfl ?_
  refine lv_istore (pc := 131) (lv' := [(6, .int (nI (MI 3 + 1))), (5, .int (nI 0)), (4, .int (nI i)), (3, .ref (b + 95)), (2, .ref (b + 86)), (1, .ref b), (0, .ref a0)]) hx hb dLa_law_131 hl (by decide) rfl (fun ls hl => ?_)
  refine lv_aload_n (pc := 133) hx hb dLa_law_133 rfl (lv_at hl 4 rfl) ?_
  refine fw_cVR (pc := 134) (As := []) (rest := []) ⟨hx, hb, hml, hown, hW⟩ (c_Mo_thrown hM) (cwV 0 hW (kw_V lm_La_58 im_Mo_thrown se_Mo_thrown ini_Mo cd_Mo_thrown) rfl rfl rfl (by decide +kernel) ⟨Nat.le_of_ble_eq_true rfl, Nat.le_of_ble_eq_true rfl⟩) hK hw hM.1 rfl rfl hl.1 rfl (Nat.le_of_ble_eq_true rfl) dLa_law_134 ⟨by show _ ≤ 601024; omega, by show _ ≤ 7293034; omega⟩ (fun v hq => ?_)
  have hq : v = some (.int (nI 0)) := hq
  subst hq
  refine W.eq (g2 := F0 m 137 ls [.int (nI 0)]) rfl ?_
  refine lv_iload (pc := 137) hx hb dLa_law_137 (lv_at hl 1 rfl) ?_
  refine lv_icmp_eq (pc := 139) (tgt := 144) hx hb dLa_law_139 (by decide) (fun _ => ?_) (fun hc => absurd rfl hc)
  refine lv_iload (pc := 144) hx hb dLa_law_144 (lv_at hl 1 rfl) ?_
  refine lv_if_ne (pc := 146) (tgt := 161) hx hb dLa_law_146 (by decide) (fun hc => absurd hc (fun h => h rfl)) (fun _ => ?_)
  refine lv_aload_n (pc := 149) hx hb dLa_law_149 rfl (lv_at hl 3 rfl) ?_
  refine lv_iconst (pc := 150) (v := (nI 0)) hx hb dLa_law_150 (by decide) ?_
  refine fw_laldN (pc := 151) (x := (lN (I 0 + 1))) hx hb hK.1 hw 1 hO rfl (0) (by decide) (by decide) rfl dLa_law_151 ?_
  refine lv_iload (pc := 152) hx hb dLa_law_152 (lv_at hl 0 rfl) ?_
  refine lv_i2l (pc := 154) (v := (lN (MI 3 + 1))) hx hb dLa_law_154 (nI_l (by omega)) ?_
  refine W.lcmp (pc := 155) hx hb dLa_law_155 ?_
  refine lv_if_eq (pc := 156) (tgt := 161) hx hb dLa_law_156 (by decide) (fun _ => ?_) (fun hc => absurd (by rw [h3]; exact (lg_cmp_eq _ _).mpr rfl) hc)
  refine lv_goto (pc := 161) (tgt := 609) hx hb dLa_law_161 (by decide) ?_
  refine W.widen (k := cells + 1) (n := slots + 6) (by omega) (by omega) ?_
  exact kk _ _ H locs ls _ hw hB hM hO (lv_sub hl [2, 3, 4, 5, 6] rfl)

set_option maxHeartbeats 4000000 in
set_option maxRecDepth 100000 in
theorem s_set (hx : p.tables.exec = Jvm.exec) (hb : c.code = code) (hown : s.vm.findClass RLa = some m.cls) (hml : c.maxLocals = 8) (hW : ∀ w ∈ kWs, w.before args s = true) (hK : kK D kCl (kty cI cL cQ) (kz tO tB tC sa) A s s.heap) (hst : l.stackTraces = false) (hX : va_X a0 L xs s s.heap) (hbl : a0 < s.heap.size) (hbA : ¬ A a0) (hL : L < 2 ^ 31) (hi : i + 4 ≤ L) (hcs : cells + 1 ≤ 601024) (hss : slots + 6 ≤ 7293034) (hw : fw_H D kCl A s.heap w n H locs) (hl : lv_has ls 8 [(4, .int (nI i)), (3, .ref (b + 95)), (2, .ref (b + 86)), (1, .ref b), (0, .ref a0)]) (hB : bcS cI cL cQ w b I J V G) (hM : moS cI cL w (b + 86) MI K S C) (hO : w (b + 95) = some (.inl (cL, 1, .inr (.inl f)))) {j : Nat} (hj : j < 8) (hje : xs (i + 1) = nI j) {y : Nat} (hy : y < 2 ^ 64) (hye : (((((xs (i + 2))).toInt64) <<< (((nI 32)).toInt64 &&& 63)) ||| (((xs (i + 3))).toInt64 &&& (lN 4294967295))) = lN y) (kk : ∀ (w1 : fw_W) (n1 : Nat) (H1 : Heap) (locs1 : List Loc) (ls1 : Array Slot) (f1 : Nat → Int64), fw_H D kCl A s.heap w1 n1 H1 locs1 → bcS cI cL cQ w1 b I J (va_up V (10 + j) (lmg y)) (va_up G (10 + j) (lsg y)) → moS cI cL w1 (b + 86) (va_up MI 0 0) K (va_up S (10 + j) (sgI y)) (setC C j (lmg y)) → w1 (b + 95) = some (.inl (cL, 1, .inr (.inl f1))) → lv_has ls1 8 [(4, .int (nI i)), (3, .ref (b + 95)), (2, .ref (b + 86)), (1, .ref b), (0, .ref a0)] → W p l e room_1 s m args below meth c H1 locs1 (cells + 1) (slots + 6) Q (F0 m 609 ls1 [])) : W p l e room_1 s m args below meth c H locs cells slots Q (F0 m 177 ls []) := by
  refine lv_aload_n (pc := 177) hx hb dLa_law_177 rfl (lv_at hl 3 rfl) ?_
  refine lv_aload_n (pc := 178) hx hb dLa_law_178 rfl (lv_at hl 4 rfl) ?_
  refine lv_iload (pc := 179) hx hb dLa_law_179 (lv_at hl 0 rfl) ?_
  refine lv_iconst (pc := 181) (v := (nI 1)) hx hb dLa_law_181 (by decide) ?_
  refine lv_iadd (pc := 182) hx hb dLa_law_182 ?_
  rw [show ((nI i + (nI 1)) : Int32) = nI (i + 1) from (nI_add i 1)]
  refine va_sld (pc := 183) hx hb hX hbl hbA hw.2.2.2.2 (vp_in_nI (show i + 1 < L by omega) hL) dLa_law_183 ?_
  rw [nI_clamp (show i + 1 < 2 ^ 31 by omega)]
  rw [show (xs (i + 1) : Int32) = nI j from hje]
  refine lv_aload_n (pc := 184) hx hb dLa_law_184 rfl (lv_at hl 4 rfl) ?_
  refine lv_iload (pc := 185) hx hb dLa_law_185 (lv_at hl 0 rfl) ?_
  refine lv_iconst (pc := 187) (v := (nI 2)) hx hb dLa_law_187 (by decide) ?_
  refine lv_iadd (pc := 188) hx hb dLa_law_188 ?_
  rw [show ((nI i + (nI 2)) : Int32) = nI (i + 2) from (nI_add i 2)]
  refine va_sld (pc := 189) hx hb hX hbl hbA hw.2.2.2.2 (vp_in_nI (show i + 2 < L by omega) hL) dLa_law_189 ?_
  rw [nI_clamp (show i + 2 < 2 ^ 31 by omega)]
  refine lv_i2l (pc := 190) (v := ((xs (i + 2))).toInt64) hx hb dLa_law_190 rfl ?_
  refine lv_bipush (pc := 191) (v := (nI 32)) hx hb dLa_law_191 (by decide) ?_
  refine lv_lshl (pc := 193) (v := ((((xs (i + 2))).toInt64) <<< (((nI 32)).toInt64 &&& 63))) hx hb dLa_law_193 rfl ?_
  refine lv_aload_n (pc := 194) hx hb dLa_law_194 rfl (lv_at hl 4 rfl) ?_
  refine lv_iload (pc := 195) hx hb dLa_law_195 (lv_at hl 0 rfl) ?_
  refine lv_iconst (pc := 197) (v := (nI 3)) hx hb dLa_law_197 (by decide) ?_
  refine lv_iadd (pc := 198) hx hb dLa_law_198 ?_
  rw [show ((nI i + (nI 3)) : Int32) = nI (i + 3) from (nI_add i 3)]
  refine va_sld (pc := 199) hx hb hX hbl hbA hw.2.2.2.2 (vp_in_nI (show i + 3 < L by omega) hL) dLa_law_199 ?_
  rw [nI_clamp (show i + 3 < 2 ^ 31 by omega)]
  refine lv_i2l (pc := 200) (v := ((xs (i + 3))).toInt64) hx hb dLa_law_200 rfl ?_
  refine lv_ldc2 (pc := 201) (v := lN 4294967295) hx hb hown (hW _ kl_La_65) dLa_law_201 ?_
  refine lv_land (pc := 204) hx hb dLa_law_204 ?_
  refine lv_lor (pc := 205) hx hb dLa_law_205 ?_
  rw [show ((((((xs (i + 2))).toInt64) <<< (((nI 32)).toInt64 &&& 63)) ||| (((xs (i + 3))).toInt64 &&& (lN 4294967295))) : Int64) = lN y from hye]
  refine fw_cSL (pc := 206) (As := [.ref b, .int (nI j), .long (lN y)]) (rest := []) (mc := 0) (ms := 0) ⟨hx, hb, hml, hown, hW⟩ (w_set hB hj hy) (fw_wLof 3 hW lm_La_67 sta_La_set ini_La cd_La_set rfl rfl (by decide +kernel) ⟨Nat.le_of_ble_eq_true rfl, Nat.le_of_ble_eq_true rfl⟩) hK hw rfl hl.1 rfl (Nat.le_of_ble_eq_true rfl) dLa_law_206 ⟨by show _ ≤ 601024; omega, by show _ ≤ 7293034; omega⟩ (fun v w1 n1 H locs hq hw => ?_)
  obtain ⟨rfl, hB_, hfr⟩ := hq
  have hM := hM.kept (fun a h1 h2 => hfr a (by omega))
  have hO := (hfr _ (by omega)).trans hO
  have hB := hB_
  refine W.eq (g2 := F0 m 209 ls [.int (nI 0)]) rfl ?_
  refine lv_istore (pc := 209) (lv' := [(5, .int (nI 0)), (4, .int (nI i)), (3, .ref (b + 95)), (2, .ref (b + 86)), (1, .ref b), (0, .ref a0)]) hx hb dLa_law_209 hl (by decide) rfl (fun ls hl => ?_)
  refine lv_aload_n (pc := 211) hx hb dLa_law_211 rfl (lv_at hl 3 rfl) ?_
  refine lv_aload_n (pc := 212) hx hb dLa_law_212 rfl (lv_at hl 5 rfl) ?_
  refine lv_iload (pc := 213) hx hb dLa_law_213 (lv_at hl 1 rfl) ?_
  refine lv_iconst (pc := 215) (v := (nI 1)) hx hb dLa_law_215 (by decide) ?_
  refine lv_iadd (pc := 216) hx hb dLa_law_216 ?_
  rw [show ((nI i + (nI 1)) : Int32) = nI (i + 1) from (nI_add i 1)]
  refine va_sld (pc := 217) hx hb hX hbl hbA hw.2.2.2.2 (vp_in_nI (show i + 1 < L by omega) hL) dLa_law_217 ?_
  rw [nI_clamp (show i + 1 < 2 ^ 31 by omega)]
  rw [show (xs (i + 1) : Int32) = nI j from hje]
  refine lv_aload_n (pc := 218) hx hb dLa_law_218 rfl (lv_at hl 5 rfl) ?_
  refine lv_iload (pc := 219) hx hb dLa_law_219 (lv_at hl 1 rfl) ?_
  refine lv_iconst (pc := 221) (v := (nI 2)) hx hb dLa_law_221 (by decide) ?_
  refine lv_iadd (pc := 222) hx hb dLa_law_222 ?_
  rw [show ((nI i + (nI 2)) : Int32) = nI (i + 2) from (nI_add i 2)]
  refine va_sld (pc := 223) hx hb hX hbl hbA hw.2.2.2.2 (vp_in_nI (show i + 2 < L by omega) hL) dLa_law_223 ?_
  rw [nI_clamp (show i + 2 < 2 ^ 31 by omega)]
  refine lv_i2l (pc := 224) (v := ((xs (i + 2))).toInt64) hx hb dLa_law_224 rfl ?_
  refine lv_bipush (pc := 225) (v := (nI 32)) hx hb dLa_law_225 (by decide) ?_
  refine lv_lshl (pc := 227) (v := ((((xs (i + 2))).toInt64) <<< (((nI 32)).toInt64 &&& 63))) hx hb dLa_law_227 rfl ?_
  refine lv_aload_n (pc := 228) hx hb dLa_law_228 rfl (lv_at hl 5 rfl) ?_
  refine lv_iload (pc := 229) hx hb dLa_law_229 (lv_at hl 1 rfl) ?_
  refine lv_iconst (pc := 231) (v := (nI 3)) hx hb dLa_law_231 (by decide) ?_
  refine lv_iadd (pc := 232) hx hb dLa_law_232 ?_
  rw [show ((nI i + (nI 3)) : Int32) = nI (i + 3) from (nI_add i 3)]
  refine va_sld (pc := 233) hx hb hX hbl hbA hw.2.2.2.2 (vp_in_nI (show i + 3 < L by omega) hL) dLa_law_233 ?_
  rw [nI_clamp (show i + 3 < 2 ^ 31 by omega)]
  refine lv_i2l (pc := 234) (v := ((xs (i + 3))).toInt64) hx hb dLa_law_234 rfl ?_
  refine lv_ldc2 (pc := 235) (v := lN 4294967295) hx hb hown (hW _ kl_La_65) dLa_law_235 ?_
  refine lv_land (pc := 238) hx hb dLa_law_238 ?_
  refine lv_lor (pc := 239) hx hb dLa_law_239 ?_
  rw [show ((((((xs (i + 2))).toInt64) <<< (((nI 32)).toInt64 &&& 63)) ||| (((xs (i + 3))).toInt64 &&& (lN 4294967295))) : Int64) = lN y from hye]
  refine fw_cV (pc := 240) (As := [.int (nI j), .long (lN y)]) (rest := []) ⟨hx, hb, hml, hown, hW⟩ (c_Mo_set hM hj hy) (cwV 2 hW (kw_V lm_La_70 im_Mo_set se_Mo_set ini_Mo cd_Mo_set) rfl rfl rfl (by decide +kernel) ⟨Nat.le_of_ble_eq_true rfl, Nat.le_of_ble_eq_true rfl⟩) hK hw hM.1 rfl rfl hl.1 rfl (Nat.le_of_ble_eq_true rfl) dLa_law_240 ⟨by show _ ≤ 601024; omega, by show _ ≤ 7293034; omega⟩ (fun v w2 H locs hq hw => ?_)
  obtain ⟨rfl, hM_, hfr⟩ := hq
  have hB := hB.kept (fun a h1 h2 => hfr a (by omega))
  have hO := (hfr _ (by omega)).trans hO
  have hM := hM_
  refine W.eq (g2 := F0 m 243 ls []) rfl ?_
  refine lv_aload_n (pc := 243) hx hb dLa_law_243 rfl (lv_at hl 3 rfl) ?_
  refine fw_cVR (pc := 244) (As := []) (rest := []) ⟨hx, hb, hml, hown, hW⟩ (c_Mo_thrown hM) (cwV 0 hW (kw_V lm_La_58 im_Mo_thrown se_Mo_thrown ini_Mo cd_Mo_thrown) rfl rfl rfl (by decide +kernel) ⟨Nat.le_of_ble_eq_true rfl, Nat.le_of_ble_eq_true rfl⟩) hK hw hM.1 rfl rfl hl.1 rfl (Nat.le_of_ble_eq_true rfl) dLa_law_244 ⟨by show _ ≤ 601024; omega, by show _ ≤ 7293034; omega⟩ (fun v hq => ?_)
  have hq : v = some (.int (nI 0)) := hq
  subst hq
  refine W.eq (g2 := F0 m 247 ls [.int (nI 0)]) rfl ?_
  refine lv_iload (pc := 247) hx hb dLa_law_247 (lv_at hl 0 rfl) ?_
  refine lv_icmp_eq (pc := 249) (tgt := 254) hx hb dLa_law_249 (by decide) (fun _ => ?_) (fun hc => absurd rfl hc)
  refine lv_goto (pc := 254) (tgt := 609) hx hb dLa_law_254 (by decide) ?_
  refine W.widen (k := cells + 1) (n := slots + 6) (by omega) (by omega) ?_
  exact kk _ _ H locs ls _ hw hB hM hO (lv_sub hl [1, 2, 3, 4, 5] rfl)

set_option maxHeartbeats 4000000 in
set_option maxRecDepth 100000 in
theorem s_restart (hx : p.tables.exec = Jvm.exec) (hb : c.code = code) (hown : s.vm.findClass RLa = some m.cls) (hml : c.maxLocals = 8) (hW : ∀ w ∈ kWs, w.before args s = true) (hK : kK D kCl (kty cI cL cQ) (kz tO tB tC sa) A s s.heap) (hst : l.stackTraces = false) (hX : va_X a0 L xs s s.heap) (hbl : a0 < s.heap.size) (hbA : ¬ A a0) (hL : L < 2 ^ 31) (hi : i + 4 ≤ L) (hcs : cells + 1 ≤ 601024) (hss : slots + 6 ≤ 7293034) (hw : fw_H D kCl A s.heap w n H locs) (hl : lv_has ls 8 [(4, .int (nI i)), (3, .ref (b + 95)), (2, .ref (b + 86)), (1, .ref b), (0, .ref a0)]) (hB : bcS cI cL cQ w b I J V G) (hM : moS cI cL w (b + 86) MI K S C) (hO : w (b + 95) = some (.inl (cL, 1, .inr (.inl f)))) (h1 : 0 < I 1) (h2 : I 1 < 2 ^ 31) (h6 : 0 < MI 6) (h6b : MI 6 < 2 ^ 31) (kk : ∀ (w1 : fw_W) (n1 : Nat) (H1 : Heap) (locs1 : List Loc) (ls1 : Array Slot) (f1 : Nat → Int64), fw_H D kCl A s.heap w1 n1 H1 locs1 → bcS cI cL cQ w1 b (fun i => if 4 ≤ i then 0 else I i) J V G → moS cI cL w1 (b + 86) (fun i => if 16 ≤ i then 0 else va_up MI 0 0 i) K S C → w1 (b + 95) = some (.inl (cL, 1, .inr (.inl f1))) → lv_has ls1 8 [(4, .int (nI i)), (3, .ref (b + 95)), (2, .ref (b + 86)), (1, .ref b), (0, .ref a0)] → W p l e room_1 s m args below meth c H1 locs1 (cells + 1) (slots + 6) Q (F0 m 609 ls1 [])) : W p l e room_1 s m args below meth c H locs cells slots Q (F0 m 293 ls []) := by
  refine lv_aload_n (pc := 293) hx hb dLa_law_293 rfl (lv_at hl 3 rfl) ?_
  refine fw_cSL (pc := 294) (As := [.ref b]) (rest := []) (mc := 0) (ms := 0) ⟨hx, hb, hml, hown, hW⟩ (w_restart hB h1 h2) (fw_wLof 1 hW lm_La_75 sta_La_restart ini_La cd_La_restart rfl rfl (by decide +kernel) ⟨Nat.le_of_ble_eq_true rfl, Nat.le_of_ble_eq_true rfl⟩) hK hw rfl hl.1 rfl (Nat.le_of_ble_eq_true rfl) dLa_law_294 ⟨by show _ ≤ 601024; omega, by show _ ≤ 7293034; omega⟩ (fun v w1 n1 H locs hq hw => ?_)
  obtain ⟨rfl, hB_, hfr⟩ := hq
  have hM := hM.kept (fun a h1 h2 => hfr a (by omega))
  have hO := (hfr _ (by omega)).trans hO
  have hB := hB_
  refine W.eq (g2 := F0 m 297 ls [.int (nI 0)]) rfl ?_
  refine lv_istore (pc := 297) (lv' := [(5, .int (nI 0)), (4, .int (nI i)), (3, .ref (b + 95)), (2, .ref (b + 86)), (1, .ref b), (0, .ref a0)]) hx hb dLa_law_297 hl (by decide) rfl (fun ls hl => ?_)
  refine lv_aload_n (pc := 299) hx hb dLa_law_299 rfl (lv_at hl 3 rfl) ?_
  refine fw_cV (pc := 300) (As := []) (rest := []) ⟨hx, hb, hml, hown, hW⟩ (c_Mo_restart hM h6 h6b) (cwV 0 hW (kw_V lm_La_78 im_Mo_restart se_Mo_restart ini_Mo cd_Mo_restart) rfl rfl rfl (by decide +kernel) ⟨Nat.le_of_ble_eq_true rfl, Nat.le_of_ble_eq_true rfl⟩) hK hw hM.1 rfl rfl hl.1 rfl (Nat.le_of_ble_eq_true rfl) dLa_law_300 ⟨by show _ ≤ 601024; omega, by show _ ≤ 7293034; omega⟩ (fun v w2 H locs hq hw => ?_)
  obtain ⟨rfl, hM_, hfr⟩ := hq
  have hB := hB.kept (fun a h1 h2 => hfr a (by omega))
  have hO := (hfr _ (by omega)).trans hO
  have hM := hM_
  refine W.eq (g2 := F0 m 303 ls []) rfl ?_
  refine lv_aload_n (pc := 303) hx hb dLa_law_303 rfl (lv_at hl 3 rfl) ?_
  refine fw_cVR (pc := 304) (As := []) (rest := []) ⟨hx, hb, hml, hown, hW⟩ (c_Mo_thrown hM) (cwV 0 hW (kw_V lm_La_58 im_Mo_thrown se_Mo_thrown ini_Mo cd_Mo_thrown) rfl rfl rfl (by decide +kernel) ⟨Nat.le_of_ble_eq_true rfl, Nat.le_of_ble_eq_true rfl⟩) hK hw hM.1 rfl rfl hl.1 rfl (Nat.le_of_ble_eq_true rfl) dLa_law_304 ⟨by show _ ≤ 601024; omega, by show _ ≤ 7293034; omega⟩ (fun v hq => ?_)
  have hq : v = some (.int (nI 0)) := hq
  subst hq
  refine W.eq (g2 := F0 m 307 ls [.int (nI 0)]) rfl ?_
  refine lv_iload (pc := 307) hx hb dLa_law_307 (lv_at hl 0 rfl) ?_
  refine lv_icmp_eq (pc := 309) (tgt := 314) hx hb dLa_law_309 (by decide) (fun _ => ?_) (fun hc => absurd rfl hc)
  refine lv_goto (pc := 314) (tgt := 609) hx hb dLa_law_314 (by decide) ?_
  refine W.widen (k := cells + 1) (n := slots + 6) (by omega) (by omega) ?_
  exact kk _ _ H locs ls _ hw hB hM hO (lv_sub hl [1, 2, 3, 4, 5] rfl)

set_option maxHeartbeats 4000000 in
set_option maxRecDepth 100000 in
theorem s_compile0 (hx : p.tables.exec = Jvm.exec) (hb : c.code = code) (hown : s.vm.findClass RLa = some m.cls) (hml : c.maxLocals = 8) (hW : ∀ w ∈ kWs, w.before args s = true) (hK : kK D kCl (kty cI cL cQ) (kz tO tB tC sa) A s s.heap) (hst : l.stackTraces = false) (hX : va_X a0 L xs s s.heap) (hbl : a0 < s.heap.size) (hbA : ¬ A a0) (hL : L < 2 ^ 31) (hi : i + 4 ≤ L) (hcs : cells + 1 ≤ 601024) (hss : slots + 6 ≤ 7293034) (hw : fw_H D kCl A s.heap w n H locs) (hl : lv_has ls 8 [(4, .int (nI i)), (3, .ref (b + 95)), (2, .ref (b + 86)), (1, .ref b), (0, .ref a0)]) (hB : bcS cI cL cQ w b I J V G) (hM : moS cI cL w (b + 86) MI K S C) (hO : w (b + 95) = some (.inl (cL, 1, .inr (.inl f)))) (h0 : I 0 = 0) (h3 : MI 3 = 0) (kk : ∀ (w1 : fw_W) (n1 : Nat) (H1 : Heap) (locs1 : List Loc) (ls1 : Array Slot) (f1 : Nat → Int64), fw_H D kCl A s.heap w1 n1 H1 locs1 → bcS cI cL cQ w1 b (fun _ => 0) J V G → moS cI cL w1 (b + 86) (fun i => if i = 13 then MI 13 else 0) K S C → w1 (b + 95) = some (.inl (cL, 1, .inr (.inl f1))) → lv_has ls1 8 [(4, .int (nI i)), (3, .ref (b + 95)), (2, .ref (b + 86)), (1, .ref b), (0, .ref a0)] → W p l e room_1 s m args below meth c H1 locs1 (cells + 1) (slots + 6) Q (F0 m 609 ls1 [])) : W p l e room_1 s m args below meth c H locs cells slots Q (F0 m 164 ls []) := by
  refine lv_aload_n (pc := 164) hx hb dLa_law_164 rfl (lv_at hl 3 rfl) ?_
  refine fw_cV (pc := 165) (As := []) (rest := []) ⟨hx, hb, hml, hown, hW⟩ (c_Bc_compile0 hB h0) (cwV 0 hW (kw_V lm_La_61 im_Bc_compile se_Bc_compile ini_Bc cd_Bc_compile) rfl rfl rfl (by decide +kernel) ⟨Nat.le_of_ble_eq_true rfl, Nat.le_of_ble_eq_true rfl⟩) hK hw hB.1.1 rfl rfl hl.1 rfl (Nat.le_of_ble_eq_true rfl) dLa_law_165 ⟨by show _ ≤ 601024; omega, by show _ ≤ 7293034; omega⟩ (fun v w1 H locs hq hw => ?_)
  obtain ⟨rfl, hB_, hfr⟩ := hq
  have hM := hM.kept (fun a h1 h2 => hfr a (by omega))
  have hO := (hfr _ (by omega)).trans hO
  have hB := hB_
  refine W.eq (g2 := F0 m 168 ls [.int (nI 1)]) rfl ?_
  refine lv_aload_n (pc := 168) hx hb dLa_law_168 rfl (lv_at hl 2 rfl) ?_
  refine fw_cV (pc := 169) (As := []) (rest := [.int (nI 1)]) ⟨hx, hb, hml, hown, hW⟩ (c_Mo_compile0 hM h3) (cwV 0 hW (kw_V lm_La_64 im_Mo_compile se_Mo_compile ini_Mo cd_Mo_compile) rfl rfl rfl (by decide +kernel) ⟨Nat.le_of_ble_eq_true rfl, Nat.le_of_ble_eq_true rfl⟩) hK hw hM.1 rfl rfl hl.1 rfl (Nat.le_of_ble_eq_true rfl) dLa_law_169 ⟨by show _ ≤ 601024; omega, by show _ ≤ 7293034; omega⟩ (fun v w2 H locs hq hw => ?_)
  obtain ⟨rfl, hM_, hfr⟩ := hq
  have hB := hB.kept (fun a h1 h2 => hfr a (by omega))
  have hO := (hfr _ (by omega)).trans hO
  have hM := hM_
  refine W.eq (g2 := F0 m 172 ls [.int (nI 1), .int (nI 1)]) rfl ?_
  refine lv_icmp_eq (pc := 172) (tgt := 609) hx hb dLa_law_172 (by decide) (fun _ => ?_) (fun hc => absurd rfl hc)
  refine W.widen (k := cells + 1) (n := slots + 6) (by omega) (by omega) ?_
  exact kk _ _ H locs ls _ hw hB hM hO (lv_sub hl [0, 1, 2, 3, 4] rfl)

set_option maxHeartbeats 4000000 in
set_option maxRecDepth 100000 in
theorem s_count0 (hx : p.tables.exec = Jvm.exec) (hb : c.code = code) (hown : s.vm.findClass RLa = some m.cls) (hml : c.maxLocals = 8) (hW : ∀ w ∈ kWs, w.before args s = true) (hK : kK D kCl (kty cI cL cQ) (kz tO tB tC sa) A s s.heap) (hst : l.stackTraces = false) (hX : va_X a0 L xs s s.heap) (hbl : a0 < s.heap.size) (hbA : ¬ A a0) (hL : L < 2 ^ 31) (hi : i + 4 ≤ L) (hcs : cells + 1 ≤ 601024) (hss : slots + 6 ≤ 7293034) (hw : fw_H D kCl A s.heap w n H locs) (hl : lv_has ls 8 [(4, .int (nI i)), (3, .ref (b + 95)), (2, .ref (b + 86)), (1, .ref b), (0, .ref a0)]) (hB : bcS cI cL cQ w b I J V G) (hM : moS cI cL w (b + 86) MI K S C) (hO : w (b + 95) = some (.inl (cL, 1, .inr (.inl f)))) (hje : xs (i + 1) = nI 0) (he : I 0 = MI 3) (kk : ∀ (w1 : fw_W) (n1 : Nat) (H1 : Heap) (locs1 : List Loc) (ls1 : Array Slot) (f1 : Nat → Int64), fw_H D kCl A s.heap w1 n1 H1 locs1 → bcS cI cL cQ w1 b I J V G → moS cI cL w1 (b + 86) (va_up MI 0 0) K S C → w1 (b + 95) = some (.inl (cL, 1, .inr (.inl f1))) → lv_has ls1 8 [(4, .int (nI i)), (3, .ref (b + 95)), (2, .ref (b + 86)), (1, .ref b), (0, .ref a0)] → W p l e room_1 s m args below meth c H1 locs1 (cells + 1) (slots + 6) Q (F0 m 609 ls1 [])) : W p l e room_1 s m args below meth c H locs cells slots Q (F0 m 584 ls []) := by
  refine lv_aload_n (pc := 584) hx hb dLa_law_584 rfl (lv_at hl 3 rfl) ?_
  refine lv_aload_n (pc := 585) hx hb dLa_law_585 rfl (lv_at hl 4 rfl) ?_
  refine lv_iload (pc := 586) hx hb dLa_law_586 (lv_at hl 0 rfl) ?_
  refine lv_iconst (pc := 588) (v := (nI 1)) hx hb dLa_law_588 (by decide) ?_
  refine lv_iadd (pc := 589) hx hb dLa_law_589 ?_
  rw [show ((nI i + (nI 1)) : Int32) = nI (i + 1) from (nI_add i 1)]
  refine va_sld (pc := 590) hx hb hX hbl hbA hw.2.2.2.2 (vp_in_nI (show i + 1 < L by omega) hL) dLa_law_590 ?_
  rw [nI_clamp (show i + 1 < 2 ^ 31 by omega)]
  rw [show (xs (i + 1) : Int32) = nI 0 from hje]
  refine fw_cVR (pc := 591) (As := [.int (nI 0)]) (rest := []) ⟨hx, hb, hml, hown, hW⟩ (c_Bc_count0 hB) (cwV 1 hW (kw_V lm_La_96 im_Bc_count se_Bc_count ini_Bc cd_Bc_count) rfl rfl rfl (by decide +kernel) ⟨Nat.le_of_ble_eq_true rfl, Nat.le_of_ble_eq_true rfl⟩) hK hw hB.1.1 rfl rfl hl.1 rfl (Nat.le_of_ble_eq_true rfl) dLa_law_591 ⟨by show _ ≤ 601024; omega, by show _ ≤ 7293034; omega⟩ (fun v hq => ?_)
  subst hq
  refine W.eq (g2 := F0 m 594 ls [.int (nI (I 0))]) rfl ?_
  refine lv_aload_n (pc := 594) hx hb dLa_law_594 rfl (lv_at hl 2 rfl) ?_
  refine lv_aload_n (pc := 595) hx hb dLa_law_595 rfl (lv_at hl 4 rfl) ?_
  refine lv_iload (pc := 596) hx hb dLa_law_596 (lv_at hl 0 rfl) ?_
  refine lv_iconst (pc := 598) (v := (nI 1)) hx hb dLa_law_598 (by decide) ?_
  refine lv_iadd (pc := 599) hx hb dLa_law_599 ?_
  rw [show ((nI i + (nI 1)) : Int32) = nI (i + 1) from (nI_add i 1)]
  refine va_sld (pc := 600) hx hb hX hbl hbA hw.2.2.2.2 (vp_in_nI (show i + 1 < L by omega) hL) dLa_law_600 ?_
  rw [nI_clamp (show i + 1 < 2 ^ 31 by omega)]
  rw [show (xs (i + 1) : Int32) = nI 0 from hje]
  refine fw_cV (pc := 601) (As := [.int (nI 0)]) (rest := [.int (nI (I 0))]) ⟨hx, hb, hml, hown, hW⟩ (c_Mo_count0 hM) (cwV 1 hW (kw_V lm_La_99 im_Mo_count se_Mo_count ini_Mo cd_Mo_count) rfl rfl rfl (by decide +kernel) ⟨Nat.le_of_ble_eq_true rfl, Nat.le_of_ble_eq_true rfl⟩) hK hw hM.1 rfl rfl hl.1 rfl (Nat.le_of_ble_eq_true rfl) dLa_law_601 ⟨by show _ ≤ 601024; omega, by show _ ≤ 7293034; omega⟩ (fun v w1 H locs hq hw => ?_)
  obtain ⟨rfl, hM_, hfr⟩ := hq
  have hB := hB.kept (fun a h1 h2 => hfr a (by omega))
  have hO := (hfr _ (by omega)).trans hO
  have hM := hM_
  refine W.eq (g2 := F0 m 604 ls [.int (nI (MI 3)), .int (nI (I 0))]) rfl ?_
  refine lv_icmp_eq (pc := 604) (tgt := 609) hx hb dLa_law_604 (by decide) (fun _ => ?_) (fun hc => absurd (by rw [he]) hc)
  refine W.widen (k := cells + 1) (n := slots + 6) (by omega) (by omega) ?_
  exact kk _ _ H locs ls _ hw hB hM hO (lv_sub hl [0, 1, 2, 3, 4] rfl)

set_option maxHeartbeats 4000000 in
set_option maxRecDepth 100000 in
theorem s_count1 (hx : p.tables.exec = Jvm.exec) (hb : c.code = code) (hown : s.vm.findClass RLa = some m.cls) (hml : c.maxLocals = 8) (hW : ∀ w ∈ kWs, w.before args s = true) (hK : kK D kCl (kty cI cL cQ) (kz tO tB tC sa) A s s.heap) (hst : l.stackTraces = false) (hX : va_X a0 L xs s s.heap) (hbl : a0 < s.heap.size) (hbA : ¬ A a0) (hL : L < 2 ^ 31) (hi : i + 4 ≤ L) (hcs : cells + 1 ≤ 601024) (hss : slots + 6 ≤ 7293034) (hw : fw_H D kCl A s.heap w n H locs) (hl : lv_has ls 8 [(4, .int (nI i)), (3, .ref (b + 95)), (2, .ref (b + 86)), (1, .ref b), (0, .ref a0)]) (hB : bcS cI cL cQ w b I J V G) (hM : moS cI cL w (b + 86) MI K S C) (hO : w (b + 95) = some (.inl (cL, 1, .inr (.inl f)))) (hje : xs (i + 1) = nI 1) (he : I 1 = MI 7) (kk : ∀ (w1 : fw_W) (n1 : Nat) (H1 : Heap) (locs1 : List Loc) (ls1 : Array Slot) (f1 : Nat → Int64), fw_H D kCl A s.heap w1 n1 H1 locs1 → bcS cI cL cQ w1 b I J V G → moS cI cL w1 (b + 86) (va_up MI 0 0) K S C → w1 (b + 95) = some (.inl (cL, 1, .inr (.inl f1))) → lv_has ls1 8 [(4, .int (nI i)), (3, .ref (b + 95)), (2, .ref (b + 86)), (1, .ref b), (0, .ref a0)] → W p l e room_1 s m args below meth c H1 locs1 (cells + 1) (slots + 6) Q (F0 m 609 ls1 [])) : W p l e room_1 s m args below meth c H locs cells slots Q (F0 m 584 ls []) := by
  refine lv_aload_n (pc := 584) hx hb dLa_law_584 rfl (lv_at hl 3 rfl) ?_
  refine lv_aload_n (pc := 585) hx hb dLa_law_585 rfl (lv_at hl 4 rfl) ?_
  refine lv_iload (pc := 586) hx hb dLa_law_586 (lv_at hl 0 rfl) ?_
  refine lv_iconst (pc := 588) (v := (nI 1)) hx hb dLa_law_588 (by decide) ?_
  refine lv_iadd (pc := 589) hx hb dLa_law_589 ?_
  rw [show ((nI i + (nI 1)) : Int32) = nI (i + 1) from (nI_add i 1)]
  refine va_sld (pc := 590) hx hb hX hbl hbA hw.2.2.2.2 (vp_in_nI (show i + 1 < L by omega) hL) dLa_law_590 ?_
  rw [nI_clamp (show i + 1 < 2 ^ 31 by omega)]
  rw [show (xs (i + 1) : Int32) = nI 1 from hje]
  refine fw_cVR (pc := 591) (As := [.int (nI 1)]) (rest := []) ⟨hx, hb, hml, hown, hW⟩ (c_Bc_count1 hB) (cwV 1 hW (kw_V lm_La_96 im_Bc_count se_Bc_count ini_Bc cd_Bc_count) rfl rfl rfl (by decide +kernel) ⟨Nat.le_of_ble_eq_true rfl, Nat.le_of_ble_eq_true rfl⟩) hK hw hB.1.1 rfl rfl hl.1 rfl (Nat.le_of_ble_eq_true rfl) dLa_law_591 ⟨by show _ ≤ 601024; omega, by show _ ≤ 7293034; omega⟩ (fun v hq => ?_)
  subst hq
  refine W.eq (g2 := F0 m 594 ls [.int (nI (I 1))]) rfl ?_
  refine lv_aload_n (pc := 594) hx hb dLa_law_594 rfl (lv_at hl 2 rfl) ?_
  refine lv_aload_n (pc := 595) hx hb dLa_law_595 rfl (lv_at hl 4 rfl) ?_
  refine lv_iload (pc := 596) hx hb dLa_law_596 (lv_at hl 0 rfl) ?_
  refine lv_iconst (pc := 598) (v := (nI 1)) hx hb dLa_law_598 (by decide) ?_
  refine lv_iadd (pc := 599) hx hb dLa_law_599 ?_
  rw [show ((nI i + (nI 1)) : Int32) = nI (i + 1) from (nI_add i 1)]
  refine va_sld (pc := 600) hx hb hX hbl hbA hw.2.2.2.2 (vp_in_nI (show i + 1 < L by omega) hL) dLa_law_600 ?_
  rw [nI_clamp (show i + 1 < 2 ^ 31 by omega)]
  rw [show (xs (i + 1) : Int32) = nI 1 from hje]
  refine fw_cV (pc := 601) (As := [.int (nI 1)]) (rest := [.int (nI (I 1))]) ⟨hx, hb, hml, hown, hW⟩ (c_Mo_count1 hM) (cwV 1 hW (kw_V lm_La_99 im_Mo_count se_Mo_count ini_Mo cd_Mo_count) rfl rfl rfl (by decide +kernel) ⟨Nat.le_of_ble_eq_true rfl, Nat.le_of_ble_eq_true rfl⟩) hK hw hM.1 rfl rfl hl.1 rfl (Nat.le_of_ble_eq_true rfl) dLa_law_601 ⟨by show _ ≤ 601024; omega, by show _ ≤ 7293034; omega⟩ (fun v w1 H locs hq hw => ?_)
  obtain ⟨rfl, hM_, hfr⟩ := hq
  have hB := hB.kept (fun a h1 h2 => hfr a (by omega))
  have hO := (hfr _ (by omega)).trans hO
  have hM := hM_
  refine W.eq (g2 := F0 m 604 ls [.int (nI (MI 7)), .int (nI (I 1))]) rfl ?_
  refine lv_icmp_eq (pc := 604) (tgt := 609) hx hb dLa_law_604 (by decide) (fun _ => ?_) (fun hc => absurd (by rw [he]) hc)
  refine W.widen (k := cells + 1) (n := slots + 6) (by omega) (by omega) ?_
  exact kk _ _ H locs ls _ hw hB hM hO (lv_sub hl [0, 1, 2, 3, 4] rfl)

set_option maxHeartbeats 4000000 in
set_option maxRecDepth 100000 in
theorem s_count2 (hx : p.tables.exec = Jvm.exec) (hb : c.code = code) (hown : s.vm.findClass RLa = some m.cls) (hml : c.maxLocals = 8) (hW : ∀ w ∈ kWs, w.before args s = true) (hK : kK D kCl (kty cI cL cQ) (kz tO tB tC sa) A s s.heap) (hst : l.stackTraces = false) (hX : va_X a0 L xs s s.heap) (hbl : a0 < s.heap.size) (hbA : ¬ A a0) (hL : L < 2 ^ 31) (hi : i + 4 ≤ L) (hcs : cells + 1 ≤ 601024) (hss : slots + 6 ≤ 7293034) (hw : fw_H D kCl A s.heap w n H locs) (hl : lv_has ls 8 [(4, .int (nI i)), (3, .ref (b + 95)), (2, .ref (b + 86)), (1, .ref b), (0, .ref a0)]) (hB : bcS cI cL cQ w b I J V G) (hM : moS cI cL w (b + 86) MI K S C) (hO : w (b + 95) = some (.inl (cL, 1, .inr (.inl f)))) (hje : xs (i + 1) = nI 2) (he : I 4 = MI 16) (kk : ∀ (w1 : fw_W) (n1 : Nat) (H1 : Heap) (locs1 : List Loc) (ls1 : Array Slot) (f1 : Nat → Int64), fw_H D kCl A s.heap w1 n1 H1 locs1 → bcS cI cL cQ w1 b I J V G → moS cI cL w1 (b + 86) (va_up MI 0 0) K S C → w1 (b + 95) = some (.inl (cL, 1, .inr (.inl f1))) → lv_has ls1 8 [(4, .int (nI i)), (3, .ref (b + 95)), (2, .ref (b + 86)), (1, .ref b), (0, .ref a0)] → W p l e room_1 s m args below meth c H1 locs1 (cells + 1) (slots + 6) Q (F0 m 609 ls1 [])) : W p l e room_1 s m args below meth c H locs cells slots Q (F0 m 584 ls []) := by
  refine lv_aload_n (pc := 584) hx hb dLa_law_584 rfl (lv_at hl 3 rfl) ?_
  refine lv_aload_n (pc := 585) hx hb dLa_law_585 rfl (lv_at hl 4 rfl) ?_
  refine lv_iload (pc := 586) hx hb dLa_law_586 (lv_at hl 0 rfl) ?_
  refine lv_iconst (pc := 588) (v := (nI 1)) hx hb dLa_law_588 (by decide) ?_
  refine lv_iadd (pc := 589) hx hb dLa_law_589 ?_
  rw [show ((nI i + (nI 1)) : Int32) = nI (i + 1) from (nI_add i 1)]
  refine va_sld (pc := 590) hx hb hX hbl hbA hw.2.2.2.2 (vp_in_nI (show i + 1 < L by omega) hL) dLa_law_590 ?_
  rw [nI_clamp (show i + 1 < 2 ^ 31 by omega)]
  rw [show (xs (i + 1) : Int32) = nI 2 from hje]
  refine fw_cVR (pc := 591) (As := [.int (nI 2)]) (rest := []) ⟨hx, hb, hml, hown, hW⟩ (c_Bc_count2 hB) (cwV 1 hW (kw_V lm_La_96 im_Bc_count se_Bc_count ini_Bc cd_Bc_count) rfl rfl rfl (by decide +kernel) ⟨Nat.le_of_ble_eq_true rfl, Nat.le_of_ble_eq_true rfl⟩) hK hw hB.1.1 rfl rfl hl.1 rfl (Nat.le_of_ble_eq_true rfl) dLa_law_591 ⟨by show _ ≤ 601024; omega, by show _ ≤ 7293034; omega⟩ (fun v hq => ?_)
  subst hq
  refine W.eq (g2 := F0 m 594 ls [.int (nI (I 4))]) rfl ?_
  refine lv_aload_n (pc := 594) hx hb dLa_law_594 rfl (lv_at hl 2 rfl) ?_
  refine lv_aload_n (pc := 595) hx hb dLa_law_595 rfl (lv_at hl 4 rfl) ?_
  refine lv_iload (pc := 596) hx hb dLa_law_596 (lv_at hl 0 rfl) ?_
  refine lv_iconst (pc := 598) (v := (nI 1)) hx hb dLa_law_598 (by decide) ?_
  refine lv_iadd (pc := 599) hx hb dLa_law_599 ?_
  rw [show ((nI i + (nI 1)) : Int32) = nI (i + 1) from (nI_add i 1)]
  refine va_sld (pc := 600) hx hb hX hbl hbA hw.2.2.2.2 (vp_in_nI (show i + 1 < L by omega) hL) dLa_law_600 ?_
  rw [nI_clamp (show i + 1 < 2 ^ 31 by omega)]
  rw [show (xs (i + 1) : Int32) = nI 2 from hje]
  refine fw_cV (pc := 601) (As := [.int (nI 2)]) (rest := [.int (nI (I 4))]) ⟨hx, hb, hml, hown, hW⟩ (c_Mo_count2 hM) (cwV 1 hW (kw_V lm_La_99 im_Mo_count se_Mo_count ini_Mo cd_Mo_count) rfl rfl rfl (by decide +kernel) ⟨Nat.le_of_ble_eq_true rfl, Nat.le_of_ble_eq_true rfl⟩) hK hw hM.1 rfl rfl hl.1 rfl (Nat.le_of_ble_eq_true rfl) dLa_law_601 ⟨by show _ ≤ 601024; omega, by show _ ≤ 7293034; omega⟩ (fun v w1 H locs hq hw => ?_)
  obtain ⟨rfl, hM_, hfr⟩ := hq
  have hB := hB.kept (fun a h1 h2 => hfr a (by omega))
  have hO := (hfr _ (by omega)).trans hO
  have hM := hM_
  refine W.eq (g2 := F0 m 604 ls [.int (nI (MI 16)), .int (nI (I 4))]) rfl ?_
  refine lv_icmp_eq (pc := 604) (tgt := 609) hx hb dLa_law_604 (by decide) (fun _ => ?_) (fun hc => absurd (by rw [he]) hc)
  refine W.widen (k := cells + 1) (n := slots + 6) (by omega) (by omega) ?_
  exact kk _ _ H locs ls _ hw hB hM hO (lv_sub hl [0, 1, 2, 3, 4] rfl)

set_option maxHeartbeats 4000000 in
set_option maxRecDepth 100000 in
theorem s_count3 (hx : p.tables.exec = Jvm.exec) (hb : c.code = code) (hown : s.vm.findClass RLa = some m.cls) (hml : c.maxLocals = 8) (hW : ∀ w ∈ kWs, w.before args s = true) (hK : kK D kCl (kty cI cL cQ) (kz tO tB tC sa) A s s.heap) (hst : l.stackTraces = false) (hX : va_X a0 L xs s s.heap) (hbl : a0 < s.heap.size) (hbA : ¬ A a0) (hL : L < 2 ^ 31) (hi : i + 4 ≤ L) (hcs : cells + 1 ≤ 601024) (hss : slots + 6 ≤ 7293034) (hw : fw_H D kCl A s.heap w n H locs) (hl : lv_has ls 8 [(4, .int (nI i)), (3, .ref (b + 95)), (2, .ref (b + 86)), (1, .ref b), (0, .ref a0)]) (hB : bcS cI cL cQ w b I J V G) (hM : moS cI cL w (b + 86) MI K S C) (hO : w (b + 95) = some (.inl (cL, 1, .inr (.inl f)))) (hje : xs (i + 1) = nI 3) (he : I 5 = MI 17) (kk : ∀ (w1 : fw_W) (n1 : Nat) (H1 : Heap) (locs1 : List Loc) (ls1 : Array Slot) (f1 : Nat → Int64), fw_H D kCl A s.heap w1 n1 H1 locs1 → bcS cI cL cQ w1 b I J V G → moS cI cL w1 (b + 86) (va_up MI 0 0) K S C → w1 (b + 95) = some (.inl (cL, 1, .inr (.inl f1))) → lv_has ls1 8 [(4, .int (nI i)), (3, .ref (b + 95)), (2, .ref (b + 86)), (1, .ref b), (0, .ref a0)] → W p l e room_1 s m args below meth c H1 locs1 (cells + 1) (slots + 6) Q (F0 m 609 ls1 [])) : W p l e room_1 s m args below meth c H locs cells slots Q (F0 m 584 ls []) := by
  refine lv_aload_n (pc := 584) hx hb dLa_law_584 rfl (lv_at hl 3 rfl) ?_
  refine lv_aload_n (pc := 585) hx hb dLa_law_585 rfl (lv_at hl 4 rfl) ?_
  refine lv_iload (pc := 586) hx hb dLa_law_586 (lv_at hl 0 rfl) ?_
  refine lv_iconst (pc := 588) (v := (nI 1)) hx hb dLa_law_588 (by decide) ?_
  refine lv_iadd (pc := 589) hx hb dLa_law_589 ?_
  rw [show ((nI i + (nI 1)) : Int32) = nI (i + 1) from (nI_add i 1)]
  refine va_sld (pc := 590) hx hb hX hbl hbA hw.2.2.2.2 (vp_in_nI (show i + 1 < L by omega) hL) dLa_law_590 ?_
  rw [nI_clamp (show i + 1 < 2 ^ 31 by omega)]
  rw [show (xs (i + 1) : Int32) = nI 3 from hje]
  refine fw_cVR (pc := 591) (As := [.int (nI 3)]) (rest := []) ⟨hx, hb, hml, hown, hW⟩ (c_Bc_count3 hB) (cwV 1 hW (kw_V lm_La_96 im_Bc_count se_Bc_count ini_Bc cd_Bc_count) rfl rfl rfl (by decide +kernel) ⟨Nat.le_of_ble_eq_true rfl, Nat.le_of_ble_eq_true rfl⟩) hK hw hB.1.1 rfl rfl hl.1 rfl (Nat.le_of_ble_eq_true rfl) dLa_law_591 ⟨by show _ ≤ 601024; omega, by show _ ≤ 7293034; omega⟩ (fun v hq => ?_)
  subst hq
  refine W.eq (g2 := F0 m 594 ls [.int (nI (I 5))]) rfl ?_
  refine lv_aload_n (pc := 594) hx hb dLa_law_594 rfl (lv_at hl 2 rfl) ?_
  refine lv_aload_n (pc := 595) hx hb dLa_law_595 rfl (lv_at hl 4 rfl) ?_
  refine lv_iload (pc := 596) hx hb dLa_law_596 (lv_at hl 0 rfl) ?_
  refine lv_iconst (pc := 598) (v := (nI 1)) hx hb dLa_law_598 (by decide) ?_
  refine lv_iadd (pc := 599) hx hb dLa_law_599 ?_
  rw [show ((nI i + (nI 1)) : Int32) = nI (i + 1) from (nI_add i 1)]
  refine va_sld (pc := 600) hx hb hX hbl hbA hw.2.2.2.2 (vp_in_nI (show i + 1 < L by omega) hL) dLa_law_600 ?_
  rw [nI_clamp (show i + 1 < 2 ^ 31 by omega)]
  rw [show (xs (i + 1) : Int32) = nI 3 from hje]
  refine fw_cV (pc := 601) (As := [.int (nI 3)]) (rest := [.int (nI (I 5))]) ⟨hx, hb, hml, hown, hW⟩ (c_Mo_count3 hM) (cwV 1 hW (kw_V lm_La_99 im_Mo_count se_Mo_count ini_Mo cd_Mo_count) rfl rfl rfl (by decide +kernel) ⟨Nat.le_of_ble_eq_true rfl, Nat.le_of_ble_eq_true rfl⟩) hK hw hM.1 rfl rfl hl.1 rfl (Nat.le_of_ble_eq_true rfl) dLa_law_601 ⟨by show _ ≤ 601024; omega, by show _ ≤ 7293034; omega⟩ (fun v w1 H locs hq hw => ?_)
  obtain ⟨rfl, hM_, hfr⟩ := hq
  have hB := hB.kept (fun a h1 h2 => hfr a (by omega))
  have hO := (hfr _ (by omega)).trans hO
  have hM := hM_
  refine W.eq (g2 := F0 m 604 ls [.int (nI (MI 17)), .int (nI (I 5))]) rfl ?_
  refine lv_icmp_eq (pc := 604) (tgt := 609) hx hb dLa_law_604 (by decide) (fun _ => ?_) (fun hc => absurd (by rw [he]) hc)
  refine W.widen (k := cells + 1) (n := slots + 6) (by omega) (by omega) ?_
  exact kk _ _ H locs ls _ hw hB hM hO (lv_sub hl [0, 1, 2, 3, 4] rfl)

set_option maxHeartbeats 4000000 in
set_option maxRecDepth 100000 in
theorem s_count4 (hx : p.tables.exec = Jvm.exec) (hb : c.code = code) (hown : s.vm.findClass RLa = some m.cls) (hml : c.maxLocals = 8) (hW : ∀ w ∈ kWs, w.before args s = true) (hK : kK D kCl (kty cI cL cQ) (kz tO tB tC sa) A s s.heap) (hst : l.stackTraces = false) (hX : va_X a0 L xs s s.heap) (hbl : a0 < s.heap.size) (hbA : ¬ A a0) (hL : L < 2 ^ 31) (hi : i + 4 ≤ L) (hcs : cells + 1 ≤ 601024) (hss : slots + 6 ≤ 7293034) (hw : fw_H D kCl A s.heap w n H locs) (hl : lv_has ls 8 [(4, .int (nI i)), (3, .ref (b + 95)), (2, .ref (b + 86)), (1, .ref b), (0, .ref a0)]) (hB : bcS cI cL cQ w b I J V G) (hM : moS cI cL w (b + 86) MI K S C) (hO : w (b + 95) = some (.inl (cL, 1, .inr (.inl f)))) (hje : xs (i + 1) = nI 4) (he : I 6 = MI 18) (kk : ∀ (w1 : fw_W) (n1 : Nat) (H1 : Heap) (locs1 : List Loc) (ls1 : Array Slot) (f1 : Nat → Int64), fw_H D kCl A s.heap w1 n1 H1 locs1 → bcS cI cL cQ w1 b I J V G → moS cI cL w1 (b + 86) (va_up MI 0 0) K S C → w1 (b + 95) = some (.inl (cL, 1, .inr (.inl f1))) → lv_has ls1 8 [(4, .int (nI i)), (3, .ref (b + 95)), (2, .ref (b + 86)), (1, .ref b), (0, .ref a0)] → W p l e room_1 s m args below meth c H1 locs1 (cells + 1) (slots + 6) Q (F0 m 609 ls1 [])) : W p l e room_1 s m args below meth c H locs cells slots Q (F0 m 584 ls []) := by
  refine lv_aload_n (pc := 584) hx hb dLa_law_584 rfl (lv_at hl 3 rfl) ?_
  refine lv_aload_n (pc := 585) hx hb dLa_law_585 rfl (lv_at hl 4 rfl) ?_
  refine lv_iload (pc := 586) hx hb dLa_law_586 (lv_at hl 0 rfl) ?_
  refine lv_iconst (pc := 588) (v := (nI 1)) hx hb dLa_law_588 (by decide) ?_
  refine lv_iadd (pc := 589) hx hb dLa_law_589 ?_
  rw [show ((nI i + (nI 1)) : Int32) = nI (i + 1) from (nI_add i 1)]
  refine va_sld (pc := 590) hx hb hX hbl hbA hw.2.2.2.2 (vp_in_nI (show i + 1 < L by omega) hL) dLa_law_590 ?_
  rw [nI_clamp (show i + 1 < 2 ^ 31 by omega)]
  rw [show (xs (i + 1) : Int32) = nI 4 from hje]
  refine fw_cVR (pc := 591) (As := [.int (nI 4)]) (rest := []) ⟨hx, hb, hml, hown, hW⟩ (c_Bc_count4 hB) (cwV 1 hW (kw_V lm_La_96 im_Bc_count se_Bc_count ini_Bc cd_Bc_count) rfl rfl rfl (by decide +kernel) ⟨Nat.le_of_ble_eq_true rfl, Nat.le_of_ble_eq_true rfl⟩) hK hw hB.1.1 rfl rfl hl.1 rfl (Nat.le_of_ble_eq_true rfl) dLa_law_591 ⟨by show _ ≤ 601024; omega, by show _ ≤ 7293034; omega⟩ (fun v hq => ?_)
  subst hq
  refine W.eq (g2 := F0 m 594 ls [.int (nI (I 6))]) rfl ?_
  refine lv_aload_n (pc := 594) hx hb dLa_law_594 rfl (lv_at hl 2 rfl) ?_
  refine lv_aload_n (pc := 595) hx hb dLa_law_595 rfl (lv_at hl 4 rfl) ?_
  refine lv_iload (pc := 596) hx hb dLa_law_596 (lv_at hl 0 rfl) ?_
  refine lv_iconst (pc := 598) (v := (nI 1)) hx hb dLa_law_598 (by decide) ?_
  refine lv_iadd (pc := 599) hx hb dLa_law_599 ?_
  rw [show ((nI i + (nI 1)) : Int32) = nI (i + 1) from (nI_add i 1)]
  refine va_sld (pc := 600) hx hb hX hbl hbA hw.2.2.2.2 (vp_in_nI (show i + 1 < L by omega) hL) dLa_law_600 ?_
  rw [nI_clamp (show i + 1 < 2 ^ 31 by omega)]
  rw [show (xs (i + 1) : Int32) = nI 4 from hje]
  refine fw_cV (pc := 601) (As := [.int (nI 4)]) (rest := [.int (nI (I 6))]) ⟨hx, hb, hml, hown, hW⟩ (c_Mo_count4 hM) (cwV 1 hW (kw_V lm_La_99 im_Mo_count se_Mo_count ini_Mo cd_Mo_count) rfl rfl rfl (by decide +kernel) ⟨Nat.le_of_ble_eq_true rfl, Nat.le_of_ble_eq_true rfl⟩) hK hw hM.1 rfl rfl hl.1 rfl (Nat.le_of_ble_eq_true rfl) dLa_law_601 ⟨by show _ ≤ 601024; omega, by show _ ≤ 7293034; omega⟩ (fun v w1 H locs hq hw => ?_)
  obtain ⟨rfl, hM_, hfr⟩ := hq
  have hB := hB.kept (fun a h1 h2 => hfr a (by omega))
  have hO := (hfr _ (by omega)).trans hO
  have hM := hM_
  refine W.eq (g2 := F0 m 604 ls [.int (nI (MI 18)), .int (nI (I 6))]) rfl ?_
  refine lv_icmp_eq (pc := 604) (tgt := 609) hx hb dLa_law_604 (by decide) (fun _ => ?_) (fun hc => absurd (by rw [he]) hc)
  refine W.widen (k := cells + 1) (n := slots + 6) (by omega) (by omega) ?_
  exact kk _ _ H locs ls _ hw hB hM hO (lv_sub hl [0, 1, 2, 3, 4] rfl)

set_option maxHeartbeats 4000000 in
set_option maxRecDepth 100000 in
theorem s_count5 (hx : p.tables.exec = Jvm.exec) (hb : c.code = code) (hown : s.vm.findClass RLa = some m.cls) (hml : c.maxLocals = 8) (hW : ∀ w ∈ kWs, w.before args s = true) (hK : kK D kCl (kty cI cL cQ) (kz tO tB tC sa) A s s.heap) (hst : l.stackTraces = false) (hX : va_X a0 L xs s s.heap) (hbl : a0 < s.heap.size) (hbA : ¬ A a0) (hL : L < 2 ^ 31) (hi : i + 4 ≤ L) (hcs : cells + 1 ≤ 601024) (hss : slots + 6 ≤ 7293034) (hw : fw_H D kCl A s.heap w n H locs) (hl : lv_has ls 8 [(4, .int (nI i)), (3, .ref (b + 95)), (2, .ref (b + 86)), (1, .ref b), (0, .ref a0)]) (hB : bcS cI cL cQ w b I J V G) (hM : moS cI cL w (b + 86) MI K S C) (hO : w (b + 95) = some (.inl (cL, 1, .inr (.inl f)))) (hje : xs (i + 1) = nI 5) (h0 : 0 < I 1) (h1 : I 1 < 2 ^ 31) (h4 : I 4 = I 1) (h6 : MI 6 < 2 ^ 31) (h7 : MI 7 < 2 ^ 31) (h16 : MI 16 < 2 ^ 31) (hnm : 0 < MI 6 ∧ MI 16 = MI 7) (kk : ∀ (w1 : fw_W) (n1 : Nat) (H1 : Heap) (locs1 : List Loc) (ls1 : Array Slot) (f1 : Nat → Int64), fw_H D kCl A s.heap w1 n1 H1 locs1 → bcS cI cL cQ w1 b I J V G → moS cI cL w1 (b + 86) (va_up MI 0 0) K S C → w1 (b + 95) = some (.inl (cL, 1, .inr (.inl f1))) → lv_has ls1 8 [(4, .int (nI i)), (3, .ref (b + 95)), (2, .ref (b + 86)), (1, .ref b), (0, .ref a0)] → W p l e room_1 s m args below meth c H1 locs1 (cells + 1) (slots + 6) Q (F0 m 609 ls1 [])) : W p l e room_1 s m args below meth c H locs cells slots Q (F0 m 584 ls []) := by
  refine lv_aload_n (pc := 584) hx hb dLa_law_584 rfl (lv_at hl 3 rfl) ?_
  refine lv_aload_n (pc := 585) hx hb dLa_law_585 rfl (lv_at hl 4 rfl) ?_
  refine lv_iload (pc := 586) hx hb dLa_law_586 (lv_at hl 0 rfl) ?_
  refine lv_iconst (pc := 588) (v := (nI 1)) hx hb dLa_law_588 (by decide) ?_
  refine lv_iadd (pc := 589) hx hb dLa_law_589 ?_
  rw [show ((nI i + (nI 1)) : Int32) = nI (i + 1) from (nI_add i 1)]
  refine va_sld (pc := 590) hx hb hX hbl hbA hw.2.2.2.2 (vp_in_nI (show i + 1 < L by omega) hL) dLa_law_590 ?_
  rw [nI_clamp (show i + 1 < 2 ^ 31 by omega)]
  rw [show (xs (i + 1) : Int32) = nI 5 from hje]
  refine fw_cVR (pc := 591) (As := [.int (nI 5)]) (rest := []) ⟨hx, hb, hml, hown, hW⟩ (c_Bc_count5 hB h1 (by omega)) (cwV 1 hW (kw_V lm_La_96 im_Bc_count se_Bc_count ini_Bc cd_Bc_count) rfl rfl rfl (by decide +kernel) ⟨Nat.le_of_ble_eq_true rfl, Nat.le_of_ble_eq_true rfl⟩) hK hw hB.1.1 rfl rfl hl.1 rfl (Nat.le_of_ble_eq_true rfl) dLa_law_591 ⟨by show _ ≤ 601024; omega, by show _ ≤ 7293034; omega⟩ (fun v hq => ?_)
  rw [if_pos ⟨h0, h4⟩] at hq
  subst hq
  refine W.eq (g2 := F0 m 594 ls [.int (nI 1)]) rfl ?_
  refine lv_aload_n (pc := 594) hx hb dLa_law_594 rfl (lv_at hl 2 rfl) ?_
  refine lv_aload_n (pc := 595) hx hb dLa_law_595 rfl (lv_at hl 4 rfl) ?_
  refine lv_iload (pc := 596) hx hb dLa_law_596 (lv_at hl 0 rfl) ?_
  refine lv_iconst (pc := 598) (v := (nI 1)) hx hb dLa_law_598 (by decide) ?_
  refine lv_iadd (pc := 599) hx hb dLa_law_599 ?_
  rw [show ((nI i + (nI 1)) : Int32) = nI (i + 1) from (nI_add i 1)]
  refine va_sld (pc := 600) hx hb hX hbl hbA hw.2.2.2.2 (vp_in_nI (show i + 1 < L by omega) hL) dLa_law_600 ?_
  rw [nI_clamp (show i + 1 < 2 ^ 31 by omega)]
  rw [show (xs (i + 1) : Int32) = nI 5 from hje]
  refine fw_cV (pc := 601) (As := [.int (nI 5)]) (rest := [.int (nI 1)]) ⟨hx, hb, hml, hown, hW⟩ (c_Mo_count5 hM h6 h7 h16 hnm) (cwV 1 hW (kw_V lm_La_99 im_Mo_count se_Mo_count ini_Mo cd_Mo_count) rfl rfl rfl (by decide +kernel) ⟨Nat.le_of_ble_eq_true rfl, Nat.le_of_ble_eq_true rfl⟩) hK hw hM.1 rfl rfl hl.1 rfl (Nat.le_of_ble_eq_true rfl) dLa_law_601 ⟨by show _ ≤ 601024; omega, by show _ ≤ 7293034; omega⟩ (fun v w1 H locs hq hw => ?_)
  obtain ⟨rfl, hM_, hfr⟩ := hq
  have hB := hB.kept (fun a h1 h2 => hfr a (by omega))
  have hO := (hfr _ (by omega)).trans hO
  have hM := hM_
  refine W.eq (g2 := F0 m 604 ls [.int (nI 1), .int (nI 1)]) rfl ?_
  refine lv_icmp_eq (pc := 604) (tgt := 609) hx hb dLa_law_604 (by decide) (fun _ => ?_) (fun hc => absurd rfl hc)
  refine W.widen (k := cells + 1) (n := slots + 6) (by omega) (by omega) ?_
  exact kk _ _ H locs ls _ hw hB hM hO (lv_sub hl [0, 1, 2, 3, 4] rfl)

set_option maxHeartbeats 4000000 in
set_option maxRecDepth 100000 in
theorem s_count5n (hx : p.tables.exec = Jvm.exec) (hb : c.code = code) (hown : s.vm.findClass RLa = some m.cls) (hml : c.maxLocals = 8) (hW : ∀ w ∈ kWs, w.before args s = true) (hK : kK D kCl (kty cI cL cQ) (kz tO tB tC sa) A s s.heap) (hst : l.stackTraces = false) (hX : va_X a0 L xs s s.heap) (hbl : a0 < s.heap.size) (hbA : ¬ A a0) (hL : L < 2 ^ 31) (hi : i + 4 ≤ L) (hcs : cells + 1 ≤ 601024) (hss : slots + 6 ≤ 7293034) (hw : fw_H D kCl A s.heap w n H locs) (hl : lv_has ls 8 [(4, .int (nI i)), (3, .ref (b + 95)), (2, .ref (b + 86)), (1, .ref b), (0, .ref a0)]) (hB : bcS cI cL cQ w b I J V G) (hM : moS cI cL w (b + 86) MI K S C) (hO : w (b + 95) = some (.inl (cL, 1, .inr (.inl f)))) (hje : xs (i + 1) = nI 5) (h1 : I 1 < 2 ^ 31) (h4 : I 4 < 2 ^ 31) (hno : ¬ (0 < I 1 ∧ I 4 = I 1)) (h6 : MI 6 < 2 ^ 31) (h7 : MI 7 < 2 ^ 31) (h16 : MI 16 < 2 ^ 31) (hnm : ¬ (0 < MI 6 ∧ MI 16 = MI 7)) (kk : ∀ (w1 : fw_W) (n1 : Nat) (H1 : Heap) (locs1 : List Loc) (ls1 : Array Slot) (f1 : Nat → Int64), fw_H D kCl A s.heap w1 n1 H1 locs1 → bcS cI cL cQ w1 b I J V G → moS cI cL w1 (b + 86) (va_up MI 0 0) K S C → w1 (b + 95) = some (.inl (cL, 1, .inr (.inl f1))) → lv_has ls1 8 [(4, .int (nI i)), (3, .ref (b + 95)), (2, .ref (b + 86)), (1, .ref b), (0, .ref a0)] → W p l e room_1 s m args below meth c H1 locs1 (cells + 1) (slots + 6) Q (F0 m 609 ls1 [])) : W p l e room_1 s m args below meth c H locs cells slots Q (F0 m 584 ls []) := by
  refine lv_aload_n (pc := 584) hx hb dLa_law_584 rfl (lv_at hl 3 rfl) ?_
  refine lv_aload_n (pc := 585) hx hb dLa_law_585 rfl (lv_at hl 4 rfl) ?_
  refine lv_iload (pc := 586) hx hb dLa_law_586 (lv_at hl 0 rfl) ?_
  refine lv_iconst (pc := 588) (v := (nI 1)) hx hb dLa_law_588 (by decide) ?_
  refine lv_iadd (pc := 589) hx hb dLa_law_589 ?_
  rw [show ((nI i + (nI 1)) : Int32) = nI (i + 1) from (nI_add i 1)]
  refine va_sld (pc := 590) hx hb hX hbl hbA hw.2.2.2.2 (vp_in_nI (show i + 1 < L by omega) hL) dLa_law_590 ?_
  rw [nI_clamp (show i + 1 < 2 ^ 31 by omega)]
  rw [show (xs (i + 1) : Int32) = nI 5 from hje]
  refine fw_cVR (pc := 591) (As := [.int (nI 5)]) (rest := []) ⟨hx, hb, hml, hown, hW⟩ (c_Bc_count5 hB h1 h4) (cwV 1 hW (kw_V lm_La_96 im_Bc_count se_Bc_count ini_Bc cd_Bc_count) rfl rfl rfl (by decide +kernel) ⟨Nat.le_of_ble_eq_true rfl, Nat.le_of_ble_eq_true rfl⟩) hK hw hB.1.1 rfl rfl hl.1 rfl (Nat.le_of_ble_eq_true rfl) dLa_law_591 ⟨by show _ ≤ 601024; omega, by show _ ≤ 7293034; omega⟩ (fun v hq => ?_)
  rw [if_neg hno] at hq
  subst hq
  refine W.eq (g2 := F0 m 594 ls [.int (nI 0)]) rfl ?_
  refine lv_aload_n (pc := 594) hx hb dLa_law_594 rfl (lv_at hl 2 rfl) ?_
  refine lv_aload_n (pc := 595) hx hb dLa_law_595 rfl (lv_at hl 4 rfl) ?_
  refine lv_iload (pc := 596) hx hb dLa_law_596 (lv_at hl 0 rfl) ?_
  refine lv_iconst (pc := 598) (v := (nI 1)) hx hb dLa_law_598 (by decide) ?_
  refine lv_iadd (pc := 599) hx hb dLa_law_599 ?_
  rw [show ((nI i + (nI 1)) : Int32) = nI (i + 1) from (nI_add i 1)]
  refine va_sld (pc := 600) hx hb hX hbl hbA hw.2.2.2.2 (vp_in_nI (show i + 1 < L by omega) hL) dLa_law_600 ?_
  rw [nI_clamp (show i + 1 < 2 ^ 31 by omega)]
  rw [show (xs (i + 1) : Int32) = nI 5 from hje]
  refine fw_cV (pc := 601) (As := [.int (nI 5)]) (rest := [.int (nI 0)]) ⟨hx, hb, hml, hown, hW⟩ (c_Mo_count5n hM h6 h7 h16 hnm) (cwV 1 hW (kw_V lm_La_99 im_Mo_count se_Mo_count ini_Mo cd_Mo_count) rfl rfl rfl (by decide +kernel) ⟨Nat.le_of_ble_eq_true rfl, Nat.le_of_ble_eq_true rfl⟩) hK hw hM.1 rfl rfl hl.1 rfl (Nat.le_of_ble_eq_true rfl) dLa_law_601 ⟨by show _ ≤ 601024; omega, by show _ ≤ 7293034; omega⟩ (fun v w1 H locs hq hw => ?_)
  obtain ⟨rfl, hM_, hfr⟩ := hq
  have hB := hB.kept (fun a h1 h2 => hfr a (by omega))
  have hO := (hfr _ (by omega)).trans hO
  have hM := hM_
  refine W.eq (g2 := F0 m 604 ls [.int (nI 0), .int (nI 0)]) rfl ?_
  refine lv_icmp_eq (pc := 604) (tgt := 609) hx hb dLa_law_604 (by decide) (fun _ => ?_) (fun hc => absurd rfl hc)
  refine W.widen (k := cells + 1) (n := slots + 6) (by omega) (by omega) ?_
  exact kk _ _ H locs ls _ hw hB hM hO (lv_sub hl [0, 1, 2, 3, 4] rfl)

set_option maxHeartbeats 4000000 in
set_option maxRecDepth 100000 in
theorem s_count6n (hx : p.tables.exec = Jvm.exec) (hb : c.code = code) (hown : s.vm.findClass RLa = some m.cls) (hml : c.maxLocals = 8) (hW : ∀ w ∈ kWs, w.before args s = true) (hK : kK D kCl (kty cI cL cQ) (kz tO tB tC sa) A s s.heap) (hst : l.stackTraces = false) (hX : va_X a0 L xs s s.heap) (hbl : a0 < s.heap.size) (hbA : ¬ A a0) (hL : L < 2 ^ 31) (hi : i + 4 ≤ L) (hcs : cells + 1 ≤ 601024) (hss : slots + 6 ≤ 7293034) (hw : fw_H D kCl A s.heap w n H locs) (hl : lv_has ls 8 [(4, .int (nI i)), (3, .ref (b + 95)), (2, .ref (b + 86)), (1, .ref b), (0, .ref a0)]) (hB : bcS cI cL cQ w b I J V G) (hM : moS cI cL w (b + 86) MI K S C) (hO : w (b + 95) = some (.inl (cL, 1, .inr (.inl f)))) (hje : xs (i + 1) = nI 6) (h1 : I 1 < 2 ^ 31) (h4 : I 4 < 2 ^ 31) (hno : ¬ (0 < I 1 ∧ I 4 = I 1)) (h6 : MI 6 < 2 ^ 31) (h7 : MI 7 < 2 ^ 31) (h16 : MI 16 < 2 ^ 31) (hnm : ¬ (0 < MI 6 ∧ MI 16 = MI 7)) (kk : ∀ (w1 : fw_W) (n1 : Nat) (H1 : Heap) (locs1 : List Loc) (ls1 : Array Slot) (f1 : Nat → Int64), fw_H D kCl A s.heap w1 n1 H1 locs1 → bcS cI cL cQ w1 b I J V G → moS cI cL w1 (b + 86) (va_up MI 0 0) K S C → w1 (b + 95) = some (.inl (cL, 1, .inr (.inl f1))) → lv_has ls1 8 [(4, .int (nI i)), (3, .ref (b + 95)), (2, .ref (b + 86)), (1, .ref b), (0, .ref a0)] → W p l e room_1 s m args below meth c H1 locs1 (cells + 1) (slots + 6) Q (F0 m 609 ls1 [])) : W p l e room_1 s m args below meth c H locs cells slots Q (F0 m 584 ls []) := by
  refine lv_aload_n (pc := 584) hx hb dLa_law_584 rfl (lv_at hl 3 rfl) ?_
  refine lv_aload_n (pc := 585) hx hb dLa_law_585 rfl (lv_at hl 4 rfl) ?_
  refine lv_iload (pc := 586) hx hb dLa_law_586 (lv_at hl 0 rfl) ?_
  refine lv_iconst (pc := 588) (v := (nI 1)) hx hb dLa_law_588 (by decide) ?_
  refine lv_iadd (pc := 589) hx hb dLa_law_589 ?_
  rw [show ((nI i + (nI 1)) : Int32) = nI (i + 1) from (nI_add i 1)]
  refine va_sld (pc := 590) hx hb hX hbl hbA hw.2.2.2.2 (vp_in_nI (show i + 1 < L by omega) hL) dLa_law_590 ?_
  rw [nI_clamp (show i + 1 < 2 ^ 31 by omega)]
  rw [show (xs (i + 1) : Int32) = nI 6 from hje]
  refine fw_cVR (pc := 591) (As := [.int (nI 6)]) (rest := []) ⟨hx, hb, hml, hown, hW⟩ (c_Bc_count6n hB h1 h4 hno) (cwV 1 hW (kw_V lm_La_96 im_Bc_count se_Bc_count ini_Bc cd_Bc_count) rfl rfl rfl (by decide +kernel) ⟨Nat.le_of_ble_eq_true rfl, Nat.le_of_ble_eq_true rfl⟩) hK hw hB.1.1 rfl rfl hl.1 rfl (Nat.le_of_ble_eq_true rfl) dLa_law_591 ⟨by show _ ≤ 601024; omega, by show _ ≤ 7293034; omega⟩ (fun v hq => ?_)
  subst hq
  refine W.eq (g2 := F0 m 594 ls [.int (-1)]) rfl ?_
  refine lv_aload_n (pc := 594) hx hb dLa_law_594 rfl (lv_at hl 2 rfl) ?_
  refine lv_aload_n (pc := 595) hx hb dLa_law_595 rfl (lv_at hl 4 rfl) ?_
  refine lv_iload (pc := 596) hx hb dLa_law_596 (lv_at hl 0 rfl) ?_
  refine lv_iconst (pc := 598) (v := (nI 1)) hx hb dLa_law_598 (by decide) ?_
  refine lv_iadd (pc := 599) hx hb dLa_law_599 ?_
  rw [show ((nI i + (nI 1)) : Int32) = nI (i + 1) from (nI_add i 1)]
  refine va_sld (pc := 600) hx hb hX hbl hbA hw.2.2.2.2 (vp_in_nI (show i + 1 < L by omega) hL) dLa_law_600 ?_
  rw [nI_clamp (show i + 1 < 2 ^ 31 by omega)]
  rw [show (xs (i + 1) : Int32) = nI 6 from hje]
  refine fw_cV (pc := 601) (As := [.int (nI 6)]) (rest := [.int (-1)]) ⟨hx, hb, hml, hown, hW⟩ (c_Mo_count6n hM h6 h7 h16 hnm) (cwV 1 hW (kw_V lm_La_99 im_Mo_count se_Mo_count ini_Mo cd_Mo_count) rfl rfl rfl (by decide +kernel) ⟨Nat.le_of_ble_eq_true rfl, Nat.le_of_ble_eq_true rfl⟩) hK hw hM.1 rfl rfl hl.1 rfl (Nat.le_of_ble_eq_true rfl) dLa_law_601 ⟨by show _ ≤ 601024; omega, by show _ ≤ 7293034; omega⟩ (fun v w1 H locs hq hw => ?_)
  obtain ⟨rfl, hM_, hfr⟩ := hq
  have hB := hB.kept (fun a h1 h2 => hfr a (by omega))
  have hO := (hfr _ (by omega)).trans hO
  have hM := hM_
  refine W.eq (g2 := F0 m 604 ls [.int (-1), .int (-1)]) rfl ?_
  refine lv_icmp_eq (pc := 604) (tgt := 609) hx hb dLa_law_604 (by decide) (fun _ => ?_) (fun hc => absurd rfl hc)
  refine W.widen (k := cells + 1) (n := slots + 6) (by omega) (by omega) ?_
  exact kk _ _ H locs ls _ hw hB hM hO (lv_sub hl [0, 1, 2, 3, 4] rfl)

set_option maxHeartbeats 4000000 in
set_option maxRecDepth 100000 in
theorem s_count7n (hx : p.tables.exec = Jvm.exec) (hb : c.code = code) (hown : s.vm.findClass RLa = some m.cls) (hml : c.maxLocals = 8) (hW : ∀ w ∈ kWs, w.before args s = true) (hK : kK D kCl (kty cI cL cQ) (kz tO tB tC sa) A s s.heap) (hst : l.stackTraces = false) (hX : va_X a0 L xs s s.heap) (hbl : a0 < s.heap.size) (hbA : ¬ A a0) (hL : L < 2 ^ 31) (hi : i + 4 ≤ L) (hcs : cells + 1 ≤ 601024) (hss : slots + 6 ≤ 7293034) (hw : fw_H D kCl A s.heap w n H locs) (hl : lv_has ls 8 [(4, .int (nI i)), (3, .ref (b + 95)), (2, .ref (b + 86)), (1, .ref b), (0, .ref a0)]) (hB : bcS cI cL cQ w b I J V G) (hM : moS cI cL w (b + 86) MI K S C) (hO : w (b + 95) = some (.inl (cL, 1, .inr (.inl f)))) (hje : xs (i + 1) = nI 7) (h1 : I 1 < 2 ^ 31) (h4 : I 4 < 2 ^ 31) (hno : ¬ (0 < I 1 ∧ I 4 = I 1)) (h6 : MI 6 < 2 ^ 31) (h7 : MI 7 < 2 ^ 31) (h16 : MI 16 < 2 ^ 31) (hnm : ¬ (0 < MI 6 ∧ MI 16 = MI 7)) (kk : ∀ (w1 : fw_W) (n1 : Nat) (H1 : Heap) (locs1 : List Loc) (ls1 : Array Slot) (f1 : Nat → Int64), fw_H D kCl A s.heap w1 n1 H1 locs1 → bcS cI cL cQ w1 b I J V G → moS cI cL w1 (b + 86) (va_up MI 0 0) K S C → w1 (b + 95) = some (.inl (cL, 1, .inr (.inl f1))) → lv_has ls1 8 [(4, .int (nI i)), (3, .ref (b + 95)), (2, .ref (b + 86)), (1, .ref b), (0, .ref a0)] → W p l e room_1 s m args below meth c H1 locs1 (cells + 1) (slots + 6) Q (F0 m 609 ls1 [])) : W p l e room_1 s m args below meth c H locs cells slots Q (F0 m 584 ls []) := by
  refine lv_aload_n (pc := 584) hx hb dLa_law_584 rfl (lv_at hl 3 rfl) ?_
  refine lv_aload_n (pc := 585) hx hb dLa_law_585 rfl (lv_at hl 4 rfl) ?_
  refine lv_iload (pc := 586) hx hb dLa_law_586 (lv_at hl 0 rfl) ?_
  refine lv_iconst (pc := 588) (v := (nI 1)) hx hb dLa_law_588 (by decide) ?_
  refine lv_iadd (pc := 589) hx hb dLa_law_589 ?_
  rw [show ((nI i + (nI 1)) : Int32) = nI (i + 1) from (nI_add i 1)]
  refine va_sld (pc := 590) hx hb hX hbl hbA hw.2.2.2.2 (vp_in_nI (show i + 1 < L by omega) hL) dLa_law_590 ?_
  rw [nI_clamp (show i + 1 < 2 ^ 31 by omega)]
  rw [show (xs (i + 1) : Int32) = nI 7 from hje]
  refine fw_cVR (pc := 591) (As := [.int (nI 7)]) (rest := []) ⟨hx, hb, hml, hown, hW⟩ (c_Bc_count7n hB h1 h4 hno) (cwV 1 hW (kw_V lm_La_96 im_Bc_count se_Bc_count ini_Bc cd_Bc_count) rfl rfl rfl (by decide +kernel) ⟨Nat.le_of_ble_eq_true rfl, Nat.le_of_ble_eq_true rfl⟩) hK hw hB.1.1 rfl rfl hl.1 rfl (Nat.le_of_ble_eq_true rfl) dLa_law_591 ⟨by show _ ≤ 601024; omega, by show _ ≤ 7293034; omega⟩ (fun v hq => ?_)
  subst hq
  refine W.eq (g2 := F0 m 594 ls [.int (-1)]) rfl ?_
  refine lv_aload_n (pc := 594) hx hb dLa_law_594 rfl (lv_at hl 2 rfl) ?_
  refine lv_aload_n (pc := 595) hx hb dLa_law_595 rfl (lv_at hl 4 rfl) ?_
  refine lv_iload (pc := 596) hx hb dLa_law_596 (lv_at hl 0 rfl) ?_
  refine lv_iconst (pc := 598) (v := (nI 1)) hx hb dLa_law_598 (by decide) ?_
  refine lv_iadd (pc := 599) hx hb dLa_law_599 ?_
  rw [show ((nI i + (nI 1)) : Int32) = nI (i + 1) from (nI_add i 1)]
  refine va_sld (pc := 600) hx hb hX hbl hbA hw.2.2.2.2 (vp_in_nI (show i + 1 < L by omega) hL) dLa_law_600 ?_
  rw [nI_clamp (show i + 1 < 2 ^ 31 by omega)]
  rw [show (xs (i + 1) : Int32) = nI 7 from hje]
  refine fw_cV (pc := 601) (As := [.int (nI 7)]) (rest := [.int (-1)]) ⟨hx, hb, hml, hown, hW⟩ (c_Mo_count7n hM h6 h7 h16 hnm) (cwV 1 hW (kw_V lm_La_99 im_Mo_count se_Mo_count ini_Mo cd_Mo_count) rfl rfl rfl (by decide +kernel) ⟨Nat.le_of_ble_eq_true rfl, Nat.le_of_ble_eq_true rfl⟩) hK hw hM.1 rfl rfl hl.1 rfl (Nat.le_of_ble_eq_true rfl) dLa_law_601 ⟨by show _ ≤ 601024; omega, by show _ ≤ 7293034; omega⟩ (fun v w1 H locs hq hw => ?_)
  obtain ⟨rfl, hM_, hfr⟩ := hq
  have hB := hB.kept (fun a h1 h2 => hfr a (by omega))
  have hO := (hfr _ (by omega)).trans hO
  have hM := hM_
  refine W.eq (g2 := F0 m 604 ls [.int (-1), .int (-1)]) rfl ?_
  refine lv_icmp_eq (pc := 604) (tgt := 609) hx hb dLa_law_604 (by decide) (fun _ => ?_) (fun hc => absurd rfl hc)
  refine W.widen (k := cells + 1) (n := slots + 6) (by omega) (by omega) ?_
  exact kk _ _ H locs ls _ hw hB hM hO (lv_sub hl [0, 1, 2, 3, 4] rfl)

set_option maxHeartbeats 4000000 in
set_option maxRecDepth 100000 in
theorem s_countO (hx : p.tables.exec = Jvm.exec) (hb : c.code = code) (hown : s.vm.findClass RLa = some m.cls) (hml : c.maxLocals = 8) (hW : ∀ w ∈ kWs, w.before args s = true) (hK : kK D kCl (kty cI cL cQ) (kz tO tB tC sa) A s s.heap) (hst : l.stackTraces = false) (hX : va_X a0 L xs s s.heap) (hbl : a0 < s.heap.size) (hbA : ¬ A a0) (hL : L < 2 ^ 31) (hi : i + 4 ≤ L) (hcs : cells + 1 ≤ 601024) (hss : slots + 6 ≤ 7293034) (hw : fw_H D kCl A s.heap w n H locs) (hl : lv_has ls 8 [(4, .int (nI i)), (3, .ref (b + 95)), (2, .ref (b + 86)), (1, .ref b), (0, .ref a0)]) (hB : bcS cI cL cQ w b I J V G) (hM : moS cI cL w (b + 86) MI K S C) (hO : w (b + 95) = some (.inl (cL, 1, .inr (.inl f)))) (hv : xs (i + 1) < 0 ∨ nI 7 < xs (i + 1)) (kk : ∀ (w1 : fw_W) (n1 : Nat) (H1 : Heap) (locs1 : List Loc) (ls1 : Array Slot) (f1 : Nat → Int64), fw_H D kCl A s.heap w1 n1 H1 locs1 → bcS cI cL cQ w1 b I J V G → moS cI cL w1 (b + 86) (va_up MI 0 0) K S C → w1 (b + 95) = some (.inl (cL, 1, .inr (.inl f1))) → lv_has ls1 8 [(4, .int (nI i)), (3, .ref (b + 95)), (2, .ref (b + 86)), (1, .ref b), (0, .ref a0)] → W p l e room_1 s m args below meth c H1 locs1 (cells + 1) (slots + 6) Q (F0 m 609 ls1 [])) : W p l e room_1 s m args below meth c H locs cells slots Q (F0 m 584 ls []) := by
  refine lv_aload_n (pc := 584) hx hb dLa_law_584 rfl (lv_at hl 3 rfl) ?_
  refine lv_aload_n (pc := 585) hx hb dLa_law_585 rfl (lv_at hl 4 rfl) ?_
  refine lv_iload (pc := 586) hx hb dLa_law_586 (lv_at hl 0 rfl) ?_
  refine lv_iconst (pc := 588) (v := (nI 1)) hx hb dLa_law_588 (by decide) ?_
  refine lv_iadd (pc := 589) hx hb dLa_law_589 ?_
  rw [show ((nI i + (nI 1)) : Int32) = nI (i + 1) from (nI_add i 1)]
  refine va_sld (pc := 590) hx hb hX hbl hbA hw.2.2.2.2 (vp_in_nI (show i + 1 < L by omega) hL) dLa_law_590 ?_
  rw [nI_clamp (show i + 1 < 2 ^ 31 by omega)]
  refine fw_cVR (pc := 591) (As := [.int (xs (i + 1))]) (rest := []) ⟨hx, hb, hml, hown, hW⟩ (c_Bc_countO hB hv) (cwV 1 hW (kw_V lm_La_96 im_Bc_count se_Bc_count ini_Bc cd_Bc_count) rfl rfl rfl (by decide +kernel) ⟨Nat.le_of_ble_eq_true rfl, Nat.le_of_ble_eq_true rfl⟩) hK hw hB.1.1 rfl rfl hl.1 rfl (Nat.le_of_ble_eq_true rfl) dLa_law_591 ⟨by show _ ≤ 601024; omega, by show _ ≤ 7293034; omega⟩ (fun v hq => ?_)
  subst hq
  refine W.eq (g2 := F0 m 594 ls [.int (-1)]) rfl ?_
  refine lv_aload_n (pc := 594) hx hb dLa_law_594 rfl (lv_at hl 2 rfl) ?_
  refine lv_aload_n (pc := 595) hx hb dLa_law_595 rfl (lv_at hl 4 rfl) ?_
  refine lv_iload (pc := 596) hx hb dLa_law_596 (lv_at hl 0 rfl) ?_
  refine lv_iconst (pc := 598) (v := (nI 1)) hx hb dLa_law_598 (by decide) ?_
  refine lv_iadd (pc := 599) hx hb dLa_law_599 ?_
  rw [show ((nI i + (nI 1)) : Int32) = nI (i + 1) from (nI_add i 1)]
  refine va_sld (pc := 600) hx hb hX hbl hbA hw.2.2.2.2 (vp_in_nI (show i + 1 < L by omega) hL) dLa_law_600 ?_
  rw [nI_clamp (show i + 1 < 2 ^ 31 by omega)]
  refine fw_cV (pc := 601) (As := [.int (xs (i + 1))]) (rest := [.int (-1)]) ⟨hx, hb, hml, hown, hW⟩ (c_Mo_countO hM hv) (cwV 1 hW (kw_V lm_La_99 im_Mo_count se_Mo_count ini_Mo cd_Mo_count) rfl rfl rfl (by decide +kernel) ⟨Nat.le_of_ble_eq_true rfl, Nat.le_of_ble_eq_true rfl⟩) hK hw hM.1 rfl rfl hl.1 rfl (Nat.le_of_ble_eq_true rfl) dLa_law_601 ⟨by show _ ≤ 601024; omega, by show _ ≤ 7293034; omega⟩ (fun v w1 H locs hq hw => ?_)
  obtain ⟨rfl, hM_, hfr⟩ := hq
  have hB := hB.kept (fun a h1 h2 => hfr a (by omega))
  have hO := (hfr _ (by omega)).trans hO
  have hM := hM_
  refine W.eq (g2 := F0 m 604 ls [.int (-1), .int (-1)]) rfl ?_
  refine lv_icmp_eq (pc := 604) (tgt := 609) hx hb dLa_law_604 (by decide) (fun _ => ?_) (fun hc => absurd rfl hc)
  refine W.widen (k := cells + 1) (n := slots + 6) (by omega) (by omega) ?_
  exact kk _ _ H locs ls _ hw hB hM hO (lv_sub hl [0, 1, 2, 3, 4] rfl)

set_option maxHeartbeats 4000000 in
theorem s_switch (hx : p.tables.exec = Jvm.exec) (hb : c.code = code) (hown : s.vm.findClass RLa = some m.cls) (hml : c.maxLocals = 8) (hW : ∀ w ∈ kWs, w.before args s = true) (hK : kK D kCl (kty cI cL cQ) (kz tO tB tC sa) A s s.heap) (hst : l.stackTraces = false) (hX : va_X a0 L xs s s.heap) (hbl : a0 < s.heap.size) (hbA : ¬ A a0) (hL : L < 2 ^ 31) (hi : i + 4 ≤ L) (hcs : cells + 1 ≤ 601024) (hss : slots + 6 ≤ 7293034) (hw : fw_H D kCl A s.heap w n H locs) (hl : lv_has ls 8 [(4, .int (nI i)), (3, .ref (b + 95)), (2, .ref (b + 86)), (1, .ref b), (0, .ref a0)]) (hB : bcS cI cL cQ w b I J V G) (hM : moS cI cL w (b + 86) MI K S C) (hO : w (b + 95) = some (.inl (cL, 1, .inr (.inl f)))) {t : Nat} (ht : t < 16) (hte : (xs i &&& (nI 15) : Int32) = nI t) (kk : W p l e room_1 s m args below meth c H locs cells slots Q (F0 m (([96, 164, 177, 257, 293, 317, 373, 417, 472, 528, 584] : List Nat).getD t 609) ls [])) : W p l e room_1 s m args below meth c H locs cells slots Q (F0 m 32 ls []) := by
  refine lv_aload_n (pc := 32) hx hb dLa_law_32 rfl (lv_at hl 4 rfl) ?_
  refine lv_iload (pc := 33) hx hb dLa_law_33 (lv_at hl 0 rfl) ?_
  refine va_sld (pc := 35) hx hb hX hbl hbA hw.2.2.2.2 (vp_in_nI (show i < L by omega) hL) dLa_law_35 ?_
  rw [nI_clamp (show i < 2 ^ 31 by omega)]
  refine lv_bipush (pc := 36) (v := (nI 15)) hx hb dLa_law_36 (by decide) ?_
  refine lv_iand (pc := 38) hx hb dLa_law_38 ?_
  rw [show ((xs i &&& (nI 15)) : Int32) = nI t from hte]
  rcases (show t = 0 ∨ t = 1 ∨ t = 2 ∨ t = 3 ∨ t = 4 ∨ t = 5 ∨ t = 6 ∨ t = 7 ∨ t = 8 ∨ t = 9 ∨ t = 10 ∨ 10 < t by omega) with rfl | rfl | rfl | rfl | rfl | rfl | rfl | rfl | rfl | rfl | rfl | h10
  · exact lv_tableIn (pc := 39) (tgt := 96) hx hb dLa_law_39 (by decide) (by decide) rfl (by decide) kk
  · exact lv_tableIn (pc := 39) (tgt := 164) hx hb dLa_law_39 (by decide) (by decide) rfl (by decide) kk
  · exact lv_tableIn (pc := 39) (tgt := 177) hx hb dLa_law_39 (by decide) (by decide) rfl (by decide) kk
  · exact lv_tableIn (pc := 39) (tgt := 257) hx hb dLa_law_39 (by decide) (by decide) rfl (by decide) kk
  · exact lv_tableIn (pc := 39) (tgt := 293) hx hb dLa_law_39 (by decide) (by decide) rfl (by decide) kk
  · exact lv_tableIn (pc := 39) (tgt := 317) hx hb dLa_law_39 (by decide) (by decide) rfl (by decide) kk
  · exact lv_tableIn (pc := 39) (tgt := 373) hx hb dLa_law_39 (by decide) (by decide) rfl (by decide) kk
  · exact lv_tableIn (pc := 39) (tgt := 417) hx hb dLa_law_39 (by decide) (by decide) rfl (by decide) kk
  · exact lv_tableIn (pc := 39) (tgt := 472) hx hb dLa_law_39 (by decide) (by decide) rfl (by decide) kk
  · exact lv_tableIn (pc := 39) (tgt := 528) hx hb dLa_law_39 (by decide) (by decide) rfl (by decide) kk
  · exact lv_tableIn (pc := 39) (tgt := 584) hx hb dLa_law_39 (by decide) (by decide) rfl (by decide) kk
  · refine lv_tableOut (pc := 39) (tgt := 609) hx hb dLa_law_39 (Or.inr (by rw [nI_toInt (by omega)]; omega)) (by decide) ?_
    rw [law_tgt h10] at kk
    exact kk
end LAW2
