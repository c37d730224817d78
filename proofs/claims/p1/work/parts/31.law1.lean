/-! The law's roads, one call each. Written by wip/gen/law1.py. -/
section LAW1
variable {p : Program} {l : Launch} {e : Env} {s : State} {m : MethodId} {args : Array Value} {below : List Frame} {meth : Method} {c : Code} {H : Heap} {locs : List Loc} {cells slots : Nat} {Q : State → Prop} {ls : Array Slot} {D : va_G} {A : Nat → Prop} {cI cL cQ : ClassId} {tO tB tC : Nat} {sa : Nat → Nat} {w : fw_W} {n b a0 L i : Nat} {xs : Nat → Int32} {f : Nat → Int64} {I : Nat → Nat} {J : Nat → Nat → Nat} {V G : Nat → Nat} {MI : Nat → Nat} {K : Nat → Nat → Nat} {S : Nat → Int32} {C : Nat → Nat}
set_option maxHeartbeats 4000000 in
set_option maxRecDepth 100000 in
theorem s_feedT (hx : p.tables.exec = Jvm.exec) (hb : c.code = code) (hown : s.vm.findClass RLa = some m.cls) (hml : c.maxLocals = 8) (hW : ∀ w ∈ kWs, w.before args s = true) (hK : kK D kCl (kty cI cL cQ) (kz tO tB tC sa) A s s.heap) (hst : l.stackTraces = false) (hX : va_X a0 L xs s s.heap) (hbl : a0 < s.heap.size) (hbA : ¬ A a0) (hL : L < 2 ^ 31) (hi : i + 4 ≤ L) (hcs : cells + 1 ≤ 600002) (hss : slots + 6 ≤ 7302232) (hw : fw_H D kCl A s.heap w n H locs) (hl : lv_has ls 8 [(4, .int (nI i)), (3, .ref (b + 95)), (2, .ref (b + 86)), (1, .ref b), (0, .ref a0)]) (hB : bcS cI cL cQ w b I J V G) (hM : moS cI cL w (b + 86) MI K S C) (hO : w (b + 95) = some (.inl (cL, 1, .inr (.inl f)))) (ht : tk (xs (i + 1)) (xs (i + 2)) = false) (kk : ∀ (w1 : fw_W) (n1 : Nat) (H1 : Heap) (locs1 : List Loc) (ls1 : Array Slot) (f1 : Nat → Int64), fw_H D kCl A s.heap w1 n1 H1 locs1 → bcS cI cL cQ w1 b I J V G → moS cI cL w1 (b + 86) (va_up MI 0 1) K S C → w1 (b + 95) = some (.inl (cL, 1, .inr (.inl f1))) → lv_has ls1 8 [(4, .int (nI i)), (3, .ref (b + 95)), (2, .ref (b + 86)), (1, .ref b), (0, .ref a0)] → W p l e room_1 s m args below meth c H1 locs1 (cells + 1) (slots + 6) Q (F0 m 609 ls1 [])) : W p l e room_1 s m args below meth c H locs cells slots Q (F0 m 96 ls []) := by
  refine lv_aload_n (pc := 96) hx hb dLa_law_96 rfl (lv_at hl 3 rfl) ?_
  refine lv_aload_n (pc := 97) hx hb dLa_law_97 rfl (lv_at hl 4 rfl) ?_
  refine lv_iload (pc := 98) hx hb dLa_law_98 (lv_at hl 0 rfl) ?_
  refine lv_iconst (pc := 100) (v := (nI 1)) hx hb dLa_law_100 (by decide) ?_
  refine lv_iadd (pc := 101) hx hb dLa_law_101 ?_
  rw [show ((nI i + (nI 1)) : Int32) = nI (i + 1) from (nI_add i 1)]
  refine va_sld (pc := 102) hx hb hX hbl hbA hw.2.2.2.2 (vp_in_nI (show i + 1 < L by omega) hL) dLa_law_102 ?_
  rw [nI_clamp (show i + 1 < 2 ^ 31 by omega)]
  refine lv_aload_n (pc := 103) hx hb dLa_law_103 rfl (lv_at hl 4 rfl) ?_
  refine lv_iload (pc := 104) hx hb dLa_law_104 (lv_at hl 0 rfl) ?_
  refine lv_iconst (pc := 106) (v := (nI 2)) hx hb dLa_law_106 (by decide) ?_
  refine lv_iadd (pc := 107) hx hb dLa_law_107 ?_
  rw [show ((nI i + (nI 2)) : Int32) = nI (i + 2) from (nI_add i 2)]
  refine va_sld (pc := 108) hx hb hX hbl hbA hw.2.2.2.2 (vp_in_nI (show i + 2 < L by omega) hL) dLa_law_108 ?_
  rw [nI_clamp (show i + 2 < 2 ^ 31 by omega)]
  refine lv_aload_n (pc := 109) hx hb dLa_law_109 rfl (lv_at hl 1 rfl) ?_
  refine fw_cSL (pc := 110) (As := [.ref b, .int (xs (i + 1)), .int (xs (i + 2)), .ref (b + 95)]) (rest := []) (mc := 1) (ms := 6) ⟨hx, hb, hml, hown, hW⟩ (w_feedT hB hst ht (Or.inr (by omega)) hO) (fw_wLof 4 hW lm_La_52 sta_La_feed ini_La cd_La_feed rfl rfl (by decide +kernel) ⟨Nat.le_of_ble_eq_true rfl, Nat.le_of_ble_eq_true rfl⟩) hK hw rfl hl.1 rfl (Nat.le_of_ble_eq_true rfl) dLa_law_110 ⟨by show _ ≤ 600002; omega, by show _ ≤ 7302232; omega⟩ (fun v w1 n1 H locs hq hw => ?_)
  obtain ⟨rfl, hww⟩ := hq
  have hB : bcS cI cL cQ w1 b I J V G := by rw [hww]; exact hB
  have hM : moS cI cL w1 (b + 86) MI K S C := by rw [hww]; exact hM
  have hO : w1 (b + 95) = some (.inl (cL, 1, .inr (.inl f))) := by rw [hww]; exact hO
  refine W.eq (g2 := F0 m 113 ls [.int (nI 1)]) rfl ?_
  refine lv_istore (pc := 113) (lv' := [(5, .int (nI 1)), (4, .int (nI i)), (3, .ref (b + 95)), (2, .ref (b + 86)), (1, .ref b), (0, .ref a0)]) hx hb dLa_law_113 hl (by decide) rfl (fun ls hl => ?_)
  refine lv_aload_n (pc := 115) hx hb dLa_law_115 rfl (lv_at hl 3 rfl) ?_
  refine lv_aload_n (pc := 116) hx hb dLa_law_116 rfl (lv_at hl 5 rfl) ?_
  refine lv_iload (pc := 117) hx hb dLa_law_117 (lv_at hl 1 rfl) ?_
  refine lv_iconst (pc := 119) (v := (nI 1)) hx hb dLa_law_119 (by decide) ?_
  refine lv_iadd (pc := 120) hx hb dLa_law_120 ?_
  rw [show ((nI i + (nI 1)) : Int32) = nI (i + 1) from (nI_add i 1)]
  refine va_sld (pc := 121) hx hb hX hbl hbA hw.2.2.2.2 (vp_in_nI (show i + 1 < L by omega) hL) dLa_law_121 ?_
  rw [nI_clamp (show i + 1 < 2 ^ 31 by omega)]
  refine lv_aload_n (pc := 122) hx hb dLa_law_122 rfl (lv_at hl 5 rfl) ?_
  refine lv_iload (pc := 123) hx hb dLa_law_123 (lv_at hl 1 rfl) ?_
  refine lv_iconst (pc := 125) (v := (nI 2)) hx hb dLa_law_125 (by decide) ?_
  refine lv_iadd (pc := 126) hx hb dLa_law_126 ?_
  rw [show ((nI i + (nI 2)) : Int32) = nI (i + 2) from (nI_add i 2)]
  refine va_sld (pc := 127) hx hb hX hbl hbA hw.2.2.2.2 (vp_in_nI (show i + 2 < L by omega) hL) dLa_law_127 ?_
  rw [nI_clamp (show i + 2 < 2 ^ 31 by omega)]
  refine fw_cV (pc := 128) (As := [.int (xs (i + 1)), .int (xs (i + 2))]) (rest := []) ⟨hx, hb, hml, hown, hW⟩ (c_Mo_feedT hM (by rw [ht]; decide)) (cwV 2 hW (kw_V lm_La_57 im_Mo_feed se_Mo_feed ini_Mo cd_Mo_feed) rfl rfl rfl (by decide +kernel) ⟨Nat.le_of_ble_eq_true rfl, Nat.le_of_ble_eq_true rfl⟩) hK hw hM.1 rfl rfl hl.1 rfl (Nat.le_of_ble_eq_true rfl) dLa_law_128 ⟨by show _ ≤ 600002; omega, by show _ ≤ 7302232; omega⟩ (fun v w2 H locs hq hw => ?_)
  obtain ⟨rfl, hM_, hfr⟩ := hq
  have hB := hB.kept (fun a h1 h2 => hfr a (by omega))
  have hO := (hfr _ (by omega)).trans hO
  have hM := hM_
  refine W.eq (g2 := F0 m 131 ls [.int (nI 0)]) rfl ?_
  refine lv_istore (pc := 131) (lv' := [(6, .int (nI 0)), (5, .int (nI 1)), (4, .int (nI i)), (3, .ref (b + 95)), (2, .ref (b + 86)), (1, .ref b), (0, .ref a0)]) hx hb dLa_law_131 hl (by decide) rfl (fun ls hl => ?_)
  refine lv_aload_n (pc := 133) hx hb dLa_law_133 rfl (lv_at hl 4 rfl) ?_
  refine fw_cVR (pc := 134) (As := []) (rest := []) ⟨hx, hb, hml, hown, hW⟩ (c_Mo_thrown hM) (cwV 0 hW (kw_V lm_La_58 im_Mo_thrown se_Mo_thrown ini_Mo cd_Mo_thrown) rfl rfl rfl (by decide +kernel) ⟨Nat.le_of_ble_eq_true rfl, Nat.le_of_ble_eq_true rfl⟩) hK hw hM.1 rfl rfl hl.1 rfl (Nat.le_of_ble_eq_true rfl) dLa_law_134 ⟨by show _ ≤ 600002; omega, by show _ ≤ 7302232; omega⟩ (fun v hq => ?_)
  have hq : v = some (.int (nI 1)) := hq
  subst hq
  refine W.eq (g2 := F0 m 137 ls [.int (nI 1)]) rfl ?_
  refine lv_iload (pc := 137) hx hb dLa_law_137 (lv_at hl 1 rfl) ?_
  refine lv_icmp_eq (pc := 139) (tgt := 144) hx hb dLa_law_139 (by decide) (fun _ => ?_) (fun hc => absurd rfl hc)
  refine lv_iload (pc := 144) hx hb dLa_law_144 (lv_at hl 1 rfl) ?_
  refine lv_if_ne (pc := 146) (tgt := 161) hx hb dLa_law_146 (by decide) (fun _ => ?_) (fun hc => absurd hc (show ¬ nI 1 = 0 by decide))
  refine lv_goto (pc := 161) (tgt := 609) hx hb dLa_law_161 (by decide) ?_
  refine W.widen (k := cells + 1) (n := slots + 6) (by omega) (by omega) ?_
  exact kk _ _ H locs ls _ hw hB hM hO (lv_sub hl [2, 3, 4, 5, 6] rfl)

set_option maxHeartbeats 4000000 in
set_option maxRecDepth 100000 in
theorem s_setT (hx : p.tables.exec = Jvm.exec) (hb : c.code = code) (hown : s.vm.findClass RLa = some m.cls) (hml : c.maxLocals = 8) (hW : ∀ w ∈ kWs, w.before args s = true) (hK : kK D kCl (kty cI cL cQ) (kz tO tB tC sa) A s s.heap) (hst : l.stackTraces = false) (hX : va_X a0 L xs s s.heap) (hbl : a0 < s.heap.size) (hbA : ¬ A a0) (hL : L < 2 ^ 31) (hi : i + 4 ≤ L) (hcs : cells + 1 ≤ 600002) (hss : slots + 6 ≤ 7302232) (hw : fw_H D kCl A s.heap w n H locs) (hl : lv_has ls 8 [(4, .int (nI i)), (3, .ref (b + 95)), (2, .ref (b + 86)), (1, .ref b), (0, .ref a0)]) (hB : bcS cI cL cQ w b I J V G) (hM : moS cI cL w (b + 86) MI K S C) (hO : w (b + 95) = some (.inl (cL, 1, .inr (.inl f)))) (hv : xs (i + 1) < 0 ∨ nI 8 ≤ xs (i + 1)) (hv2 : xs (i + 1) < 0 ∨ nI 7 < xs (i + 1)) (kk : ∀ (w1 : fw_W) (n1 : Nat) (H1 : Heap) (locs1 : List Loc) (ls1 : Array Slot) (f1 : Nat → Int64), fw_H D kCl A s.heap w1 n1 H1 locs1 → bcS cI cL cQ w1 b I J V G → moS cI cL w1 (b + 86) (va_up MI 0 1) K S C → w1 (b + 95) = some (.inl (cL, 1, .inr (.inl f1))) → lv_has ls1 8 [(4, .int (nI i)), (3, .ref (b + 95)), (2, .ref (b + 86)), (1, .ref b), (0, .ref a0)] → W p l e room_1 s m args below meth c H1 locs1 (cells + 1) (slots + 6) Q (F0 m 609 ls1 [])) : W p l e room_1 s m args below meth c H locs cells slots Q (F0 m 177 ls []) := by
  refine lv_aload_n (pc := 177) hx hb dLa_law_177 rfl (lv_at hl 3 rfl) ?_
  refine lv_aload_n (pc := 178) hx hb dLa_law_178 rfl (lv_at hl 4 rfl) ?_
  refine lv_iload (pc := 179) hx hb dLa_law_179 (lv_at hl 0 rfl) ?_
  refine lv_iconst (pc := 181) (v := (nI 1)) hx hb dLa_law_181 (by decide) ?_
  refine lv_iadd (pc := 182) hx hb dLa_law_182 ?_
  rw [show ((nI i + (nI 1)) : Int32) = nI (i + 1) from (nI_add i 1)]
  refine va_sld (pc := 183) hx hb hX hbl hbA hw.2.2.2.2 (vp_in_nI (show i + 1 < L by omega) hL) dLa_law_183 ?_
  rw [nI_clamp (show i + 1 < 2 ^ 31 by omega)]
  refine lv_aload_n (pc := 184) hx hb dLa_law_184 rfl (lv_at hl 4 rfl) ?_
  refine lv_iload (pc := 185) hx hb dLa_law_185 (lv_at hl 0 rfl) ?_
  refine lv_iconst (pc := 187) (v := (nI 2)) hx hb dLa_law_187 (by decide) ?_
  refine lv_iadd (pc := 188) hx hb dLa_law_188 ?_
  rw [show ((nI i + (nI 2)) : Int32) = nI (i + 2) from (nI_add i 2)]
  refine va_sld (pc := 189) hx hb hX hbl hbA hw.2.2.2.2 (vp_in_nI (show i + 2 < L by omega) hL) dLa_law_189 ?_
  rw [nI_clamp (show i + 2 < 2 ^ 31 by omega)]
  refine lv_i2l (pc := 190) (v := ((xs (i + 2))).toInt64) hx hb dLa_law_190 rfl ?_
  refine lv_bipush (pc := 191) (v := (nI 32)) hx hb dLa_law_191 (by decide) ?_
  refine lv_lshl (pc := 193) (v := ((((xs (i + 2))).toInt64) <<< (((nI 32)).toInt64 &&& 63))) hx hb dLa_law_193 rfl ?_
  refine lv_aload_n (pc := 194) hx hb dLa_law_194 rfl (lv_at hl 4 rfl) ?_
  refine lv_iload (pc := 195) hx hb dLa_law_195 (lv_at hl 0 rfl) ?_
  refine lv_iconst (pc := 197) (v := (nI 3)) hx hb dLa_law_197 (by decide) ?_
  refine lv_iadd (pc := 198) hx hb dLa_law_198 ?_
  rw [show ((nI i + (nI 3)) : Int32) = nI (i + 3) from (nI_add i 3)]
  refine va_sld (pc := 199) hx hb hX hbl hbA hw.2.2.2.2 (vp_in_nI (show i + 3 < L by omega) hL) dLa_law_199 ?_
  rw [nI_clamp (show i + 3 < 2 ^ 31 by omega)]
  refine lv_i2l (pc := 200) (v := ((xs (i + 3))).toInt64) hx hb dLa_law_200 rfl ?_
  refine lv_ldc2 (pc := 201) (v := lN 4294967295) hx hb hown (hW _ kl_La_65) dLa_law_201 ?_
  refine lv_land (pc := 204) hx hb dLa_law_204 ?_
  refine lv_lor (pc := 205) hx hb dLa_law_205 ?_
  obtain ⟨y, hy, hye⟩ := wb_of (((((xs (i + 2))).toInt64) <<< (((nI 32)).toInt64 &&& 63)) ||| (((xs (i + 3))).toInt64 &&& (lN 4294967295)))
  rw [show ((((((xs (i + 2))).toInt64) <<< (((nI 32)).toInt64 &&& 63)) ||| (((xs (i + 3))).toInt64 &&& (lN 4294967295))) : Int64) = lN y from hye]
  refine fw_cSL (pc := 206) (As := [.ref b, .int (xs (i + 1)), .long (lN y)]) (rest := []) (mc := 1) (ms := 6) ⟨hx, hb, hml, hown, hW⟩ (w_setT hB hst hv) (fw_wLof 3 hW lm_La_67 sta_La_set ini_La cd_La_set rfl rfl (by decide +kernel) ⟨Nat.le_of_ble_eq_true rfl, Nat.le_of_ble_eq_true rfl⟩) hK hw rfl hl.1 rfl (Nat.le_of_ble_eq_true rfl) dLa_law_206 ⟨by show _ ≤ 600002; omega, by show _ ≤ 7302232; omega⟩ (fun v w1 n1 H locs hq hw => ?_)
  obtain ⟨rfl, hww⟩ := hq
  have hB : bcS cI cL cQ w1 b I J V G := by rw [hww]; exact hB
  have hM : moS cI cL w1 (b + 86) MI K S C := by rw [hww]; exact hM
  have hO : w1 (b + 95) = some (.inl (cL, 1, .inr (.inl f))) := by rw [hww]; exact hO
  refine W.eq (g2 := F0 m 209 ls [.int (nI 1)]) rfl ?_
  refine lv_istore (pc := 209) (lv' := [(5, .int (nI 1)), (4, .int (nI i)), (3, .ref (b + 95)), (2, .ref (b + 86)), (1, .ref b), (0, .ref a0)]) hx hb dLa_law_209 hl (by decide) rfl (fun ls hl => ?_)
  refine lv_aload_n (pc := 211) hx hb dLa_law_211 rfl (lv_at hl 3 rfl) ?_
  refine lv_aload_n (pc := 212) hx hb dLa_law_212 rfl (lv_at hl 5 rfl) ?_
  refine lv_iload (pc := 213) hx hb dLa_law_213 (lv_at hl 1 rfl) ?_
  refine lv_iconst (pc := 215) (v := (nI 1)) hx hb dLa_law_215 (by decide) ?_
  refine lv_iadd (pc := 216) hx hb dLa_law_216 ?_
  rw [show ((nI i + (nI 1)) : Int32) = nI (i + 1) from (nI_add i 1)]
  refine va_sld (pc := 217) hx hb hX hbl hbA hw.2.2.2.2 (vp_in_nI (show i + 1 < L by omega) hL) dLa_law_217 ?_
  rw [nI_clamp (show i + 1 < 2 ^ 31 by omega)]
  refine lv_aload_n (pc := 218) hx hb dLa_law_218 rfl (lv_at hl 5 rfl) ?_
  refine lv_iload (pc := 219) hx hb dLa_law_219 (lv_at hl 1 rfl) ?_
  refine lv_iconst (pc := 221) (v := (nI 2)) hx hb dLa_law_221 (by decide) ?_
  refine lv_iadd (pc := 222) hx hb dLa_law_222 ?_
  rw [show ((nI i + (nI 2)) : Int32) = nI (i + 2) from (nI_add i 2)]
  refine va_sld (pc := 223) hx hb hX hbl hbA hw.2.2.2.2 (vp_in_nI (show i + 2 < L by omega) hL) dLa_law_223 ?_
  rw [nI_clamp (show i + 2 < 2 ^ 31 by omega)]
  refine lv_i2l (pc := 224) (v := ((xs (i + 2))).toInt64) hx hb dLa_law_224 rfl ?_
  refine lv_bipush (pc := 225) (v := (nI 32)) hx hb dLa_law_225 (by decide) ?_
  refine lv_lshl (pc := 227) (v := ((((xs (i + 2))).toInt64) <<< (((nI 32)).toInt64 &&& 63))) hx hb dLa_law_227 rfl ?_
  refine lv_aload_n (pc := 228) hx hb dLa_law_228 rfl (lv_at hl 5 rfl) ?_
  refine lv_iload (pc := 229) hx hb dLa_law_229 (lv_at hl 1 rfl) ?_
  refine lv_iconst (pc := 231) (v := (nI 3)) hx hb dLa_law_231 (by decide) ?_
  refine lv_iadd (pc := 232) hx hb dLa_law_232 ?_
  rw [show ((nI i + (nI 3)) : Int32) = nI (i + 3) from (nI_add i 3)]
  refine va_sld (pc := 233) hx hb hX hbl hbA hw.2.2.2.2 (vp_in_nI (show i + 3 < L by omega) hL) dLa_law_233 ?_
  rw [nI_clamp (show i + 3 < 2 ^ 31 by omega)]
  refine lv_i2l (pc := 234) (v := ((xs (i + 3))).toInt64) hx hb dLa_law_234 rfl ?_
  refine lv_ldc2 (pc := 235) (v := lN 4294967295) hx hb hown (hW _ kl_La_65) dLa_law_235 ?_
  refine lv_land (pc := 238) hx hb dLa_law_238 ?_
  refine lv_lor (pc := 239) hx hb dLa_law_239 ?_
  rw [show ((((((xs (i + 2))).toInt64) <<< (((nI 32)).toInt64 &&& 63)) ||| (((xs (i + 3))).toInt64 &&& (lN 4294967295))) : Int64) = lN y from hye]
  refine fw_cV (pc := 240) (As := [.int (xs (i + 1)), .long (lN y)]) (rest := []) ⟨hx, hb, hml, hown, hW⟩ (c_Mo_setT hM hv2) (cwV 2 hW (kw_V lm_La_70 im_Mo_set se_Mo_set ini_Mo cd_Mo_set) rfl rfl rfl (by decide +kernel) ⟨Nat.le_of_ble_eq_true rfl, Nat.le_of_ble_eq_true rfl⟩) hK hw hM.1 rfl rfl hl.1 rfl (Nat.le_of_ble_eq_true rfl) dLa_law_240 ⟨by show _ ≤ 600002; omega, by show _ ≤ 7302232; omega⟩ (fun v w2 H locs hq hw => ?_)
  obtain ⟨rfl, hM_, hfr⟩ := hq
  have hB := hB.kept (fun a h1 h2 => hfr a (by omega))
  have hO := (hfr _ (by omega)).trans hO
  have hM := hM_
  refine W.eq (g2 := F0 m 243 ls []) rfl ?_
  refine lv_aload_n (pc := 243) hx hb dLa_law_243 rfl (lv_at hl 3 rfl) ?_
  refine fw_cVR (pc := 244) (As := []) (rest := []) ⟨hx, hb, hml, hown, hW⟩ (c_Mo_thrown hM) (cwV 0 hW (kw_V lm_La_58 im_Mo_thrown se_Mo_thrown ini_Mo cd_Mo_thrown) rfl rfl rfl (by decide +kernel) ⟨Nat.le_of_ble_eq_true rfl, Nat.le_of_ble_eq_true rfl⟩) hK hw hM.1 rfl rfl hl.1 rfl (Nat.le_of_ble_eq_true rfl) dLa_law_244 ⟨by show _ ≤ 600002; omega, by show _ ≤ 7302232; omega⟩ (fun v hq => ?_)
  have hq : v = some (.int (nI 1)) := hq
  subst hq
  refine W.eq (g2 := F0 m 247 ls [.int (nI 1)]) rfl ?_
  refine lv_iload (pc := 247) hx hb dLa_law_247 (lv_at hl 0 rfl) ?_
  refine lv_icmp_eq (pc := 249) (tgt := 254) hx hb dLa_law_249 (by decide) (fun _ => ?_) (fun hc => absurd rfl hc)
  refine lv_goto (pc := 254) (tgt := 609) hx hb dLa_law_254 (by decide) ?_
  refine W.widen (k := cells + 1) (n := slots + 6) (by omega) (by omega) ?_
  exact kk _ _ H locs ls _ hw hB hM hO (lv_sub hl [1, 2, 3, 4, 5] rfl)

set_option maxHeartbeats 4000000 in
set_option maxRecDepth 100000 in
theorem s_keepA (hx : p.tables.exec = Jvm.exec) (hb : c.code = code) (hown : s.vm.findClass RLa = some m.cls) (hml : c.maxLocals = 8) (hW : ∀ w ∈ kWs, w.before args s = true) (hK : kK D kCl (kty cI cL cQ) (kz tO tB tC sa) A s s.heap) (hst : l.stackTraces = false) (hX : va_X a0 L xs s s.heap) (hbl : a0 < s.heap.size) (hbA : ¬ A a0) (hL : L < 2 ^ 31) (hi : i + 4 ≤ L) (hcs : cells + 1 ≤ 600002) (hss : slots + 6 ≤ 7302232) (hw : fw_H D kCl A s.heap w n H locs) (hl : lv_has ls 8 [(4, .int (nI i)), (3, .ref (b + 95)), (2, .ref (b + 86)), (1, .ref b), (0, .ref a0)]) (hB : bcS cI cL cQ w b I J V G) (hM : moS cI cL w (b + 86) MI K S C) (hO : w (b + 95) = some (.inl (cL, 1, .inr (.inl f)))) (hv : xs (i + 1) < 0 ∨ nI 8 ≤ xs (i + 1)) (kk : ∀ (w1 : fw_W) (n1 : Nat) (H1 : Heap) (locs1 : List Loc) (ls1 : Array Slot) (f1 : Nat → Int64), fw_H D kCl A s.heap w1 n1 H1 locs1 → bcS cI cL cQ w1 b I J V G → moS cI cL w1 (b + 86) (va_up MI 0 1) K S C → w1 (b + 95) = some (.inl (cL, 1, .inr (.inl f1))) → lv_has ls1 8 [(4, .int (nI i)), (3, .ref (b + 95)), (2, .ref (b + 86)), (1, .ref b), (0, .ref a0)] → W p l e room_1 s m args below meth c H1 locs1 (cells + 1) (slots + 6) Q (F0 m 609 ls1 [])) : W p l e room_1 s m args below meth c H locs cells slots Q (F0 m 257 ls []) := by
  refine lv_aload_n (pc := 257) hx hb dLa_law_257 rfl (lv_at hl 3 rfl) ?_
  refine lv_aload_n (pc := 258) hx hb dLa_law_258 rfl (lv_at hl 4 rfl) ?_
  refine lv_iload (pc := 259) hx hb dLa_law_259 (lv_at hl 0 rfl) ?_
  refine lv_iconst (pc := 261) (v := (nI 1)) hx hb dLa_law_261 (by decide) ?_
  refine lv_iadd (pc := 262) hx hb dLa_law_262 ?_
  rw [show ((nI i + (nI 1)) : Int32) = nI (i + 1) from (nI_add i 1)]
  refine va_sld (pc := 263) hx hb hX hbl hbA hw.2.2.2.2 (vp_in_nI (show i + 1 < L by omega) hL) dLa_law_263 ?_
  rw [nI_clamp (show i + 1 < 2 ^ 31 by omega)]
  refine fw_cSL (pc := 264) (As := [.ref b, .int (xs (i + 1))]) (rest := []) (mc := 1) (ms := 6) ⟨hx, hb, hml, hown, hW⟩ (w_keepA hB hst hv) (fw_wLof 2 hW lm_La_71 sta_La_keep ini_La cd_La_keep rfl rfl (by decide +kernel) ⟨Nat.le_of_ble_eq_true rfl, Nat.le_of_ble_eq_true rfl⟩) hK hw rfl hl.1 rfl (Nat.le_of_ble_eq_true rfl) dLa_law_264 ⟨by show _ ≤ 600002; omega, by show _ ≤ 7302232; omega⟩ (fun v w1 n1 H locs hq hw => ?_)
  obtain ⟨rfl, hww⟩ := hq
  have hB : bcS cI cL cQ w1 b I J V G := by rw [hww]; exact hB
  have hM : moS cI cL w1 (b + 86) MI K S C := by rw [hww]; exact hM
  have hO : w1 (b + 95) = some (.inl (cL, 1, .inr (.inl f))) := by rw [hww]; exact hO
  refine W.eq (g2 := F0 m 267 ls [.int (nI 1)]) rfl ?_
  refine lv_istore (pc := 267) (lv' := [(5, .int (nI 1)), (4, .int (nI i)), (3, .ref (b + 95)), (2, .ref (b + 86)), (1, .ref b), (0, .ref a0)]) hx hb dLa_law_267 hl (by decide) rfl (fun ls hl => ?_)
  refine lv_aload_n (pc := 269) hx hb dLa_law_269 rfl (lv_at hl 3 rfl) ?_
  refine lv_aload_n (pc := 270) hx hb dLa_law_270 rfl (lv_at hl 5 rfl) ?_
  refine lv_iload (pc := 271) hx hb dLa_law_271 (lv_at hl 1 rfl) ?_
  refine lv_iconst (pc := 273) (v := (nI 1)) hx hb dLa_law_273 (by decide) ?_
  refine lv_iadd (pc := 274) hx hb dLa_law_274 ?_
  rw [show ((nI i + (nI 1)) : Int32) = nI (i + 1) from (nI_add i 1)]
  refine va_sld (pc := 275) hx hb hX hbl hbA hw.2.2.2.2 (vp_in_nI (show i + 1 < L by omega) hL) dLa_law_275 ?_
  rw [nI_clamp (show i + 1 < 2 ^ 31 by omega)]
  refine fw_cV (pc := 276) (As := [.int (xs (i + 1))]) (rest := []) ⟨hx, hb, hml, hown, hW⟩ (c_Mo_keepA hM hv) (cwV 1 hW (kw_V lm_La_74 im_Mo_keep se_Mo_keep ini_Mo cd_Mo_keep) rfl rfl rfl (by decide +kernel) ⟨Nat.le_of_ble_eq_true rfl, Nat.le_of_ble_eq_true rfl⟩) hK hw hM.1 rfl rfl hl.1 rfl (Nat.le_of_ble_eq_true rfl) dLa_law_276 ⟨by show _ ≤ 600002; omega, by show _ ≤ 7302232; omega⟩ (fun v w2 H locs hq hw => ?_)
  obtain ⟨rfl, hM_, hfr⟩ := hq
  have hB := hB.kept (fun a h1 h2 => hfr a (by omega))
  have hO := (hfr _ (by omega)).trans hO
  have hM := hM_
  refine W.eq (g2 := F0 m 279 ls []) rfl ?_
  refine lv_aload_n (pc := 279) hx hb dLa_law_279 rfl (lv_at hl 3 rfl) ?_
  refine fw_cVR (pc := 280) (As := []) (rest := []) ⟨hx, hb, hml, hown, hW⟩ (c_Mo_thrown hM) (cwV 0 hW (kw_V lm_La_58 im_Mo_thrown se_Mo_thrown ini_Mo cd_Mo_thrown) rfl rfl rfl (by decide +kernel) ⟨Nat.le_of_ble_eq_true rfl, Nat.le_of_ble_eq_true rfl⟩) hK hw hM.1 rfl rfl hl.1 rfl (Nat.le_of_ble_eq_true rfl) dLa_law_280 ⟨by show _ ≤ 600002; omega, by show _ ≤ 7302232; omega⟩ (fun v hq => ?_)
  have hq : v = some (.int (nI 1)) := hq
  subst hq
  refine W.eq (g2 := F0 m 283 ls [.int (nI 1)]) rfl ?_
  refine lv_iload (pc := 283) hx hb dLa_law_283 (lv_at hl 0 rfl) ?_
  refine lv_icmp_eq (pc := 285) (tgt := 290) hx hb dLa_law_285 (by decide) (fun _ => ?_) (fun hc => absurd rfl hc)
  refine lv_goto (pc := 290) (tgt := 609) hx hb dLa_law_290 (by decide) ?_
  refine W.widen (k := cells + 1) (n := slots + 6) (by omega) (by omega) ?_
  exact kk _ _ H locs ls _ hw hB hM hO (lv_sub hl [1, 2, 3, 4, 5] rfl)

set_option maxHeartbeats 4000000 in
set_option maxRecDepth 100000 in
theorem s_compareA (hx : p.tables.exec = Jvm.exec) (hb : c.code = code) (hown : s.vm.findClass RLa = some m.cls) (hml : c.maxLocals = 8) (hW : ∀ w ∈ kWs, w.before args s = true) (hK : kK D kCl (kty cI cL cQ) (kz tO tB tC sa) A s s.heap) (hst : l.stackTraces = false) (hX : va_X a0 L xs s s.heap) (hbl : a0 < s.heap.size) (hbA : ¬ A a0) (hL : L < 2 ^ 31) (hi : i + 4 ≤ L) (hcs : cells + 1 ≤ 600002) (hss : slots + 6 ≤ 7302232) (hw : fw_H D kCl A s.heap w n H locs) (hl : lv_has ls 8 [(4, .int (nI i)), (3, .ref (b + 95)), (2, .ref (b + 86)), (1, .ref b), (0, .ref a0)]) (hB : bcS cI cL cQ w b I J V G) (hM : moS cI cL w (b + 86) MI K S C) (hO : w (b + 95) = some (.inl (cL, 1, .inr (.inl f)))) (hv : xs (i + 1) < 0 ∨ nI 8 ≤ xs (i + 1)) (kk : ∀ (w1 : fw_W) (n1 : Nat) (H1 : Heap) (locs1 : List Loc) (ls1 : Array Slot) (f1 : Nat → Int64), fw_H D kCl A s.heap w1 n1 H1 locs1 → bcS cI cL cQ w1 b I J V G → moS cI cL w1 (b + 86) (va_up MI 0 1) K S C → w1 (b + 95) = some (.inl (cL, 1, .inr (.inl f1))) → lv_has ls1 8 [(4, .int (nI i)), (3, .ref (b + 95)), (2, .ref (b + 86)), (1, .ref b), (0, .ref a0)] → W p l e room_1 s m args below meth c H1 locs1 (cells + 1) (slots + 6) Q (F0 m 609 ls1 [])) : W p l e room_1 s m args below meth c H locs cells slots Q (F0 m 528 ls []) := by
  refine lv_aload_n (pc := 528) hx hb dLa_law_528 rfl (lv_at hl 3 rfl) ?_
  refine lv_aload_n (pc := 529) hx hb dLa_law_529 rfl (lv_at hl 4 rfl) ?_
  refine lv_iload (pc := 530) hx hb dLa_law_530 (lv_at hl 0 rfl) ?_
  refine lv_iconst (pc := 532) (v := (nI 1)) hx hb dLa_law_532 (by decide) ?_
  refine lv_iadd (pc := 533) hx hb dLa_law_533 ?_
  rw [show ((nI i + (nI 1)) : Int32) = nI (i + 1) from (nI_add i 1)]
  refine va_sld (pc := 534) hx hb hX hbl hbA hw.2.2.2.2 (vp_in_nI (show i + 1 < L by omega) hL) dLa_law_534 ?_
  rw [nI_clamp (show i + 1 < 2 ^ 31 by omega)]
  refine lv_aload_n (pc := 535) hx hb dLa_law_535 rfl (lv_at hl 1 rfl) ?_
  refine fw_cSL (pc := 536) (As := [.ref b, .int (xs (i + 1)), .ref (b + 95)]) (rest := []) (mc := 1) (ms := 6) ⟨hx, hb, hml, hown, hW⟩ (w_compareA hB hst hv (Or.inr (by omega)) hO) (fw_wLof 3 hW lm_La_93 sta_La_compare ini_La cd_La_compare rfl rfl (by decide +kernel) ⟨Nat.le_of_ble_eq_true rfl, Nat.le_of_ble_eq_true rfl⟩) hK hw rfl hl.1 rfl (Nat.le_of_ble_eq_true rfl) dLa_law_536 ⟨by show _ ≤ 600002; omega, by show _ ≤ 7302232; omega⟩ (fun v w1 n1 H locs hq hw => ?_)
  obtain ⟨rfl, hww⟩ := hq
  have hB : bcS cI cL cQ w1 b I J V G := by rw [hww]; exact hB
  have hM : moS cI cL w1 (b + 86) MI K S C := by rw [hww]; exact hM
  have hO : w1 (b + 95) = some (.inl (cL, 1, .inr (.inl f))) := by rw [hww]; exact hO
  refine W.eq (g2 := F0 m 539 ls [.int (nI 1)]) rfl ?_
  refine lv_istore (pc := 539) (lv' := [(5, .int (nI 1)), (4, .int (nI i)), (3, .ref (b + 95)), (2, .ref (b + 86)), (1, .ref b), (0, .ref a0)]) hx hb dLa_law_539 hl (by decide) rfl (fun ls hl => ?_)
  refine lv_aload_n (pc := 541) hx hb dLa_law_541 rfl (lv_at hl 3 rfl) ?_
  refine lv_aload_n (pc := 542) hx hb dLa_law_542 rfl (lv_at hl 5 rfl) ?_
  refine lv_iload (pc := 543) hx hb dLa_law_543 (lv_at hl 1 rfl) ?_
  refine lv_iconst (pc := 545) (v := (nI 1)) hx hb dLa_law_545 (by decide) ?_
  refine lv_iadd (pc := 546) hx hb dLa_law_546 ?_
  rw [show ((nI i + (nI 1)) : Int32) = nI (i + 1) from (nI_add i 1)]
  refine va_sld (pc := 547) hx hb hX hbl hbA hw.2.2.2.2 (vp_in_nI (show i + 1 < L by omega) hL) dLa_law_547 ?_
  rw [nI_clamp (show i + 1 < 2 ^ 31 by omega)]
  refine fw_cV (pc := 548) (As := [.int (xs (i + 1))]) (rest := []) ⟨hx, hb, hml, hown, hW⟩ (c_Mo_compareA hM hv) (cwV 1 hW (kw_V lm_La_95 im_Mo_compare se_Mo_compare ini_Mo cd_Mo_compare) rfl rfl rfl (by decide +kernel) ⟨Nat.le_of_ble_eq_true rfl, Nat.le_of_ble_eq_true rfl⟩) hK hw hM.1 rfl rfl hl.1 rfl (Nat.le_of_ble_eq_true rfl) dLa_law_548 ⟨by show _ ≤ 600002; omega, by show _ ≤ 7302232; omega⟩ (fun v w2 H locs hq hw => ?_)
  obtain ⟨rfl, hM_, hfr⟩ := hq
  have hB := hB.kept (fun a h1 h2 => hfr a (by omega))
  have hO := (hfr _ (by omega)).trans hO
  have hM := hM_
  refine W.eq (g2 := F0 m 551 ls [.int (nI 0)]) rfl ?_
  refine lv_istore (pc := 551) (lv' := [(6, .int (nI 0)), (5, .int (nI 1)), (4, .int (nI i)), (3, .ref (b + 95)), (2, .ref (b + 86)), (1, .ref b), (0, .ref a0)]) hx hb dLa_law_551 hl (by decide) rfl (fun ls hl => ?_)
  refine lv_aload_n (pc := 553) hx hb dLa_law_553 rfl (lv_at hl 4 rfl) ?_
  refine fw_cVR (pc := 554) (As := []) (rest := []) ⟨hx, hb, hml, hown, hW⟩ (c_Mo_thrown hM) (cwV 0 hW (kw_V lm_La_58 im_Mo_thrown se_Mo_thrown ini_Mo cd_Mo_thrown) rfl rfl rfl (by decide +kernel) ⟨Nat.le_of_ble_eq_true rfl, Nat.le_of_ble_eq_true rfl⟩) hK hw hM.1 rfl rfl hl.1 rfl (Nat.le_of_ble_eq_true rfl) dLa_law_554 ⟨by show _ ≤ 600002; omega, by show _ ≤ 7302232; omega⟩ (fun v hq => ?_)
  have hq : v = some (.int (nI 1)) := hq
  subst hq
  refine W.eq (g2 := F0 m 557 ls [.int (nI 1)]) rfl ?_
  refine lv_iload (pc := 557) hx hb dLa_law_557 (lv_at hl 1 rfl) ?_
  refine lv_icmp_eq (pc := 559) (tgt := 564) hx hb dLa_law_559 (by decide) (fun _ => ?_) (fun hc => absurd rfl hc)
  refine lv_iload (pc := 564) hx hb dLa_law_564 (lv_at hl 1 rfl) ?_
  refine lv_if_ne (pc := 566) (tgt := 581) hx hb dLa_law_566 (by decide) (fun _ => ?_) (fun hc => absurd hc (show ¬ nI 1 = 0 by decide))
  refine lv_goto (pc := 581) (tgt := 609) hx hb dLa_law_581 (by decide) ?_
  refine W.widen (k := cells + 1) (n := slots + 6) (by omega) (by omega) ?_
  exact kk _ _ H locs ls _ hw hB hM hO (lv_sub hl [2, 3, 4, 5, 6] rfl)

set_option maxHeartbeats 4000000 in
set_option maxRecDepth 100000 in
theorem s_restartS (hx : p.tables.exec = Jvm.exec) (hb : c.code = code) (hown : s.vm.findClass RLa = some m.cls) (hml : c.maxLocals = 8) (hW : ∀ w ∈ kWs, w.before args s = true) (hK : kK D kCl (kty cI cL cQ) (kz tO tB tC sa) A s s.heap) (hst : l.stackTraces = false) (hX : va_X a0 L xs s s.heap) (hbl : a0 < s.heap.size) (hbA : ¬ A a0) (hL : L < 2 ^ 31) (hi : i + 4 ≤ L) (hcs : cells + 1 ≤ 600002) (hss : slots + 6 ≤ 7302232) (hw : fw_H D kCl A s.heap w n H locs) (hl : lv_has ls 8 [(4, .int (nI i)), (3, .ref (b + 95)), (2, .ref (b + 86)), (1, .ref b), (0, .ref a0)]) (hB : bcS cI cL cQ w b I J V G) (hM : moS cI cL w (b + 86) MI K S C) (hO : w (b + 95) = some (.inl (cL, 1, .inr (.inl f)))) (h1 : I 1 = 0) (h6 : MI 6 = 0) (kk : ∀ (w1 : fw_W) (n1 : Nat) (H1 : Heap) (locs1 : List Loc) (ls1 : Array Slot) (f1 : Nat → Int64), fw_H D kCl A s.heap w1 n1 H1 locs1 → bcS cI cL cQ w1 b I J V G → moS cI cL w1 (b + 86) (va_up MI 0 1) K S C → w1 (b + 95) = some (.inl (cL, 1, .inr (.inl f1))) → lv_has ls1 8 [(4, .int (nI i)), (3, .ref (b + 95)), (2, .ref (b + 86)), (1, .ref b), (0, .ref a0)] → W p l e room_1 s m args below meth c H1 locs1 (cells + 1) (slots + 6) Q (F0 m 609 ls1 [])) : W p l e room_1 s m args below meth c H locs cells slots Q (F0 m 293 ls []) := by
  refine lv_aload_n (pc := 293) hx hb dLa_law_293 rfl (lv_at hl 3 rfl) ?_
  refine fw_cSL (pc := 294) (As := [.ref b]) (rest := []) (mc := 1) (ms := 6) ⟨hx, hb, hml, hown, hW⟩ (w_restartS hB hst h1) (fw_wLof 1 hW lm_La_75 sta_La_restart ini_La cd_La_restart rfl rfl (by decide +kernel) ⟨Nat.le_of_ble_eq_true rfl, Nat.le_of_ble_eq_true rfl⟩) hK hw rfl hl.1 rfl (Nat.le_of_ble_eq_true rfl) dLa_law_294 ⟨by show _ ≤ 600002; omega, by show _ ≤ 7302232; omega⟩ (fun v w1 n1 H locs hq hw => ?_)
  obtain ⟨rfl, hww⟩ := hq
  have hB : bcS cI cL cQ w1 b I J V G := by rw [hww]; exact hB
  have hM : moS cI cL w1 (b + 86) MI K S C := by rw [hww]; exact hM
  have hO : w1 (b + 95) = some (.inl (cL, 1, .inr (.inl f))) := by rw [hww]; exact hO
  refine W.eq (g2 := F0 m 297 ls [.int (nI 1)]) rfl ?_
  refine lv_istore (pc := 297) (lv' := [(5, .int (nI 1)), (4, .int (nI i)), (3, .ref (b + 95)), (2, .ref (b + 86)), (1, .ref b), (0, .ref a0)]) hx hb dLa_law_297 hl (by decide) rfl (fun ls hl => ?_)
  refine lv_aload_n (pc := 299) hx hb dLa_law_299 rfl (lv_at hl 3 rfl) ?_
  refine fw_cV (pc := 300) (As := []) (rest := []) ⟨hx, hb, hml, hown, hW⟩ (c_Mo_restartT hM h6) (cwV 0 hW (kw_V lm_La_78 im_Mo_restart se_Mo_restart ini_Mo cd_Mo_restart) rfl rfl rfl (by decide +kernel) ⟨Nat.le_of_ble_eq_true rfl, Nat.le_of_ble_eq_true rfl⟩) hK hw hM.1 rfl rfl hl.1 rfl (Nat.le_of_ble_eq_true rfl) dLa_law_300 ⟨by show _ ≤ 600002; omega, by show _ ≤ 7302232; omega⟩ (fun v w2 H locs hq hw => ?_)
  obtain ⟨rfl, hM_, hfr⟩ := hq
  have hB := hB.kept (fun a h1 h2 => hfr a (by omega))
  have hO := (hfr _ (by omega)).trans hO
  have hM := hM_
  refine W.eq (g2 := F0 m 303 ls []) rfl ?_
  refine lv_aload_n (pc := 303) hx hb dLa_law_303 rfl (lv_at hl 3 rfl) ?_
  refine fw_cVR (pc := 304) (As := []) (rest := []) ⟨hx, hb, hml, hown, hW⟩ (c_Mo_thrown hM) (cwV 0 hW (kw_V lm_La_58 im_Mo_thrown se_Mo_thrown ini_Mo cd_Mo_thrown) rfl rfl rfl (by decide +kernel) ⟨Nat.le_of_ble_eq_true rfl, Nat.le_of_ble_eq_true rfl⟩) hK hw hM.1 rfl rfl hl.1 rfl (Nat.le_of_ble_eq_true rfl) dLa_law_304 ⟨by show _ ≤ 600002; omega, by show _ ≤ 7302232; omega⟩ (fun v hq => ?_)
  have hq : v = some (.int (nI 1)) := hq
  subst hq
  refine W.eq (g2 := F0 m 307 ls [.int (nI 1)]) rfl ?_
  refine lv_iload (pc := 307) hx hb dLa_law_307 (lv_at hl 0 rfl) ?_
  refine lv_icmp_eq (pc := 309) (tgt := 314) hx hb dLa_law_309 (by decide) (fun _ => ?_) (fun hc => absurd rfl hc)
  refine lv_goto (pc := 314) (tgt := 609) hx hb dLa_law_314 (by decide) ?_
  refine W.widen (k := cells + 1) (n := slots + 6) (by omega) (by omega) ?_
  exact kk _ _ H locs ls _ hw hB hM hO (lv_sub hl [1, 2, 3, 4, 5] rfl)

set_option maxHeartbeats 4000000 in
set_option maxRecDepth 100000 in
theorem s_runS (hx : p.tables.exec = Jvm.exec) (hb : c.code = code) (hown : s.vm.findClass RLa = some m.cls) (hml : c.maxLocals = 8) (hW : ∀ w ∈ kWs, w.before args s = true) (hK : kK D kCl (kty cI cL cQ) (kz tO tB tC sa) A s s.heap) (hst : l.stackTraces = false) (hX : va_X a0 L xs s s.heap) (hbl : a0 < s.heap.size) (hbA : ¬ A a0) (hL : L < 2 ^ 31) (hi : i + 4 ≤ L) (hcs : cells + 1 ≤ 600002) (hss : slots + 6 ≤ 7302232) (hw : fw_H D kCl A s.heap w n H locs) (hl : lv_has ls 8 [(4, .int (nI i)), (3, .ref (b + 95)), (2, .ref (b + 86)), (1, .ref b), (0, .ref a0)]) (hB : bcS cI cL cQ w b I J V G) (hM : moS cI cL w (b + 86) MI K S C) (hO : w (b + 95) = some (.inl (cL, 1, .inr (.inl f)))) (h1 : I 1 = 0) (h6 : MI 6 = 0) (kk : ∀ (w1 : fw_W) (n1 : Nat) (H1 : Heap) (locs1 : List Loc) (ls1 : Array Slot) (f1 : Nat → Int64), fw_H D kCl A s.heap w1 n1 H1 locs1 → bcS cI cL cQ w1 b I J V G → moS cI cL w1 (b + 86) (va_up MI 0 1) K S C → w1 (b + 95) = some (.inl (cL, 1, .inr (.inl f1))) → lv_has ls1 8 [(4, .int (nI i)), (3, .ref (b + 95)), (2, .ref (b + 86)), (1, .ref b), (0, .ref a0)] → W p l e room_1 s m args below meth c H1 locs1 (cells + 1) (slots + 6) Q (F0 m 609 ls1 [])) : W p l e room_1 s m args below meth c H locs cells slots Q (F0 m 317 ls []) := by
  refine lv_aload_n (pc := 317) hx hb dLa_law_317 rfl (lv_at hl 3 rfl) ?_
  refine lv_aload_n (pc := 318) hx hb dLa_law_318 rfl (lv_at hl 4 rfl) ?_
  refine lv_iload (pc := 319) hx hb dLa_law_319 (lv_at hl 0 rfl) ?_
  refine lv_iconst (pc := 321) (v := (nI 1)) hx hb dLa_law_321 (by decide) ?_
  refine lv_iadd (pc := 322) hx hb dLa_law_322 ?_
  rw [show ((nI i + (nI 1)) : Int32) = nI (i + 1) from (nI_add i 1)]
  refine va_sld (pc := 323) hx hb hX hbl hbA hw.2.2.2.2 (vp_in_nI (show i + 1 < L by omega) hL) dLa_law_323 ?_
  rw [nI_clamp (show i + 1 < 2 ^ 31 by omega)]
  refine lv_aload_n (pc := 324) hx hb dLa_law_324 rfl (lv_at hl 1 rfl) ?_
  refine fw_cSL (pc := 325) (As := [.ref b, .int (xs (i + 1)), .ref (b + 95)]) (rest := []) (mc := 1) (ms := 6) ⟨hx, hb, hml, hown, hW⟩ (w_runS hB hst h1 (Or.inr (by omega)) hO) (fw_wLof 3 hW lm_La_79 sta_La_run ini_La cd_La_run rfl rfl (by decide +kernel) ⟨Nat.le_of_ble_eq_true rfl, Nat.le_of_ble_eq_true rfl⟩) hK hw rfl hl.1 rfl (Nat.le_of_ble_eq_true rfl) dLa_law_325 ⟨by show _ ≤ 600002; omega, by show _ ≤ 7302232; omega⟩ (fun v w1 n1 H locs hq hw => ?_)
  obtain ⟨rfl, hww⟩ := hq
  have hB : bcS cI cL cQ w1 b I J V G := by rw [hww]; exact hB
  have hM : moS cI cL w1 (b + 86) MI K S C := by rw [hww]; exact hM
  have hO : w1 (b + 95) = some (.inl (cL, 1, .inr (.inl f))) := by rw [hww]; exact hO
  refine W.eq (g2 := F0 m 328 ls [.int (nI 1)]) rfl ?_
  refine lv_istore (pc := 328) (lv' := [(5, .int (nI 1)), (4, .int (nI i)), (3, .ref (b + 95)), (2, .ref (b + 86)), (1, .ref b), (0, .ref a0)]) hx hb dLa_law_328 hl (by decide) rfl (fun ls hl => ?_)
  refine lv_aload_n (pc := 330) hx hb dLa_law_330 rfl (lv_at hl 3 rfl) ?_
  refine lv_aload_n (pc := 331) hx hb dLa_law_331 rfl (lv_at hl 5 rfl) ?_
  refine lv_iload (pc := 332) hx hb dLa_law_332 (lv_at hl 1 rfl) ?_
  refine lv_iconst (pc := 334) (v := (nI 1)) hx hb dLa_law_334 (by decide) ?_
  refine lv_iadd (pc := 335) hx hb dLa_law_335 ?_
  rw [show ((nI i + (nI 1)) : Int32) = nI (i + 1) from (nI_add i 1)]
  refine va_sld (pc := 336) hx hb hX hbl hbA hw.2.2.2.2 (vp_in_nI (show i + 1 < L by omega) hL) dLa_law_336 ?_
  rw [nI_clamp (show i + 1 < 2 ^ 31 by omega)]
  refine fw_cV (pc := 337) (As := [.int (xs (i + 1))]) (rest := []) ⟨hx, hb, hml, hown, hW⟩ (c_Mo_runS hM h6) (cwV 1 hW (kw_V lm_La_82 im_Mo_run se_Mo_run ini_Mo cd_Mo_run) rfl rfl rfl (by decide +kernel) ⟨Nat.le_of_ble_eq_true rfl, Nat.le_of_ble_eq_true rfl⟩) hK hw hM.1 rfl rfl hl.1 rfl (Nat.le_of_ble_eq_true rfl) dLa_law_337 ⟨by show _ ≤ 600002; omega, by show _ ≤ 7302232; omega⟩ (fun v w2 H locs hq hw => ?_)
  obtain ⟨rfl, hM_, hfr⟩ := hq
  have hB := hB.kept (fun a h1 h2 => hfr a (by omega))
  have hO := (hfr _ (by omega)).trans hO
  have hM := hM_
  refine W.eq (g2 := F0 m 340 ls [.int (nI 0)]) rfl ?_
  refine lv_istore (pc := 340) (lv' := [(6, .int (nI 0)), (5, .int (nI 1)), (4, .int (nI i)), (3, .ref (b + 95)), (2, .ref (b + 86)), (1, .ref b), (0, .ref a0)]) hx hb dLa_law_340 hl (by decide) rfl (fun ls hl => ?_)
  refine lv_aload_n (pc := 342) hx hb dLa_law_342 rfl (lv_at hl 4 rfl) ?_
  refine fw_cVR (pc := 343) (As := []) (rest := []) ⟨hx, hb, hml, hown, hW⟩ (c_Mo_thrown hM) (cwV 0 hW (kw_V lm_La_58 im_Mo_thrown se_Mo_thrown ini_Mo cd_Mo_thrown) rfl rfl rfl (by decide +kernel) ⟨Nat.le_of_ble_eq_true rfl, Nat.le_of_ble_eq_true rfl⟩) hK hw hM.1 rfl rfl hl.1 rfl (Nat.le_of_ble_eq_true rfl) dLa_law_343 ⟨by show _ ≤ 600002; omega, by show _ ≤ 7302232; omega⟩ (fun v hq => ?_)
  have hq : v = some (.int (nI 1)) := hq
  subst hq
  refine W.eq (g2 := F0 m 346 ls [.int (nI 1)]) rfl ?_
  refine lv_iload (pc := 346) hx hb dLa_law_346 (lv_at hl 1 rfl) ?_
  refine lv_icmp_eq (pc := 348) (tgt := 353) hx hb dLa_law_348 (by decide) (fun _ => ?_) (fun hc => absurd rfl hc)
  refine lv_iload (pc := 353) hx hb dLa_law_353 (lv_at hl 1 rfl) ?_
  refine lv_if_ne (pc := 355) (tgt := 370) hx hb dLa_law_355 (by decide) (fun _ => ?_) (fun hc => absurd hc (show ¬ nI 1 = 0 by decide))
  refine lv_goto (pc := 370) (tgt := 609) hx hb dLa_law_370 (by decide) ?_
  refine W.widen (k := cells + 1) (n := slots + 6) (by omega) (by omega) ?_
  exact kk _ _ H locs ls _ hw hB hM hO (lv_sub hl [2, 3, 4, 5, 6] rfl)

set_option maxHeartbeats 4000000 in
set_option maxRecDepth 100000 in
theorem s_runA (hx : p.tables.exec = Jvm.exec) (hb : c.code = code) (hown : s.vm.findClass RLa = some m.cls) (hml : c.maxLocals = 8) (hW : ∀ w ∈ kWs, w.before args s = true) (hK : kK D kCl (kty cI cL cQ) (kz tO tB tC sa) A s s.heap) (hst : l.stackTraces = false) (hX : va_X a0 L xs s s.heap) (hbl : a0 < s.heap.size) (hbA : ¬ A a0) (hL : L < 2 ^ 31) (hi : i + 4 ≤ L) (hcs : cells + 1 ≤ 600002) (hss : slots + 6 ≤ 7302232) (hw : fw_H D kCl A s.heap w n H locs) (hl : lv_has ls 8 [(4, .int (nI i)), (3, .ref (b + 95)), (2, .ref (b + 86)), (1, .ref b), (0, .ref a0)]) (hB : bcS cI cL cQ w b I J V G) (hM : moS cI cL w (b + 86) MI K S C) (hO : w (b + 95) = some (.inl (cL, 1, .inr (.inl f)))) (h1 : 0 < I 1) (h2 : I 1 < 2 ^ 31) (h6 : 0 < MI 6) (h6b : MI 6 < 2 ^ 31) (hv : xs (i + 1) < 0 ∨ nI 10000 < xs (i + 1)) (kk : ∀ (w1 : fw_W) (n1 : Nat) (H1 : Heap) (locs1 : List Loc) (ls1 : Array Slot) (f1 : Nat → Int64), fw_H D kCl A s.heap w1 n1 H1 locs1 → bcS cI cL cQ w1 b I J V G → moS cI cL w1 (b + 86) (va_up MI 0 2) K S C → w1 (b + 95) = some (.inl (cL, 1, .inr (.inl f1))) → lv_has ls1 8 [(4, .int (nI i)), (3, .ref (b + 95)), (2, .ref (b + 86)), (1, .ref b), (0, .ref a0)] → W p l e room_1 s m args below meth c H1 locs1 (cells + 1) (slots + 6) Q (F0 m 609 ls1 [])) : W p l e room_1 s m args below meth c H locs cells slots Q (F0 m 317 ls []) := by
  refine lv_aload_n (pc := 317) hx hb dLa_law_317 rfl (lv_at hl 3 rfl) ?_
  refine lv_aload_n (pc := 318) hx hb dLa_law_318 rfl (lv_at hl 4 rfl) ?_
  refine lv_iload (pc := 319) hx hb dLa_law_319 (lv_at hl 0 rfl) ?_
  refine lv_iconst (pc := 321) (v := (nI 1)) hx hb dLa_law_321 (by decide) ?_
  refine lv_iadd (pc := 322) hx hb dLa_law_322 ?_
  rw [show ((nI i + (nI 1)) : Int32) = nI (i + 1) from (nI_add i 1)]
  refine va_sld (pc := 323) hx hb hX hbl hbA hw.2.2.2.2 (vp_in_nI (show i + 1 < L by omega) hL) dLa_law_323 ?_
  rw [nI_clamp (show i + 1 < 2 ^ 31 by omega)]
  refine lv_aload_n (pc := 324) hx hb dLa_law_324 rfl (lv_at hl 1 rfl) ?_
  refine fw_cSL (pc := 325) (As := [.ref b, .int (xs (i + 1)), .ref (b + 95)]) (rest := []) (mc := 1) (ms := 6) ⟨hx, hb, hml, hown, hW⟩ (w_runA hB hst h1 h2 hv (Or.inr (by omega)) hO) (fw_wLof 3 hW lm_La_79 sta_La_run ini_La cd_La_run rfl rfl (by decide +kernel) ⟨Nat.le_of_ble_eq_true rfl, Nat.le_of_ble_eq_true rfl⟩) hK hw rfl hl.1 rfl (Nat.le_of_ble_eq_true rfl) dLa_law_325 ⟨by show _ ≤ 600002; omega, by show _ ≤ 7302232; omega⟩ (fun v w1 n1 H locs hq hw => ?_)
  obtain ⟨rfl, hww⟩ := hq
  have hB : bcS cI cL cQ w1 b I J V G := by rw [hww]; exact hB
  have hM : moS cI cL w1 (b + 86) MI K S C := by rw [hww]; exact hM
  have hO : w1 (b + 95) = some (.inl (cL, 1, .inr (.inl f))) := by rw [hww]; exact hO
  refine W.eq (g2 := F0 m 328 ls [.int (nI 2)]) rfl ?_
  refine lv_istore (pc := 328) (lv' := [(5, .int (nI 2)), (4, .int (nI i)), (3, .ref (b + 95)), (2, .ref (b + 86)), (1, .ref b), (0, .ref a0)]) hx hb dLa_law_328 hl (by decide) rfl (fun ls hl => ?_)
  refine lv_aload_n (pc := 330) hx hb dLa_law_330 rfl (lv_at hl 3 rfl) ?_
  refine lv_aload_n (pc := 331) hx hb dLa_law_331 rfl (lv_at hl 5 rfl) ?_
  refine lv_iload (pc := 332) hx hb dLa_law_332 (lv_at hl 1 rfl) ?_
  refine lv_iconst (pc := 334) (v := (nI 1)) hx hb dLa_law_334 (by decide) ?_
  refine lv_iadd (pc := 335) hx hb dLa_law_335 ?_
  rw [show ((nI i + (nI 1)) : Int32) = nI (i + 1) from (nI_add i 1)]
  refine va_sld (pc := 336) hx hb hX hbl hbA hw.2.2.2.2 (vp_in_nI (show i + 1 < L by omega) hL) dLa_law_336 ?_
  rw [nI_clamp (show i + 1 < 2 ^ 31 by omega)]
  refine fw_cV (pc := 337) (As := [.int (xs (i + 1))]) (rest := []) ⟨hx, hb, hml, hown, hW⟩ (c_Mo_runA hM h6 h6b hv) (cwV 1 hW (kw_V lm_La_82 im_Mo_run se_Mo_run ini_Mo cd_Mo_run) rfl rfl rfl (by decide +kernel) ⟨Nat.le_of_ble_eq_true rfl, Nat.le_of_ble_eq_true rfl⟩) hK hw hM.1 rfl rfl hl.1 rfl (Nat.le_of_ble_eq_true rfl) dLa_law_337 ⟨by show _ ≤ 600002; omega, by show _ ≤ 7302232; omega⟩ (fun v w2 H locs hq hw => ?_)
  obtain ⟨rfl, hM_, hfr⟩ := hq
  have hB := hB.kept (fun a h1 h2 => hfr a (by omega))
  have hO := (hfr _ (by omega)).trans hO
  have hM := hM_
  refine W.eq (g2 := F0 m 340 ls [.int (nI 0)]) rfl ?_
  refine lv_istore (pc := 340) (lv' := [(6, .int (nI 0)), (5, .int (nI 2)), (4, .int (nI i)), (3, .ref (b + 95)), (2, .ref (b + 86)), (1, .ref b), (0, .ref a0)]) hx hb dLa_law_340 hl (by decide) rfl (fun ls hl => ?_)
  refine lv_aload_n (pc := 342) hx hb dLa_law_342 rfl (lv_at hl 4 rfl) ?_
  refine fw_cVR (pc := 343) (As := []) (rest := []) ⟨hx, hb, hml, hown, hW⟩ (c_Mo_thrown hM) (cwV 0 hW (kw_V lm_La_58 im_Mo_thrown se_Mo_thrown ini_Mo cd_Mo_thrown) rfl rfl rfl (by decide +kernel) ⟨Nat.le_of_ble_eq_true rfl, Nat.le_of_ble_eq_true rfl⟩) hK hw hM.1 rfl rfl hl.1 rfl (Nat.le_of_ble_eq_true rfl) dLa_law_343 ⟨by show _ ≤ 600002; omega, by show _ ≤ 7302232; omega⟩ (fun v hq => ?_)
  have hq : v = some (.int (nI 2)) := hq
  subst hq
  refine W.eq (g2 := F0 m 346 ls [.int (nI 2)]) rfl ?_
  refine lv_iload (pc := 346) hx hb dLa_law_346 (lv_at hl 1 rfl) ?_
  refine lv_icmp_eq (pc := 348) (tgt := 353) hx hb dLa_law_348 (by decide) (fun _ => ?_) (fun hc => absurd rfl hc)
  refine lv_iload (pc := 353) hx hb dLa_law_353 (lv_at hl 1 rfl) ?_
  refine lv_if_ne (pc := 355) (tgt := 370) hx hb dLa_law_355 (by decide) (fun _ => ?_) (fun hc => absurd hc (show ¬ nI 2 = 0 by decide))
  refine lv_goto (pc := 370) (tgt := 609) hx hb dLa_law_370 (by decide) ?_
  refine W.widen (k := cells + 1) (n := slots + 6) (by omega) (by omega) ?_
  exact kk _ _ H locs ls _ hw hB hM hO (lv_sub hl [2, 3, 4, 5, 6] rfl)

set_option maxHeartbeats 4000000 in
set_option maxRecDepth 100000 in
theorem s_signS (hx : p.tables.exec = Jvm.exec) (hb : c.code = code) (hown : s.vm.findClass RLa = some m.cls) (hml : c.maxLocals = 8) (hW : ∀ w ∈ kWs, w.before args s = true) (hK : kK D kCl (kty cI cL cQ) (kz tO tB tC sa) A s s.heap) (hst : l.stackTraces = false) (hX : va_X a0 L xs s s.heap) (hbl : a0 < s.heap.size) (hbA : ¬ A a0) (hL : L < 2 ^ 31) (hi : i + 4 ≤ L) (hcs : cells + 1 ≤ 600002) (hss : slots + 6 ≤ 7302232) (hw : fw_H D kCl A s.heap w n H locs) (hl : lv_has ls 8 [(4, .int (nI i)), (3, .ref (b + 95)), (2, .ref (b + 86)), (1, .ref b), (0, .ref a0)]) (hB : bcS cI cL cQ w b I J V G) (hM : moS cI cL w (b + 86) MI K S C) (hO : w (b + 95) = some (.inl (cL, 1, .inr (.inl f))))  (h1 : I 1 < 2 ^ 31) (h4 : I 4 < 2 ^ 31) (hno : ¬ (0 < I 1 ∧ I 4 = I 1)) (h6 : MI 6 < 2 ^ 31) (h7 : MI 7 < 2 ^ 31) (h16 : MI 16 < 2 ^ 31) (hnm : ¬ (0 < MI 6 ∧ MI 16 = MI 7)) (kk : ∀ (w1 : fw_W) (n1 : Nat) (H1 : Heap) (locs1 : List Loc) (ls1 : Array Slot) (f1 : Nat → Int64), fw_H D kCl A s.heap w1 n1 H1 locs1 → bcS cI cL cQ w1 b I J V G → moS cI cL w1 (b + 86) (va_up MI 0 1) K S C → w1 (b + 95) = some (.inl (cL, 1, .inr (.inl f1))) → lv_has ls1 8 [(4, .int (nI i)), (3, .ref (b + 95)), (2, .ref (b + 86)), (1, .ref b), (0, .ref a0)] → W p l e room_1 s m args below meth c H1 locs1 (cells + 1) (slots + 6) Q (F0 m 609 ls1 [])) : W p l e room_1 s m args below meth c H locs cells slots Q (F0 m 373 ls []) := by
  refine lv_aload_n (pc := 373) hx hb dLa_law_373 rfl (lv_at hl 3 rfl) ?_
  refine lv_aload_n (pc := 374) hx hb dLa_law_374 rfl (lv_at hl 1 rfl) ?_
  refine fw_cSL (pc := 375) (As := [.ref b, .ref (b + 95)]) (rest := []) (mc := 1) (ms := 6) ⟨hx, hb, hml, hown, hW⟩ (w_signS hB hst h1 h4 hno (Or.inr (by omega)) hO) (fw_wLof 2 hW lm_La_83 sta_La_sign ini_La cd_La_sign rfl rfl (by decide +kernel) ⟨Nat.le_of_ble_eq_true rfl, Nat.le_of_ble_eq_true rfl⟩) hK hw rfl hl.1 rfl (Nat.le_of_ble_eq_true rfl) dLa_law_375 ⟨by show _ ≤ 600002; omega, by show _ ≤ 7302232; omega⟩ (fun v w1 n1 H locs hq hw => ?_)
  obtain ⟨rfl, hww⟩ := hq
  have hB : bcS cI cL cQ w1 b I J V G := by rw [hww]; exact hB
  have hM : moS cI cL w1 (b + 86) MI K S C := by rw [hww]; exact hM
  have hO : w1 (b + 95) = some (.inl (cL, 1, .inr (.inl f))) := by rw [hww]; exact hO
  refine W.eq (g2 := F0 m 378 ls [.int (nI 1)]) rfl ?_
  refine lv_istore (pc := 378) (lv' := [(5, .int (nI 1)), (4, .int (nI i)), (3, .ref (b + 95)), (2, .ref (b + 86)), (1, .ref b), (0, .ref a0)]) hx hb dLa_law_378 hl (by decide) rfl (fun ls hl => ?_)
  refine lv_aload_n (pc := 380) hx hb dLa_law_380 rfl (lv_at hl 3 rfl) ?_
  refine fw_cV (pc := 381) (As := []) (rest := []) ⟨hx, hb, hml, hown, hW⟩ (c_Mo_signS hM h6 h7 h16 hnm) (cwV 0 hW (kw_V lm_La_86 im_Mo_sign se_Mo_sign ini_Mo cd_Mo_sign) rfl rfl rfl (by decide +kernel) ⟨Nat.le_of_ble_eq_true rfl, Nat.le_of_ble_eq_true rfl⟩) hK hw hM.1 rfl rfl hl.1 rfl (Nat.le_of_ble_eq_true rfl) dLa_law_381 ⟨by show _ ≤ 600002; omega, by show _ ≤ 7302232; omega⟩ (fun v w2 H locs hq hw => ?_)
  obtain ⟨rfl, hM_, hfr⟩ := hq
  have hB := hB.kept (fun a h1 h2 => hfr a (by omega))
  have hO := (hfr _ (by omega)).trans hO
  have hM := hM_
  refine W.eq (g2 := F0 m 384 ls [.int (nI 0)]) rfl ?_
  refine lv_istore (pc := 384) (lv' := [(6, .int (nI 0)), (5, .int (nI 1)), (4, .int (nI i)), (3, .ref (b + 95)), (2, .ref (b + 86)), (1, .ref b), (0, .ref a0)]) hx hb dLa_law_384 hl (by decide) rfl (fun ls hl => ?_)
  refine lv_aload_n (pc := 386) hx hb dLa_law_386 rfl (lv_at hl 4 rfl) ?_
  refine fw_cVR (pc := 387) (As := []) (rest := []) ⟨hx, hb, hml, hown, hW⟩ (c_Mo_thrown hM) (cwV 0 hW (kw_V lm_La_58 im_Mo_thrown se_Mo_thrown ini_Mo cd_Mo_thrown) rfl rfl rfl (by decide +kernel) ⟨Nat.le_of_ble_eq_true rfl, Nat.le_of_ble_eq_true rfl⟩) hK hw hM.1 rfl rfl hl.1 rfl (Nat.le_of_ble_eq_true rfl) dLa_law_387 ⟨by show _ ≤ 600002; omega, by show _ ≤ 7302232; omega⟩ (fun v hq => ?_)
  have hq : v = some (.int (nI 1)) := hq
  subst hq
  refine W.eq (g2 := F0 m 390 ls [.int (nI 1)]) rfl ?_
  refine lv_iload (pc := 390) hx hb dLa_law_390 (lv_at hl 1 rfl) ?_
  refine lv_icmp_eq (pc := 392) (tgt := 397) hx hb dLa_law_392 (by decide) (fun _ => ?_) (fun hc => absurd rfl hc)
  refine lv_iload (pc := 397) hx hb dLa_law_397 (lv_at hl 1 rfl) ?_
  refine lv_if_ne (pc := 399) (tgt := 414) hx hb dLa_law_399 (by decide) (fun _ => ?_) (fun hc => absurd hc (show ¬ nI 1 = 0 by decide))
  refine lv_goto (pc := 414) (tgt := 609) hx hb dLa_law_414 (by decide) ?_
  refine W.widen (k := cells + 1) (n := slots + 6) (by omega) (by omega) ?_
  exact kk _ _ H locs ls _ hw hB hM hO (lv_sub hl [2, 3, 4, 5, 6] rfl)

set_option maxHeartbeats 4000000 in
set_option maxRecDepth 100000 in
theorem s_limbS (hx : p.tables.exec = Jvm.exec) (hb : c.code = code) (hown : s.vm.findClass RLa = some m.cls) (hml : c.maxLocals = 8) (hW : ∀ w ∈ kWs, w.before args s = true) (hK : kK D kCl (kty cI cL cQ) (kz tO tB tC sa) A s s.heap) (hst : l.stackTraces = false) (hX : va_X a0 L xs s s.heap) (hbl : a0 < s.heap.size) (hbA : ¬ A a0) (hL : L < 2 ^ 31) (hi : i + 4 ≤ L) (hcs : cells + 1 ≤ 600002) (hss : slots + 6 ≤ 7302232) (hw : fw_H D kCl A s.heap w n H locs) (hl : lv_has ls 8 [(4, .int (nI i)), (3, .ref (b + 95)), (2, .ref (b + 86)), (1, .ref b), (0, .ref a0)]) (hB : bcS cI cL cQ w b I J V G) (hM : moS cI cL w (b + 86) MI K S C) (hO : w (b + 95) = some (.inl (cL, 1, .inr (.inl f))))  (h1 : I 1 < 2 ^ 31) (h4 : I 4 < 2 ^ 31) (hno : ¬ (0 < I 1 ∧ I 4 = I 1)) (h6 : MI 6 < 2 ^ 31) (h7 : MI 7 < 2 ^ 31) (h16 : MI 16 < 2 ^ 31) (hnm : ¬ (0 < MI 6 ∧ MI 16 = MI 7)) (kk : ∀ (w1 : fw_W) (n1 : Nat) (H1 : Heap) (locs1 : List Loc) (ls1 : Array Slot) (f1 : Nat → Int64), fw_H D kCl A s.heap w1 n1 H1 locs1 → bcS cI cL cQ w1 b I J V G → moS cI cL w1 (b + 86) (va_up MI 0 1) K S C → w1 (b + 95) = some (.inl (cL, 1, .inr (.inl f1))) → lv_has ls1 8 [(4, .int (nI i)), (3, .ref (b + 95)), (2, .ref (b + 86)), (1, .ref b), (0, .ref a0)] → W p l e room_1 s m args below meth c H1 locs1 (cells + 1) (slots + 6) Q (F0 m 609 ls1 [])) : W p l e room_1 s m args below meth c H locs cells slots Q (F0 m 417 ls []) := by
  refine lv_aload_n (pc := 417) hx hb dLa_law_417 rfl (lv_at hl 3 rfl) ?_
  refine lv_aload_n (pc := 418) hx hb dLa_law_418 rfl (lv_at hl 4 rfl) ?_
  refine lv_iload (pc := 419) hx hb dLa_law_419 (lv_at hl 0 rfl) ?_
  refine lv_iconst (pc := 421) (v := (nI 1)) hx hb dLa_law_421 (by decide) ?_
  refine lv_iadd (pc := 422) hx hb dLa_law_422 ?_
  rw [show ((nI i + (nI 1)) : Int32) = nI (i + 1) from (nI_add i 1)]
  refine va_sld (pc := 423) hx hb hX hbl hbA hw.2.2.2.2 (vp_in_nI (show i + 1 < L by omega) hL) dLa_law_423 ?_
  rw [nI_clamp (show i + 1 < 2 ^ 31 by omega)]
  refine lv_aload_n (pc := 424) hx hb dLa_law_424 rfl (lv_at hl 1 rfl) ?_
  refine fw_cSL (pc := 425) (As := [.ref b, .int (xs (i + 1)), .ref (b + 95)]) (rest := []) (mc := 1) (ms := 6) ⟨hx, hb, hml, hown, hW⟩ (w_limbS hB hst h1 h4 hno (Or.inr (by omega)) hO) (fw_wLof 3 hW lm_La_87 sta_La_limb ini_La cd_La_limb rfl rfl (by decide +kernel) ⟨Nat.le_of_ble_eq_true rfl, Nat.le_of_ble_eq_true rfl⟩) hK hw rfl hl.1 rfl (Nat.le_of_ble_eq_true rfl) dLa_law_425 ⟨by show _ ≤ 600002; omega, by show _ ≤ 7302232; omega⟩ (fun v w1 n1 H locs hq hw => ?_)
  obtain ⟨rfl, hww⟩ := hq
  have hB : bcS cI cL cQ w1 b I J V G := by rw [hww]; exact hB
  have hM : moS cI cL w1 (b + 86) MI K S C := by rw [hww]; exact hM
  have hO : w1 (b + 95) = some (.inl (cL, 1, .inr (.inl f))) := by rw [hww]; exact hO
  refine W.eq (g2 := F0 m 428 ls [.int (nI 1)]) rfl ?_
  refine lv_istore (pc := 428) (lv' := [(5, .int (nI 1)), (4, .int (nI i)), (3, .ref (b + 95)), (2, .ref (b + 86)), (1, .ref b), (0, .ref a0)]) hx hb dLa_law_428 hl (by decide) rfl (fun ls hl => ?_)
  refine lv_aload_n (pc := 430) hx hb dLa_law_430 rfl (lv_at hl 3 rfl) ?_
  refine lv_aload_n (pc := 431) hx hb dLa_law_431 rfl (lv_at hl 5 rfl) ?_
  refine lv_iload (pc := 432) hx hb dLa_law_432 (lv_at hl 1 rfl) ?_
  refine lv_iconst (pc := 434) (v := (nI 1)) hx hb dLa_law_434 (by decide) ?_
  refine lv_iadd (pc := 435) hx hb dLa_law_435 ?_
  rw [show ((nI i + (nI 1)) : Int32) = nI (i + 1) from (nI_add i 1)]
  refine va_sld (pc := 436) hx hb hX hbl hbA hw.2.2.2.2 (vp_in_nI (show i + 1 < L by omega) hL) dLa_law_436 ?_
  rw [nI_clamp (show i + 1 < 2 ^ 31 by omega)]
  refine fw_cV (pc := 437) (As := [.int (xs (i + 1))]) (rest := []) ⟨hx, hb, hml, hown, hW⟩ (c_Mo_limbS hM h6 h7 h16 hnm) (cwV 1 hW (kw_V lm_La_89 im_Mo_limb se_Mo_limb ini_Mo cd_Mo_limb) rfl rfl rfl (by decide +kernel) ⟨Nat.le_of_ble_eq_true rfl, Nat.le_of_ble_eq_true rfl⟩) hK hw hM.1 rfl rfl hl.1 rfl (Nat.le_of_ble_eq_true rfl) dLa_law_437 ⟨by show _ ≤ 600002; omega, by show _ ≤ 7302232; omega⟩ (fun v w2 H locs hq hw => ?_)
  obtain ⟨rfl, hM_, hfr⟩ := hq
  have hB := hB.kept (fun a h1 h2 => hfr a (by omega))
  have hO := (hfr _ (by omega)).trans hO
  have hM := hM_
  refine W.eq (g2 := F0 m 440 ls [.long (lN 0)]) rfl ?_
  refine lv_lstore (pc := 440) (lv' := [(6, .long (lN 0)), (5, .int (nI 1)), (4, .int (nI i)), (3, .ref (b + 95)), (2, .ref (b + 86)), (1, .ref b), (0, .ref a0)]) hx hb dLa_law_440 hl (by decide) rfl (fun ls hl => ?_)
  refine lv_aload_n (pc := 442) hx hb dLa_law_442 rfl (lv_at hl 4 rfl) ?_
  refine fw_cVR (pc := 443) (As := []) (rest := []) ⟨hx, hb, hml, hown, hW⟩ (c_Mo_thrown hM) (cwV 0 hW (kw_V lm_La_58 im_Mo_thrown se_Mo_thrown ini_Mo cd_Mo_thrown) rfl rfl rfl (by decide +kernel) ⟨Nat.le_of_ble_eq_true rfl, Nat.le_of_ble_eq_true rfl⟩) hK hw hM.1 rfl rfl hl.1 rfl (Nat.le_of_ble_eq_true rfl) dLa_law_443 ⟨by show _ ≤ 600002; omega, by show _ ≤ 7302232; omega⟩ (fun v hq => ?_)
  have hq : v = some (.int (nI 1)) := hq
  subst hq
  refine W.eq (g2 := F0 m 446 ls [.int (nI 1)]) rfl ?_
  refine lv_iload (pc := 446) hx hb dLa_law_446 (lv_at hl 1 rfl) ?_
  refine lv_icmp_eq (pc := 448) (tgt := 453) hx hb dLa_law_448 (by decide) (fun _ => ?_) (fun hc => absurd rfl hc)
  refine lv_iload (pc := 453) hx hb dLa_law_453 (lv_at hl 1 rfl) ?_
  refine lv_if_ne (pc := 455) (tgt := 469) hx hb dLa_law_455 (by decide) (fun _ => ?_) (fun hc => absurd hc (show ¬ nI 1 = 0 by decide))
  refine lv_goto (pc := 469) (tgt := 609) hx hb dLa_law_469 (by decide) ?_
  refine W.widen (k := cells + 1) (n := slots + 6) (by omega) (by omega) ?_
  exact kk _ _ H locs ls _ hw hB hM hO (lv_sub hl [2, 3, 4, 5, 6] rfl)

set_option maxHeartbeats 4000000 in
set_option maxRecDepth 100000 in
theorem s_digitS (hx : p.tables.exec = Jvm.exec) (hb : c.code = code) (hown : s.vm.findClass RLa = some m.cls) (hml : c.maxLocals = 8) (hW : ∀ w ∈ kWs, w.before args s = true) (hK : kK D kCl (kty cI cL cQ) (kz tO tB tC sa) A s s.heap) (hst : l.stackTraces = false) (hX : va_X a0 L xs s s.heap) (hbl : a0 < s.heap.size) (hbA : ¬ A a0) (hL : L < 2 ^ 31) (hi : i + 4 ≤ L) (hcs : cells + 1 ≤ 600002) (hss : slots + 6 ≤ 7302232) (hw : fw_H D kCl A s.heap w n H locs) (hl : lv_has ls 8 [(4, .int (nI i)), (3, .ref (b + 95)), (2, .ref (b + 86)), (1, .ref b), (0, .ref a0)]) (hB : bcS cI cL cQ w b I J V G) (hM : moS cI cL w (b + 86) MI K S C) (hO : w (b + 95) = some (.inl (cL, 1, .inr (.inl f))))  (h1 : I 1 < 2 ^ 31) (h4 : I 4 < 2 ^ 31) (hno : ¬ (0 < I 1 ∧ I 4 = I 1)) (h6 : MI 6 < 2 ^ 31) (h7 : MI 7 < 2 ^ 31) (h16 : MI 16 < 2 ^ 31) (hnm : ¬ (0 < MI 6 ∧ MI 16 = MI 7)) (kk : ∀ (w1 : fw_W) (n1 : Nat) (H1 : Heap) (locs1 : List Loc) (ls1 : Array Slot) (f1 : Nat → Int64), fw_H D kCl A s.heap w1 n1 H1 locs1 → bcS cI cL cQ w1 b I J V G → moS cI cL w1 (b + 86) (va_up MI 0 1) K S C → w1 (b + 95) = some (.inl (cL, 1, .inr (.inl f1))) → lv_has ls1 8 [(4, .int (nI i)), (3, .ref (b + 95)), (2, .ref (b + 86)), (1, .ref b), (0, .ref a0)] → W p l e room_1 s m args below meth c H1 locs1 (cells + 1) (slots + 6) Q (F0 m 609 ls1 [])) : W p l e room_1 s m args below meth c H locs cells slots Q (F0 m 472 ls []) := by
  refine lv_aload_n (pc := 472) hx hb dLa_law_472 rfl (lv_at hl 3 rfl) ?_
  refine lv_aload_n (pc := 473) hx hb dLa_law_473 rfl (lv_at hl 4 rfl) ?_
  refine lv_iload (pc := 474) hx hb dLa_law_474 (lv_at hl 0 rfl) ?_
  refine lv_iconst (pc := 476) (v := (nI 1)) hx hb dLa_law_476 (by decide) ?_
  refine lv_iadd (pc := 477) hx hb dLa_law_477 ?_
  rw [show ((nI i + (nI 1)) : Int32) = nI (i + 1) from (nI_add i 1)]
  refine va_sld (pc := 478) hx hb hX hbl hbA hw.2.2.2.2 (vp_in_nI (show i + 1 < L by omega) hL) dLa_law_478 ?_
  rw [nI_clamp (show i + 1 < 2 ^ 31 by omega)]
  refine lv_aload_n (pc := 479) hx hb dLa_law_479 rfl (lv_at hl 1 rfl) ?_
  refine fw_cSL (pc := 480) (As := [.ref b, .int (xs (i + 1)), .ref (b + 95)]) (rest := []) (mc := 1) (ms := 6) ⟨hx, hb, hml, hown, hW⟩ (w_digitS hB hst h1 h4 hno (Or.inr (by omega)) hO) (fw_wLof 3 hW lm_La_90 sta_La_digit ini_La cd_La_digit rfl rfl (by decide +kernel) ⟨Nat.le_of_ble_eq_true rfl, Nat.le_of_ble_eq_true rfl⟩) hK hw rfl hl.1 rfl (Nat.le_of_ble_eq_true rfl) dLa_law_480 ⟨by show _ ≤ 600002; omega, by show _ ≤ 7302232; omega⟩ (fun v w1 n1 H locs hq hw => ?_)
  obtain ⟨rfl, hww⟩ := hq
  have hB : bcS cI cL cQ w1 b I J V G := by rw [hww]; exact hB
  have hM : moS cI cL w1 (b + 86) MI K S C := by rw [hww]; exact hM
  have hO : w1 (b + 95) = some (.inl (cL, 1, .inr (.inl f))) := by rw [hww]; exact hO
  refine W.eq (g2 := F0 m 483 ls [.int (nI 1)]) rfl ?_
  refine lv_istore (pc := 483) (lv' := [(5, .int (nI 1)), (4, .int (nI i)), (3, .ref (b + 95)), (2, .ref (b + 86)), (1, .ref b), (0, .ref a0)]) hx hb dLa_law_483 hl (by decide) rfl (fun ls hl => ?_)
  refine lv_aload_n (pc := 485) hx hb dLa_law_485 rfl (lv_at hl 3 rfl) ?_
  refine lv_aload_n (pc := 486) hx hb dLa_law_486 rfl (lv_at hl 5 rfl) ?_
  refine lv_iload (pc := 487) hx hb dLa_law_487 (lv_at hl 1 rfl) ?_
  refine lv_iconst (pc := 489) (v := (nI 1)) hx hb dLa_law_489 (by decide) ?_
  refine lv_iadd (pc := 490) hx hb dLa_law_490 ?_
  rw [show ((nI i + (nI 1)) : Int32) = nI (i + 1) from (nI_add i 1)]
  refine va_sld (pc := 491) hx hb hX hbl hbA hw.2.2.2.2 (vp_in_nI (show i + 1 < L by omega) hL) dLa_law_491 ?_
  rw [nI_clamp (show i + 1 < 2 ^ 31 by omega)]
  refine fw_cV (pc := 492) (As := [.int (xs (i + 1))]) (rest := []) ⟨hx, hb, hml, hown, hW⟩ (c_Mo_digitS hM h6 h7 h16 hnm) (cwV 1 hW (kw_V lm_La_92 im_Mo_digit se_Mo_digit ini_Mo cd_Mo_digit) rfl rfl rfl (by decide +kernel) ⟨Nat.le_of_ble_eq_true rfl, Nat.le_of_ble_eq_true rfl⟩) hK hw hM.1 rfl rfl hl.1 rfl (Nat.le_of_ble_eq_true rfl) dLa_law_492 ⟨by show _ ≤ 600002; omega, by show _ ≤ 7302232; omega⟩ (fun v w2 H locs hq hw => ?_)
  obtain ⟨rfl, hM_, hfr⟩ := hq
  have hB := hB.kept (fun a h1 h2 => hfr a (by omega))
  have hO := (hfr _ (by omega)).trans hO
  have hM := hM_
  refine W.eq (g2 := F0 m 495 ls [.int (nI 0)]) rfl ?_
  refine lv_istore (pc := 495) (lv' := [(6, .int (nI 0)), (5, .int (nI 1)), (4, .int (nI i)), (3, .ref (b + 95)), (2, .ref (b + 86)), (1, .ref b), (0, .ref a0)]) hx hb dLa_law_495 hl (by decide) rfl (fun ls hl => ?_)
  refine lv_aload_n (pc := 497) hx hb dLa_law_497 rfl (lv_at hl 4 rfl) ?_
  refine fw_cVR (pc := 498) (As := []) (rest := []) ⟨hx, hb, hml, hown, hW⟩ (c_Mo_thrown hM) (cwV 0 hW (kw_V lm_La_58 im_Mo_thrown se_Mo_thrown ini_Mo cd_Mo_thrown) rfl rfl rfl (by decide +kernel) ⟨Nat.le_of_ble_eq_true rfl, Nat.le_of_ble_eq_true rfl⟩) hK hw hM.1 rfl rfl hl.1 rfl (Nat.le_of_ble_eq_true rfl) dLa_law_498 ⟨by show _ ≤ 600002; omega, by show _ ≤ 7302232; omega⟩ (fun v hq => ?_)
  have hq : v = some (.int (nI 1)) := hq
  subst hq
  refine W.eq (g2 := F0 m 501 ls [.int (nI 1)]) rfl ?_
  refine lv_iload (pc := 501) hx hb dLa_law_501 (lv_at hl 1 rfl) ?_
  refine lv_icmp_eq (pc := 503) (tgt := 508) hx hb dLa_law_503 (by decide) (fun _ => ?_) (fun hc => absurd rfl hc)
  refine lv_iload (pc := 508) hx hb dLa_law_508 (lv_at hl 1 rfl) ?_
  refine lv_if_ne (pc := 510) (tgt := 525) hx hb dLa_law_510 (by decide) (fun _ => ?_) (fun hc => absurd hc (show ¬ nI 1 = 0 by decide))
  refine lv_goto (pc := 525) (tgt := 609) hx hb dLa_law_525 (by decide) ?_
  refine W.widen (k := cells + 1) (n := slots + 6) (by omega) (by omega) ?_
  exact kk _ _ H locs ls _ hw hB hM hO (lv_sub hl [2, 3, 4, 5, 6] rfl)

set_option maxHeartbeats 4000000 in
set_option maxRecDepth 100000 in
theorem s_limbI (hx : p.tables.exec = Jvm.exec) (hb : c.code = code) (hown : s.vm.findClass RLa = some m.cls) (hml : c.maxLocals = 8) (hW : ∀ w ∈ kWs, w.before args s = true) (hK : kK D kCl (kty cI cL cQ) (kz tO tB tC sa) A s s.heap) (hst : l.stackTraces = false) (hX : va_X a0 L xs s s.heap) (hbl : a0 < s.heap.size) (hbA : ¬ A a0) (hL : L < 2 ^ 31) (hi : i + 4 ≤ L) (hcs : cells + 1 ≤ 600002) (hss : slots + 6 ≤ 7302232) (hw : fw_H D kCl A s.heap w n H locs) (hl : lv_has ls 8 [(4, .int (nI i)), (3, .ref (b + 95)), (2, .ref (b + 86)), (1, .ref b), (0, .ref a0)]) (hB : bcS cI cL cQ w b I J V G) (hM : moS cI cL w (b + 86) MI K S C) (hO : w (b + 95) = some (.inl (cL, 1, .inr (.inl f)))) (hv : xs (i + 1) < 0 ∨ nI 24 ≤ xs (i + 1)) (hv2 : xs (i + 1) < 0 ∨ nI 23 < xs (i + 1)) (h0 : 0 < I 1) (h1 : I 1 < 2 ^ 31) (h4 : I 4 = I 1) (h6 : MI 6 < 2 ^ 31) (h7 : MI 7 < 2 ^ 31) (h16 : MI 16 < 2 ^ 31) (hnm : 0 < MI 6 ∧ MI 16 = MI 7) (kk : ∀ (w1 : fw_W) (n1 : Nat) (H1 : Heap) (locs1 : List Loc) (ls1 : Array Slot) (f1 : Nat → Int64), fw_H D kCl A s.heap w1 n1 H1 locs1 → bcS cI cL cQ w1 b I J V G → moS cI cL w1 (b + 86) (va_up MI 0 2) K S C → w1 (b + 95) = some (.inl (cL, 1, .inr (.inl f1))) → lv_has ls1 8 [(4, .int (nI i)), (3, .ref (b + 95)), (2, .ref (b + 86)), (1, .ref b), (0, .ref a0)] → W p l e room_1 s m args below meth c H1 locs1 (cells + 1) (slots + 6) Q (F0 m 609 ls1 [])) : W p l e room_1 s m args below meth c H locs cells slots Q (F0 m 417 ls []) := by
  refine lv_aload_n (pc := 417) hx hb dLa_law_417 rfl (lv_at hl 3 rfl) ?_
  refine lv_aload_n (pc := 418) hx hb dLa_law_418 rfl (lv_at hl 4 rfl) ?_
  refine lv_iload (pc := 419) hx hb dLa_law_419 (lv_at hl 0 rfl) ?_
  refine lv_iconst (pc := 421) (v := (nI 1)) hx hb dLa_law_421 (by decide) ?_
  refine lv_iadd (pc := 422) hx hb dLa_law_422 ?_
  rw [show ((nI i + (nI 1)) : Int32) = nI (i + 1) from (nI_add i 1)]
  refine va_sld (pc := 423) hx hb hX hbl hbA hw.2.2.2.2 (vp_in_nI (show i + 1 < L by omega) hL) dLa_law_423 ?_
  rw [nI_clamp (show i + 1 < 2 ^ 31 by omega)]
  refine lv_aload_n (pc := 424) hx hb dLa_law_424 rfl (lv_at hl 1 rfl) ?_
  refine fw_cSL (pc := 425) (As := [.ref b, .int (xs (i + 1)), .ref (b + 95)]) (rest := []) (mc := 1) (ms := 6) ⟨hx, hb, hml, hown, hW⟩ (w_limbI hB hst hv h0 h1 h4 (Or.inr (by omega)) hO) (fw_wLof 3 hW lm_La_87 sta_La_limb ini_La cd_La_limb rfl rfl (by decide +kernel) ⟨Nat.le_of_ble_eq_true rfl, Nat.le_of_ble_eq_true rfl⟩) hK hw rfl hl.1 rfl (Nat.le_of_ble_eq_true rfl) dLa_law_425 ⟨by show _ ≤ 600002; omega, by show _ ≤ 7302232; omega⟩ (fun v w1 n1 H locs hq hw => ?_)
  obtain ⟨rfl, hww⟩ := hq
  have hB : bcS cI cL cQ w1 b I J V G := by rw [hww]; exact hB
  have hM : moS cI cL w1 (b + 86) MI K S C := by rw [hww]; exact hM
  have hO : w1 (b + 95) = some (.inl (cL, 1, .inr (.inl f))) := by rw [hww]; exact hO
  refine W.eq (g2 := F0 m 428 ls [.int (nI 2)]) rfl ?_
  refine lv_istore (pc := 428) (lv' := [(5, .int (nI 2)), (4, .int (nI i)), (3, .ref (b + 95)), (2, .ref (b + 86)), (1, .ref b), (0, .ref a0)]) hx hb dLa_law_428 hl (by decide) rfl (fun ls hl => ?_)
  refine lv_aload_n (pc := 430) hx hb dLa_law_430 rfl (lv_at hl 3 rfl) ?_
  refine lv_aload_n (pc := 431) hx hb dLa_law_431 rfl (lv_at hl 5 rfl) ?_
  refine lv_iload (pc := 432) hx hb dLa_law_432 (lv_at hl 1 rfl) ?_
  refine lv_iconst (pc := 434) (v := (nI 1)) hx hb dLa_law_434 (by decide) ?_
  refine lv_iadd (pc := 435) hx hb dLa_law_435 ?_
  rw [show ((nI i + (nI 1)) : Int32) = nI (i + 1) from (nI_add i 1)]
  refine va_sld (pc := 436) hx hb hX hbl hbA hw.2.2.2.2 (vp_in_nI (show i + 1 < L by omega) hL) dLa_law_436 ?_
  rw [nI_clamp (show i + 1 < 2 ^ 31 by omega)]
  refine fw_cV (pc := 437) (As := [.int (xs (i + 1))]) (rest := []) ⟨hx, hb, hml, hown, hW⟩ (c_Mo_limbI hM hv2 h6 h7 h16 hnm) (cwV 1 hW (kw_V lm_La_89 im_Mo_limb se_Mo_limb ini_Mo cd_Mo_limb) rfl rfl rfl (by decide +kernel) ⟨Nat.le_of_ble_eq_true rfl, Nat.le_of_ble_eq_true rfl⟩) hK hw hM.1 rfl rfl hl.1 rfl (Nat.le_of_ble_eq_true rfl) dLa_law_437 ⟨by show _ ≤ 600002; omega, by show _ ≤ 7302232; omega⟩ (fun v w2 H locs hq hw => ?_)
  obtain ⟨rfl, hM_, hfr⟩ := hq
  have hB := hB.kept (fun a h1 h2 => hfr a (by omega))
  have hO := (hfr _ (by omega)).trans hO
  have hM := hM_
  refine W.eq (g2 := F0 m 440 ls [.long (lN 0)]) rfl ?_
  refine lv_lstore (pc := 440) (lv' := [(6, .long (lN 0)), (5, .int (nI 2)), (4, .int (nI i)), (3, .ref (b + 95)), (2, .ref (b + 86)), (1, .ref b), (0, .ref a0)]) hx hb dLa_law_440 hl (by decide) rfl (fun ls hl => ?_)
  refine lv_aload_n (pc := 442) hx hb dLa_law_442 rfl (lv_at hl 4 rfl) ?_
  refine fw_cVR (pc := 443) (As := []) (rest := []) ⟨hx, hb, hml, hown, hW⟩ (c_Mo_thrown hM) (cwV 0 hW (kw_V lm_La_58 im_Mo_thrown se_Mo_thrown ini_Mo cd_Mo_thrown) rfl rfl rfl (by decide +kernel) ⟨Nat.le_of_ble_eq_true rfl, Nat.le_of_ble_eq_true rfl⟩) hK hw hM.1 rfl rfl hl.1 rfl (Nat.le_of_ble_eq_true rfl) dLa_law_443 ⟨by show _ ≤ 600002; omega, by show _ ≤ 7302232; omega⟩ (fun v hq => ?_)
  have hq : v = some (.int (nI 2)) := hq
  subst hq
  refine W.eq (g2 := F0 m 446 ls [.int (nI 2)]) rfl ?_
  refine lv_iload (pc := 446) hx hb dLa_law_446 (lv_at hl 1 rfl) ?_
  refine lv_icmp_eq (pc := 448) (tgt := 453) hx hb dLa_law_448 (by decide) (fun _ => ?_) (fun hc => absurd rfl hc)
  refine lv_iload (pc := 453) hx hb dLa_law_453 (lv_at hl 1 rfl) ?_
  refine lv_if_ne (pc := 455) (tgt := 469) hx hb dLa_law_455 (by decide) (fun _ => ?_) (fun hc => absurd hc (show ¬ nI 2 = 0 by decide))
  refine lv_goto (pc := 469) (tgt := 609) hx hb dLa_law_469 (by decide) ?_
  refine W.widen (k := cells + 1) (n := slots + 6) (by omega) (by omega) ?_
  exact kk _ _ H locs ls _ hw hB hM hO (lv_sub hl [2, 3, 4, 5, 6] rfl)

set_option maxHeartbeats 4000000 in
set_option maxRecDepth 100000 in
theorem s_digitI (hx : p.tables.exec = Jvm.exec) (hb : c.code = code) (hown : s.vm.findClass RLa = some m.cls) (hml : c.maxLocals = 8) (hW : ∀ w ∈ kWs, w.before args s = true) (hK : kK D kCl (kty cI cL cQ) (kz tO tB tC sa) A s s.heap) (hst : l.stackTraces = false) (hX : va_X a0 L xs s s.heap) (hbl : a0 < s.heap.size) (hbA : ¬ A a0) (hL : L < 2 ^ 31) (hi : i + 4 ≤ L) (hcs : cells + 1 ≤ 600002) (hss : slots + 6 ≤ 7302232) (hw : fw_H D kCl A s.heap w n H locs) (hl : lv_has ls 8 [(4, .int (nI i)), (3, .ref (b + 95)), (2, .ref (b + 86)), (1, .ref b), (0, .ref a0)]) (hB : bcS cI cL cQ w b I J V G) (hM : moS cI cL w (b + 86) MI K S C) (hO : w (b + 95) = some (.inl (cL, 1, .inr (.inl f)))) (hv : xs (i + 1) < 0) (h0 : 0 < I 1) (h1 : I 1 < 2 ^ 31) (h4 : I 4 = I 1) (h6 : MI 6 < 2 ^ 31) (h7 : MI 7 < 2 ^ 31) (h16 : MI 16 < 2 ^ 31) (hnm : 0 < MI 6 ∧ MI 16 = MI 7) (kk : ∀ (w1 : fw_W) (n1 : Nat) (H1 : Heap) (locs1 : List Loc) (ls1 : Array Slot) (f1 : Nat → Int64), fw_H D kCl A s.heap w1 n1 H1 locs1 → bcS cI cL cQ w1 b I J V G → moS cI cL w1 (b + 86) (va_up MI 0 2) K S C → w1 (b + 95) = some (.inl (cL, 1, .inr (.inl f1))) → lv_has ls1 8 [(4, .int (nI i)), (3, .ref (b + 95)), (2, .ref (b + 86)), (1, .ref b), (0, .ref a0)] → W p l e room_1 s m args below meth c H1 locs1 (cells + 1) (slots + 6) Q (F0 m 609 ls1 [])) : W p l e room_1 s m args below meth c H locs cells slots Q (F0 m 472 ls []) := by
  refine lv_aload_n (pc := 472) hx hb dLa_law_472 rfl (lv_at hl 3 rfl) ?_
  refine lv_aload_n (pc := 473) hx hb dLa_law_473 rfl (lv_at hl 4 rfl) ?_
  refine lv_iload (pc := 474) hx hb dLa_law_474 (lv_at hl 0 rfl) ?_
  refine lv_iconst (pc := 476) (v := (nI 1)) hx hb dLa_law_476 (by decide) ?_
  refine lv_iadd (pc := 477) hx hb dLa_law_477 ?_
  rw [show ((nI i + (nI 1)) : Int32) = nI (i + 1) from (nI_add i 1)]
  refine va_sld (pc := 478) hx hb hX hbl hbA hw.2.2.2.2 (vp_in_nI (show i + 1 < L by omega) hL) dLa_law_478 ?_
  rw [nI_clamp (show i + 1 < 2 ^ 31 by omega)]
  refine lv_aload_n (pc := 479) hx hb dLa_law_479 rfl (lv_at hl 1 rfl) ?_
  refine fw_cSL (pc := 480) (As := [.ref b, .int (xs (i + 1)), .ref (b + 95)]) (rest := []) (mc := 1) (ms := 6) ⟨hx, hb, hml, hown, hW⟩ (w_digitI hB hst hv h0 h1 h4 (Or.inr (by omega)) hO) (fw_wLof 3 hW lm_La_90 sta_La_digit ini_La cd_La_digit rfl rfl (by decide +kernel) ⟨Nat.le_of_ble_eq_true rfl, Nat.le_of_ble_eq_true rfl⟩) hK hw rfl hl.1 rfl (Nat.le_of_ble_eq_true rfl) dLa_law_480 ⟨by show _ ≤ 600002; omega, by show _ ≤ 7302232; omega⟩ (fun v w1 n1 H locs hq hw => ?_)
  obtain ⟨rfl, hww⟩ := hq
  have hB : bcS cI cL cQ w1 b I J V G := by rw [hww]; exact hB
  have hM : moS cI cL w1 (b + 86) MI K S C := by rw [hww]; exact hM
  have hO : w1 (b + 95) = some (.inl (cL, 1, .inr (.inl f))) := by rw [hww]; exact hO
  refine W.eq (g2 := F0 m 483 ls [.int (nI 2)]) rfl ?_
  refine lv_istore (pc := 483) (lv' := [(5, .int (nI 2)), (4, .int (nI i)), (3, .ref (b + 95)), (2, .ref (b + 86)), (1, .ref b), (0, .ref a0)]) hx hb dLa_law_483 hl (by decide) rfl (fun ls hl => ?_)
  refine lv_aload_n (pc := 485) hx hb dLa_law_485 rfl (lv_at hl 3 rfl) ?_
  refine lv_aload_n (pc := 486) hx hb dLa_law_486 rfl (lv_at hl 5 rfl) ?_
  refine lv_iload (pc := 487) hx hb dLa_law_487 (lv_at hl 1 rfl) ?_
  refine lv_iconst (pc := 489) (v := (nI 1)) hx hb dLa_law_489 (by decide) ?_
  refine lv_iadd (pc := 490) hx hb dLa_law_490 ?_
  rw [show ((nI i + (nI 1)) : Int32) = nI (i + 1) from (nI_add i 1)]
  refine va_sld (pc := 491) hx hb hX hbl hbA hw.2.2.2.2 (vp_in_nI (show i + 1 < L by omega) hL) dLa_law_491 ?_
  rw [nI_clamp (show i + 1 < 2 ^ 31 by omega)]
  refine fw_cV (pc := 492) (As := [.int (xs (i + 1))]) (rest := []) ⟨hx, hb, hml, hown, hW⟩ (c_Mo_digitI hM hv h6 h7 h16 hnm) (cwV 1 hW (kw_V lm_La_92 im_Mo_digit se_Mo_digit ini_Mo cd_Mo_digit) rfl rfl rfl (by decide +kernel) ⟨Nat.le_of_ble_eq_true rfl, Nat.le_of_ble_eq_true rfl⟩) hK hw hM.1 rfl rfl hl.1 rfl (Nat.le_of_ble_eq_true rfl) dLa_law_492 ⟨by show _ ≤ 600002; omega, by show _ ≤ 7302232; omega⟩ (fun v w2 H locs hq hw => ?_)
  obtain ⟨rfl, hM_, hfr⟩ := hq
  have hB := hB.kept (fun a h1 h2 => hfr a (by omega))
  have hO := (hfr _ (by omega)).trans hO
  have hM := hM_
  refine W.eq (g2 := F0 m 495 ls [.int (nI 0)]) rfl ?_
  refine lv_istore (pc := 495) (lv' := [(6, .int (nI 0)), (5, .int (nI 2)), (4, .int (nI i)), (3, .ref (b + 95)), (2, .ref (b + 86)), (1, .ref b), (0, .ref a0)]) hx hb dLa_law_495 hl (by decide) rfl (fun ls hl => ?_)
  refine lv_aload_n (pc := 497) hx hb dLa_law_497 rfl (lv_at hl 4 rfl) ?_
  refine fw_cVR (pc := 498) (As := []) (rest := []) ⟨hx, hb, hml, hown, hW⟩ (c_Mo_thrown hM) (cwV 0 hW (kw_V lm_La_58 im_Mo_thrown se_Mo_thrown ini_Mo cd_Mo_thrown) rfl rfl rfl (by decide +kernel) ⟨Nat.le_of_ble_eq_true rfl, Nat.le_of_ble_eq_true rfl⟩) hK hw hM.1 rfl rfl hl.1 rfl (Nat.le_of_ble_eq_true rfl) dLa_law_498 ⟨by show _ ≤ 600002; omega, by show _ ≤ 7302232; omega⟩ (fun v hq => ?_)
  have hq : v = some (.int (nI 2)) := hq
  subst hq
  refine W.eq (g2 := F0 m 501 ls [.int (nI 2)]) rfl ?_
  refine lv_iload (pc := 501) hx hb dLa_law_501 (lv_at hl 1 rfl) ?_
  refine lv_icmp_eq (pc := 503) (tgt := 508) hx hb dLa_law_503 (by decide) (fun _ => ?_) (fun hc => absurd rfl hc)
  refine lv_iload (pc := 508) hx hb dLa_law_508 (lv_at hl 1 rfl) ?_
  refine lv_if_ne (pc := 510) (tgt := 525) hx hb dLa_law_510 (by decide) (fun _ => ?_) (fun hc => absurd hc (show ¬ nI 2 = 0 by decide))
  refine lv_goto (pc := 525) (tgt := 609) hx hb dLa_law_525 (by decide) ?_
  refine W.widen (k := cells + 1) (n := slots + 6) (by omega) (by omega) ?_
  exact kk _ _ H locs ls _ hw hB hM hO (lv_sub hl [2, 3, 4, 5, 6] rfl)
end LAW1
