def sgz (a : Int) : Nat := if a < 0 then 1 else 0
theorem sgz_wv {sg x : Nat} (hs : sg < 2) (hp : sg = 1 → 0 < x) : sgz (wv sg x) = sg := by
  unfold sgz wv
  rcases (show sg = 0 ∨ sg = 1 by omega) with rfl | rfl
  · rw [if_pos (show (0 : Nat) = 0 from rfl), if_neg (by omega)]
  · have := hp rfl
    rw [if_neg (show ¬ (1 : Nat) = 0 by decide), if_pos (by omega)]
theorem wv_mul {s t x y : Nat} (hs : s < 2) (ht : t < 2) : wv s x * wv t y = wv (if s = t then 0 else 1) (x * y) := by
  rcases (show s = 0 ∨ s = 1 by omega) with rfl | rfl <;> rcases (show t = 0 ∨ t = 1 by omega) with rfl | rfl
  · rw [if_pos rfl, wv_0, wv_0, wv_0, Int.natCast_mul]
  · rw [if_neg (by decide), wv_0, wv_1, wv_1, Int.natCast_mul, Int.mul_neg]
  · rw [if_neg (by decide), wv_0, wv_1, wv_1, Int.natCast_mul, Int.neg_mul]
  · rw [if_pos rfl, wv_1, wv_1, wv_0, Int.natCast_mul, Int.neg_mul_neg]
theorem wv_z0 {sg x : Nat} (hs : sg < 2) : wv sg x = 0 ↔ x = 0 := by
  unfold wv; split <;> omega
/-- what is left over when a is divided by b, of b's sign: its magnitude -/
def rmg (a b : Int) : Nat := if sgz a = sgz b ∨ a.natAbs % b.natAbs = 0 then a.natAbs % b.natAbs else b.natAbs - a.natAbs % b.natAbs
def sQuo (a b : Int) : Nat × Int := if b = 0 then (2, a) else (0, wv (if sgz a = sgz b then 0 else 1) (a.natAbs / b.natAbs + if sgz a = sgz b ∨ a.natAbs % b.natAbs = 0 then 0 else 1))
def sRst (a b : Int) : Nat × Int := if b = 0 then (2, a) else (0, wv (sgz b) (rmg a b))
theorem quo_le {x y L : Nat} (hy : 0 < y) (hx : x < L) (hL : 1 < L) : x / y + (if x % y = 0 then 0 else 1) < L := by
  have h1 := Nat.div_add_mod x y
  have h2 : x / y ≤ y * (x / y) := Nat.le_mul_of_pos_left _ hy
  split
  · omega
  · omega
theorem rmg_lt {a b : Int} (hb : b ≠ 0) : rmg a b < b.natAbs := by
  have h0 : 0 < b.natAbs := by omega
  have h1 := Nat.mod_lt a.natAbs h0
  unfold rmg
  split
  · exact h1
  · omega
/-! BigCalculator.Arithmetic, second part. Written by wip/gen/arith2.py. -/
section AR2
variable {l : Launch} {D : va_G} {cI cL cQ : ClassId} {z : kZ_T} {sz : Nat} {w : fw_W}
set_option maxHeartbeats 4000000 in
set_option maxRecDepth 100000 in
theorem c_Ar_add {ar qa qb : Nat} {a b : Int} (hA : arS cL w ar) (ha : isI cL w qa a) (hb2 : isI cL w qb b) (hpa : qa + 2 < ar ∨ ar + 15 < qa) (hpb : qb + 2 < ar ∨ ar + 15 < qb) (hab : qa + 2 < qb ∨ qb + 2 < qa) (ha7 : a.natAbs < 2 ^ 768) (hb7 : b.natAbs < 2 ^ 768) : fw_C l yAr_add (Cond.code yAr_add cAr_add 3 (some FieldType.int) :: kWs) ({ frames := 4, cells := 0, slots := 0, locals := 85 } : Room) D kCl (kty cI cL cQ) z [.ref ar, .ref qa, .ref qb] (sz) w 0 0 (fun v w' => v = some (.int (nI (sFit (a + b) a).1)) ∧ isI cL w' qa (sFit (a + b) a).2 ∧ arS cL w' ar ∧ ∀ q, q < ar ∨ ar + 16 ≤ q → q < qa ∨ qa + 3 ≤ q → w' q = w q) := by
  refine fw_ofW (cc := cAr_add) (maxL := 3) (ret := (some FieldType.int)) (by decide) rfl (Nat.le_of_ble_eq_true rfl) ?_
  intro p e s m args below meth c hx hb hr hts hown hlocks hname hml hK H ls hw hl
  have hW : ∀ w ∈ kWs, w.before args s = true := fun w h => hts w (List.mem_cons_of_mem _ h)
  have hown : s.vm.findClass RAr = some m.cls := hown
  have hl : lv_has ls 3 [(0, .ref ar), (1, .ref qa), (2, .ref qb)] := hl
  obtain ⟨A0, A1, ⟨e_q, Aq⟩, ⟨er, Ar9⟩, ⟨ed, Ad⟩, Ao, ⟨eo, Au⟩, ⟨ep, Ap⟩, ⟨eb, Ab⟩⟩ := id hA
  obtain ⟨sg, x, as, ap, ah, av, ae⟩ := id ha
  have hx7 : x < 2 ^ 768 := by rw [← wv_abs sg x, ae]; exact ha7
  obtain ⟨sg2, y, bs, bp, bh, bv, be⟩ := id hb2
  have hy7 : y < 2 ^ 768 := by rw [← wv_abs sg2 y, be]; exact hb7
  refine lv_aload_n (pc := 0) hx hb dAr_add_0 rfl (lv_at hl 0 rfl) ?_
  refine lv_aload_n (pc := 1) hx hb dAr_add_1 rfl (lv_at hl 1 rfl) ?_
  refine lv_aload_n (pc := 2) hx hb dAr_add_2 rfl (lv_at hl 2 rfl) ?_
  refine fw_get (pc := 3) (ci := 8) (v := .ref (qb + 1)) (C := RWh) (T := TWh) (N := 2) hx hb hW in_Wh hown hK.1 hw bh rfl 0 (by decide) (hW _ lf_Ar_38) (fun _ h => h) rfl dAr_add_3 ?_
  refine lv_aload_n (pc := 6) hx hb dAr_add_6 rfl (lv_at hl 2 rfl) ?_
  refine fw_get (pc := 7) (ci := 8) (v := .int (nI sg2)) (C := RWh) (T := TWh) (N := 2) hx hb hW in_Wh hown hK.1 hw bh rfl 1 (by decide) (hW _ lf_Ar_43) (fun _ h => h) rfl dAr_add_7 ?_
  refine fw_cV (pc := 10) (As := [.ref qa, .ref (qb + 1), .int (nI sg2)]) (rest := []) ⟨hx, hb, hml, hown, hW⟩ (c_Ar_addSigned bs hA ha bv (by omega) (by omega) (by omega) ha7 hy7) (cwV 3 hW (kw_V lm_Ar_47 im_Ar_addSigned se_Ar_addSigned ini_Ar cd_Ar_addSigned) rfl rfl rfl (by decide +kernel) ⟨Nat.le_of_ble_eq_true rfl, Nat.le_of_ble_eq_true rfl⟩) hK hw A0 rfl rfl hl.1 rfl (Nat.le_of_ble_eq_true rfl) dAr_add_10 ⟨Nat.le_of_ble_eq_true rfl, Nat.le_of_ble_eq_true rfl⟩ (fun v w1 H locs hq hw => ?_)
  obtain ⟨rfl, hI, hA2, hF⟩ := hq
  refine W.eq (g2 := F0 m 13 ls [.int (nI (sFit (a + wv sg2 y) a).1)]) rfl ?_
  exact fw_iret (pc := 13) hx hb hr hlocks hw dAr_add_13 ⟨by rw [be], by rw [← be]; exact hI, hA2, hF⟩

set_option maxHeartbeats 4000000 in
set_option maxRecDepth 100000 in
theorem c_Ar_subtract {ar qa qb : Nat} {a b : Int} (hA : arS cL w ar) (ha : isI cL w qa a) (hb2 : isI cL w qb b) (hpa : qa + 2 < ar ∨ ar + 15 < qa) (hpb : qb + 2 < ar ∨ ar + 15 < qb) (hab : qa + 2 < qb ∨ qb + 2 < qa) (ha7 : a.natAbs < 2 ^ 768) (hb7 : b.natAbs < 2 ^ 768) : fw_C l yAr_subtract (Cond.code yAr_subtract cAr_subtract 3 (some FieldType.int) :: kWs) ({ frames := 4, cells := 0, slots := 0, locals := 85 } : Room) D kCl (kty cI cL cQ) z [.ref ar, .ref qa, .ref qb] (sz) w 0 0 (fun v w' => v = some (.int (nI (sFit (a - b) a).1)) ∧ isI cL w' qa (sFit (a - b) a).2 ∧ arS cL w' ar ∧ ∀ q, q < ar ∨ ar + 16 ≤ q → q < qa ∨ qa + 3 ≤ q → w' q = w q) := by
  refine fw_ofW (cc := cAr_subtract) (maxL := 3) (ret := (some FieldType.int)) (by decide) rfl (Nat.le_of_ble_eq_true rfl) ?_
  intro p e s m args below meth c hx hb hr hts hown hlocks hname hml hK H ls hw hl
  have hW : ∀ w ∈ kWs, w.before args s = true := fun w h => hts w (List.mem_cons_of_mem _ h)
  have hown : s.vm.findClass RAr = some m.cls := hown
  have hl : lv_has ls 3 [(0, .ref ar), (1, .ref qa), (2, .ref qb)] := hl
  obtain ⟨A0, A1, ⟨e_q, Aq⟩, ⟨er, Ar9⟩, ⟨ed, Ad⟩, Ao, ⟨eo, Au⟩, ⟨ep, Ap⟩, ⟨eb, Ab⟩⟩ := id hA
  obtain ⟨sg, x, as, ap, ah, av, ae⟩ := id ha
  have hx7 : x < 2 ^ 768 := by rw [← wv_abs sg x, ae]; exact ha7
  obtain ⟨sg2, y, bs, bp, bh, bv, be⟩ := id hb2
  have hy7 : y < 2 ^ 768 := by rw [← wv_abs sg2 y, be]; exact hb7
  rcases (show sg2 = 0 ∨ sg2 = 1 by omega) with rfl | rfl
  · refine lv_aload_n (pc := 0) hx hb dAr_subtract_0 rfl (lv_at hl 0 rfl) ?_
    refine lv_aload_n (pc := 1) hx hb dAr_subtract_1 rfl (lv_at hl 1 rfl) ?_
    refine lv_aload_n (pc := 2) hx hb dAr_subtract_2 rfl (lv_at hl 2 rfl) ?_
    refine fw_get (pc := 3) (ci := 8) (v := .ref (qb + 1)) (C := RWh) (T := TWh) (N := 2) hx hb hW in_Wh hown hK.1 hw bh rfl 0 (by decide) (hW _ lf_Ar_38) (fun _ h => h) rfl dAr_subtract_3 ?_
    refine lv_aload_n (pc := 6) hx hb dAr_subtract_6 rfl (lv_at hl 2 rfl) ?_
    refine fw_get (pc := 7) (ci := 8) (v := .int (nI 0)) (C := RWh) (T := TWh) (N := 2) hx hb hW in_Wh hown hK.1 hw bh rfl 1 (by decide) (hW _ lf_Ar_43) (fun _ h => h) rfl dAr_subtract_7 ?_
    refine lv_if_ne (pc := 10) (tgt := 17) hx hb dAr_subtract_10 (by decide) (fun hc => absurd hc (fun h => h (by decide))) (fun _ => ?_)
    refine lv_iconst (pc := 13) (v := (nI 1)) hx hb dAr_subtract_13 (by decide) ?_
    refine lv_goto (pc := 14) (tgt := 18) hx hb dAr_subtract_14 (by decide) ?_
    refine fw_cV (pc := 18) (As := [.ref qa, .ref (qb + 1), .int (nI 1)]) (rest := []) ⟨hx, hb, hml, hown, hW⟩ (c_Ar_addSigned (sg2 := 1) (by decide) hA ha bv (by omega) (by omega) (by omega) ha7 hy7) (cwV 3 hW (kw_V lm_Ar_47 im_Ar_addSigned se_Ar_addSigned ini_Ar cd_Ar_addSigned) rfl rfl rfl (by decide +kernel) ⟨Nat.le_of_ble_eq_true rfl, Nat.le_of_ble_eq_true rfl⟩) hK hw A0 rfl rfl hl.1 rfl (Nat.le_of_ble_eq_true rfl) dAr_subtract_18 ⟨Nat.le_of_ble_eq_true rfl, Nat.le_of_ble_eq_true rfl⟩ (fun v w1 H locs hq hw => ?_)
    obtain ⟨rfl, hI, hA2, hF⟩ := hq
    have hd9 : a - b = a + wv 1 y := by rw [← be, wv_0, wv_1]; omega
    refine W.eq (g2 := F0 m 21 ls [.int (nI (sFit (a + wv 1 y) a).1)]) rfl ?_
    exact fw_iret (pc := 21) hx hb hr hlocks hw dAr_subtract_21 ⟨by rw [hd9], by rw [hd9]; exact hI, hA2, hF⟩
  · refine lv_aload_n (pc := 0) hx hb dAr_subtract_0 rfl (lv_at hl 0 rfl) ?_
    refine lv_aload_n (pc := 1) hx hb dAr_subtract_1 rfl (lv_at hl 1 rfl) ?_
    refine lv_aload_n (pc := 2) hx hb dAr_subtract_2 rfl (lv_at hl 2 rfl) ?_
    refine fw_get (pc := 3) (ci := 8) (v := .ref (qb + 1)) (C := RWh) (T := TWh) (N := 2) hx hb hW in_Wh hown hK.1 hw bh rfl 0 (by decide) (hW _ lf_Ar_38) (fun _ h => h) rfl dAr_subtract_3 ?_
    refine lv_aload_n (pc := 6) hx hb dAr_subtract_6 rfl (lv_at hl 2 rfl) ?_
    refine fw_get (pc := 7) (ci := 8) (v := .int (nI 1)) (C := RWh) (T := TWh) (N := 2) hx hb hW in_Wh hown hK.1 hw bh rfl 1 (by decide) (hW _ lf_Ar_43) (fun _ h => h) rfl dAr_subtract_7 ?_
    refine lv_if_ne (pc := 10) (tgt := 17) hx hb dAr_subtract_10 (by decide) (fun _ => ?_) (fun hc => absurd hc (show ¬ nI 1 = 0 by decide))
    refine lv_iconst (pc := 17) (v := (nI 0)) hx hb dAr_subtract_17 (by decide) ?_
    refine fw_cV (pc := 18) (As := [.ref qa, .ref (qb + 1), .int (nI 0)]) (rest := []) ⟨hx, hb, hml, hown, hW⟩ (c_Ar_addSigned (sg2 := 0) (by decide) hA ha bv (by omega) (by omega) (by omega) ha7 hy7) (cwV 3 hW (kw_V lm_Ar_47 im_Ar_addSigned se_Ar_addSigned ini_Ar cd_Ar_addSigned) rfl rfl rfl (by decide +kernel) ⟨Nat.le_of_ble_eq_true rfl, Nat.le_of_ble_eq_true rfl⟩) hK hw A0 rfl rfl hl.1 rfl (Nat.le_of_ble_eq_true rfl) dAr_subtract_18 ⟨Nat.le_of_ble_eq_true rfl, Nat.le_of_ble_eq_true rfl⟩ (fun v w2 H locs hq hw => ?_)
    obtain ⟨rfl, hI, hA2, hF⟩ := hq
    have hd9 : a - b = a + wv 0 y := by rw [← be, wv_0, wv_1]; omega
    refine W.eq (g2 := F0 m 21 ls [.int (nI (sFit (a + wv 0 y) a).1)]) rfl ?_
    exact fw_iret (pc := 21) hx hb hr hlocks hw dAr_subtract_21 ⟨by rw [hd9], by rw [hd9]; exact hI, hA2, hF⟩

set_option maxHeartbeats 4000000 in
set_option maxRecDepth 100000 in
theorem c_Ar_multiply {ar qa qb : Nat} {a b : Int} (hA : arS cL w ar) (ha : isI cL w qa a) (hb2 : isI cL w qb b) (hpa : qa + 2 < ar ∨ ar + 15 < qa) (hpb : qb + 2 < ar ∨ ar + 15 < qb) (hab : qa + 2 < qb ∨ qb + 2 < qa) (ha7 : a.natAbs < 2 ^ 768) (hb7 : b.natAbs < 2 ^ 768) : fw_C l yAr_multiply (Cond.code yAr_multiply cAr_multiply 3 (some FieldType.int) :: kWs) ({ frames := 3, cells := 0, slots := 0, locals := 61 } : Room) D kCl (kty cI cL cQ) z [.ref ar, .ref qa, .ref qb] (sz) w 0 0 (fun v w' => v = some (.int (nI (sFit (a * b) a).1)) ∧ isI cL w' qa (sFit (a * b) a).2 ∧ arS cL w' ar ∧ ∀ q, q < ar ∨ ar + 16 ≤ q → q < qa ∨ qa + 3 ≤ q → w' q = w q) := by
  refine fw_ofW (cc := cAr_multiply) (maxL := 3) (ret := (some FieldType.int)) (by decide) rfl (Nat.le_of_ble_eq_true rfl) ?_
  intro p e s m args below meth c hx hb hr hts hown hlocks hname hml hK H ls hw hl
  have hW : ∀ w ∈ kWs, w.before args s = true := fun w h => hts w (List.mem_cons_of_mem _ h)
  have hown : s.vm.findClass RAr = some m.cls := hown
  have hl : lv_has ls 3 [(0, .ref ar), (1, .ref qa), (2, .ref qb)] := hl
  obtain ⟨A0, A1, ⟨e_q, Aq⟩, ⟨er, Ar9⟩, ⟨ed, Ad⟩, Ao, ⟨eo, Au⟩, ⟨ep, Ap⟩, ⟨eb, Ab⟩⟩ := id hA
  obtain ⟨sg, x, as, ap, ah, av, ae⟩ := id ha
  have hx7 : x < 2 ^ 768 := by rw [← wv_abs sg x, ae]; exact ha7
  obtain ⟨sg2, y, bs, bp, bh, bv, be⟩ := id hb2
  have hy7 : y < 2 ^ 768 := by rw [← wv_abs sg2 y, be]; exact hb7
  have p25 : 2 ^ 768 < nB ^ 25 := by decide +kernel
  refine lv_aload_n (pc := 0) hx hb dAr_multiply_0 rfl (lv_at hl 0 rfl) ?_
  refine fw_get (pc := 1) (ci := 0) (v := .ref (ar + 12)) (C := RAr) (T := TAr) (N := 5) hx hb hW in_Ar hown hK.1 hw A0 rfl 3 (by decide) (hW _ lf_Ar_32) (fun _ h => h) rfl dAr_multiply_1 ?_
  refine lv_aload_n (pc := 4) hx hb dAr_multiply_4 rfl (lv_at hl 1 rfl) ?_
  refine fw_get (pc := 5) (ci := 8) (v := .ref (qa + 1)) (C := RWh) (T := TWh) (N := 2) hx hb hW in_Wh hown hK.1 hw ah rfl 0 (by decide) (hW _ lf_Ar_38) (fun _ h => h) rfl dAr_multiply_5 ?_
  refine lv_aload_n (pc := 8) hx hb dAr_multiply_8 rfl (lv_at hl 2 rfl) ?_
  refine fw_get (pc := 9) (ci := 8) (v := .ref (qb + 1)) (C := RWh) (T := TWh) (N := 2) hx hb hW in_Wh hown hK.1 hw bh rfl 0 (by decide) (hW _ lf_Ar_38) (fun _ h => h) rfl dAr_multiply_9 ?_
  obtain ⟨k1, o1⟩ := Ap.ob
  refine fw_cV (pc := 12) (As := [.ref (qa + 1), .ref (qb + 1)]) (rest := []) ⟨hx, hb, hml, hown, hW⟩ (c_Na_becomeProduct (by omega) (by omega) Ap av bv (Nat.lt_trans hx7 p25) (Nat.lt_trans hy7 p25)) (cwV 2 hW (kw_V lm_Ar_66 im_Na_becomeProduct se_Na_becomeProduct ini_Na cd_Na_becomeProduct) rfl rfl rfl (by decide +kernel) ⟨Nat.le_of_ble_eq_true rfl, Nat.le_of_ble_eq_true rfl⟩) hK hw o1 rfl rfl hl.1 rfl (Nat.le_of_ble_eq_true rfl) dAr_multiply_12 ⟨Nat.le_of_ble_eq_true rfl, Nat.le_of_ble_eq_true rfl⟩ (fun v w1 H locs hq hw => ?_)
  obtain ⟨rfl, hV9, co0_0⟩ := hq
  have A0_ : w1 (ar) = some (.inr (0, [.ref (ar + 1), .ref (ar + 8), .ref (ar + 10), .ref (ar + 12), .ref (ar + 14)])) := (co0_0 _ (by omega) (by omega)).trans A0
  have A1_ : w1 (ar + 1) = some (.inr (3, [.ref (ar + 1 + 1), .ref (ar + 1 + 3), .ref (ar + 1 + 5)])) := (co0_0 _ (by omega) (by omega)).trans A1
  have ah_ : w1 (qa) = some (.inr (8, [.ref (qa + 1), .int (nI sg)])) := (co0_0 _ (by omega) (by omega)).trans ah
  have bh_ : w1 (qb) = some (.inr (8, [.ref (qb + 1), .int (nI sg2)])) := (co0_0 _ (by omega) (by omega)).trans bh
  have A0 := A0_
  have A1 := A1_
  have ah := ah_
  have bh := bh_
  have Aq : isV cL w1 (ar + 1 + 1) (e_q) := Aq.kept (fun a h1 h2 => co0_0 a (by omega) (by omega))
  have Ar9 : isV cL w1 (ar + 1 + 3) (er) := Ar9.kept (fun a h1 h2 => co0_0 a (by omega) (by omega))
  have Ad : isV cL w1 (ar + 1 + 5) (ed) := Ad.kept (fun a h1 h2 => co0_0 a (by omega) (by omega))
  have Ao : isV cL w1 (ar + 8) (1) := Ao.kept (fun a h1 h2 => co0_0 a (by omega) (by omega))
  have Au : isV cL w1 (ar + 10) (eo) := Au.kept (fun a h1 h2 => co0_0 a (by omega) (by omega))
  have Ab : isV cL w1 (ar + 14) (eb) := Ab.kept (fun a h1 h2 => co0_0 a (by omega) (by omega))
  have av : isV cL w1 (qa + 1) (x) := av.kept (fun a h1 h2 => co0_0 a (by omega) (by omega))
  have bv : isV cL w1 (qb + 1) (y) := bv.kept (fun a h1 h2 => co0_0 a (by omega) (by omega))
  have Ap := hV9
  refine W.eq (g2 := F0 m 15 ls []) rfl ?_
  have hprod : a * b = wv (if sg = sg2 then 0 else 1) (x * y) := by rw [← ae, ← be]; exact wv_mul as bs
  rcases (show sg = 0 ∨ sg = 1 by omega) with rfl | rfl
  · rcases (show sg2 = 0 ∨ sg2 = 1 by omega) with rfl | rfl
    · refine lv_aload_n (pc := 15) hx hb dAr_multiply_15 rfl (lv_at hl 0 rfl) ?_
      refine fw_get (pc := 16) (ci := 0) (v := .ref (ar + 12)) (C := RAr) (T := TAr) (N := 5) hx hb hW in_Ar hown hK.1 hw A0 rfl 3 (by decide) (hW _ lf_Ar_32) (fun _ h => h) rfl dAr_multiply_16 ?_
      refine lv_aload_n (pc := 19) hx hb dAr_multiply_19 rfl (lv_at hl 1 rfl) ?_
      refine fw_get (pc := 20) (ci := 8) (v := .int (nI 0)) (C := RWh) (T := TWh) (N := 2) hx hb hW in_Wh hown hK.1 hw ah rfl 1 (by decide) (hW _ lf_Ar_43) (fun _ h => h) rfl dAr_multiply_20 ?_
      refine lv_aload_n (pc := 23) hx hb dAr_multiply_23 rfl (lv_at hl 2 rfl) ?_
      refine fw_get (pc := 24) (ci := 8) (v := .int (nI 0)) (C := RWh) (T := TWh) (N := 2) hx hb hW in_Wh hown hK.1 hw bh rfl 1 (by decide) (hW _ lf_Ar_43) (fun _ h => h) rfl dAr_multiply_24 ?_
      refine lv_icmp_eq (pc := 27) (tgt := 34) hx hb dAr_multiply_27 (by decide) (fun _ => ?_) (fun hc => absurd rfl hc)
      refine lv_iconst (pc := 34) (v := (nI 0)) hx hb dAr_multiply_34 (by decide) ?_
      refine lv_aload_n (pc := 35) hx hb dAr_multiply_35 rfl (lv_at hl 1 rfl) ?_
      refine fw_cS (pc := 36) (As := [.ref (ar + 12), .int (nI 0), .ref qa]) (rest := []) ⟨hx, hb, hml, hown, hW⟩ (c_Ar_store (neg := 0) (by decide) Ap ⟨0, x, as, ap, ah, av, ae⟩ (by omega)) (va_cwS 3 hW (kw_S lm_Ar_62 sta_Ar_store ini_Ar cd_Ar_store) rfl rfl rfl (by decide +kernel) ⟨Nat.le_of_ble_eq_true rfl, Nat.le_of_ble_eq_true rfl⟩) hK hw rfl hl.1 rfl (Nat.le_of_ble_eq_true rfl) dAr_multiply_36 ⟨Nat.le_of_ble_eq_true rfl, Nat.le_of_ble_eq_true rfl⟩ (fun v w2 H locs hq hw => ?_)
      obtain ⟨rfl, hI, fs9⟩ := hq
      have A0_ : w2 (ar) = some (.inr (0, [.ref (ar + 1), .ref (ar + 8), .ref (ar + 10), .ref (ar + 12), .ref (ar + 14)])) := (fs9 _ (by omega)).trans A0
      have A1_ : w2 (ar + 1) = some (.inr (3, [.ref (ar + 1 + 1), .ref (ar + 1 + 3), .ref (ar + 1 + 5)])) := (fs9 _ (by omega)).trans A1
      have bh_ : w2 (qb) = some (.inr (8, [.ref (qb + 1), .int (nI 0)])) := (fs9 _ (by omega)).trans bh
      have A0 := A0_
      have A1 := A1_
      have bh := bh_
      have Aq : isV cL w2 (ar + 1 + 1) (e_q) := Aq.kept (fun a h1 h2 => fs9 a (by omega))
      have Ar9 : isV cL w2 (ar + 1 + 3) (er) := Ar9.kept (fun a h1 h2 => fs9 a (by omega))
      have Ad : isV cL w2 (ar + 1 + 5) (ed) := Ad.kept (fun a h1 h2 => fs9 a (by omega))
      have Ao : isV cL w2 (ar + 8) (1) := Ao.kept (fun a h1 h2 => fs9 a (by omega))
      have Au : isV cL w2 (ar + 10) (eo) := Au.kept (fun a h1 h2 => fs9 a (by omega))
      have Ap : isV cL w2 (ar + 12) (x * y) := Ap.kept (fun a h1 h2 => fs9 a (by omega))
      have Ab : isV cL w2 (ar + 14) (eb) := Ab.kept (fun a h1 h2 => fs9 a (by omega))
      have bv : isV cL w2 (qb + 1) (y) := bv.kept (fun a h1 h2 => fs9 a (by omega))
      refine W.eq (g2 := F0 m 39 ls [.int (nI (if x * y < 2 ^ 768 then 0 else 6))]) rfl ?_
      rw [if_pos rfl] at hprod
      exact fw_iret (pc := 39) hx hb hr hlocks hw dAr_multiply_39 ⟨by rw [hprod, sFit_1, wv_abs], by rw [hprod, sFit_2, wv_abs]; exact hI, ⟨A0, A1, ⟨_, Aq⟩, ⟨_, Ar9⟩, ⟨_, Ad⟩, Ao, ⟨_, Au⟩, ⟨_, Ap⟩, ⟨_, Ab⟩⟩, (fun q h1 h2 => by rw [fs9 q (by omega), co0_0 q (by omega) (by omega)])⟩
    · refine lv_aload_n (pc := 15) hx hb dAr_multiply_15 rfl (lv_at hl 0 rfl) ?_
      refine fw_get (pc := 16) (ci := 0) (v := .ref (ar + 12)) (C := RAr) (T := TAr) (N := 5) hx hb hW in_Ar hown hK.1 hw A0 rfl 3 (by decide) (hW _ lf_Ar_32) (fun _ h => h) rfl dAr_multiply_16 ?_
      refine lv_aload_n (pc := 19) hx hb dAr_multiply_19 rfl (lv_at hl 1 rfl) ?_
      refine fw_get (pc := 20) (ci := 8) (v := .int (nI 0)) (C := RWh) (T := TWh) (N := 2) hx hb hW in_Wh hown hK.1 hw ah rfl 1 (by decide) (hW _ lf_Ar_43) (fun _ h => h) rfl dAr_multiply_20 ?_
      refine lv_aload_n (pc := 23) hx hb dAr_multiply_23 rfl (lv_at hl 2 rfl) ?_
      refine fw_get (pc := 24) (ci := 8) (v := .int (nI 1)) (C := RWh) (T := TWh) (N := 2) hx hb hW in_Wh hown hK.1 hw bh rfl 1 (by decide) (hW _ lf_Ar_43) (fun _ h => h) rfl dAr_multiply_24 ?_
      refine lv_icmp_eq (pc := 27) (tgt := 34) hx hb dAr_multiply_27 (by decide) (fun hc => absurd hc (by decide)) (fun _ => ?_)
      refine lv_iconst (pc := 30) (v := (nI 1)) hx hb dAr_multiply_30 (by decide) ?_
      refine lv_goto (pc := 31) (tgt := 35) hx hb dAr_multiply_31 (by decide) ?_
      refine lv_aload_n (pc := 35) hx hb dAr_multiply_35 rfl (lv_at hl 1 rfl) ?_
      refine fw_cS (pc := 36) (As := [.ref (ar + 12), .int (nI 1), .ref qa]) (rest := []) ⟨hx, hb, hml, hown, hW⟩ (c_Ar_store (neg := 1) (by decide) Ap ⟨0, x, as, ap, ah, av, ae⟩ (by omega)) (va_cwS 3 hW (kw_S lm_Ar_62 sta_Ar_store ini_Ar cd_Ar_store) rfl rfl rfl (by decide +kernel) ⟨Nat.le_of_ble_eq_true rfl, Nat.le_of_ble_eq_true rfl⟩) hK hw rfl hl.1 rfl (Nat.le_of_ble_eq_true rfl) dAr_multiply_36 ⟨Nat.le_of_ble_eq_true rfl, Nat.le_of_ble_eq_true rfl⟩ (fun v w3 H locs hq hw => ?_)
      obtain ⟨rfl, hI, fs9⟩ := hq
      have A0_ : w3 (ar) = some (.inr (0, [.ref (ar + 1), .ref (ar + 8), .ref (ar + 10), .ref (ar + 12), .ref (ar + 14)])) := (fs9 _ (by omega)).trans A0
      have A1_ : w3 (ar + 1) = some (.inr (3, [.ref (ar + 1 + 1), .ref (ar + 1 + 3), .ref (ar + 1 + 5)])) := (fs9 _ (by omega)).trans A1
      have bh_ : w3 (qb) = some (.inr (8, [.ref (qb + 1), .int (nI 1)])) := (fs9 _ (by omega)).trans bh
      have A0 := A0_
      have A1 := A1_
      have bh := bh_
      have Aq : isV cL w3 (ar + 1 + 1) (e_q) := Aq.kept (fun a h1 h2 => fs9 a (by omega))
      have Ar9 : isV cL w3 (ar + 1 + 3) (er) := Ar9.kept (fun a h1 h2 => fs9 a (by omega))
      have Ad : isV cL w3 (ar + 1 + 5) (ed) := Ad.kept (fun a h1 h2 => fs9 a (by omega))
      have Ao : isV cL w3 (ar + 8) (1) := Ao.kept (fun a h1 h2 => fs9 a (by omega))
      have Au : isV cL w3 (ar + 10) (eo) := Au.kept (fun a h1 h2 => fs9 a (by omega))
      have Ap : isV cL w3 (ar + 12) (x * y) := Ap.kept (fun a h1 h2 => fs9 a (by omega))
      have Ab : isV cL w3 (ar + 14) (eb) := Ab.kept (fun a h1 h2 => fs9 a (by omega))
      have bv : isV cL w3 (qb + 1) (y) := bv.kept (fun a h1 h2 => fs9 a (by omega))
      refine W.eq (g2 := F0 m 39 ls [.int (nI (if x * y < 2 ^ 768 then 0 else 6))]) rfl ?_
      rw [if_neg (by decide)] at hprod
      exact fw_iret (pc := 39) hx hb hr hlocks hw dAr_multiply_39 ⟨by rw [hprod, sFit_1, wv_abs], by rw [hprod, sFit_2, wv_abs]; exact hI, ⟨A0, A1, ⟨_, Aq⟩, ⟨_, Ar9⟩, ⟨_, Ad⟩, Ao, ⟨_, Au⟩, ⟨_, Ap⟩, ⟨_, Ab⟩⟩, (fun q h1 h2 => by rw [fs9 q (by omega), co0_0 q (by omega) (by omega)])⟩
  · rcases (show sg2 = 0 ∨ sg2 = 1 by omega) with rfl | rfl
    · refine lv_aload_n (pc := 15) hx hb dAr_multiply_15 rfl (lv_at hl 0 rfl) ?_
      refine fw_get (pc := 16) (ci := 0) (v := .ref (ar + 12)) (C := RAr) (T := TAr) (N := 5) hx hb hW in_Ar hown hK.1 hw A0 rfl 3 (by decide) (hW _ lf_Ar_32) (fun _ h => h) rfl dAr_multiply_16 ?_
      refine lv_aload_n (pc := 19) hx hb dAr_multiply_19 rfl (lv_at hl 1 rfl) ?_
      refine fw_get (pc := 20) (ci := 8) (v := .int (nI 1)) (C := RWh) (T := TWh) (N := 2) hx hb hW in_Wh hown hK.1 hw ah rfl 1 (by decide) (hW _ lf_Ar_43) (fun _ h => h) rfl dAr_multiply_20 ?_
      refine lv_aload_n (pc := 23) hx hb dAr_multiply_23 rfl (lv_at hl 2 rfl) ?_
      refine fw_get (pc := 24) (ci := 8) (v := .int (nI 0)) (C := RWh) (T := TWh) (N := 2) hx hb hW in_Wh hown hK.1 hw bh rfl 1 (by decide) (hW _ lf_Ar_43) (fun _ h => h) rfl dAr_multiply_24 ?_
      refine lv_icmp_eq (pc := 27) (tgt := 34) hx hb dAr_multiply_27 (by decide) (fun hc => absurd hc (by decide)) (fun _ => ?_)
      refine lv_iconst (pc := 30) (v := (nI 1)) hx hb dAr_multiply_30 (by decide) ?_
      refine lv_goto (pc := 31) (tgt := 35) hx hb dAr_multiply_31 (by decide) ?_
      refine lv_aload_n (pc := 35) hx hb dAr_multiply_35 rfl (lv_at hl 1 rfl) ?_
      refine fw_cS (pc := 36) (As := [.ref (ar + 12), .int (nI 1), .ref qa]) (rest := []) ⟨hx, hb, hml, hown, hW⟩ (c_Ar_store (neg := 1) (by decide) Ap ⟨1, x, as, ap, ah, av, ae⟩ (by omega)) (va_cwS 3 hW (kw_S lm_Ar_62 sta_Ar_store ini_Ar cd_Ar_store) rfl rfl rfl (by decide +kernel) ⟨Nat.le_of_ble_eq_true rfl, Nat.le_of_ble_eq_true rfl⟩) hK hw rfl hl.1 rfl (Nat.le_of_ble_eq_true rfl) dAr_multiply_36 ⟨Nat.le_of_ble_eq_true rfl, Nat.le_of_ble_eq_true rfl⟩ (fun v w4 H locs hq hw => ?_)
      obtain ⟨rfl, hI, fs9⟩ := hq
      have A0_ : w4 (ar) = some (.inr (0, [.ref (ar + 1), .ref (ar + 8), .ref (ar + 10), .ref (ar + 12), .ref (ar + 14)])) := (fs9 _ (by omega)).trans A0
      have A1_ : w4 (ar + 1) = some (.inr (3, [.ref (ar + 1 + 1), .ref (ar + 1 + 3), .ref (ar + 1 + 5)])) := (fs9 _ (by omega)).trans A1
      have bh_ : w4 (qb) = some (.inr (8, [.ref (qb + 1), .int (nI 0)])) := (fs9 _ (by omega)).trans bh
      have A0 := A0_
      have A1 := A1_
      have bh := bh_
      have Aq : isV cL w4 (ar + 1 + 1) (e_q) := Aq.kept (fun a h1 h2 => fs9 a (by omega))
      have Ar9 : isV cL w4 (ar + 1 + 3) (er) := Ar9.kept (fun a h1 h2 => fs9 a (by omega))
      have Ad : isV cL w4 (ar + 1 + 5) (ed) := Ad.kept (fun a h1 h2 => fs9 a (by omega))
      have Ao : isV cL w4 (ar + 8) (1) := Ao.kept (fun a h1 h2 => fs9 a (by omega))
      have Au : isV cL w4 (ar + 10) (eo) := Au.kept (fun a h1 h2 => fs9 a (by omega))
      have Ap : isV cL w4 (ar + 12) (x * y) := Ap.kept (fun a h1 h2 => fs9 a (by omega))
      have Ab : isV cL w4 (ar + 14) (eb) := Ab.kept (fun a h1 h2 => fs9 a (by omega))
      have bv : isV cL w4 (qb + 1) (y) := bv.kept (fun a h1 h2 => fs9 a (by omega))
      refine W.eq (g2 := F0 m 39 ls [.int (nI (if x * y < 2 ^ 768 then 0 else 6))]) rfl ?_
      rw [if_neg (by decide)] at hprod
      exact fw_iret (pc := 39) hx hb hr hlocks hw dAr_multiply_39 ⟨by rw [hprod, sFit_1, wv_abs], by rw [hprod, sFit_2, wv_abs]; exact hI, ⟨A0, A1, ⟨_, Aq⟩, ⟨_, Ar9⟩, ⟨_, Ad⟩, Ao, ⟨_, Au⟩, ⟨_, Ap⟩, ⟨_, Ab⟩⟩, (fun q h1 h2 => by rw [fs9 q (by omega), co0_0 q (by omega) (by omega)])⟩
    · refine lv_aload_n (pc := 15) hx hb dAr_multiply_15 rfl (lv_at hl 0 rfl) ?_
      refine fw_get (pc := 16) (ci := 0) (v := .ref (ar + 12)) (C := RAr) (T := TAr) (N := 5) hx hb hW in_Ar hown hK.1 hw A0 rfl 3 (by decide) (hW _ lf_Ar_32) (fun _ h => h) rfl dAr_multiply_16 ?_
      refine lv_aload_n (pc := 19) hx hb dAr_multiply_19 rfl (lv_at hl 1 rfl) ?_
      refine fw_get (pc := 20) (ci := 8) (v := .int (nI 1)) (C := RWh) (T := TWh) (N := 2) hx hb hW in_Wh hown hK.1 hw ah rfl 1 (by decide) (hW _ lf_Ar_43) (fun _ h => h) rfl dAr_multiply_20 ?_
      refine lv_aload_n (pc := 23) hx hb dAr_multiply_23 rfl (lv_at hl 2 rfl) ?_
      refine fw_get (pc := 24) (ci := 8) (v := .int (nI 1)) (C := RWh) (T := TWh) (N := 2) hx hb hW in_Wh hown hK.1 hw bh rfl 1 (by decide) (hW _ lf_Ar_43) (fun _ h => h) rfl dAr_multiply_24 ?_
      refine lv_icmp_eq (pc := 27) (tgt := 34) hx hb dAr_multiply_27 (by decide) (fun _ => ?_) (fun hc => absurd rfl hc)
      refine lv_iconst (pc := 34) (v := (nI 0)) hx hb dAr_multiply_34 (by decide) ?_
      refine lv_aload_n (pc := 35) hx hb dAr_multiply_35 rfl (lv_at hl 1 rfl) ?_
      refine fw_cS (pc := 36) (As := [.ref (ar + 12), .int (nI 0), .ref qa]) (rest := []) ⟨hx, hb, hml, hown, hW⟩ (c_Ar_store (neg := 0) (by decide) Ap ⟨1, x, as, ap, ah, av, ae⟩ (by omega)) (va_cwS 3 hW (kw_S lm_Ar_62 sta_Ar_store ini_Ar cd_Ar_store) rfl rfl rfl (by decide +kernel) ⟨Nat.le_of_ble_eq_true rfl, Nat.le_of_ble_eq_true rfl⟩) hK hw rfl hl.1 rfl (Nat.le_of_ble_eq_true rfl) dAr_multiply_36 ⟨Nat.le_of_ble_eq_true rfl, Nat.le_of_ble_eq_true rfl⟩ (fun v w5 H locs hq hw => ?_)
      obtain ⟨rfl, hI, fs9⟩ := hq
      have A0_ : w5 (ar) = some (.inr (0, [.ref (ar + 1), .ref (ar + 8), .ref (ar + 10), .ref (ar + 12), .ref (ar + 14)])) := (fs9 _ (by omega)).trans A0
      have A1_ : w5 (ar + 1) = some (.inr (3, [.ref (ar + 1 + 1), .ref (ar + 1 + 3), .ref (ar + 1 + 5)])) := (fs9 _ (by omega)).trans A1
      have bh_ : w5 (qb) = some (.inr (8, [.ref (qb + 1), .int (nI 1)])) := (fs9 _ (by omega)).trans bh
      have A0 := A0_
      have A1 := A1_
      have bh := bh_
      have Aq : isV cL w5 (ar + 1 + 1) (e_q) := Aq.kept (fun a h1 h2 => fs9 a (by omega))
      have Ar9 : isV cL w5 (ar + 1 + 3) (er) := Ar9.kept (fun a h1 h2 => fs9 a (by omega))
      have Ad : isV cL w5 (ar + 1 + 5) (ed) := Ad.kept (fun a h1 h2 => fs9 a (by omega))
      have Ao : isV cL w5 (ar + 8) (1) := Ao.kept (fun a h1 h2 => fs9 a (by omega))
      have Au : isV cL w5 (ar + 10) (eo) := Au.kept (fun a h1 h2 => fs9 a (by omega))
      have Ap : isV cL w5 (ar + 12) (x * y) := Ap.kept (fun a h1 h2 => fs9 a (by omega))
      have Ab : isV cL w5 (ar + 14) (eb) := Ab.kept (fun a h1 h2 => fs9 a (by omega))
      have bv : isV cL w5 (qb + 1) (y) := bv.kept (fun a h1 h2 => fs9 a (by omega))
      refine W.eq (g2 := F0 m 39 ls [.int (nI (if x * y < 2 ^ 768 then 0 else 6))]) rfl ?_
      rw [if_pos rfl] at hprod
      exact fw_iret (pc := 39) hx hb hr hlocks hw dAr_multiply_39 ⟨by rw [hprod, sFit_1, wv_abs], by rw [hprod, sFit_2, wv_abs]; exact hI, ⟨A0, A1, ⟨_, Aq⟩, ⟨_, Ar9⟩, ⟨_, Ad⟩, Ao, ⟨_, Au⟩, ⟨_, Ap⟩, ⟨_, Ab⟩⟩, (fun q h1 h2 => by rw [fs9 q (by omega), co0_0 q (by omega) (by omega)])⟩

set_option maxHeartbeats 4000000 in
set_option maxRecDepth 100000 in
theorem c_Ar_divideForQuotient {ar qa qb : Nat} {a b : Int} (hA : arS cL w ar) (ha : isI cL w qa a) (hb2 : isI cL w qb b) (hpa : qa + 2 < ar ∨ ar + 15 < qa) (hpb : qb + 2 < ar ∨ ar + 15 < qb) (hab : qa + 2 < qb ∨ qb + 2 < qa) (ha7 : a.natAbs < 2 ^ 768) (hb7 : b.natAbs < 2 ^ 768) : fw_C l yAr_divideForQuotient (Cond.code yAr_divideForQuotient cAr_divideForQuotient 4 (some FieldType.int) :: kWs) ({ frames := 4, cells := 0, slots := 0, locals := 107 } : Room) D kCl (kty cI cL cQ) z [.ref ar, .ref qa, .ref qb] (sz) w 0 0 (fun v w' => v = some (.int (nI (sQuo a b).1)) ∧ isI cL w' qa (sQuo a b).2 ∧ arS cL w' ar ∧ ∀ q, q < ar ∨ ar + 16 ≤ q → q < qa ∨ qa + 3 ≤ q → w' q = w q) := by
  refine fw_ofW (cc := cAr_divideForQuotient) (maxL := 4) (ret := (some FieldType.int)) (by decide) rfl (Nat.le_of_ble_eq_true rfl) ?_
  intro p e s m args below meth c hx hb hr hts hown hlocks hname hml hK H ls hw hl
  have hW : ∀ w ∈ kWs, w.before args s = true := fun w h => hts w (List.mem_cons_of_mem _ h)
  have hown : s.vm.findClass RAr = some m.cls := hown
  have hl : lv_has ls 4 [(0, .ref ar), (1, .ref qa), (2, .ref qb)] := hl
  obtain ⟨A0, A1, ⟨e_q, Aq⟩, ⟨er, Ar9⟩, ⟨ed, Ad⟩, Ao, ⟨eo, Au⟩, ⟨ep, Ap⟩, ⟨eb, Ab⟩⟩ := id hA
  obtain ⟨sg, x, as, ap, ah, av, ae⟩ := id ha
  have hx7 : x < 2 ^ 768 := by rw [← wv_abs sg x, ae]; exact ha7
  obtain ⟨sg2, y, bs, bp, bh, bv, be⟩ := id hb2
  have hy7 : y < 2 ^ 768 := by rw [← wv_abs sg2 y, be]; exact hb7
  have hsa : sgz a = sg := by rw [← ae]; exact sgz_wv as ap
  have hsb : sgz b = sg2 := by rw [← be]; exact sgz_wv bs bp
  have hna : a.natAbs = x := by rw [← ae, wv_abs]
  have hnb : b.natAbs = y := by rw [← be, wv_abs]
  have p49 : 2 ^ 768 < nB ^ 49 := by decide +kernel
  have hbz : b = 0 ↔ y = 0 := by rw [← be]; exact wv_z0 bs
  refine lv_aload_n (pc := 0) hx hb dAr_divideForQuotient_0 rfl (lv_at hl 2 rfl) ?_
  refine fw_get (pc := 1) (ci := 8) (v := .ref (qb + 1)) (C := RWh) (T := TWh) (N := 2) hx hb hW in_Wh hown hK.1 hw bh rfl 0 (by decide) (hW _ lf_Ar_38) (fun _ h => h) rfl dAr_divideForQuotient_1 ?_
  by_cases hy0 : y = 0
  · obtain ⟨g2, k2, ⟨o2, _⟩, l2, _, n2, v2⟩ := id bv
    refine fw_cVR (pc := 4) (As := []) (rest := []) ⟨hx, hb, hml, hown, hW⟩ (c_Na_isZero (by omega) o2) (cwV 0 hW (kw_V lm_Ar_69 im_Na_isZero se_Na_isZero ini_Na cd_Na_isZero) rfl rfl rfl (by decide +kernel) ⟨Nat.le_of_ble_eq_true rfl, Nat.le_of_ble_eq_true rfl⟩) hK hw o2 rfl rfl hl.1 rfl (Nat.le_of_ble_eq_true rfl) dAr_divideForQuotient_4 ⟨Nat.le_of_ble_eq_true rfl, Nat.le_of_ble_eq_true rfl⟩ (fun v hq => ?_)
    rw [if_pos ((nk_zero n2 v2).mpr hy0)] at hq
    subst hq
    refine W.eq (g2 := F0 m 7 ls [.int (nI 1)]) rfl ?_
    refine lv_if_eq (pc := 7) (tgt := 12) hx hb dAr_divideForQuotient_7 (by decide) (fun hc => absurd hc (show ¬ nI 1 = 0 by decide)) (fun _ => ?_)
    refine lv_iconst (pc := 10) (v := (nI 2)) hx hb dAr_divideForQuotient_10 (by decide) ?_
    have hs9 : sQuo a b = (2, a) := if_pos (hbz.mpr hy0)
    exact fw_iret (pc := 11) hx hb hr hlocks hw dAr_divideForQuotient_11 ⟨by rw [hs9], by rw [hs9]; exact ha, hA, fun q _ _ => rfl⟩
  · obtain ⟨g3, k3, ⟨o3, _⟩, l3, _, n3, v3⟩ := id bv
    refine fw_cVR (pc := 4) (As := []) (rest := []) ⟨hx, hb, hml, hown, hW⟩ (c_Na_isZero (by omega) o3) (cwV 0 hW (kw_V lm_Ar_69 im_Na_isZero se_Na_isZero ini_Na cd_Na_isZero) rfl rfl rfl (by decide +kernel) ⟨Nat.le_of_ble_eq_true rfl, Nat.le_of_ble_eq_true rfl⟩) hK hw o3 rfl rfl hl.1 rfl (Nat.le_of_ble_eq_true rfl) dAr_divideForQuotient_4 ⟨Nat.le_of_ble_eq_true rfl, Nat.le_of_ble_eq_true rfl⟩ (fun v hq => ?_)
    rw [if_neg (fun h9 => hy0 ((nk_zero n3 v3).mp h9))] at hq
    subst hq
    refine W.eq (g2 := F0 m 7 ls [.int (nI 0)]) rfl ?_
    refine lv_if_eq (pc := 7) (tgt := 12) hx hb dAr_divideForQuotient_7 (by decide) (fun _ => ?_) (fun hc => absurd (show nI 0 = 0 by decide) hc)
    refine lv_aload_n (pc := 12) hx hb dAr_divideForQuotient_12 rfl (lv_at hl 0 rfl) ?_
    refine fw_get (pc := 13) (ci := 0) (v := .ref (ar + 1)) (C := RAr) (T := TAr) (N := 5) hx hb hW in_Ar hown hK.1 hw A0 rfl 0 (by decide) (hW _ lf_Ar_12) (fun _ h => h) rfl dAr_divideForQuotient_13 ?_
    refine lv_aload_n (pc := 16) hx hb dAr_divideForQuotient_16 rfl (lv_at hl 1 rfl) ?_
    refine fw_get (pc := 17) (ci := 8) (v := .ref (qa + 1)) (C := RWh) (T := TWh) (N := 2) hx hb hW in_Wh hown hK.1 hw ah rfl 0 (by decide) (hW _ lf_Ar_38) (fun _ h => h) rfl dAr_divideForQuotient_17 ?_
    refine lv_aload_n (pc := 20) hx hb dAr_divideForQuotient_20 rfl (lv_at hl 2 rfl) ?_
    refine fw_get (pc := 21) (ci := 8) (v := .ref (qb + 1)) (C := RWh) (T := TWh) (N := 2) hx hb hW in_Wh hown hK.1 hw bh rfl 0 (by decide) (hW _ lf_Ar_38) (fun _ h => h) rfl dAr_divideForQuotient_21 ?_
    refine fw_cV (pc := 24) (As := [.ref (qa + 1), .ref (qb + 1)]) (rest := []) ⟨hx, hb, hml, hown, hW⟩ (c_Di_divide A1 Aq Ar9 Ad av bv (by omega) (by omega) (Nat.pos_of_ne_zero hy0) (Nat.lt_trans hx7 p49)) (cwV 2 hW (kw_V lm_Ar_73 im_Di_divide se_Di_divide ini_Di cd_Di_divide) rfl rfl rfl (by decide +kernel) ⟨Nat.le_of_ble_eq_true rfl, Nat.le_of_ble_eq_true rfl⟩) hK hw A1 rfl rfl hl.1 rfl (Nat.le_of_ble_eq_true rfl) dAr_divideForQuotient_24 ⟨Nat.le_of_ble_eq_true rfl, Nat.le_of_ble_eq_true rfl⟩ (fun v w1 H locs hq hw => ?_)
    obtain ⟨rfl, hq9, hr9, ⟨ed2, hd9⟩, cd0_0⟩ := hq
    have A0_ : w1 (ar) = some (.inr (0, [.ref (ar + 1), .ref (ar + 8), .ref (ar + 10), .ref (ar + 12), .ref (ar + 14)])) := (cd0_0 _ (by omega)).trans A0
    have A1_ : w1 (ar + 1) = some (.inr (3, [.ref (ar + 1 + 1), .ref (ar + 1 + 3), .ref (ar + 1 + 5)])) := (cd0_0 _ (by omega)).trans A1
    have ah_ : w1 (qa) = some (.inr (8, [.ref (qa + 1), .int (nI sg)])) := (cd0_0 _ (by omega)).trans ah
    have bh_ : w1 (qb) = some (.inr (8, [.ref (qb + 1), .int (nI sg2)])) := (cd0_0 _ (by omega)).trans bh
    have A0 := A0_
    have A1 := A1_
    have ah := ah_
    have bh := bh_
    have Ao : isV cL w1 (ar + 8) (1) := Ao.kept (fun a h1 h2 => cd0_0 a (by omega))
    have Au : isV cL w1 (ar + 10) (eo) := Au.kept (fun a h1 h2 => cd0_0 a (by omega))
    have Ap : isV cL w1 (ar + 12) (ep) := Ap.kept (fun a h1 h2 => cd0_0 a (by omega))
    have Ab : isV cL w1 (ar + 14) (eb) := Ab.kept (fun a h1 h2 => cd0_0 a (by omega))
    have av : isV cL w1 (qa + 1) (x) := av.kept (fun a h1 h2 => cd0_0 a (by omega))
    have bv : isV cL w1 (qb + 1) (y) := bv.kept (fun a h1 h2 => cd0_0 a (by omega))
    have Aq := hq9
    have Ar9 := hr9
    have Ad := hd9
    clear hq9 hr9 hd9
    refine W.eq (g2 := F0 m 27 ls []) rfl ?_
    have hqx : x / y ≤ x := Nat.div_le_self x y
    have hs9 : sQuo a b = (0, wv (if sg = sg2 then 0 else 1) (x / y + if sg = sg2 ∨ x % y = 0 then 0 else 1)) := by unfold sQuo; rw [if_neg (fun h9 => hy0 (hbz.mp h9)), hsa, hsb, hna, hnb]
    have hql := quo_le (L := 2 ^ 768) (Nat.pos_of_ne_zero hy0) hx7 (by decide +kernel)
    rcases (show sg = 0 ∨ sg = 1 by omega) with rfl | rfl
    · rcases (show sg2 = 0 ∨ sg2 = 1 by omega) with rfl | rfl
      · refine lv_aload_n (pc := 27) hx hb dAr_divideForQuotient_27 rfl (lv_at hl 1 rfl) ?_
        refine fw_get (pc := 28) (ci := 8) (v := .int (nI 0)) (C := RWh) (T := TWh) (N := 2) hx hb hW in_Wh hown hK.1 hw ah rfl 1 (by decide) (hW _ lf_Ar_43) (fun _ h => h) rfl dAr_divideForQuotient_28 ?_
        refine lv_aload_n (pc := 31) hx hb dAr_divideForQuotient_31 rfl (lv_at hl 2 rfl) ?_
        refine fw_get (pc := 32) (ci := 8) (v := .int (nI 0)) (C := RWh) (T := TWh) (N := 2) hx hb hW in_Wh hown hK.1 hw bh rfl 1 (by decide) (hW _ lf_Ar_43) (fun _ h => h) rfl dAr_divideForQuotient_32 ?_
        refine lv_icmp_eq (pc := 35) (tgt := 42) hx hb dAr_divideForQuotient_35 (by decide) (fun _ => ?_) (fun hc => absurd rfl hc)
        refine lv_iconst (pc := 42) (v := (nI 0)) hx hb dAr_divideForQuotient_42 (by decide) ?_
        refine lv_istore_n (pc := 43) (lv' := [(3, .int (nI 0)), (0, .ref ar), (1, .ref qa), (2, .ref qb)]) hx hb dAr_divideForQuotient_43 rfl hl (by decide) rfl (fun ls hl => ?_)
        refine lv_iload_n (pc := 44) hx hb dAr_divideForQuotient_44 rfl (lv_at hl 0 rfl) ?_
        refine lv_if_eq (pc := 45) (tgt := 82) hx hb dAr_divideForQuotient_45 (by decide) (fun _ => ?_) (fun hc => absurd (show nI 0 = 0 by decide) hc)
        refine lv_aload_n (pc := 82) hx hb dAr_divideForQuotient_82 rfl (lv_at hl 1 rfl) ?_
        refine fw_get (pc := 83) (ci := 0) (v := .ref (ar + 10)) (C := RAr) (T := TAr) (N := 5) hx hb hW in_Ar hown hK.1 hw A0 rfl 2 (by decide) (hW _ lf_Ar_29) (fun _ h => h) rfl dAr_divideForQuotient_83 ?_
        refine lv_aload_n (pc := 86) hx hb dAr_divideForQuotient_86 rfl (lv_at hl 1 rfl) ?_
        refine fw_get (pc := 87) (ci := 0) (v := .ref (ar + 1)) (C := RAr) (T := TAr) (N := 5) hx hb hW in_Ar hown hK.1 hw A0 rfl 0 (by decide) (hW _ lf_Ar_12) (fun _ h => h) rfl dAr_divideForQuotient_87 ?_
        refine fw_get (pc := 90) (ci := 3) (v := .ref (ar + 1 + 1)) (C := RDi) (T := TDi) (N := 3) hx hb hW in_Di hown hK.1 hw A1 rfl 0 (by decide) (hW _ lf_Ar_79) (fun _ h => h) rfl dAr_divideForQuotient_90 ?_
        obtain ⟨k4, o4⟩ := Au.ob
        refine fw_cV (pc := 93) (As := [.ref (ar + 1 + 1)]) (rest := []) ⟨hx, hb, hml, hown, hW⟩ (c_Na_become (by omega) Au Aq) (cwV 1 hW (kw_V lm_Ar_82 im_Na_become se_Na_become ini_Na cd_Na_become) rfl rfl rfl (by decide +kernel) ⟨Nat.le_of_ble_eq_true rfl, Nat.le_of_ble_eq_true rfl⟩) hK hw o4 rfl rfl hl.1 rfl (Nat.le_of_ble_eq_true rfl) dAr_divideForQuotient_93 ⟨Nat.le_of_ble_eq_true rfl, Nat.le_of_ble_eq_true rfl⟩ (fun v w2 H locs hq hw => ?_)
        obtain ⟨rfl, hV9, co1_1⟩ := hq
        have A0_ : w2 (ar) = some (.inr (0, [.ref (ar + 1), .ref (ar + 8), .ref (ar + 10), .ref (ar + 12), .ref (ar + 14)])) := (co1_1 _ (by omega) (by omega)).trans A0
        have A1_ : w2 (ar + 1) = some (.inr (3, [.ref (ar + 1 + 1), .ref (ar + 1 + 3), .ref (ar + 1 + 5)])) := (co1_1 _ (by omega) (by omega)).trans A1
        have ah_ : w2 (qa) = some (.inr (8, [.ref (qa + 1), .int (nI 0)])) := (co1_1 _ (by omega) (by omega)).trans ah
        have bh_ : w2 (qb) = some (.inr (8, [.ref (qb + 1), .int (nI 0)])) := (co1_1 _ (by omega) (by omega)).trans bh
        have A0 := A0_
        have A1 := A1_
        have ah := ah_
        have bh := bh_
        have Aq : isV cL w2 (ar + 1 + 1) (x / y) := Aq.kept (fun a h1 h2 => co1_1 a (by omega) (by omega))
        have Ar9 : isV cL w2 (ar + 1 + 3) (x % y) := Ar9.kept (fun a h1 h2 => co1_1 a (by omega) (by omega))
        have Ad : isV cL w2 (ar + 1 + 5) (ed2) := Ad.kept (fun a h1 h2 => co1_1 a (by omega) (by omega))
        have Ao : isV cL w2 (ar + 8) (1) := Ao.kept (fun a h1 h2 => co1_1 a (by omega) (by omega))
        have Ap : isV cL w2 (ar + 12) (ep) := Ap.kept (fun a h1 h2 => co1_1 a (by omega) (by omega))
        have Ab : isV cL w2 (ar + 14) (eb) := Ab.kept (fun a h1 h2 => co1_1 a (by omega) (by omega))
        have av : isV cL w2 (qa + 1) (x) := av.kept (fun a h1 h2 => co1_1 a (by omega) (by omega))
        have bv : isV cL w2 (qb + 1) (y) := bv.kept (fun a h1 h2 => co1_1 a (by omega) (by omega))
        have Au := hV9
        refine W.eq (g2 := F0 m 96 ls []) rfl ?_
        refine lv_aload_n (pc := 96) hx hb dAr_divideForQuotient_96 rfl (lv_at hl 1 rfl) ?_
        refine fw_get (pc := 97) (ci := 0) (v := .ref (ar + 10)) (C := RAr) (T := TAr) (N := 5) hx hb hW in_Ar hown hK.1 hw A0 rfl 2 (by decide) (hW _ lf_Ar_29) (fun _ h => h) rfl dAr_divideForQuotient_97 ?_
        refine lv_iload_n (pc := 100) hx hb dAr_divideForQuotient_100 rfl (lv_at hl 0 rfl) ?_
        refine lv_aload_n (pc := 101) hx hb dAr_divideForQuotient_101 rfl (lv_at hl 2 rfl) ?_
        refine fw_cS (pc := 102) (As := [.ref (ar + 10), .int (nI 0), .ref qa]) (rest := []) ⟨hx, hb, hml, hown, hW⟩ (c_Ar_store (neg := 0) (by decide) Au ⟨0, x, as, ap, ah, av, ae⟩ (by omega)) (va_cwS 3 hW (kw_S lm_Ar_62 sta_Ar_store ini_Ar cd_Ar_store) rfl rfl rfl (by decide +kernel) ⟨Nat.le_of_ble_eq_true rfl, Nat.le_of_ble_eq_true rfl⟩) hK hw rfl hl.1 rfl (Nat.le_of_ble_eq_true rfl) dAr_divideForQuotient_102 ⟨Nat.le_of_ble_eq_true rfl, Nat.le_of_ble_eq_true rfl⟩ (fun v w3 H locs hq hw => ?_)
        obtain ⟨rfl, hI, fs9⟩ := hq
        have A0_ : w3 (ar) = some (.inr (0, [.ref (ar + 1), .ref (ar + 8), .ref (ar + 10), .ref (ar + 12), .ref (ar + 14)])) := (fs9 _ (by omega)).trans A0
        have A1_ : w3 (ar + 1) = some (.inr (3, [.ref (ar + 1 + 1), .ref (ar + 1 + 3), .ref (ar + 1 + 5)])) := (fs9 _ (by omega)).trans A1
        have bh_ : w3 (qb) = some (.inr (8, [.ref (qb + 1), .int (nI 0)])) := (fs9 _ (by omega)).trans bh
        have A0 := A0_
        have A1 := A1_
        have bh := bh_
        have Aq : isV cL w3 (ar + 1 + 1) (x / y) := Aq.kept (fun a h1 h2 => fs9 a (by omega))
        have Ar9 : isV cL w3 (ar + 1 + 3) (x % y) := Ar9.kept (fun a h1 h2 => fs9 a (by omega))
        have Ad : isV cL w3 (ar + 1 + 5) (ed2) := Ad.kept (fun a h1 h2 => fs9 a (by omega))
        have Ao : isV cL w3 (ar + 8) (1) := Ao.kept (fun a h1 h2 => fs9 a (by omega))
        have Au : isV cL w3 (ar + 10) (x / y) := Au.kept (fun a h1 h2 => fs9 a (by omega))
        have Ap : isV cL w3 (ar + 12) (ep) := Ap.kept (fun a h1 h2 => fs9 a (by omega))
        have Ab : isV cL w3 (ar + 14) (eb) := Ab.kept (fun a h1 h2 => fs9 a (by omega))
        have bv : isV cL w3 (qb + 1) (y) := bv.kept (fun a h1 h2 => fs9 a (by omega))
        refine W.eq (g2 := F0 m 105 ls [.int (nI (if x / y < 2 ^ 768 then 0 else 6))]) rfl ?_
        rw [if_pos rfl, if_pos (Or.inl rfl), Nat.add_zero] at hs9
        have hlt9 : x / y < 2 ^ 768 := by omega
        rw [if_pos hlt9] at hI
        exact fw_iret (pc := 105) hx hb hr hlocks hw dAr_divideForQuotient_105 ⟨by rw [hs9, if_pos hlt9], by rw [hs9]; exact hI, ⟨A0, A1, ⟨_, Aq⟩, ⟨_, Ar9⟩, ⟨_, Ad⟩, Ao, ⟨_, Au⟩, ⟨_, Ap⟩, ⟨_, Ab⟩⟩, (fun q h1 h2 => by rw [fs9 q (by omega), co1_1 q (by omega) (by omega), cd0_0 q (by omega)])⟩
      · refine lv_aload_n (pc := 27) hx hb dAr_divideForQuotient_27 rfl (lv_at hl 1 rfl) ?_
        refine fw_get (pc := 28) (ci := 8) (v := .int (nI 0)) (C := RWh) (T := TWh) (N := 2) hx hb hW in_Wh hown hK.1 hw ah rfl 1 (by decide) (hW _ lf_Ar_43) (fun _ h => h) rfl dAr_divideForQuotient_28 ?_
        refine lv_aload_n (pc := 31) hx hb dAr_divideForQuotient_31 rfl (lv_at hl 2 rfl) ?_
        refine fw_get (pc := 32) (ci := 8) (v := .int (nI 1)) (C := RWh) (T := TWh) (N := 2) hx hb hW in_Wh hown hK.1 hw bh rfl 1 (by decide) (hW _ lf_Ar_43) (fun _ h => h) rfl dAr_divideForQuotient_32 ?_
        refine lv_icmp_eq (pc := 35) (tgt := 42) hx hb dAr_divideForQuotient_35 (by decide) (fun hc => absurd hc (by decide)) (fun _ => ?_)
        refine lv_iconst (pc := 38) (v := (nI 1)) hx hb dAr_divideForQuotient_38 (by decide) ?_
        refine lv_goto (pc := 39) (tgt := 43) hx hb dAr_divideForQuotient_39 (by decide) ?_
        refine lv_istore_n (pc := 43) (lv' := [(3, .int (nI 1)), (0, .ref ar), (1, .ref qa), (2, .ref qb)]) hx hb dAr_divideForQuotient_43 rfl hl (by decide) rfl (fun ls hl => ?_)
        refine lv_iload_n (pc := 44) hx hb dAr_divideForQuotient_44 rfl (lv_at hl 0 rfl) ?_
        refine lv_if_eq (pc := 45) (tgt := 82) hx hb dAr_divideForQuotient_45 (by decide) (fun hc => absurd hc (show ¬ nI 1 = 0 by decide)) (fun _ => ?_)
        refine lv_aload_n (pc := 48) hx hb dAr_divideForQuotient_48 rfl (lv_at hl 1 rfl) ?_
        refine fw_get (pc := 49) (ci := 0) (v := .ref (ar + 1)) (C := RAr) (T := TAr) (N := 5) hx hb hW in_Ar hown hK.1 hw A0 rfl 0 (by decide) (hW _ lf_Ar_12) (fun _ h => h) rfl dAr_divideForQuotient_49 ?_
        refine fw_get (pc := 52) (ci := 3) (v := .ref (ar + 1 + 3)) (C := RDi) (T := TDi) (N := 3) hx hb hW in_Di hown hK.1 hw A1 rfl 1 (by decide) (hW _ lf_Ar_76) (fun _ h => h) rfl dAr_divideForQuotient_52 ?_
        by_cases hr0 : x % y = 0
        · obtain ⟨g5, k5, ⟨o5, _⟩, l5, _, n5, v5⟩ := id Ar9
          refine fw_cVR (pc := 55) (As := []) (rest := []) ⟨hx, hb, hml, hown, hW⟩ (c_Na_isZero (by omega) o5) (cwV 0 hW (kw_V lm_Ar_69 im_Na_isZero se_Na_isZero ini_Na cd_Na_isZero) rfl rfl rfl (by decide +kernel) ⟨Nat.le_of_ble_eq_true rfl, Nat.le_of_ble_eq_true rfl⟩) hK hw o5 rfl rfl hl.1 rfl (Nat.le_of_ble_eq_true rfl) dAr_divideForQuotient_55 ⟨Nat.le_of_ble_eq_true rfl, Nat.le_of_ble_eq_true rfl⟩ (fun v hq => ?_)
          rw [if_pos ((nk_zero n5 v5).mpr hr0)] at hq
          subst hq
          refine W.eq (g2 := F0 m 58 ls [.int (nI 1)]) rfl ?_
          refine lv_if_ne (pc := 58) (tgt := 82) hx hb dAr_divideForQuotient_58 (by decide) (fun _ => ?_) (fun hc => absurd hc (show ¬ nI 1 = 0 by decide))
          refine lv_aload_n (pc := 82) hx hb dAr_divideForQuotient_82 rfl (lv_at hl 1 rfl) ?_
          refine fw_get (pc := 83) (ci := 0) (v := .ref (ar + 10)) (C := RAr) (T := TAr) (N := 5) hx hb hW in_Ar hown hK.1 hw A0 rfl 2 (by decide) (hW _ lf_Ar_29) (fun _ h => h) rfl dAr_divideForQuotient_83 ?_
          refine lv_aload_n (pc := 86) hx hb dAr_divideForQuotient_86 rfl (lv_at hl 1 rfl) ?_
          refine fw_get (pc := 87) (ci := 0) (v := .ref (ar + 1)) (C := RAr) (T := TAr) (N := 5) hx hb hW in_Ar hown hK.1 hw A0 rfl 0 (by decide) (hW _ lf_Ar_12) (fun _ h => h) rfl dAr_divideForQuotient_87 ?_
          refine fw_get (pc := 90) (ci := 3) (v := .ref (ar + 1 + 1)) (C := RDi) (T := TDi) (N := 3) hx hb hW in_Di hown hK.1 hw A1 rfl 0 (by decide) (hW _ lf_Ar_79) (fun _ h => h) rfl dAr_divideForQuotient_90 ?_
          obtain ⟨k6, o6⟩ := Au.ob
          refine fw_cV (pc := 93) (As := [.ref (ar + 1 + 1)]) (rest := []) ⟨hx, hb, hml, hown, hW⟩ (c_Na_become (by omega) Au Aq) (cwV 1 hW (kw_V lm_Ar_82 im_Na_become se_Na_become ini_Na cd_Na_become) rfl rfl rfl (by decide +kernel) ⟨Nat.le_of_ble_eq_true rfl, Nat.le_of_ble_eq_true rfl⟩) hK hw o6 rfl rfl hl.1 rfl (Nat.le_of_ble_eq_true rfl) dAr_divideForQuotient_93 ⟨Nat.le_of_ble_eq_true rfl, Nat.le_of_ble_eq_true rfl⟩ (fun v w4 H locs hq hw => ?_)
          obtain ⟨rfl, hV9, co3_1⟩ := hq
          have A0_ : w4 (ar) = some (.inr (0, [.ref (ar + 1), .ref (ar + 8), .ref (ar + 10), .ref (ar + 12), .ref (ar + 14)])) := (co3_1 _ (by omega) (by omega)).trans A0
          have A1_ : w4 (ar + 1) = some (.inr (3, [.ref (ar + 1 + 1), .ref (ar + 1 + 3), .ref (ar + 1 + 5)])) := (co3_1 _ (by omega) (by omega)).trans A1
          have ah_ : w4 (qa) = some (.inr (8, [.ref (qa + 1), .int (nI 0)])) := (co3_1 _ (by omega) (by omega)).trans ah
          have bh_ : w4 (qb) = some (.inr (8, [.ref (qb + 1), .int (nI 1)])) := (co3_1 _ (by omega) (by omega)).trans bh
          have A0 := A0_
          have A1 := A1_
          have ah := ah_
          have bh := bh_
          have Aq : isV cL w4 (ar + 1 + 1) (x / y) := Aq.kept (fun a h1 h2 => co3_1 a (by omega) (by omega))
          have Ar9 : isV cL w4 (ar + 1 + 3) (x % y) := Ar9.kept (fun a h1 h2 => co3_1 a (by omega) (by omega))
          have Ad : isV cL w4 (ar + 1 + 5) (ed2) := Ad.kept (fun a h1 h2 => co3_1 a (by omega) (by omega))
          have Ao : isV cL w4 (ar + 8) (1) := Ao.kept (fun a h1 h2 => co3_1 a (by omega) (by omega))
          have Ap : isV cL w4 (ar + 12) (ep) := Ap.kept (fun a h1 h2 => co3_1 a (by omega) (by omega))
          have Ab : isV cL w4 (ar + 14) (eb) := Ab.kept (fun a h1 h2 => co3_1 a (by omega) (by omega))
          have av : isV cL w4 (qa + 1) (x) := av.kept (fun a h1 h2 => co3_1 a (by omega) (by omega))
          have bv : isV cL w4 (qb + 1) (y) := bv.kept (fun a h1 h2 => co3_1 a (by omega) (by omega))
          have Au := hV9
          refine W.eq (g2 := F0 m 96 ls []) rfl ?_
          refine lv_aload_n (pc := 96) hx hb dAr_divideForQuotient_96 rfl (lv_at hl 1 rfl) ?_
          refine fw_get (pc := 97) (ci := 0) (v := .ref (ar + 10)) (C := RAr) (T := TAr) (N := 5) hx hb hW in_Ar hown hK.1 hw A0 rfl 2 (by decide) (hW _ lf_Ar_29) (fun _ h => h) rfl dAr_divideForQuotient_97 ?_
          refine lv_iload_n (pc := 100) hx hb dAr_divideForQuotient_100 rfl (lv_at hl 0 rfl) ?_
          refine lv_aload_n (pc := 101) hx hb dAr_divideForQuotient_101 rfl (lv_at hl 2 rfl) ?_
          refine fw_cS (pc := 102) (As := [.ref (ar + 10), .int (nI 1), .ref qa]) (rest := []) ⟨hx, hb, hml, hown, hW⟩ (c_Ar_store (neg := 1) (by decide) Au ⟨0, x, as, ap, ah, av, ae⟩ (by omega)) (va_cwS 3 hW (kw_S lm_Ar_62 sta_Ar_store ini_Ar cd_Ar_store) rfl rfl rfl (by decide +kernel) ⟨Nat.le_of_ble_eq_true rfl, Nat.le_of_ble_eq_true rfl⟩) hK hw rfl hl.1 rfl (Nat.le_of_ble_eq_true rfl) dAr_divideForQuotient_102 ⟨Nat.le_of_ble_eq_true rfl, Nat.le_of_ble_eq_true rfl⟩ (fun v w5 H locs hq hw => ?_)
          obtain ⟨rfl, hI, fs9⟩ := hq
          have A0_ : w5 (ar) = some (.inr (0, [.ref (ar + 1), .ref (ar + 8), .ref (ar + 10), .ref (ar + 12), .ref (ar + 14)])) := (fs9 _ (by omega)).trans A0
          have A1_ : w5 (ar + 1) = some (.inr (3, [.ref (ar + 1 + 1), .ref (ar + 1 + 3), .ref (ar + 1 + 5)])) := (fs9 _ (by omega)).trans A1
          have bh_ : w5 (qb) = some (.inr (8, [.ref (qb + 1), .int (nI 1)])) := (fs9 _ (by omega)).trans bh
          have A0 := A0_
          have A1 := A1_
          have bh := bh_
          have Aq : isV cL w5 (ar + 1 + 1) (x / y) := Aq.kept (fun a h1 h2 => fs9 a (by omega))
          have Ar9 : isV cL w5 (ar + 1 + 3) (x % y) := Ar9.kept (fun a h1 h2 => fs9 a (by omega))
          have Ad : isV cL w5 (ar + 1 + 5) (ed2) := Ad.kept (fun a h1 h2 => fs9 a (by omega))
          have Ao : isV cL w5 (ar + 8) (1) := Ao.kept (fun a h1 h2 => fs9 a (by omega))
          have Au : isV cL w5 (ar + 10) (x / y) := Au.kept (fun a h1 h2 => fs9 a (by omega))
          have Ap : isV cL w5 (ar + 12) (ep) := Ap.kept (fun a h1 h2 => fs9 a (by omega))
          have Ab : isV cL w5 (ar + 14) (eb) := Ab.kept (fun a h1 h2 => fs9 a (by omega))
          have bv : isV cL w5 (qb + 1) (y) := bv.kept (fun a h1 h2 => fs9 a (by omega))
          refine W.eq (g2 := F0 m 105 ls [.int (nI (if x / y < 2 ^ 768 then 0 else 6))]) rfl ?_
          rw [if_neg (by decide), if_pos (Or.inr hr0), Nat.add_zero] at hs9
          have hlt9 : x / y < 2 ^ 768 := by omega
          rw [if_pos hlt9] at hI
          exact fw_iret (pc := 105) hx hb hr hlocks hw dAr_divideForQuotient_105 ⟨by rw [hs9, if_pos hlt9], by rw [hs9]; exact hI, ⟨A0, A1, ⟨_, Aq⟩, ⟨_, Ar9⟩, ⟨_, Ad⟩, Ao, ⟨_, Au⟩, ⟨_, Ap⟩, ⟨_, Ab⟩⟩, (fun q h1 h2 => by rw [fs9 q (by omega), co3_1 q (by omega) (by omega), cd0_0 q (by omega)])⟩
        · obtain ⟨g7, k7, ⟨o7, _⟩, l7, _, n7, v7⟩ := id Ar9
          refine fw_cVR (pc := 55) (As := []) (rest := []) ⟨hx, hb, hml, hown, hW⟩ (c_Na_isZero (by omega) o7) (cwV 0 hW (kw_V lm_Ar_69 im_Na_isZero se_Na_isZero ini_Na cd_Na_isZero) rfl rfl rfl (by decide +kernel) ⟨Nat.le_of_ble_eq_true rfl, Nat.le_of_ble_eq_true rfl⟩) hK hw o7 rfl rfl hl.1 rfl (Nat.le_of_ble_eq_true rfl) dAr_divideForQuotient_55 ⟨Nat.le_of_ble_eq_true rfl, Nat.le_of_ble_eq_true rfl⟩ (fun v hq => ?_)
          rw [if_neg (fun h9 => hr0 ((nk_zero n7 v7).mp h9))] at hq
          subst hq
          refine W.eq (g2 := F0 m 58 ls [.int (nI 0)]) rfl ?_
          refine lv_if_ne (pc := 58) (tgt := 82) hx hb dAr_divideForQuotient_58 (by decide) (fun hc => absurd hc (fun h => h (by decide))) (fun _ => ?_)
          refine lv_aload_n (pc := 61) hx hb dAr_divideForQuotient_61 rfl (lv_at hl 1 rfl) ?_
          refine fw_get (pc := 62) (ci := 0) (v := .ref (ar + 10)) (C := RAr) (T := TAr) (N := 5) hx hb hW in_Ar hown hK.1 hw A0 rfl 2 (by decide) (hW _ lf_Ar_29) (fun _ h => h) rfl dAr_divideForQuotient_62 ?_
          refine lv_aload_n (pc := 65) hx hb dAr_divideForQuotient_65 rfl (lv_at hl 1 rfl) ?_
          refine fw_get (pc := 66) (ci := 0) (v := .ref (ar + 1)) (C := RAr) (T := TAr) (N := 5) hx hb hW in_Ar hown hK.1 hw A0 rfl 0 (by decide) (hW _ lf_Ar_12) (fun _ h => h) rfl dAr_divideForQuotient_66 ?_
          refine fw_get (pc := 69) (ci := 3) (v := .ref (ar + 1 + 1)) (C := RDi) (T := TDi) (N := 3) hx hb hW in_Di hown hK.1 hw A1 rfl 0 (by decide) (hW _ lf_Ar_79) (fun _ h => h) rfl dAr_divideForQuotient_69 ?_
          refine lv_aload_n (pc := 72) hx hb dAr_divideForQuotient_72 rfl (lv_at hl 1 rfl) ?_
          refine fw_get (pc := 73) (ci := 0) (v := .ref (ar + 8)) (C := RAr) (T := TAr) (N := 5) hx hb hW in_Ar hown hK.1 hw A0 rfl 1 (by decide) (hW _ lf_Ar_21) (fun _ h => h) rfl dAr_divideForQuotient_73 ?_
          obtain ⟨k8, o8⟩ := Au.ob
          refine fw_cV (pc := 76) (As := [.ref (ar + 1 + 1), .ref (ar + 8)]) (rest := []) ⟨hx, hb, hml, hown, hW⟩ (c_Na_becomeSum (by omega) (by omega) Au Aq Ao (Nat.lt_of_le_of_lt hqx (Nat.lt_trans hx7 p49)) (by decide +kernel)) (cwV 2 hW (kw_V lm_Ar_51 im_Na_becomeSum se_Na_becomeSum ini_Na cd_Na_becomeSum) rfl rfl rfl (by decide +kernel) ⟨Nat.le_of_ble_eq_true rfl, Nat.le_of_ble_eq_true rfl⟩) hK hw o8 rfl rfl hl.1 rfl (Nat.le_of_ble_eq_true rfl) dAr_divideForQuotient_76 ⟨Nat.le_of_ble_eq_true rfl, Nat.le_of_ble_eq_true rfl⟩ (fun v w4 H locs hq hw => ?_)
          obtain ⟨rfl, hV9, co3_1⟩ := hq
          have A0_ : w4 (ar) = some (.inr (0, [.ref (ar + 1), .ref (ar + 8), .ref (ar + 10), .ref (ar + 12), .ref (ar + 14)])) := (co3_1 _ (by omega) (by omega)).trans A0
          have A1_ : w4 (ar + 1) = some (.inr (3, [.ref (ar + 1 + 1), .ref (ar + 1 + 3), .ref (ar + 1 + 5)])) := (co3_1 _ (by omega) (by omega)).trans A1
          have ah_ : w4 (qa) = some (.inr (8, [.ref (qa + 1), .int (nI 0)])) := (co3_1 _ (by omega) (by omega)).trans ah
          have bh_ : w4 (qb) = some (.inr (8, [.ref (qb + 1), .int (nI 1)])) := (co3_1 _ (by omega) (by omega)).trans bh
          have A0 := A0_
          have A1 := A1_
          have ah := ah_
          have bh := bh_
          have Aq : isV cL w4 (ar + 1 + 1) (x / y) := Aq.kept (fun a h1 h2 => co3_1 a (by omega) (by omega))
          have Ar9 : isV cL w4 (ar + 1 + 3) (x % y) := Ar9.kept (fun a h1 h2 => co3_1 a (by omega) (by omega))
          have Ad : isV cL w4 (ar + 1 + 5) (ed2) := Ad.kept (fun a h1 h2 => co3_1 a (by omega) (by omega))
          have Ao : isV cL w4 (ar + 8) (1) := Ao.kept (fun a h1 h2 => co3_1 a (by omega) (by omega))
          have Ap : isV cL w4 (ar + 12) (ep) := Ap.kept (fun a h1 h2 => co3_1 a (by omega) (by omega))
          have Ab : isV cL w4 (ar + 14) (eb) := Ab.kept (fun a h1 h2 => co3_1 a (by omega) (by omega))
          have av : isV cL w4 (qa + 1) (x) := av.kept (fun a h1 h2 => co3_1 a (by omega) (by omega))
          have bv : isV cL w4 (qb + 1) (y) := bv.kept (fun a h1 h2 => co3_1 a (by omega) (by omega))
          have Au := hV9
          refine W.eq (g2 := F0 m 79 ls []) rfl ?_
          refine lv_goto (pc := 79) (tgt := 96) hx hb dAr_divideForQuotient_79 (by decide) ?_
          rw [if_neg hr0] at hql
          refine lv_aload_n (pc := 96) hx hb dAr_divideForQuotient_96 rfl (lv_at hl 1 rfl) ?_
          refine fw_get (pc := 97) (ci := 0) (v := .ref (ar + 10)) (C := RAr) (T := TAr) (N := 5) hx hb hW in_Ar hown hK.1 hw A0 rfl 2 (by decide) (hW _ lf_Ar_29) (fun _ h => h) rfl dAr_divideForQuotient_97 ?_
          refine lv_iload_n (pc := 100) hx hb dAr_divideForQuotient_100 rfl (lv_at hl 0 rfl) ?_
          refine lv_aload_n (pc := 101) hx hb dAr_divideForQuotient_101 rfl (lv_at hl 2 rfl) ?_
          refine fw_cS (pc := 102) (As := [.ref (ar + 10), .int (nI 1), .ref qa]) (rest := []) ⟨hx, hb, hml, hown, hW⟩ (c_Ar_store (neg := 1) (by decide) Au ⟨0, x, as, ap, ah, av, ae⟩ (by omega)) (va_cwS 3 hW (kw_S lm_Ar_62 sta_Ar_store ini_Ar cd_Ar_store) rfl rfl rfl (by decide +kernel) ⟨Nat.le_of_ble_eq_true rfl, Nat.le_of_ble_eq_true rfl⟩) hK hw rfl hl.1 rfl (Nat.le_of_ble_eq_true rfl) dAr_divideForQuotient_102 ⟨Nat.le_of_ble_eq_true rfl, Nat.le_of_ble_eq_true rfl⟩ (fun v w5 H locs hq hw => ?_)
          obtain ⟨rfl, hI, fs9⟩ := hq
          have A0_ : w5 (ar) = some (.inr (0, [.ref (ar + 1), .ref (ar + 8), .ref (ar + 10), .ref (ar + 12), .ref (ar + 14)])) := (fs9 _ (by omega)).trans A0
          have A1_ : w5 (ar + 1) = some (.inr (3, [.ref (ar + 1 + 1), .ref (ar + 1 + 3), .ref (ar + 1 + 5)])) := (fs9 _ (by omega)).trans A1
          have bh_ : w5 (qb) = some (.inr (8, [.ref (qb + 1), .int (nI 1)])) := (fs9 _ (by omega)).trans bh
          have A0 := A0_
          have A1 := A1_
          have bh := bh_
          have Aq : isV cL w5 (ar + 1 + 1) (x / y) := Aq.kept (fun a h1 h2 => fs9 a (by omega))
          have Ar9 : isV cL w5 (ar + 1 + 3) (x % y) := Ar9.kept (fun a h1 h2 => fs9 a (by omega))
          have Ad : isV cL w5 (ar + 1 + 5) (ed2) := Ad.kept (fun a h1 h2 => fs9 a (by omega))
          have Ao : isV cL w5 (ar + 8) (1) := Ao.kept (fun a h1 h2 => fs9 a (by omega))
          have Au : isV cL w5 (ar + 10) (x / y + 1) := Au.kept (fun a h1 h2 => fs9 a (by omega))
          have Ap : isV cL w5 (ar + 12) (ep) := Ap.kept (fun a h1 h2 => fs9 a (by omega))
          have Ab : isV cL w5 (ar + 14) (eb) := Ab.kept (fun a h1 h2 => fs9 a (by omega))
          have bv : isV cL w5 (qb + 1) (y) := bv.kept (fun a h1 h2 => fs9 a (by omega))
          refine W.eq (g2 := F0 m 105 ls [.int (nI (if x / y + 1 < 2 ^ 768 then 0 else 6))]) rfl ?_
          rw [if_neg (by decide), if_neg (fun h9 => h9.elim (by decide) hr0)] at hs9
          have hlt9 : x / y + 1 < 2 ^ 768 := by omega
          rw [if_pos hlt9] at hI
          exact fw_iret (pc := 105) hx hb hr hlocks hw dAr_divideForQuotient_105 ⟨by rw [hs9, if_pos hlt9], by rw [hs9]; exact hI, ⟨A0, A1, ⟨_, Aq⟩, ⟨_, Ar9⟩, ⟨_, Ad⟩, Ao, ⟨_, Au⟩, ⟨_, Ap⟩, ⟨_, Ab⟩⟩, (fun q h1 h2 => by rw [fs9 q (by omega), co3_1 q (by omega) (by omega), cd0_0 q (by omega)])⟩
    · rcases (show sg2 = 0 ∨ sg2 = 1 by omega) with rfl | rfl
      · refine lv_aload_n (pc := 27) hx hb dAr_divideForQuotient_27 rfl (lv_at hl 1 rfl) ?_
        refine fw_get (pc := 28) (ci := 8) (v := .int (nI 1)) (C := RWh) (T := TWh) (N := 2) hx hb hW in_Wh hown hK.1 hw ah rfl 1 (by decide) (hW _ lf_Ar_43) (fun _ h => h) rfl dAr_divideForQuotient_28 ?_
        refine lv_aload_n (pc := 31) hx hb dAr_divideForQuotient_31 rfl (lv_at hl 2 rfl) ?_
        refine fw_get (pc := 32) (ci := 8) (v := .int (nI 0)) (C := RWh) (T := TWh) (N := 2) hx hb hW in_Wh hown hK.1 hw bh rfl 1 (by decide) (hW _ lf_Ar_43) (fun _ h => h) rfl dAr_divideForQuotient_32 ?_
        refine lv_icmp_eq (pc := 35) (tgt := 42) hx hb dAr_divideForQuotient_35 (by decide) (fun hc => absurd hc (by decide)) (fun _ => ?_)
        refine lv_iconst (pc := 38) (v := (nI 1)) hx hb dAr_divideForQuotient_38 (by decide) ?_
        refine lv_goto (pc := 39) (tgt := 43) hx hb dAr_divideForQuotient_39 (by decide) ?_
        refine lv_istore_n (pc := 43) (lv' := [(3, .int (nI 1)), (0, .ref ar), (1, .ref qa), (2, .ref qb)]) hx hb dAr_divideForQuotient_43 rfl hl (by decide) rfl (fun ls hl => ?_)
        refine lv_iload_n (pc := 44) hx hb dAr_divideForQuotient_44 rfl (lv_at hl 0 rfl) ?_
        refine lv_if_eq (pc := 45) (tgt := 82) hx hb dAr_divideForQuotient_45 (by decide) (fun hc => absurd hc (show ¬ nI 1 = 0 by decide)) (fun _ => ?_)
        refine lv_aload_n (pc := 48) hx hb dAr_divideForQuotient_48 rfl (lv_at hl 1 rfl) ?_
        refine fw_get (pc := 49) (ci := 0) (v := .ref (ar + 1)) (C := RAr) (T := TAr) (N := 5) hx hb hW in_Ar hown hK.1 hw A0 rfl 0 (by decide) (hW _ lf_Ar_12) (fun _ h => h) rfl dAr_divideForQuotient_49 ?_
        refine fw_get (pc := 52) (ci := 3) (v := .ref (ar + 1 + 3)) (C := RDi) (T := TDi) (N := 3) hx hb hW in_Di hown hK.1 hw A1 rfl 1 (by decide) (hW _ lf_Ar_76) (fun _ h => h) rfl dAr_divideForQuotient_52 ?_
        by_cases hr0 : x % y = 0
        · obtain ⟨g9, k9, ⟨o9, _⟩, l9, _, n9, v9⟩ := id Ar9
          refine fw_cVR (pc := 55) (As := []) (rest := []) ⟨hx, hb, hml, hown, hW⟩ (c_Na_isZero (by omega) o9) (cwV 0 hW (kw_V lm_Ar_69 im_Na_isZero se_Na_isZero ini_Na cd_Na_isZero) rfl rfl rfl (by decide +kernel) ⟨Nat.le_of_ble_eq_true rfl, Nat.le_of_ble_eq_true rfl⟩) hK hw o9 rfl rfl hl.1 rfl (Nat.le_of_ble_eq_true rfl) dAr_divideForQuotient_55 ⟨Nat.le_of_ble_eq_true rfl, Nat.le_of_ble_eq_true rfl⟩ (fun v hq => ?_)
          rw [if_pos ((nk_zero n9 v9).mpr hr0)] at hq
          subst hq
          refine W.eq (g2 := F0 m 58 ls [.int (nI 1)]) rfl ?_
          refine lv_if_ne (pc := 58) (tgt := 82) hx hb dAr_divideForQuotient_58 (by decide) (fun _ => ?_) (fun hc => absurd hc (show ¬ nI 1 = 0 by decide))
          refine lv_aload_n (pc := 82) hx hb dAr_divideForQuotient_82 rfl (lv_at hl 1 rfl) ?_
          refine fw_get (pc := 83) (ci := 0) (v := .ref (ar + 10)) (C := RAr) (T := TAr) (N := 5) hx hb hW in_Ar hown hK.1 hw A0 rfl 2 (by decide) (hW _ lf_Ar_29) (fun _ h => h) rfl dAr_divideForQuotient_83 ?_
          refine lv_aload_n (pc := 86) hx hb dAr_divideForQuotient_86 rfl (lv_at hl 1 rfl) ?_
          refine fw_get (pc := 87) (ci := 0) (v := .ref (ar + 1)) (C := RAr) (T := TAr) (N := 5) hx hb hW in_Ar hown hK.1 hw A0 rfl 0 (by decide) (hW _ lf_Ar_12) (fun _ h => h) rfl dAr_divideForQuotient_87 ?_
          refine fw_get (pc := 90) (ci := 3) (v := .ref (ar + 1 + 1)) (C := RDi) (T := TDi) (N := 3) hx hb hW in_Di hown hK.1 hw A1 rfl 0 (by decide) (hW _ lf_Ar_79) (fun _ h => h) rfl dAr_divideForQuotient_90 ?_
          obtain ⟨k10, o10⟩ := Au.ob
          refine fw_cV (pc := 93) (As := [.ref (ar + 1 + 1)]) (rest := []) ⟨hx, hb, hml, hown, hW⟩ (c_Na_become (by omega) Au Aq) (cwV 1 hW (kw_V lm_Ar_82 im_Na_become se_Na_become ini_Na cd_Na_become) rfl rfl rfl (by decide +kernel) ⟨Nat.le_of_ble_eq_true rfl, Nat.le_of_ble_eq_true rfl⟩) hK hw o10 rfl rfl hl.1 rfl (Nat.le_of_ble_eq_true rfl) dAr_divideForQuotient_93 ⟨Nat.le_of_ble_eq_true rfl, Nat.le_of_ble_eq_true rfl⟩ (fun v w6 H locs hq hw => ?_)
          obtain ⟨rfl, hV9, co5_1⟩ := hq
          have A0_ : w6 (ar) = some (.inr (0, [.ref (ar + 1), .ref (ar + 8), .ref (ar + 10), .ref (ar + 12), .ref (ar + 14)])) := (co5_1 _ (by omega) (by omega)).trans A0
          have A1_ : w6 (ar + 1) = some (.inr (3, [.ref (ar + 1 + 1), .ref (ar + 1 + 3), .ref (ar + 1 + 5)])) := (co5_1 _ (by omega) (by omega)).trans A1
          have ah_ : w6 (qa) = some (.inr (8, [.ref (qa + 1), .int (nI 1)])) := (co5_1 _ (by omega) (by omega)).trans ah
          have bh_ : w6 (qb) = some (.inr (8, [.ref (qb + 1), .int (nI 0)])) := (co5_1 _ (by omega) (by omega)).trans bh
          have A0 := A0_
          have A1 := A1_
          have ah := ah_
          have bh := bh_
          have Aq : isV cL w6 (ar + 1 + 1) (x / y) := Aq.kept (fun a h1 h2 => co5_1 a (by omega) (by omega))
          have Ar9 : isV cL w6 (ar + 1 + 3) (x % y) := Ar9.kept (fun a h1 h2 => co5_1 a (by omega) (by omega))
          have Ad : isV cL w6 (ar + 1 + 5) (ed2) := Ad.kept (fun a h1 h2 => co5_1 a (by omega) (by omega))
          have Ao : isV cL w6 (ar + 8) (1) := Ao.kept (fun a h1 h2 => co5_1 a (by omega) (by omega))
          have Ap : isV cL w6 (ar + 12) (ep) := Ap.kept (fun a h1 h2 => co5_1 a (by omega) (by omega))
          have Ab : isV cL w6 (ar + 14) (eb) := Ab.kept (fun a h1 h2 => co5_1 a (by omega) (by omega))
          have av : isV cL w6 (qa + 1) (x) := av.kept (fun a h1 h2 => co5_1 a (by omega) (by omega))
          have bv : isV cL w6 (qb + 1) (y) := bv.kept (fun a h1 h2 => co5_1 a (by omega) (by omega))
          have Au := hV9
          refine W.eq (g2 := F0 m 96 ls []) rfl ?_
          refine lv_aload_n (pc := 96) hx hb dAr_divideForQuotient_96 rfl (lv_at hl 1 rfl) ?_
          refine fw_get (pc := 97) (ci := 0) (v := .ref (ar + 10)) (C := RAr) (T := TAr) (N := 5) hx hb hW in_Ar hown hK.1 hw A0 rfl 2 (by decide) (hW _ lf_Ar_29) (fun _ h => h) rfl dAr_divideForQuotient_97 ?_
          refine lv_iload_n (pc := 100) hx hb dAr_divideForQuotient_100 rfl (lv_at hl 0 rfl) ?_
          refine lv_aload_n (pc := 101) hx hb dAr_divideForQuotient_101 rfl (lv_at hl 2 rfl) ?_
          refine fw_cS (pc := 102) (As := [.ref (ar + 10), .int (nI 1), .ref qa]) (rest := []) ⟨hx, hb, hml, hown, hW⟩ (c_Ar_store (neg := 1) (by decide) Au ⟨1, x, as, ap, ah, av, ae⟩ (by omega)) (va_cwS 3 hW (kw_S lm_Ar_62 sta_Ar_store ini_Ar cd_Ar_store) rfl rfl rfl (by decide +kernel) ⟨Nat.le_of_ble_eq_true rfl, Nat.le_of_ble_eq_true rfl⟩) hK hw rfl hl.1 rfl (Nat.le_of_ble_eq_true rfl) dAr_divideForQuotient_102 ⟨Nat.le_of_ble_eq_true rfl, Nat.le_of_ble_eq_true rfl⟩ (fun v w7 H locs hq hw => ?_)
          obtain ⟨rfl, hI, fs9⟩ := hq
          have A0_ : w7 (ar) = some (.inr (0, [.ref (ar + 1), .ref (ar + 8), .ref (ar + 10), .ref (ar + 12), .ref (ar + 14)])) := (fs9 _ (by omega)).trans A0
          have A1_ : w7 (ar + 1) = some (.inr (3, [.ref (ar + 1 + 1), .ref (ar + 1 + 3), .ref (ar + 1 + 5)])) := (fs9 _ (by omega)).trans A1
          have bh_ : w7 (qb) = some (.inr (8, [.ref (qb + 1), .int (nI 0)])) := (fs9 _ (by omega)).trans bh
          have A0 := A0_
          have A1 := A1_
          have bh := bh_
          have Aq : isV cL w7 (ar + 1 + 1) (x / y) := Aq.kept (fun a h1 h2 => fs9 a (by omega))
          have Ar9 : isV cL w7 (ar + 1 + 3) (x % y) := Ar9.kept (fun a h1 h2 => fs9 a (by omega))
          have Ad : isV cL w7 (ar + 1 + 5) (ed2) := Ad.kept (fun a h1 h2 => fs9 a (by omega))
          have Ao : isV cL w7 (ar + 8) (1) := Ao.kept (fun a h1 h2 => fs9 a (by omega))
          have Au : isV cL w7 (ar + 10) (x / y) := Au.kept (fun a h1 h2 => fs9 a (by omega))
          have Ap : isV cL w7 (ar + 12) (ep) := Ap.kept (fun a h1 h2 => fs9 a (by omega))
          have Ab : isV cL w7 (ar + 14) (eb) := Ab.kept (fun a h1 h2 => fs9 a (by omega))
          have bv : isV cL w7 (qb + 1) (y) := bv.kept (fun a h1 h2 => fs9 a (by omega))
          refine W.eq (g2 := F0 m 105 ls [.int (nI (if x / y < 2 ^ 768 then 0 else 6))]) rfl ?_
          rw [if_neg (by decide), if_pos (Or.inr hr0), Nat.add_zero] at hs9
          have hlt9 : x / y < 2 ^ 768 := by omega
          rw [if_pos hlt9] at hI
          exact fw_iret (pc := 105) hx hb hr hlocks hw dAr_divideForQuotient_105 ⟨by rw [hs9, if_pos hlt9], by rw [hs9]; exact hI, ⟨A0, A1, ⟨_, Aq⟩, ⟨_, Ar9⟩, ⟨_, Ad⟩, Ao, ⟨_, Au⟩, ⟨_, Ap⟩, ⟨_, Ab⟩⟩, (fun q h1 h2 => by rw [fs9 q (by omega), co5_1 q (by omega) (by omega), cd0_0 q (by omega)])⟩
        · obtain ⟨g11, k11, ⟨o11, _⟩, l11, _, n11, v11⟩ := id Ar9
          refine fw_cVR (pc := 55) (As := []) (rest := []) ⟨hx, hb, hml, hown, hW⟩ (c_Na_isZero (by omega) o11) (cwV 0 hW (kw_V lm_Ar_69 im_Na_isZero se_Na_isZero ini_Na cd_Na_isZero) rfl rfl rfl (by decide +kernel) ⟨Nat.le_of_ble_eq_true rfl, Nat.le_of_ble_eq_true rfl⟩) hK hw o11 rfl rfl hl.1 rfl (Nat.le_of_ble_eq_true rfl) dAr_divideForQuotient_55 ⟨Nat.le_of_ble_eq_true rfl, Nat.le_of_ble_eq_true rfl⟩ (fun v hq => ?_)
          rw [if_neg (fun h9 => hr0 ((nk_zero n11 v11).mp h9))] at hq
          subst hq
          refine W.eq (g2 := F0 m 58 ls [.int (nI 0)]) rfl ?_
          refine lv_if_ne (pc := 58) (tgt := 82) hx hb dAr_divideForQuotient_58 (by decide) (fun hc => absurd hc (fun h => h (by decide))) (fun _ => ?_)
          refine lv_aload_n (pc := 61) hx hb dAr_divideForQuotient_61 rfl (lv_at hl 1 rfl) ?_
          refine fw_get (pc := 62) (ci := 0) (v := .ref (ar + 10)) (C := RAr) (T := TAr) (N := 5) hx hb hW in_Ar hown hK.1 hw A0 rfl 2 (by decide) (hW _ lf_Ar_29) (fun _ h => h) rfl dAr_divideForQuotient_62 ?_
          refine lv_aload_n (pc := 65) hx hb dAr_divideForQuotient_65 rfl (lv_at hl 1 rfl) ?_
          refine fw_get (pc := 66) (ci := 0) (v := .ref (ar + 1)) (C := RAr) (T := TAr) (N := 5) hx hb hW in_Ar hown hK.1 hw A0 rfl 0 (by decide) (hW _ lf_Ar_12) (fun _ h => h) rfl dAr_divideForQuotient_66 ?_
          refine fw_get (pc := 69) (ci := 3) (v := .ref (ar + 1 + 1)) (C := RDi) (T := TDi) (N := 3) hx hb hW in_Di hown hK.1 hw A1 rfl 0 (by decide) (hW _ lf_Ar_79) (fun _ h => h) rfl dAr_divideForQuotient_69 ?_
          refine lv_aload_n (pc := 72) hx hb dAr_divideForQuotient_72 rfl (lv_at hl 1 rfl) ?_
          refine fw_get (pc := 73) (ci := 0) (v := .ref (ar + 8)) (C := RAr) (T := TAr) (N := 5) hx hb hW in_Ar hown hK.1 hw A0 rfl 1 (by decide) (hW _ lf_Ar_21) (fun _ h => h) rfl dAr_divideForQuotient_73 ?_
          obtain ⟨k12, o12⟩ := Au.ob
          refine fw_cV (pc := 76) (As := [.ref (ar + 1 + 1), .ref (ar + 8)]) (rest := []) ⟨hx, hb, hml, hown, hW⟩ (c_Na_becomeSum (by omega) (by omega) Au Aq Ao (Nat.lt_of_le_of_lt hqx (Nat.lt_trans hx7 p49)) (by decide +kernel)) (cwV 2 hW (kw_V lm_Ar_51 im_Na_becomeSum se_Na_becomeSum ini_Na cd_Na_becomeSum) rfl rfl rfl (by decide +kernel) ⟨Nat.le_of_ble_eq_true rfl, Nat.le_of_ble_eq_true rfl⟩) hK hw o12 rfl rfl hl.1 rfl (Nat.le_of_ble_eq_true rfl) dAr_divideForQuotient_76 ⟨Nat.le_of_ble_eq_true rfl, Nat.le_of_ble_eq_true rfl⟩ (fun v w6 H locs hq hw => ?_)
          obtain ⟨rfl, hV9, co5_1⟩ := hq
          have A0_ : w6 (ar) = some (.inr (0, [.ref (ar + 1), .ref (ar + 8), .ref (ar + 10), .ref (ar + 12), .ref (ar + 14)])) := (co5_1 _ (by omega) (by omega)).trans A0
          have A1_ : w6 (ar + 1) = some (.inr (3, [.ref (ar + 1 + 1), .ref (ar + 1 + 3), .ref (ar + 1 + 5)])) := (co5_1 _ (by omega) (by omega)).trans A1
          have ah_ : w6 (qa) = some (.inr (8, [.ref (qa + 1), .int (nI 1)])) := (co5_1 _ (by omega) (by omega)).trans ah
          have bh_ : w6 (qb) = some (.inr (8, [.ref (qb + 1), .int (nI 0)])) := (co5_1 _ (by omega) (by omega)).trans bh
          have A0 := A0_
          have A1 := A1_
          have ah := ah_
          have bh := bh_
          have Aq : isV cL w6 (ar + 1 + 1) (x / y) := Aq.kept (fun a h1 h2 => co5_1 a (by omega) (by omega))
          have Ar9 : isV cL w6 (ar + 1 + 3) (x % y) := Ar9.kept (fun a h1 h2 => co5_1 a (by omega) (by omega))
          have Ad : isV cL w6 (ar + 1 + 5) (ed2) := Ad.kept (fun a h1 h2 => co5_1 a (by omega) (by omega))
          have Ao : isV cL w6 (ar + 8) (1) := Ao.kept (fun a h1 h2 => co5_1 a (by omega) (by omega))
          have Ap : isV cL w6 (ar + 12) (ep) := Ap.kept (fun a h1 h2 => co5_1 a (by omega) (by omega))
          have Ab : isV cL w6 (ar + 14) (eb) := Ab.kept (fun a h1 h2 => co5_1 a (by omega) (by omega))
          have av : isV cL w6 (qa + 1) (x) := av.kept (fun a h1 h2 => co5_1 a (by omega) (by omega))
          have bv : isV cL w6 (qb + 1) (y) := bv.kept (fun a h1 h2 => co5_1 a (by omega) (by omega))
          have Au := hV9
          refine W.eq (g2 := F0 m 79 ls []) rfl ?_
          refine lv_goto (pc := 79) (tgt := 96) hx hb dAr_divideForQuotient_79 (by decide) ?_
          rw [if_neg hr0] at hql
          refine lv_aload_n (pc := 96) hx hb dAr_divideForQuotient_96 rfl (lv_at hl 1 rfl) ?_
          refine fw_get (pc := 97) (ci := 0) (v := .ref (ar + 10)) (C := RAr) (T := TAr) (N := 5) hx hb hW in_Ar hown hK.1 hw A0 rfl 2 (by decide) (hW _ lf_Ar_29) (fun _ h => h) rfl dAr_divideForQuotient_97 ?_
          refine lv_iload_n (pc := 100) hx hb dAr_divideForQuotient_100 rfl (lv_at hl 0 rfl) ?_
          refine lv_aload_n (pc := 101) hx hb dAr_divideForQuotient_101 rfl (lv_at hl 2 rfl) ?_
          refine fw_cS (pc := 102) (As := [.ref (ar + 10), .int (nI 1), .ref qa]) (rest := []) ⟨hx, hb, hml, hown, hW⟩ (c_Ar_store (neg := 1) (by decide) Au ⟨1, x, as, ap, ah, av, ae⟩ (by omega)) (va_cwS 3 hW (kw_S lm_Ar_62 sta_Ar_store ini_Ar cd_Ar_store) rfl rfl rfl (by decide +kernel) ⟨Nat.le_of_ble_eq_true rfl, Nat.le_of_ble_eq_true rfl⟩) hK hw rfl hl.1 rfl (Nat.le_of_ble_eq_true rfl) dAr_divideForQuotient_102 ⟨Nat.le_of_ble_eq_true rfl, Nat.le_of_ble_eq_true rfl⟩ (fun v w7 H locs hq hw => ?_)
          obtain ⟨rfl, hI, fs9⟩ := hq
          have A0_ : w7 (ar) = some (.inr (0, [.ref (ar + 1), .ref (ar + 8), .ref (ar + 10), .ref (ar + 12), .ref (ar + 14)])) := (fs9 _ (by omega)).trans A0
          have A1_ : w7 (ar + 1) = some (.inr (3, [.ref (ar + 1 + 1), .ref (ar + 1 + 3), .ref (ar + 1 + 5)])) := (fs9 _ (by omega)).trans A1
          have bh_ : w7 (qb) = some (.inr (8, [.ref (qb + 1), .int (nI 0)])) := (fs9 _ (by omega)).trans bh
          have A0 := A0_
          have A1 := A1_
          have bh := bh_
          have Aq : isV cL w7 (ar + 1 + 1) (x / y) := Aq.kept (fun a h1 h2 => fs9 a (by omega))
          have Ar9 : isV cL w7 (ar + 1 + 3) (x % y) := Ar9.kept (fun a h1 h2 => fs9 a (by omega))
          have Ad : isV cL w7 (ar + 1 + 5) (ed2) := Ad.kept (fun a h1 h2 => fs9 a (by omega))
          have Ao : isV cL w7 (ar + 8) (1) := Ao.kept (fun a h1 h2 => fs9 a (by omega))
          have Au : isV cL w7 (ar + 10) (x / y + 1) := Au.kept (fun a h1 h2 => fs9 a (by omega))
          have Ap : isV cL w7 (ar + 12) (ep) := Ap.kept (fun a h1 h2 => fs9 a (by omega))
          have Ab : isV cL w7 (ar + 14) (eb) := Ab.kept (fun a h1 h2 => fs9 a (by omega))
          have bv : isV cL w7 (qb + 1) (y) := bv.kept (fun a h1 h2 => fs9 a (by omega))
          refine W.eq (g2 := F0 m 105 ls [.int (nI (if x / y + 1 < 2 ^ 768 then 0 else 6))]) rfl ?_
          rw [if_neg (by decide), if_neg (fun h9 => h9.elim (by decide) hr0)] at hs9
          have hlt9 : x / y + 1 < 2 ^ 768 := by omega
          rw [if_pos hlt9] at hI
          exact fw_iret (pc := 105) hx hb hr hlocks hw dAr_divideForQuotient_105 ⟨by rw [hs9, if_pos hlt9], by rw [hs9]; exact hI, ⟨A0, A1, ⟨_, Aq⟩, ⟨_, Ar9⟩, ⟨_, Ad⟩, Ao, ⟨_, Au⟩, ⟨_, Ap⟩, ⟨_, Ab⟩⟩, (fun q h1 h2 => by rw [fs9 q (by omega), co5_1 q (by omega) (by omega), cd0_0 q (by omega)])⟩
      · refine lv_aload_n (pc := 27) hx hb dAr_divideForQuotient_27 rfl (lv_at hl 1 rfl) ?_
        refine fw_get (pc := 28) (ci := 8) (v := .int (nI 1)) (C := RWh) (T := TWh) (N := 2) hx hb hW in_Wh hown hK.1 hw ah rfl 1 (by decide) (hW _ lf_Ar_43) (fun _ h => h) rfl dAr_divideForQuotient_28 ?_
        refine lv_aload_n (pc := 31) hx hb dAr_divideForQuotient_31 rfl (lv_at hl 2 rfl) ?_
        refine fw_get (pc := 32) (ci := 8) (v := .int (nI 1)) (C := RWh) (T := TWh) (N := 2) hx hb hW in_Wh hown hK.1 hw bh rfl 1 (by decide) (hW _ lf_Ar_43) (fun _ h => h) rfl dAr_divideForQuotient_32 ?_
        refine lv_icmp_eq (pc := 35) (tgt := 42) hx hb dAr_divideForQuotient_35 (by decide) (fun _ => ?_) (fun hc => absurd rfl hc)
        refine lv_iconst (pc := 42) (v := (nI 0)) hx hb dAr_divideForQuotient_42 (by decide) ?_
        refine lv_istore_n (pc := 43) (lv' := [(3, .int (nI 0)), (0, .ref ar), (1, .ref qa), (2, .ref qb)]) hx hb dAr_divideForQuotient_43 rfl hl (by decide) rfl (fun ls hl => ?_)
        refine lv_iload_n (pc := 44) hx hb dAr_divideForQuotient_44 rfl (lv_at hl 0 rfl) ?_
        refine lv_if_eq (pc := 45) (tgt := 82) hx hb dAr_divideForQuotient_45 (by decide) (fun _ => ?_) (fun hc => absurd (show nI 0 = 0 by decide) hc)
        refine lv_aload_n (pc := 82) hx hb dAr_divideForQuotient_82 rfl (lv_at hl 1 rfl) ?_
        refine fw_get (pc := 83) (ci := 0) (v := .ref (ar + 10)) (C := RAr) (T := TAr) (N := 5) hx hb hW in_Ar hown hK.1 hw A0 rfl 2 (by decide) (hW _ lf_Ar_29) (fun _ h => h) rfl dAr_divideForQuotient_83 ?_
        refine lv_aload_n (pc := 86) hx hb dAr_divideForQuotient_86 rfl (lv_at hl 1 rfl) ?_
        refine fw_get (pc := 87) (ci := 0) (v := .ref (ar + 1)) (C := RAr) (T := TAr) (N := 5) hx hb hW in_Ar hown hK.1 hw A0 rfl 0 (by decide) (hW _ lf_Ar_12) (fun _ h => h) rfl dAr_divideForQuotient_87 ?_
        refine fw_get (pc := 90) (ci := 3) (v := .ref (ar + 1 + 1)) (C := RDi) (T := TDi) (N := 3) hx hb hW in_Di hown hK.1 hw A1 rfl 0 (by decide) (hW _ lf_Ar_79) (fun _ h => h) rfl dAr_divideForQuotient_90 ?_
        obtain ⟨k13, o13⟩ := Au.ob
        refine fw_cV (pc := 93) (As := [.ref (ar + 1 + 1)]) (rest := []) ⟨hx, hb, hml, hown, hW⟩ (c_Na_become (by omega) Au Aq) (cwV 1 hW (kw_V lm_Ar_82 im_Na_become se_Na_become ini_Na cd_Na_become) rfl rfl rfl (by decide +kernel) ⟨Nat.le_of_ble_eq_true rfl, Nat.le_of_ble_eq_true rfl⟩) hK hw o13 rfl rfl hl.1 rfl (Nat.le_of_ble_eq_true rfl) dAr_divideForQuotient_93 ⟨Nat.le_of_ble_eq_true rfl, Nat.le_of_ble_eq_true rfl⟩ (fun v w8 H locs hq hw => ?_)
        obtain ⟨rfl, hV9, co7_1⟩ := hq
        have A0_ : w8 (ar) = some (.inr (0, [.ref (ar + 1), .ref (ar + 8), .ref (ar + 10), .ref (ar + 12), .ref (ar + 14)])) := (co7_1 _ (by omega) (by omega)).trans A0
        have A1_ : w8 (ar + 1) = some (.inr (3, [.ref (ar + 1 + 1), .ref (ar + 1 + 3), .ref (ar + 1 + 5)])) := (co7_1 _ (by omega) (by omega)).trans A1
        have ah_ : w8 (qa) = some (.inr (8, [.ref (qa + 1), .int (nI 1)])) := (co7_1 _ (by omega) (by omega)).trans ah
        have bh_ : w8 (qb) = some (.inr (8, [.ref (qb + 1), .int (nI 1)])) := (co7_1 _ (by omega) (by omega)).trans bh
        have A0 := A0_
        have A1 := A1_
        have ah := ah_
        have bh := bh_
        have Aq : isV cL w8 (ar + 1 + 1) (x / y) := Aq.kept (fun a h1 h2 => co7_1 a (by omega) (by omega))
        have Ar9 : isV cL w8 (ar + 1 + 3) (x % y) := Ar9.kept (fun a h1 h2 => co7_1 a (by omega) (by omega))
        have Ad : isV cL w8 (ar + 1 + 5) (ed2) := Ad.kept (fun a h1 h2 => co7_1 a (by omega) (by omega))
        have Ao : isV cL w8 (ar + 8) (1) := Ao.kept (fun a h1 h2 => co7_1 a (by omega) (by omega))
        have Ap : isV cL w8 (ar + 12) (ep) := Ap.kept (fun a h1 h2 => co7_1 a (by omega) (by omega))
        have Ab : isV cL w8 (ar + 14) (eb) := Ab.kept (fun a h1 h2 => co7_1 a (by omega) (by omega))
        have av : isV cL w8 (qa + 1) (x) := av.kept (fun a h1 h2 => co7_1 a (by omega) (by omega))
        have bv : isV cL w8 (qb + 1) (y) := bv.kept (fun a h1 h2 => co7_1 a (by omega) (by omega))
        have Au := hV9
        refine W.eq (g2 := F0 m 96 ls []) rfl ?_
        refine lv_aload_n (pc := 96) hx hb dAr_divideForQuotient_96 rfl (lv_at hl 1 rfl) ?_
        refine fw_get (pc := 97) (ci := 0) (v := .ref (ar + 10)) (C := RAr) (T := TAr) (N := 5) hx hb hW in_Ar hown hK.1 hw A0 rfl 2 (by decide) (hW _ lf_Ar_29) (fun _ h => h) rfl dAr_divideForQuotient_97 ?_
        refine lv_iload_n (pc := 100) hx hb dAr_divideForQuotient_100 rfl (lv_at hl 0 rfl) ?_
        refine lv_aload_n (pc := 101) hx hb dAr_divideForQuotient_101 rfl (lv_at hl 2 rfl) ?_
        refine fw_cS (pc := 102) (As := [.ref (ar + 10), .int (nI 0), .ref qa]) (rest := []) ⟨hx, hb, hml, hown, hW⟩ (c_Ar_store (neg := 0) (by decide) Au ⟨1, x, as, ap, ah, av, ae⟩ (by omega)) (va_cwS 3 hW (kw_S lm_Ar_62 sta_Ar_store ini_Ar cd_Ar_store) rfl rfl rfl (by decide +kernel) ⟨Nat.le_of_ble_eq_true rfl, Nat.le_of_ble_eq_true rfl⟩) hK hw rfl hl.1 rfl (Nat.le_of_ble_eq_true rfl) dAr_divideForQuotient_102 ⟨Nat.le_of_ble_eq_true rfl, Nat.le_of_ble_eq_true rfl⟩ (fun v w9 H locs hq hw => ?_)
        obtain ⟨rfl, hI, fs9⟩ := hq
        have A0_ : w9 (ar) = some (.inr (0, [.ref (ar + 1), .ref (ar + 8), .ref (ar + 10), .ref (ar + 12), .ref (ar + 14)])) := (fs9 _ (by omega)).trans A0
        have A1_ : w9 (ar + 1) = some (.inr (3, [.ref (ar + 1 + 1), .ref (ar + 1 + 3), .ref (ar + 1 + 5)])) := (fs9 _ (by omega)).trans A1
        have bh_ : w9 (qb) = some (.inr (8, [.ref (qb + 1), .int (nI 1)])) := (fs9 _ (by omega)).trans bh
        have A0 := A0_
        have A1 := A1_
        have bh := bh_
        have Aq : isV cL w9 (ar + 1 + 1) (x / y) := Aq.kept (fun a h1 h2 => fs9 a (by omega))
        have Ar9 : isV cL w9 (ar + 1 + 3) (x % y) := Ar9.kept (fun a h1 h2 => fs9 a (by omega))
        have Ad : isV cL w9 (ar + 1 + 5) (ed2) := Ad.kept (fun a h1 h2 => fs9 a (by omega))
        have Ao : isV cL w9 (ar + 8) (1) := Ao.kept (fun a h1 h2 => fs9 a (by omega))
        have Au : isV cL w9 (ar + 10) (x / y) := Au.kept (fun a h1 h2 => fs9 a (by omega))
        have Ap : isV cL w9 (ar + 12) (ep) := Ap.kept (fun a h1 h2 => fs9 a (by omega))
        have Ab : isV cL w9 (ar + 14) (eb) := Ab.kept (fun a h1 h2 => fs9 a (by omega))
        have bv : isV cL w9 (qb + 1) (y) := bv.kept (fun a h1 h2 => fs9 a (by omega))
        refine W.eq (g2 := F0 m 105 ls [.int (nI (if x / y < 2 ^ 768 then 0 else 6))]) rfl ?_
        rw [if_pos rfl, if_pos (Or.inl rfl), Nat.add_zero] at hs9
        have hlt9 : x / y < 2 ^ 768 := by omega
        rw [if_pos hlt9] at hI
        exact fw_iret (pc := 105) hx hb hr hlocks hw dAr_divideForQuotient_105 ⟨by rw [hs9, if_pos hlt9], by rw [hs9]; exact hI, ⟨A0, A1, ⟨_, Aq⟩, ⟨_, Ar9⟩, ⟨_, Ad⟩, Ao, ⟨_, Au⟩, ⟨_, Ap⟩, ⟨_, Ab⟩⟩, (fun q h1 h2 => by rw [fs9 q (by omega), co7_1 q (by omega) (by omega), cd0_0 q (by omega)])⟩

set_option maxHeartbeats 4000000 in
set_option maxRecDepth 100000 in
theorem c_Ar_floorRest10 {ar qa qb : Nat} {a b : Int} (hA : arS cL w ar) (ha : isI cL w qa a) (hb2 : isI cL w qb b) (hpa : qa + 2 < ar ∨ ar + 15 < qa) (hpb : qb + 2 < ar ∨ ar + 15 < qb) (hab : qa + 2 < qb ∨ qb + 2 < qa) (ha7 : a.natAbs < 2 ^ 768) (hb7 : b.natAbs < 2 ^ 768) (hy0 : b ≠ 0) : fw_C l yAr_floorRest (Cond.code yAr_floorRest cAr_floorRest 4 none :: kWs) ({ frames := 4, cells := 0, slots := 0, locals := 107 } : Room) D kCl (kty cI cL cQ) z [.ref ar, .ref qa, .ref qb, .ref (ar + 10)] (sz) w 0 0 (fun v w' => v = none ∧ isV cL w' (ar + 10) (rmg a b) ∧ arS cL w' ar ∧ ∀ q, q < ar ∨ ar + 16 ≤ q → w' q = w q) := by
  refine fw_ofW (cc := cAr_floorRest) (maxL := 4) (ret := none) (by decide) rfl (Nat.le_of_ble_eq_true rfl) ?_
  intro p e s m args below meth c hx hb hr hts hown hlocks hname hml hK H ls hw hl
  have hW : ∀ w ∈ kWs, w.before args s = true := fun w h => hts w (List.mem_cons_of_mem _ h)
  have hown : s.vm.findClass RAr = some m.cls := hown
  have hl : lv_has ls 4 [(0, .ref ar), (1, .ref qa), (2, .ref qb), (3, .ref (ar + 10))] := hl
  obtain ⟨A0, A1, ⟨e_q, Aq⟩, ⟨er, Ar9⟩, ⟨ed, Ad⟩, Ao, ⟨eo, Au⟩, ⟨ep, Ap⟩, ⟨eb, Ab⟩⟩ := id hA
  obtain ⟨sg, x, as, ap, ah, av, ae⟩ := id ha
  have hx7 : x < 2 ^ 768 := by rw [← wv_abs sg x, ae]; exact ha7
  obtain ⟨sg2, y, bs, bp, bh, bv, be⟩ := id hb2
  have hy7 : y < 2 ^ 768 := by rw [← wv_abs sg2 y, be]; exact hb7
  have hsa : sgz a = sg := by rw [← ae]; exact sgz_wv as ap
  have hsb : sgz b = sg2 := by rw [← be]; exact sgz_wv bs bp
  have hna : a.natAbs = x := by rw [← ae, wv_abs]
  have hnb : b.natAbs = y := by rw [← be, wv_abs]
  have p49 : 2 ^ 768 < nB ^ 49 := by decide +kernel
  have hy9 : 0 < y := Nat.pos_of_ne_zero fun h9 => hy0 (by rw [← be]; exact (wv_z0 bs).mpr h9)
  refine lv_aload_n (pc := 0) hx hb dAr_floorRest_0 rfl (lv_at hl 0 rfl) ?_
  refine fw_get (pc := 1) (ci := 0) (v := .ref (ar + 1)) (C := RAr) (T := TAr) (N := 5) hx hb hW in_Ar hown hK.1 hw A0 rfl 0 (by decide) (hW _ lf_Ar_12) (fun _ h => h) rfl dAr_floorRest_1 ?_
  refine lv_aload_n (pc := 4) hx hb dAr_floorRest_4 rfl (lv_at hl 1 rfl) ?_
  refine fw_get (pc := 5) (ci := 8) (v := .ref (qa + 1)) (C := RWh) (T := TWh) (N := 2) hx hb hW in_Wh hown hK.1 hw ah rfl 0 (by decide) (hW _ lf_Ar_38) (fun _ h => h) rfl dAr_floorRest_5 ?_
  refine lv_aload_n (pc := 8) hx hb dAr_floorRest_8 rfl (lv_at hl 2 rfl) ?_
  refine fw_get (pc := 9) (ci := 8) (v := .ref (qb + 1)) (C := RWh) (T := TWh) (N := 2) hx hb hW in_Wh hown hK.1 hw bh rfl 0 (by decide) (hW _ lf_Ar_38) (fun _ h => h) rfl dAr_floorRest_9 ?_
  refine fw_cV (pc := 12) (As := [.ref (qa + 1), .ref (qb + 1)]) (rest := []) ⟨hx, hb, hml, hown, hW⟩ (c_Di_divide A1 Aq Ar9 Ad av bv (by omega) (by omega) hy9 (Nat.lt_trans hx7 p49)) (cwV 2 hW (kw_V lm_Ar_73 im_Di_divide se_Di_divide ini_Di cd_Di_divide) rfl rfl rfl (by decide +kernel) ⟨Nat.le_of_ble_eq_true rfl, Nat.le_of_ble_eq_true rfl⟩) hK hw A1 rfl rfl hl.1 rfl (Nat.le_of_ble_eq_true rfl) dAr_floorRest_12 ⟨Nat.le_of_ble_eq_true rfl, Nat.le_of_ble_eq_true rfl⟩ (fun v w1 H locs hq hw => ?_)
  obtain ⟨rfl, hq9, hr9, ⟨ed2, hd9⟩, cd0_0⟩ := hq
  have A0_ : w1 (ar) = some (.inr (0, [.ref (ar + 1), .ref (ar + 8), .ref (ar + 10), .ref (ar + 12), .ref (ar + 14)])) := (cd0_0 _ (by omega)).trans A0
  have A1_ : w1 (ar + 1) = some (.inr (3, [.ref (ar + 1 + 1), .ref (ar + 1 + 3), .ref (ar + 1 + 5)])) := (cd0_0 _ (by omega)).trans A1
  have ah_ : w1 (qa) = some (.inr (8, [.ref (qa + 1), .int (nI sg)])) := (cd0_0 _ (by omega)).trans ah
  have bh_ : w1 (qb) = some (.inr (8, [.ref (qb + 1), .int (nI sg2)])) := (cd0_0 _ (by omega)).trans bh
  have A0 := A0_
  have A1 := A1_
  have ah := ah_
  have bh := bh_
  have Ao : isV cL w1 (ar + 8) (1) := Ao.kept (fun a h1 h2 => cd0_0 a (by omega))
  have Au : isV cL w1 (ar + 10) (eo) := Au.kept (fun a h1 h2 => cd0_0 a (by omega))
  have Ap : isV cL w1 (ar + 12) (ep) := Ap.kept (fun a h1 h2 => cd0_0 a (by omega))
  have Ab : isV cL w1 (ar + 14) (eb) := Ab.kept (fun a h1 h2 => cd0_0 a (by omega))
  have av : isV cL w1 (qa + 1) (x) := av.kept (fun a h1 h2 => cd0_0 a (by omega))
  have bv : isV cL w1 (qb + 1) (y) := bv.kept (fun a h1 h2 => cd0_0 a (by omega))
  have Aq := hq9
  have Ar9 := hr9
  have Ad := hd9
  clear hq9 hr9 hd9
  refine W.eq (g2 := F0 m 15 ls []) rfl ?_
  have hrl := Nat.mod_lt x hy9
  have hs9 : rmg a b = if sg = sg2 ∨ x % y = 0 then x % y else y - x % y := by unfold rmg; rw [hsa, hsb, hna, hnb]
  rcases (show sg = 0 ∨ sg = 1 by omega) with rfl | rfl
  · rcases (show sg2 = 0 ∨ sg2 = 1 by omega) with rfl | rfl
    · refine lv_aload_n (pc := 15) hx hb dAr_floorRest_15 rfl (lv_at hl 1 rfl) ?_
      refine fw_get (pc := 16) (ci := 8) (v := .int (nI 0)) (C := RWh) (T := TWh) (N := 2) hx hb hW in_Wh hown hK.1 hw ah rfl 1 (by decide) (hW _ lf_Ar_43) (fun _ h => h) rfl dAr_floorRest_16 ?_
      refine lv_aload_n (pc := 19) hx hb dAr_floorRest_19 rfl (lv_at hl 2 rfl) ?_
      refine fw_get (pc := 20) (ci := 8) (v := .int (nI 0)) (C := RWh) (T := TWh) (N := 2) hx hb hW in_Wh hown hK.1 hw bh rfl 1 (by decide) (hW _ lf_Ar_43) (fun _ h => h) rfl dAr_floorRest_20 ?_
      refine lv_icmp_eq (pc := 23) (tgt := 57) hx hb dAr_floorRest_23 (by decide) (fun _ => ?_) (fun hc => absurd rfl hc)
      refine lv_aload_n (pc := 57) hx hb dAr_floorRest_57 rfl (lv_at hl 3 rfl) ?_
      refine lv_aload_n (pc := 58) hx hb dAr_floorRest_58 rfl (lv_at hl 0 rfl) ?_
      refine fw_get (pc := 59) (ci := 0) (v := .ref (ar + 1)) (C := RAr) (T := TAr) (N := 5) hx hb hW in_Ar hown hK.1 hw A0 rfl 0 (by decide) (hW _ lf_Ar_12) (fun _ h => h) rfl dAr_floorRest_59 ?_
      refine fw_get (pc := 62) (ci := 3) (v := .ref (ar + 1 + 3)) (C := RDi) (T := TDi) (N := 3) hx hb hW in_Di hown hK.1 hw A1 rfl 1 (by decide) (hW _ lf_Ar_76) (fun _ h => h) rfl dAr_floorRest_62 ?_
      obtain ⟨k14, o14⟩ := Au.ob
      refine fw_cV (pc := 65) (As := [.ref (ar + 1 + 3)]) (rest := []) ⟨hx, hb, hml, hown, hW⟩ (c_Na_become (by omega) Au Ar9) (cwV 1 hW (kw_V lm_Ar_82 im_Na_become se_Na_become ini_Na cd_Na_become) rfl rfl rfl (by decide +kernel) ⟨Nat.le_of_ble_eq_true rfl, Nat.le_of_ble_eq_true rfl⟩) hK hw o14 rfl rfl hl.1 rfl (Nat.le_of_ble_eq_true rfl) dAr_floorRest_65 ⟨Nat.le_of_ble_eq_true rfl, Nat.le_of_ble_eq_true rfl⟩ (fun v w2 H locs hq hw => ?_)
      obtain ⟨rfl, hV9, co1_1⟩ := hq
      have A0_ : w2 (ar) = some (.inr (0, [.ref (ar + 1), .ref (ar + 8), .ref (ar + 10), .ref (ar + 12), .ref (ar + 14)])) := (co1_1 _ (by omega) (by omega)).trans A0
      have A1_ : w2 (ar + 1) = some (.inr (3, [.ref (ar + 1 + 1), .ref (ar + 1 + 3), .ref (ar + 1 + 5)])) := (co1_1 _ (by omega) (by omega)).trans A1
      have ah_ : w2 (qa) = some (.inr (8, [.ref (qa + 1), .int (nI 0)])) := (co1_1 _ (by omega) (by omega)).trans ah
      have bh_ : w2 (qb) = some (.inr (8, [.ref (qb + 1), .int (nI 0)])) := (co1_1 _ (by omega) (by omega)).trans bh
      have A0 := A0_
      have A1 := A1_
      have ah := ah_
      have bh := bh_
      have Aq : isV cL w2 (ar + 1 + 1) (x / y) := Aq.kept (fun a h1 h2 => co1_1 a (by omega) (by omega))
      have Ar9 : isV cL w2 (ar + 1 + 3) (x % y) := Ar9.kept (fun a h1 h2 => co1_1 a (by omega) (by omega))
      have Ad : isV cL w2 (ar + 1 + 5) (ed2) := Ad.kept (fun a h1 h2 => co1_1 a (by omega) (by omega))
      have Ao : isV cL w2 (ar + 8) (1) := Ao.kept (fun a h1 h2 => co1_1 a (by omega) (by omega))
      have Ap : isV cL w2 (ar + 12) (ep) := Ap.kept (fun a h1 h2 => co1_1 a (by omega) (by omega))
      have Ab : isV cL w2 (ar + 14) (eb) := Ab.kept (fun a h1 h2 => co1_1 a (by omega) (by omega))
      have av : isV cL w2 (qa + 1) (x) := av.kept (fun a h1 h2 => co1_1 a (by omega) (by omega))
      have bv : isV cL w2 (qb + 1) (y) := bv.kept (fun a h1 h2 => co1_1 a (by omega) (by omega))
      have Au := hV9
      refine W.eq (g2 := F0 m 68 ls []) rfl ?_
      rw [if_pos (Or.inl rfl)] at hs9
      exact fw_vret (pc := 68) hx hb hr hlocks hw dAr_floorRest_68 ⟨rfl, by rw [hs9]; exact Au, ⟨A0, A1, ⟨_, Aq⟩, ⟨_, Ar9⟩, ⟨_, Ad⟩, Ao, ⟨_, Au⟩, ⟨_, Ap⟩, ⟨_, Ab⟩⟩, (fun q h1 => by rw [co1_1 q (by omega) (by omega), cd0_0 q (by omega)])⟩
    · refine lv_aload_n (pc := 15) hx hb dAr_floorRest_15 rfl (lv_at hl 1 rfl) ?_
      refine fw_get (pc := 16) (ci := 8) (v := .int (nI 0)) (C := RWh) (T := TWh) (N := 2) hx hb hW in_Wh hown hK.1 hw ah rfl 1 (by decide) (hW _ lf_Ar_43) (fun _ h => h) rfl dAr_floorRest_16 ?_
      refine lv_aload_n (pc := 19) hx hb dAr_floorRest_19 rfl (lv_at hl 2 rfl) ?_
      refine fw_get (pc := 20) (ci := 8) (v := .int (nI 1)) (C := RWh) (T := TWh) (N := 2) hx hb hW in_Wh hown hK.1 hw bh rfl 1 (by decide) (hW _ lf_Ar_43) (fun _ h => h) rfl dAr_floorRest_20 ?_
      refine lv_icmp_eq (pc := 23) (tgt := 57) hx hb dAr_floorRest_23 (by decide) (fun hc => absurd hc (by decide)) (fun _ => ?_)
      refine lv_aload_n (pc := 26) hx hb dAr_floorRest_26 rfl (lv_at hl 0 rfl) ?_
      refine fw_get (pc := 27) (ci := 0) (v := .ref (ar + 1)) (C := RAr) (T := TAr) (N := 5) hx hb hW in_Ar hown hK.1 hw A0 rfl 0 (by decide) (hW _ lf_Ar_12) (fun _ h => h) rfl dAr_floorRest_27 ?_
      refine fw_get (pc := 30) (ci := 3) (v := .ref (ar + 1 + 3)) (C := RDi) (T := TDi) (N := 3) hx hb hW in_Di hown hK.1 hw A1 rfl 1 (by decide) (hW _ lf_Ar_76) (fun _ h => h) rfl dAr_floorRest_30 ?_
      by_cases hr0 : x % y = 0
      · obtain ⟨g15, k15, ⟨o15, _⟩, l15, _, n15, v15⟩ := id Ar9
        refine fw_cVR (pc := 33) (As := []) (rest := []) ⟨hx, hb, hml, hown, hW⟩ (c_Na_isZero (by omega) o15) (cwV 0 hW (kw_V lm_Ar_69 im_Na_isZero se_Na_isZero ini_Na cd_Na_isZero) rfl rfl rfl (by decide +kernel) ⟨Nat.le_of_ble_eq_true rfl, Nat.le_of_ble_eq_true rfl⟩) hK hw o15 rfl rfl hl.1 rfl (Nat.le_of_ble_eq_true rfl) dAr_floorRest_33 ⟨Nat.le_of_ble_eq_true rfl, Nat.le_of_ble_eq_true rfl⟩ (fun v hq => ?_)
        rw [if_pos ((nk_zero n15 v15).mpr hr0)] at hq
        subst hq
        refine W.eq (g2 := F0 m 36 ls [.int (nI 1)]) rfl ?_
        refine lv_if_ne (pc := 36) (tgt := 57) hx hb dAr_floorRest_36 (by decide) (fun _ => ?_) (fun hc => absurd hc (show ¬ nI 1 = 0 by decide))
        refine lv_aload_n (pc := 57) hx hb dAr_floorRest_57 rfl (lv_at hl 3 rfl) ?_
        refine lv_aload_n (pc := 58) hx hb dAr_floorRest_58 rfl (lv_at hl 0 rfl) ?_
        refine fw_get (pc := 59) (ci := 0) (v := .ref (ar + 1)) (C := RAr) (T := TAr) (N := 5) hx hb hW in_Ar hown hK.1 hw A0 rfl 0 (by decide) (hW _ lf_Ar_12) (fun _ h => h) rfl dAr_floorRest_59 ?_
        refine fw_get (pc := 62) (ci := 3) (v := .ref (ar + 1 + 3)) (C := RDi) (T := TDi) (N := 3) hx hb hW in_Di hown hK.1 hw A1 rfl 1 (by decide) (hW _ lf_Ar_76) (fun _ h => h) rfl dAr_floorRest_62 ?_
        obtain ⟨k16, o16⟩ := Au.ob
        refine fw_cV (pc := 65) (As := [.ref (ar + 1 + 3)]) (rest := []) ⟨hx, hb, hml, hown, hW⟩ (c_Na_become (by omega) Au Ar9) (cwV 1 hW (kw_V lm_Ar_82 im_Na_become se_Na_become ini_Na cd_Na_become) rfl rfl rfl (by decide +kernel) ⟨Nat.le_of_ble_eq_true rfl, Nat.le_of_ble_eq_true rfl⟩) hK hw o16 rfl rfl hl.1 rfl (Nat.le_of_ble_eq_true rfl) dAr_floorRest_65 ⟨Nat.le_of_ble_eq_true rfl, Nat.le_of_ble_eq_true rfl⟩ (fun v w3 H locs hq hw => ?_)
        obtain ⟨rfl, hV9, co2_1⟩ := hq
        have A0_ : w3 (ar) = some (.inr (0, [.ref (ar + 1), .ref (ar + 8), .ref (ar + 10), .ref (ar + 12), .ref (ar + 14)])) := (co2_1 _ (by omega) (by omega)).trans A0
        have A1_ : w3 (ar + 1) = some (.inr (3, [.ref (ar + 1 + 1), .ref (ar + 1 + 3), .ref (ar + 1 + 5)])) := (co2_1 _ (by omega) (by omega)).trans A1
        have ah_ : w3 (qa) = some (.inr (8, [.ref (qa + 1), .int (nI 0)])) := (co2_1 _ (by omega) (by omega)).trans ah
        have bh_ : w3 (qb) = some (.inr (8, [.ref (qb + 1), .int (nI 1)])) := (co2_1 _ (by omega) (by omega)).trans bh
        have A0 := A0_
        have A1 := A1_
        have ah := ah_
        have bh := bh_
        have Aq : isV cL w3 (ar + 1 + 1) (x / y) := Aq.kept (fun a h1 h2 => co2_1 a (by omega) (by omega))
        have Ar9 : isV cL w3 (ar + 1 + 3) (x % y) := Ar9.kept (fun a h1 h2 => co2_1 a (by omega) (by omega))
        have Ad : isV cL w3 (ar + 1 + 5) (ed2) := Ad.kept (fun a h1 h2 => co2_1 a (by omega) (by omega))
        have Ao : isV cL w3 (ar + 8) (1) := Ao.kept (fun a h1 h2 => co2_1 a (by omega) (by omega))
        have Ap : isV cL w3 (ar + 12) (ep) := Ap.kept (fun a h1 h2 => co2_1 a (by omega) (by omega))
        have Ab : isV cL w3 (ar + 14) (eb) := Ab.kept (fun a h1 h2 => co2_1 a (by omega) (by omega))
        have av : isV cL w3 (qa + 1) (x) := av.kept (fun a h1 h2 => co2_1 a (by omega) (by omega))
        have bv : isV cL w3 (qb + 1) (y) := bv.kept (fun a h1 h2 => co2_1 a (by omega) (by omega))
        have Au := hV9
        refine W.eq (g2 := F0 m 68 ls []) rfl ?_
        rw [if_pos (Or.inr hr0)] at hs9
        exact fw_vret (pc := 68) hx hb hr hlocks hw dAr_floorRest_68 ⟨rfl, by rw [hs9]; exact Au, ⟨A0, A1, ⟨_, Aq⟩, ⟨_, Ar9⟩, ⟨_, Ad⟩, Ao, ⟨_, Au⟩, ⟨_, Ap⟩, ⟨_, Ab⟩⟩, (fun q h1 => by rw [co2_1 q (by omega) (by omega), cd0_0 q (by omega)])⟩
      · obtain ⟨g17, k17, ⟨o17, _⟩, l17, _, n17, v17⟩ := id Ar9
        refine fw_cVR (pc := 33) (As := []) (rest := []) ⟨hx, hb, hml, hown, hW⟩ (c_Na_isZero (by omega) o17) (cwV 0 hW (kw_V lm_Ar_69 im_Na_isZero se_Na_isZero ini_Na cd_Na_isZero) rfl rfl rfl (by decide +kernel) ⟨Nat.le_of_ble_eq_true rfl, Nat.le_of_ble_eq_true rfl⟩) hK hw o17 rfl rfl hl.1 rfl (Nat.le_of_ble_eq_true rfl) dAr_floorRest_33 ⟨Nat.le_of_ble_eq_true rfl, Nat.le_of_ble_eq_true rfl⟩ (fun v hq => ?_)
        rw [if_neg (fun h9 => hr0 ((nk_zero n17 v17).mp h9))] at hq
        subst hq
        refine W.eq (g2 := F0 m 36 ls [.int (nI 0)]) rfl ?_
        refine lv_if_ne (pc := 36) (tgt := 57) hx hb dAr_floorRest_36 (by decide) (fun hc => absurd hc (fun h => h (by decide))) (fun _ => ?_)
        refine lv_aload_n (pc := 39) hx hb dAr_floorRest_39 rfl (lv_at hl 3 rfl) ?_
        refine lv_aload_n (pc := 40) hx hb dAr_floorRest_40 rfl (lv_at hl 2 rfl) ?_
        refine fw_get (pc := 41) (ci := 8) (v := .ref (qb + 1)) (C := RWh) (T := TWh) (N := 2) hx hb hW in_Wh hown hK.1 hw bh rfl 0 (by decide) (hW _ lf_Ar_38) (fun _ h => h) rfl dAr_floorRest_41 ?_
        refine lv_aload_n (pc := 44) hx hb dAr_floorRest_44 rfl (lv_at hl 0 rfl) ?_
        refine fw_get (pc := 45) (ci := 0) (v := .ref (ar + 1)) (C := RAr) (T := TAr) (N := 5) hx hb hW in_Ar hown hK.1 hw A0 rfl 0 (by decide) (hW _ lf_Ar_12) (fun _ h => h) rfl dAr_floorRest_45 ?_
        refine fw_get (pc := 48) (ci := 3) (v := .ref (ar + 1 + 3)) (C := RDi) (T := TDi) (N := 3) hx hb hW in_Di hown hK.1 hw A1 rfl 1 (by decide) (hW _ lf_Ar_76) (fun _ h => h) rfl dAr_floorRest_48 ?_
        obtain ⟨k18, o18⟩ := Au.ob
        refine fw_cV (pc := 51) (As := [.ref (qb + 1), .ref (ar + 1 + 3)]) (rest := []) ⟨hx, hb, hml, hown, hW⟩ (c_Na_becomeDifference (by omega) (by omega) Au bv Ar9 (Nat.le_of_lt hrl)) (cwV 2 hW (kw_V lm_Ar_59 im_Na_becomeDifference se_Na_becomeDifference ini_Na cd_Na_becomeDifference) rfl rfl rfl (by decide +kernel) ⟨Nat.le_of_ble_eq_true rfl, Nat.le_of_ble_eq_true rfl⟩) hK hw o18 rfl rfl hl.1 rfl (Nat.le_of_ble_eq_true rfl) dAr_floorRest_51 ⟨Nat.le_of_ble_eq_true rfl, Nat.le_of_ble_eq_true rfl⟩ (fun v w3 H locs hq hw => ?_)
        obtain ⟨rfl, hV9, co2_1⟩ := hq
        have A0_ : w3 (ar) = some (.inr (0, [.ref (ar + 1), .ref (ar + 8), .ref (ar + 10), .ref (ar + 12), .ref (ar + 14)])) := (co2_1 _ (by omega) (by omega)).trans A0
        have A1_ : w3 (ar + 1) = some (.inr (3, [.ref (ar + 1 + 1), .ref (ar + 1 + 3), .ref (ar + 1 + 5)])) := (co2_1 _ (by omega) (by omega)).trans A1
        have ah_ : w3 (qa) = some (.inr (8, [.ref (qa + 1), .int (nI 0)])) := (co2_1 _ (by omega) (by omega)).trans ah
        have bh_ : w3 (qb) = some (.inr (8, [.ref (qb + 1), .int (nI 1)])) := (co2_1 _ (by omega) (by omega)).trans bh
        have A0 := A0_
        have A1 := A1_
        have ah := ah_
        have bh := bh_
        have Aq : isV cL w3 (ar + 1 + 1) (x / y) := Aq.kept (fun a h1 h2 => co2_1 a (by omega) (by omega))
        have Ar9 : isV cL w3 (ar + 1 + 3) (x % y) := Ar9.kept (fun a h1 h2 => co2_1 a (by omega) (by omega))
        have Ad : isV cL w3 (ar + 1 + 5) (ed2) := Ad.kept (fun a h1 h2 => co2_1 a (by omega) (by omega))
        have Ao : isV cL w3 (ar + 8) (1) := Ao.kept (fun a h1 h2 => co2_1 a (by omega) (by omega))
        have Ap : isV cL w3 (ar + 12) (ep) := Ap.kept (fun a h1 h2 => co2_1 a (by omega) (by omega))
        have Ab : isV cL w3 (ar + 14) (eb) := Ab.kept (fun a h1 h2 => co2_1 a (by omega) (by omega))
        have av : isV cL w3 (qa + 1) (x) := av.kept (fun a h1 h2 => co2_1 a (by omega) (by omega))
        have bv : isV cL w3 (qb + 1) (y) := bv.kept (fun a h1 h2 => co2_1 a (by omega) (by omega))
        have Au := hV9
        refine W.eq (g2 := F0 m 54 ls []) rfl ?_
        refine lv_goto (pc := 54) (tgt := 68) hx hb dAr_floorRest_54 (by decide) ?_
        rw [if_neg (fun h9 => h9.elim (by decide) hr0)] at hs9
        exact fw_vret (pc := 68) hx hb hr hlocks hw dAr_floorRest_68 ⟨rfl, by rw [hs9]; exact Au, ⟨A0, A1, ⟨_, Aq⟩, ⟨_, Ar9⟩, ⟨_, Ad⟩, Ao, ⟨_, Au⟩, ⟨_, Ap⟩, ⟨_, Ab⟩⟩, (fun q h1 => by rw [co2_1 q (by omega) (by omega), cd0_0 q (by omega)])⟩
  · rcases (show sg2 = 0 ∨ sg2 = 1 by omega) with rfl | rfl
    · refine lv_aload_n (pc := 15) hx hb dAr_floorRest_15 rfl (lv_at hl 1 rfl) ?_
      refine fw_get (pc := 16) (ci := 8) (v := .int (nI 1)) (C := RWh) (T := TWh) (N := 2) hx hb hW in_Wh hown hK.1 hw ah rfl 1 (by decide) (hW _ lf_Ar_43) (fun _ h => h) rfl dAr_floorRest_16 ?_
      refine lv_aload_n (pc := 19) hx hb dAr_floorRest_19 rfl (lv_at hl 2 rfl) ?_
      refine fw_get (pc := 20) (ci := 8) (v := .int (nI 0)) (C := RWh) (T := TWh) (N := 2) hx hb hW in_Wh hown hK.1 hw bh rfl 1 (by decide) (hW _ lf_Ar_43) (fun _ h => h) rfl dAr_floorRest_20 ?_
      refine lv_icmp_eq (pc := 23) (tgt := 57) hx hb dAr_floorRest_23 (by decide) (fun hc => absurd hc (by decide)) (fun _ => ?_)
      refine lv_aload_n (pc := 26) hx hb dAr_floorRest_26 rfl (lv_at hl 0 rfl) ?_
      refine fw_get (pc := 27) (ci := 0) (v := .ref (ar + 1)) (C := RAr) (T := TAr) (N := 5) hx hb hW in_Ar hown hK.1 hw A0 rfl 0 (by decide) (hW _ lf_Ar_12) (fun _ h => h) rfl dAr_floorRest_27 ?_
      refine fw_get (pc := 30) (ci := 3) (v := .ref (ar + 1 + 3)) (C := RDi) (T := TDi) (N := 3) hx hb hW in_Di hown hK.1 hw A1 rfl 1 (by decide) (hW _ lf_Ar_76) (fun _ h => h) rfl dAr_floorRest_30 ?_
      by_cases hr0 : x % y = 0
      · obtain ⟨g19, k19, ⟨o19, _⟩, l19, _, n19, v19⟩ := id Ar9
        refine fw_cVR (pc := 33) (As := []) (rest := []) ⟨hx, hb, hml, hown, hW⟩ (c_Na_isZero (by omega) o19) (cwV 0 hW (kw_V lm_Ar_69 im_Na_isZero se_Na_isZero ini_Na cd_Na_isZero) rfl rfl rfl (by decide +kernel) ⟨Nat.le_of_ble_eq_true rfl, Nat.le_of_ble_eq_true rfl⟩) hK hw o19 rfl rfl hl.1 rfl (Nat.le_of_ble_eq_true rfl) dAr_floorRest_33 ⟨Nat.le_of_ble_eq_true rfl, Nat.le_of_ble_eq_true rfl⟩ (fun v hq => ?_)
        rw [if_pos ((nk_zero n19 v19).mpr hr0)] at hq
        subst hq
        refine W.eq (g2 := F0 m 36 ls [.int (nI 1)]) rfl ?_
        refine lv_if_ne (pc := 36) (tgt := 57) hx hb dAr_floorRest_36 (by decide) (fun _ => ?_) (fun hc => absurd hc (show ¬ nI 1 = 0 by decide))
        refine lv_aload_n (pc := 57) hx hb dAr_floorRest_57 rfl (lv_at hl 3 rfl) ?_
        refine lv_aload_n (pc := 58) hx hb dAr_floorRest_58 rfl (lv_at hl 0 rfl) ?_
        refine fw_get (pc := 59) (ci := 0) (v := .ref (ar + 1)) (C := RAr) (T := TAr) (N := 5) hx hb hW in_Ar hown hK.1 hw A0 rfl 0 (by decide) (hW _ lf_Ar_12) (fun _ h => h) rfl dAr_floorRest_59 ?_
        refine fw_get (pc := 62) (ci := 3) (v := .ref (ar + 1 + 3)) (C := RDi) (T := TDi) (N := 3) hx hb hW in_Di hown hK.1 hw A1 rfl 1 (by decide) (hW _ lf_Ar_76) (fun _ h => h) rfl dAr_floorRest_62 ?_
        obtain ⟨k20, o20⟩ := Au.ob
        refine fw_cV (pc := 65) (As := [.ref (ar + 1 + 3)]) (rest := []) ⟨hx, hb, hml, hown, hW⟩ (c_Na_become (by omega) Au Ar9) (cwV 1 hW (kw_V lm_Ar_82 im_Na_become se_Na_become ini_Na cd_Na_become) rfl rfl rfl (by decide +kernel) ⟨Nat.le_of_ble_eq_true rfl, Nat.le_of_ble_eq_true rfl⟩) hK hw o20 rfl rfl hl.1 rfl (Nat.le_of_ble_eq_true rfl) dAr_floorRest_65 ⟨Nat.le_of_ble_eq_true rfl, Nat.le_of_ble_eq_true rfl⟩ (fun v w4 H locs hq hw => ?_)
        obtain ⟨rfl, hV9, co3_1⟩ := hq
        have A0_ : w4 (ar) = some (.inr (0, [.ref (ar + 1), .ref (ar + 8), .ref (ar + 10), .ref (ar + 12), .ref (ar + 14)])) := (co3_1 _ (by omega) (by omega)).trans A0
        have A1_ : w4 (ar + 1) = some (.inr (3, [.ref (ar + 1 + 1), .ref (ar + 1 + 3), .ref (ar + 1 + 5)])) := (co3_1 _ (by omega) (by omega)).trans A1
        have ah_ : w4 (qa) = some (.inr (8, [.ref (qa + 1), .int (nI 1)])) := (co3_1 _ (by omega) (by omega)).trans ah
        have bh_ : w4 (qb) = some (.inr (8, [.ref (qb + 1), .int (nI 0)])) := (co3_1 _ (by omega) (by omega)).trans bh
        have A0 := A0_
        have A1 := A1_
        have ah := ah_
        have bh := bh_
        have Aq : isV cL w4 (ar + 1 + 1) (x / y) := Aq.kept (fun a h1 h2 => co3_1 a (by omega) (by omega))
        have Ar9 : isV cL w4 (ar + 1 + 3) (x % y) := Ar9.kept (fun a h1 h2 => co3_1 a (by omega) (by omega))
        have Ad : isV cL w4 (ar + 1 + 5) (ed2) := Ad.kept (fun a h1 h2 => co3_1 a (by omega) (by omega))
        have Ao : isV cL w4 (ar + 8) (1) := Ao.kept (fun a h1 h2 => co3_1 a (by omega) (by omega))
        have Ap : isV cL w4 (ar + 12) (ep) := Ap.kept (fun a h1 h2 => co3_1 a (by omega) (by omega))
        have Ab : isV cL w4 (ar + 14) (eb) := Ab.kept (fun a h1 h2 => co3_1 a (by omega) (by omega))
        have av : isV cL w4 (qa + 1) (x) := av.kept (fun a h1 h2 => co3_1 a (by omega) (by omega))
        have bv : isV cL w4 (qb + 1) (y) := bv.kept (fun a h1 h2 => co3_1 a (by omega) (by omega))
        have Au := hV9
        refine W.eq (g2 := F0 m 68 ls []) rfl ?_
        rw [if_pos (Or.inr hr0)] at hs9
        exact fw_vret (pc := 68) hx hb hr hlocks hw dAr_floorRest_68 ⟨rfl, by rw [hs9]; exact Au, ⟨A0, A1, ⟨_, Aq⟩, ⟨_, Ar9⟩, ⟨_, Ad⟩, Ao, ⟨_, Au⟩, ⟨_, Ap⟩, ⟨_, Ab⟩⟩, (fun q h1 => by rw [co3_1 q (by omega) (by omega), cd0_0 q (by omega)])⟩
      · obtain ⟨g21, k21, ⟨o21, _⟩, l21, _, n21, v21⟩ := id Ar9
        refine fw_cVR (pc := 33) (As := []) (rest := []) ⟨hx, hb, hml, hown, hW⟩ (c_Na_isZero (by omega) o21) (cwV 0 hW (kw_V lm_Ar_69 im_Na_isZero se_Na_isZero ini_Na cd_Na_isZero) rfl rfl rfl (by decide +kernel) ⟨Nat.le_of_ble_eq_true rfl, Nat.le_of_ble_eq_true rfl⟩) hK hw o21 rfl rfl hl.1 rfl (Nat.le_of_ble_eq_true rfl) dAr_floorRest_33 ⟨Nat.le_of_ble_eq_true rfl, Nat.le_of_ble_eq_true rfl⟩ (fun v hq => ?_)
        rw [if_neg (fun h9 => hr0 ((nk_zero n21 v21).mp h9))] at hq
        subst hq
        refine W.eq (g2 := F0 m 36 ls [.int (nI 0)]) rfl ?_
        refine lv_if_ne (pc := 36) (tgt := 57) hx hb dAr_floorRest_36 (by decide) (fun hc => absurd hc (fun h => h (by decide))) (fun _ => ?_)
        refine lv_aload_n (pc := 39) hx hb dAr_floorRest_39 rfl (lv_at hl 3 rfl) ?_
        refine lv_aload_n (pc := 40) hx hb dAr_floorRest_40 rfl (lv_at hl 2 rfl) ?_
        refine fw_get (pc := 41) (ci := 8) (v := .ref (qb + 1)) (C := RWh) (T := TWh) (N := 2) hx hb hW in_Wh hown hK.1 hw bh rfl 0 (by decide) (hW _ lf_Ar_38) (fun _ h => h) rfl dAr_floorRest_41 ?_
        refine lv_aload_n (pc := 44) hx hb dAr_floorRest_44 rfl (lv_at hl 0 rfl) ?_
        refine fw_get (pc := 45) (ci := 0) (v := .ref (ar + 1)) (C := RAr) (T := TAr) (N := 5) hx hb hW in_Ar hown hK.1 hw A0 rfl 0 (by decide) (hW _ lf_Ar_12) (fun _ h => h) rfl dAr_floorRest_45 ?_
        refine fw_get (pc := 48) (ci := 3) (v := .ref (ar + 1 + 3)) (C := RDi) (T := TDi) (N := 3) hx hb hW in_Di hown hK.1 hw A1 rfl 1 (by decide) (hW _ lf_Ar_76) (fun _ h => h) rfl dAr_floorRest_48 ?_
        obtain ⟨k22, o22⟩ := Au.ob
        refine fw_cV (pc := 51) (As := [.ref (qb + 1), .ref (ar + 1 + 3)]) (rest := []) ⟨hx, hb, hml, hown, hW⟩ (c_Na_becomeDifference (by omega) (by omega) Au bv Ar9 (Nat.le_of_lt hrl)) (cwV 2 hW (kw_V lm_Ar_59 im_Na_becomeDifference se_Na_becomeDifference ini_Na cd_Na_becomeDifference) rfl rfl rfl (by decide +kernel) ⟨Nat.le_of_ble_eq_true rfl, Nat.le_of_ble_eq_true rfl⟩) hK hw o22 rfl rfl hl.1 rfl (Nat.le_of_ble_eq_true rfl) dAr_floorRest_51 ⟨Nat.le_of_ble_eq_true rfl, Nat.le_of_ble_eq_true rfl⟩ (fun v w4 H locs hq hw => ?_)
        obtain ⟨rfl, hV9, co3_1⟩ := hq
        have A0_ : w4 (ar) = some (.inr (0, [.ref (ar + 1), .ref (ar + 8), .ref (ar + 10), .ref (ar + 12), .ref (ar + 14)])) := (co3_1 _ (by omega) (by omega)).trans A0
        have A1_ : w4 (ar + 1) = some (.inr (3, [.ref (ar + 1 + 1), .ref (ar + 1 + 3), .ref (ar + 1 + 5)])) := (co3_1 _ (by omega) (by omega)).trans A1
        have ah_ : w4 (qa) = some (.inr (8, [.ref (qa + 1), .int (nI 1)])) := (co3_1 _ (by omega) (by omega)).trans ah
        have bh_ : w4 (qb) = some (.inr (8, [.ref (qb + 1), .int (nI 0)])) := (co3_1 _ (by omega) (by omega)).trans bh
        have A0 := A0_
        have A1 := A1_
        have ah := ah_
        have bh := bh_
        have Aq : isV cL w4 (ar + 1 + 1) (x / y) := Aq.kept (fun a h1 h2 => co3_1 a (by omega) (by omega))
        have Ar9 : isV cL w4 (ar + 1 + 3) (x % y) := Ar9.kept (fun a h1 h2 => co3_1 a (by omega) (by omega))
        have Ad : isV cL w4 (ar + 1 + 5) (ed2) := Ad.kept (fun a h1 h2 => co3_1 a (by omega) (by omega))
        have Ao : isV cL w4 (ar + 8) (1) := Ao.kept (fun a h1 h2 => co3_1 a (by omega) (by omega))
        have Ap : isV cL w4 (ar + 12) (ep) := Ap.kept (fun a h1 h2 => co3_1 a (by omega) (by omega))
        have Ab : isV cL w4 (ar + 14) (eb) := Ab.kept (fun a h1 h2 => co3_1 a (by omega) (by omega))
        have av : isV cL w4 (qa + 1) (x) := av.kept (fun a h1 h2 => co3_1 a (by omega) (by omega))
        have bv : isV cL w4 (qb + 1) (y) := bv.kept (fun a h1 h2 => co3_1 a (by omega) (by omega))
        have Au := hV9
        refine W.eq (g2 := F0 m 54 ls []) rfl ?_
        refine lv_goto (pc := 54) (tgt := 68) hx hb dAr_floorRest_54 (by decide) ?_
        rw [if_neg (fun h9 => h9.elim (by decide) hr0)] at hs9
        exact fw_vret (pc := 68) hx hb hr hlocks hw dAr_floorRest_68 ⟨rfl, by rw [hs9]; exact Au, ⟨A0, A1, ⟨_, Aq⟩, ⟨_, Ar9⟩, ⟨_, Ad⟩, Ao, ⟨_, Au⟩, ⟨_, Ap⟩, ⟨_, Ab⟩⟩, (fun q h1 => by rw [co3_1 q (by omega) (by omega), cd0_0 q (by omega)])⟩
    · refine lv_aload_n (pc := 15) hx hb dAr_floorRest_15 rfl (lv_at hl 1 rfl) ?_
      refine fw_get (pc := 16) (ci := 8) (v := .int (nI 1)) (C := RWh) (T := TWh) (N := 2) hx hb hW in_Wh hown hK.1 hw ah rfl 1 (by decide) (hW _ lf_Ar_43) (fun _ h => h) rfl dAr_floorRest_16 ?_
      refine lv_aload_n (pc := 19) hx hb dAr_floorRest_19 rfl (lv_at hl 2 rfl) ?_
      refine fw_get (pc := 20) (ci := 8) (v := .int (nI 1)) (C := RWh) (T := TWh) (N := 2) hx hb hW in_Wh hown hK.1 hw bh rfl 1 (by decide) (hW _ lf_Ar_43) (fun _ h => h) rfl dAr_floorRest_20 ?_
      refine lv_icmp_eq (pc := 23) (tgt := 57) hx hb dAr_floorRest_23 (by decide) (fun _ => ?_) (fun hc => absurd rfl hc)
      refine lv_aload_n (pc := 57) hx hb dAr_floorRest_57 rfl (lv_at hl 3 rfl) ?_
      refine lv_aload_n (pc := 58) hx hb dAr_floorRest_58 rfl (lv_at hl 0 rfl) ?_
      refine fw_get (pc := 59) (ci := 0) (v := .ref (ar + 1)) (C := RAr) (T := TAr) (N := 5) hx hb hW in_Ar hown hK.1 hw A0 rfl 0 (by decide) (hW _ lf_Ar_12) (fun _ h => h) rfl dAr_floorRest_59 ?_
      refine fw_get (pc := 62) (ci := 3) (v := .ref (ar + 1 + 3)) (C := RDi) (T := TDi) (N := 3) hx hb hW in_Di hown hK.1 hw A1 rfl 1 (by decide) (hW _ lf_Ar_76) (fun _ h => h) rfl dAr_floorRest_62 ?_
      obtain ⟨k23, o23⟩ := Au.ob
      refine fw_cV (pc := 65) (As := [.ref (ar + 1 + 3)]) (rest := []) ⟨hx, hb, hml, hown, hW⟩ (c_Na_become (by omega) Au Ar9) (cwV 1 hW (kw_V lm_Ar_82 im_Na_become se_Na_become ini_Na cd_Na_become) rfl rfl rfl (by decide +kernel) ⟨Nat.le_of_ble_eq_true rfl, Nat.le_of_ble_eq_true rfl⟩) hK hw o23 rfl rfl hl.1 rfl (Nat.le_of_ble_eq_true rfl) dAr_floorRest_65 ⟨Nat.le_of_ble_eq_true rfl, Nat.le_of_ble_eq_true rfl⟩ (fun v w5 H locs hq hw => ?_)
      obtain ⟨rfl, hV9, co4_1⟩ := hq
      have A0_ : w5 (ar) = some (.inr (0, [.ref (ar + 1), .ref (ar + 8), .ref (ar + 10), .ref (ar + 12), .ref (ar + 14)])) := (co4_1 _ (by omega) (by omega)).trans A0
      have A1_ : w5 (ar + 1) = some (.inr (3, [.ref (ar + 1 + 1), .ref (ar + 1 + 3), .ref (ar + 1 + 5)])) := (co4_1 _ (by omega) (by omega)).trans A1
      have ah_ : w5 (qa) = some (.inr (8, [.ref (qa + 1), .int (nI 1)])) := (co4_1 _ (by omega) (by omega)).trans ah
      have bh_ : w5 (qb) = some (.inr (8, [.ref (qb + 1), .int (nI 1)])) := (co4_1 _ (by omega) (by omega)).trans bh
      have A0 := A0_
      have A1 := A1_
      have ah := ah_
      have bh := bh_
      have Aq : isV cL w5 (ar + 1 + 1) (x / y) := Aq.kept (fun a h1 h2 => co4_1 a (by omega) (by omega))
      have Ar9 : isV cL w5 (ar + 1 + 3) (x % y) := Ar9.kept (fun a h1 h2 => co4_1 a (by omega) (by omega))
      have Ad : isV cL w5 (ar + 1 + 5) (ed2) := Ad.kept (fun a h1 h2 => co4_1 a (by omega) (by omega))
      have Ao : isV cL w5 (ar + 8) (1) := Ao.kept (fun a h1 h2 => co4_1 a (by omega) (by omega))
      have Ap : isV cL w5 (ar + 12) (ep) := Ap.kept (fun a h1 h2 => co4_1 a (by omega) (by omega))
      have Ab : isV cL w5 (ar + 14) (eb) := Ab.kept (fun a h1 h2 => co4_1 a (by omega) (by omega))
      have av : isV cL w5 (qa + 1) (x) := av.kept (fun a h1 h2 => co4_1 a (by omega) (by omega))
      have bv : isV cL w5 (qb + 1) (y) := bv.kept (fun a h1 h2 => co4_1 a (by omega) (by omega))
      have Au := hV9
      refine W.eq (g2 := F0 m 68 ls []) rfl ?_
      rw [if_pos (Or.inl rfl)] at hs9
      exact fw_vret (pc := 68) hx hb hr hlocks hw dAr_floorRest_68 ⟨rfl, by rw [hs9]; exact Au, ⟨A0, A1, ⟨_, Aq⟩, ⟨_, Ar9⟩, ⟨_, Ad⟩, Ao, ⟨_, Au⟩, ⟨_, Ap⟩, ⟨_, Ab⟩⟩, (fun q h1 => by rw [co4_1 q (by omega) (by omega), cd0_0 q (by omega)])⟩

set_option maxHeartbeats 4000000 in
set_option maxRecDepth 100000 in
theorem c_Ar_floorRest14 {ar qa qb : Nat} {a b : Int} (hA : arS cL w ar) (ha : isI cL w qa a) (hb2 : isI cL w qb b) (hpa : qa + 2 < ar ∨ ar + 15 < qa) (hpb : qb + 2 < ar ∨ ar + 15 < qb) (hab : qa + 2 < qb ∨ qb + 2 < qa) (ha7 : a.natAbs < 2 ^ 768) (hb7 : b.natAbs < 2 ^ 768) (hy0 : b ≠ 0) : fw_C l yAr_floorRest (Cond.code yAr_floorRest cAr_floorRest 4 none :: kWs) ({ frames := 4, cells := 0, slots := 0, locals := 107 } : Room) D kCl (kty cI cL cQ) z [.ref ar, .ref qa, .ref qb, .ref (ar + 14)] (sz) w 0 0 (fun v w' => v = none ∧ isV cL w' (ar + 14) (rmg a b) ∧ arS cL w' ar ∧ ∀ q, q < ar ∨ ar + 16 ≤ q → w' q = w q) := by
  refine fw_ofW (cc := cAr_floorRest) (maxL := 4) (ret := none) (by decide) rfl (Nat.le_of_ble_eq_true rfl) ?_
  intro p e s m args below meth c hx hb hr hts hown hlocks hname hml hK H ls hw hl
  have hW : ∀ w ∈ kWs, w.before args s = true := fun w h => hts w (List.mem_cons_of_mem _ h)
  have hown : s.vm.findClass RAr = some m.cls := hown
  have hl : lv_has ls 4 [(0, .ref ar), (1, .ref qa), (2, .ref qb), (3, .ref (ar + 14))] := hl
  obtain ⟨A0, A1, ⟨e_q, Aq⟩, ⟨er, Ar9⟩, ⟨ed, Ad⟩, Ao, ⟨eo, Au⟩, ⟨ep, Ap⟩, ⟨eb, Ab⟩⟩ := id hA
  obtain ⟨sg, x, as, ap, ah, av, ae⟩ := id ha
  have hx7 : x < 2 ^ 768 := by rw [← wv_abs sg x, ae]; exact ha7
  obtain ⟨sg2, y, bs, bp, bh, bv, be⟩ := id hb2
  have hy7 : y < 2 ^ 768 := by rw [← wv_abs sg2 y, be]; exact hb7
  have hsa : sgz a = sg := by rw [← ae]; exact sgz_wv as ap
  have hsb : sgz b = sg2 := by rw [← be]; exact sgz_wv bs bp
  have hna : a.natAbs = x := by rw [← ae, wv_abs]
  have hnb : b.natAbs = y := by rw [← be, wv_abs]
  have p49 : 2 ^ 768 < nB ^ 49 := by decide +kernel
  have hy9 : 0 < y := Nat.pos_of_ne_zero fun h9 => hy0 (by rw [← be]; exact (wv_z0 bs).mpr h9)
  refine lv_aload_n (pc := 0) hx hb dAr_floorRest_0 rfl (lv_at hl 0 rfl) ?_
  refine fw_get (pc := 1) (ci := 0) (v := .ref (ar + 1)) (C := RAr) (T := TAr) (N := 5) hx hb hW in_Ar hown hK.1 hw A0 rfl 0 (by decide) (hW _ lf_Ar_12) (fun _ h => h) rfl dAr_floorRest_1 ?_
  refine lv_aload_n (pc := 4) hx hb dAr_floorRest_4 rfl (lv_at hl 1 rfl) ?_
  refine fw_get (pc := 5) (ci := 8) (v := .ref (qa + 1)) (C := RWh) (T := TWh) (N := 2) hx hb hW in_Wh hown hK.1 hw ah rfl 0 (by decide) (hW _ lf_Ar_38) (fun _ h => h) rfl dAr_floorRest_5 ?_
  refine lv_aload_n (pc := 8) hx hb dAr_floorRest_8 rfl (lv_at hl 2 rfl) ?_
  refine fw_get (pc := 9) (ci := 8) (v := .ref (qb + 1)) (C := RWh) (T := TWh) (N := 2) hx hb hW in_Wh hown hK.1 hw bh rfl 0 (by decide) (hW _ lf_Ar_38) (fun _ h => h) rfl dAr_floorRest_9 ?_
  refine fw_cV (pc := 12) (As := [.ref (qa + 1), .ref (qb + 1)]) (rest := []) ⟨hx, hb, hml, hown, hW⟩ (c_Di_divide A1 Aq Ar9 Ad av bv (by omega) (by omega) hy9 (Nat.lt_trans hx7 p49)) (cwV 2 hW (kw_V lm_Ar_73 im_Di_divide se_Di_divide ini_Di cd_Di_divide) rfl rfl rfl (by decide +kernel) ⟨Nat.le_of_ble_eq_true rfl, Nat.le_of_ble_eq_true rfl⟩) hK hw A1 rfl rfl hl.1 rfl (Nat.le_of_ble_eq_true rfl) dAr_floorRest_12 ⟨Nat.le_of_ble_eq_true rfl, Nat.le_of_ble_eq_true rfl⟩ (fun v w1 H locs hq hw => ?_)
  obtain ⟨rfl, hq9, hr9, ⟨ed2, hd9⟩, cd0_0⟩ := hq
  have A0_ : w1 (ar) = some (.inr (0, [.ref (ar + 1), .ref (ar + 8), .ref (ar + 10), .ref (ar + 12), .ref (ar + 14)])) := (cd0_0 _ (by omega)).trans A0
  have A1_ : w1 (ar + 1) = some (.inr (3, [.ref (ar + 1 + 1), .ref (ar + 1 + 3), .ref (ar + 1 + 5)])) := (cd0_0 _ (by omega)).trans A1
  have ah_ : w1 (qa) = some (.inr (8, [.ref (qa + 1), .int (nI sg)])) := (cd0_0 _ (by omega)).trans ah
  have bh_ : w1 (qb) = some (.inr (8, [.ref (qb + 1), .int (nI sg2)])) := (cd0_0 _ (by omega)).trans bh
  have A0 := A0_
  have A1 := A1_
  have ah := ah_
  have bh := bh_
  have Ao : isV cL w1 (ar + 8) (1) := Ao.kept (fun a h1 h2 => cd0_0 a (by omega))
  have Au : isV cL w1 (ar + 10) (eo) := Au.kept (fun a h1 h2 => cd0_0 a (by omega))
  have Ap : isV cL w1 (ar + 12) (ep) := Ap.kept (fun a h1 h2 => cd0_0 a (by omega))
  have Ab : isV cL w1 (ar + 14) (eb) := Ab.kept (fun a h1 h2 => cd0_0 a (by omega))
  have av : isV cL w1 (qa + 1) (x) := av.kept (fun a h1 h2 => cd0_0 a (by omega))
  have bv : isV cL w1 (qb + 1) (y) := bv.kept (fun a h1 h2 => cd0_0 a (by omega))
  have Aq := hq9
  have Ar9 := hr9
  have Ad := hd9
  clear hq9 hr9 hd9
  refine W.eq (g2 := F0 m 15 ls []) rfl ?_
  have hrl := Nat.mod_lt x hy9
  have hs9 : rmg a b = if sg = sg2 ∨ x % y = 0 then x % y else y - x % y := by unfold rmg; rw [hsa, hsb, hna, hnb]
  rcases (show sg = 0 ∨ sg = 1 by omega) with rfl | rfl
  · rcases (show sg2 = 0 ∨ sg2 = 1 by omega) with rfl | rfl
    · refine lv_aload_n (pc := 15) hx hb dAr_floorRest_15 rfl (lv_at hl 1 rfl) ?_
      refine fw_get (pc := 16) (ci := 8) (v := .int (nI 0)) (C := RWh) (T := TWh) (N := 2) hx hb hW in_Wh hown hK.1 hw ah rfl 1 (by decide) (hW _ lf_Ar_43) (fun _ h => h) rfl dAr_floorRest_16 ?_
      refine lv_aload_n (pc := 19) hx hb dAr_floorRest_19 rfl (lv_at hl 2 rfl) ?_
      refine fw_get (pc := 20) (ci := 8) (v := .int (nI 0)) (C := RWh) (T := TWh) (N := 2) hx hb hW in_Wh hown hK.1 hw bh rfl 1 (by decide) (hW _ lf_Ar_43) (fun _ h => h) rfl dAr_floorRest_20 ?_
      refine lv_icmp_eq (pc := 23) (tgt := 57) hx hb dAr_floorRest_23 (by decide) (fun _ => ?_) (fun hc => absurd rfl hc)
      refine lv_aload_n (pc := 57) hx hb dAr_floorRest_57 rfl (lv_at hl 3 rfl) ?_
      refine lv_aload_n (pc := 58) hx hb dAr_floorRest_58 rfl (lv_at hl 0 rfl) ?_
      refine fw_get (pc := 59) (ci := 0) (v := .ref (ar + 1)) (C := RAr) (T := TAr) (N := 5) hx hb hW in_Ar hown hK.1 hw A0 rfl 0 (by decide) (hW _ lf_Ar_12) (fun _ h => h) rfl dAr_floorRest_59 ?_
      refine fw_get (pc := 62) (ci := 3) (v := .ref (ar + 1 + 3)) (C := RDi) (T := TDi) (N := 3) hx hb hW in_Di hown hK.1 hw A1 rfl 1 (by decide) (hW _ lf_Ar_76) (fun _ h => h) rfl dAr_floorRest_62 ?_
      obtain ⟨k24, o24⟩ := Ab.ob
      refine fw_cV (pc := 65) (As := [.ref (ar + 1 + 3)]) (rest := []) ⟨hx, hb, hml, hown, hW⟩ (c_Na_become (by omega) Ab Ar9) (cwV 1 hW (kw_V lm_Ar_82 im_Na_become se_Na_become ini_Na cd_Na_become) rfl rfl rfl (by decide +kernel) ⟨Nat.le_of_ble_eq_true rfl, Nat.le_of_ble_eq_true rfl⟩) hK hw o24 rfl rfl hl.1 rfl (Nat.le_of_ble_eq_true rfl) dAr_floorRest_65 ⟨Nat.le_of_ble_eq_true rfl, Nat.le_of_ble_eq_true rfl⟩ (fun v w2 H locs hq hw => ?_)
      obtain ⟨rfl, hV9, co1_1⟩ := hq
      have A0_ : w2 (ar) = some (.inr (0, [.ref (ar + 1), .ref (ar + 8), .ref (ar + 10), .ref (ar + 12), .ref (ar + 14)])) := (co1_1 _ (by omega) (by omega)).trans A0
      have A1_ : w2 (ar + 1) = some (.inr (3, [.ref (ar + 1 + 1), .ref (ar + 1 + 3), .ref (ar + 1 + 5)])) := (co1_1 _ (by omega) (by omega)).trans A1
      have ah_ : w2 (qa) = some (.inr (8, [.ref (qa + 1), .int (nI 0)])) := (co1_1 _ (by omega) (by omega)).trans ah
      have bh_ : w2 (qb) = some (.inr (8, [.ref (qb + 1), .int (nI 0)])) := (co1_1 _ (by omega) (by omega)).trans bh
      have A0 := A0_
      have A1 := A1_
      have ah := ah_
      have bh := bh_
      have Aq : isV cL w2 (ar + 1 + 1) (x / y) := Aq.kept (fun a h1 h2 => co1_1 a (by omega) (by omega))
      have Ar9 : isV cL w2 (ar + 1 + 3) (x % y) := Ar9.kept (fun a h1 h2 => co1_1 a (by omega) (by omega))
      have Ad : isV cL w2 (ar + 1 + 5) (ed2) := Ad.kept (fun a h1 h2 => co1_1 a (by omega) (by omega))
      have Ao : isV cL w2 (ar + 8) (1) := Ao.kept (fun a h1 h2 => co1_1 a (by omega) (by omega))
      have Au : isV cL w2 (ar + 10) (eo) := Au.kept (fun a h1 h2 => co1_1 a (by omega) (by omega))
      have Ap : isV cL w2 (ar + 12) (ep) := Ap.kept (fun a h1 h2 => co1_1 a (by omega) (by omega))
      have av : isV cL w2 (qa + 1) (x) := av.kept (fun a h1 h2 => co1_1 a (by omega) (by omega))
      have bv : isV cL w2 (qb + 1) (y) := bv.kept (fun a h1 h2 => co1_1 a (by omega) (by omega))
      have Ab := hV9
      refine W.eq (g2 := F0 m 68 ls []) rfl ?_
      rw [if_pos (Or.inl rfl)] at hs9
      exact fw_vret (pc := 68) hx hb hr hlocks hw dAr_floorRest_68 ⟨rfl, by rw [hs9]; exact Ab, ⟨A0, A1, ⟨_, Aq⟩, ⟨_, Ar9⟩, ⟨_, Ad⟩, Ao, ⟨_, Au⟩, ⟨_, Ap⟩, ⟨_, Ab⟩⟩, (fun q h1 => by rw [co1_1 q (by omega) (by omega), cd0_0 q (by omega)])⟩
    · refine lv_aload_n (pc := 15) hx hb dAr_floorRest_15 rfl (lv_at hl 1 rfl) ?_
      refine fw_get (pc := 16) (ci := 8) (v := .int (nI 0)) (C := RWh) (T := TWh) (N := 2) hx hb hW in_Wh hown hK.1 hw ah rfl 1 (by decide) (hW _ lf_Ar_43) (fun _ h => h) rfl dAr_floorRest_16 ?_
      refine lv_aload_n (pc := 19) hx hb dAr_floorRest_19 rfl (lv_at hl 2 rfl) ?_
      refine fw_get (pc := 20) (ci := 8) (v := .int (nI 1)) (C := RWh) (T := TWh) (N := 2) hx hb hW in_Wh hown hK.1 hw bh rfl 1 (by decide) (hW _ lf_Ar_43) (fun _ h => h) rfl dAr_floorRest_20 ?_
      refine lv_icmp_eq (pc := 23) (tgt := 57) hx hb dAr_floorRest_23 (by decide) (fun hc => absurd hc (by decide)) (fun _ => ?_)
      refine lv_aload_n (pc := 26) hx hb dAr_floorRest_26 rfl (lv_at hl 0 rfl) ?_
      refine fw_get (pc := 27) (ci := 0) (v := .ref (ar + 1)) (C := RAr) (T := TAr) (N := 5) hx hb hW in_Ar hown hK.1 hw A0 rfl 0 (by decide) (hW _ lf_Ar_12) (fun _ h => h) rfl dAr_floorRest_27 ?_
      refine fw_get (pc := 30) (ci := 3) (v := .ref (ar + 1 + 3)) (C := RDi) (T := TDi) (N := 3) hx hb hW in_Di hown hK.1 hw A1 rfl 1 (by decide) (hW _ lf_Ar_76) (fun _ h => h) rfl dAr_floorRest_30 ?_
      by_cases hr0 : x % y = 0
      · obtain ⟨g25, k25, ⟨o25, _⟩, l25, _, n25, v25⟩ := id Ar9
        refine fw_cVR (pc := 33) (As := []) (rest := []) ⟨hx, hb, hml, hown, hW⟩ (c_Na_isZero (by omega) o25) (cwV 0 hW (kw_V lm_Ar_69 im_Na_isZero se_Na_isZero ini_Na cd_Na_isZero) rfl rfl rfl (by decide +kernel) ⟨Nat.le_of_ble_eq_true rfl, Nat.le_of_ble_eq_true rfl⟩) hK hw o25 rfl rfl hl.1 rfl (Nat.le_of_ble_eq_true rfl) dAr_floorRest_33 ⟨Nat.le_of_ble_eq_true rfl, Nat.le_of_ble_eq_true rfl⟩ (fun v hq => ?_)
        rw [if_pos ((nk_zero n25 v25).mpr hr0)] at hq
        subst hq
        refine W.eq (g2 := F0 m 36 ls [.int (nI 1)]) rfl ?_
        refine lv_if_ne (pc := 36) (tgt := 57) hx hb dAr_floorRest_36 (by decide) (fun _ => ?_) (fun hc => absurd hc (show ¬ nI 1 = 0 by decide))
        refine lv_aload_n (pc := 57) hx hb dAr_floorRest_57 rfl (lv_at hl 3 rfl) ?_
        refine lv_aload_n (pc := 58) hx hb dAr_floorRest_58 rfl (lv_at hl 0 rfl) ?_
        refine fw_get (pc := 59) (ci := 0) (v := .ref (ar + 1)) (C := RAr) (T := TAr) (N := 5) hx hb hW in_Ar hown hK.1 hw A0 rfl 0 (by decide) (hW _ lf_Ar_12) (fun _ h => h) rfl dAr_floorRest_59 ?_
        refine fw_get (pc := 62) (ci := 3) (v := .ref (ar + 1 + 3)) (C := RDi) (T := TDi) (N := 3) hx hb hW in_Di hown hK.1 hw A1 rfl 1 (by decide) (hW _ lf_Ar_76) (fun _ h => h) rfl dAr_floorRest_62 ?_
        obtain ⟨k26, o26⟩ := Ab.ob
        refine fw_cV (pc := 65) (As := [.ref (ar + 1 + 3)]) (rest := []) ⟨hx, hb, hml, hown, hW⟩ (c_Na_become (by omega) Ab Ar9) (cwV 1 hW (kw_V lm_Ar_82 im_Na_become se_Na_become ini_Na cd_Na_become) rfl rfl rfl (by decide +kernel) ⟨Nat.le_of_ble_eq_true rfl, Nat.le_of_ble_eq_true rfl⟩) hK hw o26 rfl rfl hl.1 rfl (Nat.le_of_ble_eq_true rfl) dAr_floorRest_65 ⟨Nat.le_of_ble_eq_true rfl, Nat.le_of_ble_eq_true rfl⟩ (fun v w3 H locs hq hw => ?_)
        obtain ⟨rfl, hV9, co2_1⟩ := hq
        have A0_ : w3 (ar) = some (.inr (0, [.ref (ar + 1), .ref (ar + 8), .ref (ar + 10), .ref (ar + 12), .ref (ar + 14)])) := (co2_1 _ (by omega) (by omega)).trans A0
        have A1_ : w3 (ar + 1) = some (.inr (3, [.ref (ar + 1 + 1), .ref (ar + 1 + 3), .ref (ar + 1 + 5)])) := (co2_1 _ (by omega) (by omega)).trans A1
        have ah_ : w3 (qa) = some (.inr (8, [.ref (qa + 1), .int (nI 0)])) := (co2_1 _ (by omega) (by omega)).trans ah
        have bh_ : w3 (qb) = some (.inr (8, [.ref (qb + 1), .int (nI 1)])) := (co2_1 _ (by omega) (by omega)).trans bh
        have A0 := A0_
        have A1 := A1_
        have ah := ah_
        have bh := bh_
        have Aq : isV cL w3 (ar + 1 + 1) (x / y) := Aq.kept (fun a h1 h2 => co2_1 a (by omega) (by omega))
        have Ar9 : isV cL w3 (ar + 1 + 3) (x % y) := Ar9.kept (fun a h1 h2 => co2_1 a (by omega) (by omega))
        have Ad : isV cL w3 (ar + 1 + 5) (ed2) := Ad.kept (fun a h1 h2 => co2_1 a (by omega) (by omega))
        have Ao : isV cL w3 (ar + 8) (1) := Ao.kept (fun a h1 h2 => co2_1 a (by omega) (by omega))
        have Au : isV cL w3 (ar + 10) (eo) := Au.kept (fun a h1 h2 => co2_1 a (by omega) (by omega))
        have Ap : isV cL w3 (ar + 12) (ep) := Ap.kept (fun a h1 h2 => co2_1 a (by omega) (by omega))
        have av : isV cL w3 (qa + 1) (x) := av.kept (fun a h1 h2 => co2_1 a (by omega) (by omega))
        have bv : isV cL w3 (qb + 1) (y) := bv.kept (fun a h1 h2 => co2_1 a (by omega) (by omega))
        have Ab := hV9
        refine W.eq (g2 := F0 m 68 ls []) rfl ?_
        rw [if_pos (Or.inr hr0)] at hs9
        exact fw_vret (pc := 68) hx hb hr hlocks hw dAr_floorRest_68 ⟨rfl, by rw [hs9]; exact Ab, ⟨A0, A1, ⟨_, Aq⟩, ⟨_, Ar9⟩, ⟨_, Ad⟩, Ao, ⟨_, Au⟩, ⟨_, Ap⟩, ⟨_, Ab⟩⟩, (fun q h1 => by rw [co2_1 q (by omega) (by omega), cd0_0 q (by omega)])⟩
      · obtain ⟨g27, k27, ⟨o27, _⟩, l27, _, n27, v27⟩ := id Ar9
        refine fw_cVR (pc := 33) (As := []) (rest := []) ⟨hx, hb, hml, hown, hW⟩ (c_Na_isZero (by omega) o27) (cwV 0 hW (kw_V lm_Ar_69 im_Na_isZero se_Na_isZero ini_Na cd_Na_isZero) rfl rfl rfl (by decide +kernel) ⟨Nat.le_of_ble_eq_true rfl, Nat.le_of_ble_eq_true rfl⟩) hK hw o27 rfl rfl hl.1 rfl (Nat.le_of_ble_eq_true rfl) dAr_floorRest_33 ⟨Nat.le_of_ble_eq_true rfl, Nat.le_of_ble_eq_true rfl⟩ (fun v hq => ?_)
        rw [if_neg (fun h9 => hr0 ((nk_zero n27 v27).mp h9))] at hq
        subst hq
        refine W.eq (g2 := F0 m 36 ls [.int (nI 0)]) rfl ?_
        refine lv_if_ne (pc := 36) (tgt := 57) hx hb dAr_floorRest_36 (by decide) (fun hc => absurd hc (fun h => h (by decide))) (fun _ => ?_)
        refine lv_aload_n (pc := 39) hx hb dAr_floorRest_39 rfl (lv_at hl 3 rfl) ?_
        refine lv_aload_n (pc := 40) hx hb dAr_floorRest_40 rfl (lv_at hl 2 rfl) ?_
        refine fw_get (pc := 41) (ci := 8) (v := .ref (qb + 1)) (C := RWh) (T := TWh) (N := 2) hx hb hW in_Wh hown hK.1 hw bh rfl 0 (by decide) (hW _ lf_Ar_38) (fun _ h => h) rfl dAr_floorRest_41 ?_
        refine lv_aload_n (pc := 44) hx hb dAr_floorRest_44 rfl (lv_at hl 0 rfl) ?_
        refine fw_get (pc := 45) (ci := 0) (v := .ref (ar + 1)) (C := RAr) (T := TAr) (N := 5) hx hb hW in_Ar hown hK.1 hw A0 rfl 0 (by decide) (hW _ lf_Ar_12) (fun _ h => h) rfl dAr_floorRest_45 ?_
        refine fw_get (pc := 48) (ci := 3) (v := .ref (ar + 1 + 3)) (C := RDi) (T := TDi) (N := 3) hx hb hW in_Di hown hK.1 hw A1 rfl 1 (by decide) (hW _ lf_Ar_76) (fun _ h => h) rfl dAr_floorRest_48 ?_
        obtain ⟨k28, o28⟩ := Ab.ob
        refine fw_cV (pc := 51) (As := [.ref (qb + 1), .ref (ar + 1 + 3)]) (rest := []) ⟨hx, hb, hml, hown, hW⟩ (c_Na_becomeDifference (by omega) (by omega) Ab bv Ar9 (Nat.le_of_lt hrl)) (cwV 2 hW (kw_V lm_Ar_59 im_Na_becomeDifference se_Na_becomeDifference ini_Na cd_Na_becomeDifference) rfl rfl rfl (by decide +kernel) ⟨Nat.le_of_ble_eq_true rfl, Nat.le_of_ble_eq_true rfl⟩) hK hw o28 rfl rfl hl.1 rfl (Nat.le_of_ble_eq_true rfl) dAr_floorRest_51 ⟨Nat.le_of_ble_eq_true rfl, Nat.le_of_ble_eq_true rfl⟩ (fun v w3 H locs hq hw => ?_)
        obtain ⟨rfl, hV9, co2_1⟩ := hq
        have A0_ : w3 (ar) = some (.inr (0, [.ref (ar + 1), .ref (ar + 8), .ref (ar + 10), .ref (ar + 12), .ref (ar + 14)])) := (co2_1 _ (by omega) (by omega)).trans A0
        have A1_ : w3 (ar + 1) = some (.inr (3, [.ref (ar + 1 + 1), .ref (ar + 1 + 3), .ref (ar + 1 + 5)])) := (co2_1 _ (by omega) (by omega)).trans A1
        have ah_ : w3 (qa) = some (.inr (8, [.ref (qa + 1), .int (nI 0)])) := (co2_1 _ (by omega) (by omega)).trans ah
        have bh_ : w3 (qb) = some (.inr (8, [.ref (qb + 1), .int (nI 1)])) := (co2_1 _ (by omega) (by omega)).trans bh
        have A0 := A0_
        have A1 := A1_
        have ah := ah_
        have bh := bh_
        have Aq : isV cL w3 (ar + 1 + 1) (x / y) := Aq.kept (fun a h1 h2 => co2_1 a (by omega) (by omega))
        have Ar9 : isV cL w3 (ar + 1 + 3) (x % y) := Ar9.kept (fun a h1 h2 => co2_1 a (by omega) (by omega))
        have Ad : isV cL w3 (ar + 1 + 5) (ed2) := Ad.kept (fun a h1 h2 => co2_1 a (by omega) (by omega))
        have Ao : isV cL w3 (ar + 8) (1) := Ao.kept (fun a h1 h2 => co2_1 a (by omega) (by omega))
        have Au : isV cL w3 (ar + 10) (eo) := Au.kept (fun a h1 h2 => co2_1 a (by omega) (by omega))
        have Ap : isV cL w3 (ar + 12) (ep) := Ap.kept (fun a h1 h2 => co2_1 a (by omega) (by omega))
        have av : isV cL w3 (qa + 1) (x) := av.kept (fun a h1 h2 => co2_1 a (by omega) (by omega))
        have bv : isV cL w3 (qb + 1) (y) := bv.kept (fun a h1 h2 => co2_1 a (by omega) (by omega))
        have Ab := hV9
        refine W.eq (g2 := F0 m 54 ls []) rfl ?_
        refine lv_goto (pc := 54) (tgt := 68) hx hb dAr_floorRest_54 (by decide) ?_
        rw [if_neg (fun h9 => h9.elim (by decide) hr0)] at hs9
        exact fw_vret (pc := 68) hx hb hr hlocks hw dAr_floorRest_68 ⟨rfl, by rw [hs9]; exact Ab, ⟨A0, A1, ⟨_, Aq⟩, ⟨_, Ar9⟩, ⟨_, Ad⟩, Ao, ⟨_, Au⟩, ⟨_, Ap⟩, ⟨_, Ab⟩⟩, (fun q h1 => by rw [co2_1 q (by omega) (by omega), cd0_0 q (by omega)])⟩
  · rcases (show sg2 = 0 ∨ sg2 = 1 by omega) with rfl | rfl
    · refine lv_aload_n (pc := 15) hx hb dAr_floorRest_15 rfl (lv_at hl 1 rfl) ?_
      refine fw_get (pc := 16) (ci := 8) (v := .int (nI 1)) (C := RWh) (T := TWh) (N := 2) hx hb hW in_Wh hown hK.1 hw ah rfl 1 (by decide) (hW _ lf_Ar_43) (fun _ h => h) rfl dAr_floorRest_16 ?_
      refine lv_aload_n (pc := 19) hx hb dAr_floorRest_19 rfl (lv_at hl 2 rfl) ?_
      refine fw_get (pc := 20) (ci := 8) (v := .int (nI 0)) (C := RWh) (T := TWh) (N := 2) hx hb hW in_Wh hown hK.1 hw bh rfl 1 (by decide) (hW _ lf_Ar_43) (fun _ h => h) rfl dAr_floorRest_20 ?_
      refine lv_icmp_eq (pc := 23) (tgt := 57) hx hb dAr_floorRest_23 (by decide) (fun hc => absurd hc (by decide)) (fun _ => ?_)
      refine lv_aload_n (pc := 26) hx hb dAr_floorRest_26 rfl (lv_at hl 0 rfl) ?_
      refine fw_get (pc := 27) (ci := 0) (v := .ref (ar + 1)) (C := RAr) (T := TAr) (N := 5) hx hb hW in_Ar hown hK.1 hw A0 rfl 0 (by decide) (hW _ lf_Ar_12) (fun _ h => h) rfl dAr_floorRest_27 ?_
      refine fw_get (pc := 30) (ci := 3) (v := .ref (ar + 1 + 3)) (C := RDi) (T := TDi) (N := 3) hx hb hW in_Di hown hK.1 hw A1 rfl 1 (by decide) (hW _ lf_Ar_76) (fun _ h => h) rfl dAr_floorRest_30 ?_
      by_cases hr0 : x % y = 0
      · obtain ⟨g29, k29, ⟨o29, _⟩, l29, _, n29, v29⟩ := id Ar9
        refine fw_cVR (pc := 33) (As := []) (rest := []) ⟨hx, hb, hml, hown, hW⟩ (c_Na_isZero (by omega) o29) (cwV 0 hW (kw_V lm_Ar_69 im_Na_isZero se_Na_isZero ini_Na cd_Na_isZero) rfl rfl rfl (by decide +kernel) ⟨Nat.le_of_ble_eq_true rfl, Nat.le_of_ble_eq_true rfl⟩) hK hw o29 rfl rfl hl.1 rfl (Nat.le_of_ble_eq_true rfl) dAr_floorRest_33 ⟨Nat.le_of_ble_eq_true rfl, Nat.le_of_ble_eq_true rfl⟩ (fun v hq => ?_)
        rw [if_pos ((nk_zero n29 v29).mpr hr0)] at hq
        subst hq
        refine W.eq (g2 := F0 m 36 ls [.int (nI 1)]) rfl ?_
        refine lv_if_ne (pc := 36) (tgt := 57) hx hb dAr_floorRest_36 (by decide) (fun _ => ?_) (fun hc => absurd hc (show ¬ nI 1 = 0 by decide))
        refine lv_aload_n (pc := 57) hx hb dAr_floorRest_57 rfl (lv_at hl 3 rfl) ?_
        refine lv_aload_n (pc := 58) hx hb dAr_floorRest_58 rfl (lv_at hl 0 rfl) ?_
        refine fw_get (pc := 59) (ci := 0) (v := .ref (ar + 1)) (C := RAr) (T := TAr) (N := 5) hx hb hW in_Ar hown hK.1 hw A0 rfl 0 (by decide) (hW _ lf_Ar_12) (fun _ h => h) rfl dAr_floorRest_59 ?_
        refine fw_get (pc := 62) (ci := 3) (v := .ref (ar + 1 + 3)) (C := RDi) (T := TDi) (N := 3) hx hb hW in_Di hown hK.1 hw A1 rfl 1 (by decide) (hW _ lf_Ar_76) (fun _ h => h) rfl dAr_floorRest_62 ?_
        obtain ⟨k30, o30⟩ := Ab.ob
        refine fw_cV (pc := 65) (As := [.ref (ar + 1 + 3)]) (rest := []) ⟨hx, hb, hml, hown, hW⟩ (c_Na_become (by omega) Ab Ar9) (cwV 1 hW (kw_V lm_Ar_82 im_Na_become se_Na_become ini_Na cd_Na_become) rfl rfl rfl (by decide +kernel) ⟨Nat.le_of_ble_eq_true rfl, Nat.le_of_ble_eq_true rfl⟩) hK hw o30 rfl rfl hl.1 rfl (Nat.le_of_ble_eq_true rfl) dAr_floorRest_65 ⟨Nat.le_of_ble_eq_true rfl, Nat.le_of_ble_eq_true rfl⟩ (fun v w4 H locs hq hw => ?_)
        obtain ⟨rfl, hV9, co3_1⟩ := hq
        have A0_ : w4 (ar) = some (.inr (0, [.ref (ar + 1), .ref (ar + 8), .ref (ar + 10), .ref (ar + 12), .ref (ar + 14)])) := (co3_1 _ (by omega) (by omega)).trans A0
        have A1_ : w4 (ar + 1) = some (.inr (3, [.ref (ar + 1 + 1), .ref (ar + 1 + 3), .ref (ar + 1 + 5)])) := (co3_1 _ (by omega) (by omega)).trans A1
        have ah_ : w4 (qa) = some (.inr (8, [.ref (qa + 1), .int (nI 1)])) := (co3_1 _ (by omega) (by omega)).trans ah
        have bh_ : w4 (qb) = some (.inr (8, [.ref (qb + 1), .int (nI 0)])) := (co3_1 _ (by omega) (by omega)).trans bh
        have A0 := A0_
        have A1 := A1_
        have ah := ah_
        have bh := bh_
        have Aq : isV cL w4 (ar + 1 + 1) (x / y) := Aq.kept (fun a h1 h2 => co3_1 a (by omega) (by omega))
        have Ar9 : isV cL w4 (ar + 1 + 3) (x % y) := Ar9.kept (fun a h1 h2 => co3_1 a (by omega) (by omega))
        have Ad : isV cL w4 (ar + 1 + 5) (ed2) := Ad.kept (fun a h1 h2 => co3_1 a (by omega) (by omega))
        have Ao : isV cL w4 (ar + 8) (1) := Ao.kept (fun a h1 h2 => co3_1 a (by omega) (by omega))
        have Au : isV cL w4 (ar + 10) (eo) := Au.kept (fun a h1 h2 => co3_1 a (by omega) (by omega))
        have Ap : isV cL w4 (ar + 12) (ep) := Ap.kept (fun a h1 h2 => co3_1 a (by omega) (by omega))
        have av : isV cL w4 (qa + 1) (x) := av.kept (fun a h1 h2 => co3_1 a (by omega) (by omega))
        have bv : isV cL w4 (qb + 1) (y) := bv.kept (fun a h1 h2 => co3_1 a (by omega) (by omega))
        have Ab := hV9
        refine W.eq (g2 := F0 m 68 ls []) rfl ?_
        rw [if_pos (Or.inr hr0)] at hs9
        exact fw_vret (pc := 68) hx hb hr hlocks hw dAr_floorRest_68 ⟨rfl, by rw [hs9]; exact Ab, ⟨A0, A1, ⟨_, Aq⟩, ⟨_, Ar9⟩, ⟨_, Ad⟩, Ao, ⟨_, Au⟩, ⟨_, Ap⟩, ⟨_, Ab⟩⟩, (fun q h1 => by rw [co3_1 q (by omega) (by omega), cd0_0 q (by omega)])⟩
      · obtain ⟨g31, k31, ⟨o31, _⟩, l31, _, n31, v31⟩ := id Ar9
        refine fw_cVR (pc := 33) (As := []) (rest := []) ⟨hx, hb, hml, hown, hW⟩ (c_Na_isZero (by omega) o31) (cwV 0 hW (kw_V lm_Ar_69 im_Na_isZero se_Na_isZero ini_Na cd_Na_isZero) rfl rfl rfl (by decide +kernel) ⟨Nat.le_of_ble_eq_true rfl, Nat.le_of_ble_eq_true rfl⟩) hK hw o31 rfl rfl hl.1 rfl (Nat.le_of_ble_eq_true rfl) dAr_floorRest_33 ⟨Nat.le_of_ble_eq_true rfl, Nat.le_of_ble_eq_true rfl⟩ (fun v hq => ?_)
        rw [if_neg (fun h9 => hr0 ((nk_zero n31 v31).mp h9))] at hq
        subst hq
        refine W.eq (g2 := F0 m 36 ls [.int (nI 0)]) rfl ?_
        refine lv_if_ne (pc := 36) (tgt := 57) hx hb dAr_floorRest_36 (by decide) (fun hc => absurd hc (fun h => h (by decide))) (fun _ => ?_)
        refine lv_aload_n (pc := 39) hx hb dAr_floorRest_39 rfl (lv_at hl 3 rfl) ?_
        refine lv_aload_n (pc := 40) hx hb dAr_floorRest_40 rfl (lv_at hl 2 rfl) ?_
        refine fw_get (pc := 41) (ci := 8) (v := .ref (qb + 1)) (C := RWh) (T := TWh) (N := 2) hx hb hW in_Wh hown hK.1 hw bh rfl 0 (by decide) (hW _ lf_Ar_38) (fun _ h => h) rfl dAr_floorRest_41 ?_
        refine lv_aload_n (pc := 44) hx hb dAr_floorRest_44 rfl (lv_at hl 0 rfl) ?_
        refine fw_get (pc := 45) (ci := 0) (v := .ref (ar + 1)) (C := RAr) (T := TAr) (N := 5) hx hb hW in_Ar hown hK.1 hw A0 rfl 0 (by decide) (hW _ lf_Ar_12) (fun _ h => h) rfl dAr_floorRest_45 ?_
        refine fw_get (pc := 48) (ci := 3) (v := .ref (ar + 1 + 3)) (C := RDi) (T := TDi) (N := 3) hx hb hW in_Di hown hK.1 hw A1 rfl 1 (by decide) (hW _ lf_Ar_76) (fun _ h => h) rfl dAr_floorRest_48 ?_
        obtain ⟨k32, o32⟩ := Ab.ob
        refine fw_cV (pc := 51) (As := [.ref (qb + 1), .ref (ar + 1 + 3)]) (rest := []) ⟨hx, hb, hml, hown, hW⟩ (c_Na_becomeDifference (by omega) (by omega) Ab bv Ar9 (Nat.le_of_lt hrl)) (cwV 2 hW (kw_V lm_Ar_59 im_Na_becomeDifference se_Na_becomeDifference ini_Na cd_Na_becomeDifference) rfl rfl rfl (by decide +kernel) ⟨Nat.le_of_ble_eq_true rfl, Nat.le_of_ble_eq_true rfl⟩) hK hw o32 rfl rfl hl.1 rfl (Nat.le_of_ble_eq_true rfl) dAr_floorRest_51 ⟨Nat.le_of_ble_eq_true rfl, Nat.le_of_ble_eq_true rfl⟩ (fun v w4 H locs hq hw => ?_)
        obtain ⟨rfl, hV9, co3_1⟩ := hq
        have A0_ : w4 (ar) = some (.inr (0, [.ref (ar + 1), .ref (ar + 8), .ref (ar + 10), .ref (ar + 12), .ref (ar + 14)])) := (co3_1 _ (by omega) (by omega)).trans A0
        have A1_ : w4 (ar + 1) = some (.inr (3, [.ref (ar + 1 + 1), .ref (ar + 1 + 3), .ref (ar + 1 + 5)])) := (co3_1 _ (by omega) (by omega)).trans A1
        have ah_ : w4 (qa) = some (.inr (8, [.ref (qa + 1), .int (nI 1)])) := (co3_1 _ (by omega) (by omega)).trans ah
        have bh_ : w4 (qb) = some (.inr (8, [.ref (qb + 1), .int (nI 0)])) := (co3_1 _ (by omega) (by omega)).trans bh
        have A0 := A0_
        have A1 := A1_
        have ah := ah_
        have bh := bh_
        have Aq : isV cL w4 (ar + 1 + 1) (x / y) := Aq.kept (fun a h1 h2 => co3_1 a (by omega) (by omega))
        have Ar9 : isV cL w4 (ar + 1 + 3) (x % y) := Ar9.kept (fun a h1 h2 => co3_1 a (by omega) (by omega))
        have Ad : isV cL w4 (ar + 1 + 5) (ed2) := Ad.kept (fun a h1 h2 => co3_1 a (by omega) (by omega))
        have Ao : isV cL w4 (ar + 8) (1) := Ao.kept (fun a h1 h2 => co3_1 a (by omega) (by omega))
        have Au : isV cL w4 (ar + 10) (eo) := Au.kept (fun a h1 h2 => co3_1 a (by omega) (by omega))
        have Ap : isV cL w4 (ar + 12) (ep) := Ap.kept (fun a h1 h2 => co3_1 a (by omega) (by omega))
        have av : isV cL w4 (qa + 1) (x) := av.kept (fun a h1 h2 => co3_1 a (by omega) (by omega))
        have bv : isV cL w4 (qb + 1) (y) := bv.kept (fun a h1 h2 => co3_1 a (by omega) (by omega))
        have Ab := hV9
        refine W.eq (g2 := F0 m 54 ls []) rfl ?_
        refine lv_goto (pc := 54) (tgt := 68) hx hb dAr_floorRest_54 (by decide) ?_
        rw [if_neg (fun h9 => h9.elim (by decide) hr0)] at hs9
        exact fw_vret (pc := 68) hx hb hr hlocks hw dAr_floorRest_68 ⟨rfl, by rw [hs9]; exact Ab, ⟨A0, A1, ⟨_, Aq⟩, ⟨_, Ar9⟩, ⟨_, Ad⟩, Ao, ⟨_, Au⟩, ⟨_, Ap⟩, ⟨_, Ab⟩⟩, (fun q h1 => by rw [co3_1 q (by omega) (by omega), cd0_0 q (by omega)])⟩
    · refine lv_aload_n (pc := 15) hx hb dAr_floorRest_15 rfl (lv_at hl 1 rfl) ?_
      refine fw_get (pc := 16) (ci := 8) (v := .int (nI 1)) (C := RWh) (T := TWh) (N := 2) hx hb hW in_Wh hown hK.1 hw ah rfl 1 (by decide) (hW _ lf_Ar_43) (fun _ h => h) rfl dAr_floorRest_16 ?_
      refine lv_aload_n (pc := 19) hx hb dAr_floorRest_19 rfl (lv_at hl 2 rfl) ?_
      refine fw_get (pc := 20) (ci := 8) (v := .int (nI 1)) (C := RWh) (T := TWh) (N := 2) hx hb hW in_Wh hown hK.1 hw bh rfl 1 (by decide) (hW _ lf_Ar_43) (fun _ h => h) rfl dAr_floorRest_20 ?_
      refine lv_icmp_eq (pc := 23) (tgt := 57) hx hb dAr_floorRest_23 (by decide) (fun _ => ?_) (fun hc => absurd rfl hc)
      refine lv_aload_n (pc := 57) hx hb dAr_floorRest_57 rfl (lv_at hl 3 rfl) ?_
      refine lv_aload_n (pc := 58) hx hb dAr_floorRest_58 rfl (lv_at hl 0 rfl) ?_
      refine fw_get (pc := 59) (ci := 0) (v := .ref (ar + 1)) (C := RAr) (T := TAr) (N := 5) hx hb hW in_Ar hown hK.1 hw A0 rfl 0 (by decide) (hW _ lf_Ar_12) (fun _ h => h) rfl dAr_floorRest_59 ?_
      refine fw_get (pc := 62) (ci := 3) (v := .ref (ar + 1 + 3)) (C := RDi) (T := TDi) (N := 3) hx hb hW in_Di hown hK.1 hw A1 rfl 1 (by decide) (hW _ lf_Ar_76) (fun _ h => h) rfl dAr_floorRest_62 ?_
      obtain ⟨k33, o33⟩ := Ab.ob
      refine fw_cV (pc := 65) (As := [.ref (ar + 1 + 3)]) (rest := []) ⟨hx, hb, hml, hown, hW⟩ (c_Na_become (by omega) Ab Ar9) (cwV 1 hW (kw_V lm_Ar_82 im_Na_become se_Na_become ini_Na cd_Na_become) rfl rfl rfl (by decide +kernel) ⟨Nat.le_of_ble_eq_true rfl, Nat.le_of_ble_eq_true rfl⟩) hK hw o33 rfl rfl hl.1 rfl (Nat.le_of_ble_eq_true rfl) dAr_floorRest_65 ⟨Nat.le_of_ble_eq_true rfl, Nat.le_of_ble_eq_true rfl⟩ (fun v w5 H locs hq hw => ?_)
      obtain ⟨rfl, hV9, co4_1⟩ := hq
      have A0_ : w5 (ar) = some (.inr (0, [.ref (ar + 1), .ref (ar + 8), .ref (ar + 10), .ref (ar + 12), .ref (ar + 14)])) := (co4_1 _ (by omega) (by omega)).trans A0
      have A1_ : w5 (ar + 1) = some (.inr (3, [.ref (ar + 1 + 1), .ref (ar + 1 + 3), .ref (ar + 1 + 5)])) := (co4_1 _ (by omega) (by omega)).trans A1
      have ah_ : w5 (qa) = some (.inr (8, [.ref (qa + 1), .int (nI 1)])) := (co4_1 _ (by omega) (by omega)).trans ah
      have bh_ : w5 (qb) = some (.inr (8, [.ref (qb + 1), .int (nI 1)])) := (co4_1 _ (by omega) (by omega)).trans bh
      have A0 := A0_
      have A1 := A1_
      have ah := ah_
      have bh := bh_
      have Aq : isV cL w5 (ar + 1 + 1) (x / y) := Aq.kept (fun a h1 h2 => co4_1 a (by omega) (by omega))
      have Ar9 : isV cL w5 (ar + 1 + 3) (x % y) := Ar9.kept (fun a h1 h2 => co4_1 a (by omega) (by omega))
      have Ad : isV cL w5 (ar + 1 + 5) (ed2) := Ad.kept (fun a h1 h2 => co4_1 a (by omega) (by omega))
      have Ao : isV cL w5 (ar + 8) (1) := Ao.kept (fun a h1 h2 => co4_1 a (by omega) (by omega))
      have Au : isV cL w5 (ar + 10) (eo) := Au.kept (fun a h1 h2 => co4_1 a (by omega) (by omega))
      have Ap : isV cL w5 (ar + 12) (ep) := Ap.kept (fun a h1 h2 => co4_1 a (by omega) (by omega))
      have av : isV cL w5 (qa + 1) (x) := av.kept (fun a h1 h2 => co4_1 a (by omega) (by omega))
      have bv : isV cL w5 (qb + 1) (y) := bv.kept (fun a h1 h2 => co4_1 a (by omega) (by omega))
      have Ab := hV9
      refine W.eq (g2 := F0 m 68 ls []) rfl ?_
      rw [if_pos (Or.inl rfl)] at hs9
      exact fw_vret (pc := 68) hx hb hr hlocks hw dAr_floorRest_68 ⟨rfl, by rw [hs9]; exact Ab, ⟨A0, A1, ⟨_, Aq⟩, ⟨_, Ar9⟩, ⟨_, Ad⟩, Ao, ⟨_, Au⟩, ⟨_, Ap⟩, ⟨_, Ab⟩⟩, (fun q h1 => by rw [co4_1 q (by omega) (by omega), cd0_0 q (by omega)])⟩

set_option maxHeartbeats 4000000 in
set_option maxRecDepth 100000 in
theorem c_Ar_divideForRest {ar qa qb : Nat} {a b : Int} (hA : arS cL w ar) (ha : isI cL w qa a) (hb2 : isI cL w qb b) (hpa : qa + 2 < ar ∨ ar + 15 < qa) (hpb : qb + 2 < ar ∨ ar + 15 < qb) (hab : qa + 2 < qb ∨ qb + 2 < qa) (ha7 : a.natAbs < 2 ^ 768) (hb7 : b.natAbs < 2 ^ 768) : fw_C l yAr_divideForRest (Cond.code yAr_divideForRest cAr_divideForRest 3 (some FieldType.int) :: kWs) ({ frames := 5, cells := 0, slots := 0, locals := 130 } : Room) D kCl (kty cI cL cQ) z [.ref ar, .ref qa, .ref qb] (sz) w 0 0 (fun v w' => v = some (.int (nI (sRst a b).1)) ∧ isI cL w' qa (sRst a b).2 ∧ arS cL w' ar ∧ ∀ q, q < ar ∨ ar + 16 ≤ q → q < qa ∨ qa + 3 ≤ q → w' q = w q) := by
  refine fw_ofW (cc := cAr_divideForRest) (maxL := 3) (ret := (some FieldType.int)) (by decide) rfl (Nat.le_of_ble_eq_true rfl) ?_
  intro p e s m args below meth c hx hb hr hts hown hlocks hname hml hK H ls hw hl
  have hW : ∀ w ∈ kWs, w.before args s = true := fun w h => hts w (List.mem_cons_of_mem _ h)
  have hown : s.vm.findClass RAr = some m.cls := hown
  have hl : lv_has ls 3 [(0, .ref ar), (1, .ref qa), (2, .ref qb)] := hl
  obtain ⟨A0, A1, ⟨e_q, Aq⟩, ⟨er, Ar9⟩, ⟨ed, Ad⟩, Ao, ⟨eo, Au⟩, ⟨ep, Ap⟩, ⟨eb, Ab⟩⟩ := id hA
  obtain ⟨sg, x, as, ap, ah, av, ae⟩ := id ha
  have hx7 : x < 2 ^ 768 := by rw [← wv_abs sg x, ae]; exact ha7
  obtain ⟨sg2, y, bs, bp, bh, bv, be⟩ := id hb2
  have hy7 : y < 2 ^ 768 := by rw [← wv_abs sg2 y, be]; exact hb7
  have hsb : sgz b = sg2 := by rw [← be]; exact sgz_wv bs bp
  have hbz : b = 0 ↔ y = 0 := by rw [← be]; exact wv_z0 bs
  refine lv_aload_n (pc := 0) hx hb dAr_divideForRest_0 rfl (lv_at hl 2 rfl) ?_
  refine fw_get (pc := 1) (ci := 8) (v := .ref (qb + 1)) (C := RWh) (T := TWh) (N := 2) hx hb hW in_Wh hown hK.1 hw bh rfl 0 (by decide) (hW _ lf_Ar_38) (fun _ h => h) rfl dAr_divideForRest_1 ?_
  by_cases hy0 : y = 0
  · obtain ⟨g34, k34, ⟨o34, _⟩, l34, _, n34, v34⟩ := id bv
    refine fw_cVR (pc := 4) (As := []) (rest := []) ⟨hx, hb, hml, hown, hW⟩ (c_Na_isZero (by omega) o34) (cwV 0 hW (kw_V lm_Ar_69 im_Na_isZero se_Na_isZero ini_Na cd_Na_isZero) rfl rfl rfl (by decide +kernel) ⟨Nat.le_of_ble_eq_true rfl, Nat.le_of_ble_eq_true rfl⟩) hK hw o34 rfl rfl hl.1 rfl (Nat.le_of_ble_eq_true rfl) dAr_divideForRest_4 ⟨Nat.le_of_ble_eq_true rfl, Nat.le_of_ble_eq_true rfl⟩ (fun v hq => ?_)
    rw [if_pos ((nk_zero n34 v34).mpr hy0)] at hq
    subst hq
    refine W.eq (g2 := F0 m 7 ls [.int (nI 1)]) rfl ?_
    refine lv_if_eq (pc := 7) (tgt := 12) hx hb dAr_divideForRest_7 (by decide) (fun hc => absurd hc (show ¬ nI 1 = 0 by decide)) (fun _ => ?_)
    refine lv_iconst (pc := 10) (v := (nI 2)) hx hb dAr_divideForRest_10 (by decide) ?_
    have hs9 : sRst a b = (2, a) := if_pos (hbz.mpr hy0)
    exact fw_iret (pc := 11) hx hb hr hlocks hw dAr_divideForRest_11 ⟨by rw [hs9], by rw [hs9]; exact ha, hA, fun q _ _ => rfl⟩
  · obtain ⟨g35, k35, ⟨o35, _⟩, l35, _, n35, v35⟩ := id bv
    refine fw_cVR (pc := 4) (As := []) (rest := []) ⟨hx, hb, hml, hown, hW⟩ (c_Na_isZero (by omega) o35) (cwV 0 hW (kw_V lm_Ar_69 im_Na_isZero se_Na_isZero ini_Na cd_Na_isZero) rfl rfl rfl (by decide +kernel) ⟨Nat.le_of_ble_eq_true rfl, Nat.le_of_ble_eq_true rfl⟩) hK hw o35 rfl rfl hl.1 rfl (Nat.le_of_ble_eq_true rfl) dAr_divideForRest_4 ⟨Nat.le_of_ble_eq_true rfl, Nat.le_of_ble_eq_true rfl⟩ (fun v hq => ?_)
    rw [if_neg (fun h9 => hy0 ((nk_zero n35 v35).mp h9))] at hq
    subst hq
    refine W.eq (g2 := F0 m 7 ls [.int (nI 0)]) rfl ?_
    refine lv_if_eq (pc := 7) (tgt := 12) hx hb dAr_divideForRest_7 (by decide) (fun _ => ?_) (fun hc => absurd (show nI 0 = 0 by decide) hc)
    have hb0 : b ≠ 0 := fun h9 => hy0 (hbz.mp h9)
    refine lv_aload_n (pc := 12) hx hb dAr_divideForRest_12 rfl (lv_at hl 0 rfl) ?_
    refine lv_aload_n (pc := 13) hx hb dAr_divideForRest_13 rfl (lv_at hl 1 rfl) ?_
    refine lv_aload_n (pc := 14) hx hb dAr_divideForRest_14 rfl (lv_at hl 2 rfl) ?_
    refine lv_aload_n (pc := 15) hx hb dAr_divideForRest_15 rfl (lv_at hl 0 rfl) ?_
    refine fw_get (pc := 16) (ci := 0) (v := .ref (ar + 10)) (C := RAr) (T := TAr) (N := 5) hx hb hW in_Ar hown hK.1 hw A0 rfl 2 (by decide) (hW _ lf_Ar_29) (fun _ h => h) rfl dAr_divideForRest_16 ?_
    refine fw_cV (pc := 19) (As := [.ref qa, .ref qb, .ref (ar + 10)]) (rest := []) ⟨hx, hb, hml, hown, hW⟩ (c_Ar_floorRest10 hA ha hb2 hpa hpb hab ha7 hb7 hb0) (cwV 3 hW (kw_V lm_Ar_86 im_Ar_floorRest se_Ar_floorRest ini_Ar cd_Ar_floorRest) rfl rfl rfl (by decide +kernel) ⟨Nat.le_of_ble_eq_true rfl, Nat.le_of_ble_eq_true rfl⟩) hK hw A0 rfl rfl hl.1 rfl (Nat.le_of_ble_eq_true rfl) dAr_divideForRest_19 ⟨Nat.le_of_ble_eq_true rfl, Nat.le_of_ble_eq_true rfl⟩ (fun v w1 H locs hq hw => ?_)
    obtain ⟨rfl, hM, hA2, hF⟩ := hq
    have hl9 : rmg a b < 2 ^ 768 := Nat.lt_trans (rmg_lt hb0) hb7
    have hs9 : sRst a b = (0, wv sg2 (rmg a b)) := by unfold sRst; rw [if_neg hb0, hsb]
    have ha2 := ha.kept (w' := w1) (fun q h1 h2 => hF q (by omega))
    have A0 := hA2.1
    have ah_ : w1 (qa) = some (.inr (8, [.ref (qa + 1), .int (nI sg)])) := (hF _ (by omega)).trans ah
    have bh_ : w1 (qb) = some (.inr (8, [.ref (qb + 1), .int (nI sg2)])) := (hF _ (by omega)).trans bh
    have ah := ah_
    have bh := bh_
    refine W.eq (g2 := F0 m 22 ls []) rfl ?_
    refine lv_aload_n (pc := 22) hx hb dAr_divideForRest_22 rfl (lv_at hl 0 rfl) ?_
    refine fw_get (pc := 23) (ci := 0) (v := .ref (ar + 10)) (C := RAr) (T := TAr) (N := 5) hx hb hW in_Ar hown hK.1 hw A0 rfl 2 (by decide) (hW _ lf_Ar_29) (fun _ h => h) rfl dAr_divideForRest_23 ?_
    refine lv_aload_n (pc := 26) hx hb dAr_divideForRest_26 rfl (lv_at hl 2 rfl) ?_
    refine fw_get (pc := 27) (ci := 8) (v := .int (nI sg2)) (C := RWh) (T := TWh) (N := 2) hx hb hW in_Wh hown hK.1 hw bh rfl 1 (by decide) (hW _ lf_Ar_43) (fun _ h => h) rfl dAr_divideForRest_27 ?_
    refine lv_aload_n (pc := 30) hx hb dAr_divideForRest_30 rfl (lv_at hl 1 rfl) ?_
    refine fw_cS (pc := 31) (As := [.ref (ar + 10), .int (nI sg2), .ref qa]) (rest := []) ⟨hx, hb, hml, hown, hW⟩ (c_Ar_store (neg := sg2) bs hM ha2 (by omega)) (va_cwS 3 hW (kw_S lm_Ar_62 sta_Ar_store ini_Ar cd_Ar_store) rfl rfl rfl (by decide +kernel) ⟨Nat.le_of_ble_eq_true rfl, Nat.le_of_ble_eq_true rfl⟩) hK hw rfl hl.1 rfl (Nat.le_of_ble_eq_true rfl) dAr_divideForRest_31 ⟨Nat.le_of_ble_eq_true rfl, Nat.le_of_ble_eq_true rfl⟩ (fun v w2 H locs hq hw => ?_)
    obtain ⟨rfl, hI, fs9⟩ := hq
    refine W.eq (g2 := F0 m 34 ls [.int (nI (if rmg a b < 2 ^ 768 then 0 else 6))]) rfl ?_
    rw [if_pos hl9] at hI
    exact fw_iret (pc := 34) hx hb hr hlocks hw dAr_divideForRest_34 ⟨by rw [hs9, if_pos hl9], by rw [hs9]; exact hI, hA2.kept (fun q h1 h2 => fs9 q (by omega)), fun q h1 h2 => by rw [fs9 q (by omega), hF q (by omega)]⟩

set_option maxHeartbeats 4000000 in
set_option maxRecDepth 100000 in
theorem c_Ar_multiplyOutcomeO {ar nm o9 f9 u : Nat} (hA : arS cL w ar) (Au : isV cL w (ar + 10) o9) (Ab : isV cL w (ar + 14) f9) (cv : isV cL w nm u) (hpc : nm + 1 < ar ∨ ar + 15 < nm) (hu : 0 < u) (ho9 : o9 < 2 ^ 768) (hf9 : f9 < 2 ^ 768) : fw_C l yAr_multiplyOutcome (Cond.code yAr_multiplyOutcome cAr_multiplyOutcome 3 none :: kWs) ({ frames := 4, cells := 0, slots := 0, locals := 107 } : Room) D kCl (kty cI cL cQ) z [.ref ar, .ref (ar + 10), .ref nm] (sz) w 0 0 (fun v w' => v = none ∧ isV cL w' (ar + 10) (o9 * o9 % u) ∧ isV cL w' (ar + 14) f9 ∧ arS cL w' ar ∧ ∀ q, q < ar ∨ ar + 16 ≤ q → w' q = w q) := by
  refine fw_ofW (cc := cAr_multiplyOutcome) (maxL := 3) (ret := none) (by decide) rfl (Nat.le_of_ble_eq_true rfl) ?_
  intro p e s m args below meth c hx hb hr hts hown hlocks hname hml hK H ls hw hl
  have hW : ∀ w ∈ kWs, w.before args s = true := fun w h => hts w (List.mem_cons_of_mem _ h)
  have hown : s.vm.findClass RAr = some m.cls := hown
  have hl : lv_has ls 3 [(0, .ref ar), (1, .ref (ar + 10)), (2, .ref nm)] := hl
  obtain ⟨A0, A1, ⟨e_q, Aq⟩, ⟨er, Ar9⟩, ⟨ed, Ad⟩, Ao, _, ⟨ep, Ap⟩, _⟩ := id hA
  have p25 : 2 ^ 768 < nB ^ 25 := by decide +kernel
  have hpr : o9 * o9 < nB ^ 49 := Nat.lt_of_le_of_lt (Nat.mul_le_mul (Nat.le_of_lt ho9) (Nat.le_of_lt ho9)) (by decide +kernel)
  refine lv_aload_n (pc := 0) hx hb dAr_multiplyOutcome_0 rfl (lv_at hl 0 rfl) ?_
  refine fw_get (pc := 1) (ci := 0) (v := .ref (ar + 12)) (C := RAr) (T := TAr) (N := 5) hx hb hW in_Ar hown hK.1 hw A0 rfl 3 (by decide) (hW _ lf_Ar_32) (fun _ h => h) rfl dAr_multiplyOutcome_1 ?_
  refine lv_aload_n (pc := 4) hx hb dAr_multiplyOutcome_4 rfl (lv_at hl 0 rfl) ?_
  refine fw_get (pc := 5) (ci := 0) (v := .ref (ar + 10)) (C := RAr) (T := TAr) (N := 5) hx hb hW in_Ar hown hK.1 hw A0 rfl 2 (by decide) (hW _ lf_Ar_29) (fun _ h => h) rfl dAr_multiplyOutcome_5 ?_
  refine lv_aload_n (pc := 8) hx hb dAr_multiplyOutcome_8 rfl (lv_at hl 1 rfl) ?_
  obtain ⟨k36, o36⟩ := Ap.ob
  refine fw_cV (pc := 9) (As := [.ref (ar + 10), .ref (ar + 10)]) (rest := []) ⟨hx, hb, hml, hown, hW⟩ (c_Na_becomeProduct (by omega) (by omega) Ap Au Au (Nat.lt_trans ho9 p25) (Nat.lt_trans ho9 p25)) (cwV 2 hW (kw_V lm_Ar_66 im_Na_becomeProduct se_Na_becomeProduct ini_Na cd_Na_becomeProduct) rfl rfl rfl (by decide +kernel) ⟨Nat.le_of_ble_eq_true rfl, Nat.le_of_ble_eq_true rfl⟩) hK hw o36 rfl rfl hl.1 rfl (Nat.le_of_ble_eq_true rfl) dAr_multiplyOutcome_9 ⟨Nat.le_of_ble_eq_true rfl, Nat.le_of_ble_eq_true rfl⟩ (fun v w1 H locs hq hw => ?_)
  obtain ⟨rfl, hV9, co0_0⟩ := hq
  have A0_ : w1 (ar) = some (.inr (0, [.ref (ar + 1), .ref (ar + 8), .ref (ar + 10), .ref (ar + 12), .ref (ar + 14)])) := (co0_0 _ (by omega) (by omega)).trans A0
  have A1_ : w1 (ar + 1) = some (.inr (3, [.ref (ar + 1 + 1), .ref (ar + 1 + 3), .ref (ar + 1 + 5)])) := (co0_0 _ (by omega) (by omega)).trans A1
  have A0 := A0_
  have A1 := A1_
  have Aq : isV cL w1 (ar + 1 + 1) (e_q) := Aq.kept (fun a h1 h2 => co0_0 a (by omega) (by omega))
  have Ar9 : isV cL w1 (ar + 1 + 3) (er) := Ar9.kept (fun a h1 h2 => co0_0 a (by omega) (by omega))
  have Ad : isV cL w1 (ar + 1 + 5) (ed) := Ad.kept (fun a h1 h2 => co0_0 a (by omega) (by omega))
  have Ao : isV cL w1 (ar + 8) (1) := Ao.kept (fun a h1 h2 => co0_0 a (by omega) (by omega))
  have Au : isV cL w1 (ar + 10) (o9) := Au.kept (fun a h1 h2 => co0_0 a (by omega) (by omega))
  have Ab : isV cL w1 (ar + 14) (f9) := Ab.kept (fun a h1 h2 => co0_0 a (by omega) (by omega))
  have cv : isV cL w1 (nm) (u) := cv.kept (fun a h1 h2 => co0_0 a (by omega) (by omega))
  have Ap := hV9
  refine W.eq (g2 := F0 m 12 ls []) rfl ?_
  refine lv_aload_n (pc := 12) hx hb dAr_multiplyOutcome_12 rfl (lv_at hl 0 rfl) ?_
  refine fw_get (pc := 13) (ci := 0) (v := .ref (ar + 1)) (C := RAr) (T := TAr) (N := 5) hx hb hW in_Ar hown hK.1 hw A0 rfl 0 (by decide) (hW _ lf_Ar_12) (fun _ h => h) rfl dAr_multiplyOutcome_13 ?_
  refine lv_aload_n (pc := 16) hx hb dAr_multiplyOutcome_16 rfl (lv_at hl 0 rfl) ?_
  refine fw_get (pc := 17) (ci := 0) (v := .ref (ar + 12)) (C := RAr) (T := TAr) (N := 5) hx hb hW in_Ar hown hK.1 hw A0 rfl 3 (by decide) (hW _ lf_Ar_32) (fun _ h => h) rfl dAr_multiplyOutcome_17 ?_
  refine lv_aload_n (pc := 20) hx hb dAr_multiplyOutcome_20 rfl (lv_at hl 2 rfl) ?_
  refine fw_cV (pc := 21) (As := [.ref (ar + 12), .ref nm]) (rest := []) ⟨hx, hb, hml, hown, hW⟩ (c_Di_divide A1 Aq Ar9 Ad Ap cv (by omega) (by omega) hu hpr) (cwV 2 hW (kw_V lm_Ar_73 im_Di_divide se_Di_divide ini_Di cd_Di_divide) rfl rfl rfl (by decide +kernel) ⟨Nat.le_of_ble_eq_true rfl, Nat.le_of_ble_eq_true rfl⟩) hK hw A1 rfl rfl hl.1 rfl (Nat.le_of_ble_eq_true rfl) dAr_multiplyOutcome_21 ⟨Nat.le_of_ble_eq_true rfl, Nat.le_of_ble_eq_true rfl⟩ (fun v w2 H locs hq hw => ?_)
  obtain ⟨rfl, hq9, hr9, ⟨ed2, hd9⟩, cd1_1⟩ := hq
  have A0_ : w2 (ar) = some (.inr (0, [.ref (ar + 1), .ref (ar + 8), .ref (ar + 10), .ref (ar + 12), .ref (ar + 14)])) := (cd1_1 _ (by omega)).trans A0
  have A1_ : w2 (ar + 1) = some (.inr (3, [.ref (ar + 1 + 1), .ref (ar + 1 + 3), .ref (ar + 1 + 5)])) := (cd1_1 _ (by omega)).trans A1
  have A0 := A0_
  have A1 := A1_
  have Ao : isV cL w2 (ar + 8) (1) := Ao.kept (fun a h1 h2 => cd1_1 a (by omega))
  have Au : isV cL w2 (ar + 10) (o9) := Au.kept (fun a h1 h2 => cd1_1 a (by omega))
  have Ap : isV cL w2 (ar + 12) (o9 * o9) := Ap.kept (fun a h1 h2 => cd1_1 a (by omega))
  have Ab : isV cL w2 (ar + 14) (f9) := Ab.kept (fun a h1 h2 => cd1_1 a (by omega))
  have cv : isV cL w2 (nm) (u) := cv.kept (fun a h1 h2 => cd1_1 a (by omega))
  have Aq := hq9
  have Ar9 := hr9
  have Ad := hd9
  clear hq9 hr9 hd9
  refine W.eq (g2 := F0 m 24 ls []) rfl ?_
  refine lv_aload_n (pc := 24) hx hb dAr_multiplyOutcome_24 rfl (lv_at hl 0 rfl) ?_
  refine fw_get (pc := 25) (ci := 0) (v := .ref (ar + 10)) (C := RAr) (T := TAr) (N := 5) hx hb hW in_Ar hown hK.1 hw A0 rfl 2 (by decide) (hW _ lf_Ar_29) (fun _ h => h) rfl dAr_multiplyOutcome_25 ?_
  refine lv_aload_n (pc := 28) hx hb dAr_multiplyOutcome_28 rfl (lv_at hl 0 rfl) ?_
  refine fw_get (pc := 29) (ci := 0) (v := .ref (ar + 1)) (C := RAr) (T := TAr) (N := 5) hx hb hW in_Ar hown hK.1 hw A0 rfl 0 (by decide) (hW _ lf_Ar_12) (fun _ h => h) rfl dAr_multiplyOutcome_29 ?_
  refine fw_get (pc := 32) (ci := 3) (v := .ref (ar + 1 + 3)) (C := RDi) (T := TDi) (N := 3) hx hb hW in_Di hown hK.1 hw A1 rfl 1 (by decide) (hW _ lf_Ar_76) (fun _ h => h) rfl dAr_multiplyOutcome_32 ?_
  obtain ⟨k37, o37⟩ := Au.ob
  refine fw_cV (pc := 35) (As := [.ref (ar + 1 + 3)]) (rest := []) ⟨hx, hb, hml, hown, hW⟩ (c_Na_become (by omega) Au Ar9) (cwV 1 hW (kw_V lm_Ar_82 im_Na_become se_Na_become ini_Na cd_Na_become) rfl rfl rfl (by decide +kernel) ⟨Nat.le_of_ble_eq_true rfl, Nat.le_of_ble_eq_true rfl⟩) hK hw o37 rfl rfl hl.1 rfl (Nat.le_of_ble_eq_true rfl) dAr_multiplyOutcome_35 ⟨Nat.le_of_ble_eq_true rfl, Nat.le_of_ble_eq_true rfl⟩ (fun v w3 H locs hq hw => ?_)
  obtain ⟨rfl, hV9, co2_2⟩ := hq
  have A0_ : w3 (ar) = some (.inr (0, [.ref (ar + 1), .ref (ar + 8), .ref (ar + 10), .ref (ar + 12), .ref (ar + 14)])) := (co2_2 _ (by omega) (by omega)).trans A0
  have A1_ : w3 (ar + 1) = some (.inr (3, [.ref (ar + 1 + 1), .ref (ar + 1 + 3), .ref (ar + 1 + 5)])) := (co2_2 _ (by omega) (by omega)).trans A1
  have A0 := A0_
  have A1 := A1_
  have Aq : isV cL w3 (ar + 1 + 1) ((o9 * o9) / u) := Aq.kept (fun a h1 h2 => co2_2 a (by omega) (by omega))
  have Ar9 : isV cL w3 (ar + 1 + 3) ((o9 * o9) % u) := Ar9.kept (fun a h1 h2 => co2_2 a (by omega) (by omega))
  have Ad : isV cL w3 (ar + 1 + 5) (ed2) := Ad.kept (fun a h1 h2 => co2_2 a (by omega) (by omega))
  have Ao : isV cL w3 (ar + 8) (1) := Ao.kept (fun a h1 h2 => co2_2 a (by omega) (by omega))
  have Ap : isV cL w3 (ar + 12) (o9 * o9) := Ap.kept (fun a h1 h2 => co2_2 a (by omega) (by omega))
  have Ab : isV cL w3 (ar + 14) (f9) := Ab.kept (fun a h1 h2 => co2_2 a (by omega) (by omega))
  have cv : isV cL w3 (nm) (u) := cv.kept (fun a h1 h2 => co2_2 a (by omega) (by omega))
  have Au := hV9
  refine W.eq (g2 := F0 m 38 ls []) rfl ?_
  exact fw_vret (pc := 38) hx hb hr hlocks hw dAr_multiplyOutcome_38 ⟨rfl, Au, Ab, ⟨A0, A1, ⟨_, Aq⟩, ⟨_, Ar9⟩, ⟨_, Ad⟩, Ao, ⟨_, Au⟩, ⟨_, Ap⟩, ⟨_, Ab⟩⟩, (fun q h1 => by rw [co2_2 q (by omega) (by omega), cd1_1 q (by omega), co0_0 q (by omega) (by omega)])⟩

set_option maxHeartbeats 4000000 in
set_option maxRecDepth 100000 in
theorem c_Ar_multiplyOutcomeB {ar nm o9 f9 u : Nat} (hA : arS cL w ar) (Au : isV cL w (ar + 10) o9) (Ab : isV cL w (ar + 14) f9) (cv : isV cL w nm u) (hpc : nm + 1 < ar ∨ ar + 15 < nm) (hu : 0 < u) (ho9 : o9 < 2 ^ 768) (hf9 : f9 < 2 ^ 768) : fw_C l yAr_multiplyOutcome (Cond.code yAr_multiplyOutcome cAr_multiplyOutcome 3 none :: kWs) ({ frames := 4, cells := 0, slots := 0, locals := 107 } : Room) D kCl (kty cI cL cQ) z [.ref ar, .ref (ar + 14), .ref nm] (sz) w 0 0 (fun v w' => v = none ∧ isV cL w' (ar + 10) (o9 * f9 % u) ∧ isV cL w' (ar + 14) f9 ∧ arS cL w' ar ∧ ∀ q, q < ar ∨ ar + 16 ≤ q → w' q = w q) := by
  refine fw_ofW (cc := cAr_multiplyOutcome) (maxL := 3) (ret := none) (by decide) rfl (Nat.le_of_ble_eq_true rfl) ?_
  intro p e s m args below meth c hx hb hr hts hown hlocks hname hml hK H ls hw hl
  have hW : ∀ w ∈ kWs, w.before args s = true := fun w h => hts w (List.mem_cons_of_mem _ h)
  have hown : s.vm.findClass RAr = some m.cls := hown
  have hl : lv_has ls 3 [(0, .ref ar), (1, .ref (ar + 14)), (2, .ref nm)] := hl
  obtain ⟨A0, A1, ⟨e_q, Aq⟩, ⟨er, Ar9⟩, ⟨ed, Ad⟩, Ao, _, ⟨ep, Ap⟩, _⟩ := id hA
  have p25 : 2 ^ 768 < nB ^ 25 := by decide +kernel
  have hpr : o9 * f9 < nB ^ 49 := Nat.lt_of_le_of_lt (Nat.mul_le_mul (Nat.le_of_lt ho9) (Nat.le_of_lt hf9)) (by decide +kernel)
  refine lv_aload_n (pc := 0) hx hb dAr_multiplyOutcome_0 rfl (lv_at hl 0 rfl) ?_
  refine fw_get (pc := 1) (ci := 0) (v := .ref (ar + 12)) (C := RAr) (T := TAr) (N := 5) hx hb hW in_Ar hown hK.1 hw A0 rfl 3 (by decide) (hW _ lf_Ar_32) (fun _ h => h) rfl dAr_multiplyOutcome_1 ?_
  refine lv_aload_n (pc := 4) hx hb dAr_multiplyOutcome_4 rfl (lv_at hl 0 rfl) ?_
  refine fw_get (pc := 5) (ci := 0) (v := .ref (ar + 10)) (C := RAr) (T := TAr) (N := 5) hx hb hW in_Ar hown hK.1 hw A0 rfl 2 (by decide) (hW _ lf_Ar_29) (fun _ h => h) rfl dAr_multiplyOutcome_5 ?_
  refine lv_aload_n (pc := 8) hx hb dAr_multiplyOutcome_8 rfl (lv_at hl 1 rfl) ?_
  obtain ⟨k38, o38⟩ := Ap.ob
  refine fw_cV (pc := 9) (As := [.ref (ar + 10), .ref (ar + 14)]) (rest := []) ⟨hx, hb, hml, hown, hW⟩ (c_Na_becomeProduct (by omega) (by omega) Ap Au Ab (Nat.lt_trans ho9 p25) (Nat.lt_trans hf9 p25)) (cwV 2 hW (kw_V lm_Ar_66 im_Na_becomeProduct se_Na_becomeProduct ini_Na cd_Na_becomeProduct) rfl rfl rfl (by decide +kernel) ⟨Nat.le_of_ble_eq_true rfl, Nat.le_of_ble_eq_true rfl⟩) hK hw o38 rfl rfl hl.1 rfl (Nat.le_of_ble_eq_true rfl) dAr_multiplyOutcome_9 ⟨Nat.le_of_ble_eq_true rfl, Nat.le_of_ble_eq_true rfl⟩ (fun v w1 H locs hq hw => ?_)
  obtain ⟨rfl, hV9, co0_0⟩ := hq
  have A0_ : w1 (ar) = some (.inr (0, [.ref (ar + 1), .ref (ar + 8), .ref (ar + 10), .ref (ar + 12), .ref (ar + 14)])) := (co0_0 _ (by omega) (by omega)).trans A0
  have A1_ : w1 (ar + 1) = some (.inr (3, [.ref (ar + 1 + 1), .ref (ar + 1 + 3), .ref (ar + 1 + 5)])) := (co0_0 _ (by omega) (by omega)).trans A1
  have A0 := A0_
  have A1 := A1_
  have Aq : isV cL w1 (ar + 1 + 1) (e_q) := Aq.kept (fun a h1 h2 => co0_0 a (by omega) (by omega))
  have Ar9 : isV cL w1 (ar + 1 + 3) (er) := Ar9.kept (fun a h1 h2 => co0_0 a (by omega) (by omega))
  have Ad : isV cL w1 (ar + 1 + 5) (ed) := Ad.kept (fun a h1 h2 => co0_0 a (by omega) (by omega))
  have Ao : isV cL w1 (ar + 8) (1) := Ao.kept (fun a h1 h2 => co0_0 a (by omega) (by omega))
  have Au : isV cL w1 (ar + 10) (o9) := Au.kept (fun a h1 h2 => co0_0 a (by omega) (by omega))
  have Ab : isV cL w1 (ar + 14) (f9) := Ab.kept (fun a h1 h2 => co0_0 a (by omega) (by omega))
  have cv : isV cL w1 (nm) (u) := cv.kept (fun a h1 h2 => co0_0 a (by omega) (by omega))
  have Ap := hV9
  refine W.eq (g2 := F0 m 12 ls []) rfl ?_
  refine lv_aload_n (pc := 12) hx hb dAr_multiplyOutcome_12 rfl (lv_at hl 0 rfl) ?_
  refine fw_get (pc := 13) (ci := 0) (v := .ref (ar + 1)) (C := RAr) (T := TAr) (N := 5) hx hb hW in_Ar hown hK.1 hw A0 rfl 0 (by decide) (hW _ lf_Ar_12) (fun _ h => h) rfl dAr_multiplyOutcome_13 ?_
  refine lv_aload_n (pc := 16) hx hb dAr_multiplyOutcome_16 rfl (lv_at hl 0 rfl) ?_
  refine fw_get (pc := 17) (ci := 0) (v := .ref (ar + 12)) (C := RAr) (T := TAr) (N := 5) hx hb hW in_Ar hown hK.1 hw A0 rfl 3 (by decide) (hW _ lf_Ar_32) (fun _ h => h) rfl dAr_multiplyOutcome_17 ?_
  refine lv_aload_n (pc := 20) hx hb dAr_multiplyOutcome_20 rfl (lv_at hl 2 rfl) ?_
  refine fw_cV (pc := 21) (As := [.ref (ar + 12), .ref nm]) (rest := []) ⟨hx, hb, hml, hown, hW⟩ (c_Di_divide A1 Aq Ar9 Ad Ap cv (by omega) (by omega) hu hpr) (cwV 2 hW (kw_V lm_Ar_73 im_Di_divide se_Di_divide ini_Di cd_Di_divide) rfl rfl rfl (by decide +kernel) ⟨Nat.le_of_ble_eq_true rfl, Nat.le_of_ble_eq_true rfl⟩) hK hw A1 rfl rfl hl.1 rfl (Nat.le_of_ble_eq_true rfl) dAr_multiplyOutcome_21 ⟨Nat.le_of_ble_eq_true rfl, Nat.le_of_ble_eq_true rfl⟩ (fun v w2 H locs hq hw => ?_)
  obtain ⟨rfl, hq9, hr9, ⟨ed2, hd9⟩, cd1_1⟩ := hq
  have A0_ : w2 (ar) = some (.inr (0, [.ref (ar + 1), .ref (ar + 8), .ref (ar + 10), .ref (ar + 12), .ref (ar + 14)])) := (cd1_1 _ (by omega)).trans A0
  have A1_ : w2 (ar + 1) = some (.inr (3, [.ref (ar + 1 + 1), .ref (ar + 1 + 3), .ref (ar + 1 + 5)])) := (cd1_1 _ (by omega)).trans A1
  have A0 := A0_
  have A1 := A1_
  have Ao : isV cL w2 (ar + 8) (1) := Ao.kept (fun a h1 h2 => cd1_1 a (by omega))
  have Au : isV cL w2 (ar + 10) (o9) := Au.kept (fun a h1 h2 => cd1_1 a (by omega))
  have Ap : isV cL w2 (ar + 12) (o9 * f9) := Ap.kept (fun a h1 h2 => cd1_1 a (by omega))
  have Ab : isV cL w2 (ar + 14) (f9) := Ab.kept (fun a h1 h2 => cd1_1 a (by omega))
  have cv : isV cL w2 (nm) (u) := cv.kept (fun a h1 h2 => cd1_1 a (by omega))
  have Aq := hq9
  have Ar9 := hr9
  have Ad := hd9
  clear hq9 hr9 hd9
  refine W.eq (g2 := F0 m 24 ls []) rfl ?_
  refine lv_aload_n (pc := 24) hx hb dAr_multiplyOutcome_24 rfl (lv_at hl 0 rfl) ?_
  refine fw_get (pc := 25) (ci := 0) (v := .ref (ar + 10)) (C := RAr) (T := TAr) (N := 5) hx hb hW in_Ar hown hK.1 hw A0 rfl 2 (by decide) (hW _ lf_Ar_29) (fun _ h => h) rfl dAr_multiplyOutcome_25 ?_
  refine lv_aload_n (pc := 28) hx hb dAr_multiplyOutcome_28 rfl (lv_at hl 0 rfl) ?_
  refine fw_get (pc := 29) (ci := 0) (v := .ref (ar + 1)) (C := RAr) (T := TAr) (N := 5) hx hb hW in_Ar hown hK.1 hw A0 rfl 0 (by decide) (hW _ lf_Ar_12) (fun _ h => h) rfl dAr_multiplyOutcome_29 ?_
  refine fw_get (pc := 32) (ci := 3) (v := .ref (ar + 1 + 3)) (C := RDi) (T := TDi) (N := 3) hx hb hW in_Di hown hK.1 hw A1 rfl 1 (by decide) (hW _ lf_Ar_76) (fun _ h => h) rfl dAr_multiplyOutcome_32 ?_
  obtain ⟨k39, o39⟩ := Au.ob
  refine fw_cV (pc := 35) (As := [.ref (ar + 1 + 3)]) (rest := []) ⟨hx, hb, hml, hown, hW⟩ (c_Na_become (by omega) Au Ar9) (cwV 1 hW (kw_V lm_Ar_82 im_Na_become se_Na_become ini_Na cd_Na_become) rfl rfl rfl (by decide +kernel) ⟨Nat.le_of_ble_eq_true rfl, Nat.le_of_ble_eq_true rfl⟩) hK hw o39 rfl rfl hl.1 rfl (Nat.le_of_ble_eq_true rfl) dAr_multiplyOutcome_35 ⟨Nat.le_of_ble_eq_true rfl, Nat.le_of_ble_eq_true rfl⟩ (fun v w3 H locs hq hw => ?_)
  obtain ⟨rfl, hV9, co2_2⟩ := hq
  have A0_ : w3 (ar) = some (.inr (0, [.ref (ar + 1), .ref (ar + 8), .ref (ar + 10), .ref (ar + 12), .ref (ar + 14)])) := (co2_2 _ (by omega) (by omega)).trans A0
  have A1_ : w3 (ar + 1) = some (.inr (3, [.ref (ar + 1 + 1), .ref (ar + 1 + 3), .ref (ar + 1 + 5)])) := (co2_2 _ (by omega) (by omega)).trans A1
  have A0 := A0_
  have A1 := A1_
  have Aq : isV cL w3 (ar + 1 + 1) ((o9 * f9) / u) := Aq.kept (fun a h1 h2 => co2_2 a (by omega) (by omega))
  have Ar9 : isV cL w3 (ar + 1 + 3) ((o9 * f9) % u) := Ar9.kept (fun a h1 h2 => co2_2 a (by omega) (by omega))
  have Ad : isV cL w3 (ar + 1 + 5) (ed2) := Ad.kept (fun a h1 h2 => co2_2 a (by omega) (by omega))
  have Ao : isV cL w3 (ar + 8) (1) := Ao.kept (fun a h1 h2 => co2_2 a (by omega) (by omega))
  have Ap : isV cL w3 (ar + 12) (o9 * f9) := Ap.kept (fun a h1 h2 => co2_2 a (by omega) (by omega))
  have Ab : isV cL w3 (ar + 14) (f9) := Ab.kept (fun a h1 h2 => co2_2 a (by omega) (by omega))
  have cv : isV cL w3 (nm) (u) := cv.kept (fun a h1 h2 => co2_2 a (by omega) (by omega))
  have Au := hV9
  refine W.eq (g2 := F0 m 38 ls []) rfl ?_
  exact fw_vret (pc := 38) hx hb hr hlocks hw dAr_multiplyOutcome_38 ⟨rfl, Au, Ab, ⟨A0, A1, ⟨_, Aq⟩, ⟨_, Ar9⟩, ⟨_, Ad⟩, Ao, ⟨_, Au⟩, ⟨_, Ap⟩, ⟨_, Ab⟩⟩, (fun q h1 => by rw [co2_2 q (by omega) (by omega), cd1_1 q (by omega), co0_0 q (by omega) (by omega)])⟩
end AR2
