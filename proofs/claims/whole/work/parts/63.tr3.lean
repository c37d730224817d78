def tFi (m : Nat) : TS → Nat × TS
  | (o, v, n, t, c, d, x) => if x = 1 then (match rl 1 t d o v n with
    | (o, v, n, d1) => (if d1 = 0 then 0 else m + 1, (o, v, n, t, c, d1, x))) else (m + 1, (o, v, n, t, c, d, x))
def tTr (K U : Nat → Nat) (m : Nat) : Nat → Nat → TS → Nat × TS
  | 0, _, s => tFi m s
  | r + 1, i, s => if (tAc (K i) (U i) s).1 = true then tTr K U m r (i + 1) (tAc (K i) (U i) s).2 else (i + 1, (tAc (K i) (U i) s).2)
/-- what stays true of a Translator's state behind i tokens -/
def tOk (i : Nat) : TS → Prop
  | (_, _, n, t, c, d, x) => n + d ≤ i ∧ (∀ j, j < d → t j < 15 ∧ c j < 3) ∧ x < 3
theorem kCm_lt (k : Nat) : kCm k < 3 := by
  by_cases h : k < 15
  · exact (show ∀ k, k < 15 → kCm k < 3 by decide) k h
  · unfold kCm; rw [List.getD_eq_getElem?_getD, List.getElem?_eq_none (by show 15 ≤ k; omega)]; decide
theorem tPu_ok {i k x' : Nat} {s : TS} (h : tOk i s) (hk : k < 15) (hx : x' < 3) : tOk (i + 1) (tPu k x' s) := by
  obtain ⟨o, v, n, t, c, d, x⟩ := s
  obtain ⟨h1, h2, h3⟩ := h
  refine ⟨by omega, fun j hj => ?_, hx⟩
  have h4 := kCm_lt k
  show (if j = d then k else t j) < 15 ∧ (if j = d then kCm k else c j) < 3
  split
  · exact ⟨hk, h4⟩
  · exact h2 j (by omega)
theorem tAc_ok {i k u : Nat} {s : TS} (h : tOk i s) (hk : k < 14) (ha : (tAc k u s).1 = true) : tOk (i + 1) (tAc k u s).2 := by
  obtain ⟨o, v, n, t, c, d, x⟩ := s
  obtain ⟨h1, h2, h3⟩ := h
  have hrel : ∀ bd o1 v1 n1 d1, rl bd t d o v n = (o1, v1, n1, d1) → ∀ x', x' < 3 → tOk i (o1, v1, n1, t, c, d1, x') := fun bd o1 v1 n1 d1 hr x' hx => by
    have := rl_sum hr
    exact ⟨by omega, fun j hj => h2 j (by omega), hx⟩
  have hTS : ∀ y, y < 3 → tOk i (o, v, n, t, c, d, y) := fun y hy => ⟨h1, h2, hy⟩
  rcases (show x = 0 ∨ x = 1 ∨ x = 2 by omega) with rfl | rfl | rfl
  · rcases (show k = 0 ∨ k = 1 ∨ k = 2 ∨ k = 3 ∨ k = 4 ∨ k = 5 ∨ k = 6 ∨ k = 7 ∨ k = 8 ∨ k = 9 ∨ k = 10 ∨ k = 11 ∨ k = 12 ∨ k = 13 by omega) with rfl | rfl | rfl | rfl | rfl | rfl | rfl | rfl | rfl | rfl | rfl | rfl | rfl | rfl
    · show tOk (i + 1) (va_up o n 0, va_up v n u, n + 1, t, c, d, 1)
      exact ⟨by omega, h2, by decide⟩
    · show tOk (i + 1) (va_up o n 1, va_up v n u, n + 1, t, c, d, 1)
      exact ⟨by omega, h2, by decide⟩
    · exact absurd (show false = true from ha) (by decide)
    · exact tPu_ok (hTS 0 (by decide)) (by decide) (by decide)
    · exact absurd (show false = true from ha) (by decide)
    · exact absurd (show false = true from ha) (by decide)
    · exact absurd (show false = true from ha) (by decide)
    · exact absurd (show false = true from ha) (by decide)
    · exact tPu_ok (hTS 0 (by decide)) (by decide) (by decide)
    · exact absurd (show false = true from ha) (by decide)
    · exact absurd (show false = true from ha) (by decide)
    · exact tPu_ok (hTS 0 (by decide)) (by decide) (by decide)
    · exact tPu_ok (hTS 0 (by decide)) (by decide) (by decide)
    · exact tPu_ok (hTS 0 (by decide)) (by decide) (by decide)
  · have hRp : ∀ bd k, k < 15 → tOk (i + 1) (tRp bd k (o, v, n, t, c, d, 1)).2 := fun bd k hk => by
      obtain ⟨o1, v1, n1, d1, hr⟩ : ∃ o1 v1 n1 d1, rl bd t d o v n = (o1, v1, n1, d1) := ⟨_, _, _, _, rfl⟩
      rw [tRp_eq hr]
      exact tPu_ok (hrel bd o1 v1 n1 d1 hr 0 (by decide)) hk (by decide)
    obtain ⟨o1, v1, n1, d1, hr⟩ : ∃ o1 v1 n1 d1, rl 1 t d o v n = (o1, v1, n1, d1) := ⟨_, _, _, _, rfl⟩
    have hs := rl_sum hr
    rcases (show k = 0 ∨ k = 1 ∨ k = 2 ∨ k = 3 ∨ k = 4 ∨ k = 5 ∨ k = 6 ∨ k = 7 ∨ k = 8 ∨ k = 9 ∨ k = 10 ∨ k = 11 ∨ k = 12 ∨ k = 13 by omega) with rfl | rfl | rfl | rfl | rfl | rfl | rfl | rfl | rfl | rfl | rfl | rfl | rfl | rfl
    · exact absurd (show false = true from ha) (by decide)
    · exact absurd (show false = true from ha) (by decide)
    · exact hRp 1 2 (by decide)
    · exact hRp 1 3 (by decide)
    · exact hRp 2 4 (by decide)
    · exact hRp 2 5 (by decide)
    · exact hRp 2 6 (by decide)
    · exact tPu_ok (hTS 1 (by decide)) (by decide) (by decide)
    · exact absurd (show false = true from ha) (by decide)
    · change (tCl (o, v, n, t, c, d, 1)).1 = true at ha
      show tOk (i + 1) (tCl (o, v, n, t, c, d, 1)).2
      rw [tCl_eq hr] at ha ⊢
      by_cases hz : d1 = 0 ∨ c (d1 - 1) ≠ 0
      · rw [if_pos hz] at ha; exact absurd (show false = true from ha) (by decide)
      · rw [if_neg hz]
        by_cases h8 : t (d1 - 1) = 8
        · rw [if_pos h8]; exact ⟨by omega, fun j hj => h2 j (by omega), by decide⟩
        · rw [if_neg h8]; exact ⟨by omega, fun j hj => h2 j (by omega), by decide⟩
    · change (tCm (o, v, n, t, c, d, 1)).1 = true at ha
      show tOk (i + 1) (tCm (o, v, n, t, c, d, 1)).2
      rw [tCm_eq hr] at ha ⊢
      by_cases hz : d1 = 0 ∨ c (d1 - 1) = 0
      · rw [if_pos hz] at ha; exact absurd (show false = true from ha) (by decide)
      · rw [if_neg hz]
        refine ⟨by omega, fun j hj => ⟨(h2 j (by omega)).1, ?_⟩, by decide⟩
        show (if j = d1 - 1 then c (d1 - 1) - 1 else c j) < 3
        have h5 := (h2 (d1 - 1) (by omega)).2
        split
        · omega
        · exact (h2 j (by omega)).2
    · exact absurd (show false = true from ha) (by decide)
    · exact absurd (show false = true from ha) (by decide)
    · exact absurd (show false = true from ha) (by decide)
  · show tOk (i + 1) (o, v, n, t, c, d, 0)
    exact ⟨by omega, h2, by decide⟩
theorem tFi_eq {K U o v t c o1 v1 : Nat → Nat} {m i n d x n1 d1 : Nat} (hx : x = 1) (hr : rl 1 t d o v n = (o1, v1, n1, d1)) : tTr K U m 0 i (o, v, n, t, c, d, x) = (if d1 = 0 then 0 else m + 1, (o1, v1, n1, t, c, d1, x)) := by
  show tFi m (o, v, n, t, c, d, x) = _
  simp only [tFi, hr, if_pos hx]
/-! BigCalculator.Translator.translate. Written by wip/gen/trans3.py. -/
section TR3
variable {l : Launch} {D : va_G} {cI cL cQ : ClassId} {sz tO tB tC : Nat} {sa : Nat → Nat} {w : fw_W}
set_option maxHeartbeats 4000000 in
set_option maxRecDepth 100000 in
theorem c_Tr_translate {tr tk9 m9 n d x : Nat} {oo vv tt cc9 K U : Nat → Nat} (hS0 : trS cI w tr (oo, vv, n, tt, cc9, d, x)) (hm : m9 ≤ 120) (hap : tk9 + 2 < tr ∨ tr + 5 < tk9) (hk : ∀ i, i < m9 → K i < 14) (ht0 : w tk9 = some (.inr (6, [.ref (tk9 + 1), .ref (tk9 + 2), .int (nI m9)]))) (hta : w (tk9 + 1) = some (.inl (cI, 120, .inl (fun i => nI (K i))))) (htb : w (tk9 + 2) = some (.inl (cI, 120, .inl (fun i => nI (U i))))) : fw_C l yTr_translate (Cond.code yTr_translate cTr_translate 3 (some FieldType.int) :: kWs) ({ frames := 5, cells := 0, slots := 0, locals := 106 } : Room) D kCl (kty cI cL cQ) (kz tO tB tC sa) [.ref tr, .ref tk9] (sz) w 0 0 (fun v w' => v = some (.int (nI (tTr K U m9 m9 0 (oo, vv, 0, tt, cc9, 0, 0)).1)) ∧ trS cI w' tr (tTr K U m9 m9 0 (oo, vv, 0, tt, cc9, 0, 0)).2 ∧ ∀ q, q < tr ∨ tr + 6 ≤ q → w' q = w q) := by
  refine fw_ofW (cc := cTr_translate) (maxL := 3) (ret := (some FieldType.int)) (by decide) rfl (Nat.le_of_ble_eq_true rfl) ?_
  intro p e s m args below meth c hx hb hr hts hown hlocks hname hml hK H ls hw hl
  have hW : ∀ w ∈ kWs, w.before args s = true := fun w h => hts w (List.mem_cons_of_mem _ h)
  have hown : s.vm.findClass RTr = some m.cls := hown
  have hl : lv_has ls 3 [(0, .ref tr), (1, .ref tk9)] := hl
  have ht09 := ht0
  have hta9 := hta
  have htb9 := htb
  have loop : ∀ (r i : Nat), i + r = m9 → ∀ (ts : TS), tOk i ts → ∀ (w1 : fw_W) (H : Heap) (locs : List Loc) (ls : Array Slot), fw_H D kCl (fw_A w (sz)) s.heap w1 (sz) H locs → lv_has ls 3 [(2, .int (nI i)), (0, .ref tr), (1, .ref tk9)] → trS cI w1 tr ts → (∀ q, q < tr ∨ tr + 6 ≤ q → w1 q = w q) → W p l e ({ frames := 5, cells := 0, slots := 0, locals := 106 } : Room) s m args below meth c H locs 0 0 (MQ below (fw_Q D kCl w (sz) 0 (fun v w' => v = some (.int (nI (tTr K U m9 r i ts).1)) ∧ trS cI w' tr (tTr K U m9 r i ts).2 ∧ ∀ q, q < tr ∨ tr + 6 ≤ q → w' q = w q)) args s 0 0 (fw_A w (sz))) (F0 m 20 ls []) := by
    intro r
    induction r with
    | zero =>
      intro i hir ts hok w1 H locs ls hw hl hS ho
      obtain ⟨oo, vv, n, tt, cc9, d, x⟩ := ts
      have h : w1 (tr) = some (.inr (7, [.ref (tr + 1), .ref (tr + 4), .ref (tr + 5), .int (nI (d)), .int (nI (x))])) := hS.1
      have hc : w1 (tr + 1) = some (.inr (1, [.ref (tr + 1 + 1), .ref (tr + 1 + 2), .int (nI (n))])) := hS.2.1
      have h1 : w1 (tr + 1 + 1) = some (.inl (cI, 120, .inl (fun i => nI (oo i)))) := hS.2.2.1
      have h2 : w1 (tr + 1 + 2) = some (.inl (cI, 120, .inl (fun i => nI (vv i)))) := hS.2.2.2.1
      have h4 : w1 (tr + 4) = some (.inl (cI, 120, .inl (fun i => nI (tt i)))) := hS.2.2.2.2.1
      have h5 : w1 (tr + 5) = some (.inl (cI, 120, .inl (fun i => nI (cc9 i)))) := hS.2.2.2.2.2
      obtain ⟨hnd, htc, hx3⟩ := id hok
      have ht : ∀ i, i < d → tt i < 15 := fun i hi => (htc i hi).1
      have hcb : ∀ i, i < d → cc9 i < 3 := fun i hi => (htc i hi).2
      have ht0 : w1 (tk9) = some (.inr (6, [.ref (tk9 + 1), .ref (tk9 + 2), .int (nI m9)])) := (ho _ (by omega)).trans ht09
      have hta : w1 (tk9 + 1) = some (.inl (cI, 120, .inl (fun i => nI (K i)))) := (ho _ (by omega)).trans hta9
      have htb : w1 (tk9 + 2) = some (.inl (cI, 120, .inl (fun i => nI (U i)))) := (ho _ (by omega)).trans htb9
      refine lv_iload_n (pc := 20) hx hb dTr_translate_20 rfl (lv_at hl 0 rfl) ?_
      refine lv_aload_n (pc := 21) hx hb dTr_translate_21 rfl (lv_at hl 2 rfl) ?_
      refine fw_get (pc := 22) (ci := 6) (v := .int (nI m9)) (C := RTo) (T := TTo) (N := 3) hx hb hW in_To hown hK.1 hw ht0 rfl 2 (by decide) (hW _ lf_Tr_35) (fun _ h => h) rfl dTr_translate_22 ?_
      refine lv_icmp_ge (pc := 25) (tgt := 57) hx hb dTr_translate_25 (by decide) (fun _ => ?_) (fun hc => absurd (nI_le (show m9 ≤ i by omega) (by omega)) hc)
      refine lv_aload_n (pc := 57) hx hb dTr_translate_57 rfl (lv_at hl 1 rfl) ?_
      refine fw_get (pc := 58) (ci := 7) (v := .int (nI (x))) (C := RTr) (T := TTr) (N := 5) hx hb hW in_Tr hown hK.1 hw h rfl 4 (by decide) (hW _ lf_Tr_29) (fun _ h => h) rfl dTr_translate_58 ?_
      refine lv_iconst (pc := 61) (v := (nI 1)) hx hb dTr_translate_61 (by decide) ?_
      rcases (show x = 1 ∨ ¬ x = 1 by omega) with hx1 | hx1
      · refine lv_icmp_eq (pc := 62) (tgt := 72) hx hb dTr_translate_62 (by decide) (fun _ => ?_) (fun hc => absurd (by rw [hx1]) hc)
        refine lv_aload_n (pc := 72) hx hb dTr_translate_72 rfl (lv_at hl 1 rfl) ?_
        refine lv_iconst (pc := 73) (v := (nI 1)) hx hb dTr_translate_73 (by decide) ?_
        refine fw_cV (pc := 74) (As := [.int (nI 1)]) (rest := []) ⟨hx, hb, hml, hown, hW⟩ (c_Tr_release (bd := 1) (by decide) (by omega) ht h hc h1 h2 h4) (cwV 1 hW (kw_V lm_Tr_48 im_Tr_release se_Tr_release ini_Tr cd_Tr_release) rfl rfl rfl (by decide +kernel) ⟨Nat.le_of_ble_eq_true rfl, Nat.le_of_ble_eq_true rfl⟩) hK hw h rfl rfl hl.1 rfl (Nat.le_of_ble_eq_true rfl) dTr_translate_74 ⟨Nat.le_of_ble_eq_true rfl, Nat.le_of_ble_eq_true rfl⟩ (fun v w2 H locs hq hw => ?_)
        obtain ⟨o1, v1, n1, d1, hrl⟩ : ∃ o1 v1 n1 d1, rl (1) tt d oo vv n = (o1, v1, n1, d1) := ⟨_, _, _, _, rfl⟩
        have hrs := rl_sum hrl
        rw [hrl] at hq
        obtain ⟨rfl, h, hc, h1, h2, rf9⟩ := hq
        have h4_ : w2 (tr + 4) = some (.inl (cI, 120, .inl (fun i => nI (tt i)))) := (rf9 _ (by omega)).trans h4
        have h5_ : w2 (tr + 5) = some (.inl (cI, 120, .inl (fun i => nI (cc9 i)))) := (rf9 _ (by omega)).trans h5
        have h4 := h4_
        have h5 := h5_
        have h : w2 (tr) = some (.inr (7, [.ref (tr + 1), .ref (tr + 4), .ref (tr + 5), .int (nI (d1)), .int (nI (x))])) := h
        have hc : w2 (tr + 1) = some (.inr (1, [.ref (tr + 1 + 1), .ref (tr + 1 + 2), .int (nI (n1))])) := hc
        have h1 : w2 (tr + 1 + 1) = some (.inl (cI, 120, .inl (fun i => nI (o1 i)))) := h1
        have h2 : w2 (tr + 1 + 2) = some (.inl (cI, 120, .inl (fun i => nI (v1 i)))) := h2
        refine W.eq (g2 := F0 m 77 ls []) rfl ?_
        have ht0 : w2 tk9 = some (.inr (6, [.ref (tk9 + 1), .ref (tk9 + 2), .int (nI m9)])) := (rf9 _ (by omega)).trans ht0
        have hf : tTr K U m9 0 i (oo, vv, n, tt, cc9, d, x) = (if d1 = 0 then 0 else m9 + 1, (o1, v1, n1, tt, cc9, d1, x)) := tFi_eq hx1 hrl
        refine lv_aload_n (pc := 77) hx hb dTr_translate_77 rfl (lv_at hl 1 rfl) ?_
        refine fw_get (pc := 78) (ci := 7) (v := .int (nI (d1))) (C := RTr) (T := TTr) (N := 5) hx hb hW in_Tr hown hK.1 hw h rfl 3 (by decide) (hW _ lf_Tr_25) (fun _ h => h) rfl dTr_translate_78 ?_
        refine lv_if_ne (pc := 81) (tgt := 88) hx hb dTr_translate_81 (by decide) (fun hz => ?_) (fun hz => ?_)
        · have hd0 : ¬ d1 = 0 := fun h9 => hz (by rw [h9]; rfl)
          refine lv_aload_n (pc := 88) hx hb dTr_translate_88 rfl (lv_at hl 2 rfl) ?_
          refine fw_get (pc := 89) (ci := 6) (v := .int (nI m9)) (C := RTo) (T := TTo) (N := 3) hx hb hW in_To hown hK.1 hw ht0 rfl 2 (by decide) (hW _ lf_Tr_35) (fun _ h => h) rfl dTr_translate_89 ?_
          refine lv_iconst (pc := 92) (v := (nI 1)) hx hb dTr_translate_92 (by decide) ?_
          refine lv_iadd (pc := 93) hx hb dTr_translate_93 ?_
          rw [show ((nI m9 + (nI 1)) : Int32) = nI (m9 + 1) from (nI_add m9 1)]
          exact fw_iret (pc := 94) hx hb hr hlocks hw dTr_translate_94 ⟨by rw [hf, if_neg hd0], by rw [hf]; exact ⟨h, hc, h1, h2, h4, h5⟩, fun q hq => by rw [rf9 q (by omega), ho q hq]⟩
        · have hd0 : d1 = 0 := Classical.byContradiction fun h9 => nI_ne0 (by omega) (by omega) hz
          refine lv_iconst (pc := 84) (v := (nI 0)) hx hb dTr_translate_84 (by decide) ?_
          refine lv_goto (pc := 85) (tgt := 94) hx hb dTr_translate_85 (by decide) ?_
          exact fw_iret (pc := 94) hx hb hr hlocks hw dTr_translate_94 ⟨by rw [hf, if_pos hd0], by rw [hf]; exact ⟨h, hc, h1, h2, h4, h5⟩, fun q hq => by rw [rf9 q (by omega), ho q hq]⟩
      · refine lv_icmp_eq (pc := 62) (tgt := 72) hx hb dTr_translate_62 (by decide) (fun hc => absurd hc (fun h9 => hx1 ((nI_eq (by omega) (by decide)).mp h9))) (fun _ => ?_)
        have hf : tTr K U m9 0 i (oo, vv, n, tt, cc9, d, x) = (m9 + 1, (oo, vv, n, tt, cc9, d, x)) := if_neg hx1
        refine lv_aload_n (pc := 65) hx hb dTr_translate_65 rfl (lv_at hl 2 rfl) ?_
        refine fw_get (pc := 66) (ci := 6) (v := .int (nI m9)) (C := RTo) (T := TTo) (N := 3) hx hb hW in_To hown hK.1 hw ht0 rfl 2 (by decide) (hW _ lf_Tr_35) (fun _ h => h) rfl dTr_translate_66 ?_
        refine lv_iconst (pc := 69) (v := (nI 1)) hx hb dTr_translate_69 (by decide) ?_
        refine lv_iadd (pc := 70) hx hb dTr_translate_70 ?_
        rw [show ((nI m9 + (nI 1)) : Int32) = nI (m9 + 1) from (nI_add m9 1)]
        exact fw_iret (pc := 71) hx hb hr hlocks hw dTr_translate_71 ⟨by rw [hf], by rw [hf]; exact ⟨h, hc, h1, h2, h4, h5⟩, ho⟩
    | succ r ih =>
      intro i hir ts hok w1 H locs ls hw hl hS ho
      obtain ⟨oo, vv, n, tt, cc9, d, x⟩ := ts
      have h : w1 (tr) = some (.inr (7, [.ref (tr + 1), .ref (tr + 4), .ref (tr + 5), .int (nI (d)), .int (nI (x))])) := hS.1
      have hc : w1 (tr + 1) = some (.inr (1, [.ref (tr + 1 + 1), .ref (tr + 1 + 2), .int (nI (n))])) := hS.2.1
      have h1 : w1 (tr + 1 + 1) = some (.inl (cI, 120, .inl (fun i => nI (oo i)))) := hS.2.2.1
      have h2 : w1 (tr + 1 + 2) = some (.inl (cI, 120, .inl (fun i => nI (vv i)))) := hS.2.2.2.1
      have h4 : w1 (tr + 4) = some (.inl (cI, 120, .inl (fun i => nI (tt i)))) := hS.2.2.2.2.1
      have h5 : w1 (tr + 5) = some (.inl (cI, 120, .inl (fun i => nI (cc9 i)))) := hS.2.2.2.2.2
      obtain ⟨hnd, htc, hx3⟩ := id hok
      have ht : ∀ i, i < d → tt i < 15 := fun i hi => (htc i hi).1
      have hcb : ∀ i, i < d → cc9 i < 3 := fun i hi => (htc i hi).2
      have ht0 : w1 (tk9) = some (.inr (6, [.ref (tk9 + 1), .ref (tk9 + 2), .int (nI m9)])) := (ho _ (by omega)).trans ht09
      have hta : w1 (tk9 + 1) = some (.inl (cI, 120, .inl (fun i => nI (K i)))) := (ho _ (by omega)).trans hta9
      have htb : w1 (tk9 + 2) = some (.inl (cI, 120, .inl (fun i => nI (U i)))) := (ho _ (by omega)).trans htb9
      have hki := hk i (by omega)
      refine lv_iload_n (pc := 20) hx hb dTr_translate_20 rfl (lv_at hl 0 rfl) ?_
      refine lv_aload_n (pc := 21) hx hb dTr_translate_21 rfl (lv_at hl 2 rfl) ?_
      refine fw_get (pc := 22) (ci := 6) (v := .int (nI m9)) (C := RTo) (T := TTo) (N := 3) hx hb hW in_To hown hK.1 hw ht0 rfl 2 (by decide) (hW _ lf_Tr_35) (fun _ h => h) rfl dTr_translate_22 ?_
      refine lv_icmp_ge (pc := 25) (tgt := 57) hx hb dTr_translate_25 (by decide) (fun hc => absurd hc (nI_ge (show i < m9 by omega) (by omega))) (fun _ => ?_)
      refine lv_aload_n (pc := 28) hx hb dTr_translate_28 rfl (lv_at hl 1 rfl) ?_
      refine lv_aload_n (pc := 29) hx hb dTr_translate_29 rfl (lv_at hl 2 rfl) ?_
      refine fw_get (pc := 30) (ci := 6) (v := .ref (tk9 + 1)) (C := RTo) (T := TTo) (N := 3) hx hb hW in_To hown hK.1 hw ht0 rfl 0 (by decide) (hW _ lf_Tr_38) (fun _ h => h) rfl dTr_translate_30 ?_
      refine lv_iload_n (pc := 33) hx hb dTr_translate_33 rfl (lv_at hl 0 rfl) ?_
      refine fw_ialdN (pc := 34) (x := nI (K (i))) hx hb hK.1 hw 0 hta rfl (i) (show i < 120 by omega) (by decide) rfl dTr_translate_34 ?_
      refine lv_aload_n (pc := 35) hx hb dTr_translate_35 rfl (lv_at hl 2 rfl) ?_
      refine fw_get (pc := 36) (ci := 6) (v := .ref (tk9 + 2)) (C := RTo) (T := TTo) (N := 3) hx hb hW in_To hown hK.1 hw ht0 rfl 1 (by decide) (hW _ lf_Tr_41) (fun _ h => h) rfl dTr_translate_36 ?_
      refine lv_iload_n (pc := 39) hx hb dTr_translate_39 rfl (lv_at hl 0 rfl) ?_
      refine fw_ialdN (pc := 40) (x := nI (U (i))) hx hb hK.1 hw 0 htb rfl (i) (show i < 120 by omega) (by decide) rfl dTr_translate_40 ?_
      refine fw_cV (pc := 41) (As := [.int (nI (K (i))), .int (nI (U (i)))]) (rest := []) ⟨hx, hb, hml, hown, hW⟩ (c_Tr_accept (k := K i) (u := U i) hS (by omega) ht hcb hx3 hki) (cwV 2 hW (kw_V lm_Tr_44 im_Tr_accept se_Tr_accept ini_Tr cd_Tr_accept) rfl rfl rfl (by decide +kernel) ⟨Nat.le_of_ble_eq_true rfl, Nat.le_of_ble_eq_true rfl⟩) hK hw h rfl rfl hl.1 rfl (Nat.le_of_ble_eq_true rfl) dTr_translate_41 ⟨Nat.le_of_ble_eq_true rfl, Nat.le_of_ble_eq_true rfl⟩ (fun v w2 H locs hq hw => ?_)
      obtain ⟨rfl, hS9, af9⟩ := hq
      by_cases hac : (tAc (K i) (U i) (oo, vv, n, tt, cc9, d, x)).1 = true
      · rw [if_pos hac]
        refine W.eq (g2 := F0 m 44 ls [.int (nI 1)]) rfl ?_
        refine lv_if_ne (pc := 44) (tgt := 51) hx hb dTr_translate_44 (by decide) (fun _ => ?_) (fun hc => absurd hc (show ¬ nI 1 = 0 by decide))
        refine lv_iinc (pc := 51) (lv' := [(2, .int (nI (i + 1))), (0, .ref tr), (1, .ref tk9)]) hx hb dTr_translate_51 hl (k := 0) rfl ((nI_add i 1)) (by decide) rfl (fun ls hl => ?_)
        refine lv_goto (pc := 54) (tgt := 20) hx hb dTr_translate_54 (by decide) ?_
        rw [show tTr K U m9 (r + 1) i (oo, vv, n, tt, cc9, d, x) = tTr K U m9 r (i + 1) (tAc (K i) (U i) (oo, vv, n, tt, cc9, d, x)).2 from if_pos hac]
        exact ih (i + 1) (by omega) _ (tAc_ok hok hki hac) _ H locs ls hw (lv_sub hl [0, 1, 2] rfl) hS9 (fun q hq => by rw [af9 q hq, ho q hq])
      · rw [if_neg hac]
        refine W.eq (g2 := F0 m 44 ls [.int (nI 0)]) rfl ?_
        refine lv_if_ne (pc := 44) (tgt := 51) hx hb dTr_translate_44 (by decide) (fun hc => absurd hc (fun h => h (by decide))) (fun _ => ?_)
        have hf : tTr K U m9 (r + 1) i (oo, vv, n, tt, cc9, d, x) = (i + 1, (tAc (K i) (U i) (oo, vv, n, tt, cc9, d, x)).2) := if_neg hac
        refine lv_iload_n (pc := 47) hx hb dTr_translate_47 rfl (lv_at hl 0 rfl) ?_
        refine lv_iconst (pc := 48) (v := (nI 1)) hx hb dTr_translate_48 (by decide) ?_
        refine lv_iadd (pc := 49) hx hb dTr_translate_49 ?_
        rw [show ((nI i + (nI 1)) : Int32) = nI (i + 1) from (nI_add i 1)]
        exact fw_iret (pc := 50) hx hb hr hlocks hw dTr_translate_50 ⟨by rw [hf], by rw [hf]; exact hS9, fun q hq => by rw [af9 q hq, ho q hq]⟩
  have h : w (tr) = some (.inr (7, [.ref (tr + 1), .ref (tr + 4), .ref (tr + 5), .int (nI (d)), .int (nI (x))])) := hS0.1
  have hc : w (tr + 1) = some (.inr (1, [.ref (tr + 1 + 1), .ref (tr + 1 + 2), .int (nI (n))])) := hS0.2.1
  have h1 : w (tr + 1 + 1) = some (.inl (cI, 120, .inl (fun i => nI (oo i)))) := hS0.2.2.1
  have h2 : w (tr + 1 + 2) = some (.inl (cI, 120, .inl (fun i => nI (vv i)))) := hS0.2.2.2.1
  have h4 : w (tr + 4) = some (.inl (cI, 120, .inl (fun i => nI (tt i)))) := hS0.2.2.2.2.1
  have h5 : w (tr + 5) = some (.inl (cI, 120, .inl (fun i => nI (cc9 i)))) := hS0.2.2.2.2.2
  refine lv_aload_n (pc := 0) hx hb dTr_translate_0 rfl (lv_at hl 0 rfl) ?_
  refine fw_get (pc := 1) (ci := 7) (v := .ref (tr + 1)) (C := RTr) (T := TTr) (N := 5) hx hb hW in_Tr hown hK.1 hw h rfl 0 (by decide) (hW _ lf_Tr_12) (fun _ h => h) rfl dTr_translate_1 ?_
  refine lv_iconst (pc := 4) (v := (nI 0)) hx hb dTr_translate_4 (by decide) ?_
  refine fw_put (pc := 5) (ci := 1) (v := .int (nI 0)) (ty := .int) (C := RCo) (T := TCo) (N := 3) hx hb hW in_Co tyCo tyCo_ok nmCo hown hK.1 hw hc rfl 2 (by decide) (hW _ lf_Tr_32) (fun _ h => h) rfl (by decide +kernel) rfl rfl (Nat.le_of_ble_eq_true rfl) dTr_translate_5 (fun H locs hw => ?_)
  obtain ⟨w20, e20⟩ : ∃ w_, w_ = fw_up w (tr + 1) (.inr (1, [.ref (tr + 1 + 1), .ref (tr + 1 + 2), .int (nI 0)])) := ⟨_, rfl⟩
  have hw : fw_H D kCl (fw_A w (sz)) s.heap w20 (sz) H locs := by rw [e20]; exact hw
  have h_ : w20 (tr) = some (.inr (7, [.ref (tr + 1), .ref (tr + 4), .ref (tr + 5), .int (nI (d)), .int (nI (x))])) := by rw [e20, fw_un (by omega)]; exact h
  have h1_ : w20 (tr + 1 + 1) = some (.inl (cI, 120, .inl (fun i => nI (oo i)))) := by rw [e20, fw_un (fw_neK h1 hc)]; exact h1
  have h2_ : w20 (tr + 1 + 2) = some (.inl (cI, 120, .inl (fun i => nI (vv i)))) := by rw [e20, fw_un (fw_neK h2 hc)]; exact h2
  have h4_ : w20 (tr + 4) = some (.inl (cI, 120, .inl (fun i => nI (tt i)))) := by rw [e20, fw_un (by omega)]; exact h4
  have h5_ : w20 (tr + 5) = some (.inl (cI, 120, .inl (fun i => nI (cc9 i)))) := by rw [e20, fw_un (by omega)]; exact h5
  have hc_ : w20 (tr + 1) = some (.inr (1, [.ref (tr + 1 + 1), .ref (tr + 1 + 2), .int (nI 0)])) := by rw [e20]; exact fw_us _ _ _
  have h := h_
  have hc := hc_
  have h1 := h1_
  have h2 := h2_
  have h4 := h4_
  have h5 := h5_
  refine lv_aload_n (pc := 8) hx hb dTr_translate_8 rfl (lv_at hl 0 rfl) ?_
  refine lv_iconst (pc := 9) (v := (nI 0)) hx hb dTr_translate_9 (by decide) ?_
  refine fw_put (pc := 10) (ci := 7) (v := .int (nI 0)) (ty := .int) (C := RTr) (T := TTr) (N := 5) hx hb hW in_Tr tyTr tyTr_ok nmTr hown hK.1 hw h rfl 3 (by decide) (hW _ lf_Tr_25) (fun _ h => h) rfl (by decide +kernel) rfl rfl (Nat.le_of_ble_eq_true rfl) dTr_translate_10 (fun H locs hw => ?_)
  obtain ⟨w21, e21⟩ : ∃ w_, w_ = fw_up w20 (tr) (.inr (7, [.ref (tr + 1), .ref (tr + 4), .ref (tr + 5), .int (nI 0), .int (nI (x))])) := ⟨_, rfl⟩
  have hw : fw_H D kCl (fw_A w (sz)) s.heap w21 (sz) H locs := by rw [e21]; exact hw
  have hc_ : w21 (tr + 1) = some (.inr (1, [.ref (tr + 1 + 1), .ref (tr + 1 + 2), .int (nI 0)])) := by rw [e21, fw_un (by omega)]; exact hc
  have h1_ : w21 (tr + 1 + 1) = some (.inl (cI, 120, .inl (fun i => nI (oo i)))) := by rw [e21, fw_un (fw_neK h1 h)]; exact h1
  have h2_ : w21 (tr + 1 + 2) = some (.inl (cI, 120, .inl (fun i => nI (vv i)))) := by rw [e21, fw_un (fw_neK h2 h)]; exact h2
  have h4_ : w21 (tr + 4) = some (.inl (cI, 120, .inl (fun i => nI (tt i)))) := by rw [e21, fw_un (by omega)]; exact h4
  have h5_ : w21 (tr + 5) = some (.inl (cI, 120, .inl (fun i => nI (cc9 i)))) := by rw [e21, fw_un (by omega)]; exact h5
  have h_ : w21 (tr) = some (.inr (7, [.ref (tr + 1), .ref (tr + 4), .ref (tr + 5), .int (nI 0), .int (nI (x))])) := by rw [e21]; exact fw_us _ _ _
  have h := h_
  have hc := hc_
  have h1 := h1_
  have h2 := h2_
  have h4 := h4_
  have h5 := h5_
  refine lv_aload_n (pc := 13) hx hb dTr_translate_13 rfl (lv_at hl 0 rfl) ?_
  refine lv_iconst (pc := 14) (v := (nI 0)) hx hb dTr_translate_14 (by decide) ?_
  refine fw_put (pc := 15) (ci := 7) (v := .int (nI 0)) (ty := .int) (C := RTr) (T := TTr) (N := 5) hx hb hW in_Tr tyTr tyTr_ok nmTr hown hK.1 hw h rfl 4 (by decide) (hW _ lf_Tr_29) (fun _ h => h) rfl (by decide +kernel) rfl rfl (Nat.le_of_ble_eq_true rfl) dTr_translate_15 (fun H locs hw => ?_)
  obtain ⟨w22, e22⟩ : ∃ w_, w_ = fw_up w21 (tr) (.inr (7, [.ref (tr + 1), .ref (tr + 4), .ref (tr + 5), .int (nI 0), .int (nI 0)])) := ⟨_, rfl⟩
  have hw : fw_H D kCl (fw_A w (sz)) s.heap w22 (sz) H locs := by rw [e22]; exact hw
  have hc_ : w22 (tr + 1) = some (.inr (1, [.ref (tr + 1 + 1), .ref (tr + 1 + 2), .int (nI 0)])) := by rw [e22, fw_un (by omega)]; exact hc
  have h1_ : w22 (tr + 1 + 1) = some (.inl (cI, 120, .inl (fun i => nI (oo i)))) := by rw [e22, fw_un (fw_neK h1 h)]; exact h1
  have h2_ : w22 (tr + 1 + 2) = some (.inl (cI, 120, .inl (fun i => nI (vv i)))) := by rw [e22, fw_un (fw_neK h2 h)]; exact h2
  have h4_ : w22 (tr + 4) = some (.inl (cI, 120, .inl (fun i => nI (tt i)))) := by rw [e22, fw_un (by omega)]; exact h4
  have h5_ : w22 (tr + 5) = some (.inl (cI, 120, .inl (fun i => nI (cc9 i)))) := by rw [e22, fw_un (by omega)]; exact h5
  have h_ : w22 (tr) = some (.inr (7, [.ref (tr + 1), .ref (tr + 4), .ref (tr + 5), .int (nI 0), .int (nI 0)])) := by rw [e22]; exact fw_us _ _ _
  have h := h_
  have hc := hc_
  have h1 := h1_
  have h2 := h2_
  have h4 := h4_
  have h5 := h5_
  refine lv_iconst (pc := 18) (v := (nI 0)) hx hb dTr_translate_18 (by decide) ?_
  refine lv_istore_n (pc := 19) (lv' := [(2, .int (nI 0)), (0, .ref tr), (1, .ref tk9)]) hx hb dTr_translate_19 rfl hl (by decide) rfl (fun ls hl => ?_)
  exact loop m9 0 (by omega) (oo, vv, 0, tt, cc9, 0, 0) ⟨Nat.le_refl 0, fun j hj => absurd hj (Nat.not_lt_zero j), by decide⟩ _ H locs ls hw (lv_sub hl [0, 1, 2] rfl) ⟨h, hc, h1, h2, h4, h5⟩ (fun q hq => by rw [e22, fw_un (by omega), e21, fw_un (by omega), e20, fw_un (by omega)])
end TR3
