/-! Constructors of Machine and BigCalculator. Written by wip/gen/consts3.py. -/
section CO3
variable {l : Launch} {D : va_G} {cI cL cQ : ClassId} {z : kZ_T} {w : fw_W}
set_option maxHeartbeats 4000000 in
set_option maxRecDepth 100000 in
theorem c_Ma_init {n : Nat} (ho1 : ∀ A U H, z A U H → va_AO "BigCalculator$Whole" U) (h : w n = some (.inr (4, [.null, .null, .int (nI 0), .int (nI 0), .int (nI 0), .int (nI 0), .null]))) : fw_C l yMa_init (Cond.code yMa_init cMa_init 2 none :: kWs) ({ frames := 4, cells := 72, slots := 1362, locals := 72 } : Room) D kCl (kty cI cL cQ) z [.ref n] (n + 1) w 72 1362 (fun v w' => v = none ∧ w' n = some (.inr (4, [.ref (n + 1), .ref (n + 32), .int (nI 0), .int (nI 0), .int (nI 0), .int (nI 0), .ref (n + 57)])) ∧ w' (n + 1) = some (.inl (cQ, 10, .inr (.inr (.inr (.inr (fun j => if j < 10 then some (n + 2 + 3 * j) else none)))))) ∧ isW0s cL w' (n + 2) 10 ∧ w' (n + 32) = some (.inl (cQ, 8, .inr (.inr (.inr (.inr (fun j => if j < 8 then some (n + 33 + 3 * j) else none)))))) ∧ isW0s cL w' (n + 33) 8 ∧ arI cL w' (n + 57) ∧ ∀ q, q < n ∨ n + 73 ≤ q → w' q = w q) := by
  refine fw_ofW (cc := cMa_init) (maxL := 2) (ret := none) (by decide) rfl (Nat.le_of_ble_eq_true rfl) ?_
  intro p e s m args below meth c hx hb hr hts hown hlocks hname hml hK H ls hw hl
  have hW : ∀ w ∈ kWs, w.before args s = true := fun w h => hts w (List.mem_cons_of_mem _ h)
  have hown : s.vm.findClass RMa = some m.cls := hown
  have hl : lv_has ls 2 [(0, .ref n)] := hl
  have lp2_k : ∀ (w1 : fw_W) (H : Heap) (locs : List Loc) (ls : Array Slot), fw_H D kCl (fw_A w (n + 1)) s.heap w1 (n + 33 + 3 * 8) H locs → lv_has ls 2 [(1, .int (nI 8)), (0, .ref n)] → w1 n = some (.inr (4, [.ref (n + 1), .ref (n + 32), .int (nI 0), .int (nI 0), .int (nI 0), .int (nI 0), .null])) → w1 (n + 32) = some (.inl (cQ, 8, .inr (.inr (.inr (.inr (fun j => if j < 8 then some (n + 33 + 3 * j) else none)))))) → isW0s cL w1 (n + 33) 8 → isW0s cL w1 (n + 2) 10 → w1 (n + 1) = some (.inl (cQ, 10, .inr (.inr (.inr (.inr (fun j => if j < 10 then some (n + 2 + 3 * j) else none)))))) → (∀ q, q < n ∨ n + 33 + 3 * 8 ≤ q → w1 q = w q) → W p l e ({ frames := 4, cells := 72, slots := 1362, locals := 72 } : Room) s m args below meth c H locs (32 + 3 * 8) (558 + 54 * 8) (MQ below (fw_Q D kCl w (n + 1) 72 (fun v w' => v = none ∧ w' n = some (.inr (4, [.ref (n + 1), .ref (n + 32), .int (nI 0), .int (nI 0), .int (nI 0), .int (nI 0), .ref (n + 57)])) ∧ w' (n + 1) = some (.inl (cQ, 10, .inr (.inr (.inr (.inr (fun j => if j < 10 then some (n + 2 + 3 * j) else none)))))) ∧ isW0s cL w' (n + 2) 10 ∧ w' (n + 32) = some (.inl (cQ, 8, .inr (.inr (.inr (.inr (fun j => if j < 8 then some (n + 33 + 3 * j) else none)))))) ∧ isW0s cL w' (n + 33) 8 ∧ arI cL w' (n + 57) ∧ ∀ q, q < n ∨ n + 73 ≤ q → w' q = w q)) args s 72 1362 (fw_A w (n + 1))) (F0 m 76 ls []) := by
    intro w1 H locs ls hw hl  h ha hrr hrg hg hfr
    have hw : fw_H D kCl (fw_A w (n + 1)) s.heap w1 (n + 57) H locs := hw
    refine W.widen (k := 56) (n := 990) (by decide) (by decide) ?_
    refine lv_aload_n (pc := 76) hx hb dMa_init_76 rfl (lv_at hl 1 rfl) ?_
    refine lv_iconst (pc := 77) (v := (nI 0)) hx hb dMa_init_77 (by decide) ?_
    refine fw_put (pc := 78) (ci := 4) (v := .int (nI 0)) (ty := .int) (C := RMa) (T := TMa) (N := 7) hx hb hW in_Ma tyMa tyMa_ok nmMa hown hK.1 hw h rfl 2 (by decide) (hW _ lf_Ma_21) (fun _ h => h) rfl (by decide +kernel) rfl rfl (Nat.le_of_ble_eq_true rfl) dMa_init_78 (fun H locs hw => ?_)
    obtain ⟨w2, e2⟩ : ∃ w_, w_ = fw_up w1 (n) (.inr (4, [.ref (n + 1), .ref (n + 32), .int (nI 0), .int (nI 0), .int (nI 0), .int (nI 0), .null])) := ⟨_, rfl⟩
    have hw : fw_H D kCl (fw_A w (n + 1)) s.heap w2 (n + 57) H locs := by rw [e2]; exact hw
    have ha_ : w2 (n + 32) = some (.inl (cQ, 8, .inr (.inr (.inr (.inr (fun j => if j < 8 then some (n + 33 + 3 * j) else none)))))) := by rw [e2, fw_un (by omega)]; exact ha
    have hg_ : w2 (n + 1) = some (.inl (cQ, 10, .inr (.inr (.inr (.inr (fun j => if j < 10 then some (n + 2 + 3 * j) else none)))))) := by rw [e2, fw_un (by omega)]; exact hg
    have h_ : w2 (n) = some (.inr (4, [.ref (n + 1), .ref (n + 32), .int (nI 0), .int (nI 0), .int (nI 0), .int (nI 0), .null])) := by rw [e2]; exact fw_us _ _ _
    have h := h_
    have ha := ha_
    have hg := hg_
    have hrr : isW0s cL w2 (n + 33) 8 := hrr.kept (fun a h1 h2 => by rw [e2, fw_un (by omega)])
    have hrg : isW0s cL w2 (n + 2) 10 := hrg.kept (fun a h1 h2 => by rw [e2, fw_un (by omega)])
    refine lv_aload_n (pc := 81) hx hb dMa_init_81 rfl (lv_at hl 1 rfl) ?_
    refine lv_iconst (pc := 82) (v := (nI 0)) hx hb dMa_init_82 (by decide) ?_
    refine fw_put (pc := 83) (ci := 4) (v := .int (nI 0)) (ty := .int) (C := RMa) (T := TMa) (N := 7) hx hb hW in_Ma tyMa tyMa_ok nmMa hown hK.1 hw h rfl 3 (by decide) (hW _ lf_Ma_25) (fun _ h => h) rfl (by decide +kernel) rfl rfl (Nat.le_of_ble_eq_true rfl) dMa_init_83 (fun H locs hw => ?_)
    obtain ⟨w3, e3⟩ : ∃ w_, w_ = fw_up w2 (n) (.inr (4, [.ref (n + 1), .ref (n + 32), .int (nI 0), .int (nI 0), .int (nI 0), .int (nI 0), .null])) := ⟨_, rfl⟩
    have hw : fw_H D kCl (fw_A w (n + 1)) s.heap w3 (n + 57) H locs := by rw [e3]; exact hw
    have ha_ : w3 (n + 32) = some (.inl (cQ, 8, .inr (.inr (.inr (.inr (fun j => if j < 8 then some (n + 33 + 3 * j) else none)))))) := by rw [e3, fw_un (by omega)]; exact ha
    have hg_ : w3 (n + 1) = some (.inl (cQ, 10, .inr (.inr (.inr (.inr (fun j => if j < 10 then some (n + 2 + 3 * j) else none)))))) := by rw [e3, fw_un (by omega)]; exact hg
    have h_ : w3 (n) = some (.inr (4, [.ref (n + 1), .ref (n + 32), .int (nI 0), .int (nI 0), .int (nI 0), .int (nI 0), .null])) := by rw [e3]; exact fw_us _ _ _
    have h := h_
    have ha := ha_
    have hg := hg_
    have hrr : isW0s cL w3 (n + 33) 8 := hrr.kept (fun a h1 h2 => by rw [e3, fw_un (by omega)])
    have hrg : isW0s cL w3 (n + 2) 10 := hrg.kept (fun a h1 h2 => by rw [e3, fw_un (by omega)])
    refine lv_aload_n (pc := 86) hx hb dMa_init_86 rfl (lv_at hl 1 rfl) ?_
    refine lv_iconst (pc := 87) (v := (nI 0)) hx hb dMa_init_87 (by decide) ?_
    refine fw_put (pc := 88) (ci := 4) (v := .int (nI 0)) (ty := .int) (C := RMa) (T := TMa) (N := 7) hx hb hW in_Ma tyMa tyMa_ok nmMa hown hK.1 hw h rfl 4 (by decide) (hW _ lf_Ma_28) (fun _ h => h) rfl (by decide +kernel) rfl rfl (Nat.le_of_ble_eq_true rfl) dMa_init_88 (fun H locs hw => ?_)
    obtain ⟨w4, e4⟩ : ∃ w_, w_ = fw_up w3 (n) (.inr (4, [.ref (n + 1), .ref (n + 32), .int (nI 0), .int (nI 0), .int (nI 0), .int (nI 0), .null])) := ⟨_, rfl⟩
    have hw : fw_H D kCl (fw_A w (n + 1)) s.heap w4 (n + 57) H locs := by rw [e4]; exact hw
    have ha_ : w4 (n + 32) = some (.inl (cQ, 8, .inr (.inr (.inr (.inr (fun j => if j < 8 then some (n + 33 + 3 * j) else none)))))) := by rw [e4, fw_un (by omega)]; exact ha
    have hg_ : w4 (n + 1) = some (.inl (cQ, 10, .inr (.inr (.inr (.inr (fun j => if j < 10 then some (n + 2 + 3 * j) else none)))))) := by rw [e4, fw_un (by omega)]; exact hg
    have h_ : w4 (n) = some (.inr (4, [.ref (n + 1), .ref (n + 32), .int (nI 0), .int (nI 0), .int (nI 0), .int (nI 0), .null])) := by rw [e4]; exact fw_us _ _ _
    have h := h_
    have ha := ha_
    have hg := hg_
    have hrr : isW0s cL w4 (n + 33) 8 := hrr.kept (fun a h1 h2 => by rw [e4, fw_un (by omega)])
    have hrg : isW0s cL w4 (n + 2) 10 := hrg.kept (fun a h1 h2 => by rw [e4, fw_un (by omega)])
    refine lv_aload_n (pc := 91) hx hb dMa_init_91 rfl (lv_at hl 1 rfl) ?_
    refine lv_iconst (pc := 92) (v := (nI 0)) hx hb dMa_init_92 (by decide) ?_
    refine fw_put (pc := 93) (ci := 4) (v := .int (nI 0)) (ty := .int) (C := RMa) (T := TMa) (N := 7) hx hb hW in_Ma tyMa tyMa_ok nmMa hown hK.1 hw h rfl 5 (by decide) (hW _ lf_Ma_31) (fun _ h => h) rfl (by decide +kernel) rfl rfl (Nat.le_of_ble_eq_true rfl) dMa_init_93 (fun H locs hw => ?_)
    obtain ⟨w5, e5⟩ : ∃ w_, w_ = fw_up w4 (n) (.inr (4, [.ref (n + 1), .ref (n + 32), .int (nI 0), .int (nI 0), .int (nI 0), .int (nI 0), .null])) := ⟨_, rfl⟩
    have hw : fw_H D kCl (fw_A w (n + 1)) s.heap w5 (n + 57) H locs := by rw [e5]; exact hw
    have ha_ : w5 (n + 32) = some (.inl (cQ, 8, .inr (.inr (.inr (.inr (fun j => if j < 8 then some (n + 33 + 3 * j) else none)))))) := by rw [e5, fw_un (by omega)]; exact ha
    have hg_ : w5 (n + 1) = some (.inl (cQ, 10, .inr (.inr (.inr (.inr (fun j => if j < 10 then some (n + 2 + 3 * j) else none)))))) := by rw [e5, fw_un (by omega)]; exact hg
    have h_ : w5 (n) = some (.inr (4, [.ref (n + 1), .ref (n + 32), .int (nI 0), .int (nI 0), .int (nI 0), .int (nI 0), .null])) := by rw [e5]; exact fw_us _ _ _
    have h := h_
    have ha := ha_
    have hg := hg_
    have hrr : isW0s cL w5 (n + 33) 8 := hrr.kept (fun a h1 h2 => by rw [e5, fw_un (by omega)])
    have hrg : isW0s cL w5 (n + 2) 10 := hrg.kept (fun a h1 h2 => by rw [e5, fw_un (by omega)])
    refine lv_aload_n (pc := 96) hx hb dMa_init_96 rfl (lv_at hl 1 rfl) ?_
    refine fw_new (pc := 97) (ci := 0) (fs := [.null, .null, .null, .null, .null]) (C := RAr) (T := TAr) (N := 5) hx hb hW in_Ar tyAr tyAr_ok hown (hW _ lc_Ma_34) (hW _ ins_Ar) (hW _ ini_Ar) hK.1 hw rfl df_Ar (Nat.le_of_ble_eq_true rfl) (Nat.le_of_ble_eq_true rfl) dMa_init_97 (fun H hw => ?_)
    obtain ⟨w6, e6⟩ : ∃ w_, w_ = fw_up w5 (n + 57) (.inr (0, [.null, .null, .null, .null, .null])) := ⟨_, rfl⟩
    have hw : fw_H D kCl (fw_A w (n + 1)) s.heap w6 (n + 58) H locs := by rw [e6]; exact hw
    have h_ : w6 (n) = some (.inr (4, [.ref (n + 1), .ref (n + 32), .int (nI 0), .int (nI 0), .int (nI 0), .int (nI 0), .null])) := by rw [e6, fw_un (by omega)]; exact h
    have ha_ : w6 (n + 32) = some (.inl (cQ, 8, .inr (.inr (.inr (.inr (fun j => if j < 8 then some (n + 33 + 3 * j) else none)))))) := by rw [e6, fw_un (by omega)]; exact ha
    have hg_ : w6 (n + 1) = some (.inl (cQ, 10, .inr (.inr (.inr (.inr (fun j => if j < 10 then some (n + 2 + 3 * j) else none)))))) := by rw [e6, fw_un (by omega)]; exact hg
    have f6_ : w6 (n + 57) = some (.inr (0, [.null, .null, .null, .null, .null])) := by rw [e6]; exact fw_us _ _ _
    have h := h_
    have ha := ha_
    have hg := hg_
    have f6 := f6_
    have hrr : isW0s cL w6 (n + 33) 8 := hrr.kept (fun a h1 h2 => by rw [e6, fw_un (by omega)])
    have hrg : isW0s cL w6 (n + 2) 10 := hrg.kept (fun a h1 h2 => by rw [e6, fw_un (by omega)])
    refine lv_dup (pc := 100) hx hb dMa_init_100 rfl ?_
    refine fw_cI (pc := 101) (As := []) (rest := [.ref (n + 57), .ref n]) ⟨hx, hb, hml, hown, hW⟩ (c_Ar_init f6) (cwI 0 hW (kw_I cd_Ar_init) rfl rfl rfl (hW _ ini_Ar) (hW _ lm_Ma_36) (hW _ im_Ar_init) rfl (by decide +kernel) ⟨Nat.le_of_ble_eq_true rfl, Nat.le_of_ble_eq_true rfl⟩) hK hw rfl hl.1 rfl (Nat.le_of_ble_eq_true rfl) dMa_init_101 ⟨Nat.le_of_ble_eq_true rfl, Nat.le_of_ble_eq_true rfl⟩ (fun v w7 H locs hq hw => ?_)
    have hw : fw_H D kCl (fw_A w (n + 1)) s.heap w7 (n + 73) H locs := hw
    obtain ⟨rfl, ar, qo⟩ := hq
    have h_ : w7 (n) = some (.inr (4, [.ref (n + 1), .ref (n + 32), .int (nI 0), .int (nI 0), .int (nI 0), .int (nI 0), .null])) := (qo _ (by omega)).trans h
    have ha_ : w7 (n + 32) = some (.inl (cQ, 8, .inr (.inr (.inr (.inr (fun j => if j < 8 then some (n + 33 + 3 * j) else none)))))) := (qo _ (by omega)).trans ha
    have hg_ : w7 (n + 1) = some (.inl (cQ, 10, .inr (.inr (.inr (.inr (fun j => if j < 10 then some (n + 2 + 3 * j) else none)))))) := (qo _ (by omega)).trans hg
    have h := h_
    have ha := ha_
    have hg := hg_
    have hrr : isW0s cL w7 (n + 33) 8 := hrr.kept (fun a h1 h2 => qo a (by omega))
    have hrg : isW0s cL w7 (n + 2) 10 := hrg.kept (fun a h1 h2 => qo a (by omega))
    refine fw_putF (pc := 104) (ci := 4) (v := .ref (n + 57)) (ty := (.object "BigCalculator$Arithmetic")) (C := RMa) (T := TMa) (N := 7) hx hb hW in_Ma tyMa tyMa_ok nmMa hown hK.1 hw h rfl 6 (by decide) (hW _ lf_Ma_37) (fun _ h => h) rfl hname rfl (by decide +kernel) rfl rfl (Nat.le_of_ble_eq_true rfl) dMa_init_104 (fun H locs hw => ?_)
    obtain ⟨w8, e8⟩ : ∃ w_, w_ = fw_up w7 (n) (.inr (4, [.ref (n + 1), .ref (n + 32), .int (nI 0), .int (nI 0), .int (nI 0), .int (nI 0), .ref (n + 57)])) := ⟨_, rfl⟩
    have hw : fw_H D kCl (fw_A w (n + 1)) s.heap w8 (n + 73) H locs := by rw [e8]; exact hw
    have ha_ : w8 (n + 32) = some (.inl (cQ, 8, .inr (.inr (.inr (.inr (fun j => if j < 8 then some (n + 33 + 3 * j) else none)))))) := by rw [e8, fw_un (by omega)]; exact ha
    have hg_ : w8 (n + 1) = some (.inl (cQ, 10, .inr (.inr (.inr (.inr (fun j => if j < 10 then some (n + 2 + 3 * j) else none)))))) := by rw [e8, fw_un (by omega)]; exact hg
    have h_ : w8 (n) = some (.inr (4, [.ref (n + 1), .ref (n + 32), .int (nI 0), .int (nI 0), .int (nI 0), .int (nI 0), .ref (n + 57)])) := by rw [e8]; exact fw_us _ _ _
    have h := h_
    have ha := ha_
    have hg := hg_
    have hrr : isW0s cL w8 (n + 33) 8 := hrr.kept (fun a h1 h2 => by rw [e8, fw_un (by omega)])
    have hrg : isW0s cL w8 (n + 2) 10 := hrg.kept (fun a h1 h2 => by rw [e8, fw_un (by omega)])
    have ar : arI cL w8 (n + 57) := ar.kept (fun a h1 h2 => by rw [e8, fw_un (by omega)])
    exact fw_vret (pc := 107) hx hb hr hlocks hw dMa_init_107 ⟨rfl, h, hg, hrg, ha, hrr, ar, fun q hq => by rw [e8, fw_un (by omega), qo q (by omega), e6, fw_un (by omega), e5, fw_un (by omega), e4, fw_un (by omega), e3, fw_un (by omega), e2, fw_un (by omega)]; exact hfr q (by omega)⟩
  have lp2 : ∀ (d i : Nat), i + d = 8 → ∀ (w1 : fw_W) (H : Heap) (locs : List Loc) (ls : Array Slot), fw_H D kCl (fw_A w (n + 1)) s.heap w1 (n + 33 + 3 * i) H locs → lv_has ls 2 [(1, .int (nI i)), (0, .ref n)] → w1 n = some (.inr (4, [.ref (n + 1), .ref (n + 32), .int (nI 0), .int (nI 0), .int (nI 0), .int (nI 0), .null])) → w1 (n + 32) = some (.inl (cQ, 8, .inr (.inr (.inr (.inr (fun j => if j < i then some (n + 33 + 3 * j) else none)))))) → isW0s cL w1 (n + 33) i → isW0s cL w1 (n + 2) 10 → w1 (n + 1) = some (.inl (cQ, 10, .inr (.inr (.inr (.inr (fun j => if j < 10 then some (n + 2 + 3 * j) else none)))))) → (∀ q, q < n ∨ n + 33 + 3 * i ≤ q → w1 q = w q) → W p l e ({ frames := 4, cells := 72, slots := 1362, locals := 72 } : Room) s m args below meth c H locs (32 + 3 * i) (558 + 54 * i) (MQ below (fw_Q D kCl w (n + 1) 72 (fun v w' => v = none ∧ w' n = some (.inr (4, [.ref (n + 1), .ref (n + 32), .int (nI 0), .int (nI 0), .int (nI 0), .int (nI 0), .ref (n + 57)])) ∧ w' (n + 1) = some (.inl (cQ, 10, .inr (.inr (.inr (.inr (fun j => if j < 10 then some (n + 2 + 3 * j) else none)))))) ∧ isW0s cL w' (n + 2) 10 ∧ w' (n + 32) = some (.inl (cQ, 8, .inr (.inr (.inr (.inr (fun j => if j < 8 then some (n + 33 + 3 * j) else none)))))) ∧ isW0s cL w' (n + 33) 8 ∧ arI cL w' (n + 57) ∧ ∀ q, q < n ∨ n + 73 ≤ q → w' q = w q)) args s 72 1362 (fw_A w (n + 1))) (F0 m 51 ls []) := by
    intro d
    induction d with
    | zero =>
      intro i hi w1 H locs ls hw hl  h ha hrr hrg hg hfr
      obtain rfl : i = 8 := by omega
      refine lv_iload_n (pc := 51) hx hb dMa_init_51 rfl (lv_at hl 0 rfl) ?_
      refine lv_bipush (pc := 52) (v := (nI 8)) hx hb dMa_init_52 (by decide) ?_
      refine lv_icmp_ge (pc := 54) (tgt := 76) hx hb dMa_init_54 (by decide) (fun _ => ?_) (fun hc => absurd (nI_le (a := 8) (b := 8) (Nat.le_refl _) (by decide)) hc)
      exact lp2_k w1 H locs ls hw hl  h ha hrr hrg hg hfr
    | succ d ih =>
      intro i hi w1 H locs ls hw hl  h ha hrr hrg hg hfr
      refine lv_iload_n (pc := 51) hx hb dMa_init_51 rfl (lv_at hl 0 rfl) ?_
      refine lv_bipush (pc := 52) (v := (nI 8)) hx hb dMa_init_52 (by decide) ?_
      refine lv_icmp_ge (pc := 54) (tgt := 76) hx hb dMa_init_54 (by decide) (fun hc => absurd hc (nI_ge (a := i) (b := 8) (by omega) (by decide))) (fun _ => ?_)
      refine lv_aload_n (pc := 57) hx hb dMa_init_57 rfl (lv_at hl 1 rfl) ?_
      refine fw_get (pc := 58) (ci := 4) (v := .ref (n + 32)) (C := RMa) (T := TMa) (N := 7) hx hb hW in_Ma hown hK.1 hw h rfl 1 (by decide) (hW _ lf_Ma_18) (fun _ h => h) rfl dMa_init_58 ?_
      refine lv_iload_n (pc := 61) hx hb dMa_init_61 rfl (lv_at hl 0 rfl) ?_
      refine fw_new (pc := 62) (ci := 8) (fs := [.null, .int (nI 0)]) (C := RWh) (T := TWh) (N := 2) hx hb hW in_Wh tyWh tyWh_ok hown (hW _ lc_Ma_9) (hW _ ins_Wh) (hW _ ini_Wh) hK.1 hw rfl df_Wh (show 32 + 3 * i + 1 ≤ 72 by omega) (show 558 + 54 * i + 2 ≤ 1362 by omega) dMa_init_62 (fun H hw => ?_)
      obtain ⟨w2, e2⟩ : ∃ w_, w_ = fw_up w1 (n + 33 + 3 * i) (.inr (8, [.null, .int (nI 0)])) := ⟨_, rfl⟩
      have hw : fw_H D kCl (fw_A w (n + 1)) s.heap w2 (n + 33 + 3 * i + 1) H locs := by rw [e2]; exact hw
      have h_ : w2 (n) = some (.inr (4, [.ref (n + 1), .ref (n + 32), .int (nI 0), .int (nI 0), .int (nI 0), .int (nI 0), .null])) := by rw [e2, fw_un (by omega)]; exact h
      have ha_ : w2 (n + 32) = some (.inl (cQ, 8, .inr (.inr (.inr (.inr (fun j => if j < i then some (n + 33 + 3 * j) else none)))))) := by rw [e2, fw_un (by omega)]; exact ha
      have hg_ : w2 (n + 1) = some (.inl (cQ, 10, .inr (.inr (.inr (.inr (fun j => if j < 10 then some (n + 2 + 3 * j) else none)))))) := by rw [e2, fw_un (by omega)]; exact hg
      have f2_ : w2 (n + 33 + 3 * i) = some (.inr (8, [.null, .int (nI 0)])) := by rw [e2]; exact fw_us _ _ _
      have h := h_
      have ha := ha_
      have hg := hg_
      have f2 := f2_
      have hrr : isW0s cL w2 (n + 33) i := hrr.kept (fun a h1 h2 => by rw [e2, fw_un (by omega)])
      have hrg : isW0s cL w2 (n + 2) 10 := hrg.kept (fun a h1 h2 => by rw [e2, fw_un (by omega)])
      refine lv_dup (pc := 65) hx hb dMa_init_65 rfl ?_
      refine fw_cI (pc := 66) (As := []) (rest := [.ref (n + 33 + 3 * i), .int (nI i), .ref (n + 32)]) ⟨hx, hb, hml, hown, hW⟩ (c_Wh_init f2) (cwI 0 hW (kw_I cd_Wh_init) rfl rfl rfl (hW _ ini_Wh) (hW _ lm_Ma_17) (hW _ im_Wh_init) rfl (by decide +kernel) ⟨Nat.le_of_ble_eq_true rfl, Nat.le_of_ble_eq_true rfl⟩) hK hw rfl hl.1 rfl (Nat.le_of_ble_eq_true rfl) dMa_init_66 ⟨(show 32 + 3 * i + 1 + 2 ≤ 72 by omega), (show 558 + 54 * i + 2 + 52 ≤ 1362 by omega)⟩ (fun v w3 H locs hq hw => ?_)
      have hw : fw_H D kCl (fw_A w (n + 1)) s.heap w3 (n + 33 + 3 * i + 3) H locs := hw
      obtain ⟨rfl, q1, q2, qo⟩ := hq
      have h_ : w3 (n) = some (.inr (4, [.ref (n + 1), .ref (n + 32), .int (nI 0), .int (nI 0), .int (nI 0), .int (nI 0), .null])) := (qo _ (by omega)).trans h
      have ha_ : w3 (n + 32) = some (.inl (cQ, 8, .inr (.inr (.inr (.inr (fun j => if j < i then some (n + 33 + 3 * j) else none)))))) := (qo _ (by omega)).trans ha
      have hg_ : w3 (n + 1) = some (.inl (cQ, 10, .inr (.inr (.inr (.inr (fun j => if j < 10 then some (n + 2 + 3 * j) else none)))))) := (qo _ (by omega)).trans hg
      have h := h_
      have ha := ha_
      have hg := hg_
      have hrr : isW0s cL w3 (n + 33) i := hrr.kept (fun a h1 h2 => qo a (by omega))
      have hrg : isW0s cL w3 (n + 2) 10 := hrg.kept (fun a h1 h2 => qo a (by omega))
      have hrr : isW0s cL w3 (n + 33) (i + 1) := hrr.more ⟨q1, q2⟩
      refine fw_aastN (pc := 69) (ci := 8) (r := (RWh, TWh, 2)) (f2 := fun j => if j < i + 1 then some (n + 33 + 3 * j) else none) hx hb hK.1 hw 2 ha rfl q1 rfl i (by omega) (by decide) (fam_up _ _) dMa_init_69 (fun H locs hw => ?_)
      obtain ⟨w4, e4⟩ : ∃ w_, w_ = fw_up w3 (n + 32) (.inl (cQ, 8, .inr (.inr (.inr (.inr (fun j => if j < i + 1 then some (n + 33 + 3 * j) else none)))))) := ⟨_, rfl⟩
      have hw : fw_H D kCl (fw_A w (n + 1)) s.heap w4 (n + 33 + 3 * i + 3) H locs := by rw [e4]; exact hw
      have h_ : w4 (n) = some (.inr (4, [.ref (n + 1), .ref (n + 32), .int (nI 0), .int (nI 0), .int (nI 0), .int (nI 0), .null])) := by rw [e4, fw_un (by omega)]; exact h
      have hg_ : w4 (n + 1) = some (.inl (cQ, 10, .inr (.inr (.inr (.inr (fun j => if j < 10 then some (n + 2 + 3 * j) else none)))))) := by rw [e4, fw_un (by omega)]; exact hg
      have q1_ : w4 (n + 33 + 3 * i) = some (.inr (8, [.ref (n + 33 + 3 * i + 1), .int (nI 0)])) := by rw [e4, fw_un (by omega)]; exact q1
      have ha_ : w4 (n + 32) = some (.inl (cQ, 8, .inr (.inr (.inr (.inr (fun j => if j < i + 1 then some (n + 33 + 3 * j) else none)))))) := by rw [e4]; exact fw_us _ _ _
      have h := h_
      have ha := ha_
      have hg := hg_
      have q1 := q1_
      have hrr : isW0s cL w4 (n + 33) (i + 1) := hrr.kept (fun a h1 h2 => by rw [e4, fw_un (by omega)])
      have hrg : isW0s cL w4 (n + 2) 10 := hrg.kept (fun a h1 h2 => by rw [e4, fw_un (by omega)])
      refine lv_iinc (pc := 70) (lv' := [(1, .int (nI (i + 1))), (0, .ref n)]) hx hb dMa_init_70 hl (k := 0) rfl (nI_1 i) (by decide) rfl (fun ls hl => ?_)
      refine lv_goto (pc := 73) (tgt := 51) hx hb dMa_init_73 (by decide) ?_
      refine W.widen (k := 32 + 3 * (i + 1)) (n := 558 + 54 * (i + 1)) (by omega) (by omega) ?_
      exact ih (i + 1) (by omega) _ H locs ls hw hl  h ha hrr hrg hg (fun q hq => by rw [e4, fw_un (by omega), qo q (by omega), e2, fw_un (by omega)]; exact hfr q (by omega))
  have lp1_k : ∀ (w1 : fw_W) (H : Heap) (locs : List Loc) (ls : Array Slot), fw_H D kCl (fw_A w (n + 1)) s.heap w1 (n + 2 + 3 * 10) H locs → lv_has ls 2 [(1, .int (nI 10)), (0, .ref n)] → w1 n = some (.inr (4, [.ref (n + 1), .null, .int (nI 0), .int (nI 0), .int (nI 0), .int (nI 0), .null])) → w1 (n + 1) = some (.inl (cQ, 10, .inr (.inr (.inr (.inr (fun j => if j < 10 then some (n + 2 + 3 * j) else none)))))) → isW0s cL w1 (n + 2) 10 → (∀ q, q < n ∨ n + 2 + 3 * 10 ≤ q → w1 q = w q) → W p l e ({ frames := 4, cells := 72, slots := 1362, locals := 72 } : Room) s m args below meth c H locs (1 + 3 * 10) (10 + 54 * 10) (MQ below (fw_Q D kCl w (n + 1) 72 (fun v w' => v = none ∧ w' n = some (.inr (4, [.ref (n + 1), .ref (n + 32), .int (nI 0), .int (nI 0), .int (nI 0), .int (nI 0), .ref (n + 57)])) ∧ w' (n + 1) = some (.inl (cQ, 10, .inr (.inr (.inr (.inr (fun j => if j < 10 then some (n + 2 + 3 * j) else none)))))) ∧ isW0s cL w' (n + 2) 10 ∧ w' (n + 32) = some (.inl (cQ, 8, .inr (.inr (.inr (.inr (fun j => if j < 8 then some (n + 33 + 3 * j) else none)))))) ∧ isW0s cL w' (n + 33) 8 ∧ arI cL w' (n + 57) ∧ ∀ q, q < n ∨ n + 73 ≤ q → w' q = w q)) args s 72 1362 (fw_A w (n + 1))) (F0 m 40 ls []) := by
    intro w1 H locs ls hw hl h hg hrg hfr
    have hw : fw_H D kCl (fw_A w (n + 1)) s.heap w1 (n + 32) H locs := hw
    refine W.widen (k := 31) (n := 550) (by decide) (by decide) ?_
    refine lv_aload_n (pc := 40) hx hb dMa_init_40 rfl (lv_at hl 1 rfl) ?_
    refine lv_bipush (pc := 41) (v := (nI 8)) hx hb dMa_init_41 (by decide) ?_
    refine fw_anew (pc := 43) (N' := 8) (C := "BigCalculator$Whole") hx hb hown (hW _ lc_Ma_9) (ho1 _ _ _ hK.2.1) hK.1 hw 2 rfl (by decide) rfl (by decide) (Nat.le_of_ble_eq_true rfl) (Nat.le_of_ble_eq_true rfl) dMa_init_43 (fun H hw => ?_)
    obtain ⟨w2, e2⟩ : ∃ w_, w_ = fw_up w1 (n + 32) (.inl (cQ, 8, .inr (.inr (.inr (.inr (fun _ => none)))))) := ⟨_, rfl⟩
    have hw : fw_H D kCl (fw_A w (n + 1)) s.heap w2 (n + 33) H locs := by rw [e2]; exact hw
    have h_ : w2 (n) = some (.inr (4, [.ref (n + 1), .null, .int (nI 0), .int (nI 0), .int (nI 0), .int (nI 0), .null])) := by rw [e2, fw_un (by omega)]; exact h
    have hg_ : w2 (n + 1) = some (.inl (cQ, 10, .inr (.inr (.inr (.inr (fun j => if j < 10 then some (n + 2 + 3 * j) else none)))))) := by rw [e2, fw_un (by omega)]; exact hg
    have f2_ : w2 (n + 32) = some (.inl (cQ, 8, .inr (.inr (.inr (.inr (fun _ => none)))))) := by rw [e2]; exact fw_us _ _ _
    have h := h_
    have hg := hg_
    have f2 := f2_
    have hrg : isW0s cL w2 (n + 2) 10 := hrg.kept (fun a h1 h2 => by rw [e2, fw_un (by omega)])
    refine fw_putF (pc := 46) (ci := 4) (v := .ref (n + 32)) (ty := (.array (.object "BigCalculator$Whole"))) (C := RMa) (T := TMa) (N := 7) hx hb hW in_Ma tyMa tyMa_ok nmMa hown hK.1 hw h rfl 1 (by decide) (hW _ lf_Ma_18) (fun _ h => h) rfl hname rfl (by decide +kernel) rfl rfl (Nat.le_of_ble_eq_true rfl) dMa_init_46 (fun H locs hw => ?_)
    obtain ⟨w3, e3⟩ : ∃ w_, w_ = fw_up w2 (n) (.inr (4, [.ref (n + 1), .ref (n + 32), .int (nI 0), .int (nI 0), .int (nI 0), .int (nI 0), .null])) := ⟨_, rfl⟩
    have hw : fw_H D kCl (fw_A w (n + 1)) s.heap w3 (n + 33) H locs := by rw [e3]; exact hw
    have hg_ : w3 (n + 1) = some (.inl (cQ, 10, .inr (.inr (.inr (.inr (fun j => if j < 10 then some (n + 2 + 3 * j) else none)))))) := by rw [e3, fw_un (by omega)]; exact hg
    have f2_ : w3 (n + 32) = some (.inl (cQ, 8, .inr (.inr (.inr (.inr (fun _ => none)))))) := by rw [e3, fw_un (by omega)]; exact f2
    have h_ : w3 (n) = some (.inr (4, [.ref (n + 1), .ref (n + 32), .int (nI 0), .int (nI 0), .int (nI 0), .int (nI 0), .null])) := by rw [e3]; exact fw_us _ _ _
    have h := h_
    have hg := hg_
    have f2 := f2_
    have hrg : isW0s cL w3 (n + 2) 10 := hrg.kept (fun a h1 h2 => by rw [e3, fw_un (by omega)])
    refine lv_iconst (pc := 49) (v := (nI 0)) hx hb dMa_init_49 (by decide) ?_
    refine lv_istore_n (pc := 50) (lv' := [(1, .int (nI 0)), (0, .ref n)]) hx hb dMa_init_50 rfl hl (by decide) rfl (fun ls hl => ?_)
    have f2 : w3 (n + 32) = some (.inl (cQ, 8, .inr (.inr (.inr (.inr (fun j => if j < 0 then some (n + 33 + 3 * j) else none)))))) := by rw [← fam_0]; exact f2
    exact lp2 8 0 rfl _ H locs ls hw hl h f2 isW0s.none hrg hg (fun q hq => by rw [e3, fw_un (by omega), e2, fw_un (by omega)]; exact hfr q (by omega))
  have lp1 : ∀ (d i : Nat), i + d = 10 → ∀ (w1 : fw_W) (H : Heap) (locs : List Loc) (ls : Array Slot), fw_H D kCl (fw_A w (n + 1)) s.heap w1 (n + 2 + 3 * i) H locs → lv_has ls 2 [(1, .int (nI i)), (0, .ref n)] → w1 n = some (.inr (4, [.ref (n + 1), .null, .int (nI 0), .int (nI 0), .int (nI 0), .int (nI 0), .null])) → w1 (n + 1) = some (.inl (cQ, 10, .inr (.inr (.inr (.inr (fun j => if j < i then some (n + 2 + 3 * j) else none)))))) → isW0s cL w1 (n + 2) i → (∀ q, q < n ∨ n + 2 + 3 * i ≤ q → w1 q = w q) → W p l e ({ frames := 4, cells := 72, slots := 1362, locals := 72 } : Room) s m args below meth c H locs (1 + 3 * i) (10 + 54 * i) (MQ below (fw_Q D kCl w (n + 1) 72 (fun v w' => v = none ∧ w' n = some (.inr (4, [.ref (n + 1), .ref (n + 32), .int (nI 0), .int (nI 0), .int (nI 0), .int (nI 0), .ref (n + 57)])) ∧ w' (n + 1) = some (.inl (cQ, 10, .inr (.inr (.inr (.inr (fun j => if j < 10 then some (n + 2 + 3 * j) else none)))))) ∧ isW0s cL w' (n + 2) 10 ∧ w' (n + 32) = some (.inl (cQ, 8, .inr (.inr (.inr (.inr (fun j => if j < 8 then some (n + 33 + 3 * j) else none)))))) ∧ isW0s cL w' (n + 33) 8 ∧ arI cL w' (n + 57) ∧ ∀ q, q < n ∨ n + 73 ≤ q → w' q = w q)) args s 72 1362 (fw_A w (n + 1))) (F0 m 15 ls []) := by
    intro d
    induction d with
    | zero =>
      intro i hi w1 H locs ls hw hl  h ha hrr   hfr
      obtain rfl : i = 10 := by omega
      refine lv_iload_n (pc := 15) hx hb dMa_init_15 rfl (lv_at hl 0 rfl) ?_
      refine lv_bipush (pc := 16) (v := (nI 10)) hx hb dMa_init_16 (by decide) ?_
      refine lv_icmp_ge (pc := 18) (tgt := 40) hx hb dMa_init_18 (by decide) (fun _ => ?_) (fun hc => absurd (nI_le (a := 10) (b := 10) (Nat.le_refl _) (by decide)) hc)
      exact lp1_k w1 H locs ls hw hl  h ha hrr   hfr
    | succ d ih =>
      intro i hi w1 H locs ls hw hl  h ha hrr   hfr
      refine lv_iload_n (pc := 15) hx hb dMa_init_15 rfl (lv_at hl 0 rfl) ?_
      refine lv_bipush (pc := 16) (v := (nI 10)) hx hb dMa_init_16 (by decide) ?_
      refine lv_icmp_ge (pc := 18) (tgt := 40) hx hb dMa_init_18 (by decide) (fun hc => absurd hc (nI_ge (a := i) (b := 10) (by omega) (by decide))) (fun _ => ?_)
      refine lv_aload_n (pc := 21) hx hb dMa_init_21 rfl (lv_at hl 1 rfl) ?_
      refine fw_get (pc := 22) (ci := 4) (v := .ref (n + 1)) (C := RMa) (T := TMa) (N := 7) hx hb hW in_Ma hown hK.1 hw h rfl 0 (by decide) (hW _ lf_Ma_11) (fun _ h => h) rfl dMa_init_22 ?_
      refine lv_iload_n (pc := 25) hx hb dMa_init_25 rfl (lv_at hl 0 rfl) ?_
      refine fw_new (pc := 26) (ci := 8) (fs := [.null, .int (nI 0)]) (C := RWh) (T := TWh) (N := 2) hx hb hW in_Wh tyWh tyWh_ok hown (hW _ lc_Ma_9) (hW _ ins_Wh) (hW _ ini_Wh) hK.1 hw rfl df_Wh (show 1 + 3 * i + 1 ≤ 72 by omega) (show 10 + 54 * i + 2 ≤ 1362 by omega) dMa_init_26 (fun H hw => ?_)
      obtain ⟨w2, e2⟩ : ∃ w_, w_ = fw_up w1 (n + 2 + 3 * i) (.inr (8, [.null, .int (nI 0)])) := ⟨_, rfl⟩
      have hw : fw_H D kCl (fw_A w (n + 1)) s.heap w2 (n + 2 + 3 * i + 1) H locs := by rw [e2]; exact hw
      have h_ : w2 (n) = some (.inr (4, [.ref (n + 1), .null, .int (nI 0), .int (nI 0), .int (nI 0), .int (nI 0), .null])) := by rw [e2, fw_un (by omega)]; exact h
      have ha_ : w2 (n + 1) = some (.inl (cQ, 10, .inr (.inr (.inr (.inr (fun j => if j < i then some (n + 2 + 3 * j) else none)))))) := by rw [e2, fw_un (by omega)]; exact ha
      have f2_ : w2 (n + 2 + 3 * i) = some (.inr (8, [.null, .int (nI 0)])) := by rw [e2]; exact fw_us _ _ _
      have h := h_
      have ha := ha_
      have f2 := f2_
      have hrr : isW0s cL w2 (n + 2) i := hrr.kept (fun a h1 h2 => by rw [e2, fw_un (by omega)])
      refine lv_dup (pc := 29) hx hb dMa_init_29 rfl ?_
      refine fw_cI (pc := 30) (As := []) (rest := [.ref (n + 2 + 3 * i), .int (nI i), .ref (n + 1)]) ⟨hx, hb, hml, hown, hW⟩ (c_Wh_init f2) (cwI 0 hW (kw_I cd_Wh_init) rfl rfl rfl (hW _ ini_Wh) (hW _ lm_Ma_17) (hW _ im_Wh_init) rfl (by decide +kernel) ⟨Nat.le_of_ble_eq_true rfl, Nat.le_of_ble_eq_true rfl⟩) hK hw rfl hl.1 rfl (Nat.le_of_ble_eq_true rfl) dMa_init_30 ⟨(show 1 + 3 * i + 1 + 2 ≤ 72 by omega), (show 10 + 54 * i + 2 + 52 ≤ 1362 by omega)⟩ (fun v w3 H locs hq hw => ?_)
      have hw : fw_H D kCl (fw_A w (n + 1)) s.heap w3 (n + 2 + 3 * i + 3) H locs := hw
      obtain ⟨rfl, q1, q2, qo⟩ := hq
      have h_ : w3 (n) = some (.inr (4, [.ref (n + 1), .null, .int (nI 0), .int (nI 0), .int (nI 0), .int (nI 0), .null])) := (qo _ (by omega)).trans h
      have ha_ : w3 (n + 1) = some (.inl (cQ, 10, .inr (.inr (.inr (.inr (fun j => if j < i then some (n + 2 + 3 * j) else none)))))) := (qo _ (by omega)).trans ha
      have h := h_
      have ha := ha_
      have hrr : isW0s cL w3 (n + 2) i := hrr.kept (fun a h1 h2 => qo a (by omega))
      have hrr : isW0s cL w3 (n + 2) (i + 1) := hrr.more ⟨q1, q2⟩
      refine fw_aastN (pc := 33) (ci := 8) (r := (RWh, TWh, 2)) (f2 := fun j => if j < i + 1 then some (n + 2 + 3 * j) else none) hx hb hK.1 hw 2 ha rfl q1 rfl i (by omega) (by decide) (fam_up _ _) dMa_init_33 (fun H locs hw => ?_)
      obtain ⟨w4, e4⟩ : ∃ w_, w_ = fw_up w3 (n + 1) (.inl (cQ, 10, .inr (.inr (.inr (.inr (fun j => if j < i + 1 then some (n + 2 + 3 * j) else none)))))) := ⟨_, rfl⟩
      have hw : fw_H D kCl (fw_A w (n + 1)) s.heap w4 (n + 2 + 3 * i + 3) H locs := by rw [e4]; exact hw
      have h_ : w4 (n) = some (.inr (4, [.ref (n + 1), .null, .int (nI 0), .int (nI 0), .int (nI 0), .int (nI 0), .null])) := by rw [e4, fw_un (by omega)]; exact h
      have q1_ : w4 (n + 2 + 3 * i) = some (.inr (8, [.ref (n + 2 + 3 * i + 1), .int (nI 0)])) := by rw [e4, fw_un (by omega)]; exact q1
      have ha_ : w4 (n + 1) = some (.inl (cQ, 10, .inr (.inr (.inr (.inr (fun j => if j < i + 1 then some (n + 2 + 3 * j) else none)))))) := by rw [e4]; exact fw_us _ _ _
      have h := h_
      have ha := ha_
      have q1 := q1_
      have hrr : isW0s cL w4 (n + 2) (i + 1) := hrr.kept (fun a h1 h2 => by rw [e4, fw_un (by omega)])
      refine lv_iinc (pc := 34) (lv' := [(1, .int (nI (i + 1))), (0, .ref n)]) hx hb dMa_init_34 hl (k := 0) rfl (nI_1 i) (by decide) rfl (fun ls hl => ?_)
      refine lv_goto (pc := 37) (tgt := 15) hx hb dMa_init_37 (by decide) ?_
      refine W.widen (k := 1 + 3 * (i + 1)) (n := 10 + 54 * (i + 1)) (by omega) (by omega) ?_
      exact ih (i + 1) (by omega) _ H locs ls hw hl  h ha hrr   (fun q hq => by rw [e4, fw_un (by omega), qo q (by omega), e2, fw_un (by omega)]; exact hfr q (by omega))
  refine lv_aload_n (pc := 0) hx hb dMa_init_0 rfl (lv_at hl 0 rfl) ?_
  refine W.objInit hx hb hown (hW _ lm_Ma_3) (hW _ im_obj) (hW _ cd_obj) rfl (by rw [hml]; exact hl.1) rfl dMa_init_1 (Nat.le_of_ble_eq_true rfl) (Nat.le_of_ble_eq_true rfl) ?_
  refine W.eq (g2 := F0 m 4 ls []) rfl ?_
  refine lv_aload_n (pc := 4) hx hb dMa_init_4 rfl (lv_at hl 0 rfl) ?_
  refine lv_bipush (pc := 5) (v := (nI 10)) hx hb dMa_init_5 (by decide) ?_
  refine fw_anew (pc := 7) (N' := 10) (C := "BigCalculator$Whole") hx hb hown (hW _ lc_Ma_9) (ho1 _ _ _ hK.2.1) hK.1 hw 2 rfl (by decide) rfl (by decide) (Nat.le_of_ble_eq_true rfl) (Nat.le_of_ble_eq_true rfl) dMa_init_7 (fun H hw => ?_)
  obtain ⟨w61, e61⟩ : ∃ w_, w_ = fw_up w (n + 1) (.inl (cQ, 10, .inr (.inr (.inr (.inr (fun _ => none)))))) := ⟨_, rfl⟩
  have hw : fw_H D kCl (fw_A w (n + 1)) s.heap w61 (n + 2) H [] := by rw [e61]; exact hw
  have h_ : w61 (n) = some (.inr (4, [.null, .null, .int (nI 0), .int (nI 0), .int (nI 0), .int (nI 0), .null])) := by rw [e61, fw_un (by omega)]; exact h
  have f61_ : w61 (n + 1) = some (.inl (cQ, 10, .inr (.inr (.inr (.inr (fun _ => none)))))) := by rw [e61]; exact fw_us _ _ _
  have h := h_
  have f61 := f61_
  refine fw_putF (pc := 10) (ci := 4) (v := .ref (n + 1)) (ty := (.array (.object "BigCalculator$Whole"))) (C := RMa) (T := TMa) (N := 7) hx hb hW in_Ma tyMa tyMa_ok nmMa hown hK.1 hw h rfl 0 (by decide) (hW _ lf_Ma_11) (fun _ h => h) rfl hname rfl (by decide +kernel) rfl rfl (Nat.le_of_ble_eq_true rfl) dMa_init_10 (fun H locs hw => ?_)
  obtain ⟨w62, e62⟩ : ∃ w_, w_ = fw_up w61 (n) (.inr (4, [.ref (n + 1), .null, .int (nI 0), .int (nI 0), .int (nI 0), .int (nI 0), .null])) := ⟨_, rfl⟩
  have hw : fw_H D kCl (fw_A w (n + 1)) s.heap w62 (n + 2) H locs := by rw [e62]; exact hw
  have f61_ : w62 (n + 1) = some (.inl (cQ, 10, .inr (.inr (.inr (.inr (fun _ => none)))))) := by rw [e62, fw_un (by omega)]; exact f61
  have h_ : w62 (n) = some (.inr (4, [.ref (n + 1), .null, .int (nI 0), .int (nI 0), .int (nI 0), .int (nI 0), .null])) := by rw [e62]; exact fw_us _ _ _
  have h := h_
  have f61 := f61_
  refine lv_iconst (pc := 13) (v := (nI 0)) hx hb dMa_init_13 (by decide) ?_
  refine lv_istore_n (pc := 14) (lv' := [(1, .int (nI 0)), (0, .ref n)]) hx hb dMa_init_14 rfl hl (by decide) rfl (fun ls hl => ?_)
  have f61 : w62 (n + 1) = some (.inl (cQ, 10, .inr (.inr (.inr (.inr (fun j => if j < 0 then some (n + 2 + 3 * j) else none)))))) := by rw [← fam_0]; exact f61
  exact lp1 10 0 rfl _ H locs ls hw hl h f61 isW0s.none (fun q hq => by rw [e62, fw_un (by omega), e61, fw_un (by omega)])
end CO3
