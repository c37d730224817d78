/-! The law's methods that catch. Written by wip/gen/wrap.py. -/
section WRP
variable {l : Launch} {D : va_G} {cI cL cQ : ClassId} {tO tB tC : Nat} {sa : Nat → Nat} {sz : Nat} {w : fw_W}
set_option maxHeartbeats 4000000 in
set_option maxRecDepth 100000 in
theorem w_feedT {b : Nat} {I : Nat → Nat} {J : Nat → Nat → Nat} {V G : Nat → Nat} (hS : bcS cI cL cQ w b I J V G) {k u : Int32} (hst : l.stackTraces = false) (ht : tk k u = false) {o : Nat} {f : Nat → Int64} (ho : o < b ∨ b + 86 ≤ o) (hf : w o = some (.inl (cL, 1, .inr (.inl f)))) : fw_CL l yLa_feed (Cond.codeWith yLa_feed cLa_feed 5 (some FieldType.int) [((0), (10), (13), (13))] :: kWs) ({ frames := 7, cells := 1, slots := 6, locals := 112 } : Room) D kCl (kty cI cL cQ) (kz tO tB tC sa) [.ref b, .int k, .int u, .ref o] (sz) w 1 6 (fun v w' => v = some (.int (nI 1)) ∧ w' = w) := by
  refine fw_ofWL (cc := cLa_feed) (maxL := 5) (ret := (some FieldType.int)) (hh := [((0), (10), (13), (13))]) (by decide) rfl (Nat.le_of_ble_eq_true rfl) ?_
  intro p e s m args below meth c hx hb hr hts hown hlocks hml htab hK H ls hw hl
  have htab := xw_tab1 htab
  have hW : ∀ w ∈ kWs, w.before args s = true := fun w h => hts w (List.mem_cons_of_mem _ h)
  have hown : s.vm.findClass RLa = some m.cls := hown
  have hl : lv_has ls 5 [(0, .ref b), (1, .int k), (2, .int u), (3, .ref o)] := hl
  obtain ⟨⟨b0, b1, b2, b3⟩, -⟩ := id hS
  refine lv_aload_n (pc := 0) hx hb dLa_feed_0 rfl (lv_at hl 3 rfl) ?_
  refine lv_iconst (pc := 1) (v := (nI 0)) hx hb dLa_feed_1 (by decide) ?_
  refine lv_aload_n (pc := 2) hx hb dLa_feed_2 rfl (lv_at hl 0 rfl) ?_
  refine lv_iload_n (pc := 3) hx hb dLa_feed_3 rfl (lv_at hl 1 rfl) ?_
  refine lv_iload_n (pc := 4) hx hb dLa_feed_4 rfl (lv_at hl 2 rfl) ?_
  refine xw_cV (pc := 5) (As := [.int k, .int u]) (rest := [.int (nI 0), .ref o]) ⟨hx, hb, hml, hown, hW⟩ (x_Bc_feed hS hst ht) (cwV 2 hW (kw_V lm_La_7 im_Bc_feed se_Bc_feed ini_Bc cd_Bc_feed) rfl rfl rfl (by decide +kernel) ⟨Nat.le_of_ble_eq_true rfl, Nat.le_of_ble_eq_true rfl⟩) hK hw b0 rfl rfl hl.1 rfl (Nat.le_of_ble_eq_true rfl) dLa_feed_5 ⟨Nat.le_of_ble_eq_true rfl, Nat.le_of_ble_eq_true rfl⟩ (fun q ce n1 H hn1 hce hcv hcl hw => ?_)
  refine xw_catch1 (name := kIA) hown htab (by decide) (by decide) (hW _ lc_La_13) (kz_c hK.2.1).1 hce hcv hcl ?_
  refine W.eq (g2 := F0 m 13 ls [.ref q]) rfl ?_
  refine lv_astore (pc := 13) (lv' := [(4, .ref q), (0, .ref b), (1, .int k), (2, .int u), (3, .ref o)]) hx hb dLa_feed_13 hl (by decide) rfl (fun ls hl => ?_)
  refine lv_iconst (pc := 15) (v := (nI 1)) hx hb dLa_feed_15 (by decide) ?_
  exact fw_iretL (pc := 16) hx hb hr hlocks hw dLa_feed_16 ⟨rfl, rfl⟩

set_option maxHeartbeats 4000000 in
set_option maxRecDepth 100000 in
theorem w_setT {b : Nat} {I : Nat → Nat} {J : Nat → Nat → Nat} {V G : Nat → Nat} (hS : bcS cI cL cQ w b I J V G) {x : Int32} {y : Int64} (hst : l.stackTraces = false) (hx9 : x < 0 ∨ nI 8 ≤ x) : fw_CL l yLa_set (Cond.codeWith yLa_set cLa_set 5 (some FieldType.int) [((0), (6), (9), (13))] :: kWs) ({ frames := 8, cells := 1, slots := 6, locals := 134 } : Room) D kCl (kty cI cL cQ) (kz tO tB tC sa) [.ref b, .int x, .long y] (sz) w 1 6 (fun v w' => v = some (.int (nI 1)) ∧ w' = w) := by
  refine fw_ofWL (cc := cLa_set) (maxL := 5) (ret := (some FieldType.int)) (hh := [((0), (6), (9), (13))]) (by decide) rfl (Nat.le_of_ble_eq_true rfl) ?_
  intro p e s m args below meth c hx hb hr hts hown hlocks hml htab hK H ls hw hl
  have htab := xw_tab1 htab
  have hW : ∀ w ∈ kWs, w.before args s = true := fun w h => hts w (List.mem_cons_of_mem _ h)
  have hown : s.vm.findClass RLa = some m.cls := hown
  have hl : lv_has ls 5 [(0, .ref b), (1, .int x), (2, .long y)] := hl
  obtain ⟨⟨b0, b1, b2, b3⟩, -⟩ := id hS
  refine lv_aload_n (pc := 0) hx hb dLa_set_0 rfl (lv_at hl 0 rfl) ?_
  refine lv_iload_n (pc := 1) hx hb dLa_set_1 rfl (lv_at hl 1 rfl) ?_
  refine lv_lload_n (pc := 2) hx hb dLa_set_2 rfl (lv_at hl 2 rfl) ?_
  refine xw_cV (pc := 3) (As := [.int x, .long y]) (rest := []) ⟨hx, hb, hml, hown, hW⟩ (x_Bc_set hS hst hx9) (cwV 2 hW (kw_V lm_La_15 im_Bc_set se_Bc_set ini_Bc cd_Bc_set) rfl rfl rfl (by decide +kernel) ⟨Nat.le_of_ble_eq_true rfl, Nat.le_of_ble_eq_true rfl⟩) hK hw b0 rfl rfl hl.1 rfl (Nat.le_of_ble_eq_true rfl) dLa_set_3 ⟨Nat.le_of_ble_eq_true rfl, Nat.le_of_ble_eq_true rfl⟩ (fun q ce n1 H hn1 hce hcv hcl hw => ?_)
  refine xw_catch1 (name := kIA) hown htab (by decide) (by decide) (hW _ lc_La_13) (kz_c hK.2.1).1 hce hcv hcl ?_
  refine W.eq (g2 := F0 m 9 ls [.ref q]) rfl ?_
  refine lv_astore (pc := 9) (lv' := [(4, .ref q), (0, .ref b), (1, .int x), (2, .long y)]) hx hb dLa_set_9 hl (by decide) rfl (fun ls hl => ?_)
  refine lv_iconst (pc := 11) (v := (nI 1)) hx hb dLa_set_11 (by decide) ?_
  exact fw_iretL (pc := 12) hx hb hr hlocks hw dLa_set_12 ⟨rfl, rfl⟩

set_option maxHeartbeats 4000000 in
set_option maxRecDepth 100000 in
theorem w_keepA {b : Nat} {I : Nat → Nat} {J : Nat → Nat → Nat} {V G : Nat → Nat} (hS : bcS cI cL cQ w b I J V G) {x : Int32} (hst : l.stackTraces = false) (hx9 : x < 0 ∨ nI 8 ≤ x) : fw_CL l yLa_keep (Cond.codeWith yLa_keep cLa_keep 3 (some FieldType.int) [((0), (5), (8), (13)), ((0), (5), (11), (23))] :: kWs) ({ frames := 8, cells := 1, slots := 6, locals := 133 } : Room) D kCl (kty cI cL cQ) (kz tO tB tC sa) [.ref b, .int x] (sz) w 1 6 (fun v w' => v = some (.int (nI 1)) ∧ w' = w) := by
  refine fw_ofWL (cc := cLa_keep) (maxL := 3) (ret := (some FieldType.int)) (hh := [((0), (5), (8), (13)), ((0), (5), (11), (23))]) (by decide) rfl (Nat.le_of_ble_eq_true rfl) ?_
  intro p e s m args below meth c hx hb hr hts hown hlocks hml htab hK H ls hw hl
  have htab := xw_tab2 htab
  have hW : ∀ w ∈ kWs, w.before args s = true := fun w h => hts w (List.mem_cons_of_mem _ h)
  have hown : s.vm.findClass RLa = some m.cls := hown
  have hl : lv_has ls 3 [(0, .ref b), (1, .int x)] := hl
  obtain ⟨⟨b0, b1, b2, b3⟩, -⟩ := id hS
  refine lv_aload_n (pc := 0) hx hb dLa_keep_0 rfl (lv_at hl 0 rfl) ?_
  refine lv_iload_n (pc := 1) hx hb dLa_keep_1 rfl (lv_at hl 1 rfl) ?_
  refine xw_cV (pc := 2) (As := [.int x]) (rest := []) ⟨hx, hb, hml, hown, hW⟩ (x_Bc_keepA hS hst hx9) (cwV 1 hW (kw_V lm_La_19 im_Bc_keep se_Bc_keep ini_Bc cd_Bc_keep) rfl rfl rfl (by decide +kernel) ⟨Nat.le_of_ble_eq_true rfl, Nat.le_of_ble_eq_true rfl⟩) hK hw b0 rfl rfl hl.1 rfl (Nat.le_of_ble_eq_true rfl) dLa_keep_2 ⟨Nat.le_of_ble_eq_true rfl, Nat.le_of_ble_eq_true rfl⟩ (fun q ce n1 H hn1 hce hcv hcl hw => ?_)
  refine xw_catch1 (name := kIA) hown htab (by decide) (by decide) (hW _ lc_La_13) (kz_c hK.2.1).1 hce hcv hcl ?_
  refine W.eq (g2 := F0 m 8 ls [.ref q]) rfl ?_
  refine lv_astore_n (pc := 8) (lv' := [(2, .ref q), (0, .ref b), (1, .int x)]) hx hb dLa_keep_8 rfl hl (by decide) rfl (fun ls hl => ?_)
  refine lv_iconst (pc := 9) (v := (nI 1)) hx hb dLa_keep_9 (by decide) ?_
  exact fw_iretL (pc := 10) hx hb hr hlocks hw dLa_keep_10 ⟨rfl, rfl⟩

set_option maxHeartbeats 4000000 in
set_option maxRecDepth 100000 in
theorem w_keepS {b : Nat} {I : Nat → Nat} {J : Nat → Nat → Nat} {V G : Nat → Nat} (hS : bcS cI cL cQ w b I J V G) {j : Nat} (hj : j < 8) (hst : l.stackTraces = false) (h1 : I 1 < 2 ^ 31) (h4 : I 4 < 2 ^ 31) (hno : ¬ (0 < I 1 ∧ I 4 = I 1)) : fw_CL l yLa_keep (Cond.codeWith yLa_keep cLa_keep 3 (some FieldType.int) [((0), (5), (8), (13)), ((0), (5), (11), (23))] :: kWs) ({ frames := 8, cells := 1, slots := 6, locals := 133 } : Room) D kCl (kty cI cL cQ) (kz tO tB tC sa) [.ref b, .int (nI j)] (sz) w 1 6 (fun v w' => v = some (.int (nI 2)) ∧ w' = w) := by
  refine fw_ofWL (cc := cLa_keep) (maxL := 3) (ret := (some FieldType.int)) (hh := [((0), (5), (8), (13)), ((0), (5), (11), (23))]) (by decide) rfl (Nat.le_of_ble_eq_true rfl) ?_
  intro p e s m args below meth c hx hb hr hts hown hlocks hml htab hK H ls hw hl
  have htab := xw_tab2 htab
  have hW : ∀ w ∈ kWs, w.before args s = true := fun w h => hts w (List.mem_cons_of_mem _ h)
  have hown : s.vm.findClass RLa = some m.cls := hown
  have hl : lv_has ls 3 [(0, .ref b), (1, .int (nI j))] := hl
  obtain ⟨⟨b0, b1, b2, b3⟩, -⟩ := id hS
  refine lv_aload_n (pc := 0) hx hb dLa_keep_0 rfl (lv_at hl 0 rfl) ?_
  refine lv_iload_n (pc := 1) hx hb dLa_keep_1 rfl (lv_at hl 1 rfl) ?_
  refine xw_cV (pc := 2) (As := [.int (nI j)]) (rest := []) ⟨hx, hb, hml, hown, hW⟩ (x_Bc_keepS hS hj hst h1 h4 hno) (cwV 1 hW (kw_V lm_La_19 im_Bc_keep se_Bc_keep ini_Bc cd_Bc_keep) rfl rfl rfl (by decide +kernel) ⟨Nat.le_of_ble_eq_true rfl, Nat.le_of_ble_eq_true rfl⟩) hK hw b0 rfl rfl hl.1 rfl (Nat.le_of_ble_eq_true rfl) dLa_keep_2 ⟨Nat.le_of_ble_eq_true rfl, Nat.le_of_ble_eq_true rfl⟩ (fun q ce n1 H hn1 hce hcv hcl hw => ?_)
  refine xw_catch2 (name := kIS) (no := kIA) hown htab (by decide) (by decide) (by decide) (by decide) (hW _ lc_La_13) (kz_N hK.2.1).1 (hW _ lc_La_23) (kz_c hK.2.1).2.1 hce hcv hcl ?_
  refine W.eq (g2 := F0 m 11 ls [.ref q]) rfl ?_
  refine lv_astore_n (pc := 11) (lv' := [(2, .ref q), (0, .ref b), (1, .int (nI j))]) hx hb dLa_keep_11 rfl hl (by decide) rfl (fun ls hl => ?_)
  refine lv_iconst (pc := 12) (v := (nI 2)) hx hb dLa_keep_12 (by decide) ?_
  exact fw_iretL (pc := 13) hx hb hr hlocks hw dLa_keep_13 ⟨rfl, rfl⟩

set_option maxHeartbeats 4000000 in
set_option maxRecDepth 100000 in
theorem w_restartS {b : Nat} {I : Nat → Nat} {J : Nat → Nat → Nat} {V G : Nat → Nat} (hS : bcS cI cL cQ w b I J V G) (hst : l.stackTraces = false) (h1 : I 1 = 0) : fw_CL l yLa_restart (Cond.codeWith yLa_restart cLa_restart 2 (some FieldType.int) [((0), (4), (7), (23))] :: kWs) ({ frames := 8, cells := 1, slots := 6, locals := 130 } : Room) D kCl (kty cI cL cQ) (kz tO tB tC sa) [.ref b] (sz) w 1 6 (fun v w' => v = some (.int (nI 1)) ∧ w' = w) := by
  refine fw_ofWL (cc := cLa_restart) (maxL := 2) (ret := (some FieldType.int)) (hh := [((0), (4), (7), (23))]) (by decide) rfl (Nat.le_of_ble_eq_true rfl) ?_
  intro p e s m args below meth c hx hb hr hts hown hlocks hml htab hK H ls hw hl
  have htab := xw_tab1 htab
  have hW : ∀ w ∈ kWs, w.before args s = true := fun w h => hts w (List.mem_cons_of_mem _ h)
  have hown : s.vm.findClass RLa = some m.cls := hown
  have hl : lv_has ls 2 [(0, .ref b)] := hl
  obtain ⟨⟨b0, b1, b2, b3⟩, -⟩ := id hS
  refine lv_aload_n (pc := 0) hx hb dLa_restart_0 rfl (lv_at hl 0 rfl) ?_
  refine xw_cV (pc := 1) (As := []) (rest := []) ⟨hx, hb, hml, hown, hW⟩ (x_Bc_restartS hS hst h1) (cwV 0 hW (kw_V lm_La_25 im_Bc_restart se_Bc_restart ini_Bc cd_Bc_restart) rfl rfl rfl (by decide +kernel) ⟨Nat.le_of_ble_eq_true rfl, Nat.le_of_ble_eq_true rfl⟩) hK hw b0 rfl rfl hl.1 rfl (Nat.le_of_ble_eq_true rfl) dLa_restart_1 ⟨Nat.le_of_ble_eq_true rfl, Nat.le_of_ble_eq_true rfl⟩ (fun q ce n1 H hn1 hce hcv hcl hw => ?_)
  refine xw_catch1 (name := kIS) hown htab (by decide) (by decide) (hW _ lc_La_23) (kz_c hK.2.1).2.1 hce hcv hcl ?_
  refine W.eq (g2 := F0 m 7 ls [.ref q]) rfl ?_
  refine lv_astore_n (pc := 7) (lv' := [(1, .ref q), (0, .ref b)]) hx hb dLa_restart_7 rfl hl (by decide) rfl (fun ls hl => ?_)
  refine lv_iconst (pc := 8) (v := (nI 1)) hx hb dLa_restart_8 (by decide) ?_
  exact fw_iretL (pc := 9) hx hb hr hlocks hw dLa_restart_9 ⟨rfl, rfl⟩

set_option maxHeartbeats 4000000 in
set_option maxRecDepth 100000 in
theorem w_runS {b : Nat} {I : Nat → Nat} {J : Nat → Nat → Nat} {V G : Nat → Nat} (hS : bcS cI cL cQ w b I J V G) {x : Int32} (hst : l.stackTraces = false) (h1 : I 1 = 0) {o : Nat} {f : Nat → Int64} (ho : o < b ∨ b + 86 ≤ o) (hf : w o = some (.inl (cL, 1, .inr (.inl f)))) : fw_CL l yLa_run (Cond.codeWith yLa_run cLa_run 4 (some FieldType.int) [((0), (9), (12), (23)), ((0), (9), (15), (13))] :: kWs) ({ frames := 8, cells := 1, slots := 6, locals := 131 } : Room) D kCl (kty cI cL cQ) (kz tO tB tC sa) [.ref b, .int x, .ref o] (sz) w 1 6 (fun v w' => v = some (.int (nI 1)) ∧ w' = w) := by
  refine fw_ofWL (cc := cLa_run) (maxL := 4) (ret := (some FieldType.int)) (hh := [((0), (9), (12), (23)), ((0), (9), (15), (13))]) (by decide) rfl (Nat.le_of_ble_eq_true rfl) ?_
  intro p e s m args below meth c hx hb hr hts hown hlocks hml htab hK H ls hw hl
  have htab := xw_tab2 htab
  have hW : ∀ w ∈ kWs, w.before args s = true := fun w h => hts w (List.mem_cons_of_mem _ h)
  have hown : s.vm.findClass RLa = some m.cls := hown
  have hl : lv_has ls 4 [(0, .ref b), (1, .int x), (2, .ref o)] := hl
  obtain ⟨⟨b0, b1, b2, b3⟩, -⟩ := id hS
  refine lv_aload_n (pc := 0) hx hb dLa_run_0 rfl (lv_at hl 2 rfl) ?_
  refine lv_iconst (pc := 1) (v := (nI 0)) hx hb dLa_run_1 (by decide) ?_
  refine lv_aload_n (pc := 2) hx hb dLa_run_2 rfl (lv_at hl 0 rfl) ?_
  refine lv_iload_n (pc := 3) hx hb dLa_run_3 rfl (lv_at hl 1 rfl) ?_
  refine xw_cV (pc := 4) (As := [.int x]) (rest := [.int (nI 0), .ref o]) ⟨hx, hb, hml, hown, hW⟩ (x_Bc_runS hS hst h1) (cwV 1 hW (kw_V lm_La_28 im_Bc_run se_Bc_run ini_Bc cd_Bc_run) rfl rfl rfl (by decide +kernel) ⟨Nat.le_of_ble_eq_true rfl, Nat.le_of_ble_eq_true rfl⟩) hK hw b0 rfl rfl hl.1 rfl (Nat.le_of_ble_eq_true rfl) dLa_run_4 ⟨Nat.le_of_ble_eq_true rfl, Nat.le_of_ble_eq_true rfl⟩ (fun q ce n1 H hn1 hce hcv hcl hw => ?_)
  refine xw_catch1 (name := kIS) hown htab (by decide) (by decide) (hW _ lc_La_23) (kz_c hK.2.1).2.1 hce hcv hcl ?_
  refine W.eq (g2 := F0 m 12 ls [.ref q]) rfl ?_
  refine lv_astore_n (pc := 12) (lv' := [(3, .ref q), (0, .ref b), (1, .int x), (2, .ref o)]) hx hb dLa_run_12 rfl hl (by decide) rfl (fun ls hl => ?_)
  refine lv_iconst (pc := 13) (v := (nI 1)) hx hb dLa_run_13 (by decide) ?_
  exact fw_iretL (pc := 14) hx hb hr hlocks hw dLa_run_14 ⟨rfl, rfl⟩

set_option maxHeartbeats 4000000 in
set_option maxRecDepth 100000 in
theorem w_runA {b : Nat} {I : Nat → Nat} {J : Nat → Nat → Nat} {V G : Nat → Nat} (hS : bcS cI cL cQ w b I J V G) {x : Int32} (hst : l.stackTraces = false) (h1 : 0 < I 1) (h2 : I 1 < 2 ^ 31) (hx9 : x < 0 ∨ nI 10000 < x) {o : Nat} {f : Nat → Int64} (ho : o < b ∨ b + 86 ≤ o) (hf : w o = some (.inl (cL, 1, .inr (.inl f)))) : fw_CL l yLa_run (Cond.codeWith yLa_run cLa_run 4 (some FieldType.int) [((0), (9), (12), (23)), ((0), (9), (15), (13))] :: kWs) ({ frames := 8, cells := 1, slots := 6, locals := 131 } : Room) D kCl (kty cI cL cQ) (kz tO tB tC sa) [.ref b, .int x, .ref o] (sz) w 1 6 (fun v w' => v = some (.int (nI 2)) ∧ w' = w) := by
  refine fw_ofWL (cc := cLa_run) (maxL := 4) (ret := (some FieldType.int)) (hh := [((0), (9), (12), (23)), ((0), (9), (15), (13))]) (by decide) rfl (Nat.le_of_ble_eq_true rfl) ?_
  intro p e s m args below meth c hx hb hr hts hown hlocks hml htab hK H ls hw hl
  have htab := xw_tab2 htab
  have hW : ∀ w ∈ kWs, w.before args s = true := fun w h => hts w (List.mem_cons_of_mem _ h)
  have hown : s.vm.findClass RLa = some m.cls := hown
  have hl : lv_has ls 4 [(0, .ref b), (1, .int x), (2, .ref o)] := hl
  obtain ⟨⟨b0, b1, b2, b3⟩, -⟩ := id hS
  refine lv_aload_n (pc := 0) hx hb dLa_run_0 rfl (lv_at hl 2 rfl) ?_
  refine lv_iconst (pc := 1) (v := (nI 0)) hx hb dLa_run_1 (by decide) ?_
  refine lv_aload_n (pc := 2) hx hb dLa_run_2 rfl (lv_at hl 0 rfl) ?_
  refine lv_iload_n (pc := 3) hx hb dLa_run_3 rfl (lv_at hl 1 rfl) ?_
  refine xw_cV (pc := 4) (As := [.int x]) (rest := [.int (nI 0), .ref o]) ⟨hx, hb, hml, hown, hW⟩ (x_Bc_runA hS hst h1 h2 hx9) (cwV 1 hW (kw_V lm_La_28 im_Bc_run se_Bc_run ini_Bc cd_Bc_run) rfl rfl rfl (by decide +kernel) ⟨Nat.le_of_ble_eq_true rfl, Nat.le_of_ble_eq_true rfl⟩) hK hw b0 rfl rfl hl.1 rfl (Nat.le_of_ble_eq_true rfl) dLa_run_4 ⟨Nat.le_of_ble_eq_true rfl, Nat.le_of_ble_eq_true rfl⟩ (fun q ce n1 H hn1 hce hcv hcl hw => ?_)
  refine xw_catch2 (name := kIA) (no := kIS) hown htab (by decide) (by decide) (by decide) (by decide) (hW _ lc_La_23) (kz_N hK.2.1).2.1 (hW _ lc_La_13) (kz_c hK.2.1).1 hce hcv hcl ?_
  refine W.eq (g2 := F0 m 15 ls [.ref q]) rfl ?_
  refine lv_astore_n (pc := 15) (lv' := [(3, .ref q), (0, .ref b), (1, .int x), (2, .ref o)]) hx hb dLa_run_15 rfl hl (by decide) rfl (fun ls hl => ?_)
  refine lv_iconst (pc := 16) (v := (nI 2)) hx hb dLa_run_16 (by decide) ?_
  exact fw_iretL (pc := 17) hx hb hr hlocks hw dLa_run_17 ⟨rfl, rfl⟩

set_option maxHeartbeats 4000000 in
set_option maxRecDepth 100000 in
theorem w_signS {b : Nat} {I : Nat → Nat} {J : Nat → Nat → Nat} {V G : Nat → Nat} (hS : bcS cI cL cQ w b I J V G) (hst : l.stackTraces = false) (h1 : I 1 < 2 ^ 31) (h4 : I 4 < 2 ^ 31) (hno : ¬ (0 < I 1 ∧ I 4 = I 1)) {o : Nat} {f : Nat → Int64} (ho : o < b ∨ b + 86 ≤ o) (hf : w o = some (.inl (cL, 1, .inr (.inl f)))) : fw_CL l yLa_sign (Cond.codeWith yLa_sign cLa_sign 3 (some FieldType.int) [((0), (8), (11), (23))] :: kWs) ({ frames := 8, cells := 1, slots := 6, locals := 130 } : Room) D kCl (kty cI cL cQ) (kz tO tB tC sa) [.ref b, .ref o] (sz) w 1 6 (fun v w' => v = some (.int (nI 1)) ∧ w' = w) := by
  refine fw_ofWL (cc := cLa_sign) (maxL := 3) (ret := (some FieldType.int)) (hh := [((0), (8), (11), (23))]) (by decide) rfl (Nat.le_of_ble_eq_true rfl) ?_
  intro p e s m args below meth c hx hb hr hts hown hlocks hml htab hK H ls hw hl
  have htab := xw_tab1 htab
  have hW : ∀ w ∈ kWs, w.before args s = true := fun w h => hts w (List.mem_cons_of_mem _ h)
  have hown : s.vm.findClass RLa = some m.cls := hown
  have hl : lv_has ls 3 [(0, .ref b), (1, .ref o)] := hl
  obtain ⟨⟨b0, b1, b2, b3⟩, -⟩ := id hS
  refine lv_aload_n (pc := 0) hx hb dLa_sign_0 rfl (lv_at hl 1 rfl) ?_
  refine lv_iconst (pc := 1) (v := (nI 0)) hx hb dLa_sign_1 (by decide) ?_
  refine lv_aload_n (pc := 2) hx hb dLa_sign_2 rfl (lv_at hl 0 rfl) ?_
  refine xw_cV (pc := 3) (As := []) (rest := [.int (nI 0), .ref o]) ⟨hx, hb, hml, hown, hW⟩ (x_Bc_signS hS hst h1 h4 hno) (cwV 0 hW (kw_V lm_La_32 im_Bc_sign se_Bc_sign ini_Bc cd_Bc_sign) rfl rfl rfl (by decide +kernel) ⟨Nat.le_of_ble_eq_true rfl, Nat.le_of_ble_eq_true rfl⟩) hK hw b0 rfl rfl hl.1 rfl (Nat.le_of_ble_eq_true rfl) dLa_sign_3 ⟨Nat.le_of_ble_eq_true rfl, Nat.le_of_ble_eq_true rfl⟩ (fun q ce n1 H hn1 hce hcv hcl hw => ?_)
  refine xw_catch1 (name := kIS) hown htab (by decide) (by decide) (hW _ lc_La_23) (kz_c hK.2.1).2.1 hce hcv hcl ?_
  refine W.eq (g2 := F0 m 11 ls [.ref q]) rfl ?_
  refine lv_astore_n (pc := 11) (lv' := [(2, .ref q), (0, .ref b), (1, .ref o)]) hx hb dLa_sign_11 rfl hl (by decide) rfl (fun ls hl => ?_)
  refine lv_iconst (pc := 12) (v := (nI 1)) hx hb dLa_sign_12 (by decide) ?_
  exact fw_iretL (pc := 13) hx hb hr hlocks hw dLa_sign_13 ⟨rfl, rfl⟩

set_option maxHeartbeats 4000000 in
set_option maxRecDepth 100000 in
theorem w_limbS {b : Nat} {I : Nat → Nat} {J : Nat → Nat → Nat} {V G : Nat → Nat} (hS : bcS cI cL cQ w b I J V G) {x : Int32} (hst : l.stackTraces = false) (h1 : I 1 < 2 ^ 31) (h4 : I 4 < 2 ^ 31) (hno : ¬ (0 < I 1 ∧ I 4 = I 1)) {o : Nat} {f : Nat → Int64} (ho : o < b ∨ b + 86 ≤ o) (hf : w o = some (.inl (cL, 1, .inr (.inl f)))) : fw_CL l yLa_limb (Cond.codeWith yLa_limb cLa_limb 4 (some FieldType.int) [((0), (8), (11), (23)), ((0), (8), (14), (40))] :: kWs) ({ frames := 8, cells := 1, slots := 6, locals := 132 } : Room) D kCl (kty cI cL cQ) (kz tO tB tC sa) [.ref b, .int x, .ref o] (sz) w 1 6 (fun v w' => v = some (.int (nI 1)) ∧ w' = w) := by
  refine fw_ofWL (cc := cLa_limb) (maxL := 4) (ret := (some FieldType.int)) (hh := [((0), (8), (11), (23)), ((0), (8), (14), (40))]) (by decide) rfl (Nat.le_of_ble_eq_true rfl) ?_
  intro p e s m args below meth c hx hb hr hts hown hlocks hml htab hK H ls hw hl
  have htab := xw_tab2 htab
  have hW : ∀ w ∈ kWs, w.before args s = true := fun w h => hts w (List.mem_cons_of_mem _ h)
  have hown : s.vm.findClass RLa = some m.cls := hown
  have hl : lv_has ls 4 [(0, .ref b), (1, .int x), (2, .ref o)] := hl
  obtain ⟨⟨b0, b1, b2, b3⟩, -⟩ := id hS
  refine lv_aload_n (pc := 0) hx hb dLa_limb_0 rfl (lv_at hl 2 rfl) ?_
  refine lv_iconst (pc := 1) (v := (nI 0)) hx hb dLa_limb_1 (by decide) ?_
  refine lv_aload_n (pc := 2) hx hb dLa_limb_2 rfl (lv_at hl 0 rfl) ?_
  refine lv_iload_n (pc := 3) hx hb dLa_limb_3 rfl (lv_at hl 1 rfl) ?_
  refine xw_cV (pc := 4) (As := [.int x]) (rest := [.int (nI 0), .ref o]) ⟨hx, hb, hml, hown, hW⟩ (x_Bc_limbS hS hst h1 h4 hno) (cwV 1 hW (kw_V lm_La_36 im_Bc_limb se_Bc_limb ini_Bc cd_Bc_limb) rfl rfl rfl (by decide +kernel) ⟨Nat.le_of_ble_eq_true rfl, Nat.le_of_ble_eq_true rfl⟩) hK hw b0 rfl rfl hl.1 rfl (Nat.le_of_ble_eq_true rfl) dLa_limb_4 ⟨Nat.le_of_ble_eq_true rfl, Nat.le_of_ble_eq_true rfl⟩ (fun q ce n1 H hn1 hce hcv hcl hw => ?_)
  refine xw_catch1 (name := kIS) hown htab (by decide) (by decide) (hW _ lc_La_23) (kz_c hK.2.1).2.1 hce hcv hcl ?_
  refine W.eq (g2 := F0 m 11 ls [.ref q]) rfl ?_
  refine lv_astore_n (pc := 11) (lv' := [(3, .ref q), (0, .ref b), (1, .int x), (2, .ref o)]) hx hb dLa_limb_11 rfl hl (by decide) rfl (fun ls hl => ?_)
  refine lv_iconst (pc := 12) (v := (nI 1)) hx hb dLa_limb_12 (by decide) ?_
  exact fw_iretL (pc := 13) hx hb hr hlocks hw dLa_limb_13 ⟨rfl, rfl⟩

set_option maxHeartbeats 4000000 in
set_option maxRecDepth 100000 in
theorem w_limbI {b : Nat} {I : Nat → Nat} {J : Nat → Nat → Nat} {V G : Nat → Nat} (hS : bcS cI cL cQ w b I J V G) {x : Int32} (hst : l.stackTraces = false) (hx9 : x < 0 ∨ nI 24 ≤ x) (h0 : 0 < I 1) (h1 : I 1 < 2 ^ 31) (h4 : I 4 = I 1) {o : Nat} {f : Nat → Int64} (ho : o < b ∨ b + 86 ≤ o) (hf : w o = some (.inl (cL, 1, .inr (.inl f)))) : fw_CL l yLa_limb (Cond.codeWith yLa_limb cLa_limb 4 (some FieldType.int) [((0), (8), (11), (23)), ((0), (8), (14), (40))] :: kWs) ({ frames := 8, cells := 1, slots := 6, locals := 132 } : Room) D kCl (kty cI cL cQ) (kz tO tB tC sa) [.ref b, .int x, .ref o] (sz) w 1 6 (fun v w' => v = some (.int (nI 2)) ∧ w' = w) := by
  refine fw_ofWL (cc := cLa_limb) (maxL := 4) (ret := (some FieldType.int)) (hh := [((0), (8), (11), (23)), ((0), (8), (14), (40))]) (by decide) rfl (Nat.le_of_ble_eq_true rfl) ?_
  intro p e s m args below meth c hx hb hr hts hown hlocks hml htab hK H ls hw hl
  have htab := xw_tab2 htab
  have hW : ∀ w ∈ kWs, w.before args s = true := fun w h => hts w (List.mem_cons_of_mem _ h)
  have hown : s.vm.findClass RLa = some m.cls := hown
  have hl : lv_has ls 4 [(0, .ref b), (1, .int x), (2, .ref o)] := hl
  obtain ⟨⟨b0, b1, b2, b3⟩, -⟩ := id hS
  refine lv_aload_n (pc := 0) hx hb dLa_limb_0 rfl (lv_at hl 2 rfl) ?_
  refine lv_iconst (pc := 1) (v := (nI 0)) hx hb dLa_limb_1 (by decide) ?_
  refine lv_aload_n (pc := 2) hx hb dLa_limb_2 rfl (lv_at hl 0 rfl) ?_
  refine lv_iload_n (pc := 3) hx hb dLa_limb_3 rfl (lv_at hl 1 rfl) ?_
  refine xw_cV (pc := 4) (As := [.int x]) (rest := [.int (nI 0), .ref o]) ⟨hx, hb, hml, hown, hW⟩ (x_Bc_limbI hS hst hx9 h0 h1 h4) (cwV 1 hW (kw_V lm_La_36 im_Bc_limb se_Bc_limb ini_Bc cd_Bc_limb) rfl rfl rfl (by decide +kernel) ⟨Nat.le_of_ble_eq_true rfl, Nat.le_of_ble_eq_true rfl⟩) hK hw b0 rfl rfl hl.1 rfl (Nat.le_of_ble_eq_true rfl) dLa_limb_4 ⟨Nat.le_of_ble_eq_true rfl, Nat.le_of_ble_eq_true rfl⟩ (fun q ce n1 H hn1 hce hcv hcl hw => ?_)
  refine xw_catch2 (name := kIO) (no := kIS) hown htab (by decide) (by decide) (by decide) (by decide) (hW _ lc_La_23) (kz_N hK.2.1).2.2 (hW _ lc_La_40) (kz_c hK.2.1).2.2 hce hcv hcl ?_
  refine W.eq (g2 := F0 m 14 ls [.ref q]) rfl ?_
  refine lv_astore_n (pc := 14) (lv' := [(3, .ref q), (0, .ref b), (1, .int x), (2, .ref o)]) hx hb dLa_limb_14 rfl hl (by decide) rfl (fun ls hl => ?_)
  refine lv_iconst (pc := 15) (v := (nI 2)) hx hb dLa_limb_15 (by decide) ?_
  exact fw_iretL (pc := 16) hx hb hr hlocks hw dLa_limb_16 ⟨rfl, rfl⟩

set_option maxHeartbeats 4000000 in
set_option maxRecDepth 100000 in
theorem w_digitS {b : Nat} {I : Nat → Nat} {J : Nat → Nat → Nat} {V G : Nat → Nat} (hS : bcS cI cL cQ w b I J V G) {x : Int32} (hst : l.stackTraces = false) (h1 : I 1 < 2 ^ 31) (h4 : I 4 < 2 ^ 31) (hno : ¬ (0 < I 1 ∧ I 4 = I 1)) {o : Nat} {f : Nat → Int64} (ho : o < b ∨ b + 86 ≤ o) (hf : w o = some (.inl (cL, 1, .inr (.inl f)))) : fw_CL l yLa_digit (Cond.codeWith yLa_digit cLa_digit 4 (some FieldType.int) [((0), (9), (12), (23)), ((0), (9), (15), (40))] :: kWs) ({ frames := 8, cells := 1, slots := 6, locals := 132 } : Room) D kCl (kty cI cL cQ) (kz tO tB tC sa) [.ref b, .int x, .ref o] (sz) w 1 6 (fun v w' => v = some (.int (nI 1)) ∧ w' = w) := by
  refine fw_ofWL (cc := cLa_digit) (maxL := 4) (ret := (some FieldType.int)) (hh := [((0), (9), (12), (23)), ((0), (9), (15), (40))]) (by decide) rfl (Nat.le_of_ble_eq_true rfl) ?_
  intro p e s m args below meth c hx hb hr hts hown hlocks hml htab hK H ls hw hl
  have htab := xw_tab2 htab
  have hW : ∀ w ∈ kWs, w.before args s = true := fun w h => hts w (List.mem_cons_of_mem _ h)
  have hown : s.vm.findClass RLa = some m.cls := hown
  have hl : lv_has ls 4 [(0, .ref b), (1, .int x), (2, .ref o)] := hl
  obtain ⟨⟨b0, b1, b2, b3⟩, -⟩ := id hS
  refine lv_aload_n (pc := 0) hx hb dLa_digit_0 rfl (lv_at hl 2 rfl) ?_
  refine lv_iconst (pc := 1) (v := (nI 0)) hx hb dLa_digit_1 (by decide) ?_
  refine lv_aload_n (pc := 2) hx hb dLa_digit_2 rfl (lv_at hl 0 rfl) ?_
  refine lv_iload_n (pc := 3) hx hb dLa_digit_3 rfl (lv_at hl 1 rfl) ?_
  refine xw_cV (pc := 4) (As := [.int x]) (rest := [.int (nI 0), .ref o]) ⟨hx, hb, hml, hown, hW⟩ (x_Bc_digitS hS hst h1 h4 hno) (cwV 1 hW (kw_V lm_La_42 im_Bc_digit se_Bc_digit ini_Bc cd_Bc_digit) rfl rfl rfl (by decide +kernel) ⟨Nat.le_of_ble_eq_true rfl, Nat.le_of_ble_eq_true rfl⟩) hK hw b0 rfl rfl hl.1 rfl (Nat.le_of_ble_eq_true rfl) dLa_digit_4 ⟨Nat.le_of_ble_eq_true rfl, Nat.le_of_ble_eq_true rfl⟩ (fun q ce n1 H hn1 hce hcv hcl hw => ?_)
  refine xw_catch1 (name := kIS) hown htab (by decide) (by decide) (hW _ lc_La_23) (kz_c hK.2.1).2.1 hce hcv hcl ?_
  refine W.eq (g2 := F0 m 12 ls [.ref q]) rfl ?_
  refine lv_astore_n (pc := 12) (lv' := [(3, .ref q), (0, .ref b), (1, .int x), (2, .ref o)]) hx hb dLa_digit_12 rfl hl (by decide) rfl (fun ls hl => ?_)
  refine lv_iconst (pc := 13) (v := (nI 1)) hx hb dLa_digit_13 (by decide) ?_
  exact fw_iretL (pc := 14) hx hb hr hlocks hw dLa_digit_14 ⟨rfl, rfl⟩

set_option maxHeartbeats 4000000 in
set_option maxRecDepth 100000 in
theorem w_digitI {b : Nat} {I : Nat → Nat} {J : Nat → Nat → Nat} {V G : Nat → Nat} (hS : bcS cI cL cQ w b I J V G) {x : Int32} (hst : l.stackTraces = false) (hx9 : x < 0) (h0 : 0 < I 1) (h1 : I 1 < 2 ^ 31) (h4 : I 4 = I 1) {o : Nat} {f : Nat → Int64} (ho : o < b ∨ b + 86 ≤ o) (hf : w o = some (.inl (cL, 1, .inr (.inl f)))) : fw_CL l yLa_digit (Cond.codeWith yLa_digit cLa_digit 4 (some FieldType.int) [((0), (9), (12), (23)), ((0), (9), (15), (40))] :: kWs) ({ frames := 8, cells := 1, slots := 6, locals := 132 } : Room) D kCl (kty cI cL cQ) (kz tO tB tC sa) [.ref b, .int x, .ref o] (sz) w 1 6 (fun v w' => v = some (.int (nI 2)) ∧ w' = w) := by
  refine fw_ofWL (cc := cLa_digit) (maxL := 4) (ret := (some FieldType.int)) (hh := [((0), (9), (12), (23)), ((0), (9), (15), (40))]) (by decide) rfl (Nat.le_of_ble_eq_true rfl) ?_
  intro p e s m args below meth c hx hb hr hts hown hlocks hml htab hK H ls hw hl
  have htab := xw_tab2 htab
  have hW : ∀ w ∈ kWs, w.before args s = true := fun w h => hts w (List.mem_cons_of_mem _ h)
  have hown : s.vm.findClass RLa = some m.cls := hown
  have hl : lv_has ls 4 [(0, .ref b), (1, .int x), (2, .ref o)] := hl
  obtain ⟨⟨b0, b1, b2, b3⟩, -⟩ := id hS
  refine lv_aload_n (pc := 0) hx hb dLa_digit_0 rfl (lv_at hl 2 rfl) ?_
  refine lv_iconst (pc := 1) (v := (nI 0)) hx hb dLa_digit_1 (by decide) ?_
  refine lv_aload_n (pc := 2) hx hb dLa_digit_2 rfl (lv_at hl 0 rfl) ?_
  refine lv_iload_n (pc := 3) hx hb dLa_digit_3 rfl (lv_at hl 1 rfl) ?_
  refine xw_cV (pc := 4) (As := [.int x]) (rest := [.int (nI 0), .ref o]) ⟨hx, hb, hml, hown, hW⟩ (x_Bc_digitI hS hst hx9 h0 h1 h4) (cwV 1 hW (kw_V lm_La_42 im_Bc_digit se_Bc_digit ini_Bc cd_Bc_digit) rfl rfl rfl (by decide +kernel) ⟨Nat.le_of_ble_eq_true rfl, Nat.le_of_ble_eq_true rfl⟩) hK hw b0 rfl rfl hl.1 rfl (Nat.le_of_ble_eq_true rfl) dLa_digit_4 ⟨Nat.le_of_ble_eq_true rfl, Nat.le_of_ble_eq_true rfl⟩ (fun q ce n1 H hn1 hce hcv hcl hw => ?_)
  refine xw_catch2 (name := kIO) (no := kIS) hown htab (by decide) (by decide) (by decide) (by decide) (hW _ lc_La_23) (kz_N hK.2.1).2.2 (hW _ lc_La_40) (kz_c hK.2.1).2.2 hce hcv hcl ?_
  refine W.eq (g2 := F0 m 15 ls [.ref q]) rfl ?_
  refine lv_astore_n (pc := 15) (lv' := [(3, .ref q), (0, .ref b), (1, .int x), (2, .ref o)]) hx hb dLa_digit_15 rfl hl (by decide) rfl (fun ls hl => ?_)
  refine lv_iconst (pc := 16) (v := (nI 2)) hx hb dLa_digit_16 (by decide) ?_
  exact fw_iretL (pc := 17) hx hb hr hlocks hw dLa_digit_17 ⟨rfl, rfl⟩

set_option maxHeartbeats 4000000 in
set_option maxRecDepth 100000 in
theorem w_compareA {b : Nat} {I : Nat → Nat} {J : Nat → Nat → Nat} {V G : Nat → Nat} (hS : bcS cI cL cQ w b I J V G) {x : Int32} (hst : l.stackTraces = false) (hx9 : x < 0 ∨ nI 8 ≤ x) {o : Nat} {f : Nat → Int64} (ho : o < b ∨ b + 86 ≤ o) (hf : w o = some (.inl (cL, 1, .inr (.inl f)))) : fw_CL l yLa_compare (Cond.codeWith yLa_compare cLa_compare 4 (some FieldType.int) [((0), (9), (12), (13)), ((0), (9), (15), (23))] :: kWs) ({ frames := 8, cells := 1, slots := 6, locals := 133 } : Room) D kCl (kty cI cL cQ) (kz tO tB tC sa) [.ref b, .int x, .ref o] (sz) w 1 6 (fun v w' => v = some (.int (nI 1)) ∧ w' = w) := by
  refine fw_ofWL (cc := cLa_compare) (maxL := 4) (ret := (some FieldType.int)) (hh := [((0), (9), (12), (13)), ((0), (9), (15), (23))]) (by decide) rfl (Nat.le_of_ble_eq_true rfl) ?_
  intro p e s m args below meth c hx hb hr hts hown hlocks hml htab hK H ls hw hl
  have htab := xw_tab2 htab
  have hW : ∀ w ∈ kWs, w.before args s = true := fun w h => hts w (List.mem_cons_of_mem _ h)
  have hown : s.vm.findClass RLa = some m.cls := hown
  have hl : lv_has ls 4 [(0, .ref b), (1, .int x), (2, .ref o)] := hl
  obtain ⟨⟨b0, b1, b2, b3⟩, -⟩ := id hS
  refine lv_aload_n (pc := 0) hx hb dLa_compare_0 rfl (lv_at hl 2 rfl) ?_
  refine lv_iconst (pc := 1) (v := (nI 0)) hx hb dLa_compare_1 (by decide) ?_
  refine lv_aload_n (pc := 2) hx hb dLa_compare_2 rfl (lv_at hl 0 rfl) ?_
  refine lv_iload_n (pc := 3) hx hb dLa_compare_3 rfl (lv_at hl 1 rfl) ?_
  refine xw_cV (pc := 4) (As := [.int x]) (rest := [.int (nI 0), .ref o]) ⟨hx, hb, hml, hown, hW⟩ (x_Bc_compareA hS hst hx9) (cwV 1 hW (kw_V lm_La_45 im_Bc_compare se_Bc_compare ini_Bc cd_Bc_compare) rfl rfl rfl (by decide +kernel) ⟨Nat.le_of_ble_eq_true rfl, Nat.le_of_ble_eq_true rfl⟩) hK hw b0 rfl rfl hl.1 rfl (Nat.le_of_ble_eq_true rfl) dLa_compare_4 ⟨Nat.le_of_ble_eq_true rfl, Nat.le_of_ble_eq_true rfl⟩ (fun q ce n1 H hn1 hce hcv hcl hw => ?_)
  refine xw_catch1 (name := kIA) hown htab (by decide) (by decide) (hW _ lc_La_13) (kz_c hK.2.1).1 hce hcv hcl ?_
  refine W.eq (g2 := F0 m 12 ls [.ref q]) rfl ?_
  refine lv_astore_n (pc := 12) (lv' := [(3, .ref q), (0, .ref b), (1, .int x), (2, .ref o)]) hx hb dLa_compare_12 rfl hl (by decide) rfl (fun ls hl => ?_)
  refine lv_iconst (pc := 13) (v := (nI 1)) hx hb dLa_compare_13 (by decide) ?_
  exact fw_iretL (pc := 14) hx hb hr hlocks hw dLa_compare_14 ⟨rfl, rfl⟩

set_option maxHeartbeats 4000000 in
set_option maxRecDepth 100000 in
theorem w_compareS {b : Nat} {I : Nat → Nat} {J : Nat → Nat → Nat} {V G : Nat → Nat} (hS : bcS cI cL cQ w b I J V G) {j : Nat} (hj : j < 8) (hst : l.stackTraces = false) (h1 : I 1 < 2 ^ 31) (h4 : I 4 < 2 ^ 31) (hno : ¬ (0 < I 1 ∧ I 4 = I 1)) {o : Nat} {f : Nat → Int64} (ho : o < b ∨ b + 86 ≤ o) (hf : w o = some (.inl (cL, 1, .inr (.inl f)))) : fw_CL l yLa_compare (Cond.codeWith yLa_compare cLa_compare 4 (some FieldType.int) [((0), (9), (12), (13)), ((0), (9), (15), (23))] :: kWs) ({ frames := 8, cells := 1, slots := 6, locals := 133 } : Room) D kCl (kty cI cL cQ) (kz tO tB tC sa) [.ref b, .int (nI j), .ref o] (sz) w 1 6 (fun v w' => v = some (.int (nI 2)) ∧ w' = w) := by
  refine fw_ofWL (cc := cLa_compare) (maxL := 4) (ret := (some FieldType.int)) (hh := [((0), (9), (12), (13)), ((0), (9), (15), (23))]) (by decide) rfl (Nat.le_of_ble_eq_true rfl) ?_
  intro p e s m args below meth c hx hb hr hts hown hlocks hml htab hK H ls hw hl
  have htab := xw_tab2 htab
  have hW : ∀ w ∈ kWs, w.before args s = true := fun w h => hts w (List.mem_cons_of_mem _ h)
  have hown : s.vm.findClass RLa = some m.cls := hown
  have hl : lv_has ls 4 [(0, .ref b), (1, .int (nI j)), (2, .ref o)] := hl
  obtain ⟨⟨b0, b1, b2, b3⟩, -⟩ := id hS
  refine lv_aload_n (pc := 0) hx hb dLa_compare_0 rfl (lv_at hl 2 rfl) ?_
  refine lv_iconst (pc := 1) (v := (nI 0)) hx hb dLa_compare_1 (by decide) ?_
  refine lv_aload_n (pc := 2) hx hb dLa_compare_2 rfl (lv_at hl 0 rfl) ?_
  refine lv_iload_n (pc := 3) hx hb dLa_compare_3 rfl (lv_at hl 1 rfl) ?_
  refine xw_cV (pc := 4) (As := [.int (nI j)]) (rest := [.int (nI 0), .ref o]) ⟨hx, hb, hml, hown, hW⟩ (x_Bc_compareS hS hj hst h1 h4 hno) (cwV 1 hW (kw_V lm_La_45 im_Bc_compare se_Bc_compare ini_Bc cd_Bc_compare) rfl rfl rfl (by decide +kernel) ⟨Nat.le_of_ble_eq_true rfl, Nat.le_of_ble_eq_true rfl⟩) hK hw b0 rfl rfl hl.1 rfl (Nat.le_of_ble_eq_true rfl) dLa_compare_4 ⟨Nat.le_of_ble_eq_true rfl, Nat.le_of_ble_eq_true rfl⟩ (fun q ce n1 H hn1 hce hcv hcl hw => ?_)
  refine xw_catch2 (name := kIS) (no := kIA) hown htab (by decide) (by decide) (by decide) (by decide) (hW _ lc_La_13) (kz_N hK.2.1).1 (hW _ lc_La_23) (kz_c hK.2.1).2.1 hce hcv hcl ?_
  refine W.eq (g2 := F0 m 15 ls [.ref q]) rfl ?_
  refine lv_astore_n (pc := 15) (lv' := [(3, .ref q), (0, .ref b), (1, .int (nI j)), (2, .ref o)]) hx hb dLa_compare_15 rfl hl (by decide) rfl (fun ls hl => ?_)
  refine lv_iconst (pc := 16) (v := (nI 2)) hx hb dLa_compare_16 (by decide) ?_
  exact fw_iretL (pc := 17) hx hb hr hlocks hw dLa_compare_17 ⟨rfl, rfl⟩

set_option maxHeartbeats 4000000 in
set_option maxRecDepth 100000 in
theorem w_feed {b : Nat} {I : Nat → Nat} {J : Nat → Nat → Nat} {V G : Nat → Nat} (hS : bcS cI cL cQ w b I J V G) {k u : Nat} (ht : tk (nI k) (nI u) = true) (h0 : I 0 < 120) {o : Nat} {f : Nat → Int64} (ho : o < b ∨ b + 86 ≤ o) (hf : w o = some (.inl (cL, 1, .inr (.inl f)))) : fw_CL l yLa_feed (Cond.codeWith yLa_feed cLa_feed 5 (some FieldType.int) [((0), (10), (13), (13))] :: kWs) ({ frames := 7, cells := 0, slots := 0, locals := 112 } : Room) D kCl (kty cI cL cQ) (kz tO tB tC sa) [.ref b, .int (nI k), .int (nI u), .ref o] (sz) w 0 0 (fun v w' => v = some (.int (nI 0)) ∧ bcS cI cL cQ w' b (va_up I 0 (I 0 + 1)) (va_up (va_up J 0 (va_up (J 0) (I 0) k)) 1 (va_up (J 1) (I 0) u)) V G ∧ w' o = some (.inl (cL, 1, .inr (.inl (va_up f 0 (lN (I 0 + 1)))))) ∧ ∀ q, q < b ∨ b + 86 ≤ q → q ≠ o → w' q = w q) := by
  refine fw_ofWL (cc := cLa_feed) (maxL := 5) (ret := (some FieldType.int)) (hh := [((0), (10), (13), (13))]) (by decide) rfl (Nat.le_of_ble_eq_true rfl) ?_
  intro p e s m args below meth c hx hb hr hts hown hlocks hml htab hK H ls hw hl
  have htab := xw_tab1 htab
  have hW : ∀ w ∈ kWs, w.before args s = true := fun w h => hts w (List.mem_cons_of_mem _ h)
  have hown : s.vm.findClass RLa = some m.cls := hown
  have hl : lv_has ls 5 [(0, .ref b), (1, .int (nI k)), (2, .int (nI u)), (3, .ref o)] := hl
  obtain ⟨⟨b0, b1, b2, b3⟩, -⟩ := id hS
  refine lv_aload_n (pc := 0) hx hb dLa_feed_0 rfl (lv_at hl 3 rfl) ?_
  refine lv_iconst (pc := 1) (v := (nI 0)) hx hb dLa_feed_1 (by decide) ?_
  refine lv_aload_n (pc := 2) hx hb dLa_feed_2 rfl (lv_at hl 0 rfl) ?_
  refine lv_iload_n (pc := 3) hx hb dLa_feed_3 rfl (lv_at hl 1 rfl) ?_
  refine lv_iload_n (pc := 4) hx hb dLa_feed_4 rfl (lv_at hl 2 rfl) ?_
  refine fw_cV (pc := 5) (As := [.int (nI k), .int (nI u)]) (rest := [.int (nI 0), .ref o]) ⟨hx, hb, hml, hown, hW⟩ (c_Bc_feed hS ht h0) (cwV 2 hW (kw_V lm_La_7 im_Bc_feed se_Bc_feed ini_Bc cd_Bc_feed) rfl rfl rfl (by decide +kernel) ⟨Nat.le_of_ble_eq_true rfl, Nat.le_of_ble_eq_true rfl⟩) hK hw b0 rfl rfl hl.1 rfl (Nat.le_of_ble_eq_true rfl) dLa_feed_5 ⟨Nat.le_of_ble_eq_true rfl, Nat.le_of_ble_eq_true rfl⟩ (fun v w1 H locs hq hw => ?_)
  obtain ⟨rfl, hS2, hfr⟩ := hq
  have hf_ : w1 (o) = some (.inl (cL, 1, .inr (.inl (f)))) := (hfr _ ho).trans hf
  have hf := hf_
  refine W.eq (g2 := F0 m 8 ls [.int (nI (I 0 + 1)), .int (nI 0), .ref o]) rfl ?_
  refine lv_i2l (pc := 8) (v := (lN (I 0 + 1))) hx hb dLa_feed_8 (nI_l (by omega)) ?_
  refine fw_lastN (pc := 9) (f2 := va_up f 0 (lN (I 0 + 1))) hx hb hK.1 hw 1 hf rfl (0) (by decide) (by decide) (rfl) dLa_feed_9 (fun H locs hw => ?_)
  obtain ⟨w2, e2⟩ : ∃ w_, w_ = fw_up w1 (o) (.inl (cL, 1, .inr (.inl (va_up f 0 (lN (I 0 + 1)))))) := ⟨_, rfl⟩
  have hw : fw_H D kCl (fw_A w (sz)) s.heap w2 (sz) H locs := by rw [e2]; exact hw
  have hf_ : w2 (o) = some (.inl (cL, 1, .inr (.inl (va_up f 0 (lN (I 0 + 1)))))) := by rw [e2]; exact fw_us _ _ _
  have hf := hf_
  refine lv_goto (pc := 10) (tgt := 17) hx hb dLa_feed_10 (by decide) ?_
  refine lv_iconst (pc := 17) (v := (nI 0)) hx hb dLa_feed_17 (by decide) ?_
  exact fw_iretL (pc := 18) hx hb hr hlocks hw dLa_feed_18 ⟨rfl, hS2.kept (fun a h1 h2 => by rw [e2, fw_un (by omega)]), hf, fun q h1 h2 => by rw [e2, fw_un h2, hfr q h1]⟩

set_option maxHeartbeats 4000000 in
set_option maxRecDepth 100000 in
theorem w_feedFull {b : Nat} {I : Nat → Nat} {J : Nat → Nat → Nat} {V G : Nat → Nat} (hS : bcS cI cL cQ w b I J V G) {k u : Nat} (ht : tk (nI k) (nI u) = true) (h0 : I 0 = 120) {o : Nat} {f : Nat → Int64} (ho : o < b ∨ b + 86 ≤ o) (hf : w o = some (.inl (cL, 1, .inr (.inl f)))) : fw_CL l yLa_feed (Cond.codeWith yLa_feed cLa_feed 5 (some FieldType.int) [((0), (10), (13), (13))] :: kWs) ({ frames := 7, cells := 0, slots := 0, locals := 112 } : Room) D kCl (kty cI cL cQ) (kz tO tB tC sa) [.ref b, .int (nI k), .int (nI u), .ref o] (sz) w 0 0 (fun v w' => v = some (.int (nI 0)) ∧ w' o = some (.inl (cL, 1, .inr (.inl (va_up f 0 (-1))))) ∧ ∀ q, q ≠ o → w' q = w q) := by
  refine fw_ofWL (cc := cLa_feed) (maxL := 5) (ret := (some FieldType.int)) (hh := [((0), (10), (13), (13))]) (by decide) rfl (Nat.le_of_ble_eq_true rfl) ?_
  intro p e s m args below meth c hx hb hr hts hown hlocks hml htab hK H ls hw hl
  have htab := xw_tab1 htab
  have hW : ∀ w ∈ kWs, w.before args s = true := fun w h => hts w (List.mem_cons_of_mem _ h)
  have hown : s.vm.findClass RLa = some m.cls := hown
  have hl : lv_has ls 5 [(0, .ref b), (1, .int (nI k)), (2, .int (nI u)), (3, .ref o)] := hl
  obtain ⟨⟨b0, b1, b2, b3⟩, -⟩ := id hS
  refine lv_aload_n (pc := 0) hx hb dLa_feed_0 rfl (lv_at hl 3 rfl) ?_
  refine lv_iconst (pc := 1) (v := (nI 0)) hx hb dLa_feed_1 (by decide) ?_
  refine lv_aload_n (pc := 2) hx hb dLa_feed_2 rfl (lv_at hl 0 rfl) ?_
  refine lv_iload_n (pc := 3) hx hb dLa_feed_3 rfl (lv_at hl 1 rfl) ?_
  refine lv_iload_n (pc := 4) hx hb dLa_feed_4 rfl (lv_at hl 2 rfl) ?_
  refine fw_cVR (pc := 5) (As := [.int (nI k), .int (nI u)]) (rest := [.int (nI 0), .ref o]) ⟨hx, hb, hml, hown, hW⟩ (c_Bc_feedFull hS ht h0) (cwV 2 hW (kw_V lm_La_7 im_Bc_feed se_Bc_feed ini_Bc cd_Bc_feed) rfl rfl rfl (by decide +kernel) ⟨Nat.le_of_ble_eq_true rfl, Nat.le_of_ble_eq_true rfl⟩) hK hw b0 rfl rfl hl.1 rfl (Nat.le_of_ble_eq_true rfl) dLa_feed_5 ⟨Nat.le_of_ble_eq_true rfl, Nat.le_of_ble_eq_true rfl⟩ (fun v hq => ?_)
  subst hq
  refine W.eq (g2 := F0 m 8 ls [.int (-1), .int (nI 0), .ref o]) rfl ?_
  refine lv_i2l (pc := 8) (v := (-1)) hx hb dLa_feed_8 (by decide) ?_
  refine fw_lastN (pc := 9) (f2 := va_up f 0 (-1)) hx hb hK.1 hw 1 hf rfl (0) (by decide) (by decide) (rfl) dLa_feed_9 (fun H locs hw => ?_)
  obtain ⟨w1, e1⟩ : ∃ w_, w_ = fw_up w (o) (.inl (cL, 1, .inr (.inl (va_up f 0 (-1))))) := ⟨_, rfl⟩
  have hw : fw_H D kCl (fw_A w (sz)) s.heap w1 (sz) H locs := by rw [e1]; exact hw
  have b0_ : w1 (b) = some (.inr (9, [.ref (b + 1), .ref (b + 4), .ref (b + 10), .ref (b + 83)])) := by rw [e1, fw_un (fw_neK2 b0 hf)]; exact b0
  have hf_ : w1 (o) = some (.inl (cL, 1, .inr (.inl (va_up f 0 (-1))))) := by rw [e1]; exact fw_us _ _ _
  have b0 := b0_
  have hf := hf_
  refine lv_goto (pc := 10) (tgt := 17) hx hb dLa_feed_10 (by decide) ?_
  refine lv_iconst (pc := 17) (v := (nI 0)) hx hb dLa_feed_17 (by decide) ?_
  exact fw_iretL (pc := 18) hx hb hr hlocks hw dLa_feed_18 ⟨rfl, hf, fun q h2 => by rw [e1, fw_un h2]⟩

set_option maxHeartbeats 4000000 in
set_option maxRecDepth 100000 in
theorem w_set {b : Nat} {I : Nat → Nat} {J : Nat → Nat → Nat} {V G : Nat → Nat} (hS : bcS cI cL cQ w b I J V G) {j y : Nat} (hj : j < 8) (hy : y < 2 ^ 64) : fw_CL l yLa_set (Cond.codeWith yLa_set cLa_set 5 (some FieldType.int) [((0), (6), (9), (13))] :: kWs) ({ frames := 8, cells := 0, slots := 0, locals := 134 } : Room) D kCl (kty cI cL cQ) (kz tO tB tC sa) [.ref b, .int (nI j), .long (lN y)] (sz) w 0 0 (fun v w' => v = some (.int (nI 0)) ∧ bcS cI cL cQ w' b I J (va_up V (10 + j) (lmg y)) (va_up G (10 + j) (lsg y)) ∧ ∀ q, q < b ∨ b + 86 ≤ q → w' q = w q) := by
  refine fw_ofWL (cc := cLa_set) (maxL := 5) (ret := (some FieldType.int)) (hh := [((0), (6), (9), (13))]) (by decide) rfl (Nat.le_of_ble_eq_true rfl) ?_
  intro p e s m args below meth c hx hb hr hts hown hlocks hml htab hK H ls hw hl
  have htab := xw_tab1 htab
  have hW : ∀ w ∈ kWs, w.before args s = true := fun w h => hts w (List.mem_cons_of_mem _ h)
  have hown : s.vm.findClass RLa = some m.cls := hown
  have hl : lv_has ls 5 [(0, .ref b), (1, .int (nI j)), (2, .long (lN y))] := hl
  obtain ⟨⟨b0, b1, b2, b3⟩, -⟩ := id hS
  refine lv_aload_n (pc := 0) hx hb dLa_set_0 rfl (lv_at hl 0 rfl) ?_
  refine lv_iload_n (pc := 1) hx hb dLa_set_1 rfl (lv_at hl 1 rfl) ?_
  refine lv_lload_n (pc := 2) hx hb dLa_set_2 rfl (lv_at hl 2 rfl) ?_
  refine fw_cV (pc := 3) (As := [.int (nI j), .long (lN y)]) (rest := []) ⟨hx, hb, hml, hown, hW⟩ (c_Bc_set hS hj hy) (cwV 2 hW (kw_V lm_La_15 im_Bc_set se_Bc_set ini_Bc cd_Bc_set) rfl rfl rfl (by decide +kernel) ⟨Nat.le_of_ble_eq_true rfl, Nat.le_of_ble_eq_true rfl⟩) hK hw b0 rfl rfl hl.1 rfl (Nat.le_of_ble_eq_true rfl) dLa_set_3 ⟨Nat.le_of_ble_eq_true rfl, Nat.le_of_ble_eq_true rfl⟩ (fun v w1 H locs hq hw => ?_)
  obtain ⟨rfl, hS2, hfr⟩ := hq
  refine W.eq (g2 := F0 m 6 ls []) rfl ?_
  refine lv_goto (pc := 6) (tgt := 13) hx hb dLa_set_6 (by decide) ?_
  refine lv_iconst (pc := 13) (v := (nI 0)) hx hb dLa_set_13 (by decide) ?_
  exact fw_iretL (pc := 14) hx hb hr hlocks hw dLa_set_14 ⟨rfl, hS2, hfr⟩

set_option maxHeartbeats 4000000 in
set_option maxRecDepth 100000 in
theorem w_restart {b : Nat} {I : Nat → Nat} {J : Nat → Nat → Nat} {V G : Nat → Nat} (hS : bcS cI cL cQ w b I J V G) (h1 : 0 < I 1) (h2 : I 1 < 2 ^ 31) : fw_CL l yLa_restart (Cond.codeWith yLa_restart cLa_restart 2 (some FieldType.int) [((0), (4), (7), (23))] :: kWs) ({ frames := 8, cells := 0, slots := 0, locals := 130 } : Room) D kCl (kty cI cL cQ) (kz tO tB tC sa) [.ref b] (sz) w 0 0 (fun v w' => v = some (.int (nI 0)) ∧ bcS cI cL cQ w' b (fun i => if 4 ≤ i then 0 else I i) J V G ∧ ∀ q, q < b ∨ b + 86 ≤ q → w' q = w q) := by
  refine fw_ofWL (cc := cLa_restart) (maxL := 2) (ret := (some FieldType.int)) (hh := [((0), (4), (7), (23))]) (by decide) rfl (Nat.le_of_ble_eq_true rfl) ?_
  intro p e s m args below meth c hx hb hr hts hown hlocks hml htab hK H ls hw hl
  have htab := xw_tab1 htab
  have hW : ∀ w ∈ kWs, w.before args s = true := fun w h => hts w (List.mem_cons_of_mem _ h)
  have hown : s.vm.findClass RLa = some m.cls := hown
  have hl : lv_has ls 2 [(0, .ref b)] := hl
  obtain ⟨⟨b0, b1, b2, b3⟩, -⟩ := id hS
  refine lv_aload_n (pc := 0) hx hb dLa_restart_0 rfl (lv_at hl 0 rfl) ?_
  refine fw_cV (pc := 1) (As := []) (rest := []) ⟨hx, hb, hml, hown, hW⟩ (c_Bc_restart hS h1 h2) (cwV 0 hW (kw_V lm_La_25 im_Bc_restart se_Bc_restart ini_Bc cd_Bc_restart) rfl rfl rfl (by decide +kernel) ⟨Nat.le_of_ble_eq_true rfl, Nat.le_of_ble_eq_true rfl⟩) hK hw b0 rfl rfl hl.1 rfl (Nat.le_of_ble_eq_true rfl) dLa_restart_1 ⟨Nat.le_of_ble_eq_true rfl, Nat.le_of_ble_eq_true rfl⟩ (fun v w1 H locs hq hw => ?_)
  obtain ⟨rfl, hS2, hfr⟩ := hq
  refine W.eq (g2 := F0 m 4 ls []) rfl ?_
  refine lv_goto (pc := 4) (tgt := 10) hx hb dLa_restart_4 (by decide) ?_
  refine lv_iconst (pc := 10) (v := (nI 0)) hx hb dLa_restart_10 (by decide) ?_
  exact fw_iretL (pc := 11) hx hb hr hlocks hw dLa_restart_11 ⟨rfl, hS2, hfr⟩
end WRP
