/-! The bits of a number; methods of the JDK, of no plain name: own rows over the library's MetFree.of_bodySF. -/
/-- how many bits a number has -/
def bl (n : Nat) : Nat := if n = 0 then 0 else Nat.log2 n + 1
theorem bt_0 : bl 0 = 0 := rfl
theorem bt_lt (n : Nat) : n < 2 ^ bl n := by
  unfold bl
  split
  · omega
  · exact Nat.lt_log2_self
theorem bt_le {n : Nat} (h : n ≠ 0) : 2 ^ (bl n - 1) ≤ n ∧ 0 < bl n := by
  unfold bl
  rw [if_neg h, Nat.add_sub_cancel]
  exact ⟨Nat.log2_self_le h, by omega⟩
theorem bt_uniq {n b : Nat} (h1 : 2 ^ b ≤ n) (h2 : n < 2 ^ (b + 1)) : bl n = b + 1 := by
  have h0 : n ≠ 0 := by have := Nat.pow_pos (n := b) (show 0 < 2 by decide); omega
  unfold bl
  rw [if_neg h0, (Nat.log2_eq_iff h0).mpr ⟨h1, h2⟩]
theorem bt_div {n s : Nat} (h : 2 ^ s ≤ n) : bl n = bl (n / 2 ^ s) + s ∧ 0 < n / 2 ^ s := by
  have hp : 0 < 2 ^ s := Nat.pow_pos (by decide)
  have hq : 0 < n / 2 ^ s := Nat.div_pos h hp
  obtain ⟨h1, h2⟩ := bt_le (show n / 2 ^ s ≠ 0 by omega)
  have h3 := bt_lt (n / 2 ^ s)
  refine ⟨?_, hq⟩
  obtain ⟨b, hb⟩ : ∃ b, bl (n / 2 ^ s) = b + 1 := ⟨bl (n / 2 ^ s) - 1, by omega⟩
  rw [hb] at h1 h3 ⊢
  rw [Nat.add_sub_cancel] at h1
  rw [show b + 1 + s = (b + s) + 1 by omega]
  apply bt_uniq
  · rw [Nat.pow_add]; exact (Nat.le_div_iff_mul_le hp).mp h1
  · rw [show b + s + 1 = (b + 1) + s by omega, Nat.pow_add]; exact (Nat.div_lt_iff_lt_mul hp).mp h3
theorem bt_ub {n k : Nat} (h : n < 2 ^ k) : bl n ≤ k := by
  by_cases h0 : n = 0
  · rw [h0, bt_0]; omega
  · obtain ⟨h1, h2⟩ := bt_le h0
    have h3 : 2 ^ (bl n - 1) < 2 ^ k := by omega
    have h4 := (Nat.pow_lt_pow_iff_right (show 1 < 2 by decide)).mp h3
    omega
theorem bt_lb {n k : Nat} (h : 2 ^ k ≤ n) : k < bl n := by
  have h1 := bt_lt n
  have h3 : 2 ^ k < 2 ^ bl n := by omega
  exact (Nat.pow_lt_pow_iff_right (show 1 < 2 by decide)).mp h3
/-- bits of limbs -/
theorem bt_top {a b k : Nat} (hb : b < 2 ^ k) (ha : 0 < a) : bl (a * 2 ^ k + b) = bl a + k := by
  have hp : 0 < 2 ^ k := Nat.pow_pos (by decide)
  have h1 : a * 2 ^ k + b = b + 2 ^ k * a := by rw [Nat.mul_comm]; omega
  have h2 : (a * 2 ^ k + b) / 2 ^ k = a := by rw [h1, Nat.add_mul_div_left b a hp, Nat.div_eq_of_lt hb]; omega
  have h3 : 1 * 2 ^ k ≤ a * 2 ^ k := Nat.mul_le_mul_right _ ha
  have := (bt_div (n := a * 2 ^ k + b) (s := k) (by omega)).1
  rw [h2] at this; exact this
theorem nI_ti {n : Nat} (h : n < 2 ^ 32) : (nI n).toInt = if n < 2 ^ 31 then (n : Int) else (n : Int) - 2 ^ 32 := by
  rw [show (nI n).toInt = (BitVec.ofNat 32 n).toInt from rfl, BitVec.toInt_eq_toNat_cond, BitVec.toNat_ofNat, Nat.mod_eq_of_lt h]
  split <;> split <;> omega
theorem nI_gt0 {n : Nat} (h : n < 2 ^ 32) : 0 < nI n ↔ 0 < n ∧ n < 2 ^ 31 := by
  rw [Int32.lt_iff_toInt_lt, nI_ti h, show (0 : Int32).toInt = 0 from rfl]
  split <;> omega
theorem nI_eq0 {n : Nat} (h : n < 2 ^ 32) : nI n = 0 ↔ n = 0 := by
  rw [← Int32.toInt_inj, nI_ti h, show (0 : Int32).toInt = 0 from rfl]
  split <;> omega
theorem cu_int {a : Nat} (h : a < 2 ^ 64) : (lN (a + 9223372036854775808)).toInt = (a : Int) - 2 ^ 63 := by
  rw [wb_mod, lN_ti (Nat.mod_lt _ (by decide))]
  split <;> omega
theorem cu_lt {a b : Nat} (ha : a < 2 ^ 64) (hb : b < 2 ^ 64) : lN (a + 9223372036854775808) < lN (b + 9223372036854775808) ↔ a < b := by
  rw [Int64.lt_iff_toInt_lt, cu_int ha, cu_int hb]; omega
theorem cu_eq {a b : Nat} (ha : a < 2 ^ 64) (hb : b < 2 ^ 64) : lN (a + 9223372036854775808) = lN (b + 9223372036854775808) ↔ a = b := by
  rw [← Int64.toInt_inj, cu_int ha, cu_int hb]; omega
theorem met_ofWF {l : Launch} {y : MethodName} {ws ws' : List Cond} {rm : Room} {Pc : Array Value → State → Prop} {Qc : Array Value → State → Outcome → State → Prop} {mc ms : Nat} {free : Addr → Prop} {cc : ByteArray} {maxL : Nat} {ret : Option FieldType}
    (hy : plainFor y = true) (hw : ws = Cond.code y cc maxL ret :: ws')
    (body : ∀ p e s m args below meth c s₁, BodyLoose p l y (headSpec ws rm) cc maxL ret e s m args below meth c s₁ → c.maxLocals = maxL → Pc args s →
      W p l e (headSpec ws rm).room s m args below meth c s.heap [] 0 0 (MQ below Qc args s mc ms free) (entryFrame m args maxL)) : Met l y ws rm Pc Qc mc ms free := by
  refine MetFree.of_bodySF (code := cc) (maxLocals := maxL) (ret := ret) hy ?_ ?_
  · intro args s m h hn
    obtain ⟨meth, c, h1, h2, h3, h4, h5, h6, -, -⟩ := Cond.code_spec hn (atoms_spec (ws := ws) h _ (by rw [hw]; exact List.mem_cons_self))
    exact ⟨meth, c, h1, h2, h3, h4, h5, h6⟩
  · intro p e s m args below meth c s₁ B hml hP _
    have hh0 : s₁.heap = s.heap := by rw [B.state]; rfl
    obtain ⟨t, a1, o, b1, b2, b3⟩ := body p e s m args below meth c s₁ B hml hP s₁ hh0 (Stand.of_body B)
    exact ⟨t, o, a1, b1, b2, ⟨b3.1, b3.2⟩⟩
theorem fw_ofRF {l : Launch} {cc : ByteArray} {D : va_G} {cl : List vw_C} {tys : List (ClassId × FieldType)} {z : kZ_T} {w : fw_W} {sz : Nat} {y : MethodName} {ws ws' : List Cond} {rm : Room} {av : List Value} {Qc : Option Value → Prop} {maxL : Nat} {ret : Option FieldType} (hy : plainFor y = true) (hw : ws = Cond.code y cc maxL ret :: ws') (hlen : (lg_sl av).length ≤ maxL)
    (body : ∀ (p : Program) (e : Env) (s : State) (m : MethodId) (args : Array Value) (below : List Frame) (meth : Method) (c : Code), p.tables.exec = Jvm.exec → c.code = cc → meth.sig.returnType = ret → (∀ w ∈ ws, w.before args s = true) → s.vm.findClass y.cls = some m.cls → meth.locks = false → c.maxLocals = maxL →
      kK D cl tys z (fw_A w sz) s s.heap → ∀ (H : Heap) (ls : Array Slot), H = s.heap → fw_H D cl (fw_A w sz) s.heap w sz H [] → lv_has ls maxL (lv_args 0 av) →
      W p l e rm s m args below meth c H [] 0 0 (MQ below (fw_RQ Qc) args s 0 0 (fun _ => False)) (F0 m 0 ls [])) :
    fw_R l y ws rm D cl tys z av sz w Qc := by
  refine met_ofWF (cc := cc) (maxL := maxL) (ret := ret) hy hw ?_
  intro p e s m args below meth c s₁ B hml hv
  obtain ⟨rfl, hsz, hP, hK⟩ := hv
  have hl := lv_entry av (n := maxL) hlen
  rw [lg_entry_eq]
  exact body p e s m _ below meth c B.exec B.bytes B.returns (atoms_spec (ws := ws) B.pre) (findClass_of_methodNamed B.named) B.notSynchronized hml hK s.heap _ rfl
    ⟨hP, fun a h => Or.inl h, fun q h => Or.inr (by rw [← hsz]; exact h), hsz, va_S.rf⟩ hl
/-! The JDK's methods; BigCalculator.Natural: freeBits, bits. Written by wip/gen/jdk1.py. -/
section JD1
variable {l : Launch} {D : va_G} {cI cL cQ : ClassId} {z : kZ_T} {sz : Nat} {w : fw_W}
set_option maxHeartbeats 4000000 in
set_option maxRecDepth 100000 in
theorem c_Ji_nlz {n : Nat} (hn : n < 2 ^ 32) : fw_R l yJi_numberOfLeadingZeros (Cond.code yJi_numberOfLeadingZeros cJi_numberOfLeadingZeros 2 (some FieldType.int) :: kWs) ({ frames := 0, cells := 0, slots := 0, locals := 0 } : Room) D kCl (kty cI cL cQ) z [.int (nI n)] (sz) w (fun v => v = some (.int (nI (32 - bl n)))) := by
  refine fw_ofRF (cc := cJi_numberOfLeadingZeros) (maxL := 2) (ret := (some FieldType.int)) (by decide +kernel) rfl (Nat.le_of_ble_eq_true rfl) ?_
  intro p e s m args below meth c hx hb hr hts hown hlocks hml hK H ls hH hw hl
  have hW : ∀ w ∈ kWs, w.before args s = true := fun w h => hts w (List.mem_cons_of_mem _ h)
  have hown : s.vm.findClass RJi = some m.cls := hown
  have hl : lv_has ls 2 [(0, .int (nI n))] := hl
  have k5 : ∀ (u r : Nat), 0 < u → u < 4 → r < 32 → bl n + r = bl u + 31 → bl u ≤ r + 1 → ∀ (ls : Array Slot), lv_has ls 2 [(0, .int (nI u)), (1, .int (nI r))] → W p l e ({ frames := 0, cells := 0, slots := 0, locals := 0 } : Room) s m args below meth c H [] 0 0 (MQ below (fw_RQ (fun v => v = some (.int (nI (32 - bl n))))) args s 0 0 (fun _ => False)) (F0 m 73 ls []) := by
    intro u r h0 hu hr5 hb1 hb2 ls hl
    refine lv_iload_n (pc := 73) hx hb dJi_numberOfLeadingZeros_73 rfl (lv_at hl 1 rfl) ?_
    refine lv_iload_n (pc := 74) hx hb dJi_numberOfLeadingZeros_74 rfl (lv_at hl 0 rfl) ?_
    refine lv_iconst (pc := 75) (v := (nI 1)) hx hb dJi_numberOfLeadingZeros_75 (by decide) ?_
    refine lv_iushr (pc := 76) (v := nI (u / 2)) hx hb dJi_numberOfLeadingZeros_76 (pk_ushrN (by omega) _ 1 (by decide)) ?_
    have hu2 : bl u = u / 2 + 1 := by (rcases (show u = 1 ∨ u = 2 ∨ u = 3 by omega) with rfl | rfl | rfl <;> decide)
    refine lv_isub (pc := 77) hx hb dJi_numberOfLeadingZeros_77 ?_
    rw [show ((nI r - nI (u / 2)) : Int32) = nI (32 - bl n) from (by rw [nI_subL (by omega)]; congr 1; omega)]
    exact fw_iretR (pc := 78) hx hb hr hlocks hH dJi_numberOfLeadingZeros_78 rfl
  have k4 : ∀ (u r : Nat), 0 < u → u < 16 → r < 32 → bl n + r = bl u + 31 → bl u ≤ r + 1 → ∀ (ls : Array Slot), lv_has ls 2 [(0, .int (nI u)), (1, .int (nI r))] → W p l e ({ frames := 0, cells := 0, slots := 0, locals := 0 } : Room) s m args below meth c H [] 0 0 (MQ below (fw_RQ (fun v => v = some (.int (nI (32 - bl n))))) args s 0 0 (fun _ => False)) (F0 m 61 ls []) := by
    intro u r h0 hu hr5 hb1 hb2 ls hl
    refine lv_iload_n (pc := 61) hx hb dJi_numberOfLeadingZeros_61 rfl (lv_at hl 0 rfl) ?_
    refine lv_iconst (pc := 62) (v := (nI 4)) hx hb dJi_numberOfLeadingZeros_62 (by decide) ?_
    refine lv_icmp_lt (pc := 63) (tgt := 73) hx hb dJi_numberOfLeadingZeros_63 (by decide) (fun hc => ?_) (fun hc => ?_)
    · exact k5 u r h0 ((nI_ltI (by omega) (by decide)).mp hc) hr5 hb1 hb2 ls hl
    · have hge : 4 ≤ u := Nat.le_of_not_lt (fun h => hc ((nI_ltI (by omega) (by decide)).mpr h))
      have hbd := bt_div (n := u) (s := 2) hge
      have hf1 := (bt_le (Nat.ne_of_gt hbd.2)).2
      refine lv_iinc (pc := 66) (lv' := [(1, .int (nI (r - 2))), (0, .int (nI u))]) hx hb dJi_numberOfLeadingZeros_66 hl (k := 1) rfl ((by rw [show Int32.ofInt (-2) = -(nI 2) by decide, ← Int32.sub_eq_add_neg]; exact nI_subL (by omega))) (by decide) rfl (fun ls hl => ?_)
      refine lv_iload_n (pc := 69) hx hb dJi_numberOfLeadingZeros_69 rfl (lv_at hl 1 rfl) ?_
      refine lv_iconst (pc := 70) (v := (nI 2)) hx hb dJi_numberOfLeadingZeros_70 (by decide) ?_
      refine lv_iushr (pc := 71) (v := nI (u / 4)) hx hb dJi_numberOfLeadingZeros_71 (pk_ushrN (by omega) _ 2 (by decide)) ?_
      refine lv_istore_n (pc := 72) (lv' := [(0, .int (nI (u / 4))), (1, .int (nI (r - 2)))]) hx hb dJi_numberOfLeadingZeros_72 rfl hl (by decide) rfl (fun ls hl => ?_)
      exact k5 (u / 4) (r - 2) hbd.2 (by omega) (by omega) (by have := hbd.1; (show bl n + (r - 2) = bl (u / 2 ^ 2) + 31); omega) (by have := hbd.1; (show bl (u / 2 ^ 2) ≤ _); omega) ls (lv_sub hl [0, 1] rfl)
  have k3 : ∀ (u r : Nat), 0 < u → u < 256 → r < 32 → bl n + r = bl u + 31 → bl u ≤ r + 1 → ∀ (ls : Array Slot), lv_has ls 2 [(0, .int (nI u)), (1, .int (nI r))] → W p l e ({ frames := 0, cells := 0, slots := 0, locals := 0 } : Room) s m args below meth c H [] 0 0 (MQ below (fw_RQ (fun v => v = some (.int (nI (32 - bl n))))) args s 0 0 (fun _ => False)) (F0 m 48 ls []) := by
    intro u r h0 hu hr5 hb1 hb2 ls hl
    refine lv_iload_n (pc := 48) hx hb dJi_numberOfLeadingZeros_48 rfl (lv_at hl 0 rfl) ?_
    refine lv_bipush (pc := 49) (v := (nI 16)) hx hb dJi_numberOfLeadingZeros_49 (by decide) ?_
    refine lv_icmp_lt (pc := 51) (tgt := 61) hx hb dJi_numberOfLeadingZeros_51 (by decide) (fun hc => ?_) (fun hc => ?_)
    · exact k4 u r h0 ((nI_ltI (by omega) (by decide)).mp hc) hr5 hb1 hb2 ls hl
    · have hge : 16 ≤ u := Nat.le_of_not_lt (fun h => hc ((nI_ltI (by omega) (by decide)).mpr h))
      have hbd := bt_div (n := u) (s := 4) hge
      have hf1 := (bt_le (Nat.ne_of_gt hbd.2)).2
      refine lv_iinc (pc := 54) (lv' := [(1, .int (nI (r - 4))), (0, .int (nI u))]) hx hb dJi_numberOfLeadingZeros_54 hl (k := 1) rfl ((by rw [show Int32.ofInt (-4) = -(nI 4) by decide, ← Int32.sub_eq_add_neg]; exact nI_subL (by omega))) (by decide) rfl (fun ls hl => ?_)
      refine lv_iload_n (pc := 57) hx hb dJi_numberOfLeadingZeros_57 rfl (lv_at hl 1 rfl) ?_
      refine lv_iconst (pc := 58) (v := (nI 4)) hx hb dJi_numberOfLeadingZeros_58 (by decide) ?_
      refine lv_iushr (pc := 59) (v := nI (u / 16)) hx hb dJi_numberOfLeadingZeros_59 (pk_ushrN (by omega) _ 4 (by decide)) ?_
      refine lv_istore_n (pc := 60) (lv' := [(0, .int (nI (u / 16))), (1, .int (nI (r - 4)))]) hx hb dJi_numberOfLeadingZeros_60 rfl hl (by decide) rfl (fun ls hl => ?_)
      exact k4 (u / 16) (r - 4) hbd.2 (by omega) (by omega) (by have := hbd.1; (show bl n + (r - 4) = bl (u / 2 ^ 4) + 31); omega) (by have := hbd.1; (show bl (u / 2 ^ 4) ≤ _); omega) ls (lv_sub hl [0, 1] rfl)
  have k2 : ∀ (u r : Nat), 0 < u → u < 65536 → r < 32 → bl n + r = bl u + 31 → bl u ≤ r + 1 → ∀ (ls : Array Slot), lv_has ls 2 [(0, .int (nI u)), (1, .int (nI r))] → W p l e ({ frames := 0, cells := 0, slots := 0, locals := 0 } : Room) s m args below meth c H [] 0 0 (MQ below (fw_RQ (fun v => v = some (.int (nI (32 - bl n))))) args s 0 0 (fun _ => False)) (F0 m 33 ls []) := by
    intro u r h0 hu hr5 hb1 hb2 ls hl
    refine lv_iload_n (pc := 33) hx hb dJi_numberOfLeadingZeros_33 rfl (lv_at hl 0 rfl) ?_
    refine lv_sipush (pc := 34) (v := (nI 256)) hx hb dJi_numberOfLeadingZeros_34 (by decide) ?_
    refine lv_icmp_lt (pc := 37) (tgt := 48) hx hb dJi_numberOfLeadingZeros_37 (by decide) (fun hc => ?_) (fun hc => ?_)
    · exact k3 u r h0 ((nI_ltI (by omega) (by decide)).mp hc) hr5 hb1 hb2 ls hl
    · have hge : 256 ≤ u := Nat.le_of_not_lt (fun h => hc ((nI_ltI (by omega) (by decide)).mpr h))
      have hbd := bt_div (n := u) (s := 8) hge
      have hf1 := (bt_le (Nat.ne_of_gt hbd.2)).2
      refine lv_iinc (pc := 40) (lv' := [(1, .int (nI (r - 8))), (0, .int (nI u))]) hx hb dJi_numberOfLeadingZeros_40 hl (k := 1) rfl ((by rw [show Int32.ofInt (-8) = -(nI 8) by decide, ← Int32.sub_eq_add_neg]; exact nI_subL (by omega))) (by decide) rfl (fun ls hl => ?_)
      refine lv_iload_n (pc := 43) hx hb dJi_numberOfLeadingZeros_43 rfl (lv_at hl 1 rfl) ?_
      refine lv_bipush (pc := 44) (v := (nI 8)) hx hb dJi_numberOfLeadingZeros_44 (by decide) ?_
      refine lv_iushr (pc := 46) (v := nI (u / 256)) hx hb dJi_numberOfLeadingZeros_46 (pk_ushrN (by omega) _ 8 (by decide)) ?_
      refine lv_istore_n (pc := 47) (lv' := [(0, .int (nI (u / 256))), (1, .int (nI (r - 8)))]) hx hb dJi_numberOfLeadingZeros_47 rfl hl (by decide) rfl (fun ls hl => ?_)
      exact k3 (u / 256) (r - 8) hbd.2 (by omega) (by omega) (by have := hbd.1; (show bl n + (r - 8) = bl (u / 2 ^ 8) + 31); omega) (by have := hbd.1; (show bl (u / 2 ^ 8) ≤ _); omega) ls (lv_sub hl [0, 1] rfl)
  have k1 : ∀ (u r : Nat), 0 < u → u < 2147483648 → r < 32 → bl n + r = bl u + 31 → bl u ≤ r + 1 → ∀ (ls : Array Slot), lv_has ls 2 [(0, .int (nI u)), (1, .int (nI r))] → W p l e ({ frames := 0, cells := 0, slots := 0, locals := 0 } : Room) s m args below meth c H [] 0 0 (MQ below (fw_RQ (fun v => v = some (.int (nI (32 - bl n))))) args s 0 0 (fun _ => False)) (F0 m 18 ls []) := by
    intro u r h0 hu hr5 hb1 hb2 ls hl
    refine lv_iload_n (pc := 18) hx hb dJi_numberOfLeadingZeros_18 rfl (lv_at hl 0 rfl) ?_
    refine lv_ldcw (pc := 19) (v := (nI 65536)) hx hb hown (hW _ ki_Ji_264) dJi_numberOfLeadingZeros_19 ?_
    refine lv_icmp_lt (pc := 22) (tgt := 33) hx hb dJi_numberOfLeadingZeros_22 (by decide) (fun hc => ?_) (fun hc => ?_)
    · exact k2 u r h0 ((nI_ltI (by omega) (by decide)).mp hc) hr5 hb1 hb2 ls hl
    · have hge : 65536 ≤ u := Nat.le_of_not_lt (fun h => hc ((nI_ltI (by omega) (by decide)).mpr h))
      have hbd := bt_div (n := u) (s := 16) hge
      have hf1 := (bt_le (Nat.ne_of_gt hbd.2)).2
      refine lv_iinc (pc := 25) (lv' := [(1, .int (nI (r - 16))), (0, .int (nI u))]) hx hb dJi_numberOfLeadingZeros_25 hl (k := 1) rfl ((by rw [show Int32.ofInt (-16) = -(nI 16) by decide, ← Int32.sub_eq_add_neg]; exact nI_subL (by omega))) (by decide) rfl (fun ls hl => ?_)
      refine lv_iload_n (pc := 28) hx hb dJi_numberOfLeadingZeros_28 rfl (lv_at hl 1 rfl) ?_
      refine lv_bipush (pc := 29) (v := (nI 16)) hx hb dJi_numberOfLeadingZeros_29 (by decide) ?_
      refine lv_iushr (pc := 31) (v := nI (u / 65536)) hx hb dJi_numberOfLeadingZeros_31 (pk_ushrN (by omega) _ 16 (by decide)) ?_
      refine lv_istore_n (pc := 32) (lv' := [(0, .int (nI (u / 65536))), (1, .int (nI (r - 16)))]) hx hb dJi_numberOfLeadingZeros_32 rfl hl (by decide) rfl (fun ls hl => ?_)
      exact k2 (u / 65536) (r - 16) hbd.2 (by omega) (by omega) (by have := hbd.1; (show bl n + (r - 16) = bl (u / 2 ^ 16) + 31); omega) (by have := hbd.1; (show bl (u / 2 ^ 16) ≤ _); omega) ls (lv_sub hl [0, 1] rfl)
  refine lv_iload_n (pc := 0) hx hb dJi_numberOfLeadingZeros_0 rfl (lv_at hl 0 rfl) ?_
  refine lv_if_gt (pc := 1) (tgt := 15) hx hb dJi_numberOfLeadingZeros_1 (by decide) (fun hc => ?_) (fun hc => ?_)
  · have hp := (nI_gt0 hn).mp hc
    refine lv_bipush (pc := 15) (v := (nI 31)) hx hb dJi_numberOfLeadingZeros_15 (by decide) ?_
    refine lv_istore_n (pc := 17) (lv' := [(1, .int (nI 31)), (0, .int (nI n))]) hx hb dJi_numberOfLeadingZeros_17 rfl hl (by decide) rfl (fun ls hl => ?_)
    have hb9 : bl n ≤ 31 := bt_ub hp.2
    exact k1 n 31 hp.1 hp.2 (by decide) rfl (by omega) ls (lv_sub hl [1, 0] rfl)
  · refine lv_iload_n (pc := 4) hx hb dJi_numberOfLeadingZeros_4 rfl (lv_at hl 0 rfl) ?_
    refine lv_if_ne (pc := 5) (tgt := 13) hx hb dJi_numberOfLeadingZeros_5 (by decide) (fun hd => ?_) (fun hd => ?_)
    · have h9 : 2 ^ 31 ≤ n := Nat.le_of_not_lt (fun h => hc ((nI_gt0 hn).mpr ⟨Nat.pos_of_ne_zero (fun h0 => hd ((nI_eq0 hn).mpr h0)), h⟩))
      have hb9 : bl n = 32 := bt_uniq (b := 31) h9 hn
      refine lv_iconst (pc := 13) (v := (nI 0)) hx hb dJi_numberOfLeadingZeros_13 (by decide) ?_
      exact fw_iretR (pc := 14) hx hb hr hlocks hH dJi_numberOfLeadingZeros_14 (by rw [hb9])
    · have h9 : n = 0 := (nI_eq0 hn).mp hd
      refine lv_bipush (pc := 8) (v := (nI 32)) hx hb dJi_numberOfLeadingZeros_8 (by decide) ?_
      refine lv_goto (pc := 10) (tgt := 14) hx hb dJi_numberOfLeadingZeros_10 (by decide) ?_
      exact fw_iretR (pc := 14) hx hb hr hlocks hH dJi_numberOfLeadingZeros_14 (by rw [h9]; rfl)

set_option maxHeartbeats 4000000 in
set_option maxRecDepth 100000 in
theorem c_Jl_nlz {n : Nat} (hn : n < 2 ^ 32) : fw_R l yJl_numberOfLeadingZeros (Cond.code yJl_numberOfLeadingZeros cJl_numberOfLeadingZeros 3 (some FieldType.int) :: kWs) ({ frames := 1, cells := 0, slots := 0, locals := 21 } : Room) D kCl (kty cI cL cQ) z [.long (lN n)] (sz) w (fun v => v = some (.int (nI (64 - bl n)))) := by
  refine fw_ofRF (cc := cJl_numberOfLeadingZeros) (maxL := 3) (ret := (some FieldType.int)) (by decide +kernel) rfl (Nat.le_of_ble_eq_true rfl) ?_
  intro p e s m args below meth c hx hb hr hts hown hlocks hml hK H ls hH hw hl
  have hW : ∀ w ∈ kWs, w.before args s = true := fun w h => hts w (List.mem_cons_of_mem _ h)
  have hown : s.vm.findClass RJl = some m.cls := hown
  have hl : lv_has ls 3 [(0, .long (lN n))] := hl
  refine lv_lload_n (pc := 0) hx hb dJl_numberOfLeadingZeros_0 rfl (lv_at hl 0 rfl) ?_
  refine lv_bipush (pc := 1) (v := (nI 32)) hx hb dJl_numberOfLeadingZeros_1 (by decide) ?_
  refine lv_lushr (pc := 3) (v := lN 0) hx hb dJl_numberOfLeadingZeros_3 (by rw [show (0 : Nat) = n / 2 ^ 32 from (Nat.div_eq_of_lt hn).symm]; exact wb_shr (k := 32) (by omega) (by decide)) ?_
  refine lv_l2i (pc := 4) (v := nI 0) hx hb dJl_numberOfLeadingZeros_4 (lN_i 0) ?_
  refine lv_istore_n (pc := 5) (lv' := [(2, .int (nI 0)), (0, .long (lN n))]) hx hb dJl_numberOfLeadingZeros_5 rfl hl (by decide) rfl (fun ls hl => ?_)
  refine lv_iload_n (pc := 6) hx hb dJl_numberOfLeadingZeros_6 rfl (lv_at hl 0 rfl) ?_
  refine lv_if_ne (pc := 7) (tgt := 21) hx hb dJl_numberOfLeadingZeros_7 (by decide) (fun hc => absurd hc (fun h => h rfl)) (fun _ => ?_)
  refine lv_bipush (pc := 10) (v := (nI 32)) hx hb dJl_numberOfLeadingZeros_10 (by decide) ?_
  refine lv_lload_n (pc := 12) hx hb dJl_numberOfLeadingZeros_12 rfl (lv_at hl 1 rfl) ?_
  refine lv_l2i (pc := 13) (v := nI n) hx hb dJl_numberOfLeadingZeros_13 (lN_i n) ?_
  refine fw_cSR (pc := 14) (As := [.int (nI n)]) (rest := [.int (nI 32)]) ⟨hx, hb, hml, hown, hW⟩ (c_Ji_nlz hn) (va_cwS 1 hW (kw_S lm_Jl_308 sta_Ji_numberOfLeadingZeros ini_Ji cd_Ji_numberOfLeadingZeros) rfl rfl rfl (by decide +kernel) ⟨Nat.le_of_ble_eq_true rfl, Nat.le_of_ble_eq_true rfl⟩) hK hw rfl hl.1 rfl (Nat.le_of_ble_eq_true rfl) dJl_numberOfLeadingZeros_14 ⟨Nat.le_of_ble_eq_true rfl, Nat.le_of_ble_eq_true rfl⟩ (fun v hq => ?_)
  subst hq
  refine W.eq (g2 := F0 m 17 ls [.int (nI (32 - bl n)), .int (nI 32)]) rfl ?_
  refine lv_iadd (pc := 17) hx hb dJl_numberOfLeadingZeros_17 ?_
  have hb9 := bt_ub hn
  rw [show (((nI 32) + nI (32 - bl n)) : Int32) = nI (64 - bl n) from (by rw [nI_add]; congr 1; omega)]
  refine lv_goto (pc := 18) (tgt := 25) hx hb dJl_numberOfLeadingZeros_18 (by decide) ?_
  exact fw_iretR (pc := 25) hx hb hr hlocks hH dJl_numberOfLeadingZeros_25 rfl

set_option maxHeartbeats 4000000 in
set_option maxRecDepth 100000 in
theorem c_Jl_compare {a b : Int64} : fw_R l yJl_compare (Cond.code yJl_compare cJl_compare 4 (some FieldType.int) :: kWs) ({ frames := 0, cells := 0, slots := 0, locals := 0 } : Room) D kCl (kty cI cL cQ) z [.long a, .long b] (sz) w (fun v => v = some (.int (if a < b then -1 else if a = b then nI 0 else nI 1))) := by
  refine fw_ofRF (cc := cJl_compare) (maxL := 4) (ret := (some FieldType.int)) (by decide +kernel) rfl (Nat.le_of_ble_eq_true rfl) ?_
  intro p e s m args below meth c hx hb hr hts hown hlocks hml hK H ls hH hw hl
  have hW : ∀ w ∈ kWs, w.before args s = true := fun w h => hts w (List.mem_cons_of_mem _ h)
  have hown : s.vm.findClass RJl = some m.cls := hown
  have hl : lv_has ls 4 [(0, .long a), (2, .long b)] := hl
  refine lv_lload_n (pc := 0) hx hb dJl_compare_0 rfl (lv_at hl 0 rfl) ?_
  refine lv_lload_n (pc := 1) hx hb dJl_compare_1 rfl (lv_at hl 1 rfl) ?_
  refine W.lcmp (pc := 2) hx hb dJl_compare_2 ?_
  refine lv_if_ge (pc := 3) (tgt := 10) hx hb dJl_compare_3 (by decide) (fun hc => ?_) (fun hc => ?_)
  · have h1 : ¬ a < b := fun h => absurd ((lg_cmp_ge _ _).mp hc) (Int64.not_le.mpr h)
    refine lv_lload_n (pc := 10) hx hb dJl_compare_10 rfl (lv_at hl 0 rfl) ?_
    refine lv_lload_n (pc := 11) hx hb dJl_compare_11 rfl (lv_at hl 1 rfl) ?_
    refine W.lcmp (pc := 12) hx hb dJl_compare_12 ?_
    refine lv_if_ne (pc := 13) (tgt := 20) hx hb dJl_compare_13 (by decide) (fun hd => ?_) (fun hd => ?_)
    · have h2 : ¬ a = b := fun h => hd ((lg_cmp_eq _ _).mpr h)
      refine lv_iconst (pc := 20) (v := (nI 1)) hx hb dJl_compare_20 (by decide) ?_
      exact fw_iretR (pc := 21) hx hb hr hlocks hH dJl_compare_21 (by rw [if_neg h1, if_neg h2])
    · have h2 : a = b := (lg_cmp_eq _ _).mp hd
      refine lv_iconst (pc := 16) (v := (nI 0)) hx hb dJl_compare_16 (by decide) ?_
      refine lv_goto (pc := 17) (tgt := 21) hx hb dJl_compare_17 (by decide) ?_
      exact fw_iretR (pc := 21) hx hb hr hlocks hH dJl_compare_21 (by rw [if_neg h1, if_pos h2])
  · have h1 : a < b := Int64.not_le.mp (fun h => hc ((lg_cmp_ge _ _).mpr h))
    refine lv_iconst (pc := 6) (v := (-1)) hx hb dJl_compare_6 (by decide) ?_
    refine lv_goto (pc := 7) (tgt := 21) hx hb dJl_compare_7 (by decide) ?_
    exact fw_iretR (pc := 21) hx hb hr hlocks hH dJl_compare_21 (by rw [if_pos h1])

set_option maxHeartbeats 4000000 in
set_option maxRecDepth 100000 in
theorem c_Jl_compareUnsigned {a b : Nat} (ha : a < 2 ^ 64) (hb2 : b < 2 ^ 64) : fw_R l yJl_compareUnsigned (Cond.code yJl_compareUnsigned cJl_compareUnsigned 4 (some FieldType.int) :: kWs) ({ frames := 1, cells := 0, slots := 0, locals := 23 } : Room) D kCl (kty cI cL cQ) z [.long (lN a), .long (lN b)] (sz) w (fun v => v = some (.int (ordI a b))) := by
  refine fw_ofRF (cc := cJl_compareUnsigned) (maxL := 4) (ret := (some FieldType.int)) (by decide +kernel) rfl (Nat.le_of_ble_eq_true rfl) ?_
  intro p e s m args below meth c hx hb hr hts hown hlocks hml hK H ls hH hw hl
  have hW : ∀ w ∈ kWs, w.before args s = true := fun w h => hts w (List.mem_cons_of_mem _ h)
  have hown : s.vm.findClass RJl = some m.cls := hown
  have hl : lv_has ls 4 [(0, .long (lN a)), (2, .long (lN b))] := hl
  refine lv_lload_n (pc := 0) hx hb dJl_compareUnsigned_0 rfl (lv_at hl 0 rfl) ?_
  refine lv_ldc2 (pc := 1) (v := (-9223372036854775808)) hx hb hown (hW _ kl_Jl_168) dJl_compareUnsigned_1 ?_
  rw [show ((-9223372036854775808) : Int64) = lN 9223372036854775808 from (by decide)]
  refine lv_ladd (pc := 4) hx hb dJl_compareUnsigned_4 ?_
  rw [show ((lN a + lN 9223372036854775808) : Int64) = lN (a + 9223372036854775808) from (lN_add _ _)]
  refine lv_lload_n (pc := 5) hx hb dJl_compareUnsigned_5 rfl (lv_at hl 1 rfl) ?_
  refine lv_ldc2 (pc := 6) (v := (-9223372036854775808)) hx hb hown (hW _ kl_Jl_168) dJl_compareUnsigned_6 ?_
  rw [show ((-9223372036854775808) : Int64) = lN 9223372036854775808 from (by decide)]
  refine lv_ladd (pc := 9) hx hb dJl_compareUnsigned_9 ?_
  rw [show ((lN b + lN 9223372036854775808) : Int64) = lN (b + 9223372036854775808) from (lN_add _ _)]
  refine fw_cSR (pc := 10) (As := [.long (lN (a + 9223372036854775808)), .long (lN (b + 9223372036854775808))]) (rest := []) ⟨hx, hb, hml, hown, hW⟩ c_Jl_compare (va_cwS 2 hW (kw_S lm_Jl_302 sta_Jl_compare ini_Jl cd_Jl_compare) rfl rfl rfl (by decide +kernel) ⟨Nat.le_of_ble_eq_true rfl, Nat.le_of_ble_eq_true rfl⟩) hK hw rfl hl.1 rfl (Nat.le_of_ble_eq_true rfl) dJl_compareUnsigned_10 ⟨Nat.le_of_ble_eq_true rfl, Nat.le_of_ble_eq_true rfl⟩ (fun v hq => ?_)
  subst hq
  rw [show (if lN (a + 9223372036854775808) < lN (b + 9223372036854775808) then (-1 : Int32) else if lN (a + 9223372036854775808) = lN (b + 9223372036854775808) then nI 0 else nI 1) = ordI a b by (unfold ordI; simp only [cu_lt ha hb2, cu_eq ha hb2])]
  refine W.eq (g2 := F0 m 13 ls [.int (ordI a b)]) rfl ?_
  exact fw_iretR (pc := 13) hx hb hr hlocks hH dJl_compareUnsigned_13 rfl

set_option maxHeartbeats 4000000 in
set_option maxRecDepth 100000 in
theorem c_Na_freeBits {n k : Nat} {g : Nat → Nat} (h : isN cL w n g k) (hk0 : 0 < k) (hk : k ≤ 50) (hgl : g (k - 1) < nB) : fw_R l yNa_freeBits (Cond.code yNa_freeBits cNa_freeBits 1 (some FieldType.int) :: kWs) ({ frames := 2, cells := 0, slots := 0, locals := 43 } : Room) D kCl (kty cI cL cQ) z [.ref n] (sz) w (fun v => v = some (.int (nI (32 - bl (g (k - 1)))))) := by
  refine fw_ofR (cc := cNa_freeBits) (maxL := 1) (ret := (some FieldType.int)) (by decide) rfl (Nat.le_of_ble_eq_true rfl) ?_
  intro p e s m args below meth c hx hb hr hts hown hlocks hml hK H ls hH hw hl
  have hW : ∀ w ∈ kWs, w.before args s = true := fun w h => hts w (List.mem_cons_of_mem _ h)
  have hown : s.vm.findClass RNa = some m.cls := hown
  have hl : lv_has ls 1 [(0, .ref n)] := hl
  obtain ⟨o0, o1⟩ := id h
  refine lv_aload_n (pc := 0) hx hb dNa_freeBits_0 rfl (lv_at hl 0 rfl) ?_
  refine fw_get (pc := 1) (ci := 5) (v := .int (nI k)) (C := RNa) (T := TNa) (N := 2) hx hb hW in_Na hown hK.1 hw o0 rfl 1 (by decide) (hW _ lf_Na_15) (fun _ h => h) rfl dNa_freeBits_1 ?_
  refine lv_if_ne (pc := 4) (tgt := 11) hx hb dNa_freeBits_4 (by decide) (fun _ => ?_) (fun hc => absurd hc (nI_ne0 hk0 (by omega)))
  refine lv_aload_n (pc := 11) hx hb dNa_freeBits_11 rfl (lv_at hl 0 rfl) ?_
  refine fw_get (pc := 12) (ci := 5) (v := .ref (n + 1)) (C := RNa) (T := TNa) (N := 2) hx hb hW in_Na hown hK.1 hw o0 rfl 0 (by decide) (hW _ lf_Na_9) (fun _ h => h) rfl dNa_freeBits_12 ?_
  refine lv_aload_n (pc := 15) hx hb dNa_freeBits_15 rfl (lv_at hl 0 rfl) ?_
  refine fw_get (pc := 16) (ci := 5) (v := .int (nI k)) (C := RNa) (T := TNa) (N := 2) hx hb hW in_Na hown hK.1 hw o0 rfl 1 (by decide) (hW _ lf_Na_15) (fun _ h => h) rfl dNa_freeBits_16 ?_
  refine lv_iconst (pc := 19) (v := (nI 1)) hx hb dNa_freeBits_19 (by decide) ?_
  refine lv_isub (pc := 20) hx hb dNa_freeBits_20 ?_
  rw [show ((nI k - (nI 1)) : Int32) = nI (k - 1) from (nI_subL (by omega))]
  refine fw_laldN (pc := 21) (x := lN (g (k - 1))) hx hb hK.1 hw 1 o1 rfl (k - 1) (by omega) (by decide) rfl dNa_freeBits_21 ?_
  refine fw_cSR (pc := 22) (As := [.long (lN (g (k - 1)))]) (rest := []) ⟨hx, hb, hml, hown, hW⟩ (c_Jl_nlz hgl) (va_cwS 1 hW (kw_S lm_Na_23 sta_Jl_numberOfLeadingZeros ini_Jl cd_Jl_numberOfLeadingZeros) rfl rfl rfl (by decide +kernel) ⟨Nat.le_of_ble_eq_true rfl, Nat.le_of_ble_eq_true rfl⟩) hK hw rfl hl.1 rfl (Nat.le_of_ble_eq_true rfl) dNa_freeBits_22 ⟨Nat.le_of_ble_eq_true rfl, Nat.le_of_ble_eq_true rfl⟩ (fun v hq => ?_)
  subst hq
  refine W.eq (g2 := F0 m 25 ls [.int (nI (64 - bl (g (k - 1))))]) rfl ?_
  refine lv_bipush (pc := 25) (v := (nI 32)) hx hb dNa_freeBits_25 (by decide) ?_
  refine lv_isub (pc := 27) hx hb dNa_freeBits_27 ?_
  have hb9 := bt_ub (k := 32) hgl
  rw [show ((nI (64 - bl (g (k - 1))) - (nI 32)) : Int32) = nI (32 - bl (g (k - 1))) from (by rw [nI_subL (by omega)]; congr 1; omega)]
  exact fw_iretR (pc := 28) hx hb hr hlocks hH dNa_freeBits_28 rfl

set_option maxHeartbeats 4000000 in
set_option maxRecDepth 100000 in
theorem c_Na_bits {n x : Nat} (hv : isV cL w n x) : fw_R l yNa_bits (Cond.code yNa_bits cNa_bits 1 (some FieldType.int) :: kWs) ({ frames := 3, cells := 0, slots := 0, locals := 63 } : Room) D kCl (kty cI cL cQ) z [.ref n] (sz) w (fun v => v = some (.int (nI (bl x)))) := by
  refine fw_ofR (cc := cNa_bits) (maxL := 1) (ret := (some FieldType.int)) (by decide) rfl (Nat.le_of_ble_eq_true rfl) ?_
  intro p e s m args below meth c hx hb hr hts hown hlocks hml hK H ls hH hw hl
  have hW : ∀ w ∈ kWs, w.before args s = true := fun w h => hts w (List.mem_cons_of_mem _ h)
  have hown : s.vm.findClass RNa = some m.cls := hown
  have hl : lv_has ls 1 [(0, .ref n)] := hl
  obtain ⟨g, k, ⟨o0, o1⟩, ok, og, on, ov⟩ := id hv
  refine lv_aload_n (pc := 0) hx hb dNa_bits_0 rfl (lv_at hl 0 rfl) ?_
  refine fw_get (pc := 1) (ci := 5) (v := .int (nI k)) (C := RNa) (T := TNa) (N := 2) hx hb hW in_Na hown hK.1 hw o0 rfl 1 (by decide) (hW _ lf_Na_15) (fun _ h => h) rfl dNa_bits_1 ?_
  refine lv_if_ne (pc := 4) (tgt := 9) hx hb dNa_bits_4 (by decide) (fun hc => ?_) (fun hc => ?_)
  · have h0 : 0 < k := Nat.pos_of_ne_zero fun h9 => hc (by rw [h9]; rfl)
    refine lv_bipush (pc := 9) (v := (nI 32)) hx hb dNa_bits_9 (by decide) ?_
    refine lv_aload_n (pc := 11) hx hb dNa_bits_11 rfl (lv_at hl 0 rfl) ?_
    refine fw_get (pc := 12) (ci := 5) (v := .int (nI k)) (C := RNa) (T := TNa) (N := 2) hx hb hW in_Na hown hK.1 hw o0 rfl 1 (by decide) (hW _ lf_Na_15) (fun _ h => h) rfl dNa_bits_12 ?_
    refine lv_imul (pc := 15) hx hb dNa_bits_15 ?_
    rw [show (((nI 32) * nI k) : Int32) = nI (32 * k) from (nI_mul 32 k)]
    refine lv_aload_n (pc := 16) hx hb dNa_bits_16 rfl (lv_at hl 0 rfl) ?_
    refine fw_cVR (pc := 17) (As := []) (rest := [.int (nI (32 * k))]) ⟨hx, hb, hml, hown, hW⟩ (c_Na_freeBits ⟨o0, o1⟩ h0 ok (on.1 _ (by omega))) (cwV 0 hW (kw_V lm_Na_19 im_Na_freeBits se_Na_freeBits ini_Na cd_Na_freeBits) rfl rfl rfl (by decide +kernel) ⟨Nat.le_of_ble_eq_true rfl, Nat.le_of_ble_eq_true rfl⟩) hK hw o0 rfl rfl hl.1 rfl (Nat.le_of_ble_eq_true rfl) dNa_bits_17 ⟨Nat.le_of_ble_eq_true rfl, Nat.le_of_ble_eq_true rfl⟩ (fun v hq => ?_)
    subst hq
    refine W.eq (g2 := F0 m 20 ls [.int (nI (32 - bl (g (k - 1)))), .int (nI (32 * k))]) rfl ?_
    have hbt : bl x = bl (g (k - 1)) + 32 * (k - 1) := by
      rw [← ov, show k = k - 1 + 1 by omega, nv_s, Nat.add_sub_cancel, Nat.add_comm, show nB ^ (k - 1) = 2 ^ (32 * (k - 1)) by rw [Nat.pow_mul]]
      exact bt_top (by rw [Nat.pow_mul]; exact nv_lt (fun i hi => on.1 i (by omega))) (Nat.pos_of_ne_zero (on.2 h0))
    have hb9 := bt_ub (k := 32) (on.1 (k - 1) (by omega))
    refine lv_isub (pc := 20) hx hb dNa_bits_20 ?_
    rw [show ((nI (32 * k) - nI (32 - bl (g (k - 1)))) : Int32) = nI (bl x) from (by rw [nI_subL (by omega)]; congr 1; omega)]
    exact fw_iretR (pc := 21) hx hb hr hlocks hH dNa_bits_21 rfl
  · have h0 : k = 0 := Classical.byContradiction fun h9 => nI_ne0 (by omega) (by omega) hc
    refine lv_iconst (pc := 7) (v := (nI 0)) hx hb dNa_bits_7 (by decide) ?_
    exact fw_iretR (pc := 8) hx hb hr hlocks hH dNa_bits_8 (by rw [(nk_zero on ov).mp h0]; rfl)
end JD1
