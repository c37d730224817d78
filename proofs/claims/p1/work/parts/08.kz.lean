/-! What is given of the start and stays: the static tables, links between nest mates, the strings, the exceptions' words. -/
def kOp (i : Nat) : Nat := ([0, 0, 2, 2, 2, 2, 2, 2, 0, 0, 0, 2, 1, 3, 1] : List Nat).getD i 0
def kBi (i : Nat) : Nat := ([0, 0, 1, 1, 2, 2, 2, 4, 0, 0, 0, 0, 0, 0, 3] : List Nat).getD i 0
def kCm (i : Nat) : Nat := ([0, 0, 0, 0, 0, 0, 0, 0, 0, 0, 0, 1, 0, 2, 0] : List Nat).getD i 0
theorem kNc_move {C T : String} {u U : State} (hW : u.WarmedH U.vm) (h : va_Nc C T u) : va_Nc C T U := by
  obtain ⟨c, t, h1, h2, h3⟩ := h
  exact ⟨c, t, by rw [hW.alike.findClass]; exact h1, by rw [hW.alike.findClass]; exact h2, by rw [hW.alike.assignable]; exact h3⟩
/-- a static table of 15 ints -/
def kTb (n : String) (t : Nat) (f : Nat → Nat) (A : Nat → Prop) (U : State) (H : Heap) : Prop := va_Z "BigCalculator" n "[I" (.ref t) A U H ∧ va_T .int t 15 (fun j => .int (nI (f j))) A U H
theorem kTb.move {n : String} {t : Nat} {f : Nat → Nat} {A B : Nat → Prop} {U V : State} {H H1 : Heap} (hAB : ∀ q, B q → A q) (hk : ∀ a : Nat, a < H.size → ¬ A a → H1[a]? = H[a]?) (hW : U.WarmedH V.vm) (h : kTb n t f A U H) : kTb n t f B V H1 :=
  ⟨((h.1.kept hk).moved hW.alike).narrow hAB, ((h.2.kept hk).moved hW.alike).narrow hAB⟩
def kSr (sa : Nat → Nat) (U : State) : Prop := vk_R "BigCalculator" 43 "no such token" (sa 0) U ∧ vk_R "BigCalculator" 95 "not 0 .. 10000 instructions" (sa 1) U ∧ vk_R "BigCalculator" 110 "not limb 0 .. 23" (sa 2) U ∧ vk_R "BigCalculator" 119 "a digit below 0" (sa 3) U ∧ vk_R "BigCalculator" 153 "not variable 0 .. 7" (sa 4) U ∧ vk_R "BigCalculator" 160 "no result" (sa 5) U ∧ vk_R "BigCalculator" 163 "no code" (sa 6) U
theorem kSr.move {sa : Nat → Nat} {U V : State} (hW : U.WarmedH V.vm) (h : kSr sa U) : kSr sa V := ⟨h.1.warm hW, h.2.1.warm hW, h.2.2.1.warm hW, h.2.2.2.1.warm hW, h.2.2.2.2.1.warm hW, h.2.2.2.2.2.1.warm hW, h.2.2.2.2.2.2.warm hW⟩
def kNs (U : State) : Prop := va_Nw (.fieldLinkNest "BigCalculator$Translator" 76 "BigCalculator" "COMMAS" "[I" "BigCalculator") U ∧ va_Nw (.fieldLinkNest "BigCalculator$Translator" 66 "BigCalculator" "BINDING" "[I" "BigCalculator") U ∧ va_Nw (.fieldLinkNest "BigCalculator$Code" 22 "BigCalculator" "OPERANDS" "[I" "BigCalculator") U ∧ va_Nw (.fieldLinkNest "BigCalculator$Machine" 50 "BigCalculator" "OPERANDS" "[I" "BigCalculator") U
def kNo (U : State) : Prop := va_Nc kIS kIA U ∧ va_Nc kIA kIS U ∧ va_Nc kIO kIS U
/-- all of it -/
def kz (tO tB tC : Nat) (sa : Nat → Nat) : kZ_T := fun A U H => kTb "OPERANDS" tO kOp A U H ∧ kTb "BINDING" tB kBi A U H ∧ kTb "COMMAS" tC kCm A U H ∧ kNs U ∧ va_AO "BigCalculator$Whole" U ∧ kT A U H ∧ kSr sa U ∧ kNo U
theorem kz_ok (tO tB tC : Nat) (sa : Nat → Nat) : kZs (kz tO tB tC sa) := by
  intro A B U V H H1 hAB hk hW h
  obtain ⟨h1, h2, h3, h4, h5, h6, h7, h8⟩ := h
  exact ⟨h1.move hAB hk hW, h2.move hAB hk hW, h3.move hAB hk hW, ⟨h4.1.warmF hW, h4.2.1.warmF hW, h4.2.2.1.warmF hW, h4.2.2.2.warmF hW⟩, va_AO.moved hW.alike h5, h6.move hAB hk hW, h7.move hW, ⟨kNc_move hW h8.1, kNc_move hW h8.2.1, kNc_move hW h8.2.2⟩⟩
theorem kz_AO {tO tB tC : Nat} {sa : Nat → Nat} : ∀ A U H, kz tO tB tC sa A U H → va_AO "BigCalculator$Whole" U := fun _ _ _ h => h.2.2.2.2.1
theorem kz_T {tO tB tC : Nat} {sa : Nat → Nat} {A : Nat → Prop} {U : State} {H : Heap} (h : kz tO tB tC sa A U H) : kT A U H := h.2.2.2.2.2.1
theorem kz_S {tO tB tC : Nat} {sa : Nat → Nat} {A : Nat → Prop} {U : State} {H : Heap} (h : kz tO tB tC sa A U H) : kSr sa U := h.2.2.2.2.2.2.1
theorem kz_N {tO tB tC : Nat} {sa : Nat → Nat} {A : Nat → Prop} {U : State} {H : Heap} (h : kz tO tB tC sa A U H) : kNo U := h.2.2.2.2.2.2.2
/-! the words of the throws of BigCalculator -/
theorem kfIA : Bundle.fit kIA = true := by decide
theorem kfIS : Bundle.fit kIS = true := by decide
theorem kfIO : Bundle.fit kIO = true := by decide
theorem kaIA : ∀ w ∈ Bundle.ownAtoms RBc 45 kIA kNm, w ∈ kWs ∨ w ∈ kTw ∨ w ∈ kT4 := by decide +kernel
theorem kaIS : ∀ w ∈ Bundle.ownAtoms RBc 162 kIS kNm, w ∈ kWs ∨ w ∈ kTw ∨ w ∈ kT4 := by decide +kernel
theorem kaIO : ∀ w ∈ Bundle.ownAtoms RBc 112 kIO kNm, w ∈ kWs ∨ w ∈ kTw ∨ w ∈ kT4 := by decide +kernel
theorem klIA : Cond.classLink RBc 41 kIA ∈ kWs := lc_Bc_41
theorem klIS : Cond.classLink RBc 158 kIS ∈ kWs := lc_Bc_158
theorem klIO : Cond.classLink RBc 108 kIO ∈ kWs := lc_Bc_108
theorem kiIA : Cond.initialized kIA ∈ kWs := by decide +kernel
theorem kiIS : Cond.initialized kIS ∈ kWs := by decide +kernel
theorem kiIO : Cond.initialized kIO ∈ kWs := by decide +kernel
