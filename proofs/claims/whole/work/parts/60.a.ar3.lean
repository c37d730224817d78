theorem gc_step {G L t P : Nat} (hL : 0 < L) (h : (t = 0 ∧ G * L ≤ P) ∨ (0 < t ∧ L < G ∧ G * L * 2 ^ (t - 1) ≤ P)) : G % L < L ∧ L * (G % L) * 2 ^ t ≤ P := by
  refine ⟨Nat.mod_lt _ hL, ?_⟩
  rcases h with ⟨rfl, h⟩ | ⟨h0, h1, h2⟩
  · rw [Nat.pow_zero, Nat.mul_one]
    have : L * (G % L) ≤ L * G := Nat.mul_le_mul_left _ (Nat.mod_le _ _)
    rw [Nat.mul_comm L G] at this; omega
  · have h3 := eu_half hL (Nat.le_of_lt h1)
    obtain ⟨s, rfl⟩ : ∃ s, t = s + 1 := ⟨t - 1, by omega⟩
    rw [Nat.add_sub_cancel] at h2
    have h4 : L * (G % L) * 2 ^ (s + 1) = L * (2 * (G % L)) * 2 ^ s := by rw [Nat.pow_succ]; grind
    have h5 : L * (2 * (G % L)) * 2 ^ s ≤ L * G * 2 ^ s := Nat.mul_le_mul_right _ (Nat.mul_le_mul_left _ (by omega))
    rw [h4]; rw [Nat.mul_comm G L] at h2; omega
theorem gc_end {G L P : Nat} (hP : P < 2 ^ 1536) (h : L < G ∧ G * L * 2 ^ 1999 ≤ P) : L = 0 := by
  apply Classical.byContradiction; intro h0
  have h1 : 1 * 2 ^ 1999 ≤ G * L * 2 ^ 1999 := Nat.mul_le_mul_right _ (Nat.mul_pos (by omega) (by omega))
  have h2 : 2 ^ 1536 < 2 ^ 1999 := Nat.pow_lt_pow_right (by decide) (by decide)
  omega
theorem gc_rec (G L : Nat) : Nat.gcd L (G % L) = Nat.gcd G L := by rw [Nat.gcd_comm G L, Nat.gcd_rec L G, Nat.gcd_comm]
/-- the whole root -/
def isq : Nat → Nat
  | 0 => 0
  | n + 1 => if (isq n + 1) * (isq n + 1) ≤ n + 1 then isq n + 1 else isq n
theorem isq_ok (n : Nat) : isq n * isq n ≤ n ∧ n < (isq n + 1) * (isq n + 1) := by
  induction n with
  | zero => exact ⟨by decide, by decide⟩
  | succ n ih =>
    unfold isq
    split
    · next h =>
      refine ⟨h, ?_⟩
      have : (isq n + 1 + 1) * (isq n + 1 + 1) = (isq n + 1) * (isq n + 1) + 2 * (isq n + 1) + 1 := by grind
      omega
    · next h => exact ⟨by omega, by omega⟩
theorem isq_pos {n : Nat} (h : 0 < n) : 0 < isq n := by
  have h2 := (isq_ok n).2
  apply Nat.pos_of_ne_zero; intro h0
  rw [h0] at h2; omega
theorem isq_start {x b : Nat} (h : x < 2 ^ b) : isq x < 2 ^ ((b + 1) / 2) := by
  apply Nat.lt_of_not_le; intro h2
  have h3 := Nat.mul_self_le_mul_self h2
  have h4 := (isq_ok x).1
  rw [← Nat.pow_add] at h3
  have h5 : 2 ^ b ≤ 2 ^ ((b + 1) / 2 + (b + 1) / 2) := Nat.pow_le_pow_right (by decide) (by omega)
  omega
theorem isq_step {x o t : Nat} (ho : isq x ≤ o) (hl : (o - isq x) * 2 ^ t < 2 ^ 400) (hb : (o + x / o) / 2 < o) : isq x ≤ (o + x / o) / 2 ∧ ((o + x / o) / 2 - isq x) * 2 ^ (t + 1) < 2 ^ 400 := by
  have h1 := isq_ok x
  have h2 : isq x < o := by
    apply Nat.lt_of_le_of_ne ho; intro h
    rw [← h] at hb
    by_cases h0 : isq x = 0
    · rw [h0] at hb; exact absurd hb (Nat.not_lt_zero _)
    · have h3 : isq x ≤ x / isq x := (Nat.le_div_iff_mul_le (by omega)).mpr h1.1
      omega
  have h4 := rt_step h1.1 h1.2 h2
  refine ⟨h4.1, ?_⟩
  have h5 : 2 * ((o + x / o) / 2 - isq x) ≤ o - isq x := by omega
  have h6 : 2 * ((o + x / o) / 2 - isq x) * 2 ^ t ≤ (o - isq x) * 2 ^ t := Nat.mul_le_mul_right _ h5
  have h7 : ((o + x / o) / 2 - isq x) * 2 ^ (t + 1) = 2 * ((o + x / o) / 2 - isq x) * 2 ^ t := by rw [Nat.pow_succ]; grind
  omega
theorem isq_done {x o : Nat} (ho : isq x ≤ o) (hb : o ≤ (o + x / o) / 2) : o = isq x := by
  have h1 := isq_ok x
  apply Nat.le_antisymm _ ho
  apply Nat.le_of_not_lt; intro h2
  have h4 := rt_step h1.1 h1.2 h2
  omega
theorem isq_late {x o : Nat} (ho : isq x ≤ o) (hl : (o - isq x) * 2 ^ 1000 < 2 ^ 400) : o = isq x := by
  apply Classical.byContradiction; intro h
  have h1 : 1 * 2 ^ 1000 ≤ (o - isq x) * 2 ^ 1000 := Nat.mul_le_mul_right _ (by omega)
  have h2 : 2 ^ 400 < 2 ^ 1000 := Nat.pow_lt_pow_right (by decide) (by decide)
  omega
/-- powers -/
theorem pw_big {x n m L : Nat} (hL : 1 < L) (h : L ≤ x ^ n) (hnm : n ≤ m) : L ≤ x ^ m := by
  have h2 : 2 ≤ x := by
    apply Classical.byContradiction; intro h3
    have h4 : x ^ n ≤ 1 ^ n := Nat.pow_le_pow_left (by omega) n
    rw [Nat.one_pow] at h4; omega
  exact Nat.le_trans h (Nat.pow_le_pow_right (by omega) hnm)
theorem pw_bit (y i : Nat) : y / 2 ^ i = 2 * (y / 2 ^ (i + 1)) + y / 2 ^ i % 2 := by
  have : y / 2 ^ (i + 1) = y / 2 ^ i / 2 := by rw [Nat.pow_succ, Nat.div_div_eq_div_mul]
  omega
theorem pw_one {x y i : Nat} (h : y / 2 ^ i % 2 = 1) : x ^ (y / 2 ^ (i + 1)) * x ^ (y / 2 ^ (i + 1)) * x = x ^ (y / 2 ^ i) := by
  have h1 := pw_bit y i
  generalize y / 2 ^ (i + 1) = q at *
  rw [h1, h, Nat.two_mul, Nat.pow_succ x, Nat.pow_add]
theorem pw_zero {x y i : Nat} (h : y / 2 ^ i % 2 = 0) : x ^ (y / 2 ^ (i + 1)) * x ^ (y / 2 ^ (i + 1)) = x ^ (y / 2 ^ i) := by
  have h1 := pw_bit y i
  generalize y / 2 ^ (i + 1) = q at *
  rw [h1, h, Nat.add_zero, Nat.two_mul, Nat.pow_add]
theorem pw_le (y i : Nat) : 2 * (y / 2 ^ (i + 1)) ≤ y ∧ y / 2 ^ i ≤ y := by
  refine ⟨?_, Nat.div_le_self _ _⟩
  have h1 := pw_bit y i
  have h2 := Nat.div_le_self y (2 ^ i)
  omega
theorem nv_limb {b : Nat} {g : Nat → Nat} {k m : Nat} (hb : 0 < b) (hg : ∀ i, i < k → g i < b) : nl g k m = nv b g k / b ^ m % b := by
  by_cases h : m < k
  · obtain ⟨n, rfl⟩ : ∃ n, k = m + (n + 1) := ⟨k - m - 1, by omega⟩
    rw [nl_in h, nw_split, Nat.add_comm, Nat.mul_comm, Nat.mul_add_div (Nat.pow_pos hb), Nat.div_eq_of_lt (nv_lt (fun i hi => hg i (by omega))), Nat.add_zero, nw_h, Nat.add_mul_mod_self_right, Nat.mod_eq_of_lt (hg m h)]
  · rw [nl_out (by omega)]
    have h1 : b ^ k ≤ b ^ m := Nat.pow_le_pow_right hb (by omega)
    rw [Nat.div_eq_of_lt (Nat.lt_of_lt_of_le (nv_lt hg) h1), Nat.zero_mod]
theorem bit_mod {A r s : Nat} (hr : r < s) : A % 2 ^ s / 2 ^ r % 2 = A / 2 ^ r % 2 := by
  have h1 : 2 ^ s = 2 ^ r * 2 ^ (s - r) := by rw [← Nat.pow_add, show r + (s - r) = s by omega]
  rw [h1, Nat.mod_mul_right_div_self]
  apply Nat.mod_mod_of_dvd
  exact ⟨2 ^ (s - r - 1), by rw [← Nat.pow_succ']; congr 1; omega⟩
theorem nv_bit {b : Nat} {g : Nat → Nat} {k i : Nat} (hb : b = 2 ^ 32) (hg : ∀ i, i < k → g i < b) : nl g k (i / 32) / 2 ^ (i % 32) % 2 = nv b g k / 2 ^ i % 2 := by
  rw [nv_limb (b := b) (by rw [hb]; decide) hg, hb, bit_mod (Nat.mod_lt _ (by decide)), ← Nat.pow_mul, Nat.div_div_eq_div_mul, ← Nat.pow_add, Nat.div_add_mod]
theorem md_sq {B q u : Nat} : (B ^ q % u) * (B ^ q % u) % u = B ^ (2 * q) % u := by rw [← Nat.mul_mod, ← Nat.pow_add, Nat.two_mul]
theorem md_mul {B q u : Nat} : (B ^ q % u) * B % u = B ^ (q + 1) % u := by rw [Nat.pow_succ, Nat.mod_mul_mod]
theorem wv_pow (sg x y : Nat) (hs : sg < 2) : (wv sg x) ^ y = wv (if sg = 1 ∧ y % 2 = 1 then 1 else 0) (x ^ y) := by
  rcases (show sg = 0 ∨ sg = 1 by omega) with rfl | rfl
  · rw [if_neg (fun h => absurd h.1 (by decide)), wv_0, wv_0, Int.natCast_pow]
  · induction y with
    | zero => rw [if_neg (fun h => absurd h.2 (by decide)), wv_0, Nat.pow_zero, Int.pow_zero]; rfl
    | succ y ih =>
      rw [Int.pow_succ, ih]
      rcases (show y % 2 = 0 ∨ y % 2 = 1 by omega) with h | h
      · rw [if_neg (fun h2 => by omega), if_pos ⟨rfl, by omega⟩, wv_0, wv_1, wv_1, Nat.pow_succ, Int.natCast_mul, Int.mul_neg]
      · rw [if_pos ⟨rfl, h⟩, if_neg (fun h2 => by omega), wv_0, wv_1, wv_1, Nat.pow_succ, Int.natCast_mul, Int.neg_mul_neg]
def sPow (a b : Int) : Nat × Int := if b < 0 then (3, a) else sFit (a ^ b.natAbs) a
def sGcd (a b : Int) : Nat × Int := (0, (Nat.gcd a.natAbs b.natAbs : Int))
def sRoot (a : Int) : Nat × Int := if a < 0 then (4, a) else (0, (isq a.natAbs : Int))
def sMod (a b m : Int) : Nat × Int := if m = 0 then (2, a) else if b < 0 then (3, a) else if m < 0 then (5, a) else (0, ((rmg a m ^ b.natAbs % m.natAbs : Nat) : Int))
/-! BigCalculator.Arithmetic, third part. Written by wip/gen/arith3.py. -/
section AR3a
variable {l : Launch} {D : va_G} {cI cL cQ : ClassId} {z : kZ_T} {sz : Nat} {w : fw_W}
set_option maxHeartbeats 4000000 in
set_option maxRecDepth 100000 in
theorem c_Ar_gcd {ar qa qb : Nat} {a b : Int} (hA : arS cL w ar) (ha : isI cL w qa a) (hb2 : isI cL w qb b) (hpa : qa + 2 < ar ∨ ar + 15 < qa) (hpb : qb + 2 < ar ∨ ar + 15 < qb) (hab : qa + 2 < qb ∨ qb + 2 < qa) (ha7 : a.natAbs < 2 ^ 768) (hb7 : b.natAbs < 2 ^ 768) : fw_C l yAr_gcd (Cond.code yAr_gcd cAr_gcd 7 (some FieldType.int) :: kWs) ({ frames := 4, cells := 0, slots := 0, locals := 107 } : Room) D kCl (kty cI cL cQ) z [.ref ar, .ref qa, .ref qb] (sz) w 0 0 (fun v w' => v = some (.int (nI (sGcd a b).1)) ∧ isI cL w' qa (sGcd a b).2 ∧ arS cL w' ar ∧ ∀ q, q < ar ∨ ar + 16 ≤ q → q < qa ∨ qa + 3 ≤ q → w' q = w q) := by
  refine fw_ofW (cc := cAr_gcd) (maxL := 7) (ret := (some FieldType.int)) (by decide) rfl (Nat.le_of_ble_eq_true rfl) ?_
  intro p e s m args below meth c hx hb hr hts hown hlocks hname hml hK H ls hw hl
  have hW : ∀ w ∈ kWs, w.before args s = true := fun w h => hts w (List.mem_cons_of_mem _ h)
  have hown : s.vm.findClass RAr = some m.cls := hown
  have hl : lv_has ls 7 [(0, .ref ar), (1, .ref qa), (2, .ref qb)] := hl
  obtain ⟨A0, A1, ⟨e_q, Aq⟩, ⟨er, Ar9⟩, ⟨ed, Ad⟩, Ao, ⟨eo, Au⟩, ⟨ep, Ap⟩, ⟨eb, Ab⟩⟩ := id hA
  obtain ⟨sg, x, as, ap, ah, av, ae⟩ := id ha
  have hx7 : x < 2 ^ 768 := by rw [← wv_abs sg x, ae]; exact ha7
  obtain ⟨sg2, y, bs, bp, bh, bv, be⟩ := id hb2
  have hy7 : y < 2 ^ 768 := by rw [← wv_abs sg2 y, be]; exact hb7
  have p49 : 2 ^ 768 < nB ^ 49 := by decide +kernel
  have hna : a.natAbs = x := by rw [← ae, wv_abs]
  have hnb : b.natAbs = y := by rw [← be, wv_abs]
  have hP : x * y < 2 ^ 1536 := Nat.lt_of_le_of_lt (Nat.mul_le_mul (Nat.le_sub_one_of_lt hx7) (Nat.le_sub_one_of_lt hy7)) (by decide +kernel)
  have loop : ∀ (e0 t : Nat), t + e0 = 2000 → ∀ (ga la G L : Nat), (ga = ar + 10 ∧ la = ar + 14) ∨ (ga = ar + 14 ∧ la = ar + 10) → (t = 0 ∧ G * L ≤ x * y) ∨ (0 < t ∧ L < G ∧ G * L * 2 ^ (t - 1) ≤ x * y) → Nat.gcd G L = Nat.gcd x y → G < 2 ^ 768 → L < 2 ^ 768 → ∀ (w1 : fw_W) (H : Heap) (locs : List Loc) (ls : Array Slot), fw_H D kCl (fw_A w (sz)) s.heap w1 (sz) H locs → lv_has ls 7 [(5, .int (nI t)), (3, .ref ga), (4, .ref la), (0, .ref ar), (1, .ref qa), (2, .ref qb)] → arS cL w1 ar → isV cL w1 ga G → isV cL w1 la L → (∀ q, q < ar ∨ ar + 16 ≤ q → w1 q = w q) → W p l e ({ frames := 4, cells := 0, slots := 0, locals := 107 } : Room) s m args below meth c H locs 0 0 (MQ below (fw_Q D kCl w (sz) 0 (fun v w' => v = some (.int (nI (sGcd a b).1)) ∧ isI cL w' qa (sGcd a b).2 ∧ arS cL w' ar ∧ ∀ q, q < ar ∨ ar + 16 ≤ q → q < qa ∨ qa + 3 ≤ q → w' q = w q)) args s 0 0 (fw_A w (sz))) (F0 m 31 ls []) := by
    intro e0
    induction e0 with
    | zero =>
      intro t hte ga la G L hgl hinv hgc hG7 hL7 w1 H locs ls hw hl hA1 hG hL hF
      have hL0 : L = 0 := by
        rcases hinv with h9 | h9
        · omega
        · obtain ⟨h1, h2, h3⟩ := h9
          rw [show t = 2000 by omega] at h3
          exact gc_end hP ⟨h2, h3⟩
      rcases hgl with ⟨rfl, rfl⟩ | ⟨rfl, rfl⟩
      · obtain ⟨A0, A1, ⟨e_q, Aq⟩, ⟨er, Ar9⟩, ⟨ed, Ad⟩, Ao, ⟨eo, Au⟩, ⟨ep, Ap⟩, ⟨eb, Ab⟩⟩ := id hA1
        have Au := hG
        have Ab := hL
        refine lv_iload (pc := 31) hx hb dAr_gcd_31 (lv_at hl 0 rfl) ?_
        refine lv_sipush (pc := 33) (v := (nI 2000)) hx hb dAr_gcd_33 (by decide) ?_
        refine lv_icmp_ge (pc := 36) (tgt := 84) hx hb dAr_gcd_36 (by decide) (fun _ => ?_) (fun hc => absurd (nI_le (show 2000 ≤ t by omega) (by omega)) hc)
        refine lv_aload_n (pc := 84) hx hb dAr_gcd_84 rfl (lv_at hl 1 rfl) ?_
        refine lv_iconst (pc := 85) (v := (nI 0)) hx hb dAr_gcd_85 (by decide) ?_
        refine lv_aload_n (pc := 86) hx hb dAr_gcd_86 rfl (lv_at hl 4 rfl) ?_
        have haI := ha.kept (w' := w1) (fun q h1 h2 => by rw [hF q (by omega)])
        have hAI : arS cL w1 ar := ⟨A0, A1, ⟨_, Aq⟩, ⟨_, Ar9⟩, ⟨_, Ad⟩, Ao, ⟨_, Au⟩, ⟨_, Ap⟩, ⟨_, Ab⟩⟩
        refine fw_cS (pc := 87) (As := [.ref (ar + 10), .int (nI 0), .ref qa]) (rest := []) ⟨hx, hb, hml, hown, hW⟩ (c_Ar_store (neg := 0) (by decide) Au haI (by omega)) (va_cwS 3 hW (kw_S lm_Ar_62 sta_Ar_store ini_Ar cd_Ar_store) rfl rfl rfl (by decide +kernel) ⟨Nat.le_of_ble_eq_true rfl, Nat.le_of_ble_eq_true rfl⟩) hK hw rfl hl.1 rfl (Nat.le_of_ble_eq_true rfl) dAr_gcd_87 ⟨Nat.le_of_ble_eq_true rfl, Nat.le_of_ble_eq_true rfl⟩ (fun v w2 H locs hq hw => ?_)
        obtain ⟨rfl, hI, fs9⟩ := hq
        refine W.eq (g2 := F0 m 90 ls [.int (nI (if G < 2 ^ 768 then 0 else 6))]) rfl ?_
        have hA9 := hAI.kept (fun q h1 h2 => fs9 q (by omega))
        have hF9 : ∀ q, q < ar ∨ ar + 16 ≤ q → q < qa ∨ qa + 3 ≤ q → w2 q = w q := fun q h1 h2 => by rw [fs9 q (by omega), hF q (by omega)]
        have hG9 : G = Nat.gcd x y := by rw [← hgc, hL0, Nat.gcd_zero_right]
        rw [if_pos hG7] at hI
        exact fw_iret (pc := 90) hx hb hr hlocks hw dAr_gcd_90 ⟨by rw [if_pos hG7]; rfl, by (show isI cL _ qa ((Nat.gcd a.natAbs b.natAbs : Nat) : Int)); rw [hna, hnb, ← hG9]; exact hI, hA9, hF9⟩
      · obtain ⟨A0, A1, ⟨e_q, Aq⟩, ⟨er, Ar9⟩, ⟨ed, Ad⟩, Ao, ⟨eo, Au⟩, ⟨ep, Ap⟩, ⟨eb, Ab⟩⟩ := id hA1
        have Ab := hG
        have Au := hL
        refine lv_iload (pc := 31) hx hb dAr_gcd_31 (lv_at hl 0 rfl) ?_
        refine lv_sipush (pc := 33) (v := (nI 2000)) hx hb dAr_gcd_33 (by decide) ?_
        refine lv_icmp_ge (pc := 36) (tgt := 84) hx hb dAr_gcd_36 (by decide) (fun _ => ?_) (fun hc => absurd (nI_le (show 2000 ≤ t by omega) (by omega)) hc)
        refine lv_aload_n (pc := 84) hx hb dAr_gcd_84 rfl (lv_at hl 1 rfl) ?_
        refine lv_iconst (pc := 85) (v := (nI 0)) hx hb dAr_gcd_85 (by decide) ?_
        refine lv_aload_n (pc := 86) hx hb dAr_gcd_86 rfl (lv_at hl 4 rfl) ?_
        have haI := ha.kept (w' := w1) (fun q h1 h2 => by rw [hF q (by omega)])
        have hAI : arS cL w1 ar := ⟨A0, A1, ⟨_, Aq⟩, ⟨_, Ar9⟩, ⟨_, Ad⟩, Ao, ⟨_, Au⟩, ⟨_, Ap⟩, ⟨_, Ab⟩⟩
        refine fw_cS (pc := 87) (As := [.ref (ar + 14), .int (nI 0), .ref qa]) (rest := []) ⟨hx, hb, hml, hown, hW⟩ (c_Ar_store (neg := 0) (by decide) Ab haI (by omega)) (va_cwS 3 hW (kw_S lm_Ar_62 sta_Ar_store ini_Ar cd_Ar_store) rfl rfl rfl (by decide +kernel) ⟨Nat.le_of_ble_eq_true rfl, Nat.le_of_ble_eq_true rfl⟩) hK hw rfl hl.1 rfl (Nat.le_of_ble_eq_true rfl) dAr_gcd_87 ⟨Nat.le_of_ble_eq_true rfl, Nat.le_of_ble_eq_true rfl⟩ (fun v w3 H locs hq hw => ?_)
        obtain ⟨rfl, hI, fs9⟩ := hq
        refine W.eq (g2 := F0 m 90 ls [.int (nI (if G < 2 ^ 768 then 0 else 6))]) rfl ?_
        have hA9 := hAI.kept (fun q h1 h2 => fs9 q (by omega))
        have hF9 : ∀ q, q < ar ∨ ar + 16 ≤ q → q < qa ∨ qa + 3 ≤ q → w3 q = w q := fun q h1 h2 => by rw [fs9 q (by omega), hF q (by omega)]
        have hG9 : G = Nat.gcd x y := by rw [← hgc, hL0, Nat.gcd_zero_right]
        rw [if_pos hG7] at hI
        exact fw_iret (pc := 90) hx hb hr hlocks hw dAr_gcd_90 ⟨by rw [if_pos hG7]; rfl, by (show isI cL _ qa ((Nat.gcd a.natAbs b.natAbs : Nat) : Int)); rw [hna, hnb, ← hG9]; exact hI, hA9, hF9⟩
    | succ e0 ih =>
      intro t hte ga la G L hgl hinv hgc hG7 hL7 w1 H locs ls hw hl hA1 hG hL hF
      rcases hgl with ⟨rfl, rfl⟩ | ⟨rfl, rfl⟩
      · obtain ⟨A0, A1, ⟨e_q, Aq⟩, ⟨er, Ar9⟩, ⟨ed, Ad⟩, Ao, ⟨eo, Au⟩, ⟨ep, Ap⟩, ⟨eb, Ab⟩⟩ := id hA1
        have Au := hG
        have Ab := hL
        refine lv_iload (pc := 31) hx hb dAr_gcd_31 (lv_at hl 0 rfl) ?_
        refine lv_sipush (pc := 33) (v := (nI 2000)) hx hb dAr_gcd_33 (by decide) ?_
        refine lv_icmp_ge (pc := 36) (tgt := 84) hx hb dAr_gcd_36 (by decide) (fun hc => absurd hc (nI_ge (show t < 2000 by omega) (by decide))) (fun _ => ?_)
        refine lv_aload (pc := 39) hx hb dAr_gcd_39 (lv_at hl 2 rfl) ?_
        by_cases hL0 : L = 0
        · obtain ⟨g1, k1, ⟨o1, _⟩, l1, _, n1, v1⟩ := id Ab
          refine fw_cVR (pc := 41) (As := []) (rest := []) ⟨hx, hb, hml, hown, hW⟩ (c_Na_isZero (by omega) o1) (cwV 0 hW (kw_V lm_Ar_69 im_Na_isZero se_Na_isZero ini_Na cd_Na_isZero) rfl rfl rfl (by decide +kernel) ⟨Nat.le_of_ble_eq_true rfl, Nat.le_of_ble_eq_true rfl⟩) hK hw o1 rfl rfl hl.1 rfl (Nat.le_of_ble_eq_true rfl) dAr_gcd_41 ⟨Nat.le_of_ble_eq_true rfl, Nat.le_of_ble_eq_true rfl⟩ (fun v hq => ?_)
          rw [if_pos ((nk_zero n1 v1).mpr hL0)] at hq
          subst hq
          refine W.eq (g2 := F0 m 44 ls [.int (nI 1)]) rfl ?_
          refine lv_if_ne (pc := 44) (tgt := 84) hx hb dAr_gcd_44 (by decide) (fun _ => ?_) (fun hc => absurd hc (show ¬ nI 1 = 0 by decide))
          refine lv_aload_n (pc := 84) hx hb dAr_gcd_84 rfl (lv_at hl 1 rfl) ?_
          refine lv_iconst (pc := 85) (v := (nI 0)) hx hb dAr_gcd_85 (by decide) ?_
          refine lv_aload_n (pc := 86) hx hb dAr_gcd_86 rfl (lv_at hl 4 rfl) ?_
          have haI := ha.kept (w' := w1) (fun q h1 h2 => by rw [hF q (by omega)])
          have hAI : arS cL w1 ar := ⟨A0, A1, ⟨_, Aq⟩, ⟨_, Ar9⟩, ⟨_, Ad⟩, Ao, ⟨_, Au⟩, ⟨_, Ap⟩, ⟨_, Ab⟩⟩
          refine fw_cS (pc := 87) (As := [.ref (ar + 10), .int (nI 0), .ref qa]) (rest := []) ⟨hx, hb, hml, hown, hW⟩ (c_Ar_store (neg := 0) (by decide) Au haI (by omega)) (va_cwS 3 hW (kw_S lm_Ar_62 sta_Ar_store ini_Ar cd_Ar_store) rfl rfl rfl (by decide +kernel) ⟨Nat.le_of_ble_eq_true rfl, Nat.le_of_ble_eq_true rfl⟩) hK hw rfl hl.1 rfl (Nat.le_of_ble_eq_true rfl) dAr_gcd_87 ⟨Nat.le_of_ble_eq_true rfl, Nat.le_of_ble_eq_true rfl⟩ (fun v w2 H locs hq hw => ?_)
          obtain ⟨rfl, hI, fs9⟩ := hq
          refine W.eq (g2 := F0 m 90 ls [.int (nI (if G < 2 ^ 768 then 0 else 6))]) rfl ?_
          have hA9 := hAI.kept (fun q h1 h2 => fs9 q (by omega))
          have hF9 : ∀ q, q < ar ∨ ar + 16 ≤ q → q < qa ∨ qa + 3 ≤ q → w2 q = w q := fun q h1 h2 => by rw [fs9 q (by omega), hF q (by omega)]
          have hG9 : G = Nat.gcd x y := by rw [← hgc, hL0, Nat.gcd_zero_right]
          rw [if_pos hG7] at hI
          exact fw_iret (pc := 90) hx hb hr hlocks hw dAr_gcd_90 ⟨by rw [if_pos hG7]; rfl, by (show isI cL _ qa ((Nat.gcd a.natAbs b.natAbs : Nat) : Int)); rw [hna, hnb, ← hG9]; exact hI, hA9, hF9⟩
        · obtain ⟨g2, k2, ⟨o2, _⟩, l2, _, n2, v2⟩ := id Ab
          refine fw_cVR (pc := 41) (As := []) (rest := []) ⟨hx, hb, hml, hown, hW⟩ (c_Na_isZero (by omega) o2) (cwV 0 hW (kw_V lm_Ar_69 im_Na_isZero se_Na_isZero ini_Na cd_Na_isZero) rfl rfl rfl (by decide +kernel) ⟨Nat.le_of_ble_eq_true rfl, Nat.le_of_ble_eq_true rfl⟩) hK hw o2 rfl rfl hl.1 rfl (Nat.le_of_ble_eq_true rfl) dAr_gcd_41 ⟨Nat.le_of_ble_eq_true rfl, Nat.le_of_ble_eq_true rfl⟩ (fun v hq => ?_)
          rw [if_neg (fun h9 => hL0 ((nk_zero n2 v2).mp h9))] at hq
          subst hq
          refine W.eq (g2 := F0 m 44 ls [.int (nI 0)]) rfl ?_
          refine lv_if_ne (pc := 44) (tgt := 84) hx hb dAr_gcd_44 (by decide) (fun hc => absurd hc (fun h => h (by decide))) (fun _ => ?_)
          refine lv_aload_n (pc := 47) hx hb dAr_gcd_47 rfl (lv_at hl 3 rfl) ?_
          refine fw_get (pc := 48) (ci := 0) (v := .ref (ar + 1)) (C := RAr) (T := TAr) (N := 5) hx hb hW in_Ar hown hK.1 hw A0 rfl 0 (by decide) (hW _ lf_Ar_12) (fun _ h => h) rfl dAr_gcd_48 ?_
          refine lv_aload_n (pc := 51) hx hb dAr_gcd_51 rfl (lv_at hl 1 rfl) ?_
          refine lv_aload (pc := 52) hx hb dAr_gcd_52 (lv_at hl 2 rfl) ?_
          have hLp : 0 < L := Nat.pos_of_ne_zero hL0
          refine fw_cV (pc := 54) (As := [.ref (ar + 10), .ref (ar + 14)]) (rest := []) ⟨hx, hb, hml, hown, hW⟩ (c_Di_divide A1 Aq Ar9 Ad Au Ab (by omega) (by omega) hLp (Nat.lt_trans hG7 p49)) (cwV 2 hW (kw_V lm_Ar_73 im_Di_divide se_Di_divide ini_Di cd_Di_divide) rfl rfl rfl (by decide +kernel) ⟨Nat.le_of_ble_eq_true rfl, Nat.le_of_ble_eq_true rfl⟩) hK hw A1 rfl rfl hl.1 rfl (Nat.le_of_ble_eq_true rfl) dAr_gcd_54 ⟨Nat.le_of_ble_eq_true rfl, Nat.le_of_ble_eq_true rfl⟩ (fun v w2 H locs hq hw => ?_)
          obtain ⟨rfl, hq9, hr9, ⟨ed2, hd9⟩, cd1_0⟩ := hq
          have A0_ : w2 (ar) = some (.inr (0, [.ref (ar + 1), .ref (ar + 8), .ref (ar + 10), .ref (ar + 12), .ref (ar + 14)])) := (cd1_0 _ (by omega)).trans A0
          have A1_ : w2 (ar + 1) = some (.inr (3, [.ref (ar + 1 + 1), .ref (ar + 1 + 3), .ref (ar + 1 + 5)])) := (cd1_0 _ (by omega)).trans A1
          have A0 := A0_
          have A1 := A1_
          have Ao : isV cL w2 (ar + 8) (1) := Ao.kept (fun a h1 h2 => cd1_0 a (by omega))
          have Au : isV cL w2 (ar + 10) (G) := Au.kept (fun a h1 h2 => cd1_0 a (by omega))
          have Ap : isV cL w2 (ar + 12) (ep) := Ap.kept (fun a h1 h2 => cd1_0 a (by omega))
          have Ab : isV cL w2 (ar + 14) (L) := Ab.kept (fun a h1 h2 => cd1_0 a (by omega))
          have Aq := hq9
          have Ar9 := hr9
          have Ad := hd9
          clear hq9 hr9 hd9
          refine W.eq (g2 := F0 m 57 ls []) rfl ?_
          refine lv_aload_n (pc := 57) hx hb dAr_gcd_57 rfl (lv_at hl 1 rfl) ?_
          refine lv_aload_n (pc := 58) hx hb dAr_gcd_58 rfl (lv_at hl 3 rfl) ?_
          refine fw_get (pc := 59) (ci := 0) (v := .ref (ar + 1)) (C := RAr) (T := TAr) (N := 5) hx hb hW in_Ar hown hK.1 hw A0 rfl 0 (by decide) (hW _ lf_Ar_12) (fun _ h => h) rfl dAr_gcd_59 ?_
          refine fw_get (pc := 62) (ci := 3) (v := .ref (ar + 1 + 3)) (C := RDi) (T := TDi) (N := 3) hx hb hW in_Di hown hK.1 hw A1 rfl 1 (by decide) (hW _ lf_Ar_76) (fun _ h => h) rfl dAr_gcd_62 ?_
          obtain ⟨k3, o3⟩ := Au.ob
          refine fw_cV (pc := 65) (As := [.ref (ar + 1 + 3)]) (rest := []) ⟨hx, hb, hml, hown, hW⟩ (c_Na_become (by omega) Au Ar9) (cwV 1 hW (kw_V lm_Ar_82 im_Na_become se_Na_become ini_Na cd_Na_become) rfl rfl rfl (by decide +kernel) ⟨Nat.le_of_ble_eq_true rfl, Nat.le_of_ble_eq_true rfl⟩) hK hw o3 rfl rfl hl.1 rfl (Nat.le_of_ble_eq_true rfl) dAr_gcd_65 ⟨Nat.le_of_ble_eq_true rfl, Nat.le_of_ble_eq_true rfl⟩ (fun v w3 H locs hq hw => ?_)
          obtain ⟨rfl, hV9, co2_1⟩ := hq
          have A0_ : w3 (ar) = some (.inr (0, [.ref (ar + 1), .ref (ar + 8), .ref (ar + 10), .ref (ar + 12), .ref (ar + 14)])) := (co2_1 _ (by omega) (by omega)).trans A0
          have A1_ : w3 (ar + 1) = some (.inr (3, [.ref (ar + 1 + 1), .ref (ar + 1 + 3), .ref (ar + 1 + 5)])) := (co2_1 _ (by omega) (by omega)).trans A1
          have A0 := A0_
          have A1 := A1_
          have Aq : isV cL w3 (ar + 1 + 1) (G / L) := Aq.kept (fun a h1 h2 => co2_1 a (by omega) (by omega))
          have Ar9 : isV cL w3 (ar + 1 + 3) (G % L) := Ar9.kept (fun a h1 h2 => co2_1 a (by omega) (by omega))
          have Ad : isV cL w3 (ar + 1 + 5) (ed2) := Ad.kept (fun a h1 h2 => co2_1 a (by omega) (by omega))
          have Ao : isV cL w3 (ar + 8) (1) := Ao.kept (fun a h1 h2 => co2_1 a (by omega) (by omega))
          have Ap : isV cL w3 (ar + 12) (ep) := Ap.kept (fun a h1 h2 => co2_1 a (by omega) (by omega))
          have Ab : isV cL w3 (ar + 14) (L) := Ab.kept (fun a h1 h2 => co2_1 a (by omega) (by omega))
          have Au := hV9
          refine W.eq (g2 := F0 m 68 ls []) rfl ?_
          refine lv_aload_n (pc := 68) hx hb dAr_gcd_68 rfl (lv_at hl 1 rfl) ?_
          refine lv_astore (pc := 69) (lv' := [(6, .ref (ar + 10)), (5, .int (nI t)), (3, .ref (ar + 10)), (4, .ref (ar + 14)), (0, .ref ar), (1, .ref qa), (2, .ref qb)]) hx hb dAr_gcd_69 hl (by decide) rfl (fun ls hl => ?_)
          refine lv_aload (pc := 71) hx hb dAr_gcd_71 (lv_at hl 3 rfl) ?_
          refine lv_astore_n (pc := 73) (lv' := [(3, .ref (ar + 14)), (6, .ref (ar + 10)), (5, .int (nI t)), (4, .ref (ar + 14)), (0, .ref ar), (1, .ref qa), (2, .ref qb)]) hx hb dAr_gcd_73 rfl hl (by decide) rfl (fun ls hl => ?_)
          refine lv_aload (pc := 74) hx hb dAr_gcd_74 (lv_at hl 1 rfl) ?_
          refine lv_astore (pc := 76) (lv' := [(4, .ref (ar + 10)), (3, .ref (ar + 14)), (6, .ref (ar + 10)), (5, .int (nI t)), (0, .ref ar), (1, .ref qa), (2, .ref qb)]) hx hb dAr_gcd_76 hl (by decide) rfl (fun ls hl => ?_)
          refine lv_iinc (pc := 78) (lv' := [(5, .int (nI (t + 1))), (4, .ref (ar + 10)), (3, .ref (ar + 14)), (6, .ref (ar + 10)), (0, .ref ar), (1, .ref qa), (2, .ref qb)]) hx hb dAr_gcd_78 hl (k := 3) rfl ((nI_add t 1)) (by decide) rfl (fun ls hl => ?_)
          refine lv_goto (pc := 81) (tgt := 31) hx hb dAr_gcd_81 (by decide) ?_
          have hst := gc_step hLp hinv
          exact ih (t + 1) (by omega) (ar + 14) (ar + 10) L (G % L) (by omega) (Or.inr ⟨by omega, hst.1, by rw [Nat.add_sub_cancel]; exact hst.2⟩) ((gc_rec G L).trans hgc) hL7 (Nat.lt_trans hst.1 hL7) _ H locs ls hw (lv_sub hl [0, 2, 1, 4, 5, 6] rfl) ⟨A0, A1, ⟨_, Aq⟩, ⟨_, Ar9⟩, ⟨_, Ad⟩, Ao, ⟨_, Au⟩, ⟨_, Ap⟩, ⟨_, Ab⟩⟩ Ab Au (fun q h1 => by rw [co2_1 q (by omega) (by omega), cd1_0 q (by omega), hF q h1])
      · obtain ⟨A0, A1, ⟨e_q, Aq⟩, ⟨er, Ar9⟩, ⟨ed, Ad⟩, Ao, ⟨eo, Au⟩, ⟨ep, Ap⟩, ⟨eb, Ab⟩⟩ := id hA1
        have Ab := hG
        have Au := hL
        refine lv_iload (pc := 31) hx hb dAr_gcd_31 (lv_at hl 0 rfl) ?_
        refine lv_sipush (pc := 33) (v := (nI 2000)) hx hb dAr_gcd_33 (by decide) ?_
        refine lv_icmp_ge (pc := 36) (tgt := 84) hx hb dAr_gcd_36 (by decide) (fun hc => absurd hc (nI_ge (show t < 2000 by omega) (by decide))) (fun _ => ?_)
        refine lv_aload (pc := 39) hx hb dAr_gcd_39 (lv_at hl 2 rfl) ?_
        by_cases hL0 : L = 0
        · obtain ⟨g4, k4, ⟨o4, _⟩, l4, _, n4, v4⟩ := id Au
          refine fw_cVR (pc := 41) (As := []) (rest := []) ⟨hx, hb, hml, hown, hW⟩ (c_Na_isZero (by omega) o4) (cwV 0 hW (kw_V lm_Ar_69 im_Na_isZero se_Na_isZero ini_Na cd_Na_isZero) rfl rfl rfl (by decide +kernel) ⟨Nat.le_of_ble_eq_true rfl, Nat.le_of_ble_eq_true rfl⟩) hK hw o4 rfl rfl hl.1 rfl (Nat.le_of_ble_eq_true rfl) dAr_gcd_41 ⟨Nat.le_of_ble_eq_true rfl, Nat.le_of_ble_eq_true rfl⟩ (fun v hq => ?_)
          rw [if_pos ((nk_zero n4 v4).mpr hL0)] at hq
          subst hq
          refine W.eq (g2 := F0 m 44 ls [.int (nI 1)]) rfl ?_
          refine lv_if_ne (pc := 44) (tgt := 84) hx hb dAr_gcd_44 (by decide) (fun _ => ?_) (fun hc => absurd hc (show ¬ nI 1 = 0 by decide))
          refine lv_aload_n (pc := 84) hx hb dAr_gcd_84 rfl (lv_at hl 1 rfl) ?_
          refine lv_iconst (pc := 85) (v := (nI 0)) hx hb dAr_gcd_85 (by decide) ?_
          refine lv_aload_n (pc := 86) hx hb dAr_gcd_86 rfl (lv_at hl 4 rfl) ?_
          have haI := ha.kept (w' := w1) (fun q h1 h2 => by rw [hF q (by omega)])
          have hAI : arS cL w1 ar := ⟨A0, A1, ⟨_, Aq⟩, ⟨_, Ar9⟩, ⟨_, Ad⟩, Ao, ⟨_, Au⟩, ⟨_, Ap⟩, ⟨_, Ab⟩⟩
          refine fw_cS (pc := 87) (As := [.ref (ar + 14), .int (nI 0), .ref qa]) (rest := []) ⟨hx, hb, hml, hown, hW⟩ (c_Ar_store (neg := 0) (by decide) Ab haI (by omega)) (va_cwS 3 hW (kw_S lm_Ar_62 sta_Ar_store ini_Ar cd_Ar_store) rfl rfl rfl (by decide +kernel) ⟨Nat.le_of_ble_eq_true rfl, Nat.le_of_ble_eq_true rfl⟩) hK hw rfl hl.1 rfl (Nat.le_of_ble_eq_true rfl) dAr_gcd_87 ⟨Nat.le_of_ble_eq_true rfl, Nat.le_of_ble_eq_true rfl⟩ (fun v w4 H locs hq hw => ?_)
          obtain ⟨rfl, hI, fs9⟩ := hq
          refine W.eq (g2 := F0 m 90 ls [.int (nI (if G < 2 ^ 768 then 0 else 6))]) rfl ?_
          have hA9 := hAI.kept (fun q h1 h2 => fs9 q (by omega))
          have hF9 : ∀ q, q < ar ∨ ar + 16 ≤ q → q < qa ∨ qa + 3 ≤ q → w4 q = w q := fun q h1 h2 => by rw [fs9 q (by omega), hF q (by omega)]
          have hG9 : G = Nat.gcd x y := by rw [← hgc, hL0, Nat.gcd_zero_right]
          rw [if_pos hG7] at hI
          exact fw_iret (pc := 90) hx hb hr hlocks hw dAr_gcd_90 ⟨by rw [if_pos hG7]; rfl, by (show isI cL _ qa ((Nat.gcd a.natAbs b.natAbs : Nat) : Int)); rw [hna, hnb, ← hG9]; exact hI, hA9, hF9⟩
        · obtain ⟨g5, k5, ⟨o5, _⟩, l5, _, n5, v5⟩ := id Au
          refine fw_cVR (pc := 41) (As := []) (rest := []) ⟨hx, hb, hml, hown, hW⟩ (c_Na_isZero (by omega) o5) (cwV 0 hW (kw_V lm_Ar_69 im_Na_isZero se_Na_isZero ini_Na cd_Na_isZero) rfl rfl rfl (by decide +kernel) ⟨Nat.le_of_ble_eq_true rfl, Nat.le_of_ble_eq_true rfl⟩) hK hw o5 rfl rfl hl.1 rfl (Nat.le_of_ble_eq_true rfl) dAr_gcd_41 ⟨Nat.le_of_ble_eq_true rfl, Nat.le_of_ble_eq_true rfl⟩ (fun v hq => ?_)
          rw [if_neg (fun h9 => hL0 ((nk_zero n5 v5).mp h9))] at hq
          subst hq
          refine W.eq (g2 := F0 m 44 ls [.int (nI 0)]) rfl ?_
          refine lv_if_ne (pc := 44) (tgt := 84) hx hb dAr_gcd_44 (by decide) (fun hc => absurd hc (fun h => h (by decide))) (fun _ => ?_)
          refine lv_aload_n (pc := 47) hx hb dAr_gcd_47 rfl (lv_at hl 3 rfl) ?_
          refine fw_get (pc := 48) (ci := 0) (v := .ref (ar + 1)) (C := RAr) (T := TAr) (N := 5) hx hb hW in_Ar hown hK.1 hw A0 rfl 0 (by decide) (hW _ lf_Ar_12) (fun _ h => h) rfl dAr_gcd_48 ?_
          refine lv_aload_n (pc := 51) hx hb dAr_gcd_51 rfl (lv_at hl 1 rfl) ?_
          refine lv_aload (pc := 52) hx hb dAr_gcd_52 (lv_at hl 2 rfl) ?_
          have hLp : 0 < L := Nat.pos_of_ne_zero hL0
          refine fw_cV (pc := 54) (As := [.ref (ar + 14), .ref (ar + 10)]) (rest := []) ⟨hx, hb, hml, hown, hW⟩ (c_Di_divide A1 Aq Ar9 Ad Ab Au (by omega) (by omega) hLp (Nat.lt_trans hG7 p49)) (cwV 2 hW (kw_V lm_Ar_73 im_Di_divide se_Di_divide ini_Di cd_Di_divide) rfl rfl rfl (by decide +kernel) ⟨Nat.le_of_ble_eq_true rfl, Nat.le_of_ble_eq_true rfl⟩) hK hw A1 rfl rfl hl.1 rfl (Nat.le_of_ble_eq_true rfl) dAr_gcd_54 ⟨Nat.le_of_ble_eq_true rfl, Nat.le_of_ble_eq_true rfl⟩ (fun v w4 H locs hq hw => ?_)
          obtain ⟨rfl, hq9, hr9, ⟨ed2, hd9⟩, cd3_0⟩ := hq
          have A0_ : w4 (ar) = some (.inr (0, [.ref (ar + 1), .ref (ar + 8), .ref (ar + 10), .ref (ar + 12), .ref (ar + 14)])) := (cd3_0 _ (by omega)).trans A0
          have A1_ : w4 (ar + 1) = some (.inr (3, [.ref (ar + 1 + 1), .ref (ar + 1 + 3), .ref (ar + 1 + 5)])) := (cd3_0 _ (by omega)).trans A1
          have A0 := A0_
          have A1 := A1_
          have Ao : isV cL w4 (ar + 8) (1) := Ao.kept (fun a h1 h2 => cd3_0 a (by omega))
          have Au : isV cL w4 (ar + 10) (L) := Au.kept (fun a h1 h2 => cd3_0 a (by omega))
          have Ap : isV cL w4 (ar + 12) (ep) := Ap.kept (fun a h1 h2 => cd3_0 a (by omega))
          have Ab : isV cL w4 (ar + 14) (G) := Ab.kept (fun a h1 h2 => cd3_0 a (by omega))
          have Aq := hq9
          have Ar9 := hr9
          have Ad := hd9
          clear hq9 hr9 hd9
          refine W.eq (g2 := F0 m 57 ls []) rfl ?_
          refine lv_aload_n (pc := 57) hx hb dAr_gcd_57 rfl (lv_at hl 1 rfl) ?_
          refine lv_aload_n (pc := 58) hx hb dAr_gcd_58 rfl (lv_at hl 3 rfl) ?_
          refine fw_get (pc := 59) (ci := 0) (v := .ref (ar + 1)) (C := RAr) (T := TAr) (N := 5) hx hb hW in_Ar hown hK.1 hw A0 rfl 0 (by decide) (hW _ lf_Ar_12) (fun _ h => h) rfl dAr_gcd_59 ?_
          refine fw_get (pc := 62) (ci := 3) (v := .ref (ar + 1 + 3)) (C := RDi) (T := TDi) (N := 3) hx hb hW in_Di hown hK.1 hw A1 rfl 1 (by decide) (hW _ lf_Ar_76) (fun _ h => h) rfl dAr_gcd_62 ?_
          obtain ⟨k6, o6⟩ := Ab.ob
          refine fw_cV (pc := 65) (As := [.ref (ar + 1 + 3)]) (rest := []) ⟨hx, hb, hml, hown, hW⟩ (c_Na_become (by omega) Ab Ar9) (cwV 1 hW (kw_V lm_Ar_82 im_Na_become se_Na_become ini_Na cd_Na_become) rfl rfl rfl (by decide +kernel) ⟨Nat.le_of_ble_eq_true rfl, Nat.le_of_ble_eq_true rfl⟩) hK hw o6 rfl rfl hl.1 rfl (Nat.le_of_ble_eq_true rfl) dAr_gcd_65 ⟨Nat.le_of_ble_eq_true rfl, Nat.le_of_ble_eq_true rfl⟩ (fun v w5 H locs hq hw => ?_)
          obtain ⟨rfl, hV9, co4_1⟩ := hq
          have A0_ : w5 (ar) = some (.inr (0, [.ref (ar + 1), .ref (ar + 8), .ref (ar + 10), .ref (ar + 12), .ref (ar + 14)])) := (co4_1 _ (by omega) (by omega)).trans A0
          have A1_ : w5 (ar + 1) = some (.inr (3, [.ref (ar + 1 + 1), .ref (ar + 1 + 3), .ref (ar + 1 + 5)])) := (co4_1 _ (by omega) (by omega)).trans A1
          have A0 := A0_
          have A1 := A1_
          have Aq : isV cL w5 (ar + 1 + 1) (G / L) := Aq.kept (fun a h1 h2 => co4_1 a (by omega) (by omega))
          have Ar9 : isV cL w5 (ar + 1 + 3) (G % L) := Ar9.kept (fun a h1 h2 => co4_1 a (by omega) (by omega))
          have Ad : isV cL w5 (ar + 1 + 5) (ed2) := Ad.kept (fun a h1 h2 => co4_1 a (by omega) (by omega))
          have Ao : isV cL w5 (ar + 8) (1) := Ao.kept (fun a h1 h2 => co4_1 a (by omega) (by omega))
          have Au : isV cL w5 (ar + 10) (L) := Au.kept (fun a h1 h2 => co4_1 a (by omega) (by omega))
          have Ap : isV cL w5 (ar + 12) (ep) := Ap.kept (fun a h1 h2 => co4_1 a (by omega) (by omega))
          have Ab := hV9
          refine W.eq (g2 := F0 m 68 ls []) rfl ?_
          refine lv_aload_n (pc := 68) hx hb dAr_gcd_68 rfl (lv_at hl 1 rfl) ?_
          refine lv_astore (pc := 69) (lv' := [(6, .ref (ar + 14)), (5, .int (nI t)), (3, .ref (ar + 14)), (4, .ref (ar + 10)), (0, .ref ar), (1, .ref qa), (2, .ref qb)]) hx hb dAr_gcd_69 hl (by decide) rfl (fun ls hl => ?_)
          refine lv_aload (pc := 71) hx hb dAr_gcd_71 (lv_at hl 3 rfl) ?_
          refine lv_astore_n (pc := 73) (lv' := [(3, .ref (ar + 10)), (6, .ref (ar + 14)), (5, .int (nI t)), (4, .ref (ar + 10)), (0, .ref ar), (1, .ref qa), (2, .ref qb)]) hx hb dAr_gcd_73 rfl hl (by decide) rfl (fun ls hl => ?_)
          refine lv_aload (pc := 74) hx hb dAr_gcd_74 (lv_at hl 1 rfl) ?_
          refine lv_astore (pc := 76) (lv' := [(4, .ref (ar + 14)), (3, .ref (ar + 10)), (6, .ref (ar + 14)), (5, .int (nI t)), (0, .ref ar), (1, .ref qa), (2, .ref qb)]) hx hb dAr_gcd_76 hl (by decide) rfl (fun ls hl => ?_)
          refine lv_iinc (pc := 78) (lv' := [(5, .int (nI (t + 1))), (4, .ref (ar + 14)), (3, .ref (ar + 10)), (6, .ref (ar + 14)), (0, .ref ar), (1, .ref qa), (2, .ref qb)]) hx hb dAr_gcd_78 hl (k := 3) rfl ((nI_add t 1)) (by decide) rfl (fun ls hl => ?_)
          refine lv_goto (pc := 81) (tgt := 31) hx hb dAr_gcd_81 (by decide) ?_
          have hst := gc_step hLp hinv
          exact ih (t + 1) (by omega) (ar + 10) (ar + 14) L (G % L) (by omega) (Or.inr ⟨by omega, hst.1, by rw [Nat.add_sub_cancel]; exact hst.2⟩) ((gc_rec G L).trans hgc) hL7 (Nat.lt_trans hst.1 hL7) _ H locs ls hw (lv_sub hl [0, 2, 1, 4, 5, 6] rfl) ⟨A0, A1, ⟨_, Aq⟩, ⟨_, Ar9⟩, ⟨_, Ad⟩, Ao, ⟨_, Au⟩, ⟨_, Ap⟩, ⟨_, Ab⟩⟩ Au Ab (fun q h1 => by rw [co4_1 q (by omega) (by omega), cd3_0 q (by omega), hF q h1])
  refine lv_aload_n (pc := 0) hx hb dAr_gcd_0 rfl (lv_at hl 0 rfl) ?_
  refine fw_get (pc := 1) (ci := 0) (v := .ref (ar + 10)) (C := RAr) (T := TAr) (N := 5) hx hb hW in_Ar hown hK.1 hw A0 rfl 2 (by decide) (hW _ lf_Ar_29) (fun _ h => h) rfl dAr_gcd_1 ?_
  refine lv_astore_n (pc := 4) (lv' := [(3, .ref (ar + 10)), (0, .ref ar), (1, .ref qa), (2, .ref qb)]) hx hb dAr_gcd_4 rfl hl (by decide) rfl (fun ls hl => ?_)
  refine lv_aload_n (pc := 5) hx hb dAr_gcd_5 rfl (lv_at hl 1 rfl) ?_
  refine fw_get (pc := 6) (ci := 0) (v := .ref (ar + 14)) (C := RAr) (T := TAr) (N := 5) hx hb hW in_Ar hown hK.1 hw A0 rfl 4 (by decide) (hW _ lf_Ar_35) (fun _ h => h) rfl dAr_gcd_6 ?_
  refine lv_astore (pc := 9) (lv' := [(4, .ref (ar + 14)), (3, .ref (ar + 10)), (0, .ref ar), (1, .ref qa), (2, .ref qb)]) hx hb dAr_gcd_9 hl (by decide) rfl (fun ls hl => ?_)
  refine lv_aload_n (pc := 11) hx hb dAr_gcd_11 rfl (lv_at hl 1 rfl) ?_
  refine lv_aload_n (pc := 12) hx hb dAr_gcd_12 rfl (lv_at hl 3 rfl) ?_
  refine fw_get (pc := 13) (ci := 8) (v := .ref (qa + 1)) (C := RWh) (T := TWh) (N := 2) hx hb hW in_Wh hown hK.1 hw ah rfl 0 (by decide) (hW _ lf_Ar_38) (fun _ h => h) rfl dAr_gcd_13 ?_
  obtain ⟨k7, o7⟩ := Au.ob
  refine fw_cV (pc := 16) (As := [.ref (qa + 1)]) (rest := []) ⟨hx, hb, hml, hown, hW⟩ (c_Na_become (by omega) Au av) (cwV 1 hW (kw_V lm_Ar_82 im_Na_become se_Na_become ini_Na cd_Na_become) rfl rfl rfl (by decide +kernel) ⟨Nat.le_of_ble_eq_true rfl, Nat.le_of_ble_eq_true rfl⟩) hK hw o7 rfl rfl hl.1 rfl (Nat.le_of_ble_eq_true rfl) dAr_gcd_16 ⟨Nat.le_of_ble_eq_true rfl, Nat.le_of_ble_eq_true rfl⟩ (fun v w30 H locs hq hw => ?_)
  obtain ⟨rfl, hV9, co29_0⟩ := hq
  have A0_ : w30 (ar) = some (.inr (0, [.ref (ar + 1), .ref (ar + 8), .ref (ar + 10), .ref (ar + 12), .ref (ar + 14)])) := (co29_0 _ (by omega) (by omega)).trans A0
  have A1_ : w30 (ar + 1) = some (.inr (3, [.ref (ar + 1 + 1), .ref (ar + 1 + 3), .ref (ar + 1 + 5)])) := (co29_0 _ (by omega) (by omega)).trans A1
  have ah_ : w30 (qa) = some (.inr (8, [.ref (qa + 1), .int (nI sg)])) := (co29_0 _ (by omega) (by omega)).trans ah
  have bh_ : w30 (qb) = some (.inr (8, [.ref (qb + 1), .int (nI sg2)])) := (co29_0 _ (by omega) (by omega)).trans bh
  have A0 := A0_
  have A1 := A1_
  have ah := ah_
  have bh := bh_
  have Aq : isV cL w30 (ar + 1 + 1) (e_q) := Aq.kept (fun a h1 h2 => co29_0 a (by omega) (by omega))
  have Ar9 : isV cL w30 (ar + 1 + 3) (er) := Ar9.kept (fun a h1 h2 => co29_0 a (by omega) (by omega))
  have Ad : isV cL w30 (ar + 1 + 5) (ed) := Ad.kept (fun a h1 h2 => co29_0 a (by omega) (by omega))
  have Ao : isV cL w30 (ar + 8) (1) := Ao.kept (fun a h1 h2 => co29_0 a (by omega) (by omega))
  have Ap : isV cL w30 (ar + 12) (ep) := Ap.kept (fun a h1 h2 => co29_0 a (by omega) (by omega))
  have Ab : isV cL w30 (ar + 14) (eb) := Ab.kept (fun a h1 h2 => co29_0 a (by omega) (by omega))
  have av : isV cL w30 (qa + 1) (x) := av.kept (fun a h1 h2 => co29_0 a (by omega) (by omega))
  have bv : isV cL w30 (qb + 1) (y) := bv.kept (fun a h1 h2 => co29_0 a (by omega) (by omega))
  have Au := hV9
  refine W.eq (g2 := F0 m 19 ls []) rfl ?_
  refine lv_aload (pc := 19) hx hb dAr_gcd_19 (lv_at hl 0 rfl) ?_
  refine lv_aload_n (pc := 21) hx hb dAr_gcd_21 rfl (lv_at hl 4 rfl) ?_
  refine fw_get (pc := 22) (ci := 8) (v := .ref (qb + 1)) (C := RWh) (T := TWh) (N := 2) hx hb hW in_Wh hown hK.1 hw bh rfl 0 (by decide) (hW _ lf_Ar_38) (fun _ h => h) rfl dAr_gcd_22 ?_
  obtain ⟨k8, o8⟩ := Ab.ob
  refine fw_cV (pc := 25) (As := [.ref (qb + 1)]) (rest := []) ⟨hx, hb, hml, hown, hW⟩ (c_Na_become (by omega) Ab bv) (cwV 1 hW (kw_V lm_Ar_82 im_Na_become se_Na_become ini_Na cd_Na_become) rfl rfl rfl (by decide +kernel) ⟨Nat.le_of_ble_eq_true rfl, Nat.le_of_ble_eq_true rfl⟩) hK hw o8 rfl rfl hl.1 rfl (Nat.le_of_ble_eq_true rfl) dAr_gcd_25 ⟨Nat.le_of_ble_eq_true rfl, Nat.le_of_ble_eq_true rfl⟩ (fun v w31 H locs hq hw => ?_)
  obtain ⟨rfl, hV9, co30_1⟩ := hq
  have A0_ : w31 (ar) = some (.inr (0, [.ref (ar + 1), .ref (ar + 8), .ref (ar + 10), .ref (ar + 12), .ref (ar + 14)])) := (co30_1 _ (by omega) (by omega)).trans A0
  have A1_ : w31 (ar + 1) = some (.inr (3, [.ref (ar + 1 + 1), .ref (ar + 1 + 3), .ref (ar + 1 + 5)])) := (co30_1 _ (by omega) (by omega)).trans A1
  have ah_ : w31 (qa) = some (.inr (8, [.ref (qa + 1), .int (nI sg)])) := (co30_1 _ (by omega) (by omega)).trans ah
  have bh_ : w31 (qb) = some (.inr (8, [.ref (qb + 1), .int (nI sg2)])) := (co30_1 _ (by omega) (by omega)).trans bh
  have A0 := A0_
  have A1 := A1_
  have ah := ah_
  have bh := bh_
  have Aq : isV cL w31 (ar + 1 + 1) (e_q) := Aq.kept (fun a h1 h2 => co30_1 a (by omega) (by omega))
  have Ar9 : isV cL w31 (ar + 1 + 3) (er) := Ar9.kept (fun a h1 h2 => co30_1 a (by omega) (by omega))
  have Ad : isV cL w31 (ar + 1 + 5) (ed) := Ad.kept (fun a h1 h2 => co30_1 a (by omega) (by omega))
  have Ao : isV cL w31 (ar + 8) (1) := Ao.kept (fun a h1 h2 => co30_1 a (by omega) (by omega))
  have Au : isV cL w31 (ar + 10) (x) := Au.kept (fun a h1 h2 => co30_1 a (by omega) (by omega))
  have Ap : isV cL w31 (ar + 12) (ep) := Ap.kept (fun a h1 h2 => co30_1 a (by omega) (by omega))
  have av : isV cL w31 (qa + 1) (x) := av.kept (fun a h1 h2 => co30_1 a (by omega) (by omega))
  have bv : isV cL w31 (qb + 1) (y) := bv.kept (fun a h1 h2 => co30_1 a (by omega) (by omega))
  have Ab := hV9
  refine W.eq (g2 := F0 m 28 ls []) rfl ?_
  refine lv_iconst (pc := 28) (v := (nI 0)) hx hb dAr_gcd_28 (by decide) ?_
  refine lv_istore (pc := 29) (lv' := [(5, .int (nI 0)), (4, .ref (ar + 14)), (3, .ref (ar + 10)), (0, .ref ar), (1, .ref qa), (2, .ref qb)]) hx hb dAr_gcd_29 hl (by decide) rfl (fun ls hl => ?_)
  exact loop 2000 0 (by decide) (ar + 10) (ar + 14) x y (Or.inl ⟨rfl, rfl⟩) (Or.inl ⟨rfl, Nat.le_refl _⟩) rfl hx7 hy7 _ H locs ls hw (lv_sub hl [0, 2, 1, 3, 4, 5] rfl) ⟨A0, A1, ⟨_, Aq⟩, ⟨_, Ar9⟩, ⟨_, Ad⟩, Ao, ⟨_, Au⟩, ⟨_, Ap⟩, ⟨_, Ab⟩⟩ Au Ab (fun q h1 => by rw [co30_1 q (by omega) (by omega), co29_0 q (by omega) (by omega)])
end AR3a
