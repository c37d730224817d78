/-- how many registers what waits holds -/
def low (t c : Nat) : Nat := if t < 8 then 1 else if t = 8 ∨ t = 14 then 0 else kCm t - c
def sml (t c : Nat → Nat) : Nat → Nat
  | 0 => 0
  | d + 1 => sml t c d + low (t d) (c d)
theorem hg_eq {o o' : Nat → Nat} {n : Nat} (h : ∀ i, i < n → o' i = o i) : hg o' n = hg o n := by
  induction n with
  | zero => rfl
  | succ n ih => show hg o' n - kOp (o' n) + 1 = hg o n - kOp (o n) + 1; rw [ih (fun i hi => h i (by omega)), h n (by omega)]
theorem up_o {α : Type} {f : Nat → α} {n i : Nat} {x : α} (h : i ≠ n) : va_up f n x i = f i := if_neg h
theorem up_s {α : Type} {f : Nat → α} {n : Nat} {x : α} : va_up f n x n = x := if_pos rfl
theorem sml_eq {t t' c c' : Nat → Nat} {d : Nat} (h : ∀ j, j < d → t' j = t j ∧ c' j = c j) : sml t' c' d = sml t c d := by
  induction d with
  | zero => rfl
  | succ d ih => show sml t' c' d + low (t' d) (c' d) = _; rw [ih (fun j hj => h j (by omega)), (h d (by omega)).1, (h d (by omega)).2]; rfl
/-- code that never lacks an operand -/
def cGd (o v : Nat → Nat) (n : Nat) : Prop := ∀ i, i < n → o i < 15 ∧ (o i < 8 ∨ 10 < o i) ∧ kOp (o i) ≤ hg o i ∧ v i < 2 ^ 31 ∧ (o i = 1 → v i < 8)
theorem cGd.app {o v : Nat → Nat} {n op u : Nat} (h : cGd o v n) (h1 : op < 15) (h2 : op < 8 ∨ 10 < op) (h3 : kOp op ≤ hg o n) (h4 : u < 2 ^ 31) (h5 : op = 1 → u < 8) : cGd (va_up o n op) (va_up v n u) (n + 1) ∧ hg (va_up o n op) (n + 1) = hg o n - kOp op + 1 := by
  have e : ∀ i, i ≤ n → hg (va_up o n op) i = hg o i := fun i hi => hg_eq (fun j hj => up_o (by omega))
  refine ⟨fun i hi => ?_, ?_⟩
  · by_cases hn : i = n
    · subst hn; rw [up_s, up_s, e i (Nat.le_refl i)]; exact ⟨h1, h2, h3, h4, h5⟩
    · rw [up_o hn, up_o hn, e i (by omega)]; exact h i (by omega)
  · show hg (va_up o n op) n - kOp (va_up o n op n) + 1 = _
    rw [e n (Nat.le_refl n), up_s]
def okE (t c : Nat) : Prop := (1 < t ∧ t < 9 ∨ 10 < t ∧ t < 15) ∧ c ≤ kCm t
theorem kE1 : ∀ t, t < 15 → ¬ (kBi t = 0 ∧ 1 < t ∧ t < 9 ∧ t ≠ 8) := by decide
theorem kE2 : ∀ t, t < 15 → ¬ (10 < t ∧ t < 14 ∧ (kOp t ≠ kCm t + 1)) := by decide
theorem kE3 : ∀ t, t < 15 → ¬ (1 ≤ kBi t ∧ (kOp t ≠ (if t < 8 then 2 else 1) ∨ ¬ (1 < t ∧ t < 8 ∨ t = 14))) := by decide
theorem kE (t : Nat) (ht : t < 15) : (kBi t = 0 → 1 < t → t < 9 → t = 8) ∧ (10 < t → t < 14 → kOp t = kCm t + 1) ∧ (1 ≤ kBi t → kOp t = (if t < 8 then 2 else 1) ∧ (1 < t ∧ t < 8 ∨ t = 14)) := by
  refine ⟨fun h1 h2 h3 => Classical.byContradiction fun h => kE1 t ht ⟨h1, h2, h3, h⟩, fun h1 h2 => Classical.byContradiction fun h => kE2 t ht ⟨h1, h2, h⟩, fun h1 => ⟨Classical.byContradiction fun h => kE3 t ht ⟨h1, Or.inl h⟩, Classical.byContradiction fun h => kE3 t ht ⟨h1, Or.inr h⟩⟩⟩
def tDs : TS → Prop
  | (o, v, n, t, c, d, x) => cGd o v n ∧ (∀ j, j < d → okE (t j) (c j)) ∧ hg o n = sml t c d + (if x = 1 then 1 else 0)
/-- releasing keeps it -/
theorem rl_ds {bd : Nat} {t c : Nat → Nat} {d n n1 d1 : Nat} {o v o1 v1 : Nat → Nat} (hb : 1 ≤ bd) (hE : ∀ j, j < d → okE (t j) (c j)) (hG : cGd o v n) (hh : hg o n = sml t c d + 1) (h : rl bd t d o v n = (o1, v1, n1, d1)) : cGd o1 v1 n1 ∧ hg o1 n1 = sml t c d1 + 1 ∧ (0 < d1 → kBi (t (d1 - 1)) < bd) := by
  induction d generalizing o v n with
  | zero => cases h; exact ⟨hG, hh, fun h => absurd h (by decide)⟩
  | succ d ih =>
    by_cases hk : bd ≤ kBi (t d)
    · rw [rl_yes hk] at h
      obtain ⟨e1, e2⟩ := hE d (by omega)
      have h15 : t d < 15 := by omega
      obtain ⟨k1, k3, k4⟩ := kE (t d) h15
      obtain ⟨k5, k6⟩ := k4 (by omega)
      have hl : hg o n = sml t c d + low (t d) (c d) + 1 := hh
      have hlow : low (t d) (c d) + 1 = kOp (t d) := by
        rw [k5]; unfold low
        rcases k6 with h6 | h6
        · rw [if_pos h6.2, if_pos h6.2]
        · rw [if_neg (show ¬ t d < 8 by omega), if_pos (show t d = 8 ∨ t d = 14 from Or.inr h6), if_neg (show ¬ t d < 8 by omega)]
      obtain ⟨g1, g2⟩ := hG.app (op := t d) (u := 0) h15 (by omega) (by omega) (by decide) (fun h => by omega)
      refine ih (fun j hj => hE j (by omega)) g1 ?_ h
      rw [g2]; omega
    · rw [rl_no hk] at h
      cases h
      exact ⟨hG, hh, fun _ => by rw [Nat.add_sub_cancel]; omega⟩
theorem tPu_ds {k x' : Nat} {o v t c : Nat → Nat} {n d x : Nat} (hE : ∀ j, j < d → okE (t j) (c j)) (hG : cGd o v n) (hk : 1 < k ∧ k < 9 ∨ 10 < k ∧ k < 15) (hh : hg o n = sml t c d + low k (kCm k) + (if x' = 1 then 1 else 0)) : tDs (tPu k x' (o, v, n, t, c, d, x)) := by
  refine ⟨hG, fun j hj => ?_, ?_⟩
  · by_cases hd : j = d
    · subst hd; rw [up_s, up_s]; exact ⟨hk, Nat.le_refl _⟩
    · rw [up_o hd, up_o hd]; exact hE j (by omega)
  · show hg o n = sml (va_up t d k) (va_up c d (kCm k)) d + low (va_up t d k d) (va_up c d (kCm k) d) + _
    rw [up_s, up_s, sml_eq (fun j hj => ⟨up_o (by omega), up_o (by omega)⟩)]
    exact hh
theorem lowK : ∀ k, k < 15 → (10 < k → low k (kCm k) = 0) ∧ (k < 8 → low k (kCm k) = 1) ∧ (k = 8 → low k (kCm k) = 0) := by decide
theorem tAc_ds {k u : Nat} {s : TS} (h : tDs s) (hx : s.2.2.2.2.2.2 < 3) (hk : k < 14) (hu : u < 2 ^ 31) (hu8 : k = 1 → u < 8) (ha : (tAc k u s).1 = true) : tDs (tAc k u s).2 := by
  obtain ⟨o, v, n, t, c, d, x⟩ := s
  obtain ⟨hG, hE, hh⟩ := h
  have hx : x < 3 := hx
  have K14 : k = 0 ∨ k = 1 ∨ k = 2 ∨ k = 3 ∨ k = 4 ∨ k = 5 ∨ k = 6 ∨ k = 7 ∨ k = 8 ∨ k = 9 ∨ k = 10 ∨ k = 11 ∨ k = 12 ∨ k = 13 := by omega
  rcases (show x = 0 ∨ x = 1 ∨ x = 2 by omega) with rfl | rfl | rfl
  · have hh : hg o n = sml t c d := hh
    have num : ∀ k, k < 2 → (k = 1 → u < 8) → tDs (va_up o n k, va_up v n u, n + 1, t, c, d, 1) := fun k h2 h8 => by
      have hk0 : kOp k = 0 := (show ∀ k, k < 2 → kOp k = 0 by decide) k h2
      obtain ⟨g1, g2⟩ := hG.app (op := k) (u := u) (by omega) (by omega) (by omega) hu h8
      exact ⟨g1, hE, by rw [g2, hk0]; show _ = sml t c d + 1; omega⟩
    rcases K14 with rfl | rfl | rfl | rfl | rfl | rfl | rfl | rfl | rfl | rfl | rfl | rfl | rfl | rfl
    · exact num 0 (by decide) (fun h => absurd h (by decide))
    · exact num 1 (by decide) hu8
    · exact absurd (show false = true from ha) (by decide)
    · exact tPu_ds (x := 0) hE hG (by decide) hh
    · exact absurd (show false = true from ha) (by decide)
    · exact absurd (show false = true from ha) (by decide)
    · exact absurd (show false = true from ha) (by decide)
    · exact absurd (show false = true from ha) (by decide)
    · exact tPu_ds (x := 0) hE hG (by decide) hh
    · exact absurd (show false = true from ha) (by decide)
    · exact absurd (show false = true from ha) (by decide)
    · exact tPu_ds (x := 0) hE hG (by decide) hh
    · exact tPu_ds (x := 0) hE hG (by decide) hh
    · exact tPu_ds (x := 0) hE hG (by decide) hh
  · have hh : hg o n = sml t c d + 1 := hh
    have rp : ∀ bd k, 1 ≤ bd → 1 < k → k < 8 → tDs (tRp bd k (o, v, n, t, c, d, 1)).2 := fun bd k h1 h2 h3 => by
      obtain ⟨o1, v1, n1, d1, hr⟩ : ∃ o1 v1 n1 d1, rl bd t d o v n = (o1, v1, n1, d1) := ⟨_, _, _, _, rfl⟩
      obtain ⟨g1, g2, _⟩ := rl_ds h1 hE hG hh hr
      rw [tRp_eq hr]
      have hs := rl_sum hr
      refine tPu_ds (x := 0) (fun j hj => hE j (by omega)) g1 (by omega) ?_
      rw [g2, (lowK k (by omega)).2.1 h3]; rfl
    obtain ⟨o1, v1, n1, d1, hr⟩ : ∃ o1 v1 n1 d1, rl 1 t d o v n = (o1, v1, n1, d1) := ⟨_, _, _, _, rfl⟩
    obtain ⟨g1, g2, g3⟩ := rl_ds (Nat.le_refl 1) hE hG hh hr
    have hs := rl_sum hr
    rcases K14 with rfl | rfl | rfl | rfl | rfl | rfl | rfl | rfl | rfl | rfl | rfl | rfl | rfl | rfl
    · exact absurd (show false = true from ha) (by decide)
    · exact absurd (show false = true from ha) (by decide)
    · exact rp 1 2 (by decide) (by decide) (by decide)
    · exact rp 1 3 (by decide) (by decide) (by decide)
    · exact rp 2 4 (by decide) (by decide) (by decide)
    · exact rp 2 5 (by decide) (by decide) (by decide)
    · exact rp 2 6 (by decide) (by decide) (by decide)
    · exact tPu_ds (x := 0) hE hG (by decide) hh
    · exact absurd (show false = true from ha) (by decide)
    · change (tCl (o, v, n, t, c, d, 1)).1 = true at ha
      show tDs (tCl (o, v, n, t, c, d, 1)).2
      rw [tCl_eq hr] at ha ⊢
      by_cases hz : d1 = 0 ∨ c (d1 - 1) ≠ 0
      · rw [if_pos hz] at ha; exact absurd (show false = true from ha) (by decide)
      · rw [if_neg hz]
        obtain ⟨e, rfl⟩ : ∃ e, d1 = e + 1 := ⟨d1 - 1, by omega⟩
        rw [Nat.add_sub_cancel] at *
        have hc0 : c e = 0 := by omega
        obtain ⟨e1, e2⟩ := hE e (by omega)
        have hb0 : kBi (t e) = 0 := by have := g3 (by omega); omega
        obtain ⟨k1, k3, k4⟩ := kE (t e) (by omega)
        have hl : hg o1 n1 = sml t c e + low (t e) (c e) + 1 := g2
        have hne : t e ≠ 14 := fun h => by rw [h] at hb0; exact absurd hb0 (by decide)
        by_cases h8 : t e = 8
        · rw [if_pos h8]
          refine ⟨g1, fun j hj => hE j (by omega), ?_⟩
          rw [hl, h8, hc0]; show _ = sml t c e + 1; rfl
        · rw [if_neg h8]
          have h10 : 10 < t e := by have := k1 hb0; omega
          have hk := k3 h10 (by omega)
          have hlow : low (t e) (c e) = kCm (t e) := by unfold low; rw [if_neg (by omega), if_neg (by omega), hc0, Nat.sub_zero]
          obtain ⟨q1, q2⟩ := g1.app (op := t e) (u := 0) (by omega) (by omega) (by omega) (by decide) (fun h => by omega)
          refine ⟨q1, fun j hj => hE j (by omega), ?_⟩
          rw [q2]; show _ = sml t c e + 1; omega
    · change (tCm (o, v, n, t, c, d, 1)).1 = true at ha
      show tDs (tCm (o, v, n, t, c, d, 1)).2
      rw [tCm_eq hr] at ha ⊢
      by_cases hz : d1 = 0 ∨ c (d1 - 1) = 0
      · rw [if_pos hz] at ha; exact absurd (show false = true from ha) (by decide)
      · rw [if_neg hz]
        obtain ⟨e, rfl⟩ : ∃ e, d1 = e + 1 := ⟨d1 - 1, by omega⟩
        rw [Nat.add_sub_cancel] at *
        obtain ⟨e1, e2⟩ := hE e (by omega)
        have hl : hg o1 n1 = sml t c e + low (t e) (c e) + 1 := g2
        have kc0 : ∀ t, t < 15 → kCm t ≠ 0 → 10 < t ∧ t ≠ 14 := by decide
        have h10 := kc0 (t e) (by omega) (by omega)
        have hlow : ∀ y, low (t e) y = kCm (t e) - y := fun y => by unfold low; rw [if_neg (by omega), if_neg (by omega)]
        refine ⟨g1, fun j hj => ?_, ?_⟩
        · by_cases hj2 : j = e
          · subst hj2; rw [up_s]; exact ⟨e1, by omega⟩
          · rw [up_o hj2]; exact hE j (by omega)
        · show hg o1 n1 = sml t (va_up c e (c e - 1)) e + low (t e) (va_up c e (c e - 1) e) + 0
          rw [up_s, sml_eq (t := t) (c := c) (fun j hj => ⟨rfl, up_o (by omega)⟩), hl, hlow, hlow]
          omega
    · exact absurd (show false = true from ha) (by decide)
    · exact absurd (show false = true from ha) (by decide)
    · exact absurd (show false = true from ha) (by decide)
  · exact ⟨hG, hE, hh⟩
theorem tTr_ds {K U : Nat → Nat} {m : Nat} (hk : ∀ i, i < m → K i < 14) (hu : ∀ i, i < m → U i < 2 ^ 31) (hu8 : ∀ i, i < m → K i = 1 → U i < 8) : ∀ (r i : Nat), i + r = m → ∀ (s : TS), tOk i s → tDs s → (tTr K U m r i s).1 = 0 → cGd (tTr K U m r i s).2.1 (tTr K U m r i s).2.2.1 (tTr K U m r i s).2.2.2.1 ∧ hg (tTr K U m r i s).2.1 (tTr K U m r i s).2.2.2.1 = 1 ∧ (tTr K U m r i s).2.2.2.1 ≤ m := by
  intro r
  induction r with
  | zero =>
    intro i hi s hok hd h0
    obtain ⟨o, v, n, t, c, d, x⟩ := s
    obtain ⟨hG, hE, hh⟩ := hd
    obtain ⟨k1, k2, k3⟩ := hok
    obtain ⟨o1, v1, n1, d1, hr⟩ : ∃ o1 v1 n1 d1, rl 1 t d o v n = (o1, v1, n1, d1) := ⟨_, _, _, _, rfl⟩
    by_cases hx : x = 1
    · have e : tTr K U m 0 i (o, v, n, t, c, d, x) = (if d1 = 0 then 0 else m + 1, (o1, v1, n1, t, c, d1, x)) := tFi_eq hx hr
      rw [e] at h0 ⊢
      have hd0 : d1 = 0 := Classical.byContradiction fun h => by rw [if_neg h] at h0; exact absurd h0 (by omega)
      rw [if_pos hx] at hh
      obtain ⟨g1, g2, _⟩ := rl_ds (Nat.le_refl 1) hE hG hh hr
      have hs := rl_sum hr
      subst hd0
      exact ⟨g1, g2, by show n1 ≤ m; omega⟩
    · have e : tTr K U m 0 i (o, v, n, t, c, d, x) = (m + 1, (o, v, n, t, c, d, x)) := if_neg hx
      rw [e] at h0; exact absurd h0 (by show ¬ m + 1 = 0; omega)
  | succ r ih =>
    intro i hi s hok hd h0
    by_cases hac : (tAc (K i) (U i) s).1 = true
    · have e : tTr K U m (r + 1) i s = tTr K U m r (i + 1) (tAc (K i) (U i) s).2 := if_pos hac
      rw [e] at h0 ⊢
      refine ih (i + 1) (by omega) _ (tAc_ok hok (hk i (by omega)) hac) (tAc_ds hd ?_ (hk i (by omega)) (hu i (by omega)) (hu8 i (by omega)) hac) h0
      obtain ⟨o, v, n, t, c, d, x⟩ := s
      exact hok.2.2
    · have e : tTr K U m (r + 1) i s = (i + 1, (tAc (K i) (U i) s).2) := if_neg hac
      rw [e] at h0; exact absurd h0 (by show ¬ i + 1 = 0; omega)
theorem hg_mx (o : Nat → Nat) {i n : Nat} (h : i ≤ n) : hg o i ≤ mx o n := by
  induction n with
  | zero => rw [show i = 0 by omega]; exact Nat.le_refl 0
  | succ n ih =>
    show hg o i ≤ max (mx o n) (hg o (n + 1))
    by_cases hi : i = n + 1
    · subst hi; omega
    · have := ih (by omega); omega
theorem cOk_of {o v : Nat → Nat} {n : Nat} (hn : n ≤ 120) (h : cGd o v n) (hm : mx o n ≤ 10) : cOk o v n :=
  ⟨hn, fun i hi => by
    obtain ⟨h1, h2, h3, h4, h5⟩ := h i hi
    have := hg_mx o (show i ≤ n by omega); have := hg_mx o (show i + 1 ≤ n by omega)
    exact ⟨h1, h2, h3, by omega, by omega, h4, h5⟩⟩
/-! the state of the class, as the machine and the translator see it -/
def gOk (V G : Nat → Nat) : Prop := V 21 = 1 ∧ ∀ i, i < 18 → G i < 2 ∧ (G i = 1 → 0 < V i) ∧ V i < 2 ^ 768
def rV (V G : Nat → Nat) : Nat → Int := fun i => if i < 10 then wv (G i) (V i) else 0
def yV (V G : Nat → Nat) : Nat → Int := fun i => if i < 8 then wv (G (10 + i)) (V (10 + i)) else 0
theorem rV_lt {V G : Nat → Nat} (h : gOk V G) (i : Nat) : (rV V G i).natAbs < 2 ^ 768 := by
  unfold rV; split
  · rw [wv_abs]; exact (h.2 i (by omega)).2.2
  · show 0 < _; exact Nat.pow_pos (by decide)
theorem yV_lt {V G : Nat → Nat} (h : gOk V G) (i : Nat) : (yV V G i).natAbs < 2 ^ 768 := by
  unfold yV; split
  · rw [wv_abs]; exact (h.2 (10 + i) (by omega)).2.2
  · show 0 < _; exact Nat.pow_pos (by decide)
theorem bcS.tr {cI cL cQ : ClassId} {w : fw_W} {b : Nat} {I : Nat → Nat} {J : Nat → Nat → Nat} {V G : Nat → Nat} (h : bcS cI cL cQ w b I J V G) : trS cI w (b + 4) (J 2, J 3, I 1, J 4, J 5, I 2, I 3) := by
  obtain ⟨⟨b0, b1, b2, b3⟩, ⟨c0, c1, c2, c3, c4, c5⟩, ⟨m0, m1, m2, m3, m4, m5⟩, hR, hV, hN, hD⟩ := h
  exact ⟨c0, c1, c2, c3, c4, c5⟩
theorem bcS.ar {cI cL cQ : ClassId} {w : fw_W} {b : Nat} {I : Nat → Nat} {J : Nat → Nat → Nat} {V G : Nat → Nat} (h : bcS cI cL cQ w b I J V G) (hg : gOk V G) : arS cL w (b + 67) := by
  obtain ⟨⟨b0, b1, b2, b3⟩, ⟨c0, c1, c2, c3, c4, c5⟩, ⟨m0, m1, m2, m3, m4, m5⟩, hR, hV, hN, hD⟩ := h
  exact ⟨m3, m4, ⟨_, hN 0 (by decide)⟩, ⟨_, hN 1 (by decide)⟩, ⟨_, hN 2 (by decide)⟩, by have h1 := hN 3 (by decide); rw [show V (18 + 3) = 1 from hg.1] at h1; exact h1, ⟨_, hN 4 (by decide)⟩, ⟨_, hN 5 (by decide)⟩, ⟨_, hN 6 (by decide)⟩⟩
theorem bcS.ma {cI cL cQ : ClassId} {w : fw_W} {b : Nat} {I : Nat → Nat} {J : Nat → Nat → Nat} {V G : Nat → Nat} (h : bcS cI cL cQ w b I J V G) (hg : gOk V G) : maS cL cQ w b (I 4, I 5, I 6, I 7, rV V G) := by
  have hA := h.ar hg
  obtain ⟨⟨b0, b1, b2, b3⟩, ⟨c0, c1, c2, c3, c4, c5⟩, ⟨m0, m1, m2, m3, m4, m5⟩, hR, hV, hN, hD⟩ := h
  refine ⟨m0, m1, m2, fun i hi => ?_, hA⟩
  obtain ⟨g1, g2, g3⟩ := hg.2 i (by omega)
  exact ⟨G i, V i, g1, g2, (hR i hi).1, (hR i hi).2, (if_pos hi).symm⟩
theorem bcS.vr {cI cL cQ : ClassId} {w : fw_W} {b : Nat} {I : Nat → Nat} {J : Nat → Nat → Nat} {V G : Nat → Nat} (h : bcS cI cL cQ w b I J V G) (hg : gOk V G) : vrS cL w b (yV V G) := by
  obtain ⟨⟨b0, b1, b2, b3⟩, ⟨c0, c1, c2, c3, c4, c5⟩, ⟨m0, m1, m2, m3, m4, m5⟩, hR, hV, hN, hD⟩ := h
  intro i hi
  obtain ⟨g1, g2, g3⟩ := hg.2 (10 + i) (by omega)
  exact ⟨G (10 + i), V (10 + i), g1, g2, (hV i hi).1, (hV i hi).2, (if_pos hi).symm⟩
/-- and back -/
theorem bcS.mk {cI cL cQ : ClassId} {w : fw_W} {b : Nat} {I : Nat → Nat} {J : Nat → Nat → Nat} {R Y : Nat → Int} (b0 : w b = some (.inr (9, [.ref (b + 1), .ref (b + 4), .ref (b + 10), .ref (b + 83)]))) (b1 : w (b + 1) = some (.inr (6, [.ref (b + 2), .ref (b + 3), .int (nI (I 0))]))) (b2 : w (b + 2) = some (.inl (cI, 120, .inl (fun i => nI (J 0 i))))) (b3 : w (b + 3) = some (.inl (cI, 120, .inl (fun i => nI (J 1 i)))))
    (hT : trS cI w (b + 4) (J 2, J 3, I 1, J 4, J 5, I 2, I 3)) (hM : maS cL cQ w b (I 4, I 5, I 6, I 7, R)) (hY : vrS cL w b Y) (hR7 : ∀ i, i < 10 → (R i).natAbs < 2 ^ 768) (hY7 : ∀ i, i < 8 → (Y i).natAbs < 2 ^ 768) (d0 : w (b + 83) = some (.inr (2, [.ref (b + 84)]))) (hD : ∃ e, isV cL w (b + 84) e) :
    ∃ V G, bcS cI cL cQ w b I J V G ∧ gOk V G ∧ (∀ i, i < 10 → rV V G i = R i) ∧ (∀ i, i < 8 → yV V G i = Y i) := by
  obtain ⟨m0, m1, m2, hR, ⟨a0, a1, ⟨e2, a2⟩, ⟨e3, a3⟩, ⟨e4, a4⟩, a5, ⟨e6, a6⟩, ⟨e7, a7⟩, ⟨e8, a8⟩⟩⟩ := hM
  obtain ⟨eD, hD⟩ := hD
  have key : ∀ i : Nat, ∃ p : Nat × Nat, (i < 10 → w (b + 12 + 3 * i) = some (.inr (8, [.ref (b + 12 + 3 * i + 1), .int (nI p.2)])) ∧ isV cL w (b + 12 + 3 * i + 1) p.1 ∧ p.2 < 2 ∧ (p.2 = 1 → 0 < p.1) ∧ wv p.2 p.1 = R i) ∧
      (10 ≤ i → i < 18 → w (b + 43 + 3 * (i - 10)) = some (.inr (8, [.ref (b + 43 + 3 * (i - 10) + 1), .int (nI p.2)])) ∧ isV cL w (b + 43 + 3 * (i - 10) + 1) p.1 ∧ p.2 < 2 ∧ (p.2 = 1 → 0 < p.1) ∧ wv p.2 p.1 = Y (i - 10)) ∧
      (18 ≤ i → i < 25 → isV cL w (b + 69 + 2 * (i - 18)) p.1 ∧ (i = 21 → p.1 = 1)) ∧ (i = 25 → isV cL w (b + 84) p.1) := by
    intro i
    by_cases h1 : i < 10
    · obtain ⟨sg, x, q1, q2, q3, q4, q5⟩ := hR i h1
      exact ⟨(x, sg), fun _ => ⟨q3, q4, q1, q2, q5⟩, fun h => by omega, fun h => by omega, fun h => by omega⟩
    by_cases h2 : i < 18
    · obtain ⟨sg, x, q1, q2, q3, q4, q5⟩ := hY (i - 10) (by omega)
      exact ⟨(x, sg), fun h => by omega, fun _ _ => ⟨q3, q4, q1, q2, q5⟩, fun h => by omega, fun h => by omega⟩
    by_cases h3 : i < 25
    · rcases (show i = 18 ∨ i = 19 ∨ i = 20 ∨ i = 21 ∨ i = 22 ∨ i = 23 ∨ i = 24 by omega) with rfl | rfl | rfl | rfl | rfl | rfl | rfl
      · exact ⟨(e2, 0), fun h => by omega, fun _ h => by omega, fun _ _ => ⟨a2, fun h => by omega⟩, fun h => by omega⟩
      · exact ⟨(e3, 0), fun h => by omega, fun _ h => by omega, fun _ _ => ⟨a3, fun h => by omega⟩, fun h => by omega⟩
      · exact ⟨(e4, 0), fun h => by omega, fun _ h => by omega, fun _ _ => ⟨a4, fun h => by omega⟩, fun h => by omega⟩
      · exact ⟨(1, 0), fun h => by omega, fun _ h => by omega, fun _ _ => ⟨a5, fun _ => rfl⟩, fun h => by omega⟩
      · exact ⟨(e6, 0), fun h => by omega, fun _ h => by omega, fun _ _ => ⟨a6, fun h => by omega⟩, fun h => by omega⟩
      · exact ⟨(e7, 0), fun h => by omega, fun _ h => by omega, fun _ _ => ⟨a7, fun h => by omega⟩, fun h => by omega⟩
      · exact ⟨(e8, 0), fun h => by omega, fun _ h => by omega, fun _ _ => ⟨a8, fun h => by omega⟩, fun h => by omega⟩
    · exact ⟨(eD, 0), fun h => by omega, fun _ h => by omega, fun _ h => by omega, fun _ => hD⟩
  obtain ⟨f, hf⟩ := Classical.axiomOfChoice key
  refine ⟨fun i => (f i).1, fun i => (f i).2, ⟨⟨b0, b1, b2, b3⟩, hT, ⟨m0, m1, m2, a0, a1, d0⟩, fun i hi => ?_, fun i hi => ?_, fun i hi => ?_, (hf 25).2.2.2 rfl⟩, ⟨((hf 21).2.2.1 (by decide) (by decide)).2 rfl, fun i hi => ?_⟩, fun i hi => ?_, fun i hi => ?_⟩
  · have h := (hf i).1 hi; exact ⟨h.1, h.2.1⟩
  · have h := (hf (10 + i)).2.1 (by omega) (by omega); rw [show 10 + i - 10 = i by omega] at h; exact ⟨h.1, h.2.1⟩
  · have h := ((hf (18 + i)).2.2.1 (by omega) (by omega)).1; rw [show 18 + i - 18 = i by omega] at h; exact h
  · by_cases h10 : i < 10
    · have h := (hf i).1 h10
      refine ⟨h.2.2.1, h.2.2.2.1, ?_⟩
      have h7 := hR7 i h10; rw [← h.2.2.2.2, wv_abs] at h7; exact h7
    · have h := (hf i).2.1 (by omega) hi
      refine ⟨h.2.2.1, h.2.2.2.1, ?_⟩
      have h7 := hY7 (i - 10) (by omega); rw [← h.2.2.2.2, wv_abs] at h7; exact h7
  · show (if i < 10 then wv (f i).2 (f i).1 else 0) = R i
    rw [if_pos hi]; exact ((hf i).1 hi).2.2.2.2
  · show (if i < 8 then wv (f (10 + i)).2 (f (10 + i)).1 else 0) = Y i
    rw [if_pos hi]; have h := ((hf (10 + i)).2.1 (by omega) (by omega)).2.2.2.2; rw [show 10 + i - 10 = i by omega] at h; exact h
