/-- what the class's state and the reference's have in common -/
abbrev Rel (I : Nat → Nat) (J : Nat → Nat → Nat) (V G MI : Nat → Nat) (K : Nat → Nat → Nat) (S : Nat → Int32) (X : Nat → Nat) : Prop :=
  (gOk V G) ∧ (MI 3 = I 0) ∧ (I 0 ≤ 120) ∧ (∀ i, i < I 0 → K 0 i = J 0 i ∧ K 1 i = J 1 i ∧ J 0 i < 14 ∧ J 1 i < 2 ^ 31 ∧ (J 0 i = 1 → J 1 i < 8)) ∧ (MI 6 = if 0 < I 1 then 1 else 0) ∧ (MI 7 = I 1) ∧ (MI 16 = I 4) ∧ (MI 17 = I 5) ∧ (MI 18 = I 6) ∧ (MI 19 = I 7) ∧ (∀ i, i < I 1 → K 2 i = J 2 i ∧ K 3 i = J 3 i) ∧ (cOk (J 2) (J 3) (I 1)) ∧ (mOk (J 2) (I 1) (I 4, I 5, I 6, I 7, rV V G)) ∧ (mRf S X (I 4, I 5, I 6, I 7, rV V G) (yV V G))
section REL
variable {I : Nat → Nat} {J : Nat → Nat → Nat} {V G MI : Nat → Nat} {K : Nat → Nat → Nat} {S : Nat → Int32} {X : Nat → Nat}
theorem Rel.g (h : Rel I J V G MI K S X) : gOk V G := h.1
theorem Rel.m3 (h : Rel I J V G MI K S X) : MI 3 = I 0 := h.2.1
theorem Rel.i0 (h : Rel I J V G MI K S X) : I 0 ≤ 120 := h.2.2.1
theorem Rel.tok (h : Rel I J V G MI K S X) : ∀ i, i < I 0 → K 0 i = J 0 i ∧ K 1 i = J 1 i ∧ J 0 i < 14 ∧ J 1 i < 2 ^ 31 ∧ (J 0 i = 1 → J 1 i < 8) := h.2.2.2.1
theorem Rel.m6 (h : Rel I J V G MI K S X) : MI 6 = if 0 < I 1 then 1 else 0 := h.2.2.2.2.1
theorem Rel.m7 (h : Rel I J V G MI K S X) : MI 7 = I 1 := h.2.2.2.2.2.1
theorem Rel.m16 (h : Rel I J V G MI K S X) : MI 16 = I 4 := h.2.2.2.2.2.2.1
theorem Rel.m17 (h : Rel I J V G MI K S X) : MI 17 = I 5 := h.2.2.2.2.2.2.2.1
theorem Rel.m18 (h : Rel I J V G MI K S X) : MI 18 = I 6 := h.2.2.2.2.2.2.2.2.1
theorem Rel.m19 (h : Rel I J V G MI K S X) : MI 19 = I 7 := h.2.2.2.2.2.2.2.2.2.1
theorem Rel.cod (h : Rel I J V G MI K S X) : ∀ i, i < I 1 → K 2 i = J 2 i ∧ K 3 i = J 3 i := h.2.2.2.2.2.2.2.2.2.2.1
theorem Rel.ok (h : Rel I J V G MI K S X) : cOk (J 2) (J 3) (I 1) := h.2.2.2.2.2.2.2.2.2.2.2.1
theorem Rel.mk (h : Rel I J V G MI K S X) : mOk (J 2) (I 1) (I 4, I 5, I 6, I 7, rV V G) := h.2.2.2.2.2.2.2.2.2.2.2.2.1
theorem Rel.rf (h : Rel I J V G MI K S X) : mRf S X (I 4, I 5, I 6, I 7, rV V G) (yV V G) := h.2.2.2.2.2.2.2.2.2.2.2.2.2
theorem Rel.mi0 (h : Rel I J V G MI K S X) (k : Nat) : Rel I J V G (va_up MI 0 k) K S X := ⟨h.g, h.m3, h.i0, h.tok, h.m6, h.m7, h.m16, h.m17, h.m18, h.m19, h.cod, h.ok, h.mk, h.rf⟩
theorem Rel.sz (h : Rel I J V G MI K S X) : I 1 < 2 ^ 31 ∧ I 4 < 2 ^ 31 ∧ MI 6 < 2 ^ 31 ∧ MI 7 < 2 ^ 31 ∧ MI 16 < 2 ^ 31 := by
  have h1 := h.ok.1; have h2 := h.mk.1; have h3 := h.m6; have h4 := h.m7; have h5 := h.m16
  refine ⟨by omega, by omega, ?_, by omega, by omega⟩
  rw [h3]; split <;> decide
theorem Rel.no (h : Rel I J V G MI K S X) (hn : ¬ (0 < I 1 ∧ I 4 = I 1)) : ¬ (0 < MI 6 ∧ MI 16 = MI 7) := by
  rw [h.m6, h.m16, h.m7]
  intro h2
  by_cases h3 : 0 < I 1
  · exact hn ⟨h3, h2.2⟩
  · rw [if_neg h3] at h2; exact absurd h2.1 (by decide)
theorem Rel.yes (h : Rel I J V G MI K S X) (h0 : 0 < I 1) (h4 : I 4 = I 1) : 0 < MI 6 ∧ MI 16 = MI 7 := by
  rw [h.m6, h.m16, h.m7, if_pos h0]; exact ⟨by decide, h4⟩
/-- the result stands in register 0 of both -/
theorem Rel.res (h : Rel I J V G MI K S X) (h0 : 0 < I 1) (h4 : I 4 = I 1) : X 0 = (rV V G 0).natAbs ∧ S 0 = sg32 (rV V G 0) := by
  obtain ⟨k1, k2, k3, k4, k5, k6, k7⟩ := h.mk
  have hf : I 7 = 0 := Classical.byContradiction fun h9 => absurd (k6 h9) (by omega)
  refine h.rf.1 hf 0 ?_
  show 0 < I 5
  rw [k2, h4]
  obtain ⟨n, hn⟩ : ∃ n, I 1 = n + 1 := ⟨I 1 - 1, by omega⟩
  rw [hn]; exact Nat.succ_pos _
theorem Rel.v0 (h : Rel I J V G MI K S X) (h0 : 0 < I 1) (h4 : I 4 = I 1) : V 0 = X 0 := by
  rw [(h.res h0 h4).1]; exact (wv_abs (G 0) (V 0)).symm
theorem Rel.x9 (h : Rel I J V G MI K S X) : ∀ p, X p < nM ^ 64 := h.rf.2.2.2.2
theorem Rel.x70 (h : Rel I J V G MI K S X) (h0 : 0 < I 1) (h4 : I 4 = I 1) : X 0 < 2 ^ 768 := by
  rw [← h.v0 h0 h4]; exact (h.g.2 0 (by decide)).2.2
theorem Rel.sgn (h : Rel I J V G MI K S X) (h0 : 0 < I 1) (h4 : I 4 = I 1) : (if V 0 = 0 then nI 0 else if G 0 = 0 then nI 1 else -1) = S 0 := by
  rw [(h.res h0 h4).2, show rV V G 0 = wv (G 0) (V 0) from rfl]
  obtain ⟨hg, hg1, -⟩ := h.g.2 0 (by decide)
  rcases (show G 0 = 0 ∨ G 0 = 1 by omega) with e | e
  · rw [e, wv_0]
    by_cases hv : V 0 = 0
    · rw [if_pos hv, sg32_z (by omega)]
    · rw [if_neg hv, if_pos rfl, sg32_p (by omega)]
  · have := hg1 e
    rw [e, wv_1, if_neg (by omega), if_neg (by decide), sg32_n (by omega)]
/-- places of the reference's that nobody reads have changed, and the class's room for digits -/
theorem Rel.dig (h : Rel I J V G MI K S X) {e4 e5 : Nat} {s : Int32} (he : e5 ≤ X 0) : Rel I J (va_up V 25 e4) G (va_up MI 0 0) K (va_up S 18 s) (va_up X 18 e5) := by
  have hV : ∀ i, i < 22 → va_up V 25 e4 i = V i := fun i hi => up_o (by omega)
  have hr : rV (va_up V 25 e4) G = rV V G := by
    funext i; unfold rV; split
    · rw [hV i (by omega)]
    · rfl
  have hy : yV (va_up V 25 e4) G = yV V G := by
    funext i; unfold yV; split
    · rw [hV (10 + i) (by omega)]
    · rfl
  refine ⟨⟨by rw [hV 21 (by decide)]; exact h.g.1, fun i hi => by rw [hV i (by omega)]; exact h.g.2 i hi⟩, h.m3, h.i0, h.tok, h.m6, h.m7, h.m16, h.m17, h.m18, h.m19, h.cod, h.ok, by rw [hr]; exact h.mk, ?_⟩
  rw [hr, hy]
  obtain ⟨r1, r2, r3, r4, r5⟩ := h.rf
  have hu : I 5 ≤ 10 := h.mk.2.2.1
  refine ⟨fun h0 i hi => ?_, fun j hj => ?_, by rw [up_o (by omega)]; exact r3, by rw [up_o (by omega)]; exact r4, fun p => ?_⟩
  · have hi' : i < I 5 := hi
    rw [up_o (by omega), up_o (by omega)]; exact r1 h0 i hi
  · rw [up_o (by omega), up_o (by omega)]; exact r2 j hj
  · unfold va_up; split
    · exact Nat.lt_of_le_of_lt he (r5 0)
    · exact r5 p
/-- a variable has changed in both -/
theorem Rel.var (h : Rel I J V G MI K S X) {j x g k : Nat} {s : Int32} (hj : j < 8) (hg : g < 2) (hg1 : g = 1 → 0 < x) (hx : x < 2 ^ 768) (hs : s = sg32 (wv g x)) : Rel I J (va_up V (10 + j) x) (va_up G (10 + j) g) (va_up MI 0 k) K (va_up S (10 + j) s) (va_up X (10 + j) x) := by
  have hr : rV (va_up V (10 + j) x) (va_up G (10 + j) g) = rV V G := by
    funext i; unfold rV; split
    · rw [up_o (by omega), up_o (by omega)]
    · rfl
  have hy : ∀ i, i < 8 → yV (va_up V (10 + j) x) (va_up G (10 + j) g) i = if i = j then wv g x else yV V G i := fun i hi => by
    unfold yV; rw [if_pos hi, if_pos hi]
    by_cases e : i = j
    · rw [if_pos e, e, up_s, up_s]
    · rw [if_neg e, up_o (by omega), up_o (by omega)]
  refine ⟨⟨by rw [up_o (by omega)]; exact h.g.1, fun i hi => ?_⟩, h.m3, h.i0, h.tok, h.m6, h.m7, h.m16, h.m17, h.m18, h.m19, h.cod, h.ok, by rw [hr]; exact h.mk, ?_⟩
  · by_cases e : i = 10 + j
    · rw [e, up_s, up_s]; exact ⟨hg, hg1, hx⟩
    · rw [up_o e, up_o e]; exact h.g.2 i hi
  · rw [hr]
    obtain ⟨r1, r2, r3, r4, r5⟩ := h.rf
    have hu : I 5 ≤ 10 := h.mk.2.2.1
    refine ⟨fun h0 i hi => ?_, fun i hi => ?_, by rw [up_o (by omega)]; exact r3, by rw [up_o (by omega)]; exact r4, fun p => ?_⟩
    · have hi' : i < I 5 := hi
      rw [up_o (by omega), up_o (by omega)]; exact r1 h0 i hi
    · rw [hy i hi]
      by_cases e : i = j
      · rw [if_pos e, e, up_s, up_s, wv_abs]; exact ⟨rfl, hs⟩
      · rw [if_neg e, up_o (by omega), up_o (by omega)]; exact r2 i hi
    · unfold va_up; split
      · exact Nat.lt_trans hx (by decide +kernel)
      · exact r5 p
theorem Rel.keep (h : Rel I J V G MI K S X) (h0 : 0 < I 1) (h4 : I 4 = I 1) {j : Nat} (hj : j < 8) : Rel I J (va_up V (10 + j) (V 0)) (va_up G (10 + j) (G 0)) (va_up MI 0 0) K (va_up S (10 + j) (S 0)) (va_up X (10 + j) (X 0)) := by
  obtain ⟨a1, a2, a3⟩ := h.g.2 0 (by decide)
  rw [← h.v0 h0 h4]
  exact h.var hj a1 a2 a3 (h.res h0 h4).2
theorem Rel.set (h : Rel I J V G MI K S X) {j y : Nat} (hj : j < 8) (hy : y < 2 ^ 64) : Rel I J (va_up V (10 + j) (lmg y)) (va_up G (10 + j) (lsg y)) (va_up MI 0 0) K (va_up S (10 + j) (sgI y)) (va_up X (10 + j) (lmg y)) := by
  have hl := lmg_lt hy
  refine h.var hj (by unfold lsg; split <;> decide) (fun h9 => ?_) (Nat.lt_trans hl (by decide +kernel)) ?_
  · unfold lsg at h9; unfold lmg; split at h9
    · exact absurd h9 (by decide)
    · next e => rw [if_neg e]; omega
  · unfold sgI lsg lmg
    by_cases e : y < 2 ^ 63
    · rw [if_pos e, if_pos e, if_pos e, wv_0]
      by_cases e2 : y = 0
      · rw [if_pos e2, sg32_z (by omega)]
      · rw [if_neg e2, sg32_p (by omega)]
    · rw [if_neg e, if_neg e, if_neg e, wv_1, sg32_n (by omega)]
theorem Rel.restart (h : Rel I J V G MI K S X) : Rel (fun i => if 4 ≤ i then 0 else I i) J V G (fun i => if 16 ≤ i then 0 else va_up MI 0 0 i) K S X :=
  ⟨h.g, h.m3, h.i0, h.tok, h.m6, h.m7, rfl, rfl, rfl, rfl, h.cod, h.ok, ⟨Nat.zero_le _, rfl, show 0 ≤ 10 by decide, show 0 ≤ 10 by decide, show 0 < 7 by decide, fun h9 => absurd rfl h9, rV_lt h.g⟩, ⟨fun _ i hi => absurd (show i < 0 from hi) (Nat.not_lt_zero i), h.rf.2⟩⟩
theorem mRun_eq {o v o' v' : Nat → Nat} {Y : Nat → Int} {sz : Nat} (h : ∀ i, i < sz → o' i = o i ∧ v' i = v i) (k : Nat) : ∀ s : MS, mRun o' v' Y sz k s = mRun o v Y sz k s := by
  induction k with
  | zero => intro s; rfl
  | succ k ih =>
    intro s
    show (if s.1 < sz ∧ s.2.2.2.1 = 0 then mRun o' v' Y sz k (mStep o' v' Y s) else s) = if s.1 < sz ∧ s.2.2.2.1 = 0 then mRun o v Y sz k (mStep o v Y s) else s
    by_cases hc : s.1 < sz ∧ s.2.2.2.1 = 0
    · rw [if_pos hc, if_pos hc, ih]
      obtain ⟨nx, us, mo, fa, R⟩ := s
      have h1 := h nx hc.1
      have e : mStep o' v' Y (nx, us, mo, fa, R) = mStep o v Y (nx, us, mo, fa, R) := by simp only [mStep, h1.1, h1.2]
      rw [e]
    · rw [if_neg hc, if_neg hc]
theorem cOk_eq {o v o' v' : Nat → Nat} {sz : Nat} (h : ∀ i, i < sz → o' i = o i ∧ v' i = v i) (hc : cOk o v sz) : cOk o' v' sz := ⟨hc.1, fun i hi => by
  rw [(h i hi).1, (h i hi).2, hg_eq (o := o) (o' := o') (n := i) (fun j hj => (h j (by omega)).1), hg_eq (o := o) (o' := o') (n := i + 1) (fun j hj => (h j (by omega)).1)]
  exact hc.2 i hi⟩
theorem mOk_eq {o v o' v' : Nat → Nat} {sz nx us mo fa : Nat} {R : Nat → Int} (h : ∀ i, i < sz → o' i = o i ∧ v' i = v i) (hm : mOk o sz (nx, us, mo, fa, R)) : mOk o' sz (nx, us, mo, fa, R) := by
  obtain ⟨k1, k2, k3⟩ := hm
  exact ⟨k1, by rw [hg_eq (o := o) (o' := o') (fun j hj => (h j (by omega)).1)]; exact k2, k3⟩
theorem Rel.run (h : Rel I J V G MI K S X) {Z : MS} {V2 G2 X2 : Nat → Nat} {S2 : Nat → Int32} (hz : mOk (J 2) (I 1) Z) (g2 : gOk V2 G2) (z3 : ∀ i, i < 10 → rV V2 G2 i = Z.2.2.2.2 i) (z4 : ∀ i, i < 8 → yV V2 G2 i = yV V G i) (hrf : mRf S2 X2 Z (yV V G)) : Rel (mI I Z) J V2 G2 (moI (va_up MI 0 0) Z) K S2 X2 := by
  obtain ⟨nx, us, mo, fa, R⟩ := Z
  obtain ⟨k1, k2, k3, k4, k5, k6, k7⟩ := hz
  refine ⟨g2, h.m3, h.i0, h.tok, h.m6, h.m7, rfl, rfl, rfl, rfl, h.cod, h.ok, ⟨k1, k2, k3, k4, k5, k6, rV_lt g2⟩, ?_⟩
  refine ⟨fun h0 i hi => ?_, fun j hj => ?_, hrf.2.2⟩
  · have hi' : i < us := hi
    have e : rV V2 G2 i = R i := z3 i (by omega)
    show X2 i = (rV V2 G2 i).natAbs ∧ S2 i = sg32 (rV V2 G2 i)
    rw [e]; exact hrf.1 h0 i hi
  · rw [z4 j hj]; exact hrf.2.1 j hj
theorem tk_ok {k u : Nat} (hk : k < 2 ^ 32) (hu : u < 2 ^ 32) (h : tk (nI k) (nI u) = true) : k < 14 ∧ u < 2 ^ 31 ∧ (k = 1 → u < 8) := by
  unfold tk at h
  have neg : ∀ n, n < 2 ^ 32 → ¬ nI n < 0 → n < 2 ^ 31 := fun n hn h0 => by
    rw [Int32.lt_iff_toInt_lt, nI_ti hn, show (0 : Int32).toInt = 0 by decide] at h0
    split at h0 <;> omega
  by_cases h1 : nI k < 0
  · rw [if_pos h1] at h; cases h
  · rw [if_neg h1] at h
    have hk31 := neg k hk h1
    by_cases h2 : nI k ≤ nI 13
    · rw [if_pos h2] at h
      have hk14 : k < 14 := by rw [Int32.le_iff_toInt_le, nI_toInt hk31, nI_toInt (by decide)] at h2; omega
      by_cases h3 : nI k = 0
      · rw [if_pos h3, Bool.not_eq_true', decide_eq_false_iff_not] at h
        have h5 : k = 0 := (nI_eq0 hk).mp h3
        exact ⟨hk14, neg u hu h, fun e => absurd e (by omega)⟩
      · rw [if_neg h3] at h
        by_cases h4 : nI k = nI 1
        · rw [if_pos h4, Bool.and_eq_true, Bool.not_eq_true', Bool.not_eq_true', decide_eq_false_iff_not, decide_eq_false_iff_not] at h
          have h5 := neg u hu h.1
          refine ⟨hk14, h5, fun _ => ?_⟩
          have h6 := h.2
          rw [Int32.le_iff_toInt_le, nI_toInt h5, nI_toInt (by decide)] at h6
          omega
        · rw [if_neg h4, decide_eq_true_iff] at h
          have h5 : u = 0 := (nI_eq0 hu).mp h
          exact ⟨hk14, by omega, fun e => absurd (by rw [e]) h4⟩
    · rw [if_neg h2] at h; cases h
theorem Rel.feed (h : Rel I J V G MI K S X) {k u : Nat} (hk : k < 14) (hu : u < 2 ^ 31) (hu8 : k = 1 → u < 8) (h0 : I 0 < 120) : Rel (va_up I 0 (I 0 + 1)) (va_up (va_up J 0 (va_up (J 0) (I 0) k)) 1 (va_up (J 1) (I 0) u)) V G (va_up (va_up MI 0 0) 3 (MI 3 + 1)) (va_up (va_up K 0 (va_up (K 0) (MI 3) k)) 1 (va_up (K 1) (MI 3) u)) S X := by
  refine ⟨h.g, congrArg (· + 1) h.m3, by show I 0 + 1 ≤ 120; omega, fun i hi => ?_, h.m6, h.m7, h.m16, h.m17, h.m18, h.m19, h.cod, h.ok, h.mk, h.rf⟩
  have hi' : i < I 0 + 1 := hi
  show va_up (K 0) (MI 3) k i = va_up (J 0) (I 0) k i ∧ va_up (K 1) (MI 3) u i = va_up (J 1) (I 0) u i ∧ va_up (J 0) (I 0) k i < 14 ∧ va_up (J 1) (I 0) u i < 2 ^ 31 ∧ (va_up (J 0) (I 0) k i = 1 → va_up (J 1) (I 0) u i < 8)
  rw [h.m3]
  by_cases e : i = I 0
  · rw [e, up_s, up_s, up_s, up_s]; exact ⟨rfl, rfl, hk, hu, hu8⟩
  · rw [up_o e, up_o e, up_o e, up_o e]; exact h.tok i (by omega)
theorem tTr_eq {K U K' U' : Nat → Nat} {m : Nat} (h : ∀ i, i < m → K' i = K i ∧ U' i = U i) : ∀ (r i : Nat), i + r = m → ∀ s : TS, tTr K' U' m r i s = tTr K U m r i s := by
  intro r
  induction r with
  | zero => intro i _ s; rfl
  | succ r ih =>
    intro i hi s
    show (if (tAc (K' i) (U' i) s).1 = true then tTr K' U' m r (i + 1) (tAc (K' i) (U' i) s).2 else (i + 1, (tAc (K' i) (U' i) s).2)) = if (tAc (K i) (U i) s).1 = true then tTr K U m r (i + 1) (tAc (K i) (U i) s).2 else (i + 1, (tAc (K i) (U i) s).2)
    rw [(h i (by omega)).1, (h i (by omega)).2, ih (i + 1) (by omega)]
theorem Rel.cgd (h : Rel I J V G MI K S X) {a9 n9 d9 x9 : Nat} {o9 v9 t9 c9 : Nat → Nat} (hct : cT I J = (a9, (o9, v9, n9, t9, c9, d9, x9))) (ha : a9 = 0) : cGd o9 v9 n9 ∧ hg o9 n9 = 1 ∧ n9 ≤ I 0 := by
  have hds := tTr_ds (K := J 0) (U := J 1) (m := I 0) (fun i hi => (h.tok i hi).2.2.1) (fun i hi => (h.tok i hi).2.2.2.1) (fun i hi => (h.tok i hi).2.2.2.2) (I 0) 0 (by omega) (J 2, J 3, 0, J 4, J 5, 0, 0) ⟨Nat.le_refl 0, fun j hj => absurd hj (Nat.not_lt_zero j), by decide⟩ ⟨fun i hi => absurd hi (Nat.not_lt_zero i), fun j hj => absurd hj (Nat.not_lt_zero j), rfl⟩
  have hct2 : tTr (J 0) (J 1) (I 0) (I 0) 0 (J 2, J 3, 0, J 4, J 5, 0, 0) = (a9, (o9, v9, n9, t9, c9, d9, x9)) := hct
  rw [hct2] at hds
  exact hds ha
theorem Rel.cmp (h : Rel I J V G MI K S X) {a9 n9 d9 x9 : Nat} {o9 v9 t9 c9 MI2 : Nat → Nat} {K2 : Nat → Nat → Nat} (hct : cT I J = (a9, (o9, v9, n9, t9, c9, d9, x9)))
    (y : K2 0 = K 0 ∧ K2 1 = K 1 ∧ MI2 0 = 0 ∧ MI2 3 = 0 ∧ MI2 16 = 0 ∧ MI2 17 = 0 ∧ MI2 18 = 0 ∧ MI2 19 = 0 ∧ ((a9 = 0 ∧ mx o9 n9 ≤ 10) → MI2 6 = 1 ∧ MI2 7 = n9 ∧ ∀ i, i < n9 → K2 2 i = o9 i ∧ K2 3 i = v9 i) ∧ (¬ (a9 = 0 ∧ mx o9 n9 ≤ 10) → MI2 6 = 0 ∧ MI2 7 = 0)) : Rel (cI9 I J) (cJ9 I J) V G MI2 K2 S X := by
  obtain ⟨-, -, -, y3, y16, y17, y18, y19, yg, yn⟩ := y
  have hI : cI9 I J = fun i => if i = 1 then (if a9 = 0 ∧ mx o9 n9 ≤ 10 then n9 else 0) else if i = 2 then d9 else if i = 3 then x9 else 0 := by unfold cI9; rw [hct]
  have hJ : cJ9 I J = fun j => if j = 0 then J 0 else if j = 1 then J 1 else if j = 2 then o9 else if j = 3 then v9 else if j = 4 then t9 else c9 := by unfold cJ9; rw [hct]
  rw [hI, hJ]
  have h0 := h.i0
  have mk0 : ∀ (o : Nat → Nat) (n : Nat), mOk o n (0, 0, 0, 0, rV V G) := fun o n => ⟨Nat.zero_le _, rfl, show 0 ≤ 10 by decide, show 0 ≤ 10 by decide, show 0 < 7 by decide, fun h9 => absurd rfl h9, rV_lt h.g⟩
  have rf0 : mRf S X (0, 0, 0, 0, rV V G) (yV V G) := ⟨fun _ i hi => absurd (show i < 0 from hi) (Nat.not_lt_zero i), h.rf.2⟩
  by_cases hg : a9 = 0 ∧ mx o9 n9 ≤ 10
  · obtain ⟨q6, q7, q8⟩ := yg hg
    obtain ⟨c1, c2, c3⟩ := h.cgd hct hg.1
    have hn : 0 < n9 := Nat.pos_of_ne_zero fun e => by rw [e] at c2; exact absurd (show 0 = 1 from c2) (by decide)
    have e1 : (fun i => if i = 1 then (if a9 = 0 ∧ mx o9 n9 ≤ 10 then n9 else 0) else if i = 2 then d9 else if i = 3 then x9 else 0) = (fun i => if i = 1 then n9 else if i = 2 then d9 else if i = 3 then x9 else 0) := by rw [if_pos hg]
    rw [e1]
    refine ⟨h.g, y3, show 0 ≤ 120 by decide, fun i hi => absurd (show i < 0 from hi) (Nat.not_lt_zero i), ?_, q7, y16, y17, y18, y19, q8, ⟨show n9 ≤ 120 by omega, fun i hi => ?_⟩, mk0 _ _, rf0⟩
    · rw [q6]; exact (if_pos hn).symm
    · have hi' : i < n9 := hi
      obtain ⟨g1, g2, g3, g4, g5⟩ := c1 i hi'
      exact ⟨g1, g2, g3, Nat.le_trans (hg_mx o9 (Nat.le_of_lt hi')) hg.2, Nat.le_trans (hg_mx o9 hi') hg.2, g4, g5⟩
  · obtain ⟨q6, q7⟩ := yn hg
    have e1 : (fun i => if i = 1 then (if a9 = 0 ∧ mx o9 n9 ≤ 10 then n9 else 0) else if i = 2 then d9 else if i = 3 then x9 else 0) = (fun i => if i = 1 then 0 else if i = 2 then d9 else if i = 3 then x9 else 0) := by rw [if_neg hg]
    rw [e1]
    exact ⟨h.g, y3, show 0 ≤ 120 by decide, fun i hi => absurd (show i < 0 from hi) (Nat.not_lt_zero i), q6, q7, y16, y17, y18, y19, fun i hi => absurd (show i < 0 from hi) (Nat.not_lt_zero i), ⟨show 0 ≤ 120 by decide, fun i hi => absurd (show i < 0 from hi) (Nat.not_lt_zero i)⟩, mk0 _ _, rf0⟩
end REL
theorem moC0_mC : moC0 = mC (fun p => if p = 23 then 1 else 0) := by
  funext i
  unfold moC0 mC
  by_cases h : i = 1472
  · subst h; decide
  · rw [if_neg h]
    show 0 = (if i / 64 = 23 then 1 else 0) / nM ^ (i % 64) % nM
    by_cases h2 : i / 64 = 23
    · rw [if_pos h2]
      have h3 : 1 < nM ^ (i % 64) := by
        obtain ⟨k, hk⟩ : ∃ k, i % 64 = k + 1 := ⟨i % 64 - 1, by omega⟩
        rw [hk, Nat.pow_succ]
        exact Nat.lt_of_lt_of_le (show 1 < nM by decide) (Nat.le_mul_of_pos_left _ (Nat.pow_pos (by decide)))
      rw [Nat.div_eq_of_lt h3, Nat.zero_mod]
    · rw [if_neg h2, Nat.zero_div, Nat.zero_mod]
theorem setC_mC {X : Nat → Nat} {j m : Nat} (hm : m < 2 ^ 64) : setC (mC X) j m = mC (va_up X (10 + j) m) := by
  unfold setC
  rw [clr_all]
  funext t
  by_cases hb : 64 * (10 + j) ≤ t ∧ t < 64 * (10 + j) + 64
  · obtain ⟨i, hi, rfl⟩ : ∃ i, i < 64 ∧ t = 64 * (10 + j) + i := ⟨t - 64 * (10 + j), by omega, by omega⟩
    rw [mC_at _ hi, up_s]
    rcases (show i = 0 ∨ i = 1 ∨ i = 2 ∨ 3 ≤ i by omega) with rfl | rfl | rfl | h3
    · rw [up_o (by omega), up_o (by omega)]; exact up_s.trans (by rw [Nat.pow_zero, Nat.div_one])
    · rw [up_o (by omega), up_s, Nat.pow_one]
    · rw [up_s, show nM ^ 2 = 281474976710656 by decide, show nM = 16777216 from rfl, Nat.mod_eq_of_lt (by omega)]
    · rw [up_o (by omega), up_o (by omega), up_o (by omega), mC_at _ hi, up_s, Nat.zero_div, Nat.zero_mod, Nat.div_eq_of_lt (Nat.lt_of_lt_of_le (Nat.lt_trans hm (show 2 ^ 64 < nM ^ 3 by decide)) (Nat.pow_le_pow_right (by decide) h3)), Nat.zero_mod]
  · rw [up_o (by omega), up_o (by omega), up_o (by omega)]
    unfold mC
    rw [up_o (show t / 64 ≠ 10 + j by omega), up_o (show t / 64 ≠ 10 + j by omega)]
theorem Rel_0 : Rel (fun _ => 0) (fun _ _ => 0) bcV0 (fun _ => 0) (fun _ => 0) (fun _ _ => 0) moS0 (fun p => if p = 23 then 1 else 0) := by
  have hV : ∀ i, i < 18 → bcV0 i = 0 := fun i hi => by unfold bcV0; rw [if_neg (by omega)]
  have hg : gOk bcV0 (fun _ => 0) := ⟨rfl, fun i hi => ⟨show 0 < 2 by decide, fun h => absurd (show 0 = 1 from h) (by decide), by rw [hV i hi]; exact Nat.pow_pos (by decide)⟩⟩
  refine ⟨hg, rfl, show 0 ≤ 120 by decide, fun i hi => absurd hi (Nat.not_lt_zero i), rfl, rfl, rfl, rfl, rfl, rfl, fun i hi => absurd hi (Nat.not_lt_zero i), ⟨show 0 ≤ 120 by decide, fun i hi => absurd hi (Nat.not_lt_zero i)⟩, ⟨Nat.le_refl 0, rfl, show 0 ≤ 10 by decide, show 0 ≤ 10 by decide, show 0 < 7 by decide, fun h9 => absurd rfl h9, rV_lt hg⟩, ⟨fun _ i hi => absurd (show i < 0 from hi) (Nat.not_lt_zero i), fun j hj => ?_, rfl, rfl, fun p => ?_⟩⟩
  · have e : yV bcV0 (fun _ => 0) j = 0 := by unfold yV; rw [if_pos hj, hV _ (by omega)]; rfl
    rw [e]
    refine ⟨?_, ?_⟩
    · show (if 10 + j = 23 then 1 else 0) = 0; rw [if_neg (by omega)]
    · unfold moS0; rw [if_neg (by omega)]; rfl
  · show (if p = 23 then 1 else 0) < nM ^ 64
    have : 1 < nM ^ 64 := by decide +kernel
    split <;> omega
