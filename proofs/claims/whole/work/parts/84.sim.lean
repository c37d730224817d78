/-- both translators: what the class's state and the reference's have in common behind i tokens -/
def sim (i : Nat) : TS → US → Prop
  | (o, v, n, t, c, d, x), (o', v', n', t', c', d', x', cl, op) => n' = n ∧ x' = x ∧ (∀ j, j < n → o' j = o j ∧ v' j = v j) ∧ (∀ j, j < d' → t' j = t j ∧ c' j = c j) ∧ uOk i (o', v', n', t', c', d', x', cl, op) ∧ (x = 2 → d = d' + 1 ∧ t d' = cl ∧ c d' = kCm cl) ∧ (x ≠ 2 → d = d')
theorem rl_sim {bd : Nat} {t t' : Nat → Nat} (d : Nat) : ∀ {n n1 d1 : Nat} {o v o' v' o1 v1 : Nat → Nat}, (∀ j, j < d → t' j = t j) → (∀ j, j < n → o' j = o j ∧ v' j = v j) → rl bd t d o v n = (o1, v1, n1, d1) → ∃ o2 v2, rl bd t' d o' v' n = (o2, v2, n1, d1) ∧ ∀ j, j < n1 → o2 j = o1 j ∧ v2 j = v1 j := by
  induction d with
  | zero => intro n n1 d1 o v o' v' o1 v1 ht hov h; cases h; exact ⟨o', v', rfl, hov⟩
  | succ d ih =>
    intro n n1 d1 o v o' v' o1 v1 ht hov h
    have hd := ht d (by omega)
    by_cases hb : bd ≤ kBi (t d)
    · rw [rl_yes hb] at h
      rw [rl_yes (by rw [hd]; exact hb), hd]
      refine ih (fun j hj => ht j (by omega)) (fun j hj => ?_) h
      by_cases e : j = n
      · subst e; exact ⟨by rw [up_s, up_s], by rw [up_s, up_s]⟩
      · rw [up_o e, up_o e, up_o e, up_o e]; exact hov j (by omega)
    · rw [rl_no hb] at h
      cases h
      exact ⟨o', v', rl_no (by rw [hd]; exact hb), hov⟩
theorem rl_cnt {bd : Nat} {t : Nat → Nat} (hb : 1 ≤ bd) (d : Nat) : ∀ {n n1 d1 : Nat} {o v o1 v1 : Nat → Nat}, rl bd t d o v n = (o1, v1, n1, d1) → cnt t d1 = cnt t d ∧ (0 < d1 → kBi (t (d1 - 1)) < bd) := by
  induction d with
  | zero => intro n n1 d1 o v o1 v1 h; cases h; exact ⟨rfl, fun h => absurd h (by omega)⟩
  | succ d ih =>
    intro n n1 d1 o v o1 v1 h
    by_cases hy : bd ≤ kBi (t d)
    · rw [rl_yes hy] at h
      have h2 := ih h
      refine ⟨?_, h2.2⟩
      rw [h2.1]; show cnt t d = cnt t d + if 1 ≤ kBi (t d) then 0 else 1
      rw [if_pos (by omega)]; rfl
    · rw [rl_no hy] at h
      cases h
      exact ⟨rfl, fun _ => by rw [Nat.add_sub_cancel]; omega⟩
theorem rl_5 {t : Nat → Nat} {d n : Nat} {o v : Nat → Nat} (ht : ∀ j, j < d → t j < 15) : rl 5 t d o v n = (o, v, n, d) := by
  cases d with
  | zero => rfl
  | succ d => exact rl_no (by have := (show ∀ k, k < 15 → ¬ 5 ≤ kBi k by decide) _ (ht d (by omega)); exact this)
theorem cnt_up {t : Nat → Nat} {k : Nat} (e : Nat) (d : Nat) (h : d ≤ e) : cnt (va_up t e k) d = cnt t d := by
  induction d with
  | zero => rfl
  | succ d ih =>
    show cnt (va_up t e k) d + (if 1 ≤ kBi (va_up t e k d) then 0 else 1) = cnt t d + if 1 ≤ kBi (t d) then 0 else 1
    rw [ih (by omega), up_o (by omega)]
theorem cnt_push (t : Nat → Nat) (d k : Nat) : cnt (va_up t d k) (d + 1) = cnt t d + if 1 ≤ kBi k then 0 else 1 := by
  show cnt (va_up t d k) d + (if 1 ≤ kBi (va_up t d k d) then 0 else 1) = _
  rw [cnt_up d d (Nat.le_refl _), up_s]
theorem sim_push {i kk cc x2 op2 n d cl : Nat} {o v t c o' v' t' c' : Nat → Nat} (hx : x2 < 2) (hk : 1 < kk ∧ kk < 15) (hc : cc < 3) (hnd : n + d ≤ i) (hov : ∀ j, j < n → o' j = o j ∧ v' j = v j) (htc : ∀ j, j < d → t' j = t j ∧ c' j = c j) (ht : ∀ j, j < d → 1 < t' j ∧ t' j < 15 ∧ c' j < 3) (hop : op2 = cnt t' d + if 1 ≤ kBi kk then 0 else 1) : sim (i + 1) (o, v, n, va_up t d kk, va_up c d cc, d + 1, x2) (o', v', n, va_up t' d kk, va_up c' d cc, d + 1, x2, cl, op2) := by
  refine ⟨rfl, rfl, hov, fun j hj => ?_, ⟨by omega, fun j hj => ?_, by omega, fun h => absurd h (by omega), by rw [cnt_push]; exact hop⟩, fun h => absurd h (by omega), fun _ => rfl⟩
  · by_cases e : j = d
    · subst e; exact ⟨by rw [up_s, up_s], by rw [up_s, up_s]⟩
    · rw [up_o e, up_o e, up_o e, up_o e]; exact htc j (by omega)
  · by_cases e : j = d
    · subst e; rw [up_s, up_s]; exact ⟨hk.1, hk.2, hc⟩
    · rw [up_o e, up_o e]; exact ht j (by omega)
theorem sim_step {i k u : Nat} {s : TS} {q : US} (h : sim i s q) (hk : k < 14) : (uSt k u q).1 = (tAc k u s).1 ∧ ((tAc k u s).1 = true → sim (i + 1) (tAc k u s).2 (uSt k u q).2) := by
  obtain ⟨o, v, n, t, c, d, x⟩ := s
  obtain ⟨o', v', n', t', c', d', x', cl, op⟩ := q
  obtain ⟨hn, hx, hov, htc, ⟨hnd, ht, hx3, hcl, hop⟩, hx2, hxn⟩ := h
  subst hn; subst hx
  have K14 : k = 0 ∨ k = 1 ∨ k = 2 ∨ k = 3 ∨ k = 4 ∨ k = 5 ∨ k = 6 ∨ k = 7 ∨ k = 8 ∨ k = 9 ∨ k = 10 ∨ k = 11 ∨ k = 12 ∨ k = 13 := by omega
  rcases (show x' = 0 ∨ x' = 1 ∨ x' = 2 by omega) with rfl | rfl | rfl
  · have hd : d = d' := hxn (by decide)
    subst hd
    have hEm : ∀ kk, sim (i + 1) (va_up o n' kk, va_up v n' u, n' + 1, t, c, d, 1) (va_up o' n' kk, va_up v' n' u, n' + 1, t', c', d, 1, cl, op) := fun kk => by
      refine ⟨rfl, rfl, fun j hj => ?_, htc, ⟨by omega, ht, by decide, fun h => absurd h (by decide), hop⟩, fun h => absurd h (by decide), fun _ => rfl⟩
      by_cases e : j = n'
      · subst e; exact ⟨by rw [up_s, up_s], by rw [up_s, up_s]⟩
      · rw [up_o e, up_o e, up_o e, up_o e]; exact hov j (by omega)
    have hNm : ∀ kk, 10 < kk → kk < 14 → sim (i + 1) (o, v, n', va_up t d kk, va_up c d (kCm kk), d + 1, 2) (o', v', n', t', c', d, 2, kk, op) := fun kk h1 h2 =>
      ⟨rfl, rfl, hov, fun j hj => by rw [up_o (by omega), up_o (by omega)]; exact htc j hj, ⟨by omega, ht, by decide, fun _ => ⟨h1, h2⟩, hop⟩, fun _ => ⟨rfl, up_s, up_s⟩, fun h => absurd rfl h⟩
    rcases K14 with rfl | rfl | rfl | rfl | rfl | rfl | rfl | rfl | rfl | rfl | rfl | rfl | rfl | rfl
    · exact ⟨rfl, fun _ => hEm 0⟩
    · exact ⟨rfl, fun _ => hEm 1⟩
    · exact ⟨rfl, fun h => absurd (show false = true from h) (by decide)⟩
    · exact ⟨rfl, fun _ => sim_push (kk := 14) (cc := 0) (by decide) (by decide) (by decide) hnd hov htc ht (by rw [hop]; rfl)⟩
    · exact ⟨rfl, fun h => absurd (show false = true from h) (by decide)⟩
    · exact ⟨rfl, fun h => absurd (show false = true from h) (by decide)⟩
    · exact ⟨rfl, fun h => absurd (show false = true from h) (by decide)⟩
    · exact ⟨rfl, fun h => absurd (show false = true from h) (by decide)⟩
    · exact ⟨rfl, fun _ => sim_push (kk := 8) (cc := 0) (by decide) (by decide) (by decide) hnd hov htc ht (by rw [hop]; rfl)⟩
    · exact ⟨rfl, fun h => absurd (show false = true from h) (by decide)⟩
    · exact ⟨rfl, fun h => absurd (show false = true from h) (by decide)⟩
    · exact ⟨rfl, fun _ => hNm 11 (by decide) (by decide)⟩
    · exact ⟨rfl, fun _ => hNm 12 (by decide) (by decide)⟩
    · exact ⟨rfl, fun _ => hNm 13 (by decide) (by decide)⟩
  · have hd : d = d' := hxn (by decide)
    subst hd
    have hRp : ∀ bd kk, 1 ≤ bd → 1 < kk → kk < 15 → kCm kk = 0 → 1 ≤ kBi kk → (uRp bd kk (o', v', n', t', c', d, 1, cl, op)).1 = (tRp bd kk (o, v, n', t, c, d, 1)).1 ∧ ((tRp bd kk (o, v, n', t, c, d, 1)).1 = true → sim (i + 1) (tRp bd kk (o, v, n', t, c, d, 1)).2 (uRp bd kk (o', v', n', t', c', d, 1, cl, op)).2) := fun bd kk hb h1 h2 h3 h4 => by
      obtain ⟨o1, v1, n1, d1, hr⟩ : ∃ o1 v1 n1 d1, rl bd t d o v n' = (o1, v1, n1, d1) := ⟨_, _, _, _, rfl⟩
      obtain ⟨o2, v2, hr2, hov2⟩ := rl_sim d (fun j hj => (htc j hj).1) hov hr
      have hs := rl_sum hr
      have hc2 := (rl_cnt hb d hr2).1
      rw [tRp_eq hr, uRp_eq hr2, h3]
      exact ⟨rfl, fun _ => sim_push (by decide) ⟨h1, h2⟩ (by decide) (by omega) hov2 (fun j hj => htc j (by omega)) (fun j hj => ht j (by omega)) (by rw [hc2, if_pos h4]; exact hop)⟩
    obtain ⟨o1, v1, n1, d1, hr⟩ : ∃ o1 v1 n1 d1, rl 1 t d o v n' = (o1, v1, n1, d1) := ⟨_, _, _, _, rfl⟩
    obtain ⟨o2, v2, hr2, hov2⟩ := rl_sim d (fun j hj => (htc j hj).1) hov hr
    have hs := rl_sum hr
    obtain ⟨hc2, hc3⟩ := rl_cnt (Nat.le_refl 1) d hr2
    rcases K14 with rfl | rfl | rfl | rfl | rfl | rfl | rfl | rfl | rfl | rfl | rfl | rfl | rfl | rfl
    · exact ⟨rfl, fun h => absurd (show false = true from h) (by decide)⟩
    · exact ⟨rfl, fun h => absurd (show false = true from h) (by decide)⟩
    · exact hRp 1 2 (by decide) (by decide) (by decide) (by decide) (by decide)
    · exact hRp 1 3 (by decide) (by decide) (by decide) (by decide) (by decide)
    · exact hRp 2 4 (by decide) (by decide) (by decide) (by decide) (by decide)
    · exact hRp 2 5 (by decide) (by decide) (by decide) (by decide) (by decide)
    · exact hRp 2 6 (by decide) (by decide) (by decide) (by decide) (by decide)
    · have e1 : uSt 7 u (o', v', n', t', c', d, 1, cl, op) = (true, (o', v', n', va_up t' d 7, va_up c' d 0, d + 1, 0, cl, op)) := uRp_eq (x := 1) (rl_5 (fun j hj => (ht j hj).2.1))
      rw [e1]
      exact ⟨rfl, fun _ => sim_push (kk := 7) (cc := 0) (by decide) (by decide) (by decide) hnd hov htc ht (by rw [hop]; rfl)⟩
    · exact ⟨rfl, fun h => absurd (show false = true from h) (by decide)⟩
    · show (uCl (o', v', n', t', c', d, 1, cl, op)).1 = (tCl (o, v, n', t, c, d, 1)).1 ∧ ((tCl (o, v, n', t, c, d, 1)).1 = true → sim (i + 1) (tCl (o, v, n', t, c, d, 1)).2 (uCl (o', v', n', t', c', d, 1, cl, op)).2)
      rw [tCl_eq hr, uCl_eq hr2]
      by_cases hz : d1 = 0
      · rw [if_pos (Or.inl hz), if_pos (Or.inl hz)]; exact ⟨rfl, fun h => absurd (show false = true from h) (by decide)⟩
      · obtain ⟨ht1, hcc⟩ := htc (d1 - 1) (by omega)
        have hcn : cnt t' d1 = cnt t' (d1 - 1) + 1 := by
          obtain ⟨e1, rfl⟩ : ∃ e1, d1 = e1 + 1 := ⟨d1 - 1, by omega⟩
          show cnt t' e1 + (if 1 ≤ kBi (t' e1) then 0 else 1) = _
          rw [if_neg (by have := hc3 (by omega); rw [Nat.add_sub_cancel] at this; omega)]; rfl
        by_cases hy : c (d1 - 1) = 0
        · rw [if_neg (show ¬ (d1 = 0 ∨ c (d1 - 1) ≠ 0) from fun h => Or.elim h hz (fun h2 => h2 hy)), if_neg (show ¬ (d1 = 0 ∨ 0 < c' (d1 - 1)) by rw [hcc]; omega), ht1]
          by_cases h8 : t (d1 - 1) = 8
          · rw [if_pos h8, if_pos h8]
            exact ⟨rfl, fun _ => ⟨rfl, rfl, hov2, fun j hj => htc j (by omega), ⟨by omega, fun j hj => ht j (by omega), by decide, fun h => absurd h (by decide), by omega⟩, fun h => absurd h (by decide), fun _ => rfl⟩⟩
          · rw [if_neg h8, if_neg h8]
            refine ⟨rfl, fun _ => ⟨rfl, rfl, fun j hj => ?_, fun j hj => htc j (by omega), ⟨by omega, fun j hj => ht j (by omega), by decide, fun h => absurd h (by decide), by omega⟩, fun h => absurd h (by decide), fun _ => rfl⟩⟩
            by_cases e : j = n1
            · subst e; exact ⟨by rw [up_s, up_s], by rw [up_s, up_s]⟩
            · rw [up_o e, up_o e, up_o e, up_o e]; exact hov2 j (by omega)
        · rw [if_pos (show d1 = 0 ∨ c (d1 - 1) ≠ 0 from Or.inr hy), if_pos (show d1 = 0 ∨ 0 < c' (d1 - 1) by rw [hcc]; omega)]; exact ⟨rfl, fun h => absurd (show false = true from h) (by decide)⟩
    · show (uPa (o', v', n', t', c', d, 1, cl, op)).1 = (tCm (o, v, n', t, c, d, 1)).1 ∧ ((tCm (o, v, n', t, c, d, 1)).1 = true → sim (i + 1) (tCm (o, v, n', t, c, d, 1)).2 (uPa (o', v', n', t', c', d, 1, cl, op)).2)
      rw [tCm_eq hr, uPa_eq hr2]
      by_cases hz : d1 = 0
      · rw [if_pos (Or.inl hz), if_pos (Or.inl hz)]; exact ⟨rfl, fun h => absurd (show false = true from h) (by decide)⟩
      · obtain ⟨ht1, hcc⟩ := htc (d1 - 1) (by omega)
        have hc9 := (ht (d1 - 1) (by omega)).2.2
        by_cases hy : c (d1 - 1) = 0
        · rw [if_pos (show d1 = 0 ∨ c (d1 - 1) = 0 from Or.inr hy), if_pos (show d1 = 0 ∨ c' (d1 - 1) = 0 by rw [hcc]; exact Or.inr hy)]; exact ⟨rfl, fun h => absurd (show false = true from h) (by decide)⟩
        · rw [if_neg (show ¬ (d1 = 0 ∨ c (d1 - 1) = 0) from fun h => Or.elim h hz hy), if_neg (show ¬ (d1 = 0 ∨ c' (d1 - 1) = 0) by rw [hcc]; exact fun h => Or.elim h hz hy)]
          refine ⟨rfl, fun _ => ⟨rfl, rfl, hov2, fun j hj => ?_, ⟨by omega, fun j hj => ?_, by decide, fun h => absurd h (by decide), by rw [hc2]; exact hop⟩, fun h => absurd h (by decide), fun _ => rfl⟩⟩
          · refine ⟨(htc j (by omega)).1, ?_⟩
            by_cases e : j = d1 - 1
            · rw [e, up_s, up_s, hcc]
            · rw [up_o e, up_o e]; exact (htc j (by omega)).2
          · refine ⟨(ht j (by omega)).1, (ht j (by omega)).2.1, ?_⟩
            by_cases e : j = d1 - 1
            · rw [e, up_s]; omega
            · rw [up_o e]; exact (ht j (by omega)).2.2
    · exact ⟨rfl, fun h => absurd (show false = true from h) (by decide)⟩
    · exact ⟨rfl, fun h => absurd (show false = true from h) (by decide)⟩
    · exact ⟨rfl, fun h => absurd (show false = true from h) (by decide)⟩
  · obtain ⟨hd, h1, h2⟩ := hx2 rfl
    obtain ⟨hc1, hc2⟩ := hcl rfl
    subst hd
    by_cases h8 : k = 8
    · have e1 : uSt k u (o', v', n', t', c', d', 2, cl, op) = (true, (o', v', n', va_up t' d' cl, va_up c' d' (kCm cl), d' + 1, 0, cl, op + 1)) := if_pos h8
      have e2 : tAc k u (o, v, n', t, c, d' + 1, 2) = (true, (o, v, n', t, c, d' + 1, 0)) := by show (decide (k = 8), _) = _; rw [decide_eq_true h8]
      have et : va_up t d' cl = t := by funext j; unfold va_up; split; · next e => rw [e, h1]
                                        · rfl
      have ec : va_up c d' (kCm cl) = c := by funext j; unfold va_up; split; · next e => rw [e, h2]
                                              · rfl
      rw [e1, e2]
      refine ⟨rfl, fun _ => ?_⟩
      have hp := sim_push (i := i) (kk := cl) (cc := kCm cl) (x2 := 0) (op2 := op + 1) (cl := cl) (by decide) (by omega) (kCm_lt cl) hnd hov htc ht (by rw [hop, if_neg ((show ∀ k, k < 14 → 10 < k → ¬ 1 ≤ kBi k by decide) cl hc2 hc1)])
      rw [et, ec] at hp
      exact hp
    · have e1 : uSt k u (o', v', n', t', c', d', 2, cl, op) = (false, (o', v', n', t', c', d', 2, cl, op)) := if_neg h8
      have e2 : tAc k u (o, v, n', t, c, d' + 1, 2) = (false, (o, v, n', t, c, d' + 1, 0)) := by show (decide (k = 8), _) = _; rw [decide_eq_false h8]
      rw [e1, e2]
      exact ⟨rfl, fun h => absurd (show false = true from h) (by decide)⟩
