/-! HOURS: eating, both -/
section EATS
variable {k : fd_Sk} {h g : fd_Hp} {fb bb dr b : Nat}
theorem fd_eat2 (hk : fd_Sok k fb bb dr) {ns np nb t s : Nat} (F : fd_Fl 1 h g ns np nb t) (hs : s < ns) (z : Option Value) : ∃ h' g' v, fd_E 34 0 [some (.ref (1)), some (.int (nI (s))), none] [] k h = some (none, (k, h')) ∧ fd_E 140 2 [some (.ref (77)), some (.int (nI (s))), z] [] k g = fd_E 140 2 [some (.ref (77)), some (.int (nI (s + 1))), some (.int (v))] [] k g' ∧ fd_Fl 1 h' g' ns np nb t ∧ (∀ q, ¬ q = 5 → ¬ q = 6 → ¬ q = 8 → h'.1 q = h.1 q) ∧ (∀ q, ¬ q = 82 → g'.1 q = g.1 q) := by
  have F0 := F
  simp only [fd_Fl, Nat.reduceAdd] at F0
  obtain ⟨⟨b1, b2, b3, b4⟩, ⟨f1, f2, f3, f4, f5, f6, f7⟩, ⟨g1, g2, g3, g4⟩, S, O, T⟩ := F0
  have Q := S s hs
  simp only [fd_S1, Nat.reduceAdd] at Q
  obtain ⟨p1, ⟨M, M1, M2, M3, M4⟩, ⟨B, _, B2, B3, B4⟩, ⟨W, _, W2, W3, W4⟩, p5, ⟨L, _, L2, L3, L4⟩, p7, p8, p9, p10⟩ := Q
  obtain ⟨E, E1, E2, E3⟩ := fd_ea_bd M1 M2
  obtain ⟨h', c0, c1, c2, c3, c4⟩ := fm_eat (h := h) hk (show s < 6 by omega) M3 E3 E2 B3 B2 W3 W2 L3 L2
  obtain ⟨g', m0, m1, m2, m3, m4⟩ := fm_mEat (h := g) (z := z) hk (show s < 6 by omega) hs b1 f3 M4 E3 E2 B4 B2 W4 W2 L4 L2
  have hl : fd_eaW L B W E ≤ 100 := by
    unfold fd_eaW
    have : (if B < E then L - 3 else L) ≤ 100 := by split <;> omega
    omega
  have ch : ∀ q, ¬ q = 5 → ¬ q = 6 → ¬ q = 8 → h'.1 q = h.1 q := fun q q1 q2 q3 => funext fun j => c4 q j (fun y => y.1.elim q1 (fun y => y.elim q2 q3))
  have mh : ∀ q, ¬ q = 82 → g'.1 q = g.1 q := fun q q1 => funext fun j => m4 q j (fun y => q1 y.1)
  refine ⟨h', g', nI E, c0, m0, ?_, ch, mh⟩
  simp (disch := omega) only [fd_Fl, Nat.reduceAdd, ch, mh]
  refine ⟨⟨b1, b2, b3, b4⟩, ⟨f1, f2, f3, f4, f5, f6, f7⟩, ⟨g1, g2, g3, g4⟩, fun s' hs' => ?_, O, fun i hi => ?_⟩
  · have q' := S s' hs'
    simp only [fd_S1, Nat.reduceAdd] at q' ⊢
    simp (disch := omega) only [ch, mh]
    obtain ⟨r1, r2, r3, r4, r5, r6, r7, r8, r9, r10⟩ := q'
    have k7 : g'.1 82 (18 + s') = g.1 82 (18 + s') := m4 _ _ (by omega)
    have k8 : g'.1 82 (24 + s') = g.1 82 (24 + s') := m4 _ _ (by omega)
    rw [k7, k8]
    by_cases y : s' = s
    · subst y
      rw [c1, c2, c3, m1, m2, m3]
      exact ⟨r1, r2, fd_bdr (by omega) (by omega), fd_bdr (by omega) (by omega), r5, fd_bdr (by omega) hl, r7, r8, r9, r10⟩
    · rw [c4 5 s' (by omega), c4 6 s' (by omega), c4 8 s' (by omega), m4 82 s' (by omega), m4 82 (6 + s') (by omega), m4 82 (12 + s') (by omega)]
      exact ⟨r1, r2, r3, r4, r5, r6, r7, r8, r9, r10⟩
  · have q' := T i hi
    simp only [fd_B1, Nat.reduceAdd] at q' ⊢
    simp (disch := omega) only [ch, mh]
    exact q'
theorem fd_eat2T (hk : fd_Sok k fb bb dr) {ns np nb t s : Nat} (F : fd_Fl 20 h g ns np nb t) (hs : s < ns) (z : Option Value) : ∃ h' g' v, fd_E 34 0 [some (.ref (20)), some (.int (nI (s))), none] [] k h = some (none, (k, h')) ∧ fd_E 140 2 [some (.ref (77)), some (.int (nI (s))), z] [] k g = fd_E 140 2 [some (.ref (77)), some (.int (nI (s + 1))), some (.int (v))] [] k g' ∧ fd_Fl 20 h' g' ns np nb t ∧ (∀ q, ¬ q = 24 → ¬ q = 25 → ¬ q = 27 → h'.1 q = h.1 q) ∧ (∀ q, ¬ q = 82 → g'.1 q = g.1 q) := by
  have F0 := F
  simp only [fd_Fl, Nat.reduceAdd] at F0
  obtain ⟨⟨b1, b2, b3, b4⟩, ⟨f1, f2, f3, f4, f5, f6, f7⟩, ⟨g1, g2, g3, g4⟩, S, O, T⟩ := F0
  have Q := S s hs
  simp only [fd_S1, Nat.reduceAdd] at Q
  obtain ⟨p1, ⟨M, M1, M2, M3, M4⟩, ⟨B, _, B2, B3, B4⟩, ⟨W, _, W2, W3, W4⟩, p5, ⟨L, _, L2, L3, L4⟩, p7, p8, p9, p10⟩ := Q
  obtain ⟨E, E1, E2, E3⟩ := fd_ea_bd M1 M2
  obtain ⟨h', c0, c1, c2, c3, c4⟩ := fm_eatT (h := h) hk (show s < 6 by omega) M3 E3 E2 B3 B2 W3 W2 L3 L2
  obtain ⟨g', m0, m1, m2, m3, m4⟩ := fm_mEat (h := g) (z := z) hk (show s < 6 by omega) hs b1 f3 M4 E3 E2 B4 B2 W4 W2 L4 L2
  have hl : fd_eaW L B W E ≤ 100 := by
    unfold fd_eaW
    have : (if B < E then L - 3 else L) ≤ 100 := by split <;> omega
    omega
  have ch : ∀ q, ¬ q = 24 → ¬ q = 25 → ¬ q = 27 → h'.1 q = h.1 q := fun q q1 q2 q3 => funext fun j => c4 q j (fun y => y.1.elim q1 (fun y => y.elim q2 q3))
  have mh : ∀ q, ¬ q = 82 → g'.1 q = g.1 q := fun q q1 => funext fun j => m4 q j (fun y => q1 y.1)
  refine ⟨h', g', nI E, c0, m0, ?_, ch, mh⟩
  simp (disch := omega) only [fd_Fl, Nat.reduceAdd, ch, mh]
  refine ⟨⟨b1, b2, b3, b4⟩, ⟨f1, f2, f3, f4, f5, f6, f7⟩, ⟨g1, g2, g3, g4⟩, fun s' hs' => ?_, O, fun i hi => ?_⟩
  · have q' := S s' hs'
    simp only [fd_S1, Nat.reduceAdd] at q' ⊢
    simp (disch := omega) only [ch, mh]
    obtain ⟨r1, r2, r3, r4, r5, r6, r7, r8, r9, r10⟩ := q'
    have k7 : g'.1 82 (18 + s') = g.1 82 (18 + s') := m4 _ _ (by omega)
    have k8 : g'.1 82 (24 + s') = g.1 82 (24 + s') := m4 _ _ (by omega)
    rw [k7, k8]
    by_cases y : s' = s
    · subst y
      rw [c1, c2, c3, m1, m2, m3]
      exact ⟨r1, r2, fd_bdr (by omega) (by omega), fd_bdr (by omega) (by omega), r5, fd_bdr (by omega) hl, r7, r8, r9, r10⟩
    · rw [c4 24 s' (by omega), c4 25 s' (by omega), c4 27 s' (by omega), m4 82 s' (by omega), m4 82 (6 + s') (by omega), m4 82 (12 + s') (by omega)]
      exact ⟨r1, r2, r3, r4, r5, r6, r7, r8, r9, r10⟩
  · have q' := T i hi
    simp only [fd_B1, Nat.reduceAdd] at q' ⊢
    simp (disch := omega) only [ch, mh]
    exact q'
end EATS
