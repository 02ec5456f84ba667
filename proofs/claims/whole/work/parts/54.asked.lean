/-! THE CALL asked -/
section ASKED
variable {k : fd_Sk} {h g : fd_Hp} {fb bb dr b : Nat}
theorem fm_tryWith (hk : fd_Sok k fb bb dr) {o K : Nat} (ho : o < 12) (hK : K < 16) : ∀ (m a : Nat) (h : fd_Hp) (c : Nat → Nat) (z : Option Value), a + m = 16 → h.1 72 o = nI K → (∀ j, j < 16 → h.1 74 j = nI (c j) ∧ c j ≤ 16777216) → ∃ h', fd_E 46 2 [some (.ref (70)), some (.int (nI (o))), some (.int (nI (a))), z] [] k h = some (none, (k, h')) ∧ (∀ j, j < 16 → h'.1 74 j = nI (fd_fold (fd_tw K (4096 + 2 ^ o)) m a c j) ∧ fd_fold (fd_tw K (4096 + 2 ^ o)) m a c j ≤ 16777216) ∧ ∀ q, ¬ q = 74 → h'.1 q = h.1 q := by
  have p2 := fd_p2 (n := o) (by omega)
  intro m
  induction m with
  | zero =>
    intro a h c z e eK C
    have hc : nI 16 ≤ nI a := nI_le (by omega) (by omega)
    refine ⟨h, ?_, C, fun _ _ => rfl⟩
    rw [fs_46_2]
    simp (disch := first | exact fd_nl_int | exact fd_nl_ref | exact fd_nl_none | assumption | exact nI_ne0 (by omega) (by omega) | exact fd_nb0 | exact fd_nb1 | exact fd_nbb | omega) only [fs_46_0, fs_46_1, fs_46_3, fs_46_5, fs_46_8, fs_46_9, fs_46_10_p70 hk, fs_46_13, fs_46_14_p72 hk, fs_46_15, fs_46_16, fs_46_17, fs_46_18, fs_46_19, fs_46_20_p70 hk, fs_46_23, fs_46_24_p74 hk, fs_46_25, fs_46_27, fs_46_30, fs_46_31_p70 hk, fs_46_34, fs_46_35, fs_46_36_p70 hk, fs_46_39, fs_46_40_p74 hk, fs_46_41, fs_46_42_p70 hk, fs_46_45, fs_46_46_p74 hk, fs_46_47, fs_46_50, fs_46_51, fs_46_52, fs_46_53, fs_46_54, fs_46_55, fs_46_58_p74 hk, fs_46_59, fs_46_62, fs_46_65, Option.bind_some, Option.toList_some, Option.toList_none, List.cons_append, List.nil_append, fd_nb0, fd_nb1, fd_nbb, fd_b0, nI_add, pk_mul, ite_not, Classical.not_not, not_false_iff, not_true, and_self, or_true, true_or, ↓reduceIte, if_true, if_false, ite_self, fd_mI, fd_mH, fd_mL, fd_p0, fd_w0, fd_w1, fd_w2, fd_10, fd_00, hc]
  | succ m ih =>
    intro a h c z e eK C
    have hc : ¬ nI 16 ≤ nI a := nI_ge (by omega) (by omega)
    obtain ⟨Ca, Cb⟩ := C a (by omega)
    have lt : a &&& (15 ^^^ K) < 16 := (fd_l16 a (by omega) K hK).2
    have ml := fd_m16 a (by omega) K hK
    rw [fd_foldS]
    by_cases d : c a = 16777216
    · have E : fd_tw K (4096 + 2 ^ o) a c = c := if_pos d
      rw [d] at Ca
      rw [E]
      obtain ⟨h', r1, r2, r3⟩ := ih (a + 1) h c (some (.int (nI (a &&& (15 ^^^ K))))) (by omega) eK C
      refine ⟨h', ?_, r2, r3⟩
      rw [fs_46_2]
      simp (disch := first | exact fd_nl_int | exact fd_nl_ref | exact fd_nl_none | assumption | exact nI_ne0 (by omega) (by omega) | exact fd_nb0 | exact fd_nb1 | exact fd_nbb | omega) only [fs_46_0, fs_46_1, fs_46_3, fs_46_5, fs_46_8, fs_46_9, fs_46_10_p70 hk, fs_46_13, fs_46_14_p72 hk, fs_46_15, fs_46_16, fs_46_17, fs_46_18, fs_46_19, fs_46_20_p70 hk, fs_46_23, fs_46_24_p74 hk, fs_46_25, fs_46_27, fs_46_30, fs_46_31_p70 hk, fs_46_34, fs_46_35, fs_46_36_p70 hk, fs_46_39, fs_46_40_p74 hk, fs_46_41, fs_46_42_p70 hk, fs_46_45, fs_46_46_p74 hk, fs_46_47, fs_46_50, fs_46_51, fs_46_52, fs_46_53, fs_46_54, fs_46_55, fs_46_58_p74 hk, fs_46_59, fs_46_62, fs_46_65, Option.bind_some, Option.toList_some, Option.toList_none, List.cons_append, List.nil_append, fd_nb0, fd_nb1, fd_nbb, fd_b0, nI_add, pk_mul, ite_not, Classical.not_not, not_false_iff, not_true, and_self, or_true, true_or, ↓reduceIte, if_true, if_false, ite_self, fd_mI, fd_mH, fd_mL, fd_p0, fd_w0, fd_w1, fd_w2, fd_10, fd_00, hc, eK, ml, Ca, r1]
    · have dN : (nI (c a) = nI 16777216) = False := eq_false (fun z => d (fd_nIj (by omega) (by omega) z))
      have E : fd_tw K (4096 + 2 ^ o) a c = fun j => if j = a &&& (15 ^^^ K) ∧ c a + (4096 + 2 ^ o) < c j then c a + (4096 + 2 ^ o) else c j := if_neg d
      obtain ⟨Cl, Cm⟩ := C (a &&& (15 ^^^ K)) lt
      have sh := fd_sh1 (n := o) (by omega)
      have E2 : c a + 4096 + 2 ^ o = c a + (4096 + 2 ^ o) := by omega
      rw [E]
      by_cases v : c a + (4096 + 2 ^ o) < c (a &&& (15 ^^^ K))
      · have lv : nI (c a + (4096 + 2 ^ o)) < nI (c (a &&& (15 ^^^ K))) := nI_lt v (by omega)
        obtain ⟨h', r1, r2, r3⟩ := ih (a + 1) (fd_w h 74 (a &&& (15 ^^^ K)) (nI (c a + (4096 + 2 ^ o)))) (fun j => if j = a &&& (15 ^^^ K) ∧ c a + (4096 + 2 ^ o) < c j then c a + (4096 + 2 ^ o) else c j) (some (.int (nI (a &&& (15 ^^^ K))))) (by omega) ((fd_w1 (by decide)).trans eK) (fun j hj => by
          by_cases w : j = a &&& (15 ^^^ K)
          · rw [w, if_pos ⟨rfl, v⟩, fd_w0]
            exact ⟨rfl, by omega⟩
          · rw [if_neg (fun y => w y.1), fd_w2 w]
            exact C j hj)
        refine ⟨h', ?_, r2, fun q hq => (r3 q hq).trans (fd_wp hq)⟩
        rw [fs_46_2]
        simp (disch := first | exact fd_nl_int | exact fd_nl_ref | exact fd_nl_none | assumption | exact nI_ne0 (by omega) (by omega) | exact fd_nb0 | exact fd_nb1 | exact fd_nbb | omega) only [fs_46_0, fs_46_1, fs_46_3, fs_46_5, fs_46_8, fs_46_9, fs_46_10_p70 hk, fs_46_13, fs_46_14_p72 hk, fs_46_15, fs_46_16, fs_46_17, fs_46_18, fs_46_19, fs_46_20_p70 hk, fs_46_23, fs_46_24_p74 hk, fs_46_25, fs_46_27, fs_46_30, fs_46_31_p70 hk, fs_46_34, fs_46_35, fs_46_36_p70 hk, fs_46_39, fs_46_40_p74 hk, fs_46_41, fs_46_42_p70 hk, fs_46_45, fs_46_46_p74 hk, fs_46_47, fs_46_50, fs_46_51, fs_46_52, fs_46_53, fs_46_54, fs_46_55, fs_46_58_p74 hk, fs_46_59, fs_46_62, fs_46_65, Option.bind_some, Option.toList_some, Option.toList_none, List.cons_append, List.nil_append, fd_nb0, fd_nb1, fd_nbb, fd_b0, nI_add, pk_mul, ite_not, Classical.not_not, not_false_iff, not_true, and_self, or_true, true_or, ↓reduceIte, if_true, if_false, ite_self, fd_mI, fd_mH, fd_mL, fd_p0, fd_w0, fd_w1, fd_w2, fd_10, fd_00, hc, eK, ml, Ca, dN, Cl, sh, E2, lv, r1]
      · have lv : ¬ nI (c a + (4096 + 2 ^ o)) < nI (c (a &&& (15 ^^^ K))) := nI_nlt (by omega) (by omega)
        obtain ⟨h', r1, r2, r3⟩ := ih (a + 1) (fd_w h 74 (a &&& (15 ^^^ K)) (nI (c (a &&& (15 ^^^ K))))) (fun j => if j = a &&& (15 ^^^ K) ∧ c a + (4096 + 2 ^ o) < c j then c a + (4096 + 2 ^ o) else c j) (some (.int (nI (a &&& (15 ^^^ K))))) (by omega) ((fd_w1 (by decide)).trans eK) (fun j hj => by
          by_cases w : j = a &&& (15 ^^^ K)
          · subst w
            rw [if_neg (fun y => v y.2), fd_w0]
            exact ⟨rfl, Cm⟩
          · rw [if_neg (fun y => w y.1), fd_w2 w]
            exact C j hj)
        refine ⟨h', ?_, r2, fun q hq => (r3 q hq).trans (fd_wp hq)⟩
        rw [fs_46_2]
        simp (disch := first | exact fd_nl_int | exact fd_nl_ref | exact fd_nl_none | assumption | exact nI_ne0 (by omega) (by omega) | exact fd_nb0 | exact fd_nb1 | exact fd_nbb | omega) only [fs_46_0, fs_46_1, fs_46_3, fs_46_5, fs_46_8, fs_46_9, fs_46_10_p70 hk, fs_46_13, fs_46_14_p72 hk, fs_46_15, fs_46_16, fs_46_17, fs_46_18, fs_46_19, fs_46_20_p70 hk, fs_46_23, fs_46_24_p74 hk, fs_46_25, fs_46_27, fs_46_30, fs_46_31_p70 hk, fs_46_34, fs_46_35, fs_46_36_p70 hk, fs_46_39, fs_46_40_p74 hk, fs_46_41, fs_46_42_p70 hk, fs_46_45, fs_46_46_p74 hk, fs_46_47, fs_46_50, fs_46_51, fs_46_52, fs_46_53, fs_46_54, fs_46_55, fs_46_58_p74 hk, fs_46_59, fs_46_62, fs_46_65, Option.bind_some, Option.toList_some, Option.toList_none, List.cons_append, List.nil_append, fd_nb0, fd_nb1, fd_nbb, fd_b0, nI_add, pk_mul, ite_not, Classical.not_not, not_false_iff, not_true, and_self, or_true, true_or, ↓reduceIte, if_true, if_false, ite_self, fd_mI, fd_mH, fd_mL, fd_p0, fd_w0, fd_w1, fd_w2, fd_10, fd_00, hc, eK, ml, Ca, dN, Cl, sh, E2, lv, r1]
theorem fm_askFill (hk : fd_Sok k fb bb dr) {s M : Nat} (hM : M < 16) : ∀ (m a : Nat) (h : fd_Hp), a + m = 16 → ∃ h', fd_E 45 8 [some (.ref (70)), some (.int (nI (s))), some (.int (nI (M))), some (.int (nI (a)))] [] k h = fd_E 45 39 [some (.ref (70)), some (.int (nI (s))), some (.int (nI (M))), some (.int (nI (0)))] [] k h' ∧ (∀ j, a ≤ j → j < 16 → h'.1 74 j = nI (fd_c0 M j)) ∧ (∀ j, j < a → h'.1 74 j = h.1 74 j) ∧ ∀ q, ¬ q = 74 → h'.1 q = h.1 q := by
  intro m
  induction m with
  | zero =>
    intro a h e
    have hc : nI 16 ≤ nI a := nI_le (by omega) (by omega)
    refine ⟨h, ?_, fun j h1 h2 => by omega, fun _ _ => rfl, fun _ _ => rfl⟩
    rw [fs_45_8]
    simp (disch := first | exact fd_nl_int | exact fd_nl_ref | exact fd_nl_none | assumption | exact nI_ne0 (by omega) (by omega) | exact fd_nb0 | exact fd_nb1 | exact fd_nbb | omega) only [fs_45_0, fs_45_1, fs_45_2_p70 hk, fs_45_5, fs_45_6, fs_45_7, fs_45_9, fs_45_11, fs_45_14, fs_45_15_p70 hk, fs_45_18, fs_45_19, fs_45_20, fs_45_21, fs_45_24, fs_45_25, fs_45_28, fs_45_30_p74 hk, fs_45_31, fs_45_34, fs_45_37, fs_45_38, fs_45_40, fs_45_41_p70 hk, fs_45_44, fs_45_47, fs_45_48_p70 hk, fs_45_51, fs_45_52_p71 hk, fs_45_53, fs_45_54, fs_45_57, fs_45_58_p70 hk, fs_45_61, fs_45_62, fs_45_65, fs_45_68, fs_45_69, fs_45_70_p70 hk, fs_45_73, fs_45_76, fs_45_79, fs_45_80_p70 hk, fs_45_83, fs_45_84_p74 hk, fs_45_85, fs_45_87, fs_45_90, fs_45_91, fs_45_94, fs_45_95_p70 hk, fs_45_98, fs_45_99_p74 hk, fs_45_100, fs_45_103, fs_45_104, Option.bind_some, Option.toList_some, Option.toList_none, List.cons_append, List.nil_append, fd_nb0, fd_nb1, fd_nbb, fd_b0, nI_add, pk_mul, ite_not, Classical.not_not, not_false_iff, not_true, and_self, or_true, true_or, ↓reduceIte, if_true, if_false, ite_self, fd_mI, fd_mH, fd_mL, fd_p0, fd_w0, fd_w1, fd_w2, fd_10, fd_00, hc]
  | succ m ih =>
    intro a h e
    have hc : ¬ nI 16 ≤ nI a := nI_ge (by omega) (by omega)
    have key : fd_E 45 8 [some (.ref (70)), some (.int (nI (s))), some (.int (nI (M))), some (.int (nI (a)))] [] k h = fd_E 45 8 [some (.ref (70)), some (.int (nI (s))), some (.int (nI (M))), some (.int (nI (a + 1)))] [] k (fd_w h 74 a (nI (fd_c0 M a))) := by
      unfold fd_c0
      by_cases d : a = M
      · have d' : nI a = nI M := by rw [d]
        rw [if_pos d, fs_45_8]
        simp (disch := first | exact fd_nl_int | exact fd_nl_ref | exact fd_nl_none | assumption | exact nI_ne0 (by omega) (by omega) | exact fd_nb0 | exact fd_nb1 | exact fd_nbb | omega) only [fs_45_0, fs_45_1, fs_45_2_p70 hk, fs_45_5, fs_45_6, fs_45_7, fs_45_9, fs_45_11, fs_45_14, fs_45_15_p70 hk, fs_45_18, fs_45_19, fs_45_20, fs_45_21, fs_45_24, fs_45_25, fs_45_28, fs_45_30_p74 hk, fs_45_31, fs_45_34, fs_45_37, fs_45_38, fs_45_40, fs_45_41_p70 hk, fs_45_44, fs_45_47, fs_45_48_p70 hk, fs_45_51, fs_45_52_p71 hk, fs_45_53, fs_45_54, fs_45_57, fs_45_58_p70 hk, fs_45_61, fs_45_62, fs_45_65, fs_45_68, fs_45_69, fs_45_70_p70 hk, fs_45_73, fs_45_76, fs_45_79, fs_45_80_p70 hk, fs_45_83, fs_45_84_p74 hk, fs_45_85, fs_45_87, fs_45_90, fs_45_91, fs_45_94, fs_45_95_p70 hk, fs_45_98, fs_45_99_p74 hk, fs_45_100, fs_45_103, fs_45_104, Option.bind_some, Option.toList_some, Option.toList_none, List.cons_append, List.nil_append, fd_nb0, fd_nb1, fd_nbb, fd_b0, nI_add, pk_mul, ite_not, Classical.not_not, not_false_iff, not_true, and_self, or_true, true_or, ↓reduceIte, if_true, if_false, ite_self, fd_mI, fd_mH, fd_mL, fd_p0, fd_w0, fd_w1, fd_w2, fd_10, fd_00, hc, eq_true d']
      · have d' : (nI a = nI M) = False := eq_false (fun z => d (fd_nIj (by omega) (by omega) z))
        rw [if_neg d, fs_45_8]
        simp (disch := first | exact fd_nl_int | exact fd_nl_ref | exact fd_nl_none | assumption | exact nI_ne0 (by omega) (by omega) | exact fd_nb0 | exact fd_nb1 | exact fd_nbb | omega) only [fs_45_0, fs_45_1, fs_45_2_p70 hk, fs_45_5, fs_45_6, fs_45_7, fs_45_9, fs_45_11, fs_45_14, fs_45_15_p70 hk, fs_45_18, fs_45_19, fs_45_20, fs_45_21, fs_45_24, fs_45_25, fs_45_28, fs_45_30_p74 hk, fs_45_31, fs_45_34, fs_45_37, fs_45_38, fs_45_40, fs_45_41_p70 hk, fs_45_44, fs_45_47, fs_45_48_p70 hk, fs_45_51, fs_45_52_p71 hk, fs_45_53, fs_45_54, fs_45_57, fs_45_58_p70 hk, fs_45_61, fs_45_62, fs_45_65, fs_45_68, fs_45_69, fs_45_70_p70 hk, fs_45_73, fs_45_76, fs_45_79, fs_45_80_p70 hk, fs_45_83, fs_45_84_p74 hk, fs_45_85, fs_45_87, fs_45_90, fs_45_91, fs_45_94, fs_45_95_p70 hk, fs_45_98, fs_45_99_p74 hk, fs_45_100, fs_45_103, fs_45_104, Option.bind_some, Option.toList_some, Option.toList_none, List.cons_append, List.nil_append, fd_nb0, fd_nb1, fd_nbb, fd_b0, nI_add, pk_mul, ite_not, Classical.not_not, not_false_iff, not_true, and_self, or_true, true_or, ↓reduceIte, if_true, if_false, ite_self, fd_mI, fd_mH, fd_mL, fd_p0, fd_w0, fd_w1, fd_w2, fd_10, fd_00, hc, d']
    obtain ⟨h', r1, r2, r3, r4⟩ := ih (a + 1) (fd_w h 74 a (nI (fd_c0 M a))) (by omega)
    refine ⟨h', key.trans r1, fun j h1 h2 => ?_, fun j hj => ?_, fun q hq => (r4 q hq).trans (fd_wp hq)⟩
    · by_cases z : j = a
      · subst z
        rw [r3 j (by omega), fd_w0]
      · exact r2 j (by omega) h2
    · rw [r3 j (by omega), fd_w2 (by omega)]
theorem fm_askLoop (hk : fd_Sok k fb bb dr) {n w s M : Nat} {T K : Nat → Nat} (hn : n ≤ 12) (hw : w < 4096) (hs : s < 6) (e0 : h.1 70 0 = nI n) (e1 : h.1 70 1 = nI w) (e2 : ∀ o, o < n → h.1 71 o = nI (T o) ∧ T o < 6) (e3 : ∀ o, o < n → h.1 72 o = nI (K o) ∧ K o < 16) : ∀ (m a : Nat) (g : fd_Hp) (c : Nat → Nat), a + m = n → (∀ q, ¬ q = 74 → g.1 q = h.1 q) → (∀ j, j < 16 → g.1 74 j = nI (c j) ∧ c j ≤ 16777216) → ∃ h', fd_E 45 39 [some (.ref (70)), some (.int (nI (s))), some (.int (nI (M))), some (.int (nI (a)))] [] k g = some (some (.int (if fd_fold (fd_dpF (fun o => decide (T o = s) && w.testBit o) K) m a c 0 = 16777216 then -1 else nI (fd_fold (fd_dpF (fun o => decide (T o = s) && w.testBit o) K) m a c 0 % 4096))), (k, h')) ∧ ∀ q, ¬ q = 74 → h'.1 q = h.1 q := by
  intro m
  induction m with
  | zero =>
    intro a g c e G C
    have hc : nI n ≤ nI a := nI_le (by omega) (by omega)
    have g0 : g.1 70 0 = nI n := by rw [G 70 (by decide)]; exact e0
    obtain ⟨C0, C1⟩ := C 0 (by omega)
    refine ⟨g, ?_, G⟩
    rw [fd_fold0]
    by_cases d : c 0 = 16777216
    · rw [d] at C0
      rw [if_pos d, fs_45_39]
      simp (disch := first | exact fd_nl_int | exact fd_nl_ref | exact fd_nl_none | assumption | exact nI_ne0 (by omega) (by omega) | exact fd_nb0 | exact fd_nb1 | exact fd_nbb | omega) only [fs_45_0, fs_45_1, fs_45_2_p70 hk, fs_45_5, fs_45_6, fs_45_7, fs_45_8, fs_45_9, fs_45_11, fs_45_14, fs_45_15_p70 hk, fs_45_18, fs_45_19, fs_45_20, fs_45_21, fs_45_24, fs_45_25, fs_45_28, fs_45_30_p74 hk, fs_45_31, fs_45_34, fs_45_37, fs_45_38, fs_45_40, fs_45_41_p70 hk, fs_45_44, fs_45_47, fs_45_48_p70 hk, fs_45_51, fs_45_52_p71 hk, fs_45_53, fs_45_54, fs_45_57, fs_45_58_p70 hk, fs_45_61, fs_45_62, fs_45_65, fs_45_68, fs_45_69, fs_45_70_p70 hk, fs_45_73, fs_45_76, fs_45_79, fs_45_80_p70 hk, fs_45_83, fs_45_84_p74 hk, fs_45_85, fs_45_87, fs_45_90, fs_45_91, fs_45_94, fs_45_95_p70 hk, fs_45_98, fs_45_99_p74 hk, fs_45_100, fs_45_103, fs_45_104, Option.bind_some, Option.toList_some, Option.toList_none, List.cons_append, List.nil_append, fd_nb0, fd_nb1, fd_nbb, fd_b0, nI_add, pk_mul, ite_not, Classical.not_not, not_false_iff, not_true, and_self, or_true, true_or, ↓reduceIte, if_true, if_false, ite_self, fd_mI, fd_mH, fd_mL, fd_p0, fd_w0, fd_w1, fd_w2, fd_10, fd_00, hc, g0, C0]
    · have dN : (nI (c 0) = nI 16777216) = False := eq_false (fun z => d (fd_nIj (by omega) (by omega) z))
      have rm := pk_rem (a := c 0) (d := 4096) (by omega) (by omega) (by omega)
      rw [if_neg d, fs_45_39]
      simp (disch := first | exact fd_nl_int | exact fd_nl_ref | exact fd_nl_none | assumption | exact nI_ne0 (by omega) (by omega) | exact fd_nb0 | exact fd_nb1 | exact fd_nbb | omega) only [fs_45_0, fs_45_1, fs_45_2_p70 hk, fs_45_5, fs_45_6, fs_45_7, fs_45_8, fs_45_9, fs_45_11, fs_45_14, fs_45_15_p70 hk, fs_45_18, fs_45_19, fs_45_20, fs_45_21, fs_45_24, fs_45_25, fs_45_28, fs_45_30_p74 hk, fs_45_31, fs_45_34, fs_45_37, fs_45_38, fs_45_40, fs_45_41_p70 hk, fs_45_44, fs_45_47, fs_45_48_p70 hk, fs_45_51, fs_45_52_p71 hk, fs_45_53, fs_45_54, fs_45_57, fs_45_58_p70 hk, fs_45_61, fs_45_62, fs_45_65, fs_45_68, fs_45_69, fs_45_70_p70 hk, fs_45_73, fs_45_76, fs_45_79, fs_45_80_p70 hk, fs_45_83, fs_45_84_p74 hk, fs_45_85, fs_45_87, fs_45_90, fs_45_91, fs_45_94, fs_45_95_p70 hk, fs_45_98, fs_45_99_p74 hk, fs_45_100, fs_45_103, fs_45_104, Option.bind_some, Option.toList_some, Option.toList_none, List.cons_append, List.nil_append, fd_nb0, fd_nb1, fd_nbb, fd_b0, nI_add, pk_mul, ite_not, Classical.not_not, not_false_iff, not_true, and_self, or_true, true_or, ↓reduceIte, if_true, if_false, ite_self, fd_mI, fd_mH, fd_mL, fd_p0, fd_w0, fd_w1, fd_w2, fd_10, fd_00, hc, g0, C0, dN, rm]
  | succ m ih =>
    intro a g c e G C
    have hc : ¬ nI n ≤ nI a := nI_ge (by omega) (by omega)
    have g0 : g.1 70 0 = nI n := by rw [G 70 (by decide)]; exact e0
    have g1 : g.1 70 1 = nI w := by rw [G 70 (by decide)]; exact e1
    obtain ⟨t1, t2⟩ := e2 a (by omega)
    obtain ⟨k1, k2⟩ := e3 a (by omega)
    rw [← G 71 (by decide)] at t1
    rw [← G 72 (by decide)] at k1
    have c0 := fd_bit0 (n := w) (j := a) (by omega) (by omega)
    rw [fd_foldS]
    by_cases d : T a = s
    · have d0 : (nI (T a) = nI s) = True := by rw [d]; exact eq_true rfl
      cases q : w.testBit a
      · have d1 : ((nI w >>> (nI a &&& 31)) &&& nI 1 = 0) = True := by rw [c0, q]; exact eq_true rfl
        have E : fd_dpF (fun o => decide (T o = s) && w.testBit o) K a c = c := if_neg (by dsimp only; rw [q]; simp)
        obtain ⟨h', r1, r2⟩ := ih (a + 1) g c (by omega) G C
        rw [E]
        refine ⟨h', ?_, r2⟩
        rw [fs_45_39]
        simp (disch := first | exact fd_nl_int | exact fd_nl_ref | exact fd_nl_none | assumption | exact nI_ne0 (by omega) (by omega) | exact fd_nb0 | exact fd_nb1 | exact fd_nbb | omega) only [fs_45_0, fs_45_1, fs_45_2_p70 hk, fs_45_5, fs_45_6, fs_45_7, fs_45_8, fs_45_9, fs_45_11, fs_45_14, fs_45_15_p70 hk, fs_45_18, fs_45_19, fs_45_20, fs_45_21, fs_45_24, fs_45_25, fs_45_28, fs_45_30_p74 hk, fs_45_31, fs_45_34, fs_45_37, fs_45_38, fs_45_40, fs_45_41_p70 hk, fs_45_44, fs_45_47, fs_45_48_p70 hk, fs_45_51, fs_45_52_p71 hk, fs_45_53, fs_45_54, fs_45_57, fs_45_58_p70 hk, fs_45_61, fs_45_62, fs_45_65, fs_45_68, fs_45_69, fs_45_70_p70 hk, fs_45_73, fs_45_76, fs_45_79, fs_45_80_p70 hk, fs_45_83, fs_45_84_p74 hk, fs_45_85, fs_45_87, fs_45_90, fs_45_91, fs_45_94, fs_45_95_p70 hk, fs_45_98, fs_45_99_p74 hk, fs_45_100, fs_45_103, fs_45_104, Option.bind_some, Option.toList_some, Option.toList_none, List.cons_append, List.nil_append, fd_nb0, fd_nb1, fd_nbb, fd_b0, nI_add, pk_mul, ite_not, Classical.not_not, not_false_iff, not_true, and_self, or_true, true_or, ↓reduceIte, if_true, if_false, ite_self, fd_mI, fd_mH, fd_mL, fd_p0, fd_w0, fd_w1, fd_w2, fd_10, fd_00, hc, g0, g1, t1, d0, fm_has, d1, r1]
      · have d1 : ((nI w >>> (nI a &&& 31)) &&& nI 1 = 0) = False := by rw [c0, q]; exact eq_false (by decide)
        have E : fd_dpF (fun o => decide (T o = s) && w.testBit o) K a c = fd_fold (fd_tw (K a) (4096 + 2 ^ a)) 16 0 c := if_pos (by dsimp only; rw [q, decide_eq_true d]; rfl)
        obtain ⟨g', x1, x2, x3⟩ := fm_tryWith hk (show a < 12 by omega) k2 16 0 g c none (by omega) k1 C
        obtain ⟨h', r1, r2⟩ := ih (a + 1) g' _ (by omega) (fun q hq => (x3 q hq).trans (G q hq)) x2
        have x0 : fd_E 46 0 [some (.ref (70)), some (.int (nI (a))), none, none] [] k g = some (none, (k, g')) := by
          simp (disch := first | exact fd_nl_int | exact fd_nl_ref | exact fd_nl_none | assumption | exact nI_ne0 (by omega) (by omega) | exact fd_nb0 | exact fd_nb1 | exact fd_nbb | omega) only [fs_46_0, fs_46_1, fs_46_3, fs_46_5, fs_46_8, fs_46_9, fs_46_10_p70 hk, fs_46_13, fs_46_14_p72 hk, fs_46_15, fs_46_16, fs_46_17, fs_46_18, fs_46_19, fs_46_20_p70 hk, fs_46_23, fs_46_24_p74 hk, fs_46_25, fs_46_27, fs_46_30, fs_46_31_p70 hk, fs_46_34, fs_46_35, fs_46_36_p70 hk, fs_46_39, fs_46_40_p74 hk, fs_46_41, fs_46_42_p70 hk, fs_46_45, fs_46_46_p74 hk, fs_46_47, fs_46_50, fs_46_51, fs_46_52, fs_46_53, fs_46_54, fs_46_55, fs_46_58_p74 hk, fs_46_59, fs_46_62, fs_46_65, Option.bind_some, Option.toList_some, Option.toList_none, List.cons_append, List.nil_append, fd_nb0, fd_nb1, fd_nbb, fd_b0, nI_add, pk_mul, ite_not, Classical.not_not, not_false_iff, not_true, and_self, or_true, true_or, ↓reduceIte, if_true, if_false, ite_self, fd_mI, fd_mH, fd_mL, fd_p0, fd_w0, fd_w1, fd_w2, fd_10, fd_00, x1]
        rw [E]
        refine ⟨h', ?_, r2⟩
        rw [fs_45_39]
        simp (disch := first | exact fd_nl_int | exact fd_nl_ref | exact fd_nl_none | assumption | exact nI_ne0 (by omega) (by omega) | exact fd_nb0 | exact fd_nb1 | exact fd_nbb | omega) only [fs_45_0, fs_45_1, fs_45_2_p70 hk, fs_45_5, fs_45_6, fs_45_7, fs_45_8, fs_45_9, fs_45_11, fs_45_14, fs_45_15_p70 hk, fs_45_18, fs_45_19, fs_45_20, fs_45_21, fs_45_24, fs_45_25, fs_45_28, fs_45_30_p74 hk, fs_45_31, fs_45_34, fs_45_37, fs_45_38, fs_45_40, fs_45_41_p70 hk, fs_45_44, fs_45_47, fs_45_48_p70 hk, fs_45_51, fs_45_52_p71 hk, fs_45_53, fs_45_54, fs_45_57, fs_45_58_p70 hk, fs_45_61, fs_45_62, fs_45_65, fs_45_68, fs_45_69, fs_45_70_p70 hk, fs_45_73, fs_45_76, fs_45_79, fs_45_80_p70 hk, fs_45_83, fs_45_84_p74 hk, fs_45_85, fs_45_87, fs_45_90, fs_45_91, fs_45_94, fs_45_95_p70 hk, fs_45_98, fs_45_99_p74 hk, fs_45_100, fs_45_103, fs_45_104, Option.bind_some, Option.toList_some, Option.toList_none, List.cons_append, List.nil_append, fd_nb0, fd_nb1, fd_nbb, fd_b0, nI_add, pk_mul, ite_not, Classical.not_not, not_false_iff, not_true, and_self, or_true, true_or, ↓reduceIte, if_true, if_false, ite_self, fd_mI, fd_mH, fd_mL, fd_p0, fd_w0, fd_w1, fd_w2, fd_10, fd_00, hc, g0, g1, t1, d0, fm_has, d1, x0, r1]
    · have d0 : (nI (T a) = nI s) = False := eq_false (fun z => d (fd_nIj (by omega) (by omega) z))
      have E : fd_dpF (fun o => decide (T o = s) && w.testBit o) K a c = c := if_neg (by dsimp only; rw [decide_eq_false d]; simp)
      obtain ⟨h', r1, r2⟩ := ih (a + 1) g c (by omega) G C
      rw [E]
      refine ⟨h', ?_, r2⟩
      rw [fs_45_39]
      simp (disch := first | exact fd_nl_int | exact fd_nl_ref | exact fd_nl_none | assumption | exact nI_ne0 (by omega) (by omega) | exact fd_nb0 | exact fd_nb1 | exact fd_nbb | omega) only [fs_45_0, fs_45_1, fs_45_2_p70 hk, fs_45_5, fs_45_6, fs_45_7, fs_45_8, fs_45_9, fs_45_11, fs_45_14, fs_45_15_p70 hk, fs_45_18, fs_45_19, fs_45_20, fs_45_21, fs_45_24, fs_45_25, fs_45_28, fs_45_30_p74 hk, fs_45_31, fs_45_34, fs_45_37, fs_45_38, fs_45_40, fs_45_41_p70 hk, fs_45_44, fs_45_47, fs_45_48_p70 hk, fs_45_51, fs_45_52_p71 hk, fs_45_53, fs_45_54, fs_45_57, fs_45_58_p70 hk, fs_45_61, fs_45_62, fs_45_65, fs_45_68, fs_45_69, fs_45_70_p70 hk, fs_45_73, fs_45_76, fs_45_79, fs_45_80_p70 hk, fs_45_83, fs_45_84_p74 hk, fs_45_85, fs_45_87, fs_45_90, fs_45_91, fs_45_94, fs_45_95_p70 hk, fs_45_98, fs_45_99_p74 hk, fs_45_100, fs_45_103, fs_45_104, Option.bind_some, Option.toList_some, Option.toList_none, List.cons_append, List.nil_append, fd_nb0, fd_nb1, fd_nbb, fd_b0, nI_add, pk_mul, ite_not, Classical.not_not, not_false_iff, not_true, and_self, or_true, true_or, ↓reduceIte, if_true, if_false, ite_self, fd_mI, fd_mH, fd_mL, fd_p0, fd_w0, fd_w1, fd_w2, fd_10, fd_00, hc, g0, t1, d0, r1]
/-- the officers of a ship that are ashore, as a set -/
def fd_ofF (A : Nat → Bool) (o x : Nat) : Nat := if A o = true then x ||| 2 ^ o else x
theorem fd_of_bit {A : Nat → Bool} : ∀ n, fd_fold (fd_ofF A) n 0 0 < 2 ^ n ∧ ∀ i, (fd_fold (fd_ofF A) n 0 0).testBit i = (decide (i < n) && A i) := by
  intro n
  induction n with
  | zero => exact ⟨(show (0 : Nat) < 2 ^ 0 by decide), fun i => by rw [fd_fold0, Nat.zero_testBit]; rfl⟩
  | succ n ih =>
    obtain ⟨i1, i2⟩ := ih
    rw [fd_fold_end, Nat.zero_add]
    unfold fd_ofF at i1 i2 ⊢
    generalize fd_fold (fun o x => if A o = true then x ||| 2 ^ o else x) n 0 0 = X at i1 i2
    have p : 2 ^ n < 2 ^ (n + 1) := by rw [Nat.pow_succ]; have := Nat.two_pow_pos n; omega
    by_cases c : A n = true
    · rw [if_pos c]
      refine ⟨Nat.or_lt_two_pow (Nat.lt_trans i1 p) p, fun i => ?_⟩
      rw [Nat.testBit_or, i2, Nat.testBit_two_pow]
      by_cases z : n = i
      · subst z
        rw [c, decide_eq_false (Nat.lt_irrefl n), decide_eq_true rfl, decide_eq_true (by omega : n < n + 1)]
        rfl
      · rw [decide_eq_false z, Bool.or_false]
        exact congrArg (· && A i) (decide_eq_decide.mpr (by omega))
    · rw [if_neg c]
      refine ⟨Nat.lt_trans i1 p, fun i => ?_⟩
      rw [i2]
      by_cases z : n = i
      · subst z
        cases q : A n
        · rw [Bool.and_false, Bool.and_false]
        · exact absurd q c
      · exact congrArg (· && A i) (decide_eq_decide.mpr (by omega))
theorem fm_mOf (hk : fd_Sok k fb bb dr) {n w s : Nat} {T : Nat → Nat} (hn : n ≤ 12) (hs : s < 6) (e0 : h.1 77 43 = nI n) (e1 : ∀ o, o < n → h.1 104 o = if w.testBit o then nI 1 else nI 0) (e2 : ∀ o, o < n → h.1 102 o = nI (T o) ∧ T o < 6) : ∀ (m a x : Nat), a + m = n → fd_E 192 15 [some (.ref (77)), some (.int (nI (s))), some (.int (nI (x))), some (.int (nI (a))), none] [] k h = fd_E 192 63 [some (.ref (77)), some (.int (nI (s))), some (.int (nI (fd_fold (fd_ofF (fun o => decide (T o = s) && w.testBit o)) m a x))), some (.int (-1)), some (.int (nI (0)))] [] k h := by
  intro m
  induction m with
  | zero =>
    intro a x e
    have hc : nI n ≤ nI a := nI_le (by omega) (by omega)
    rw [fs_192_15]
    simp (disch := first | exact fd_nl_int | exact fd_nl_ref | exact fd_nl_none | assumption | exact nI_ne0 (by omega) (by omega) | exact fd_nb0 | exact fd_nb1 | exact fd_nbb | omega) only [fs_192_0, fs_192_1, fs_192_2_p77 hk, fs_192_5, fs_192_8, fs_192_10, fs_192_11, fs_192_12, fs_192_13, fs_192_14, fs_192_16, fs_192_17_p77 hk, fs_192_20, fs_192_23, fs_192_24, fs_192_25_p77 hk, fs_192_28, fs_192_29_p102 hk, fs_192_30, fs_192_31, fs_192_34, fs_192_35_p77 hk, fs_192_38, fs_192_39_p104 hk, fs_192_40, fs_192_43, fs_192_44, fs_192_45, fs_192_46, fs_192_49, fs_192_50, fs_192_51, fs_192_52, fs_192_55, fs_192_58, fs_192_59, fs_192_60, fs_192_61, fs_192_65, fs_192_66, fs_192_69, fs_192_71, fs_192_72, fs_192_73, fs_192_74, fs_192_75, fs_192_78, fs_192_79, fs_192_80, fs_192_82_p77 hk, fs_192_85, fs_192_88, fs_192_89, fs_192_90, fs_192_93, fs_192_95, fs_192_98, fs_192_99, fs_192_102, fs_192_105, fs_192_107, fs_192_108, fs_192_111, fs_192_114, fs_192_115, Option.bind_some, Option.toList_some, Option.toList_none, List.cons_append, List.nil_append, fd_nb0, fd_nb1, fd_nbb, fd_b0, nI_add, pk_mul, ite_not, Classical.not_not, not_false_iff, not_true, and_self, or_true, true_or, ↓reduceIte, if_true, if_false, ite_self, fd_mI, fd_mH, fd_mL, fd_p0, fd_w0, fd_w1, fd_w2, fd_10, fd_00, hc, e0]
    rfl
  | succ m ih =>
    intro a x e
    have hc : ¬ nI n ≤ nI a := nI_ge (by omega) (by omega)
    obtain ⟨t1, t2⟩ := e2 a (by omega)
    have a1 := e1 a (by omega)
    have sh := fd_sh1 (n := a) (by omega)
    rw [fd_foldS]
    by_cases d : T a = s
    · have d0 : (nI (T a) = nI s) = True := by rw [d]; exact eq_true rfl
      cases q : w.testBit a
      · have E : fd_ofF (fun o => decide (T o = s) && w.testBit o) a x = x := if_neg (by dsimp only; rw [q]; simp)
        rw [q] at a1
        have a2 : h.1 104 a = nI 0 := a1
        rw [E, fs_192_15]
        simp (disch := first | exact fd_nl_int | exact fd_nl_ref | exact fd_nl_none | assumption | exact nI_ne0 (by omega) (by omega) | exact fd_nb0 | exact fd_nb1 | exact fd_nbb | omega) only [fs_192_0, fs_192_1, fs_192_2_p77 hk, fs_192_5, fs_192_8, fs_192_10, fs_192_11, fs_192_12, fs_192_13, fs_192_14, fs_192_16, fs_192_17_p77 hk, fs_192_20, fs_192_23, fs_192_24, fs_192_25_p77 hk, fs_192_28, fs_192_29_p102 hk, fs_192_30, fs_192_31, fs_192_34, fs_192_35_p77 hk, fs_192_38, fs_192_39_p104 hk, fs_192_40, fs_192_43, fs_192_44, fs_192_45, fs_192_46, fs_192_49, fs_192_50, fs_192_51, fs_192_52, fs_192_55, fs_192_58, fs_192_59, fs_192_60, fs_192_61, fs_192_65, fs_192_66, fs_192_69, fs_192_71, fs_192_72, fs_192_73, fs_192_74, fs_192_75, fs_192_78, fs_192_79, fs_192_80, fs_192_82_p77 hk, fs_192_85, fs_192_88, fs_192_89, fs_192_90, fs_192_93, fs_192_95, fs_192_98, fs_192_99, fs_192_102, fs_192_105, fs_192_107, fs_192_108, fs_192_111, fs_192_114, fs_192_115, Option.bind_some, Option.toList_some, Option.toList_none, List.cons_append, List.nil_append, fd_nb0, fd_nb1, fd_nbb, fd_b0, nI_add, pk_mul, ite_not, Classical.not_not, not_false_iff, not_true, and_self, or_true, true_or, ↓reduceIte, if_true, if_false, ite_self, fd_mI, fd_mH, fd_mL, fd_p0, fd_w0, fd_w1, fd_w2, fd_10, fd_00, hc, e0, t1, d0, a2, fd_or0, ih (a + 1) x (by omega)]
      · have E : fd_ofF (fun o => decide (T o = s) && w.testBit o) a x = x ||| 2 ^ a := if_pos (by dsimp only; rw [q, decide_eq_true d]; rfl)
        rw [q] at a1
        have a2 : h.1 104 a = nI 1 := a1
        rw [E, fs_192_15]
        simp (disch := first | exact fd_nl_int | exact fd_nl_ref | exact fd_nl_none | assumption | exact nI_ne0 (by omega) (by omega) | exact fd_nb0 | exact fd_nb1 | exact fd_nbb | omega) only [fs_192_0, fs_192_1, fs_192_2_p77 hk, fs_192_5, fs_192_8, fs_192_10, fs_192_11, fs_192_12, fs_192_13, fs_192_14, fs_192_16, fs_192_17_p77 hk, fs_192_20, fs_192_23, fs_192_24, fs_192_25_p77 hk, fs_192_28, fs_192_29_p102 hk, fs_192_30, fs_192_31, fs_192_34, fs_192_35_p77 hk, fs_192_38, fs_192_39_p104 hk, fs_192_40, fs_192_43, fs_192_44, fs_192_45, fs_192_46, fs_192_49, fs_192_50, fs_192_51, fs_192_52, fs_192_55, fs_192_58, fs_192_59, fs_192_60, fs_192_61, fs_192_65, fs_192_66, fs_192_69, fs_192_71, fs_192_72, fs_192_73, fs_192_74, fs_192_75, fs_192_78, fs_192_79, fs_192_80, fs_192_82_p77 hk, fs_192_85, fs_192_88, fs_192_89, fs_192_90, fs_192_93, fs_192_95, fs_192_98, fs_192_99, fs_192_102, fs_192_105, fs_192_107, fs_192_108, fs_192_111, fs_192_114, fs_192_115, Option.bind_some, Option.toList_some, Option.toList_none, List.cons_append, List.nil_append, fd_nb0, fd_nb1, fd_nbb, fd_b0, nI_add, pk_mul, ite_not, Classical.not_not, not_false_iff, not_true, and_self, or_true, true_or, ↓reduceIte, if_true, if_false, ite_self, fd_mI, fd_mH, fd_mL, fd_p0, fd_w0, fd_w1, fd_w2, fd_10, fd_00, hc, e0, t1, d0, a2, sh, fd_orN, ih (a + 1) (x ||| 2 ^ a) (by omega)]
    · have d0 : (nI (T a) = nI s) = False := eq_false (fun z => d (fd_nIj (by omega) (by omega) z))
      have E : fd_ofF (fun o => decide (T o = s) && w.testBit o) a x = x := if_neg (by dsimp only; rw [decide_eq_false d]; simp)
      rw [E, fs_192_15]
      simp (disch := first | exact fd_nl_int | exact fd_nl_ref | exact fd_nl_none | assumption | exact nI_ne0 (by omega) (by omega) | exact fd_nb0 | exact fd_nb1 | exact fd_nbb | omega) only [fs_192_0, fs_192_1, fs_192_2_p77 hk, fs_192_5, fs_192_8, fs_192_10, fs_192_11, fs_192_12, fs_192_13, fs_192_14, fs_192_16, fs_192_17_p77 hk, fs_192_20, fs_192_23, fs_192_24, fs_192_25_p77 hk, fs_192_28, fs_192_29_p102 hk, fs_192_30, fs_192_31, fs_192_34, fs_192_35_p77 hk, fs_192_38, fs_192_39_p104 hk, fs_192_40, fs_192_43, fs_192_44, fs_192_45, fs_192_46, fs_192_49, fs_192_50, fs_192_51, fs_192_52, fs_192_55, fs_192_58, fs_192_59, fs_192_60, fs_192_61, fs_192_65, fs_192_66, fs_192_69, fs_192_71, fs_192_72, fs_192_73, fs_192_74, fs_192_75, fs_192_78, fs_192_79, fs_192_80, fs_192_82_p77 hk, fs_192_85, fs_192_88, fs_192_89, fs_192_90, fs_192_93, fs_192_95, fs_192_98, fs_192_99, fs_192_102, fs_192_105, fs_192_107, fs_192_108, fs_192_111, fs_192_114, fs_192_115, Option.bind_some, Option.toList_some, Option.toList_none, List.cons_append, List.nil_append, fd_nb0, fd_nb1, fd_nbb, fd_b0, nI_add, pk_mul, ite_not, Classical.not_not, not_false_iff, not_true, and_self, or_true, true_or, ↓reduceIte, if_true, if_false, ite_self, fd_mI, fd_mH, fd_mL, fd_p0, fd_w0, fd_w1, fd_w2, fd_10, fd_00, hc, e0, t1, d0, fd_or0, ih (a + 1) x (by omega)]
theorem fm_mScan (hk : fd_Sok k fb bb dr) {n w N s Z : Nat} {T K : Nat → Nat} (hn : n ≤ 12) (hs : s < 6) (hZ : Z < 4096) (e0 : h.1 77 43 = nI n) (e1 : ∀ o, o < n → h.1 104 o = if w.testBit o then nI 1 else nI 0) (e2 : ∀ o, o < n → h.1 102 o = nI (T o) ∧ T o < 6) (e3 : ∀ o, o < n → h.1 103 o = nI (K o) ∧ K o < 16) (eN : h.1 81 s = nI N) (hN : N < 16) : ∀ (m a : Nat) (b : Int32), a + m = Z + 1 → fd_scI (fun S => fd_dn S Z = 0 ∧ N &&& (15 ^^^ fd_fold (fd_hsF (fun o => decide (T o = s) && (!w.testBit o || S.testBit o)) K) n 0 0) = 0) a b → ∃ b', fd_E 192 63 [some (.ref (77)), some (.int (nI (s))), some (.int (nI (Z))), some (.int (b)), some (.int (nI (a)))] [] k h = some (some (.int (b')), (k, h)) ∧ fd_scI (fun S => fd_dn S Z = 0 ∧ N &&& (15 ^^^ fd_fold (fd_hsF (fun o => decide (T o = s) && (!w.testBit o || S.testBit o)) K) n 0 0) = 0) (Z + 1) b' := by
  intro m
  induction m with
  | zero =>
    intro a b e I
    obtain rfl : a = Z + 1 := by omega
    have hc : nI Z < nI (Z + 1) := nI_lt (by omega) (by omega)
    refine ⟨b, ?_, I⟩
    rw [fs_192_63]
    simp (disch := first | exact fd_nl_int | exact fd_nl_ref | exact fd_nl_none | assumption | exact nI_ne0 (by omega) (by omega) | exact fd_nb0 | exact fd_nb1 | exact fd_nbb | omega) only [fs_192_0, fs_192_1, fs_192_2_p77 hk, fs_192_5, fs_192_8, fs_192_10, fs_192_11, fs_192_12, fs_192_13, fs_192_14, fs_192_15, fs_192_16, fs_192_17_p77 hk, fs_192_20, fs_192_23, fs_192_24, fs_192_25_p77 hk, fs_192_28, fs_192_29_p102 hk, fs_192_30, fs_192_31, fs_192_34, fs_192_35_p77 hk, fs_192_38, fs_192_39_p104 hk, fs_192_40, fs_192_43, fs_192_44, fs_192_45, fs_192_46, fs_192_49, fs_192_50, fs_192_51, fs_192_52, fs_192_55, fs_192_58, fs_192_59, fs_192_60, fs_192_61, fs_192_65, fs_192_66, fs_192_69, fs_192_71, fs_192_72, fs_192_73, fs_192_74, fs_192_75, fs_192_78, fs_192_79, fs_192_80, fs_192_82_p77 hk, fs_192_85, fs_192_88, fs_192_89, fs_192_90, fs_192_93, fs_192_95, fs_192_98, fs_192_99, fs_192_102, fs_192_105, fs_192_107, fs_192_108, fs_192_111, fs_192_114, fs_192_115, Option.bind_some, Option.toList_some, Option.toList_none, List.cons_append, List.nil_append, fd_nb0, fd_nb1, fd_nbb, fd_b0, nI_add, pk_mul, ite_not, Classical.not_not, not_false_iff, not_true, and_self, or_true, true_or, ↓reduceIte, if_true, if_false, ite_self, fd_mI, fd_mH, fd_mL, fd_p0, fd_w0, fd_w1, fd_w2, fd_10, fd_00, hc]
  | succ m ih =>
    intro a b e I
    have hc : ¬ nI Z < nI a := nI_nlt (by omega) (by omega)
    by_cases d : fd_dn a Z = 0
    · have d0 : (nI (fd_dn a Z) = 0) = True := by rw [d]; exact eq_true rfl
      have B := fm_canSail (h := h) (W := a) hk hn (show a < 4096 by omega) hs e0 e1 e2 e3 eN hN
      have hH := fd_mshs (inc := fun o => decide (T o = s) && (!w.testBit o || a.testBit o)) (K := K) (n := n) hN (fun o ho => (e3 o ho).2)
      have lt := (fd_l16 N hN _ hH.1).2
      by_cases c : N &&& (15 ^^^ fd_fold (fd_hsF (fun o => decide (T o = s) && (!w.testBit o || a.testBit o)) K) n 0 0) = 0
      · rw [fd_bt (by rw [c]; rfl)] at B
        have I0 := I
        rcases I with ⟨rfl, I2⟩ | ⟨q, rfl, q2, q3, q4⟩
        · obtain ⟨b', r1, r2⟩ := ih (a + 1) (nI a) (by omega) (fd_scI_yes (fun S hS v => absurd v (I2 S hS)) ⟨d, c⟩)
          refine ⟨b', ?_, r2⟩
          rw [fs_192_63]
          simp (disch := first | exact fd_nl_int | exact fd_nl_ref | exact fd_nl_none | assumption | exact nI_ne0 (by omega) (by omega) | exact fd_nb0 | exact fd_nb1 | exact fd_nbb | omega) only [fs_192_0, fs_192_1, fs_192_2_p77 hk, fs_192_5, fs_192_8, fs_192_10, fs_192_11, fs_192_12, fs_192_13, fs_192_14, fs_192_15, fs_192_16, fs_192_17_p77 hk, fs_192_20, fs_192_23, fs_192_24, fs_192_25_p77 hk, fs_192_28, fs_192_29_p102 hk, fs_192_30, fs_192_31, fs_192_34, fs_192_35_p77 hk, fs_192_38, fs_192_39_p104 hk, fs_192_40, fs_192_43, fs_192_44, fs_192_45, fs_192_46, fs_192_49, fs_192_50, fs_192_51, fs_192_52, fs_192_55, fs_192_58, fs_192_59, fs_192_60, fs_192_61, fs_192_65, fs_192_66, fs_192_69, fs_192_71, fs_192_72, fs_192_73, fs_192_74, fs_192_75, fs_192_78, fs_192_79, fs_192_80, fs_192_82_p77 hk, fs_192_85, fs_192_88, fs_192_89, fs_192_90, fs_192_93, fs_192_95, fs_192_98, fs_192_99, fs_192_102, fs_192_105, fs_192_107, fs_192_108, fs_192_111, fs_192_114, fs_192_115, Option.bind_some, Option.toList_some, Option.toList_none, List.cons_append, List.nil_append, fd_nb0, fd_nb1, fd_nbb, fd_b0, nI_add, pk_mul, ite_not, Classical.not_not, not_false_iff, not_true, and_self, or_true, true_or, ↓reduceIte, if_true, if_false, ite_self, fd_mI, fd_mH, fd_mL, fd_p0, fd_w0, fd_w1, fd_w2, fd_10, fd_00, hc, fd_dnN, d0, B, r1]
        · have qm : (nI q = -1) = False := eq_false (fd_nm1 (by omega))
          have u1 := fm_bits (k := k) (h := h) (show a < 4096 by omega)
          have u2 := fm_bits (k := k) (h := h) (show q < 4096 by omega)
          have l1 := fd_bs_le (n := a) (k := 12)
          have l2 := fd_bs_le (n := q) (k := 12)
          by_cases v : fd_bs a 12 < fd_bs q 12
          · have vl : ¬ nI (fd_bs q 12) ≤ nI (fd_bs a 12) := nI_ge v (by omega)
            obtain ⟨b', r1, r2⟩ := ih (a + 1) (nI a) (by omega) (fd_scI_yes (fun S hS y => Nat.le_trans (fd_cost_lt (show a < 4096 by omega) v) (q4 S hS y)) ⟨d, c⟩)
            refine ⟨b', ?_, r2⟩
            rw [fs_192_63]
            simp (disch := first | exact fd_nl_int | exact fd_nl_ref | exact fd_nl_none | assumption | exact nI_ne0 (by omega) (by omega) | exact fd_nb0 | exact fd_nb1 | exact fd_nbb | omega) only [fs_192_0, fs_192_1, fs_192_2_p77 hk, fs_192_5, fs_192_8, fs_192_10, fs_192_11, fs_192_12, fs_192_13, fs_192_14, fs_192_15, fs_192_16, fs_192_17_p77 hk, fs_192_20, fs_192_23, fs_192_24, fs_192_25_p77 hk, fs_192_28, fs_192_29_p102 hk, fs_192_30, fs_192_31, fs_192_34, fs_192_35_p77 hk, fs_192_38, fs_192_39_p104 hk, fs_192_40, fs_192_43, fs_192_44, fs_192_45, fs_192_46, fs_192_49, fs_192_50, fs_192_51, fs_192_52, fs_192_55, fs_192_58, fs_192_59, fs_192_60, fs_192_61, fs_192_65, fs_192_66, fs_192_69, fs_192_71, fs_192_72, fs_192_73, fs_192_74, fs_192_75, fs_192_78, fs_192_79, fs_192_80, fs_192_82_p77 hk, fs_192_85, fs_192_88, fs_192_89, fs_192_90, fs_192_93, fs_192_95, fs_192_98, fs_192_99, fs_192_102, fs_192_105, fs_192_107, fs_192_108, fs_192_111, fs_192_114, fs_192_115, Option.bind_some, Option.toList_some, Option.toList_none, List.cons_append, List.nil_append, fd_nb0, fd_nb1, fd_nbb, fd_b0, nI_add, pk_mul, ite_not, Classical.not_not, not_false_iff, not_true, and_self, or_true, true_or, ↓reduceIte, if_true, if_false, ite_self, fd_mI, fd_mH, fd_mL, fd_p0, fd_w0, fd_w1, fd_w2, fd_10, fd_00, hc, fd_dnN, d0, B, qm, u1, u2, vl, r1]
          · have vl : nI (fd_bs q 12) ≤ nI (fd_bs a 12) := nI_le (by omega) (by omega)
            obtain ⟨b', r1, r2⟩ := ih (a + 1) (nI q) (by omega) (Or.inr ⟨q, rfl, by omega, q3, fun S hS y => by
              by_cases z : S = a
              · subst z; exact fd_cost_ge q2 v
              · exact q4 S (by omega) y⟩)
            refine ⟨b', ?_, r2⟩
            rw [fs_192_63]
            simp (disch := first | exact fd_nl_int | exact fd_nl_ref | exact fd_nl_none | assumption | exact nI_ne0 (by omega) (by omega) | exact fd_nb0 | exact fd_nb1 | exact fd_nbb | omega) only [fs_192_0, fs_192_1, fs_192_2_p77 hk, fs_192_5, fs_192_8, fs_192_10, fs_192_11, fs_192_12, fs_192_13, fs_192_14, fs_192_15, fs_192_16, fs_192_17_p77 hk, fs_192_20, fs_192_23, fs_192_24, fs_192_25_p77 hk, fs_192_28, fs_192_29_p102 hk, fs_192_30, fs_192_31, fs_192_34, fs_192_35_p77 hk, fs_192_38, fs_192_39_p104 hk, fs_192_40, fs_192_43, fs_192_44, fs_192_45, fs_192_46, fs_192_49, fs_192_50, fs_192_51, fs_192_52, fs_192_55, fs_192_58, fs_192_59, fs_192_60, fs_192_61, fs_192_65, fs_192_66, fs_192_69, fs_192_71, fs_192_72, fs_192_73, fs_192_74, fs_192_75, fs_192_78, fs_192_79, fs_192_80, fs_192_82_p77 hk, fs_192_85, fs_192_88, fs_192_89, fs_192_90, fs_192_93, fs_192_95, fs_192_98, fs_192_99, fs_192_102, fs_192_105, fs_192_107, fs_192_108, fs_192_111, fs_192_114, fs_192_115, Option.bind_some, Option.toList_some, Option.toList_none, List.cons_append, List.nil_append, fd_nb0, fd_nb1, fd_nbb, fd_b0, nI_add, pk_mul, ite_not, Classical.not_not, not_false_iff, not_true, and_self, or_true, true_or, ↓reduceIte, if_true, if_false, ite_self, fd_mI, fd_mH, fd_mL, fd_p0, fd_w0, fd_w1, fd_w2, fd_10, fd_00, hc, fd_dnN, d0, B, qm, u1, u2, vl, r1]
      · rw [fd_bf (fun z : nI (N &&& (15 ^^^ fd_fold (fd_hsF (fun o => decide (T o = s) && (!w.testBit o || a.testBit o)) K) n 0 0)) = 0 => c (fd_nIj (by omega) (by omega) (z.trans nI_0.symm)))] at B
        obtain ⟨b', r1, r2⟩ := ih (a + 1) b (by omega) (fd_scI_no I (fun v => c v.2))
        refine ⟨b', ?_, r2⟩
        rw [fs_192_63]
        simp (disch := first | exact fd_nl_int | exact fd_nl_ref | exact fd_nl_none | assumption | exact nI_ne0 (by omega) (by omega) | exact fd_nb0 | exact fd_nb1 | exact fd_nbb | omega) only [fs_192_0, fs_192_1, fs_192_2_p77 hk, fs_192_5, fs_192_8, fs_192_10, fs_192_11, fs_192_12, fs_192_13, fs_192_14, fs_192_15, fs_192_16, fs_192_17_p77 hk, fs_192_20, fs_192_23, fs_192_24, fs_192_25_p77 hk, fs_192_28, fs_192_29_p102 hk, fs_192_30, fs_192_31, fs_192_34, fs_192_35_p77 hk, fs_192_38, fs_192_39_p104 hk, fs_192_40, fs_192_43, fs_192_44, fs_192_45, fs_192_46, fs_192_49, fs_192_50, fs_192_51, fs_192_52, fs_192_55, fs_192_58, fs_192_59, fs_192_60, fs_192_61, fs_192_65, fs_192_66, fs_192_69, fs_192_71, fs_192_72, fs_192_73, fs_192_74, fs_192_75, fs_192_78, fs_192_79, fs_192_80, fs_192_82_p77 hk, fs_192_85, fs_192_88, fs_192_89, fs_192_90, fs_192_93, fs_192_95, fs_192_98, fs_192_99, fs_192_102, fs_192_105, fs_192_107, fs_192_108, fs_192_111, fs_192_114, fs_192_115, Option.bind_some, Option.toList_some, Option.toList_none, List.cons_append, List.nil_append, fd_nb0, fd_nb1, fd_nbb, fd_b0, nI_add, pk_mul, ite_not, Classical.not_not, not_false_iff, not_true, and_self, or_true, true_or, ↓reduceIte, if_true, if_false, ite_self, fd_mI, fd_mH, fd_mL, fd_p0, fd_w0, fd_w1, fd_w2, fd_10, fd_00, hc, fd_dnN, d0, B, r1]
    · have dl : fd_dn a Z < 4096 := fd_dn_lt (n := 12) (by omega)
      have d0 : (nI (fd_dn a Z) = 0) = False := eq_false (fun z => d (fd_nIj (by omega) (by omega) (z.trans nI_0.symm)))
      obtain ⟨b', r1, r2⟩ := ih (a + 1) b (by omega) (fd_scI_no I (fun v => d v.1))
      refine ⟨b', ?_, r2⟩
      rw [fs_192_63]
      simp (disch := first | exact fd_nl_int | exact fd_nl_ref | exact fd_nl_none | assumption | exact nI_ne0 (by omega) (by omega) | exact fd_nb0 | exact fd_nb1 | exact fd_nbb | omega) only [fs_192_0, fs_192_1, fs_192_2_p77 hk, fs_192_5, fs_192_8, fs_192_10, fs_192_11, fs_192_12, fs_192_13, fs_192_14, fs_192_15, fs_192_16, fs_192_17_p77 hk, fs_192_20, fs_192_23, fs_192_24, fs_192_25_p77 hk, fs_192_28, fs_192_29_p102 hk, fs_192_30, fs_192_31, fs_192_34, fs_192_35_p77 hk, fs_192_38, fs_192_39_p104 hk, fs_192_40, fs_192_43, fs_192_44, fs_192_45, fs_192_46, fs_192_49, fs_192_50, fs_192_51, fs_192_52, fs_192_55, fs_192_58, fs_192_59, fs_192_60, fs_192_61, fs_192_65, fs_192_66, fs_192_69, fs_192_71, fs_192_72, fs_192_73, fs_192_74, fs_192_75, fs_192_78, fs_192_79, fs_192_80, fs_192_82_p77 hk, fs_192_85, fs_192_88, fs_192_89, fs_192_90, fs_192_93, fs_192_95, fs_192_98, fs_192_99, fs_192_102, fs_192_105, fs_192_107, fs_192_108, fs_192_111, fs_192_114, fs_192_115, Option.bind_some, Option.toList_some, Option.toList_none, List.cons_append, List.nil_append, fd_nb0, fd_nb1, fd_nbb, fd_b0, nI_add, pk_mul, ite_not, Classical.not_not, not_false_iff, not_true, and_self, or_true, true_or, ↓reduceIte, if_true, if_false, ite_self, fd_mI, fd_mH, fd_mL, fd_p0, fd_w0, fd_w1, fd_w2, fd_10, fd_00, hc, fd_dnN, d0, r1]
theorem fc_asked (I : fd_Inv k h) (x : Int32) : fd_Ag k h 98 [some (.ref (0)), some (.int (x))] 192 [some (.ref (77)), some (.int (x)), none, none, none] := by
  have I0 := I; obtain ⟨fb, bb, dr, ns, np, nb, t, hk, F, ht, TX, B0, B1, FE, BA, OF, PL⟩ := I0; have F0 := F; simp only [fd_Fl, Nat.reduceAdd] at F0; obtain ⟨⟨b1, b2, b3, b4⟩, ⟨f1, f2, f3, f4, f5, f6, f7⟩, ⟨g1, g2, g3, g4⟩, S, O, T⟩ := F0
  by_cases c1 : fd_wi x (nI 0) (nI ns - nI 1)
  · obtain ⟨s, hs, rfl⟩ := (fd_arg (by omega)).mp c1
    obtain ⟨n, w, T, K, hn, hw, e1, e2, e4, a1, t1, t2, k1, k2⟩ := fd_offs OF
    have hp := fd_p2 hn
    obtain ⟨N, _, N1, N2, N3⟩ := OF.2.1 s hs
    have A := fm_missing hk hn (show w < 4096 by omega) (show s < 6 by omega) e1 e4 t1 k1 N2 (show N < 16 by omega)
    have ml := fd_mshs (inc := fun o => decide (T o = s) && !w.testBit o) (K := K) (n := n) (show N < 16 by omega) (fun o ho => (k1 o ho).2)
    have M16 : fd_fold (fd_msF (fun o => decide (T o = s) && !w.testBit o) K) n 0 N < 16 := by
      rw [ml.2]; exact (fd_l16 N (by omega) _ ml.1).2
    have Rc := fun S hS => fd_Rf_can (T := T) (K := K) (n := n) (w := w) (N := N) (s := s) (S := S) hn (by omega) (fun o ho => (k1 o ho).2) hS
    generalize fd_fold (fd_msF (fun o => decide (T o = s) && !w.testBit o) K) n 0 N = M at A M16 Rc
    obtain ⟨g1, f1', f2', f3', f4'⟩ := fm_askFill (s := s) hk M16 16 0 h (by omega)
    obtain ⟨g2, r1, r2⟩ := fm_askLoop (M := M) hk hn (show w < 4096 by omega) (show s < 6 by omega) e1 e4 t1 k1 n 0 g1 (fd_c0 M) (by omega) f4' (fun j hj => ⟨f2' j (Nat.zero_le _) hj, by unfold fd_c0; split <;> omega⟩)
    obtain ⟨z1, z2⟩ := fd_of_bit (A := fun o => decide (T o = s) && w.testBit o) n
    have mo := fm_mOf (h := g2) (w := w) (T := T) hk hn (show s < 6 by omega) (by rw [r2 77 (by decide)]; exact e2) (by rw [r2 104 (by decide)]; exact a1) (by rw [r2 102 (by decide)]; exact t2) n 0 0 (by omega)
    generalize fd_fold (fd_ofF (fun o => decide (T o = s) && w.testBit o)) n 0 0 = Z at z1 z2 mo
    obtain ⟨b', s1, s2⟩ := fm_mScan (h := g2) (w := w) (T := T) (K := K) (Z := Z) hk hn (show s < 6 by omega) (by omega) (by rw [r2 77 (by decide)]; exact e2) (by rw [r2 104 (by decide)]; exact a1) (by rw [r2 102 (by decide)]; exact t2) (by rw [r2 103 (by decide)]; exact k2) (by rw [r2 81 (by decide)]; exact N3) (show N < 16 by omega) (Z + 1) 0 (-1) (by omega) (Or.inl ⟨rfl, fun S hS => absurd hS (Nat.not_lt_zero _)⟩)
    have zA : ∀ i, Z.testBit i = true ↔ (decide (T i = s) && w.testBit i) = true := fun i => by
      rw [z2 i]
      constructor
      · intro y
        exact (Bool.and_eq_true _ _ ▸ y).2
      · intro y
        have wi : w.testBit i = true := (Bool.and_eq_true _ _ ▸ y).2
        rw [y, decide_eq_true (fd_tb_lt hw wi)]
        rfl
    have ls := fd_dp_ls (A := fun o => decide (T o = s) && w.testBit o) hn M16 (fun o ho => (k1 o ho).2) n (Nat.le_refl n) 0 (by omega)
    have eq := fd_ask_eq hn z1 zA (fun S hS => by
      rw [fd_dn_sub hS]
      constructor
      · rintro ⟨v1, v2⟩
        exact ⟨v1, by rw [Rc S (fun i hi => (zA i).mp (v1 i hi))]; exact v2⟩
      · rintro ⟨v1, v2⟩
        exact ⟨v1, by rw [← Rc S (fun i hi => (zA i).mp (v1 i hi))]; exact v2⟩) ls s2
    rw [← eq] at r1
    have r0 : fd_E 45 0 [some (.ref (70)), some (.int (nI (s))), none, none] [] k h = some (some (.int (b')), (k, g2)) := by
      have st : fd_E 45 0 [some (.ref (70)), some (.int (nI (s))), none, none] [] k h = fd_E 45 8 [some (.ref (70)), some (.int (nI (s))), some (.int (nI (M))), some (.int (nI (0)))] [] k h := by
        simp (disch := first | exact fd_nl_int | exact fd_nl_ref | exact fd_nl_none | assumption | exact nI_ne0 (by omega) (by omega) | exact fd_nb0 | exact fd_nb1 | exact fd_nbb | omega) only [fs_45_0, fs_45_1, fs_45_2_p70 hk, fs_45_5, fs_45_6, fs_45_7, fs_45_9, fs_45_11, fs_45_14, fs_45_15_p70 hk, fs_45_18, fs_45_19, fs_45_20, fs_45_21, fs_45_24, fs_45_25, fs_45_28, fs_45_30_p74 hk, fs_45_31, fs_45_34, fs_45_37, fs_45_38, fs_45_39, fs_45_40, fs_45_41_p70 hk, fs_45_44, fs_45_47, fs_45_48_p70 hk, fs_45_51, fs_45_52_p71 hk, fs_45_53, fs_45_54, fs_45_57, fs_45_58_p70 hk, fs_45_61, fs_45_62, fs_45_65, fs_45_68, fs_45_69, fs_45_70_p70 hk, fs_45_73, fs_45_76, fs_45_79, fs_45_80_p70 hk, fs_45_83, fs_45_84_p74 hk, fs_45_85, fs_45_87, fs_45_90, fs_45_91, fs_45_94, fs_45_95_p70 hk, fs_45_98, fs_45_99_p74 hk, fs_45_100, fs_45_103, fs_45_104, Option.bind_some, Option.toList_some, Option.toList_none, List.cons_append, List.nil_append, fd_nb0, fd_nb1, fd_nbb, fd_b0, nI_add, pk_mul, ite_not, Classical.not_not, not_false_iff, not_true, and_self, or_true, true_or, ↓reduceIte, if_true, if_false, ite_self, fd_mI, fd_mH, fd_mL, fd_p0, fd_w0, fd_w1, fd_w2, fd_10, fd_00, A]
      exact st.trans (f1'.trans r1)
    refine ⟨b', k, g2, g2, ?_, ?_, ⟨fb, bb, dr, ns, np, nb, t, hk, fd_Fl_fr (by simp (disch := omega) only [r2, and_self]) F, (by simp (disch := omega) only [r2]; exact ht), fd_Itx_fr (by simp (disch := omega) only [r2, and_self]) TX, fd_Bk_fr hk.2.2.2.2.2.2.1 (by simp (disch := omega) only [r2, and_self]) B0, fd_Bk_fr hk.2.2.2.2.2.2.2.1 (by simp (disch := omega) only [r2, and_self]) B1, fd_Ife_fr (by simp (disch := omega) only [r2, and_self]) FE, fd_Iba_fr (by simp (disch := omega) only [r2, and_self]) BA, fd_Iof_fr (by simp (disch := omega) only [r2, and_self]) OF, fd_Ipl_fr (by simp (disch := omega) only [r2, and_self]) PL⟩, rfl⟩
    · simp (disch := first | exact fd_nl_int | exact fd_nl_ref | exact fd_nl_none | assumption | exact nI_ne0 (by omega) (by omega) | exact fd_nb0 | exact fd_nb1 | exact fd_nbb | omega) only [fs_98_0, fs_98_1, fs_98_2_p0 hk, fs_98_5, fs_98_8, fs_98_10, fs_98_11, fs_98_12_p0 hk, fs_98_15, fs_98_16_p70 hk, fs_98_19, Option.bind_some, Option.toList_some, Option.toList_none, List.cons_append, List.nil_append, fd_nb0, fd_nb1, fd_nbb, fd_b0, nI_add, pk_mul, ite_not, Classical.not_not, not_false_iff, not_true, and_self, or_true, true_or, ↓reduceIte, if_true, if_false, ite_self, fd_mI, fd_mH, fd_mL, fd_p0, fd_w0, fd_w1, fd_w2, fd_10, fd_00, fm_isShip hk, fm_isHour, fm_isBook, fm_within, fm_isCell, fm_canPass hk, f1, f2, f4, eq_true c1, r0]
    · have f3'' : g2.1 77 5 = nI ns := by rw [r2 77 (by decide)]; exact f3
      simp (disch := first | exact fd_nl_int | exact fd_nl_ref | exact fd_nl_none | assumption | exact nI_ne0 (by omega) (by omega) | exact fd_nb0 | exact fd_nb1 | exact fd_nbb | omega) only [fs_192_0, fs_192_1, fs_192_2_p77 hk, fs_192_5, fs_192_8, fs_192_10, fs_192_11, fs_192_12, fs_192_13, fs_192_14, fs_192_16, fs_192_17_p77 hk, fs_192_20, fs_192_23, fs_192_24, fs_192_25_p77 hk, fs_192_28, fs_192_29_p102 hk, fs_192_30, fs_192_31, fs_192_34, fs_192_35_p77 hk, fs_192_38, fs_192_39_p104 hk, fs_192_40, fs_192_43, fs_192_44, fs_192_45, fs_192_46, fs_192_49, fs_192_50, fs_192_51, fs_192_52, fs_192_55, fs_192_58, fs_192_59, fs_192_60, fs_192_61, fs_192_65, fs_192_66, fs_192_69, fs_192_71, fs_192_72, fs_192_73, fs_192_74, fs_192_75, fs_192_78, fs_192_79, fs_192_80, fs_192_82_p77 hk, fs_192_85, fs_192_88, fs_192_89, fs_192_90, fs_192_93, fs_192_95, fs_192_98, fs_192_99, fs_192_102, fs_192_105, fs_192_107, fs_192_108, fs_192_111, fs_192_114, fs_192_115, Option.bind_some, Option.toList_some, Option.toList_none, List.cons_append, List.nil_append, fd_nb0, fd_nb1, fd_nbb, fd_b0, nI_add, pk_mul, ite_not, Classical.not_not, not_false_iff, not_true, and_self, or_true, true_or, ↓reduceIte, if_true, if_false, ite_self, fd_mI, fd_mH, fd_mL, fd_p0, fd_w0, fd_w1, fd_w2, fd_10, fd_00, fm_mIsShip hk, f3'', eq_true c1, mo, s1]
  · exact fd_ag_ro I (v := -2) (w := -2) (by simp (disch := first | exact fd_nl_int | exact fd_nl_ref | exact fd_nl_none | assumption | exact nI_ne0 (by omega) (by omega) | exact fd_nb0 | exact fd_nb1 | exact fd_nbb | omega) only [fs_98_0, fs_98_1, fs_98_2_p0 hk, fs_98_5, fs_98_8, fs_98_10, fs_98_11, fs_98_12_p0 hk, fs_98_15, fs_98_16_p70 hk, fs_98_19, Option.bind_some, Option.toList_some, Option.toList_none, List.cons_append, List.nil_append, fd_nb0, fd_nb1, fd_nbb, fd_b0, nI_add, pk_mul, ite_not, Classical.not_not, not_false_iff, not_true, and_self, or_true, true_or, ↓reduceIte, if_true, if_false, ite_self, fd_mI, fd_mH, fd_mL, fd_p0, fd_w0, fd_w1, fd_w2, fd_10, fd_00, fm_isShip hk, fm_isHour, fm_isBook, fm_within, fm_isCell, fm_canPass hk, f1, f2, f4, c1]) (by simp (disch := first | exact fd_nl_int | exact fd_nl_ref | exact fd_nl_none | assumption | exact nI_ne0 (by omega) (by omega) | exact fd_nb0 | exact fd_nb1 | exact fd_nbb | omega) only [fs_192_0, fs_192_1, fs_192_2_p77 hk, fs_192_5, fs_192_8, fs_192_10, fs_192_11, fs_192_12, fs_192_13, fs_192_14, fs_192_16, fs_192_17_p77 hk, fs_192_20, fs_192_23, fs_192_24, fs_192_25_p77 hk, fs_192_28, fs_192_29_p102 hk, fs_192_30, fs_192_31, fs_192_34, fs_192_35_p77 hk, fs_192_38, fs_192_39_p104 hk, fs_192_40, fs_192_43, fs_192_44, fs_192_45, fs_192_46, fs_192_49, fs_192_50, fs_192_51, fs_192_52, fs_192_55, fs_192_58, fs_192_59, fs_192_60, fs_192_61, fs_192_65, fs_192_66, fs_192_69, fs_192_71, fs_192_72, fs_192_73, fs_192_74, fs_192_75, fs_192_78, fs_192_79, fs_192_80, fs_192_82_p77 hk, fs_192_85, fs_192_88, fs_192_89, fs_192_90, fs_192_93, fs_192_95, fs_192_98, fs_192_99, fs_192_102, fs_192_105, fs_192_107, fs_192_108, fs_192_111, fs_192_114, fs_192_115, Option.bind_some, Option.toList_some, Option.toList_none, List.cons_append, List.nil_append, fd_nb0, fd_nb1, fd_nbb, fd_b0, nI_add, pk_mul, ite_not, Classical.not_not, not_false_iff, not_true, and_self, or_true, true_or, ↓reduceIte, if_true, if_false, ite_self, fd_mI, fd_mH, fd_mL, fd_p0, fd_w0, fd_w1, fd_w2, fd_10, fd_00, fm_mIsShip hk, fm_mIn, fm_mIsHour, fm_mIsBook, fm_mIsCell, f3, f5, ht, c1]) rfl
end ASKED
