/-! THE READER's tokens -/
section LEX
variable {k : fd_Sk} {h g : fd_Hp} {fb bb dr b : Nat} {n p : Nat} {bt : Nat → Int32}
def fd_cT (n : Nat) (bt : Nat → Int32) (h : fd_Hp) : Prop := n ≤ 200 ∧ h.1 39 1 = nI n ∧ ∀ i, i < n → h.1 40 i = bt i
def fd_CL (n : Nat) (bt : Nat → Int32) (p : Nat) (h : fd_Hp) : Prop := p ≤ n ∧ h.1 41 2 = nI (fd_tS n bt p) ∧ h.1 41 3 = nI (fd_tE n bt p) ∧ h.1 41 4 = nI (fd_tR n bt p)
theorem fd_row_le {c : Int32} : fd_row c ≤ 2 := by
  unfold fd_row
  (repeat' split) <;> omega
theorem fm_byteAt (hk : fd_Sok k fb bb dr) (T : fd_cT n bt h) {i : Nat} (hi : i < n) : fd_E 67 0 [some (.ref (39)), some (.int (nI (i)))] [] k h = some (some (.int (bt i)), (k, h)) := by
  obtain ⟨T1, T2, T3⟩ := T
  have c0 : ¬ nI i < 0 := nI_pos (by omega)
  have c1 : ¬ nI n ≤ nI i := nI_ge hi (by omega)
  have e := T3 i hi
  simp (disch := first | exact fd_nl_int | exact fd_nl_ref | exact fd_nl_none | assumption | exact nI_ne0 (by omega) (by omega) | exact fd_nb0 | exact fd_nb1 | exact fd_nbb | omega) only [fs_67_0, fs_67_1, fs_67_4, fs_67_5, fs_67_6_p39 hk, fs_67_9, fs_67_12, fs_67_13_p39 hk, fs_67_16, fs_67_17_p40 hk, fs_67_18, fs_67_21, fs_67_22, Option.bind_some, Option.toList_some, Option.toList_none, List.cons_append, List.nil_append, fd_nb0, fd_nb1, fd_nbb, fd_b0, nI_add, pk_mul, ite_not, Classical.not_not, not_false_iff, not_true, and_self, or_true, true_or, ↓reduceIte, if_true, if_false, ite_self, fd_mI, fd_mH, fd_mL, fd_p0, fd_w0, fd_w1, fd_w2, fd_10, fd_00, c0, c1, T2, e]
theorem fm_byteEnd (hk : fd_Sok k fb bb dr) (T : fd_cT n bt h) {i : Nat} (hi : n ≤ i) (h9 : i < 1000) : fd_E 67 0 [some (.ref (39)), some (.int (nI (i)))] [] k h = some (some (.int (-1)), (k, h)) := by
  obtain ⟨T1, T2, T3⟩ := T
  have c0 : ¬ nI i < 0 := nI_pos (by omega)
  have c1 : nI n ≤ nI i := nI_le hi (by omega)
  simp (disch := first | exact fd_nl_int | exact fd_nl_ref | exact fd_nl_none | assumption | exact nI_ne0 (by omega) (by omega) | exact fd_nb0 | exact fd_nb1 | exact fd_nbb | omega) only [fs_67_0, fs_67_1, fs_67_4, fs_67_5, fs_67_6_p39 hk, fs_67_9, fs_67_12, fs_67_13_p39 hk, fs_67_16, fs_67_17_p40 hk, fs_67_18, fs_67_21, fs_67_22, Option.bind_some, Option.toList_some, Option.toList_none, List.cons_append, List.nil_append, fd_nb0, fd_nb1, fd_nbb, fd_b0, nI_add, pk_mul, ite_not, Classical.not_not, not_false_iff, not_true, and_self, or_true, true_or, ↓reduceIte, if_true, if_false, ite_self, fd_mI, fd_mH, fd_mL, fd_p0, fd_w0, fd_w1, fd_w2, fd_10, fd_00, c0, c1, T2]
theorem fm_rowOf (c : Int32) : fd_E 64 0 [some (.int (c))] [] k h = some (some (.int (nI (fd_row c))), (k, h)) := by
  unfold fd_row fd_wi
  by_cases c1 : c < nI 97 <;> by_cases c2 : nI 122 < c <;> by_cases c3 : c < nI 48 <;> by_cases c4 : nI 57 < c <;> simp only [c1, c2, c3, c4, not_true, not_false_iff, and_self, and_true, true_and, and_false, false_and, if_true, if_false] <;> simp (disch := first | exact fd_nl_int | exact fd_nl_ref | exact fd_nl_none | assumption | exact nI_ne0 (by omega) (by omega) | exact fd_nb0 | exact fd_nb1 | exact fd_nbb | omega) only [fs_64_0, fs_64_1, fs_64_3, fs_64_6, fs_64_7, fs_64_9, fs_64_12, fs_64_13, fs_64_14, fs_64_15, fs_64_17, fs_64_20, fs_64_21, fs_64_23, fs_64_26, fs_64_27, fs_64_30, fs_64_31, Option.bind_some, Option.toList_some, Option.toList_none, List.cons_append, List.nil_append, fd_nb0, fd_nb1, fd_nbb, fd_b0, nI_add, pk_mul, ite_not, Classical.not_not, not_false_iff, not_true, and_self, or_true, true_or, ↓reduceIte, if_true, if_false, ite_self, fd_mI, fd_mH, fd_mL, fd_p0, fd_w0, fd_w1, fd_w2, fd_10, fd_00, c1, c2, c3, c4]
theorem fd_cT_fr {h' : fd_Hp} (T : fd_cT n bt h) (e1 : h'.1 39 1 = h.1 39 1) (e2 : h'.1 40 = h.1 40) : fd_cT n bt h' := by
  unfold fd_cT
  rw [e1, e2]
  exact T
theorem fm_skip (hk : fd_Sok k fb bb dr) : ∀ (m i : Nat) (h : fd_Hp), i + m = n → fd_cT n bt h → h.1 41 2 = nI i → ∃ h', fd_E 63 8 [some (.ref (41))] [] k h = fd_E 63 51 [some (.ref (41))] [] k h' ∧ h'.1 41 2 = nI (fd_run (fun i => decide (bt i = nI 32)) m i) ∧ ∀ q j, ¬ (q = 41 ∧ j = 2) → h'.1 q j = h.1 q j := by
  intro m
  induction m with
  | zero =>
    intro i h e T es
    obtain rfl : i = n := by omega
    have hc : nI i ≤ nI i := nI_le (Nat.le_refl _) (by have := T.1; omega)
    have T2 := T.2.1
    refine ⟨h, ?_, es, fun _ _ _ => rfl⟩
    rw [fs_63_8]
    simp (disch := first | exact fd_nl_int | exact fd_nl_ref | exact fd_nl_none | assumption | exact nI_ne0 (by omega) (by omega) | exact fd_nb0 | exact fd_nb1 | exact fd_nbb | omega) only [fs_63_0, fs_63_1, fs_63_2_p41 hk, fs_63_5_p41 hk, fs_63_9_p41 hk, fs_63_12, fs_63_13_p41 hk, fs_63_16_p39 hk, fs_63_19, fs_63_22, fs_63_23_p41 hk, fs_63_26, fs_63_27_p41 hk, fs_63_30_p39 hk, fs_63_33, fs_63_35, fs_63_38, fs_63_39, fs_63_40_p41 hk, fs_63_43, fs_63_44, fs_63_45_p41 hk, fs_63_48, fs_63_52, fs_63_53_p41 hk, fs_63_56, fs_63_57_p41 hk, fs_63_60_p39 hk, fs_63_63, fs_63_66_p41 hk, fs_63_69, fs_63_70, fs_63_71_p41 hk, fs_63_74, fs_63_75, fs_63_76, fs_63_77_p41 hk, fs_63_80_p39 hk, fs_63_83, fs_63_86_p41 hk, fs_63_89, fs_63_90_p41 hk, fs_63_93, fs_63_96, fs_63_97_p41 hk, fs_63_100, fs_63_101_p41 hk, fs_63_104_p39 hk, fs_63_107, fs_63_110, fs_63_111_p41 hk, fs_63_114, fs_63_115_p41 hk, fs_63_118_p39 hk, fs_63_121, fs_63_124, fs_63_125_p41 hk, fs_63_128, fs_63_131, fs_63_132, fs_63_133_p41 hk, fs_63_136, fs_63_137, fs_63_138_p41 hk, fs_63_141, fs_63_144, Option.bind_some, Option.toList_some, Option.toList_none, List.cons_append, List.nil_append, fd_nb0, fd_nb1, fd_nbb, fd_b0, nI_add, pk_mul, ite_not, Classical.not_not, not_false_iff, not_true, and_self, or_true, true_or, ↓reduceIte, if_true, if_false, ite_self, fd_mI, fd_mH, fd_mL, fd_p0, fd_w0, fd_w1, fd_w2, fd_10, fd_00, hc, T2, es]
  | succ m ih =>
    intro i h e T es
    have hc : ¬ nI n ≤ nI i := nI_ge (by omega) (by have := T.1; omega)
    have T2 := T.2.1
    have by_ := fm_byteAt (h := h) hk T (show i < n by omega)
    by_cases c : bt i = nI 32
    · have E : fd_run (fun i => decide (bt i = nI 32)) (m + 1) i = fd_run (fun i => decide (bt i = nI 32)) m (i + 1) := if_pos (decide_eq_true c)
      obtain ⟨h', r1, r2, r3⟩ := ih (i + 1) (fd_w h 41 2 (nI (i + 1))) (by omega) (fd_cT_fr T (fd_w1 (by decide)) (fd_wp (by decide))) fd_w0
      rw [E]
      refine ⟨h', ?_, r2, fun q j hn => (r3 q j hn).trans (if_neg hn)⟩
      rw [fs_63_8]
      simp (disch := first | exact fd_nl_int | exact fd_nl_ref | exact fd_nl_none | assumption | exact nI_ne0 (by omega) (by omega) | exact fd_nb0 | exact fd_nb1 | exact fd_nbb | omega) only [fs_63_0, fs_63_1, fs_63_2_p41 hk, fs_63_5_p41 hk, fs_63_9_p41 hk, fs_63_12, fs_63_13_p41 hk, fs_63_16_p39 hk, fs_63_19, fs_63_22, fs_63_23_p41 hk, fs_63_26, fs_63_27_p41 hk, fs_63_30_p39 hk, fs_63_33, fs_63_35, fs_63_38, fs_63_39, fs_63_40_p41 hk, fs_63_43, fs_63_44, fs_63_45_p41 hk, fs_63_48, fs_63_52, fs_63_53_p41 hk, fs_63_56, fs_63_57_p41 hk, fs_63_60_p39 hk, fs_63_63, fs_63_66_p41 hk, fs_63_69, fs_63_70, fs_63_71_p41 hk, fs_63_74, fs_63_75, fs_63_76, fs_63_77_p41 hk, fs_63_80_p39 hk, fs_63_83, fs_63_86_p41 hk, fs_63_89, fs_63_90_p41 hk, fs_63_93, fs_63_96, fs_63_97_p41 hk, fs_63_100, fs_63_101_p41 hk, fs_63_104_p39 hk, fs_63_107, fs_63_110, fs_63_111_p41 hk, fs_63_114, fs_63_115_p41 hk, fs_63_118_p39 hk, fs_63_121, fs_63_124, fs_63_125_p41 hk, fs_63_128, fs_63_131, fs_63_132, fs_63_133_p41 hk, fs_63_136, fs_63_137, fs_63_138_p41 hk, fs_63_141, fs_63_144, Option.bind_some, Option.toList_some, Option.toList_none, List.cons_append, List.nil_append, fd_nb0, fd_nb1, fd_nbb, fd_b0, nI_add, pk_mul, ite_not, Classical.not_not, not_false_iff, not_true, and_self, or_true, true_or, ↓reduceIte, if_true, if_false, ite_self, fd_mI, fd_mH, fd_mL, fd_p0, fd_w0, fd_w1, fd_w2, fd_10, fd_00, hc, T2, es, by_, eq_true c, r1]
    · have E : fd_run (fun i => decide (bt i = nI 32)) (m + 1) i = i := if_neg (fun z => c (of_decide_eq_true z))
      rw [E]
      refine ⟨h, ?_, es, fun _ _ _ => rfl⟩
      rw [fs_63_8]
      simp (disch := first | exact fd_nl_int | exact fd_nl_ref | exact fd_nl_none | assumption | exact nI_ne0 (by omega) (by omega) | exact fd_nb0 | exact fd_nb1 | exact fd_nbb | omega) only [fs_63_0, fs_63_1, fs_63_2_p41 hk, fs_63_5_p41 hk, fs_63_9_p41 hk, fs_63_12, fs_63_13_p41 hk, fs_63_16_p39 hk, fs_63_19, fs_63_22, fs_63_23_p41 hk, fs_63_26, fs_63_27_p41 hk, fs_63_30_p39 hk, fs_63_33, fs_63_35, fs_63_38, fs_63_39, fs_63_40_p41 hk, fs_63_43, fs_63_44, fs_63_45_p41 hk, fs_63_48, fs_63_52, fs_63_53_p41 hk, fs_63_56, fs_63_57_p41 hk, fs_63_60_p39 hk, fs_63_63, fs_63_66_p41 hk, fs_63_69, fs_63_70, fs_63_71_p41 hk, fs_63_74, fs_63_75, fs_63_76, fs_63_77_p41 hk, fs_63_80_p39 hk, fs_63_83, fs_63_86_p41 hk, fs_63_89, fs_63_90_p41 hk, fs_63_93, fs_63_96, fs_63_97_p41 hk, fs_63_100, fs_63_101_p41 hk, fs_63_104_p39 hk, fs_63_107, fs_63_110, fs_63_111_p41 hk, fs_63_114, fs_63_115_p41 hk, fs_63_118_p39 hk, fs_63_121, fs_63_124, fs_63_125_p41 hk, fs_63_128, fs_63_131, fs_63_132, fs_63_133_p41 hk, fs_63_136, fs_63_137, fs_63_138_p41 hk, fs_63_141, fs_63_144, Option.bind_some, Option.toList_some, Option.toList_none, List.cons_append, List.nil_append, fd_nb0, fd_nb1, fd_nbb, fd_b0, nI_add, pk_mul, ite_not, Classical.not_not, not_false_iff, not_true, and_self, or_true, true_or, ↓reduceIte, if_true, if_false, ite_self, fd_mI, fd_mH, fd_mL, fd_p0, fd_w0, fd_w1, fd_w2, fd_10, fd_00, hc, T2, es, by_, c]
theorem fm_extend (hk : fd_Sok k fb bb dr) {r : Nat} (hr0 : ¬ r = 0) (hr : r ≤ 2) : ∀ (m i : Nat) (h : fd_Hp), i + m = n → fd_cT n bt h → h.1 41 3 = nI i → h.1 41 4 = nI r → ∃ h', fd_E 63 89 [some (.ref (41))] [] k h = some (none, (k, h')) ∧ h'.1 41 3 = nI (fd_run (fun i => decide (fd_row (bt i) = r)) m i) ∧ ∀ q j, ¬ (q = 41 ∧ j = 3) → h'.1 q j = h.1 q j := by
  have r0 : ¬ nI r = 0 := nI_ne0 (by omega) (by omega)
  intro m
  induction m with
  | zero =>
    intro i h e T es er
    obtain rfl : i = n := by omega
    have hc : nI i ≤ nI i := nI_le (Nat.le_refl _) (by have := T.1; omega)
    have T2 := T.2.1
    refine ⟨h, ?_, es, fun _ _ _ => rfl⟩
    rw [fs_63_89]
    simp (disch := first | exact fd_nl_int | exact fd_nl_ref | exact fd_nl_none | assumption | exact nI_ne0 (by omega) (by omega) | exact fd_nb0 | exact fd_nb1 | exact fd_nbb | omega) only [fs_63_0, fs_63_1, fs_63_2_p41 hk, fs_63_5_p41 hk, fs_63_8, fs_63_9_p41 hk, fs_63_12, fs_63_13_p41 hk, fs_63_16_p39 hk, fs_63_19, fs_63_22, fs_63_23_p41 hk, fs_63_26, fs_63_27_p41 hk, fs_63_30_p39 hk, fs_63_33, fs_63_35, fs_63_38, fs_63_39, fs_63_40_p41 hk, fs_63_43, fs_63_44, fs_63_45_p41 hk, fs_63_48, fs_63_51, fs_63_52, fs_63_53_p41 hk, fs_63_56, fs_63_57_p41 hk, fs_63_60_p39 hk, fs_63_63, fs_63_66_p41 hk, fs_63_69, fs_63_70, fs_63_71_p41 hk, fs_63_74, fs_63_75, fs_63_76, fs_63_77_p41 hk, fs_63_80_p39 hk, fs_63_83, fs_63_86_p41 hk, fs_63_90_p41 hk, fs_63_93, fs_63_96, fs_63_97_p41 hk, fs_63_100, fs_63_101_p41 hk, fs_63_104_p39 hk, fs_63_107, fs_63_110, fs_63_111_p41 hk, fs_63_114, fs_63_115_p41 hk, fs_63_118_p39 hk, fs_63_121, fs_63_124, fs_63_125_p41 hk, fs_63_128, fs_63_131, fs_63_132, fs_63_133_p41 hk, fs_63_136, fs_63_137, fs_63_138_p41 hk, fs_63_141, fs_63_144, Option.bind_some, Option.toList_some, Option.toList_none, List.cons_append, List.nil_append, fd_nb0, fd_nb1, fd_nbb, fd_b0, nI_add, pk_mul, ite_not, Classical.not_not, not_false_iff, not_true, and_self, or_true, true_or, ↓reduceIte, if_true, if_false, ite_self, fd_mI, fd_mH, fd_mL, fd_p0, fd_w0, fd_w1, fd_w2, fd_10, fd_00, hc, T2, es, er, r0]
  | succ m ih =>
    intro i h e T es er
    have hc : ¬ nI n ≤ nI i := nI_ge (by omega) (by have := T.1; omega)
    have T2 := T.2.1
    have by_ := fm_byteAt (h := h) hk T (show i < n by omega)
    have rl := fd_row_le (c := bt i)
    by_cases c : fd_row (bt i) = r
    · have E : fd_run (fun i => decide (fd_row (bt i) = r)) (m + 1) i = fd_run (fun i => decide (fd_row (bt i) = r)) m (i + 1) := if_pos (decide_eq_true c)
      have c' : (nI (fd_row (bt i)) = nI r) = True := by rw [c]; exact eq_true rfl
      obtain ⟨h', r1, r2, r3⟩ := ih (i + 1) (fd_w h 41 3 (nI (i + 1))) (by omega) (fd_cT_fr T (fd_w1 (by decide)) (fd_wp (by decide))) fd_w0 ((fd_w2 (by decide)).trans er)
      rw [E]
      refine ⟨h', ?_, r2, fun q j hn => (r3 q j hn).trans (if_neg hn)⟩
      rw [fs_63_89]
      simp (disch := first | exact fd_nl_int | exact fd_nl_ref | exact fd_nl_none | assumption | exact nI_ne0 (by omega) (by omega) | exact fd_nb0 | exact fd_nb1 | exact fd_nbb | omega) only [fs_63_0, fs_63_1, fs_63_2_p41 hk, fs_63_5_p41 hk, fs_63_8, fs_63_9_p41 hk, fs_63_12, fs_63_13_p41 hk, fs_63_16_p39 hk, fs_63_19, fs_63_22, fs_63_23_p41 hk, fs_63_26, fs_63_27_p41 hk, fs_63_30_p39 hk, fs_63_33, fs_63_35, fs_63_38, fs_63_39, fs_63_40_p41 hk, fs_63_43, fs_63_44, fs_63_45_p41 hk, fs_63_48, fs_63_51, fs_63_52, fs_63_53_p41 hk, fs_63_56, fs_63_57_p41 hk, fs_63_60_p39 hk, fs_63_63, fs_63_66_p41 hk, fs_63_69, fs_63_70, fs_63_71_p41 hk, fs_63_74, fs_63_75, fs_63_76, fs_63_77_p41 hk, fs_63_80_p39 hk, fs_63_83, fs_63_86_p41 hk, fs_63_90_p41 hk, fs_63_93, fs_63_96, fs_63_97_p41 hk, fs_63_100, fs_63_101_p41 hk, fs_63_104_p39 hk, fs_63_107, fs_63_110, fs_63_111_p41 hk, fs_63_114, fs_63_115_p41 hk, fs_63_118_p39 hk, fs_63_121, fs_63_124, fs_63_125_p41 hk, fs_63_128, fs_63_131, fs_63_132, fs_63_133_p41 hk, fs_63_136, fs_63_137, fs_63_138_p41 hk, fs_63_141, fs_63_144, Option.bind_some, Option.toList_some, Option.toList_none, List.cons_append, List.nil_append, fd_nb0, fd_nb1, fd_nbb, fd_b0, nI_add, pk_mul, ite_not, Classical.not_not, not_false_iff, not_true, and_self, or_true, true_or, ↓reduceIte, if_true, if_false, ite_self, fd_mI, fd_mH, fd_mL, fd_p0, fd_w0, fd_w1, fd_w2, fd_10, fd_00, hc, T2, es, er, r0, by_, fm_rowOf, c', r1]
    · have E : fd_run (fun i => decide (fd_row (bt i) = r)) (m + 1) i = i := if_neg (fun z => c (of_decide_eq_true z))
      have c' : (nI (fd_row (bt i)) = nI r) = False := eq_false (fun z => c (fd_nIj (by omega) (by omega) z))
      rw [E]
      refine ⟨h, ?_, es, fun _ _ _ => rfl⟩
      rw [fs_63_89]
      simp (disch := first | exact fd_nl_int | exact fd_nl_ref | exact fd_nl_none | assumption | exact nI_ne0 (by omega) (by omega) | exact fd_nb0 | exact fd_nb1 | exact fd_nbb | omega) only [fs_63_0, fs_63_1, fs_63_2_p41 hk, fs_63_5_p41 hk, fs_63_8, fs_63_9_p41 hk, fs_63_12, fs_63_13_p41 hk, fs_63_16_p39 hk, fs_63_19, fs_63_22, fs_63_23_p41 hk, fs_63_26, fs_63_27_p41 hk, fs_63_30_p39 hk, fs_63_33, fs_63_35, fs_63_38, fs_63_39, fs_63_40_p41 hk, fs_63_43, fs_63_44, fs_63_45_p41 hk, fs_63_48, fs_63_51, fs_63_52, fs_63_53_p41 hk, fs_63_56, fs_63_57_p41 hk, fs_63_60_p39 hk, fs_63_63, fs_63_66_p41 hk, fs_63_69, fs_63_70, fs_63_71_p41 hk, fs_63_74, fs_63_75, fs_63_76, fs_63_77_p41 hk, fs_63_80_p39 hk, fs_63_83, fs_63_86_p41 hk, fs_63_90_p41 hk, fs_63_93, fs_63_96, fs_63_97_p41 hk, fs_63_100, fs_63_101_p41 hk, fs_63_104_p39 hk, fs_63_107, fs_63_110, fs_63_111_p41 hk, fs_63_114, fs_63_115_p41 hk, fs_63_118_p39 hk, fs_63_121, fs_63_124, fs_63_125_p41 hk, fs_63_128, fs_63_131, fs_63_132, fs_63_133_p41 hk, fs_63_136, fs_63_137, fs_63_138_p41 hk, fs_63_141, fs_63_144, Option.bind_some, Option.toList_some, Option.toList_none, List.cons_append, List.nil_append, fd_nb0, fd_nb1, fd_nbb, fd_b0, nI_add, pk_mul, ite_not, Classical.not_not, not_false_iff, not_true, and_self, or_true, true_or, ↓reduceIte, if_true, if_false, ite_self, fd_mI, fd_mH, fd_mL, fd_p0, fd_w0, fd_w1, fd_w2, fd_10, fd_00, hc, T2, es, er, r0, by_, fm_rowOf, c']
theorem fm_next (hk : fd_Sok k fb bb dr) (T : fd_cT n bt h) (hp : p ≤ n) (e : h.1 41 3 = nI p) : ∃ h', fd_E 63 0 [some (.ref (41))] [] k h = some (none, (k, h')) ∧ fd_CL n bt p h' ∧ ∀ q j, ¬ (q = 41 ∧ 2 ≤ j ∧ j ≤ 4) → h'.1 q j = h.1 q j := by
  have n200 := T.1
  obtain ⟨h1, r1, r2, r3⟩ := fm_skip (n := n) (bt := bt) hk (n - p) p (fd_w h 41 2 (nI p)) (by omega) (fd_cT_fr T (fd_w1 (by decide)) (fd_wp (by decide))) fd_w0
  have eS : fd_run (fun i => decide (bt i = nI 32)) (n - p) p = fd_tS n bt p := rfl
  rw [eS] at r2
  have T1 : fd_cT n bt h1 := fd_cT_fr T ((r3 39 1 (by omega)).trans (fd_w1 (by decide))) (funext fun j => (r3 40 j (by omega)).trans (fd_w1 (by decide)))
  have st : fd_E 63 0 [some (.ref (41))] [] k h = fd_E 63 51 [some (.ref (41))] [] k h1 := by
    have z : fd_E 63 0 [some (.ref (41))] [] k h = fd_E 63 8 [some (.ref (41))] [] k (fd_w h 41 2 (nI p)) := by
      simp (disch := first | exact fd_nl_int | exact fd_nl_ref | exact fd_nl_none | assumption | exact nI_ne0 (by omega) (by omega) | exact fd_nb0 | exact fd_nb1 | exact fd_nbb | omega) only [fs_63_0, fs_63_1, fs_63_2_p41 hk, fs_63_5_p41 hk, fs_63_9_p41 hk, fs_63_12, fs_63_13_p41 hk, fs_63_16_p39 hk, fs_63_19, fs_63_22, fs_63_23_p41 hk, fs_63_26, fs_63_27_p41 hk, fs_63_30_p39 hk, fs_63_33, fs_63_35, fs_63_38, fs_63_39, fs_63_40_p41 hk, fs_63_43, fs_63_44, fs_63_45_p41 hk, fs_63_48, fs_63_51, fs_63_52, fs_63_53_p41 hk, fs_63_56, fs_63_57_p41 hk, fs_63_60_p39 hk, fs_63_63, fs_63_66_p41 hk, fs_63_69, fs_63_70, fs_63_71_p41 hk, fs_63_74, fs_63_75, fs_63_76, fs_63_77_p41 hk, fs_63_80_p39 hk, fs_63_83, fs_63_86_p41 hk, fs_63_89, fs_63_90_p41 hk, fs_63_93, fs_63_96, fs_63_97_p41 hk, fs_63_100, fs_63_101_p41 hk, fs_63_104_p39 hk, fs_63_107, fs_63_110, fs_63_111_p41 hk, fs_63_114, fs_63_115_p41 hk, fs_63_118_p39 hk, fs_63_121, fs_63_124, fs_63_125_p41 hk, fs_63_128, fs_63_131, fs_63_132, fs_63_133_p41 hk, fs_63_136, fs_63_137, fs_63_138_p41 hk, fs_63_141, fs_63_144, Option.bind_some, Option.toList_some, Option.toList_none, List.cons_append, List.nil_append, fd_nb0, fd_nb1, fd_nbb, fd_b0, nI_add, pk_mul, ite_not, Classical.not_not, not_false_iff, not_true, and_self, or_true, true_or, ↓reduceIte, if_true, if_false, ite_self, fd_mI, fd_mH, fd_mL, fd_p0, fd_w0, fd_w1, fd_w2, fd_10, fd_00, e]
    exact z.trans r1
  have ls := fd_tS_le (bt := bt) hp
  have T12 := T1.2.1
  have fr : ∀ (h2 : fd_Hp), (∀ q j, ¬ (q = 41 ∧ 3 ≤ j ∧ j ≤ 4) → h2.1 q j = h1.1 q j) → ∀ q j, ¬ (q = 41 ∧ 2 ≤ j ∧ j ≤ 4) → h2.1 q j = h.1 q j := fun h2 f q j hn => by
    rw [f q j (by omega), r3 q j (by omega)]
    exact if_neg (by omega)
  by_cases hs : fd_tS n bt p < n
  · have by_ := fm_byteAt (h := h1) hk T1 hs
    have mn : ¬ nI n < nI (fd_tS n bt p + 1) := nI_nlt (by omega) (by omega)
    have eR : fd_tR n bt p = fd_row (bt (fd_tS n bt p)) := if_pos hs
    have rl := fd_row_le (c := bt (fd_tS n bt p))
    have st2 : fd_E 63 51 [some (.ref (41))] [] k h1 = fd_E 63 89 [some (.ref (41))] [] k (fd_w (fd_w h1 41 4 (nI (fd_row (bt (fd_tS n bt p))))) 41 3 (nI (fd_tS n bt p + 1))) := by
      simp (disch := first | exact fd_nl_int | exact fd_nl_ref | exact fd_nl_none | assumption | exact nI_ne0 (by omega) (by omega) | exact fd_nb0 | exact fd_nb1 | exact fd_nbb | omega) only [fs_63_0, fs_63_1, fs_63_2_p41 hk, fs_63_5_p41 hk, fs_63_8, fs_63_9_p41 hk, fs_63_12, fs_63_13_p41 hk, fs_63_16_p39 hk, fs_63_19, fs_63_22, fs_63_23_p41 hk, fs_63_26, fs_63_27_p41 hk, fs_63_30_p39 hk, fs_63_33, fs_63_35, fs_63_38, fs_63_39, fs_63_40_p41 hk, fs_63_43, fs_63_44, fs_63_45_p41 hk, fs_63_48, fs_63_51, fs_63_52, fs_63_53_p41 hk, fs_63_56, fs_63_57_p41 hk, fs_63_60_p39 hk, fs_63_63, fs_63_66_p41 hk, fs_63_69, fs_63_70, fs_63_71_p41 hk, fs_63_74, fs_63_75, fs_63_76, fs_63_77_p41 hk, fs_63_80_p39 hk, fs_63_83, fs_63_86_p41 hk, fs_63_90_p41 hk, fs_63_93, fs_63_96, fs_63_97_p41 hk, fs_63_100, fs_63_101_p41 hk, fs_63_104_p39 hk, fs_63_107, fs_63_110, fs_63_111_p41 hk, fs_63_114, fs_63_115_p41 hk, fs_63_118_p39 hk, fs_63_121, fs_63_124, fs_63_125_p41 hk, fs_63_128, fs_63_131, fs_63_132, fs_63_133_p41 hk, fs_63_136, fs_63_137, fs_63_138_p41 hk, fs_63_141, fs_63_144, Option.bind_some, Option.toList_some, Option.toList_none, List.cons_append, List.nil_append, fd_nb0, fd_nb1, fd_nbb, fd_b0, nI_add, pk_mul, ite_not, Classical.not_not, not_false_iff, not_true, and_self, or_true, true_or, ↓reduceIte, if_true, if_false, ite_self, fd_mI, fd_mH, fd_mL, fd_p0, fd_w0, fd_w1, fd_w2, fd_10, fd_00, r2, by_, fm_rowOf, T12, mn]
    by_cases hr : fd_row (bt (fd_tS n bt p)) = 0
    · have eE : fd_tE n bt p = fd_tS n bt p + 1 := by unfold fd_tE; rw [if_pos hs, if_pos hr]
      refine ⟨fd_w (fd_w h1 41 4 (nI (fd_row (bt (fd_tS n bt p))))) 41 3 (nI (fd_tS n bt p + 1)), ?_, ⟨hp, ?_, ?_, ?_⟩, fr _ (fun q j hn => (if_neg (by omega)).trans (if_neg (by omega)))⟩
      · rw [st, st2, hr, fs_63_89]
        simp (disch := first | exact fd_nl_int | exact fd_nl_ref | exact fd_nl_none | assumption | exact nI_ne0 (by omega) (by omega) | exact fd_nb0 | exact fd_nb1 | exact fd_nbb | omega) only [fs_63_0, fs_63_1, fs_63_2_p41 hk, fs_63_5_p41 hk, fs_63_8, fs_63_9_p41 hk, fs_63_12, fs_63_13_p41 hk, fs_63_16_p39 hk, fs_63_19, fs_63_22, fs_63_23_p41 hk, fs_63_26, fs_63_27_p41 hk, fs_63_30_p39 hk, fs_63_33, fs_63_35, fs_63_38, fs_63_39, fs_63_40_p41 hk, fs_63_43, fs_63_44, fs_63_45_p41 hk, fs_63_48, fs_63_51, fs_63_52, fs_63_53_p41 hk, fs_63_56, fs_63_57_p41 hk, fs_63_60_p39 hk, fs_63_63, fs_63_66_p41 hk, fs_63_69, fs_63_70, fs_63_71_p41 hk, fs_63_74, fs_63_75, fs_63_76, fs_63_77_p41 hk, fs_63_80_p39 hk, fs_63_83, fs_63_86_p41 hk, fs_63_90_p41 hk, fs_63_93, fs_63_96, fs_63_97_p41 hk, fs_63_100, fs_63_101_p41 hk, fs_63_104_p39 hk, fs_63_107, fs_63_110, fs_63_111_p41 hk, fs_63_114, fs_63_115_p41 hk, fs_63_118_p39 hk, fs_63_121, fs_63_124, fs_63_125_p41 hk, fs_63_128, fs_63_131, fs_63_132, fs_63_133_p41 hk, fs_63_136, fs_63_137, fs_63_138_p41 hk, fs_63_141, fs_63_144, Option.bind_some, Option.toList_some, Option.toList_none, List.cons_append, List.nil_append, fd_nb0, fd_nb1, fd_nbb, fd_b0, nI_add, pk_mul, ite_not, Classical.not_not, not_false_iff, not_true, and_self, or_true, true_or, ↓reduceIte, if_true, if_false, ite_self, fd_mI, fd_mH, fd_mL, fd_p0, fd_w0, fd_w1, fd_w2, fd_10, fd_00]
      · rw [fd_w2 (by decide), fd_w2 (by decide), r2]
      · rw [fd_w0, eE]
      · rw [fd_w2 (by decide), fd_w0, eR]
    · have eE : fd_tE n bt p = fd_run (fun i => decide (fd_row (bt i) = fd_row (bt (fd_tS n bt p)))) (n - (fd_tS n bt p + 1)) (fd_tS n bt p + 1) := by unfold fd_tE; rw [if_pos hs, if_neg hr]
      obtain ⟨h2, q1, q2, q3⟩ := fm_extend (n := n) (bt := bt) hk hr rl (n - (fd_tS n bt p + 1)) (fd_tS n bt p + 1) (fd_w (fd_w h1 41 4 (nI (fd_row (bt (fd_tS n bt p))))) 41 3 (nI (fd_tS n bt p + 1))) (by omega) (fd_cT_fr T1 ((fd_w1 (by decide)).trans (fd_w1 (by decide))) ((fd_wp (by decide)).trans (fd_wp (by decide)))) fd_w0 ((fd_w2 (by decide)).trans fd_w0)
      refine ⟨h2, st.trans (st2.trans q1), ⟨hp, ?_, ?_, ?_⟩, fr _ (fun q j hn => (q3 q j (by omega)).trans ((if_neg (by omega)).trans (if_neg (by omega))))⟩
      · rw [q3 41 2 (by omega), fd_w2 (by decide), fd_w2 (by decide), r2]
      · rw [q2, eE]
      · rw [q3 41 4 (by omega), fd_w2 (by decide), fd_w0, eR]
  · have sn : fd_tS n bt p = n := by omega
    have by_ := fm_byteEnd (h := h1) (i := n) hk T1 (by omega) (by omega)
    have mn : nI n < nI (n + 1) := nI_lt (by omega) (by omega)
    have r1' : fd_row (-1) = 0 := by decide
    have eR : fd_tR n bt p = 0 := if_neg hs
    have eE : fd_tE n bt p = n := if_neg hs
    rw [sn] at r2
    have n0 : nI 0 = 0 := rfl
    refine ⟨fd_w (fd_w h1 41 4 (nI 0)) 41 3 (nI n), ?_, ⟨hp, ?_, ?_, ?_⟩, fr _ (fun q j hn => (if_neg (by omega)).trans (if_neg (by omega)))⟩
    · rw [st]
      simp (disch := first | exact fd_nl_int | exact fd_nl_ref | exact fd_nl_none | assumption | exact nI_ne0 (by omega) (by omega) | exact fd_nb0 | exact fd_nb1 | exact fd_nbb | omega) only [fs_63_0, fs_63_1, fs_63_2_p41 hk, fs_63_5_p41 hk, fs_63_8, fs_63_9_p41 hk, fs_63_12, fs_63_13_p41 hk, fs_63_16_p39 hk, fs_63_19, fs_63_22, fs_63_23_p41 hk, fs_63_26, fs_63_27_p41 hk, fs_63_30_p39 hk, fs_63_33, fs_63_35, fs_63_38, fs_63_39, fs_63_40_p41 hk, fs_63_43, fs_63_44, fs_63_45_p41 hk, fs_63_48, fs_63_51, fs_63_52, fs_63_53_p41 hk, fs_63_56, fs_63_57_p41 hk, fs_63_60_p39 hk, fs_63_63, fs_63_66_p41 hk, fs_63_69, fs_63_70, fs_63_71_p41 hk, fs_63_74, fs_63_75, fs_63_76, fs_63_77_p41 hk, fs_63_80_p39 hk, fs_63_83, fs_63_86_p41 hk, fs_63_89, fs_63_90_p41 hk, fs_63_93, fs_63_96, fs_63_97_p41 hk, fs_63_100, fs_63_101_p41 hk, fs_63_104_p39 hk, fs_63_107, fs_63_110, fs_63_111_p41 hk, fs_63_114, fs_63_115_p41 hk, fs_63_118_p39 hk, fs_63_121, fs_63_124, fs_63_125_p41 hk, fs_63_128, fs_63_131, fs_63_132, fs_63_133_p41 hk, fs_63_136, fs_63_137, fs_63_138_p41 hk, fs_63_141, fs_63_144, Option.bind_some, Option.toList_some, Option.toList_none, List.cons_append, List.nil_append, fd_nb0, fd_nb1, fd_nbb, fd_b0, nI_add, pk_mul, ite_not, Classical.not_not, not_false_iff, not_true, and_self, or_true, true_or, ↓reduceIte, if_true, if_false, ite_self, fd_mI, fd_mH, fd_mL, fd_p0, fd_w0, fd_w1, fd_w2, fd_10, fd_00, r2, by_, fm_rowOf, r1', T12, mn]
    · rw [fd_w2 (by decide), fd_w2 (by decide), r2, sn]
    · rw [fd_w0, eE]
    · rw [fd_w2 (by decide), fd_w0, eR]
theorem fd_CL_n (hk : fd_Sok k fb bb dr) (T : fd_cT n bt h) (L : fd_CL n bt p h) : ∃ h', fd_E 63 0 [some (.ref (41))] [] k h = some (none, (k, h')) ∧ fd_CL n bt (fd_tE n bt p) h' ∧ ∀ q j, ¬ (q = 41 ∧ 2 ≤ j ∧ j ≤ 4) → h'.1 q j = h.1 q j := fm_next hk T (fd_tE_le L.1).2.1 L.2.2.1
theorem fm_wordY (hk : fd_Sok k fb bb dr) (T : fd_cT n bt h) (L : fd_CL n bt p h) {b : Nat} (hb : b < 8) (w : fd_isW n bt p b) : ∃ h', fd_E 59 0 [some (.ref (41)), some (.ref (1010 + b)), none] [] k h = some (some (.int (nI 1)), (k, h')) ∧ fd_CL n bt (fd_tE n bt p) h' ∧ ∀ q j, ¬ (q = 41 ∧ 2 ≤ j ∧ j ≤ 4) → h'.1 q j = h.1 q j := by
  obtain ⟨h', x1, x2, x3⟩ := fd_CL_n hk T L
  have n200 := T.1
  obtain ⟨L1, L2, L3, L4⟩ := L
  obtain ⟨w1, w2⟩ := w
  have le := fd_tE_le (bt := bt) L1
  have l6 := (fd_W_hs b hb).2.2.1
  have loop : ∀ (m i : Nat), i + m = fd_wdL b → fd_E 59 20 [some (.ref (41)), some (.ref (1010 + b)), some (.int (nI (i)))] [] k h = some (some (.int (nI 1)), (k, h')) := by
    intro m
    induction m with
    | zero =>
      intro i e
      have hc : nI (fd_txt.getD b []).length ≤ nI i := nI_le (by unfold fd_wdL at e; omega) (by omega)
      rw [fs_59_20]
      simp (disch := first | exact fd_nl_int | exact fd_nl_ref | exact fd_nl_none | assumption | exact nI_ne0 (by omega) (by omega) | exact fd_nb0 | exact fd_nb1 | exact fd_nbb | omega) only [fs_59_0, fs_59_1_p41 hk, fs_59_4, fs_59_5_p41 hk, fs_59_8, fs_59_9, fs_59_10, fs_59_13, fs_59_16, fs_59_17, fs_59_18, fs_59_19, fs_59_21, fs_59_22, fs_59_25, fs_59_28, fs_59_29_p41 hk, fs_59_32, fs_59_33_p41 hk, fs_59_36, fs_59_37, fs_59_38_p39 hk, fs_59_41, fs_59_42, fs_59_43, fs_59_46, fs_59_49, fs_59_50, fs_59_51, fs_59_54, fs_59_57, fs_59_58_p41 hk, fs_59_61, fs_59_62, Option.bind_some, Option.toList_some, Option.toList_none, List.cons_append, List.nil_append, fd_nb0, fd_nb1, fd_nbb, fd_b0, nI_add, pk_mul, ite_not, Classical.not_not, not_false_iff, not_true, and_self, or_true, true_or, ↓reduceIte, if_true, if_false, ite_self, fd_mI, fd_mH, fd_mL, fd_p0, fd_w0, fd_w1, fd_w2, fd_10, fd_00, hc, x1]
    | succ m ih =>
      intro i e
      have hlt : i < (fd_txt.getD b []).length := by unfold fd_wdL at e; omega
      have hc : ¬ nI (fd_txt.getD b []).length ≤ nI i := nI_ge hlt (by unfold fd_wdL at l6; omega)
      have by_ := fm_byteAt (h := h) (i := fd_tS n bt p + i) hk T (by omega)
      have wi := w2 i (by omega)
      unfold fd_wdA at wi
      rw [fs_59_20]
      simp (disch := first | exact fd_nl_int | exact fd_nl_ref | exact fd_nl_none | assumption | exact nI_ne0 (by omega) (by omega) | exact fd_nb0 | exact fd_nb1 | exact fd_nbb | omega) only [fs_59_0, fs_59_1_p41 hk, fs_59_4, fs_59_5_p41 hk, fs_59_8, fs_59_9, fs_59_10, fs_59_13, fs_59_16, fs_59_17, fs_59_18, fs_59_19, fs_59_21, fs_59_22, fs_59_25, fs_59_28, fs_59_29_p41 hk, fs_59_32, fs_59_33_p41 hk, fs_59_36, fs_59_37, fs_59_38_p39 hk, fs_59_41, fs_59_42, fs_59_43, fs_59_46, fs_59_49, fs_59_50, fs_59_51, fs_59_54, fs_59_57, fs_59_58_p41 hk, fs_59_61, fs_59_62, Option.bind_some, Option.toList_some, Option.toList_none, List.cons_append, List.nil_append, fd_nb0, fd_nb1, fd_nbb, fd_b0, nI_add, pk_mul, ite_not, Classical.not_not, not_false_iff, not_true, and_self, or_true, true_or, ↓reduceIte, if_true, if_false, ite_self, fd_mI, fd_mH, fd_mL, fd_p0, fd_w0, fd_w1, fd_w2, fd_10, fd_00, hc, L2, by_, wi, ih (i + 1) (by omega)]
  have s1 : nI (fd_tE n bt p) - nI (fd_tS n bt p) = nI (fd_txt.getD b []).length := by
    rw [nI_sub (by omega), w1]
    rfl
  refine ⟨h', ?_, x2, x3⟩
  simp (disch := first | exact fd_nl_int | exact fd_nl_ref | exact fd_nl_none | assumption | exact nI_ne0 (by omega) (by omega) | exact fd_nb0 | exact fd_nb1 | exact fd_nbb | omega) only [fs_59_0, fs_59_1_p41 hk, fs_59_4, fs_59_5_p41 hk, fs_59_8, fs_59_9, fs_59_10, fs_59_13, fs_59_16, fs_59_17, fs_59_18, fs_59_19, fs_59_21, fs_59_22, fs_59_25, fs_59_28, fs_59_29_p41 hk, fs_59_32, fs_59_33_p41 hk, fs_59_36, fs_59_37, fs_59_38_p39 hk, fs_59_41, fs_59_42, fs_59_43, fs_59_46, fs_59_49, fs_59_50, fs_59_51, fs_59_54, fs_59_57, fs_59_58_p41 hk, fs_59_61, fs_59_62, Option.bind_some, Option.toList_some, Option.toList_none, List.cons_append, List.nil_append, fd_nb0, fd_nb1, fd_nbb, fd_b0, nI_add, pk_mul, ite_not, Classical.not_not, not_false_iff, not_true, and_self, or_true, true_or, ↓reduceIte, if_true, if_false, ite_self, fd_mI, fd_mH, fd_mL, fd_p0, fd_w0, fd_w1, fd_w2, fd_10, fd_00, L2, L3, s1, loop (fd_wdL b) 0 (by omega)]
theorem fm_wordN (hk : fd_Sok k fb bb dr) (T : fd_cT n bt h) (L : fd_CL n bt p h) {b : Nat} (hb : b < 8) (w : ¬ fd_isW n bt p b) : fd_E 59 0 [some (.ref (41)), some (.ref (1010 + b)), none] [] k h = some (some (.int (nI 0)), (k, h)) := by
  have n200 := T.1
  obtain ⟨L1, L2, L3, L4⟩ := L
  have le := fd_tE_le (bt := bt) L1
  have l6 := (fd_W_hs b hb).2.2.1
  have s1 : nI (fd_tE n bt p) - nI (fd_tS n bt p) = nI (fd_tE n bt p - fd_tS n bt p) := nI_sub (by omega)
  by_cases c : fd_tE n bt p - fd_tS n bt p = fd_wdL b
  · have loop : ∀ (m i : Nat), i + m = fd_wdL b → (∃ j, i ≤ j ∧ j < fd_wdL b ∧ ¬ bt (fd_tS n bt p + j) = fd_wdA b j) → fd_E 59 20 [some (.ref (41)), some (.ref (1010 + b)), some (.int (nI (i)))] [] k h = some (some (.int (nI 0)), (k, h)) := by
      intro m
      induction m with
      | zero => exact fun i e ⟨j, j1, j2, _⟩ => by omega
      | succ m ih =>
        intro i e hj
        have hlt : i < (fd_txt.getD b []).length := by unfold fd_wdL at e; omega
        have hc : ¬ nI (fd_txt.getD b []).length ≤ nI i := nI_ge hlt (by unfold fd_wdL at l6; omega)
        have by_ := fm_byteAt (h := h) (i := fd_tS n bt p + i) hk T (by omega)
        by_cases d : bt (fd_tS n bt p + i) = fd_wdA b i
        · have i1 := ih (i + 1) (by omega) (by
            obtain ⟨j, j1, j2, j3⟩ := hj
            by_cases z : j = i
            · subst z; exact absurd d j3
            · exact ⟨j, by omega, j2, j3⟩)
          unfold fd_wdA at d
          rw [fs_59_20]
          simp (disch := first | exact fd_nl_int | exact fd_nl_ref | exact fd_nl_none | assumption | exact nI_ne0 (by omega) (by omega) | exact fd_nb0 | exact fd_nb1 | exact fd_nbb | omega) only [fs_59_0, fs_59_1_p41 hk, fs_59_4, fs_59_5_p41 hk, fs_59_8, fs_59_9, fs_59_10, fs_59_13, fs_59_16, fs_59_17, fs_59_18, fs_59_19, fs_59_21, fs_59_22, fs_59_25, fs_59_28, fs_59_29_p41 hk, fs_59_32, fs_59_33_p41 hk, fs_59_36, fs_59_37, fs_59_38_p39 hk, fs_59_41, fs_59_42, fs_59_43, fs_59_46, fs_59_49, fs_59_50, fs_59_51, fs_59_54, fs_59_57, fs_59_58_p41 hk, fs_59_61, fs_59_62, Option.bind_some, Option.toList_some, Option.toList_none, List.cons_append, List.nil_append, fd_nb0, fd_nb1, fd_nbb, fd_b0, nI_add, pk_mul, ite_not, Classical.not_not, not_false_iff, not_true, and_self, or_true, true_or, ↓reduceIte, if_true, if_false, ite_self, fd_mI, fd_mH, fd_mL, fd_p0, fd_w0, fd_w1, fd_w2, fd_10, fd_00, hc, L2, by_, d, i1]
        · unfold fd_wdA at d
          rw [fs_59_20]
          simp (disch := first | exact fd_nl_int | exact fd_nl_ref | exact fd_nl_none | assumption | exact nI_ne0 (by omega) (by omega) | exact fd_nb0 | exact fd_nb1 | exact fd_nbb | omega) only [fs_59_0, fs_59_1_p41 hk, fs_59_4, fs_59_5_p41 hk, fs_59_8, fs_59_9, fs_59_10, fs_59_13, fs_59_16, fs_59_17, fs_59_18, fs_59_19, fs_59_21, fs_59_22, fs_59_25, fs_59_28, fs_59_29_p41 hk, fs_59_32, fs_59_33_p41 hk, fs_59_36, fs_59_37, fs_59_38_p39 hk, fs_59_41, fs_59_42, fs_59_43, fs_59_46, fs_59_49, fs_59_50, fs_59_51, fs_59_54, fs_59_57, fs_59_58_p41 hk, fs_59_61, fs_59_62, Option.bind_some, Option.toList_some, Option.toList_none, List.cons_append, List.nil_append, fd_nb0, fd_nb1, fd_nbb, fd_b0, nI_add, pk_mul, ite_not, Classical.not_not, not_false_iff, not_true, and_self, or_true, true_or, ↓reduceIte, if_true, if_false, ite_self, fd_mI, fd_mH, fd_mL, fd_p0, fd_w0, fd_w1, fd_w2, fd_10, fd_00, hc, L2, by_, d]
    have ex : ∃ j, 0 ≤ j ∧ j < fd_wdL b ∧ ¬ bt (fd_tS n bt p + j) = fd_wdA b j := Classical.byContradiction fun z => w ⟨c, fun i hi => Classical.byContradiction fun y => z ⟨i, Nat.zero_le _, hi, y⟩⟩
    have s2 : (nI (fd_tE n bt p - fd_tS n bt p) = nI (fd_txt.getD b []).length) = True := by rw [c]; exact eq_true rfl
    simp (disch := first | exact fd_nl_int | exact fd_nl_ref | exact fd_nl_none | assumption | exact nI_ne0 (by omega) (by omega) | exact fd_nb0 | exact fd_nb1 | exact fd_nbb | omega) only [fs_59_0, fs_59_1_p41 hk, fs_59_4, fs_59_5_p41 hk, fs_59_8, fs_59_9, fs_59_10, fs_59_13, fs_59_16, fs_59_17, fs_59_18, fs_59_19, fs_59_21, fs_59_22, fs_59_25, fs_59_28, fs_59_29_p41 hk, fs_59_32, fs_59_33_p41 hk, fs_59_36, fs_59_37, fs_59_38_p39 hk, fs_59_41, fs_59_42, fs_59_43, fs_59_46, fs_59_49, fs_59_50, fs_59_51, fs_59_54, fs_59_57, fs_59_58_p41 hk, fs_59_61, fs_59_62, Option.bind_some, Option.toList_some, Option.toList_none, List.cons_append, List.nil_append, fd_nb0, fd_nb1, fd_nbb, fd_b0, nI_add, pk_mul, ite_not, Classical.not_not, not_false_iff, not_true, and_self, or_true, true_or, ↓reduceIte, if_true, if_false, ite_self, fd_mI, fd_mH, fd_mL, fd_p0, fd_w0, fd_w1, fd_w2, fd_10, fd_00, L2, L3, s1, s2, loop (fd_wdL b) 0 (by omega) ex]
  · have s2 : (nI (fd_tE n bt p - fd_tS n bt p) = nI (fd_txt.getD b []).length) = False := eq_false (fun z => c (fd_nIj (b := fd_wdL b) (by omega) (by omega) z))
    simp (disch := first | exact fd_nl_int | exact fd_nl_ref | exact fd_nl_none | assumption | exact nI_ne0 (by omega) (by omega) | exact fd_nb0 | exact fd_nb1 | exact fd_nbb | omega) only [fs_59_0, fs_59_1_p41 hk, fs_59_4, fs_59_5_p41 hk, fs_59_8, fs_59_9, fs_59_10, fs_59_13, fs_59_16, fs_59_17, fs_59_18, fs_59_19, fs_59_21, fs_59_22, fs_59_25, fs_59_28, fs_59_29_p41 hk, fs_59_32, fs_59_33_p41 hk, fs_59_36, fs_59_37, fs_59_38_p39 hk, fs_59_41, fs_59_42, fs_59_43, fs_59_46, fs_59_49, fs_59_50, fs_59_51, fs_59_54, fs_59_57, fs_59_58_p41 hk, fs_59_61, fs_59_62, Option.bind_some, Option.toList_some, Option.toList_none, List.cons_append, List.nil_append, fd_nb0, fd_nb1, fd_nbb, fd_b0, nI_add, pk_mul, ite_not, Classical.not_not, not_false_iff, not_true, and_self, or_true, true_or, ↓reduceIte, if_true, if_false, ite_self, fd_mI, fd_mH, fd_mL, fd_p0, fd_w0, fd_w1, fd_w2, fd_10, fd_00, L2, L3, s1, s2]
theorem fm_numL (hk : fd_Sok k fb bb dr) (T : fd_cT n bt h) (L : fd_CL n bt p h) (l mm : Int32) : ∀ (m c : Nat), c + m = fd_tE n bt p - fd_tS n bt p → fd_E 60 31 [some (.ref (41)), some (.int (l)), some (.int (mm)), some (.int (fd_nv bt (fd_tS n bt p) c)), some (.int (nI (fd_tS n bt p + c)))] [] k h = fd_E 60 64 [some (.ref (41)), some (.int (l)), some (.int (mm)), some (.int (fd_num n bt p)), some (.int (nI (fd_tE n bt p)))] [] k h := by
  have n200 := T.1
  obtain ⟨L1, L2, L3, L4⟩ := L
  have le := fd_tE_le (bt := bt) L1
  intro m
  induction m with
  | zero =>
    intro c e
    have ec : fd_tS n bt p + c = fd_tE n bt p := by omega
    have hc : nI (fd_tE n bt p) ≤ nI (fd_tE n bt p) := nI_le (Nat.le_refl _) (by omega)
    have E : fd_nv bt (fd_tS n bt p) c = fd_num n bt p := by
      unfold fd_num
      rw [show c = fd_tE n bt p - fd_tS n bt p by omega]
    rw [ec, E, fs_60_31]
    simp (disch := first | exact fd_nl_int | exact fd_nl_ref | exact fd_nl_none | assumption | exact nI_ne0 (by omega) (by omega) | exact fd_nb0 | exact fd_nb1 | exact fd_nbb | omega) only [fs_60_0, fs_60_1_p41 hk, fs_60_4, fs_60_5, fs_60_8, fs_60_9_p41 hk, fs_60_12, fs_60_13_p41 hk, fs_60_16, fs_60_17, fs_60_18, fs_60_21, fs_60_22, fs_60_23, fs_60_24, fs_60_25, fs_60_26_p41 hk, fs_60_29, fs_60_33, fs_60_34_p41 hk, fs_60_37, fs_60_40, fs_60_42, fs_60_43, fs_60_44, fs_60_45_p41 hk, fs_60_48, fs_60_50_p39 hk, fs_60_53, fs_60_54, fs_60_56, fs_60_57, fs_60_58, fs_60_61, fs_60_65, fs_60_66, fs_60_67, fs_60_70, fs_60_73, fs_60_74, fs_60_75, fs_60_76, fs_60_77_p41 hk, fs_60_80, fs_60_81_p41 hk, fs_60_84, fs_60_85, Option.bind_some, Option.toList_some, Option.toList_none, List.cons_append, List.nil_append, fd_nb0, fd_nb1, fd_nbb, fd_b0, nI_add, pk_mul, ite_not, Classical.not_not, not_false_iff, not_true, and_self, or_true, true_or, ↓reduceIte, if_true, if_false, ite_self, fd_mI, fd_mH, fd_mL, fd_p0, fd_w0, fd_w1, fd_w2, fd_10, fd_00, hc, L3]
  | succ m ih =>
    intro c e
    have hc : ¬ nI (fd_tE n bt p) ≤ nI (fd_tS n bt p + c) := nI_ge (by omega) (by omega)
    have by_ := fm_byteAt (h := h) (i := fd_tS n bt p + c) hk T (by omega)
    have i1 := ih (c + 1) (by omega)
    rw [show fd_nv bt (fd_tS n bt p) (c + 1) = nI 10 * fd_nv bt (fd_tS n bt p) c + bt (fd_tS n bt p + c) - nI 48 from rfl, show fd_tS n bt p + (c + 1) = fd_tS n bt p + c + 1 by omega] at i1
    rw [fs_60_31]
    simp (disch := first | exact fd_nl_int | exact fd_nl_ref | exact fd_nl_none | assumption | exact nI_ne0 (by omega) (by omega) | exact fd_nb0 | exact fd_nb1 | exact fd_nbb | omega) only [fs_60_0, fs_60_1_p41 hk, fs_60_4, fs_60_5, fs_60_8, fs_60_9_p41 hk, fs_60_12, fs_60_13_p41 hk, fs_60_16, fs_60_17, fs_60_18, fs_60_21, fs_60_22, fs_60_23, fs_60_24, fs_60_25, fs_60_26_p41 hk, fs_60_29, fs_60_33, fs_60_34_p41 hk, fs_60_37, fs_60_40, fs_60_42, fs_60_43, fs_60_44, fs_60_45_p41 hk, fs_60_48, fs_60_50_p39 hk, fs_60_53, fs_60_54, fs_60_56, fs_60_57, fs_60_58, fs_60_61, fs_60_65, fs_60_66, fs_60_67, fs_60_70, fs_60_73, fs_60_74, fs_60_75, fs_60_76, fs_60_77_p41 hk, fs_60_80, fs_60_81_p41 hk, fs_60_84, fs_60_85, Option.bind_some, Option.toList_some, Option.toList_none, List.cons_append, List.nil_append, fd_nb0, fd_nb1, fd_nbb, fd_b0, nI_add, pk_mul, ite_not, Classical.not_not, not_false_iff, not_true, and_self, or_true, true_or, ↓reduceIte, if_true, if_false, ite_self, fd_mI, fd_mH, fd_mL, fd_p0, fd_w0, fd_w1, fd_w2, fd_10, fd_00, hc, L3, by_, i1]
theorem fm_numY (hk : fd_Sok k fb bb dr) (T : fd_cT n bt h) (L : fd_CL n bt p h) {l m : Int32} (w : fd_isN n bt p l m) : ∃ h', fd_E 60 0 [some (.ref (41)), some (.int (l)), some (.int (m)), none, none] [] k h = some (some (.int (nI 1)), (k, h')) ∧ fd_CL n bt (fd_tE n bt p) h' ∧ h'.1 41 6 = fd_num n bt p ∧ ∀ q j, ¬ (q = 41 ∧ 2 ≤ j ∧ j ≤ 4) → ¬ (q = 41 ∧ j = 6) → h'.1 q j = h.1 q j := by
  have nl := fm_numL hk T L l m (fd_tE n bt p - fd_tS n bt p) 0 (by omega)
  obtain ⟨w1, w2, w3⟩ := w
  have T' : fd_cT n bt (fd_w h 41 6 (fd_num n bt p)) := fd_cT_fr T (fd_w1 (by decide)) (fd_wp (by decide))
  have L' : fd_CL n bt p (fd_w h 41 6 (fd_num n bt p)) := ⟨L.1, (fd_w2 (by decide)).trans L.2.1, (fd_w2 (by decide)).trans L.2.2.1, (fd_w2 (by decide)).trans L.2.2.2⟩
  obtain ⟨h', x1, x2, x3⟩ := fd_CL_n hk T' L'
  have n200 := T.1
  obtain ⟨L1, L2, L3, L4⟩ := L
  have le := fd_tE_le (bt := bt) L1
  rw [w1] at L4
  have s1 : nI (fd_tE n bt p) - nI (fd_tS n bt p) = nI (fd_tE n bt p - fd_tS n bt p) := nI_sub (by omega)
  have s2 : nI (fd_tE n bt p - fd_tS n bt p) ≤ nI 4 := nI_le w2 (by omega)
  rw [show fd_nv bt (fd_tS n bt p) 0 = nI 0 from rfl, Nat.add_zero] at nl
  refine ⟨h', ?_, x2, (x3 41 6 (by omega)).trans fd_w0, fun q j n1 n2 => (x3 q j n1).trans (if_neg n2)⟩
  simp (disch := first | exact fd_nl_int | exact fd_nl_ref | exact fd_nl_none | assumption | exact nI_ne0 (by omega) (by omega) | exact fd_nb0 | exact fd_nb1 | exact fd_nbb | omega) only [fs_60_0, fs_60_1_p41 hk, fs_60_4, fs_60_5, fs_60_8, fs_60_9_p41 hk, fs_60_12, fs_60_13_p41 hk, fs_60_16, fs_60_17, fs_60_18, fs_60_21, fs_60_22, fs_60_23, fs_60_24, fs_60_25, fs_60_26_p41 hk, fs_60_29, fs_60_33, fs_60_34_p41 hk, fs_60_37, fs_60_40, fs_60_42, fs_60_43, fs_60_44, fs_60_45_p41 hk, fs_60_48, fs_60_50_p39 hk, fs_60_53, fs_60_54, fs_60_56, fs_60_57, fs_60_58, fs_60_61, fs_60_64, fs_60_65, fs_60_66, fs_60_67, fs_60_70, fs_60_73, fs_60_74, fs_60_75, fs_60_76, fs_60_77_p41 hk, fs_60_80, fs_60_81_p41 hk, fs_60_84, fs_60_85, Option.bind_some, Option.toList_some, Option.toList_none, List.cons_append, List.nil_append, fd_nb0, fd_nb1, fd_nbb, fd_b0, nI_add, pk_mul, ite_not, Classical.not_not, not_false_iff, not_true, and_self, or_true, true_or, ↓reduceIte, if_true, if_false, ite_self, fd_mI, fd_mH, fd_mL, fd_p0, fd_w0, fd_w1, fd_w2, fd_10, fd_00, L2, L3, L4, s1, s2, nl, fm_within, eq_true w3, x1]
theorem fm_numN (hk : fd_Sok k fb bb dr) (T : fd_cT n bt h) (L : fd_CL n bt p h) {l m : Int32} (w : ¬ fd_isN n bt p l m) : fd_E 60 0 [some (.ref (41)), some (.int (l)), some (.int (m)), none, none] [] k h = some (some (.int (nI 0)), (k, h)) := by
  have nl := fm_numL hk T L l m (fd_tE n bt p - fd_tS n bt p) 0 (by omega)
  have n200 := T.1
  obtain ⟨L1, L2, L3, L4⟩ := L
  have le := fd_tE_le (bt := bt) L1
  have s1 : nI (fd_tE n bt p) - nI (fd_tS n bt p) = nI (fd_tE n bt p - fd_tS n bt p) := nI_sub (by omega)
  have r2 : fd_tR n bt p ≤ 2 := by unfold fd_tR; split; exact fd_row_le; omega
  rw [show fd_nv bt (fd_tS n bt p) 0 = nI 0 from rfl, Nat.add_zero] at nl
  by_cases c1 : fd_tR n bt p = 2
  · rw [c1] at L4
    by_cases c2 : fd_tE n bt p - fd_tS n bt p ≤ 4
    · have s2 : nI (fd_tE n bt p - fd_tS n bt p) ≤ nI 4 := nI_le c2 (by omega)
      have c3 : ¬ fd_wi (fd_num n bt p) l m := fun z => w ⟨c1, c2, z⟩
      simp (disch := first | exact fd_nl_int | exact fd_nl_ref | exact fd_nl_none | assumption | exact nI_ne0 (by omega) (by omega) | exact fd_nb0 | exact fd_nb1 | exact fd_nbb | omega) only [fs_60_0, fs_60_1_p41 hk, fs_60_4, fs_60_5, fs_60_8, fs_60_9_p41 hk, fs_60_12, fs_60_13_p41 hk, fs_60_16, fs_60_17, fs_60_18, fs_60_21, fs_60_22, fs_60_23, fs_60_24, fs_60_25, fs_60_26_p41 hk, fs_60_29, fs_60_33, fs_60_34_p41 hk, fs_60_37, fs_60_40, fs_60_42, fs_60_43, fs_60_44, fs_60_45_p41 hk, fs_60_48, fs_60_50_p39 hk, fs_60_53, fs_60_54, fs_60_56, fs_60_57, fs_60_58, fs_60_61, fs_60_64, fs_60_65, fs_60_66, fs_60_67, fs_60_70, fs_60_73, fs_60_74, fs_60_75, fs_60_76, fs_60_77_p41 hk, fs_60_80, fs_60_81_p41 hk, fs_60_84, fs_60_85, Option.bind_some, Option.toList_some, Option.toList_none, List.cons_append, List.nil_append, fd_nb0, fd_nb1, fd_nbb, fd_b0, nI_add, pk_mul, ite_not, Classical.not_not, not_false_iff, not_true, and_self, or_true, true_or, ↓reduceIte, if_true, if_false, ite_self, fd_mI, fd_mH, fd_mL, fd_p0, fd_w0, fd_w1, fd_w2, fd_10, fd_00, L2, L3, L4, s1, s2, nl, fm_within, eq_false c3]
    · have s2 : ¬ nI (fd_tE n bt p - fd_tS n bt p) ≤ nI 4 := nI_ge (by omega) (by omega)
      simp (disch := first | exact fd_nl_int | exact fd_nl_ref | exact fd_nl_none | assumption | exact nI_ne0 (by omega) (by omega) | exact fd_nb0 | exact fd_nb1 | exact fd_nbb | omega) only [fs_60_0, fs_60_1_p41 hk, fs_60_4, fs_60_5, fs_60_8, fs_60_9_p41 hk, fs_60_12, fs_60_13_p41 hk, fs_60_16, fs_60_17, fs_60_18, fs_60_21, fs_60_22, fs_60_23, fs_60_24, fs_60_25, fs_60_26_p41 hk, fs_60_29, fs_60_33, fs_60_34_p41 hk, fs_60_37, fs_60_40, fs_60_42, fs_60_43, fs_60_44, fs_60_45_p41 hk, fs_60_48, fs_60_50_p39 hk, fs_60_53, fs_60_54, fs_60_56, fs_60_57, fs_60_58, fs_60_61, fs_60_64, fs_60_65, fs_60_66, fs_60_67, fs_60_70, fs_60_73, fs_60_74, fs_60_75, fs_60_76, fs_60_77_p41 hk, fs_60_80, fs_60_81_p41 hk, fs_60_84, fs_60_85, Option.bind_some, Option.toList_some, Option.toList_none, List.cons_append, List.nil_append, fd_nb0, fd_nb1, fd_nbb, fd_b0, nI_add, pk_mul, ite_not, Classical.not_not, not_false_iff, not_true, and_self, or_true, true_or, ↓reduceIte, if_true, if_false, ite_self, fd_mI, fd_mH, fd_mL, fd_p0, fd_w0, fd_w1, fd_w2, fd_10, fd_00, L2, L3, L4, s1, s2]
  · have s2 : (nI (fd_tR n bt p) = nI 2) = False := eq_false (fun z => c1 (fd_nIj (by omega) (by omega) z))
    simp (disch := first | exact fd_nl_int | exact fd_nl_ref | exact fd_nl_none | assumption | exact nI_ne0 (by omega) (by omega) | exact fd_nb0 | exact fd_nb1 | exact fd_nbb | omega) only [fs_60_0, fs_60_1_p41 hk, fs_60_4, fs_60_5, fs_60_8, fs_60_9_p41 hk, fs_60_12, fs_60_13_p41 hk, fs_60_16, fs_60_17, fs_60_18, fs_60_21, fs_60_22, fs_60_23, fs_60_24, fs_60_25, fs_60_26_p41 hk, fs_60_29, fs_60_33, fs_60_34_p41 hk, fs_60_37, fs_60_40, fs_60_42, fs_60_43, fs_60_44, fs_60_45_p41 hk, fs_60_48, fs_60_50_p39 hk, fs_60_53, fs_60_54, fs_60_56, fs_60_57, fs_60_58, fs_60_61, fs_60_64, fs_60_65, fs_60_66, fs_60_67, fs_60_70, fs_60_73, fs_60_74, fs_60_75, fs_60_76, fs_60_77_p41 hk, fs_60_80, fs_60_81_p41 hk, fs_60_84, fs_60_85, Option.bind_some, Option.toList_some, Option.toList_none, List.cons_append, List.nil_append, fd_nb0, fd_nb1, fd_nbb, fd_b0, nI_add, pk_mul, ite_not, Classical.not_not, not_false_iff, not_true, and_self, or_true, true_or, ↓reduceIte, if_true, if_false, ite_self, fd_mI, fd_mH, fd_mL, fd_p0, fd_w0, fd_w1, fd_w2, fd_10, fd_00, L4, s2]
theorem fm_semiY (hk : fd_Sok k fb bb dr) (T : fd_cT n bt h) (L : fd_CL n bt p h) (hs : fd_tS n bt p < n) (w : bt (fd_tS n bt p) = nI 59) : ∃ h', fd_E 61 0 [some (.ref (41)), none] [] k h = some (some (.int (nI 1)), (k, h')) ∧ fd_CL n bt (fd_tE n bt p) h' ∧ ∀ q j, ¬ (q = 41 ∧ 2 ≤ j ∧ j ≤ 4) → h'.1 q j = h.1 q j := by
  obtain ⟨h', x1, x2, x3⟩ := fd_CL_n hk T L
  have by_ := fm_byteAt (h := h) hk T hs
  obtain ⟨L1, L2, L3, L4⟩ := L
  refine ⟨h', ?_, x2, x3⟩
  simp (disch := first | exact fd_nl_int | exact fd_nl_ref | exact fd_nl_none | assumption | exact nI_ne0 (by omega) (by omega) | exact fd_nb0 | exact fd_nb1 | exact fd_nbb | omega) only [fs_61_0, fs_61_1_p41 hk, fs_61_4, fs_61_5_p41 hk, fs_61_8_p39 hk, fs_61_11, fs_61_13, fs_61_16, fs_61_17, fs_61_20, fs_61_21, fs_61_22, fs_61_23, fs_61_26, fs_61_27_p41 hk, fs_61_30, fs_61_31, Option.bind_some, Option.toList_some, Option.toList_none, List.cons_append, List.nil_append, fd_nb0, fd_nb1, fd_nbb, fd_b0, nI_add, pk_mul, ite_not, Classical.not_not, not_false_iff, not_true, and_self, or_true, true_or, ↓reduceIte, if_true, if_false, ite_self, fd_mI, fd_mH, fd_mL, fd_p0, fd_w0, fd_w1, fd_w2, fd_10, fd_00, L2, by_, w, x1]
theorem fm_semiN (hk : fd_Sok k fb bb dr) (T : fd_cT n bt h) (L : fd_CL n bt p h) (hs : fd_tS n bt p < n) (w : ¬ bt (fd_tS n bt p) = nI 59) : fd_E 61 0 [some (.ref (41)), none] [] k h = some (some (.int (nI 0)), (k, h)) := by
  have by_ := fm_byteAt (h := h) hk T hs
  obtain ⟨L1, L2, L3, L4⟩ := L
  simp (disch := first | exact fd_nl_int | exact fd_nl_ref | exact fd_nl_none | assumption | exact nI_ne0 (by omega) (by omega) | exact fd_nb0 | exact fd_nb1 | exact fd_nbb | omega) only [fs_61_0, fs_61_1_p41 hk, fs_61_4, fs_61_5_p41 hk, fs_61_8_p39 hk, fs_61_11, fs_61_13, fs_61_16, fs_61_17, fs_61_20, fs_61_21, fs_61_22, fs_61_23, fs_61_26, fs_61_27_p41 hk, fs_61_30, fs_61_31, Option.bind_some, Option.toList_some, Option.toList_none, List.cons_append, List.nil_append, fd_nb0, fd_nb1, fd_nbb, fd_b0, nI_add, pk_mul, ite_not, Classical.not_not, not_false_iff, not_true, and_self, or_true, true_or, ↓reduceIte, if_true, if_false, ite_self, fd_mI, fd_mH, fd_mL, fd_p0, fd_w0, fd_w1, fd_w2, fd_10, fd_00, L2, by_, w]
theorem fm_atEnd (hk : fd_Sok k fb bb dr) (T : fd_cT n bt h) (L : fd_CL n bt p h) : fd_E 62 0 [some (.ref (41))] [] k h = some (some (.int (fd_b (fd_tS n bt p = n))), (k, h)) := by
  have n200 := T.1
  have T2 := T.2.1
  obtain ⟨L1, L2, L3, L4⟩ := L
  have ls := fd_tS_le (bt := bt) L1
  by_cases c : fd_tS n bt p = n
  · have hc : ¬ nI (fd_tS n bt p) < nI n := nI_nlt (by omega) (by omega)
    rw [fd_bt c]
    simp (disch := first | exact fd_nl_int | exact fd_nl_ref | exact fd_nl_none | assumption | exact nI_ne0 (by omega) (by omega) | exact fd_nb0 | exact fd_nb1 | exact fd_nbb | omega) only [fs_62_0, fs_62_1_p41 hk, fs_62_4, fs_62_5_p41 hk, fs_62_8_p39 hk, fs_62_11, fs_62_14, fs_62_15, fs_62_18, fs_62_19, Option.bind_some, Option.toList_some, Option.toList_none, List.cons_append, List.nil_append, fd_nb0, fd_nb1, fd_nbb, fd_b0, nI_add, pk_mul, ite_not, Classical.not_not, not_false_iff, not_true, and_self, or_true, true_or, ↓reduceIte, if_true, if_false, ite_self, fd_mI, fd_mH, fd_mL, fd_p0, fd_w0, fd_w1, fd_w2, fd_10, fd_00, L2, T2, hc]
  · have hc : nI (fd_tS n bt p) < nI n := nI_lt (by omega) (by omega)
    rw [fd_bf c]
    simp (disch := first | exact fd_nl_int | exact fd_nl_ref | exact fd_nl_none | assumption | exact nI_ne0 (by omega) (by omega) | exact fd_nb0 | exact fd_nb1 | exact fd_nbb | omega) only [fs_62_0, fs_62_1_p41 hk, fs_62_4, fs_62_5_p41 hk, fs_62_8_p39 hk, fs_62_11, fs_62_14, fs_62_15, fs_62_18, fs_62_19, Option.bind_some, Option.toList_some, Option.toList_none, List.cons_append, List.nil_append, fd_nb0, fd_nb1, fd_nbb, fd_b0, nI_add, pk_mul, ite_not, Classical.not_not, not_false_iff, not_true, and_self, or_true, true_or, ↓reduceIte, if_true, if_false, ite_self, fd_mI, fd_mH, fd_mL, fd_p0, fd_w0, fd_w1, fd_w2, fd_10, fd_00, L2, T2, hc]
end LEX
