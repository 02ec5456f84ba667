/-! HOURS: one ship sees another -/
section SEE
variable {k : fd_Sk} {h g : fd_Hp} {fb bb dr b : Nat}
theorem fd_cl10 : ∀ l, l < 101 → fd_cl0 (nI l + -10) = nI (l - 10) := by decide +kernel
theorem fd_cl4 : ∀ l, l < 101 → fd_cl0 (nI (l + 4)) = nI (min (l + 4) 100) := by decide +kernel
theorem fd_mc10 : ∀ l, l < 101 → fd_mcl (nI l + -10) = nI (l - 10) := by decide +kernel
theorem fd_mc4 : ∀ l, l < 101 → fd_mcl (nI (l + 4)) = nI (min (l + 4) 100) := by decide +kernel
/-- the will of one who saw Q last and sees V now -/
def fd_seW (L V : Nat) (Q : Int32) : Nat := if V = 3 ∧ ¬ Q = nI 3 then L - 10 else if V = 2 then min (L + 4) 100 else L
theorem fm_see (hk : fd_Sok k fb bb dr) {y s V L : Nat} (hy : y < 6) (hs : s < 6) (hV : V ≤ 3) (e7 : h.1 8 y = nI L) (hL : L ≤ 100) : ∃ h', fd_E 38 0 [some (.ref (1)), some (.int (nI (y))), some (.int (nI (s))), some (.int (nI (V))), none] [] k h = some (none, (k, h')) ∧ h'.1 8 y = nI (fd_seW L V (h.1 11 (y * 6 + s))) ∧ h'.1 11 (y * 6 + s) = nI V ∧ ∀ q j, ¬ (q = 8 ∧ j = y) → ¬ (q = 11 ∧ j = y * 6 + s) → h'.1 q j = h.1 q j := by
  have w10 := fd_cl10 L (by omega)
  have w4 := fd_cl4 L (by omega)
  have x32 : (nI 3 = nI 2) = False := eq_false (by decide)
  have x23 : (nI 2 = nI 3) = False := eq_false (by decide)
  by_cases c : V = 3 ∧ ¬ h.1 11 (y * 6 + s) = nI 3
  · obtain ⟨rfl, c2⟩ := c
    refine ⟨fd_w (fd_w h 8 y (nI (L - 10))) 11 (y * 6 + s) (nI 3), ?_, ?_, fd_w0, fun q j n1 n2 => ?_⟩
    · simp (disch := first | exact fd_nl_int | exact fd_nl_ref | exact fd_nl_none | assumption | exact nI_ne0 (by omega) (by omega) | exact fd_nb0 | exact fd_nb1 | exact fd_nbb | omega) only [fs_38_0, fs_38_1, fs_38_3, fs_38_4, fs_38_5, fs_38_6, fs_38_8, fs_38_9, fs_38_10, fs_38_13, fs_38_14_p1 hk, fs_38_14_p20 hk, fs_38_17, fs_38_19_p11 hk, fs_38_19_p30 hk, fs_38_20, fs_38_21, fs_38_24, fs_38_25, fs_38_26, fs_38_28_p1 hk, fs_38_28_p20 hk, fs_38_31, fs_38_32, fs_38_33, fs_38_36, fs_38_37, fs_38_38, fs_38_39_p1 hk, fs_38_39_p20 hk, fs_38_42, fs_38_43_p1 hk, fs_38_43_p20 hk, fs_38_46, fs_38_48, fs_38_49_p11 hk, fs_38_49_p30 hk, fs_38_50, Option.bind_some, Option.toList_some, Option.toList_none, List.cons_append, List.nil_append, fd_nb0, fd_nb1, fd_nbb, fd_b0, nI_add, pk_mul, ite_not, Classical.not_not, not_false_iff, not_true, and_self, or_true, true_or, ↓reduceIte, if_true, if_false, ite_self, fd_mI, fd_mH, fd_mL, fd_p0, fd_w0, fd_w1, fd_w2, fd_10, fd_00, c2, e7, fm_changeWill hk, w10, x32]
    · unfold fd_seW; rw [if_pos ⟨rfl, c2⟩, fd_w1 (by decide), fd_w0]
    · simp only [fd_w]; rw [if_neg n2, if_neg n1]
  · by_cases c3 : V = 2
    · subst c3
      refine ⟨fd_w (fd_w h 8 y (nI (min (L + 4) 100))) 11 (y * 6 + s) (nI 2), ?_, ?_, fd_w0, fun q j n1 n2 => ?_⟩
      · simp (disch := first | exact fd_nl_int | exact fd_nl_ref | exact fd_nl_none | assumption | exact nI_ne0 (by omega) (by omega) | exact fd_nb0 | exact fd_nb1 | exact fd_nbb | omega) only [fs_38_0, fs_38_1, fs_38_3, fs_38_4, fs_38_5, fs_38_6, fs_38_8, fs_38_9, fs_38_10, fs_38_13, fs_38_14_p1 hk, fs_38_14_p20 hk, fs_38_17, fs_38_19_p11 hk, fs_38_19_p30 hk, fs_38_20, fs_38_21, fs_38_24, fs_38_25, fs_38_26, fs_38_28_p1 hk, fs_38_28_p20 hk, fs_38_31, fs_38_32, fs_38_33, fs_38_36, fs_38_37, fs_38_38, fs_38_39_p1 hk, fs_38_39_p20 hk, fs_38_42, fs_38_43_p1 hk, fs_38_43_p20 hk, fs_38_46, fs_38_48, fs_38_49_p11 hk, fs_38_49_p30 hk, fs_38_50, Option.bind_some, Option.toList_some, Option.toList_none, List.cons_append, List.nil_append, fd_nb0, fd_nb1, fd_nbb, fd_b0, nI_add, pk_mul, ite_not, Classical.not_not, not_false_iff, not_true, and_self, or_true, true_or, ↓reduceIte, if_true, if_false, ite_self, fd_mI, fd_mH, fd_mL, fd_p0, fd_w0, fd_w1, fd_w2, fd_10, fd_00, e7, fm_changeWill hk, w4, x23]
      · unfold fd_seW; rw [if_neg c, if_pos rfl, fd_w1 (by decide), fd_w0]
      · simp only [fd_w]; rw [if_neg n2, if_neg n1]
    · refine ⟨fd_w h 11 (y * 6 + s) (nI V), ?_, ?_, fd_w0, fun q j n1 n2 => if_neg n2⟩
      · have y2 : (nI V = nI 2) = False := eq_false (fun z => c3 (fd_nIj (by omega) (by omega) z))
        by_cases c4 : V = 3
        · subst c4
          have c5 : h.1 11 (y * 6 + s) = nI 3 := Classical.byContradiction fun z => c ⟨rfl, z⟩
          simp (disch := first | exact fd_nl_int | exact fd_nl_ref | exact fd_nl_none | assumption | exact nI_ne0 (by omega) (by omega) | exact fd_nb0 | exact fd_nb1 | exact fd_nbb | omega) only [fs_38_0, fs_38_1, fs_38_3, fs_38_4, fs_38_5, fs_38_6, fs_38_8, fs_38_9, fs_38_10, fs_38_13, fs_38_14_p1 hk, fs_38_14_p20 hk, fs_38_17, fs_38_19_p11 hk, fs_38_19_p30 hk, fs_38_20, fs_38_21, fs_38_24, fs_38_25, fs_38_26, fs_38_28_p1 hk, fs_38_28_p20 hk, fs_38_31, fs_38_32, fs_38_33, fs_38_36, fs_38_37, fs_38_38, fs_38_39_p1 hk, fs_38_39_p20 hk, fs_38_42, fs_38_43_p1 hk, fs_38_43_p20 hk, fs_38_46, fs_38_48, fs_38_49_p11 hk, fs_38_49_p30 hk, fs_38_50, Option.bind_some, Option.toList_some, Option.toList_none, List.cons_append, List.nil_append, fd_nb0, fd_nb1, fd_nbb, fd_b0, nI_add, pk_mul, ite_not, Classical.not_not, not_false_iff, not_true, and_self, or_true, true_or, ↓reduceIte, if_true, if_false, ite_self, fd_mI, fd_mH, fd_mL, fd_p0, fd_w0, fd_w1, fd_w2, fd_10, fd_00, c5, x32]
        · have y3 : (nI V = nI 3) = False := eq_false (fun z => c4 (fd_nIj (by omega) (by omega) z))
          simp (disch := first | exact fd_nl_int | exact fd_nl_ref | exact fd_nl_none | assumption | exact nI_ne0 (by omega) (by omega) | exact fd_nb0 | exact fd_nb1 | exact fd_nbb | omega) only [fs_38_0, fs_38_1, fs_38_3, fs_38_4, fs_38_5, fs_38_6, fs_38_8, fs_38_9, fs_38_10, fs_38_13, fs_38_14_p1 hk, fs_38_14_p20 hk, fs_38_17, fs_38_19_p11 hk, fs_38_19_p30 hk, fs_38_20, fs_38_21, fs_38_24, fs_38_25, fs_38_26, fs_38_28_p1 hk, fs_38_28_p20 hk, fs_38_31, fs_38_32, fs_38_33, fs_38_36, fs_38_37, fs_38_38, fs_38_39_p1 hk, fs_38_39_p20 hk, fs_38_42, fs_38_43_p1 hk, fs_38_43_p20 hk, fs_38_46, fs_38_48, fs_38_49_p11 hk, fs_38_49_p30 hk, fs_38_50, Option.bind_some, Option.toList_some, Option.toList_none, List.cons_append, List.nil_append, fd_nb0, fd_nb1, fd_nbb, fd_b0, nI_add, pk_mul, ite_not, Classical.not_not, not_false_iff, not_true, and_self, or_true, true_or, ↓reduceIte, if_true, if_false, ite_self, fd_mI, fd_mH, fd_mL, fd_p0, fd_w0, fd_w1, fd_w2, fd_10, fd_00, y2, y3]
      · unfold fd_seW; rw [if_neg c, if_neg c3, fd_w1 (by decide)]; exact e7
theorem fm_seeT (hk : fd_Sok k fb bb dr) {y s V L : Nat} (hy : y < 6) (hs : s < 6) (hV : V ≤ 3) (e7 : h.1 27 y = nI L) (hL : L ≤ 100) : ∃ h', fd_E 38 0 [some (.ref (20)), some (.int (nI (y))), some (.int (nI (s))), some (.int (nI (V))), none] [] k h = some (none, (k, h')) ∧ h'.1 27 y = nI (fd_seW L V (h.1 30 (y * 6 + s))) ∧ h'.1 30 (y * 6 + s) = nI V ∧ ∀ q j, ¬ (q = 27 ∧ j = y) → ¬ (q = 30 ∧ j = y * 6 + s) → h'.1 q j = h.1 q j := by
  have w10 := fd_cl10 L (by omega)
  have w4 := fd_cl4 L (by omega)
  have x32 : (nI 3 = nI 2) = False := eq_false (by decide)
  have x23 : (nI 2 = nI 3) = False := eq_false (by decide)
  by_cases c : V = 3 ∧ ¬ h.1 30 (y * 6 + s) = nI 3
  · obtain ⟨rfl, c2⟩ := c
    refine ⟨fd_w (fd_w h 27 y (nI (L - 10))) 30 (y * 6 + s) (nI 3), ?_, ?_, fd_w0, fun q j n1 n2 => ?_⟩
    · simp (disch := first | exact fd_nl_int | exact fd_nl_ref | exact fd_nl_none | assumption | exact nI_ne0 (by omega) (by omega) | exact fd_nb0 | exact fd_nb1 | exact fd_nbb | omega) only [fs_38_0, fs_38_1, fs_38_3, fs_38_4, fs_38_5, fs_38_6, fs_38_8, fs_38_9, fs_38_10, fs_38_13, fs_38_14_p1 hk, fs_38_14_p20 hk, fs_38_17, fs_38_19_p11 hk, fs_38_19_p30 hk, fs_38_20, fs_38_21, fs_38_24, fs_38_25, fs_38_26, fs_38_28_p1 hk, fs_38_28_p20 hk, fs_38_31, fs_38_32, fs_38_33, fs_38_36, fs_38_37, fs_38_38, fs_38_39_p1 hk, fs_38_39_p20 hk, fs_38_42, fs_38_43_p1 hk, fs_38_43_p20 hk, fs_38_46, fs_38_48, fs_38_49_p11 hk, fs_38_49_p30 hk, fs_38_50, Option.bind_some, Option.toList_some, Option.toList_none, List.cons_append, List.nil_append, fd_nb0, fd_nb1, fd_nbb, fd_b0, nI_add, pk_mul, ite_not, Classical.not_not, not_false_iff, not_true, and_self, or_true, true_or, ↓reduceIte, if_true, if_false, ite_self, fd_mI, fd_mH, fd_mL, fd_p0, fd_w0, fd_w1, fd_w2, fd_10, fd_00, c2, e7, fm_changeWillT hk, w10, x32]
    · unfold fd_seW; rw [if_pos ⟨rfl, c2⟩, fd_w1 (by decide), fd_w0]
    · simp only [fd_w]; rw [if_neg n2, if_neg n1]
  · by_cases c3 : V = 2
    · subst c3
      refine ⟨fd_w (fd_w h 27 y (nI (min (L + 4) 100))) 30 (y * 6 + s) (nI 2), ?_, ?_, fd_w0, fun q j n1 n2 => ?_⟩
      · simp (disch := first | exact fd_nl_int | exact fd_nl_ref | exact fd_nl_none | assumption | exact nI_ne0 (by omega) (by omega) | exact fd_nb0 | exact fd_nb1 | exact fd_nbb | omega) only [fs_38_0, fs_38_1, fs_38_3, fs_38_4, fs_38_5, fs_38_6, fs_38_8, fs_38_9, fs_38_10, fs_38_13, fs_38_14_p1 hk, fs_38_14_p20 hk, fs_38_17, fs_38_19_p11 hk, fs_38_19_p30 hk, fs_38_20, fs_38_21, fs_38_24, fs_38_25, fs_38_26, fs_38_28_p1 hk, fs_38_28_p20 hk, fs_38_31, fs_38_32, fs_38_33, fs_38_36, fs_38_37, fs_38_38, fs_38_39_p1 hk, fs_38_39_p20 hk, fs_38_42, fs_38_43_p1 hk, fs_38_43_p20 hk, fs_38_46, fs_38_48, fs_38_49_p11 hk, fs_38_49_p30 hk, fs_38_50, Option.bind_some, Option.toList_some, Option.toList_none, List.cons_append, List.nil_append, fd_nb0, fd_nb1, fd_nbb, fd_b0, nI_add, pk_mul, ite_not, Classical.not_not, not_false_iff, not_true, and_self, or_true, true_or, ↓reduceIte, if_true, if_false, ite_self, fd_mI, fd_mH, fd_mL, fd_p0, fd_w0, fd_w1, fd_w2, fd_10, fd_00, e7, fm_changeWillT hk, w4, x23]
      · unfold fd_seW; rw [if_neg c, if_pos rfl, fd_w1 (by decide), fd_w0]
      · simp only [fd_w]; rw [if_neg n2, if_neg n1]
    · refine ⟨fd_w h 30 (y * 6 + s) (nI V), ?_, ?_, fd_w0, fun q j n1 n2 => if_neg n2⟩
      · have y2 : (nI V = nI 2) = False := eq_false (fun z => c3 (fd_nIj (by omega) (by omega) z))
        by_cases c4 : V = 3
        · subst c4
          have c5 : h.1 30 (y * 6 + s) = nI 3 := Classical.byContradiction fun z => c ⟨rfl, z⟩
          simp (disch := first | exact fd_nl_int | exact fd_nl_ref | exact fd_nl_none | assumption | exact nI_ne0 (by omega) (by omega) | exact fd_nb0 | exact fd_nb1 | exact fd_nbb | omega) only [fs_38_0, fs_38_1, fs_38_3, fs_38_4, fs_38_5, fs_38_6, fs_38_8, fs_38_9, fs_38_10, fs_38_13, fs_38_14_p1 hk, fs_38_14_p20 hk, fs_38_17, fs_38_19_p11 hk, fs_38_19_p30 hk, fs_38_20, fs_38_21, fs_38_24, fs_38_25, fs_38_26, fs_38_28_p1 hk, fs_38_28_p20 hk, fs_38_31, fs_38_32, fs_38_33, fs_38_36, fs_38_37, fs_38_38, fs_38_39_p1 hk, fs_38_39_p20 hk, fs_38_42, fs_38_43_p1 hk, fs_38_43_p20 hk, fs_38_46, fs_38_48, fs_38_49_p11 hk, fs_38_49_p30 hk, fs_38_50, Option.bind_some, Option.toList_some, Option.toList_none, List.cons_append, List.nil_append, fd_nb0, fd_nb1, fd_nbb, fd_b0, nI_add, pk_mul, ite_not, Classical.not_not, not_false_iff, not_true, and_self, or_true, true_or, ↓reduceIte, if_true, if_false, ite_self, fd_mI, fd_mH, fd_mL, fd_p0, fd_w0, fd_w1, fd_w2, fd_10, fd_00, c5, x32]
        · have y3 : (nI V = nI 3) = False := eq_false (fun z => c4 (fd_nIj (by omega) (by omega) z))
          simp (disch := first | exact fd_nl_int | exact fd_nl_ref | exact fd_nl_none | assumption | exact nI_ne0 (by omega) (by omega) | exact fd_nb0 | exact fd_nb1 | exact fd_nbb | omega) only [fs_38_0, fs_38_1, fs_38_3, fs_38_4, fs_38_5, fs_38_6, fs_38_8, fs_38_9, fs_38_10, fs_38_13, fs_38_14_p1 hk, fs_38_14_p20 hk, fs_38_17, fs_38_19_p11 hk, fs_38_19_p30 hk, fs_38_20, fs_38_21, fs_38_24, fs_38_25, fs_38_26, fs_38_28_p1 hk, fs_38_28_p20 hk, fs_38_31, fs_38_32, fs_38_33, fs_38_36, fs_38_37, fs_38_38, fs_38_39_p1 hk, fs_38_39_p20 hk, fs_38_42, fs_38_43_p1 hk, fs_38_43_p20 hk, fs_38_46, fs_38_48, fs_38_49_p11 hk, fs_38_49_p30 hk, fs_38_50, Option.bind_some, Option.toList_some, Option.toList_none, List.cons_append, List.nil_append, fd_nb0, fd_nb1, fd_nbb, fd_b0, nI_add, pk_mul, ite_not, Classical.not_not, not_false_iff, not_true, and_self, or_true, true_or, ↓reduceIte, if_true, if_false, ite_self, fd_mI, fd_mH, fd_mL, fd_p0, fd_w0, fd_w1, fd_w2, fd_10, fd_00, y2, y3]
      · unfold fd_seW; rw [if_neg c, if_neg c3, fd_w1 (by decide)]; exact e7
end SEE
