/-! HOURS: reading an offer -/
section READ
variable {k : fd_Sk} {h g : fd_Hp} {fb bb dr b : Nat}
theorem fd_clm : ∀ l, l < 101 → ∀ m, m < 41 → fd_cl0 (nI l + -nI m) = nI (l - m) := by decide +kernel
theorem fd_mcm : ∀ l, l < 101 → ∀ m, m < 41 → fd_mcl (nI l + -nI m) = nI (l - m) := by decide +kernel
theorem fd_lessT {X A : Nat} (hX : X ≤ 100) (hA : A ≤ 100) : (nI 5 * (nI X - nI A + nI 5) : Int32).toInt = 5 * ((X : Int) - A + 5) := by
  have e1 : (nI X - nI A : Int32).toInt = (X : Int) - A := by
    rw [Int32.toInt_sub, nI_toInt (by omega), nI_toInt (by omega)]
    exact Int.bmod_eq_of_le (by omega) (by omega)
  have e2 : (nI X - nI A + nI 5 : Int32).toInt = (X : Int) - A + 5 := by
    rw [Int32.toInt_add, e1, nI_toInt (by omega)]
    exact Int.bmod_eq_of_le (by omega) (by omega)
  rw [Int32.toInt_mul, e2, nI_toInt (by omega)]
  exact Int.bmod_eq_of_le (by omega) (by omega)
/-- the will of one who wants A after he read of an offer X -/
def fd_rdW (L X A : Nat) : Nat := L - (if 5 * (X + 5 - A) < 40 then 5 * (X + 5 - A) else 40)
theorem fm_read (hk : fd_Sok k fb bb dr) {s X A L : Nat} (hs : s < 6) (hX : X ≤ 100) (e6 : h.1 7 s = nI A) (hA : A ≤ 100) (e7 : h.1 8 s = nI L) (hL : L ≤ 100) : ∃ h', fd_E 36 0 [some (.ref (1)), some (.int (nI (s))), some (.int (nI (X))), none] [] k h = some (none, (k, h')) ∧ h'.1 8 s = nI (fd_rdW L X A) ∧ ∀ q j, ¬ (q = 8 ∧ j = s) → h'.1 q j = h.1 q j := by
  have T := fd_lessT hX hA
  by_cases c : X + 5 ≤ A
  · have d : nI 5 * (nI X - nI A + nI 5) ≤ 0 := by
      rw [Int32.le_iff_toInt_le, T]
      have : (0 : Int32).toInt = 0 := by decide
      omega
    refine ⟨h, ?_, ?_, fun _ _ _ => rfl⟩
    · simp (disch := first | exact fd_nl_int | exact fd_nl_ref | exact fd_nl_none | assumption | exact nI_ne0 (by omega) (by omega) | exact fd_nb0 | exact fd_nb1 | exact fd_nbb | omega) only [fs_36_0, fs_36_1, fs_36_2, fs_36_3_p1 hk, fs_36_3_p20 hk, fs_36_6, fs_36_7_p7 hk, fs_36_7_p26 hk, fs_36_8, fs_36_9, fs_36_10, fs_36_11, fs_36_12, fs_36_13, fs_36_14, fs_36_17, fs_36_18, fs_36_19, fs_36_21, fs_36_22, fs_36_25, fs_36_26_p1 hk, fs_36_26_p20 hk, fs_36_29, Option.bind_some, Option.toList_some, Option.toList_none, List.cons_append, List.nil_append, fd_nb0, fd_nb1, fd_nbb, fd_b0, nI_add, pk_mul, ite_not, Classical.not_not, not_false_iff, not_true, and_self, or_true, true_or, ↓reduceIte, if_true, if_false, ite_self, fd_mI, fd_mH, fd_mL, fd_p0, fd_w0, fd_w1, fd_w2, fd_10, fd_00, e6, d]
    · rw [e7]; exact congrArg nI (by unfold fd_rdW; rw [if_pos (by omega)]; omega)
  · have e : nI 5 * (nI X - nI A + nI 5) = nI (5 * (X + 5 - A)) := Int32.toInt_inj.mp (by rw [T, nI_toInt (by omega)]; omega)
    have d : ¬ nI (5 * (X + 5 - A)) ≤ 0 := nI_nle (by omega) (by omega)
    by_cases c2 : 5 * (X + 5 - A) < 40
    · have f : nI (5 * (X + 5 - A)) < nI 40 := nI_lt c2 (by omega)
      have w := fd_clm L (by omega) (5 * (X + 5 - A)) (by omega)
      refine ⟨fd_w h 8 s (nI (L - 5 * (X + 5 - A))), ?_, ?_, fun q j n => if_neg n⟩
      · simp (disch := first | exact fd_nl_int | exact fd_nl_ref | exact fd_nl_none | assumption | exact nI_ne0 (by omega) (by omega) | exact fd_nb0 | exact fd_nb1 | exact fd_nbb | omega) only [fs_36_0, fs_36_1, fs_36_2, fs_36_3_p1 hk, fs_36_3_p20 hk, fs_36_6, fs_36_7_p7 hk, fs_36_7_p26 hk, fs_36_8, fs_36_9, fs_36_10, fs_36_11, fs_36_12, fs_36_13, fs_36_14, fs_36_17, fs_36_18, fs_36_19, fs_36_21, fs_36_22, fs_36_25, fs_36_26_p1 hk, fs_36_26_p20 hk, fs_36_29, Option.bind_some, Option.toList_some, Option.toList_none, List.cons_append, List.nil_append, fd_nb0, fd_nb1, fd_nbb, fd_b0, nI_add, pk_mul, ite_not, Classical.not_not, not_false_iff, not_true, and_self, or_true, true_or, ↓reduceIte, if_true, if_false, ite_self, fd_mI, fd_mH, fd_mL, fd_p0, fd_w0, fd_w1, fd_w2, fd_10, fd_00, e6, e7, e, d, f, fm_changeWill hk, w]
      · unfold fd_rdW; rw [fd_w0, if_pos c2]
    · have f : ¬ nI (5 * (X + 5 - A)) < nI 40 := nI_nlt (by omega) (by omega)
      have w := fd_clm L (by omega) 40 (by omega)
      refine ⟨fd_w h 8 s (nI (L - 40)), ?_, ?_, fun q j n => if_neg n⟩
      · simp (disch := first | exact fd_nl_int | exact fd_nl_ref | exact fd_nl_none | assumption | exact nI_ne0 (by omega) (by omega) | exact fd_nb0 | exact fd_nb1 | exact fd_nbb | omega) only [fs_36_0, fs_36_1, fs_36_2, fs_36_3_p1 hk, fs_36_3_p20 hk, fs_36_6, fs_36_7_p7 hk, fs_36_7_p26 hk, fs_36_8, fs_36_9, fs_36_10, fs_36_11, fs_36_12, fs_36_13, fs_36_14, fs_36_17, fs_36_18, fs_36_19, fs_36_21, fs_36_22, fs_36_25, fs_36_26_p1 hk, fs_36_26_p20 hk, fs_36_29, Option.bind_some, Option.toList_some, Option.toList_none, List.cons_append, List.nil_append, fd_nb0, fd_nb1, fd_nbb, fd_b0, nI_add, pk_mul, ite_not, Classical.not_not, not_false_iff, not_true, and_self, or_true, true_or, ↓reduceIte, if_true, if_false, ite_self, fd_mI, fd_mH, fd_mL, fd_p0, fd_w0, fd_w1, fd_w2, fd_10, fd_00, e6, e7, e, d, f, fm_changeWill hk, w]
      · unfold fd_rdW; rw [fd_w0, if_neg c2]
theorem fm_readT (hk : fd_Sok k fb bb dr) {s X A L : Nat} (hs : s < 6) (hX : X ≤ 100) (e6 : h.1 26 s = nI A) (hA : A ≤ 100) (e7 : h.1 27 s = nI L) (hL : L ≤ 100) : ∃ h', fd_E 36 0 [some (.ref (20)), some (.int (nI (s))), some (.int (nI (X))), none] [] k h = some (none, (k, h')) ∧ h'.1 27 s = nI (fd_rdW L X A) ∧ ∀ q j, ¬ (q = 27 ∧ j = s) → h'.1 q j = h.1 q j := by
  have T := fd_lessT hX hA
  by_cases c : X + 5 ≤ A
  · have d : nI 5 * (nI X - nI A + nI 5) ≤ 0 := by
      rw [Int32.le_iff_toInt_le, T]
      have : (0 : Int32).toInt = 0 := by decide
      omega
    refine ⟨h, ?_, ?_, fun _ _ _ => rfl⟩
    · simp (disch := first | exact fd_nl_int | exact fd_nl_ref | exact fd_nl_none | assumption | exact nI_ne0 (by omega) (by omega) | exact fd_nb0 | exact fd_nb1 | exact fd_nbb | omega) only [fs_36_0, fs_36_1, fs_36_2, fs_36_3_p1 hk, fs_36_3_p20 hk, fs_36_6, fs_36_7_p7 hk, fs_36_7_p26 hk, fs_36_8, fs_36_9, fs_36_10, fs_36_11, fs_36_12, fs_36_13, fs_36_14, fs_36_17, fs_36_18, fs_36_19, fs_36_21, fs_36_22, fs_36_25, fs_36_26_p1 hk, fs_36_26_p20 hk, fs_36_29, Option.bind_some, Option.toList_some, Option.toList_none, List.cons_append, List.nil_append, fd_nb0, fd_nb1, fd_nbb, fd_b0, nI_add, pk_mul, ite_not, Classical.not_not, not_false_iff, not_true, and_self, or_true, true_or, ↓reduceIte, if_true, if_false, ite_self, fd_mI, fd_mH, fd_mL, fd_p0, fd_w0, fd_w1, fd_w2, fd_10, fd_00, e6, d]
    · rw [e7]; exact congrArg nI (by unfold fd_rdW; rw [if_pos (by omega)]; omega)
  · have e : nI 5 * (nI X - nI A + nI 5) = nI (5 * (X + 5 - A)) := Int32.toInt_inj.mp (by rw [T, nI_toInt (by omega)]; omega)
    have d : ¬ nI (5 * (X + 5 - A)) ≤ 0 := nI_nle (by omega) (by omega)
    by_cases c2 : 5 * (X + 5 - A) < 40
    · have f : nI (5 * (X + 5 - A)) < nI 40 := nI_lt c2 (by omega)
      have w := fd_clm L (by omega) (5 * (X + 5 - A)) (by omega)
      refine ⟨fd_w h 27 s (nI (L - 5 * (X + 5 - A))), ?_, ?_, fun q j n => if_neg n⟩
      · simp (disch := first | exact fd_nl_int | exact fd_nl_ref | exact fd_nl_none | assumption | exact nI_ne0 (by omega) (by omega) | exact fd_nb0 | exact fd_nb1 | exact fd_nbb | omega) only [fs_36_0, fs_36_1, fs_36_2, fs_36_3_p1 hk, fs_36_3_p20 hk, fs_36_6, fs_36_7_p7 hk, fs_36_7_p26 hk, fs_36_8, fs_36_9, fs_36_10, fs_36_11, fs_36_12, fs_36_13, fs_36_14, fs_36_17, fs_36_18, fs_36_19, fs_36_21, fs_36_22, fs_36_25, fs_36_26_p1 hk, fs_36_26_p20 hk, fs_36_29, Option.bind_some, Option.toList_some, Option.toList_none, List.cons_append, List.nil_append, fd_nb0, fd_nb1, fd_nbb, fd_b0, nI_add, pk_mul, ite_not, Classical.not_not, not_false_iff, not_true, and_self, or_true, true_or, ↓reduceIte, if_true, if_false, ite_self, fd_mI, fd_mH, fd_mL, fd_p0, fd_w0, fd_w1, fd_w2, fd_10, fd_00, e6, e7, e, d, f, fm_changeWillT hk, w]
      · unfold fd_rdW; rw [fd_w0, if_pos c2]
    · have f : ¬ nI (5 * (X + 5 - A)) < nI 40 := nI_nlt (by omega) (by omega)
      have w := fd_clm L (by omega) 40 (by omega)
      refine ⟨fd_w h 27 s (nI (L - 40)), ?_, ?_, fun q j n => if_neg n⟩
      · simp (disch := first | exact fd_nl_int | exact fd_nl_ref | exact fd_nl_none | assumption | exact nI_ne0 (by omega) (by omega) | exact fd_nb0 | exact fd_nb1 | exact fd_nbb | omega) only [fs_36_0, fs_36_1, fs_36_2, fs_36_3_p1 hk, fs_36_3_p20 hk, fs_36_6, fs_36_7_p7 hk, fs_36_7_p26 hk, fs_36_8, fs_36_9, fs_36_10, fs_36_11, fs_36_12, fs_36_13, fs_36_14, fs_36_17, fs_36_18, fs_36_19, fs_36_21, fs_36_22, fs_36_25, fs_36_26_p1 hk, fs_36_26_p20 hk, fs_36_29, Option.bind_some, Option.toList_some, Option.toList_none, List.cons_append, List.nil_append, fd_nb0, fd_nb1, fd_nbb, fd_b0, nI_add, pk_mul, ite_not, Classical.not_not, not_false_iff, not_true, and_self, or_true, true_or, ↓reduceIte, if_true, if_false, ite_self, fd_mI, fd_mH, fd_mL, fd_p0, fd_w0, fd_w1, fd_w2, fd_10, fd_00, e6, e7, e, d, f, fm_changeWillT hk, w]
      · unfold fd_rdW; rw [fd_w0, if_neg c2]
theorem fm_mRead (hk : fd_Sok k fb bb dr) {s X A L : Nat} (hs : s < 6) (hX : X ≤ 100) (e6 : h.1 80 s = nI A) (hA : A ≤ 100) (e7 : h.1 82 (12 + s) = nI L) (hL : L ≤ 100) : ∃ h', fd_E 141 0 [some (.ref (77)), some (.int (nI (s))), some (.int (nI (X))), none] [] k h = some (none, (k, h')) ∧ h'.1 82 (12 + s) = nI (fd_rdW L X A) ∧ ∀ q j, ¬ (q = 82 ∧ j = 12 + s) → h'.1 q j = h.1 q j := by
  have T := fd_lessT hX hA
  refine ⟨fd_w h 82 (12 + s) (nI (fd_rdW L X A)), ?_, fd_w0, fun q j n => if_neg n⟩
  by_cases c : X + 5 ≤ A
  · have d : nI 5 * (nI X - nI A + nI 5) ≤ 0 := by
      rw [Int32.le_iff_toInt_le, T]
      have : (0 : Int32).toInt = 0 := by decide
      omega
    have d' : ¬ 0 < nI 5 * (nI X - nI A + nI 5) := Int32.not_lt.mpr d
    have w := fd_mc0 L (by omega)
    have q : fd_rdW L X A = L := by unfold fd_rdW; rw [if_pos (by omega)]; omega
    rw [q]
    simp (disch := first | exact fd_nl_int | exact fd_nl_ref | exact fd_nl_none | assumption | exact nI_ne0 (by omega) (by omega) | exact fd_nb0 | exact fd_nb1 | exact fd_nbb | omega) only [fs_141_0, fs_141_1, fs_141_2, fs_141_3_p77 hk, fs_141_6, fs_141_7_p80 hk, fs_141_8, fs_141_9, fs_141_10, fs_141_11, fs_141_12, fs_141_13, fs_141_14, fs_141_15, fs_141_16, fs_141_19, fs_141_20, fs_141_23, fs_141_24, fs_141_26, fs_141_29, fs_141_31, fs_141_34, fs_141_35, fs_141_36_p77 hk, fs_141_39, Option.bind_some, Option.toList_some, Option.toList_none, List.cons_append, List.nil_append, fd_nb0, fd_nb1, fd_nbb, fd_b0, nI_add, pk_mul, ite_not, Classical.not_not, not_false_iff, not_true, and_self, or_true, true_or, ↓reduceIte, if_true, if_false, ite_self, fd_mI, fd_mH, fd_mL, fd_p0, fd_w0, fd_w1, fd_w2, fd_10, fd_00, e6, e7, d, d', fm_addWill hk, fd_p0, w]
  · have e : nI 5 * (nI X - nI A + nI 5) = nI (5 * (X + 5 - A)) := Int32.toInt_inj.mp (by rw [T, nI_toInt (by omega)]; omega)
    have d : ¬ nI (5 * (X + 5 - A)) ≤ 0 := nI_nle (by omega) (by omega)
    have d' : 0 < nI (5 * (X + 5 - A)) := Int32.not_le.mp d
    by_cases c2 : 5 * (X + 5 - A) ≤ 40
    · have f : nI (5 * (X + 5 - A)) ≤ nI 40 := nI_le c2 (by omega)
      have w := fd_mcm L (by omega) (5 * (X + 5 - A)) (by omega)
      have q : fd_rdW L X A = L - 5 * (X + 5 - A) := by unfold fd_rdW; split <;> omega
      rw [q]
      simp (disch := first | exact fd_nl_int | exact fd_nl_ref | exact fd_nl_none | assumption | exact nI_ne0 (by omega) (by omega) | exact fd_nb0 | exact fd_nb1 | exact fd_nbb | omega) only [fs_141_0, fs_141_1, fs_141_2, fs_141_3_p77 hk, fs_141_6, fs_141_7_p80 hk, fs_141_8, fs_141_9, fs_141_10, fs_141_11, fs_141_12, fs_141_13, fs_141_14, fs_141_15, fs_141_16, fs_141_19, fs_141_20, fs_141_23, fs_141_24, fs_141_26, fs_141_29, fs_141_31, fs_141_34, fs_141_35, fs_141_36_p77 hk, fs_141_39, Option.bind_some, Option.toList_some, Option.toList_none, List.cons_append, List.nil_append, fd_nb0, fd_nb1, fd_nbb, fd_b0, nI_add, pk_mul, ite_not, Classical.not_not, not_false_iff, not_true, and_self, or_true, true_or, ↓reduceIte, if_true, if_false, ite_self, fd_mI, fd_mH, fd_mL, fd_p0, fd_w0, fd_w1, fd_w2, fd_10, fd_00, e6, e7, e, d, d', f, fm_addWill hk, w]
    · have f : ¬ nI (5 * (X + 5 - A)) ≤ nI 40 := nI_ge (by omega) (by omega)
      have w := fd_mcm L (by omega) 40 (by omega)
      rw [show (-nI 40 : Int32) = -40 from rfl] at w
      have q : fd_rdW L X A = L - 40 := by unfold fd_rdW; rw [if_neg (by omega)]
      rw [q]
      simp (disch := first | exact fd_nl_int | exact fd_nl_ref | exact fd_nl_none | assumption | exact nI_ne0 (by omega) (by omega) | exact fd_nb0 | exact fd_nb1 | exact fd_nbb | omega) only [fs_141_0, fs_141_1, fs_141_2, fs_141_3_p77 hk, fs_141_6, fs_141_7_p80 hk, fs_141_8, fs_141_9, fs_141_10, fs_141_11, fs_141_12, fs_141_13, fs_141_14, fs_141_15, fs_141_16, fs_141_19, fs_141_20, fs_141_23, fs_141_24, fs_141_26, fs_141_29, fs_141_31, fs_141_34, fs_141_35, fs_141_36_p77 hk, fs_141_39, Option.bind_some, Option.toList_some, Option.toList_none, List.cons_append, List.nil_append, fd_nb0, fd_nb1, fd_nbb, fd_b0, nI_add, pk_mul, ite_not, Classical.not_not, not_false_iff, not_true, and_self, or_true, true_or, ↓reduceIte, if_true, if_false, ite_self, fd_mI, fd_mH, fd_mL, fd_p0, fd_w0, fd_w1, fd_w2, fd_10, fd_00, e6, e7, e, d, d', f, fm_addWill hk, w]
end READ
