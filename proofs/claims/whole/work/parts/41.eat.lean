/-! HOURS: eating -/
section EAT
variable {k : fd_Sk} {h g : fd_Hp} {fb bb dr b : Nat}
theorem fd_cl3 : ∀ l, l < 101 → fd_cl0 (nI l + -3) = nI (l - 3) := by decide +kernel
theorem fd_cl5 : ∀ l, l < 101 → fd_cl0 (nI l + -5) = nI (l - 5) := by decide +kernel
theorem fd_mc3 : ∀ l, l < 101 → fd_mcl (nI l + -3) = nI (l - 3) := by decide +kernel
theorem fd_mc5 : ∀ l, l < 101 → fd_mcl (nI l + -5) = nI (l - 5) := by decide +kernel
theorem fd_mc0 : ∀ l, l < 101 → fd_mcl (nI l) = nI l := by decide +kernel
theorem fd_mx0 {a c : Nat} (ha : a < 100000) (hc : c < 100000) : (if nI 0 < nI a - nI c then nI a - nI c else nI 0) = nI (a - c) := by
  have e : (nI a - nI c : Int32).toInt = (a : Int) - c := by
    rw [Int32.toInt_sub, nI_toInt (by omega), nI_toInt (by omega)]
    exact Int.bmod_eq_of_le (by omega) (by omega)
  by_cases z : c < a
  · rw [if_pos (Int32.lt_iff_toInt_lt.mpr (by rw [e, nI_toInt (by omega)]; omega)), nI_sub (by omega)]
  · rw [if_neg (fun y => by rw [Int32.lt_iff_toInt_lt, e, nI_toInt (by omega)] at y; omega)]
    exact congrArg nI (by omega)
/-- the will after a meal -/
def fd_eaW (L B W E : Nat) : Nat := (if B < E then L - 3 else L) - (if W < E then 5 else 0)
theorem fm_eat (hk : fd_Sok k fb bb dr) {s B W E L M : Nat} (hs : s < 6) (e3 : h.1 4 s = nI M) (eE : fd_ea (nI M) = nI E) (hE : E ≤ 9) (e4 : h.1 5 s = nI B) (hB : B ≤ 9000) (e5 : h.1 6 s = nI W) (hW : W ≤ 9000) (e7 : h.1 8 s = nI L) (hL : L ≤ 100) : ∃ h', fd_E 34 0 [some (.ref (1)), some (.int (nI (s))), none] [] k h = some (none, (k, h')) ∧ h'.1 8 s = nI (fd_eaW L B W E) ∧ h'.1 5 s = nI (B - E) ∧ h'.1 6 s = nI (W - E) ∧ ∀ q j, ¬ ((q = 5 ∨ q = 6 ∨ q = 8) ∧ j = s) → h'.1 q j = h.1 q j := by
  have x0 := fd_mx0 (a := B) (c := E) (by omega) (by omega)
  have x1 := fd_mx0 (a := W) (c := E) (by omega) (by omega)
  have l3 := fd_cl3 L (by omega)
  have l5 := fd_cl5 L (by omega)
  have l8 := fd_cl5 (L - 3) (by omega)
  unfold fd_eaW
  by_cases c1 : B < E
  · have d1 : nI B < nI E := nI_lt c1 (by omega)
    have d1' : ¬ nI E ≤ nI B := Int32.not_le.mpr d1
    by_cases c2 : W < E
    · have d2 : nI W < nI E := nI_lt c2 (by omega)
      have d2' : ¬ nI E ≤ nI W := Int32.not_le.mpr d2
      refine ⟨fd_w (fd_w (fd_w (fd_w h 8 s (nI (L - 3))) 8 s (nI (L - 3 - 5))) 5 s (nI (B - E))) 6 s (nI (W - E)), ?_, ?_, ?_, ?_, fun q j n => ?_⟩
      · simp (disch := first | exact fd_nl_int | exact fd_nl_ref | exact fd_nl_none | assumption | exact nI_ne0 (by omega) (by omega) | exact fd_nb0 | exact fd_nb1 | exact fd_nbb | omega) only [fs_34_0, fs_34_1, fs_34_2_p1 hk, fs_34_2_p20 hk, fs_34_5, fs_34_6, fs_34_7_p1 hk, fs_34_7_p20 hk, fs_34_10, fs_34_11_p5 hk, fs_34_11_p24 hk, fs_34_12, fs_34_13, fs_34_16, fs_34_17, fs_34_18, fs_34_20_p1 hk, fs_34_20_p20 hk, fs_34_23, fs_34_24_p1 hk, fs_34_24_p20 hk, fs_34_27, fs_34_28_p6 hk, fs_34_28_p25 hk, fs_34_29, fs_34_30, fs_34_33, fs_34_34, fs_34_35, fs_34_37_p1 hk, fs_34_37_p20 hk, fs_34_40, fs_34_41_p1 hk, fs_34_41_p20 hk, fs_34_44, fs_34_45, fs_34_46, fs_34_47_p1 hk, fs_34_47_p20 hk, fs_34_50, fs_34_51_p5 hk, fs_34_51_p24 hk, fs_34_52, fs_34_53, fs_34_54, fs_34_57_p5 hk, fs_34_57_p24 hk, fs_34_58, fs_34_59_p1 hk, fs_34_59_p20 hk, fs_34_62, fs_34_63, fs_34_64, fs_34_65_p1 hk, fs_34_65_p20 hk, fs_34_68, fs_34_69_p6 hk, fs_34_69_p25 hk, fs_34_70, fs_34_71, fs_34_72, fs_34_75_p6 hk, fs_34_75_p25 hk, fs_34_76, Option.bind_some, Option.toList_some, Option.toList_none, List.cons_append, List.nil_append, fd_nb0, fd_nb1, fd_nbb, fd_b0, nI_add, pk_mul, ite_not, Classical.not_not, not_false_iff, not_true, and_self, or_true, true_or, ↓reduceIte, if_true, if_false, ite_self, fd_mI, fd_mH, fd_mL, fd_p0, fd_w0, fd_w1, fd_w2, fd_10, fd_00, fm_eats hk, e3, eE, e4, e5, e7, d1, d1', d2, d2', fm_changeWill hk, l3, l8, x0, x1]
      · simp (disch := omega) only [fd_w0, fd_w1, fd_w2]; rw [if_pos c1, if_pos c2]
      · simp (disch := omega) only [fd_w0, fd_w1, fd_w2]
      · simp (disch := omega) only [fd_w0, fd_w1, fd_w2]
      · simp only [fd_w]; (repeat' split) <;> first | rfl | (exfalso; omega)
    · have d2 : ¬ nI W < nI E := nI_nlt (by omega) (by omega)
      have d2' : nI E ≤ nI W := Int32.not_lt.mp d2
      refine ⟨fd_w (fd_w (fd_w h 8 s (nI (L - 3))) 5 s (nI (B - E))) 6 s (nI (W - E)), ?_, ?_, ?_, ?_, fun q j n => ?_⟩
      · simp (disch := first | exact fd_nl_int | exact fd_nl_ref | exact fd_nl_none | assumption | exact nI_ne0 (by omega) (by omega) | exact fd_nb0 | exact fd_nb1 | exact fd_nbb | omega) only [fs_34_0, fs_34_1, fs_34_2_p1 hk, fs_34_2_p20 hk, fs_34_5, fs_34_6, fs_34_7_p1 hk, fs_34_7_p20 hk, fs_34_10, fs_34_11_p5 hk, fs_34_11_p24 hk, fs_34_12, fs_34_13, fs_34_16, fs_34_17, fs_34_18, fs_34_20_p1 hk, fs_34_20_p20 hk, fs_34_23, fs_34_24_p1 hk, fs_34_24_p20 hk, fs_34_27, fs_34_28_p6 hk, fs_34_28_p25 hk, fs_34_29, fs_34_30, fs_34_33, fs_34_34, fs_34_35, fs_34_37_p1 hk, fs_34_37_p20 hk, fs_34_40, fs_34_41_p1 hk, fs_34_41_p20 hk, fs_34_44, fs_34_45, fs_34_46, fs_34_47_p1 hk, fs_34_47_p20 hk, fs_34_50, fs_34_51_p5 hk, fs_34_51_p24 hk, fs_34_52, fs_34_53, fs_34_54, fs_34_57_p5 hk, fs_34_57_p24 hk, fs_34_58, fs_34_59_p1 hk, fs_34_59_p20 hk, fs_34_62, fs_34_63, fs_34_64, fs_34_65_p1 hk, fs_34_65_p20 hk, fs_34_68, fs_34_69_p6 hk, fs_34_69_p25 hk, fs_34_70, fs_34_71, fs_34_72, fs_34_75_p6 hk, fs_34_75_p25 hk, fs_34_76, Option.bind_some, Option.toList_some, Option.toList_none, List.cons_append, List.nil_append, fd_nb0, fd_nb1, fd_nbb, fd_b0, nI_add, pk_mul, ite_not, Classical.not_not, not_false_iff, not_true, and_self, or_true, true_or, ↓reduceIte, if_true, if_false, ite_self, fd_mI, fd_mH, fd_mL, fd_p0, fd_w0, fd_w1, fd_w2, fd_10, fd_00, fm_eats hk, e3, eE, e4, e5, e7, d1, d1', d2, d2', fm_changeWill hk, l3, x0, x1]
      · simp (disch := omega) only [fd_w0, fd_w1, fd_w2]; rw [if_pos c1, if_neg c2]; rfl
      · simp (disch := omega) only [fd_w0, fd_w1, fd_w2]
      · simp (disch := omega) only [fd_w0, fd_w1, fd_w2]
      · simp only [fd_w]; (repeat' split) <;> first | rfl | (exfalso; omega)
  · have d1 : ¬ nI B < nI E := nI_nlt (by omega) (by omega)
    have d1' : nI E ≤ nI B := Int32.not_lt.mp d1
    by_cases c2 : W < E
    · have d2 : nI W < nI E := nI_lt c2 (by omega)
      have d2' : ¬ nI E ≤ nI W := Int32.not_le.mpr d2
      refine ⟨fd_w (fd_w (fd_w h 8 s (nI (L - 5))) 5 s (nI (B - E))) 6 s (nI (W - E)), ?_, ?_, ?_, ?_, fun q j n => ?_⟩
      · simp (disch := first | exact fd_nl_int | exact fd_nl_ref | exact fd_nl_none | assumption | exact nI_ne0 (by omega) (by omega) | exact fd_nb0 | exact fd_nb1 | exact fd_nbb | omega) only [fs_34_0, fs_34_1, fs_34_2_p1 hk, fs_34_2_p20 hk, fs_34_5, fs_34_6, fs_34_7_p1 hk, fs_34_7_p20 hk, fs_34_10, fs_34_11_p5 hk, fs_34_11_p24 hk, fs_34_12, fs_34_13, fs_34_16, fs_34_17, fs_34_18, fs_34_20_p1 hk, fs_34_20_p20 hk, fs_34_23, fs_34_24_p1 hk, fs_34_24_p20 hk, fs_34_27, fs_34_28_p6 hk, fs_34_28_p25 hk, fs_34_29, fs_34_30, fs_34_33, fs_34_34, fs_34_35, fs_34_37_p1 hk, fs_34_37_p20 hk, fs_34_40, fs_34_41_p1 hk, fs_34_41_p20 hk, fs_34_44, fs_34_45, fs_34_46, fs_34_47_p1 hk, fs_34_47_p20 hk, fs_34_50, fs_34_51_p5 hk, fs_34_51_p24 hk, fs_34_52, fs_34_53, fs_34_54, fs_34_57_p5 hk, fs_34_57_p24 hk, fs_34_58, fs_34_59_p1 hk, fs_34_59_p20 hk, fs_34_62, fs_34_63, fs_34_64, fs_34_65_p1 hk, fs_34_65_p20 hk, fs_34_68, fs_34_69_p6 hk, fs_34_69_p25 hk, fs_34_70, fs_34_71, fs_34_72, fs_34_75_p6 hk, fs_34_75_p25 hk, fs_34_76, Option.bind_some, Option.toList_some, Option.toList_none, List.cons_append, List.nil_append, fd_nb0, fd_nb1, fd_nbb, fd_b0, nI_add, pk_mul, ite_not, Classical.not_not, not_false_iff, not_true, and_self, or_true, true_or, ↓reduceIte, if_true, if_false, ite_self, fd_mI, fd_mH, fd_mL, fd_p0, fd_w0, fd_w1, fd_w2, fd_10, fd_00, fm_eats hk, e3, eE, e4, e5, e7, d1, d1', d2, d2', fm_changeWill hk, l5, x0, x1]
      · simp (disch := omega) only [fd_w0, fd_w1, fd_w2]; rw [if_neg c1, if_pos c2]
      · simp (disch := omega) only [fd_w0, fd_w1, fd_w2]
      · simp (disch := omega) only [fd_w0, fd_w1, fd_w2]
      · simp only [fd_w]; (repeat' split) <;> first | rfl | (exfalso; omega)
    · have d2 : ¬ nI W < nI E := nI_nlt (by omega) (by omega)
      have d2' : nI E ≤ nI W := Int32.not_lt.mp d2
      refine ⟨fd_w (fd_w h 5 s (nI (B - E))) 6 s (nI (W - E)), ?_, ?_, ?_, ?_, fun q j n => ?_⟩
      · simp (disch := first | exact fd_nl_int | exact fd_nl_ref | exact fd_nl_none | assumption | exact nI_ne0 (by omega) (by omega) | exact fd_nb0 | exact fd_nb1 | exact fd_nbb | omega) only [fs_34_0, fs_34_1, fs_34_2_p1 hk, fs_34_2_p20 hk, fs_34_5, fs_34_6, fs_34_7_p1 hk, fs_34_7_p20 hk, fs_34_10, fs_34_11_p5 hk, fs_34_11_p24 hk, fs_34_12, fs_34_13, fs_34_16, fs_34_17, fs_34_18, fs_34_20_p1 hk, fs_34_20_p20 hk, fs_34_23, fs_34_24_p1 hk, fs_34_24_p20 hk, fs_34_27, fs_34_28_p6 hk, fs_34_28_p25 hk, fs_34_29, fs_34_30, fs_34_33, fs_34_34, fs_34_35, fs_34_37_p1 hk, fs_34_37_p20 hk, fs_34_40, fs_34_41_p1 hk, fs_34_41_p20 hk, fs_34_44, fs_34_45, fs_34_46, fs_34_47_p1 hk, fs_34_47_p20 hk, fs_34_50, fs_34_51_p5 hk, fs_34_51_p24 hk, fs_34_52, fs_34_53, fs_34_54, fs_34_57_p5 hk, fs_34_57_p24 hk, fs_34_58, fs_34_59_p1 hk, fs_34_59_p20 hk, fs_34_62, fs_34_63, fs_34_64, fs_34_65_p1 hk, fs_34_65_p20 hk, fs_34_68, fs_34_69_p6 hk, fs_34_69_p25 hk, fs_34_70, fs_34_71, fs_34_72, fs_34_75_p6 hk, fs_34_75_p25 hk, fs_34_76, Option.bind_some, Option.toList_some, Option.toList_none, List.cons_append, List.nil_append, fd_nb0, fd_nb1, fd_nbb, fd_b0, nI_add, pk_mul, ite_not, Classical.not_not, not_false_iff, not_true, and_self, or_true, true_or, ↓reduceIte, if_true, if_false, ite_self, fd_mI, fd_mH, fd_mL, fd_p0, fd_w0, fd_w1, fd_w2, fd_10, fd_00, fm_eats hk, e3, eE, e4, e5, e7, d1, d1', d2, d2', fm_changeWill hk, x0, x1]
      · simp (disch := omega) only [fd_w0, fd_w1, fd_w2]; rw [if_neg c1, if_neg c2]; exact e7
      · simp (disch := omega) only [fd_w0, fd_w1, fd_w2]
      · simp (disch := omega) only [fd_w0, fd_w1, fd_w2]
      · simp only [fd_w]; (repeat' split) <;> first | rfl | (exfalso; omega)
theorem fm_eatT (hk : fd_Sok k fb bb dr) {s B W E L M : Nat} (hs : s < 6) (e3 : h.1 23 s = nI M) (eE : fd_ea (nI M) = nI E) (hE : E ≤ 9) (e4 : h.1 24 s = nI B) (hB : B ≤ 9000) (e5 : h.1 25 s = nI W) (hW : W ≤ 9000) (e7 : h.1 27 s = nI L) (hL : L ≤ 100) : ∃ h', fd_E 34 0 [some (.ref (20)), some (.int (nI (s))), none] [] k h = some (none, (k, h')) ∧ h'.1 27 s = nI (fd_eaW L B W E) ∧ h'.1 24 s = nI (B - E) ∧ h'.1 25 s = nI (W - E) ∧ ∀ q j, ¬ ((q = 24 ∨ q = 25 ∨ q = 27) ∧ j = s) → h'.1 q j = h.1 q j := by
  have x0 := fd_mx0 (a := B) (c := E) (by omega) (by omega)
  have x1 := fd_mx0 (a := W) (c := E) (by omega) (by omega)
  have l3 := fd_cl3 L (by omega)
  have l5 := fd_cl5 L (by omega)
  have l8 := fd_cl5 (L - 3) (by omega)
  unfold fd_eaW
  by_cases c1 : B < E
  · have d1 : nI B < nI E := nI_lt c1 (by omega)
    have d1' : ¬ nI E ≤ nI B := Int32.not_le.mpr d1
    by_cases c2 : W < E
    · have d2 : nI W < nI E := nI_lt c2 (by omega)
      have d2' : ¬ nI E ≤ nI W := Int32.not_le.mpr d2
      refine ⟨fd_w (fd_w (fd_w (fd_w h 27 s (nI (L - 3))) 27 s (nI (L - 3 - 5))) 24 s (nI (B - E))) 25 s (nI (W - E)), ?_, ?_, ?_, ?_, fun q j n => ?_⟩
      · simp (disch := first | exact fd_nl_int | exact fd_nl_ref | exact fd_nl_none | assumption | exact nI_ne0 (by omega) (by omega) | exact fd_nb0 | exact fd_nb1 | exact fd_nbb | omega) only [fs_34_0, fs_34_1, fs_34_2_p1 hk, fs_34_2_p20 hk, fs_34_5, fs_34_6, fs_34_7_p1 hk, fs_34_7_p20 hk, fs_34_10, fs_34_11_p5 hk, fs_34_11_p24 hk, fs_34_12, fs_34_13, fs_34_16, fs_34_17, fs_34_18, fs_34_20_p1 hk, fs_34_20_p20 hk, fs_34_23, fs_34_24_p1 hk, fs_34_24_p20 hk, fs_34_27, fs_34_28_p6 hk, fs_34_28_p25 hk, fs_34_29, fs_34_30, fs_34_33, fs_34_34, fs_34_35, fs_34_37_p1 hk, fs_34_37_p20 hk, fs_34_40, fs_34_41_p1 hk, fs_34_41_p20 hk, fs_34_44, fs_34_45, fs_34_46, fs_34_47_p1 hk, fs_34_47_p20 hk, fs_34_50, fs_34_51_p5 hk, fs_34_51_p24 hk, fs_34_52, fs_34_53, fs_34_54, fs_34_57_p5 hk, fs_34_57_p24 hk, fs_34_58, fs_34_59_p1 hk, fs_34_59_p20 hk, fs_34_62, fs_34_63, fs_34_64, fs_34_65_p1 hk, fs_34_65_p20 hk, fs_34_68, fs_34_69_p6 hk, fs_34_69_p25 hk, fs_34_70, fs_34_71, fs_34_72, fs_34_75_p6 hk, fs_34_75_p25 hk, fs_34_76, Option.bind_some, Option.toList_some, Option.toList_none, List.cons_append, List.nil_append, fd_nb0, fd_nb1, fd_nbb, fd_b0, nI_add, pk_mul, ite_not, Classical.not_not, not_false_iff, not_true, and_self, or_true, true_or, ↓reduceIte, if_true, if_false, ite_self, fd_mI, fd_mH, fd_mL, fd_p0, fd_w0, fd_w1, fd_w2, fd_10, fd_00, fm_eatsT hk, e3, eE, e4, e5, e7, d1, d1', d2, d2', fm_changeWillT hk, l3, l8, x0, x1]
      · simp (disch := omega) only [fd_w0, fd_w1, fd_w2]; rw [if_pos c1, if_pos c2]
      · simp (disch := omega) only [fd_w0, fd_w1, fd_w2]
      · simp (disch := omega) only [fd_w0, fd_w1, fd_w2]
      · simp only [fd_w]; (repeat' split) <;> first | rfl | (exfalso; omega)
    · have d2 : ¬ nI W < nI E := nI_nlt (by omega) (by omega)
      have d2' : nI E ≤ nI W := Int32.not_lt.mp d2
      refine ⟨fd_w (fd_w (fd_w h 27 s (nI (L - 3))) 24 s (nI (B - E))) 25 s (nI (W - E)), ?_, ?_, ?_, ?_, fun q j n => ?_⟩
      · simp (disch := first | exact fd_nl_int | exact fd_nl_ref | exact fd_nl_none | assumption | exact nI_ne0 (by omega) (by omega) | exact fd_nb0 | exact fd_nb1 | exact fd_nbb | omega) only [fs_34_0, fs_34_1, fs_34_2_p1 hk, fs_34_2_p20 hk, fs_34_5, fs_34_6, fs_34_7_p1 hk, fs_34_7_p20 hk, fs_34_10, fs_34_11_p5 hk, fs_34_11_p24 hk, fs_34_12, fs_34_13, fs_34_16, fs_34_17, fs_34_18, fs_34_20_p1 hk, fs_34_20_p20 hk, fs_34_23, fs_34_24_p1 hk, fs_34_24_p20 hk, fs_34_27, fs_34_28_p6 hk, fs_34_28_p25 hk, fs_34_29, fs_34_30, fs_34_33, fs_34_34, fs_34_35, fs_34_37_p1 hk, fs_34_37_p20 hk, fs_34_40, fs_34_41_p1 hk, fs_34_41_p20 hk, fs_34_44, fs_34_45, fs_34_46, fs_34_47_p1 hk, fs_34_47_p20 hk, fs_34_50, fs_34_51_p5 hk, fs_34_51_p24 hk, fs_34_52, fs_34_53, fs_34_54, fs_34_57_p5 hk, fs_34_57_p24 hk, fs_34_58, fs_34_59_p1 hk, fs_34_59_p20 hk, fs_34_62, fs_34_63, fs_34_64, fs_34_65_p1 hk, fs_34_65_p20 hk, fs_34_68, fs_34_69_p6 hk, fs_34_69_p25 hk, fs_34_70, fs_34_71, fs_34_72, fs_34_75_p6 hk, fs_34_75_p25 hk, fs_34_76, Option.bind_some, Option.toList_some, Option.toList_none, List.cons_append, List.nil_append, fd_nb0, fd_nb1, fd_nbb, fd_b0, nI_add, pk_mul, ite_not, Classical.not_not, not_false_iff, not_true, and_self, or_true, true_or, ↓reduceIte, if_true, if_false, ite_self, fd_mI, fd_mH, fd_mL, fd_p0, fd_w0, fd_w1, fd_w2, fd_10, fd_00, fm_eatsT hk, e3, eE, e4, e5, e7, d1, d1', d2, d2', fm_changeWillT hk, l3, x0, x1]
      · simp (disch := omega) only [fd_w0, fd_w1, fd_w2]; rw [if_pos c1, if_neg c2]; rfl
      · simp (disch := omega) only [fd_w0, fd_w1, fd_w2]
      · simp (disch := omega) only [fd_w0, fd_w1, fd_w2]
      · simp only [fd_w]; (repeat' split) <;> first | rfl | (exfalso; omega)
  · have d1 : ¬ nI B < nI E := nI_nlt (by omega) (by omega)
    have d1' : nI E ≤ nI B := Int32.not_lt.mp d1
    by_cases c2 : W < E
    · have d2 : nI W < nI E := nI_lt c2 (by omega)
      have d2' : ¬ nI E ≤ nI W := Int32.not_le.mpr d2
      refine ⟨fd_w (fd_w (fd_w h 27 s (nI (L - 5))) 24 s (nI (B - E))) 25 s (nI (W - E)), ?_, ?_, ?_, ?_, fun q j n => ?_⟩
      · simp (disch := first | exact fd_nl_int | exact fd_nl_ref | exact fd_nl_none | assumption | exact nI_ne0 (by omega) (by omega) | exact fd_nb0 | exact fd_nb1 | exact fd_nbb | omega) only [fs_34_0, fs_34_1, fs_34_2_p1 hk, fs_34_2_p20 hk, fs_34_5, fs_34_6, fs_34_7_p1 hk, fs_34_7_p20 hk, fs_34_10, fs_34_11_p5 hk, fs_34_11_p24 hk, fs_34_12, fs_34_13, fs_34_16, fs_34_17, fs_34_18, fs_34_20_p1 hk, fs_34_20_p20 hk, fs_34_23, fs_34_24_p1 hk, fs_34_24_p20 hk, fs_34_27, fs_34_28_p6 hk, fs_34_28_p25 hk, fs_34_29, fs_34_30, fs_34_33, fs_34_34, fs_34_35, fs_34_37_p1 hk, fs_34_37_p20 hk, fs_34_40, fs_34_41_p1 hk, fs_34_41_p20 hk, fs_34_44, fs_34_45, fs_34_46, fs_34_47_p1 hk, fs_34_47_p20 hk, fs_34_50, fs_34_51_p5 hk, fs_34_51_p24 hk, fs_34_52, fs_34_53, fs_34_54, fs_34_57_p5 hk, fs_34_57_p24 hk, fs_34_58, fs_34_59_p1 hk, fs_34_59_p20 hk, fs_34_62, fs_34_63, fs_34_64, fs_34_65_p1 hk, fs_34_65_p20 hk, fs_34_68, fs_34_69_p6 hk, fs_34_69_p25 hk, fs_34_70, fs_34_71, fs_34_72, fs_34_75_p6 hk, fs_34_75_p25 hk, fs_34_76, Option.bind_some, Option.toList_some, Option.toList_none, List.cons_append, List.nil_append, fd_nb0, fd_nb1, fd_nbb, fd_b0, nI_add, pk_mul, ite_not, Classical.not_not, not_false_iff, not_true, and_self, or_true, true_or, ↓reduceIte, if_true, if_false, ite_self, fd_mI, fd_mH, fd_mL, fd_p0, fd_w0, fd_w1, fd_w2, fd_10, fd_00, fm_eatsT hk, e3, eE, e4, e5, e7, d1, d1', d2, d2', fm_changeWillT hk, l5, x0, x1]
      · simp (disch := omega) only [fd_w0, fd_w1, fd_w2]; rw [if_neg c1, if_pos c2]
      · simp (disch := omega) only [fd_w0, fd_w1, fd_w2]
      · simp (disch := omega) only [fd_w0, fd_w1, fd_w2]
      · simp only [fd_w]; (repeat' split) <;> first | rfl | (exfalso; omega)
    · have d2 : ¬ nI W < nI E := nI_nlt (by omega) (by omega)
      have d2' : nI E ≤ nI W := Int32.not_lt.mp d2
      refine ⟨fd_w (fd_w h 24 s (nI (B - E))) 25 s (nI (W - E)), ?_, ?_, ?_, ?_, fun q j n => ?_⟩
      · simp (disch := first | exact fd_nl_int | exact fd_nl_ref | exact fd_nl_none | assumption | exact nI_ne0 (by omega) (by omega) | exact fd_nb0 | exact fd_nb1 | exact fd_nbb | omega) only [fs_34_0, fs_34_1, fs_34_2_p1 hk, fs_34_2_p20 hk, fs_34_5, fs_34_6, fs_34_7_p1 hk, fs_34_7_p20 hk, fs_34_10, fs_34_11_p5 hk, fs_34_11_p24 hk, fs_34_12, fs_34_13, fs_34_16, fs_34_17, fs_34_18, fs_34_20_p1 hk, fs_34_20_p20 hk, fs_34_23, fs_34_24_p1 hk, fs_34_24_p20 hk, fs_34_27, fs_34_28_p6 hk, fs_34_28_p25 hk, fs_34_29, fs_34_30, fs_34_33, fs_34_34, fs_34_35, fs_34_37_p1 hk, fs_34_37_p20 hk, fs_34_40, fs_34_41_p1 hk, fs_34_41_p20 hk, fs_34_44, fs_34_45, fs_34_46, fs_34_47_p1 hk, fs_34_47_p20 hk, fs_34_50, fs_34_51_p5 hk, fs_34_51_p24 hk, fs_34_52, fs_34_53, fs_34_54, fs_34_57_p5 hk, fs_34_57_p24 hk, fs_34_58, fs_34_59_p1 hk, fs_34_59_p20 hk, fs_34_62, fs_34_63, fs_34_64, fs_34_65_p1 hk, fs_34_65_p20 hk, fs_34_68, fs_34_69_p6 hk, fs_34_69_p25 hk, fs_34_70, fs_34_71, fs_34_72, fs_34_75_p6 hk, fs_34_75_p25 hk, fs_34_76, Option.bind_some, Option.toList_some, Option.toList_none, List.cons_append, List.nil_append, fd_nb0, fd_nb1, fd_nbb, fd_b0, nI_add, pk_mul, ite_not, Classical.not_not, not_false_iff, not_true, and_self, or_true, true_or, ↓reduceIte, if_true, if_false, ite_self, fd_mI, fd_mH, fd_mL, fd_p0, fd_w0, fd_w1, fd_w2, fd_10, fd_00, fm_eatsT hk, e3, eE, e4, e5, e7, d1, d1', d2, d2', fm_changeWillT hk, x0, x1]
      · simp (disch := omega) only [fd_w0, fd_w1, fd_w2]; rw [if_neg c1, if_neg c2]; exact e7
      · simp (disch := omega) only [fd_w0, fd_w1, fd_w2]
      · simp (disch := omega) only [fd_w0, fd_w1, fd_w2]
      · simp only [fd_w]; (repeat' split) <;> first | rfl | (exfalso; omega)
end EAT
