/-! HOURS: eating, the reference's -/
section MEAT
variable {k : fd_Sk} {h g : fd_Hp} {fb bb dr b : Nat}
theorem fm_mEat (hk : fd_Sok k fb bb dr) {ns s B W E L M : Nat} {z : Option Value} (hs : s < 6) (hn : s < ns) (n6 : ns ≤ 6) (e0 : h.1 77 5 = nI ns) (e3 : h.1 79 s = nI M) (eE : fd_ea (nI M) = nI E) (hE : E ≤ 9) (e4 : h.1 82 s = nI B) (hB : B ≤ 9000) (e5 : h.1 82 (6 + s) = nI W) (hW : W ≤ 9000) (e7 : h.1 82 (12 + s) = nI L) (hL : L ≤ 100) : ∃ h', fd_E 140 2 [some (.ref (77)), some (.int (nI (s))), z] [] k h = fd_E 140 2 [some (.ref (77)), some (.int (nI (s + 1))), some (.int (nI (E)))] [] k h' ∧ h'.1 82 (12 + s) = nI (fd_eaW L B W E) ∧ h'.1 82 s = nI (B - E) ∧ h'.1 82 (6 + s) = nI (W - E) ∧ ∀ q j, ¬ (q = 82 ∧ (j = s ∨ j = 6 + s ∨ j = 12 + s)) → h'.1 q j = h.1 q j := by
  have hc : ¬ nI ns ≤ nI s := nI_ge (by omega) (by omega)
  have l3 := fd_mc3 L (by omega)
  have l5 := fd_mc5 L (by omega)
  have l8 := fd_mc5 (L - 3) (by omega)
  have l0 := fd_mc0 L (by omega)
  have l1 := fd_mc0 (L - 3) (by omega)
  unfold fd_eaW
  by_cases c1 : B < E
  · have d1 : nI B < nI E := nI_lt c1 (by omega)
    have d1' : ¬ nI E ≤ nI B := Int32.not_le.mpr d1
    by_cases c2 : W < E
    · have d2 : nI W < nI E := nI_lt c2 (by omega)
      have d2' : ¬ nI E ≤ nI W := Int32.not_le.mpr d2
      refine ⟨fd_w (fd_w (fd_w (fd_w h 82 (12 + s) (nI (L - 3))) 82 (12 + s) (nI ((L - 3) - 5))) 82 s (nI 0)) 82 (6 + s) (nI 0), ?_, ?_, ?_, ?_, fun q j n => ?_⟩
      · rw [fs_140_2]
        simp (disch := first | exact fd_nl_int | exact fd_nl_ref | exact fd_nl_none | assumption | exact nI_ne0 (by omega) (by omega) | exact fd_nb0 | exact fd_nb1 | exact fd_nbb | omega) only [fs_140_0, fs_140_1, fs_140_3, fs_140_4_p77 hk, fs_140_7, fs_140_10, fs_140_11, fs_140_12_p77 hk, fs_140_15, fs_140_16, fs_140_17, fs_140_18, fs_140_19, fs_140_20_p77 hk, fs_140_23, fs_140_24, fs_140_27, fs_140_29, fs_140_32, fs_140_33_p77 hk, fs_140_36, fs_140_37, fs_140_38, fs_140_39, fs_140_40_p77 hk, fs_140_43, fs_140_44, fs_140_47, fs_140_49, fs_140_52, fs_140_53_p77 hk, fs_140_56, fs_140_57_p77 hk, fs_140_60, fs_140_61, fs_140_62, fs_140_63_p77 hk, fs_140_66, fs_140_67, fs_140_70, fs_140_71, fs_140_74, fs_140_75, fs_140_76_p77 hk, fs_140_79, fs_140_80, fs_140_81_p82 hk, fs_140_82, fs_140_83_p77 hk, fs_140_86, fs_140_88, fs_140_89, fs_140_90, fs_140_91, fs_140_92_p77 hk, fs_140_95, fs_140_96, fs_140_99, fs_140_100, fs_140_103, fs_140_104, fs_140_105_p77 hk, fs_140_108, fs_140_109, fs_140_110_p82 hk, fs_140_111, fs_140_114, fs_140_117, Option.bind_some, Option.toList_some, Option.toList_none, List.cons_append, List.nil_append, fd_nb0, fd_nb1, fd_nbb, fd_b0, nI_add, pk_mul, ite_not, Classical.not_not, not_false_iff, not_true, and_self, or_true, true_or, ↓reduceIte, if_true, if_false, ite_self, fd_mI, fd_mH, fd_mL, fd_p0, fd_w0, fd_w1, fd_w2, fd_10, fd_00, hc, e0, fm_mEats hk, e3, eE, e4, e5, e7, d1, d1', d2, d2', fm_mBeef hk, fm_mWater hk, fm_addWill hk, fd_p0, l0, l1, l3, l5, l8]
      · simp (disch := omega) only [fd_w0, fd_w1, fd_w2]; rw [if_pos c1, if_pos c2]
      · simp (disch := omega) only [fd_w0, fd_w1, fd_w2]; exact congrArg nI (by omega)
      · simp (disch := omega) only [fd_w0, fd_w1, fd_w2]; exact congrArg nI (by omega)
      · simp only [fd_w]; (repeat' split) <;> first | rfl | (exfalso; omega)
    · have d2 : ¬ nI W < nI E := nI_nlt (by omega) (by omega)
      have d2' : nI E ≤ nI W := Int32.not_lt.mp d2
      have b2 : E ≤ W := by omega
      refine ⟨fd_w (fd_w (fd_w (fd_w h 82 (12 + s) (nI (L - 3))) 82 (12 + s) (nI (L - 3))) 82 s (nI 0)) 82 (6 + s) (nI (W - E)), ?_, ?_, ?_, ?_, fun q j n => ?_⟩
      · rw [fs_140_2]
        simp (disch := first | exact fd_nl_int | exact fd_nl_ref | exact fd_nl_none | assumption | exact nI_ne0 (by omega) (by omega) | exact fd_nb0 | exact fd_nb1 | exact fd_nbb | omega) only [fs_140_0, fs_140_1, fs_140_3, fs_140_4_p77 hk, fs_140_7, fs_140_10, fs_140_11, fs_140_12_p77 hk, fs_140_15, fs_140_16, fs_140_17, fs_140_18, fs_140_19, fs_140_20_p77 hk, fs_140_23, fs_140_24, fs_140_27, fs_140_29, fs_140_32, fs_140_33_p77 hk, fs_140_36, fs_140_37, fs_140_38, fs_140_39, fs_140_40_p77 hk, fs_140_43, fs_140_44, fs_140_47, fs_140_49, fs_140_52, fs_140_53_p77 hk, fs_140_56, fs_140_57_p77 hk, fs_140_60, fs_140_61, fs_140_62, fs_140_63_p77 hk, fs_140_66, fs_140_67, fs_140_70, fs_140_71, fs_140_74, fs_140_75, fs_140_76_p77 hk, fs_140_79, fs_140_80, fs_140_81_p82 hk, fs_140_82, fs_140_83_p77 hk, fs_140_86, fs_140_88, fs_140_89, fs_140_90, fs_140_91, fs_140_92_p77 hk, fs_140_95, fs_140_96, fs_140_99, fs_140_100, fs_140_103, fs_140_104, fs_140_105_p77 hk, fs_140_108, fs_140_109, fs_140_110_p82 hk, fs_140_111, fs_140_114, fs_140_117, Option.bind_some, Option.toList_some, Option.toList_none, List.cons_append, List.nil_append, fd_nb0, fd_nb1, fd_nbb, fd_b0, nI_add, pk_mul, ite_not, Classical.not_not, not_false_iff, not_true, and_self, or_true, true_or, ↓reduceIte, if_true, if_false, ite_self, fd_mI, fd_mH, fd_mL, fd_p0, fd_w0, fd_w1, fd_w2, fd_10, fd_00, hc, e0, fm_mEats hk, e3, eE, e4, e5, e7, d1, d1', d2, d2', fm_mBeef hk, fm_mWater hk, fm_addWill hk, fd_p0, l0, l1, l3, l5, l8, nI_sub b2]
      · simp (disch := omega) only [fd_w0, fd_w1, fd_w2]; rw [if_pos c1, if_neg c2]; rfl
      · simp (disch := omega) only [fd_w0, fd_w1, fd_w2]; exact congrArg nI (by omega)
      · simp (disch := omega) only [fd_w0, fd_w1, fd_w2]
      · simp only [fd_w]; (repeat' split) <;> first | rfl | (exfalso; omega)
  · have d1 : ¬ nI B < nI E := nI_nlt (by omega) (by omega)
    have d1' : nI E ≤ nI B := Int32.not_lt.mp d1
    have b1 : E ≤ B := by omega
    by_cases c2 : W < E
    · have d2 : nI W < nI E := nI_lt c2 (by omega)
      have d2' : ¬ nI E ≤ nI W := Int32.not_le.mpr d2
      refine ⟨fd_w (fd_w (fd_w (fd_w h 82 (12 + s) (nI (L))) 82 (12 + s) (nI (L - 5))) 82 s (nI (B - E))) 82 (6 + s) (nI 0), ?_, ?_, ?_, ?_, fun q j n => ?_⟩
      · rw [fs_140_2]
        simp (disch := first | exact fd_nl_int | exact fd_nl_ref | exact fd_nl_none | assumption | exact nI_ne0 (by omega) (by omega) | exact fd_nb0 | exact fd_nb1 | exact fd_nbb | omega) only [fs_140_0, fs_140_1, fs_140_3, fs_140_4_p77 hk, fs_140_7, fs_140_10, fs_140_11, fs_140_12_p77 hk, fs_140_15, fs_140_16, fs_140_17, fs_140_18, fs_140_19, fs_140_20_p77 hk, fs_140_23, fs_140_24, fs_140_27, fs_140_29, fs_140_32, fs_140_33_p77 hk, fs_140_36, fs_140_37, fs_140_38, fs_140_39, fs_140_40_p77 hk, fs_140_43, fs_140_44, fs_140_47, fs_140_49, fs_140_52, fs_140_53_p77 hk, fs_140_56, fs_140_57_p77 hk, fs_140_60, fs_140_61, fs_140_62, fs_140_63_p77 hk, fs_140_66, fs_140_67, fs_140_70, fs_140_71, fs_140_74, fs_140_75, fs_140_76_p77 hk, fs_140_79, fs_140_80, fs_140_81_p82 hk, fs_140_82, fs_140_83_p77 hk, fs_140_86, fs_140_88, fs_140_89, fs_140_90, fs_140_91, fs_140_92_p77 hk, fs_140_95, fs_140_96, fs_140_99, fs_140_100, fs_140_103, fs_140_104, fs_140_105_p77 hk, fs_140_108, fs_140_109, fs_140_110_p82 hk, fs_140_111, fs_140_114, fs_140_117, Option.bind_some, Option.toList_some, Option.toList_none, List.cons_append, List.nil_append, fd_nb0, fd_nb1, fd_nbb, fd_b0, nI_add, pk_mul, ite_not, Classical.not_not, not_false_iff, not_true, and_self, or_true, true_or, ↓reduceIte, if_true, if_false, ite_self, fd_mI, fd_mH, fd_mL, fd_p0, fd_w0, fd_w1, fd_w2, fd_10, fd_00, hc, e0, fm_mEats hk, e3, eE, e4, e5, e7, d1, d1', d2, d2', fm_mBeef hk, fm_mWater hk, fm_addWill hk, fd_p0, l0, l1, l3, l5, l8, nI_sub b1]
      · simp (disch := omega) only [fd_w0, fd_w1, fd_w2]; rw [if_neg c1, if_pos c2]
      · simp (disch := omega) only [fd_w0, fd_w1, fd_w2]
      · simp (disch := omega) only [fd_w0, fd_w1, fd_w2]; exact congrArg nI (by omega)
      · simp only [fd_w]; (repeat' split) <;> first | rfl | (exfalso; omega)
    · have d2 : ¬ nI W < nI E := nI_nlt (by omega) (by omega)
      have d2' : nI E ≤ nI W := Int32.not_lt.mp d2
      have b2 : E ≤ W := by omega
      refine ⟨fd_w (fd_w (fd_w (fd_w h 82 (12 + s) (nI (L))) 82 (12 + s) (nI (L))) 82 s (nI (B - E))) 82 (6 + s) (nI (W - E)), ?_, ?_, ?_, ?_, fun q j n => ?_⟩
      · rw [fs_140_2]
        simp (disch := first | exact fd_nl_int | exact fd_nl_ref | exact fd_nl_none | assumption | exact nI_ne0 (by omega) (by omega) | exact fd_nb0 | exact fd_nb1 | exact fd_nbb | omega) only [fs_140_0, fs_140_1, fs_140_3, fs_140_4_p77 hk, fs_140_7, fs_140_10, fs_140_11, fs_140_12_p77 hk, fs_140_15, fs_140_16, fs_140_17, fs_140_18, fs_140_19, fs_140_20_p77 hk, fs_140_23, fs_140_24, fs_140_27, fs_140_29, fs_140_32, fs_140_33_p77 hk, fs_140_36, fs_140_37, fs_140_38, fs_140_39, fs_140_40_p77 hk, fs_140_43, fs_140_44, fs_140_47, fs_140_49, fs_140_52, fs_140_53_p77 hk, fs_140_56, fs_140_57_p77 hk, fs_140_60, fs_140_61, fs_140_62, fs_140_63_p77 hk, fs_140_66, fs_140_67, fs_140_70, fs_140_71, fs_140_74, fs_140_75, fs_140_76_p77 hk, fs_140_79, fs_140_80, fs_140_81_p82 hk, fs_140_82, fs_140_83_p77 hk, fs_140_86, fs_140_88, fs_140_89, fs_140_90, fs_140_91, fs_140_92_p77 hk, fs_140_95, fs_140_96, fs_140_99, fs_140_100, fs_140_103, fs_140_104, fs_140_105_p77 hk, fs_140_108, fs_140_109, fs_140_110_p82 hk, fs_140_111, fs_140_114, fs_140_117, Option.bind_some, Option.toList_some, Option.toList_none, List.cons_append, List.nil_append, fd_nb0, fd_nb1, fd_nbb, fd_b0, nI_add, pk_mul, ite_not, Classical.not_not, not_false_iff, not_true, and_self, or_true, true_or, ↓reduceIte, if_true, if_false, ite_self, fd_mI, fd_mH, fd_mL, fd_p0, fd_w0, fd_w1, fd_w2, fd_10, fd_00, hc, e0, fm_mEats hk, e3, eE, e4, e5, e7, d1, d1', d2, d2', fm_mBeef hk, fm_mWater hk, fm_addWill hk, fd_p0, l0, l1, l3, l5, l8, nI_sub b1, nI_sub b2]
      · simp (disch := omega) only [fd_w0, fd_w1, fd_w2]; rw [if_neg c1, if_neg c2]; rfl
      · simp (disch := omega) only [fd_w0, fd_w1, fd_w2]
      · simp (disch := omega) only [fd_w0, fd_w1, fd_w2]
      · simp only [fd_w]; (repeat' split) <;> first | rfl | (exfalso; omega)
end MEAT
