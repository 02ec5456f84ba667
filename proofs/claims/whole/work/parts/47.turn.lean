/-! HOURS: the turns of the loops in which ships see each other -/
section TURN
variable {k : fd_Sk} {h g : fd_Hp} {fb bb dr b : Nat}
theorem fd_nm1 {n : Nat} (hn : n < 2 ^ 31) : ¬ nI n = -1 := fun z => by
  have e := congrArg Int32.toInt z
  rw [nI_toInt hn, show (-1 : Int32).toInt = -1 by decide] at e
  omega
theorem fd_farc0 : ∀ a, a < 64 → ∀ b, b < 64 → fd_far (nI a) (nI b) = fd_far (nI b) (nI a) := by decide +kernel
/-- 0: no fog in hour t -/
def fd_fog (f : Int32) (t : Nat) : Int32 := (f >>> ((nI t - nI t / nI 24 * nI 24) &&& 31)) &&& nI 1
theorem fm_mSee (hk : fd_Sok k fb bb dr) {s o V L t ns : Nat} (hs : s < 6) (ho : o < ns) (n6 : ns ≤ 6) (hV : V ≤ 3) (e1 : h.1 77 5 = nI ns) (ef : fd_fog (h.1 77 4) t = 0) (hne : ¬ o = s) (hfar : ¬ h.1 77 1 < fd_far (h.1 78 s) (h.1 78 o)) (e7 : h.1 82 (12 + o) = nI L) (hL : L ≤ 100) : fd_E 143 35 [some (.ref (77)), some (.int (nI (t))), some (.int (nI (s))), some (.int (nI (V))), some (.int (nI (o)))] [] k h = fd_E 143 35 [some (.ref (77)), some (.int (nI (t))), some (.int (nI (s))), some (.int (nI (V))), some (.int (nI (o + 1)))] [] k (fd_w (fd_w h 82 (12 + o) (nI (fd_seW L V (h.1 87 (6 * o + s))))) 87 (6 * o + s) (nI V)) := by
  have hc : ¬ nI ns ≤ nI o := nI_ge (by omega) (by omega)
  have hm : (nI V = -1) = False := eq_false (fd_nm1 (by omega))
  have hn : (nI o = nI s) = False := eq_false (fun z => hne (fd_nIj (by omega) (by omega) z))
  have w10 := fd_mc10 L (by omega)
  have w4 := fd_mc4 L (by omega)
  have w0 := fd_mc0 L (by omega)
  have x32 : (nI 3 = nI 2) = False := eq_false (by decide)
  have x23 : (nI 2 = nI 3) = False := eq_false (by decide)
  unfold fd_fog at ef
  by_cases c : V = 3 ∧ ¬ h.1 87 (6 * o + s) = nI 3
  · have q : fd_seW L V (h.1 87 (6 * o + s)) = L - 10 := by unfold fd_seW; rw [if_pos c]
    obtain ⟨rfl, c2⟩ := c
    rw [q, fs_143_35]
    simp (disch := first | exact fd_nl_int | exact fd_nl_ref | exact fd_nl_none | assumption | exact nI_ne0 (by omega) (by omega) | exact fd_nb0 | exact fd_nb1 | exact fd_nbb | omega) only [fs_143_0, fs_143_1, fs_143_2, fs_143_3, fs_143_4_p77 hk, fs_143_7, fs_143_10, fs_143_11, fs_143_12_p77 hk, fs_143_15, fs_143_18, fs_143_19, fs_143_22, fs_143_23_p77 hk, fs_143_26, fs_143_28, fs_143_29, fs_143_30_p82 hk, fs_143_31, fs_143_32, fs_143_33, fs_143_37, fs_143_38_p77 hk, fs_143_41, fs_143_44, fs_143_45, fs_143_46, fs_143_49, fs_143_50_p77 hk, fs_143_53, fs_143_54, fs_143_56, fs_143_57, fs_143_58, fs_143_59, fs_143_60, fs_143_63, fs_143_65, fs_143_66, fs_143_69, fs_143_70_p77 hk, fs_143_73, fs_143_74_p78 hk, fs_143_75, fs_143_76_p77 hk, fs_143_79, fs_143_81_p78 hk, fs_143_82, fs_143_85, fs_143_86_p77 hk, fs_143_89, fs_143_92, fs_143_93, fs_143_95, fs_143_96, fs_143_97, fs_143_100, fs_143_101, fs_143_104, fs_143_105, fs_143_106, fs_143_109, fs_143_110_p77 hk, fs_143_113, fs_143_115, fs_143_117, fs_143_118, fs_143_119, fs_143_120_p87 hk, fs_143_121, fs_143_122, fs_143_125, fs_143_127, fs_143_130, fs_143_131_p77 hk, fs_143_134, fs_143_135_p77 hk, fs_143_138, fs_143_140, fs_143_142, fs_143_143, fs_143_144, fs_143_145, fs_143_146_p87 hk, fs_143_147, fs_143_150, fs_143_153, fs_143_156, fs_143_159, fs_143_160, fs_143_161, fs_143_162, fs_143_163_p77 hk, fs_143_166, fs_143_169, fs_143_170_p77 hk, fs_143_173, fs_143_175, fs_143_176, fs_143_177, fs_143_178_p82 hk, fs_143_179, fs_143_182, fs_143_185, Option.bind_some, Option.toList_some, Option.toList_none, List.cons_append, List.nil_append, fd_nb0, fd_nb1, fd_nbb, fd_b0, nI_add, pk_mul, ite_not, Classical.not_not, not_false_iff, not_true, and_self, or_true, true_or, ↓reduceIte, if_true, if_false, ite_self, fd_mI, fd_mH, fd_mL, fd_p0, fd_w0, fd_w1, fd_w2, fd_10, fd_00, hc, hm, hn, ef, e1, fm_mFar, hfar, x32, c2, fm_addWill hk, e7, w10]
  · by_cases c3 : V = 2
    · have q : fd_seW L V (h.1 87 (6 * o + s)) = min (L + 4) 100 := by unfold fd_seW; rw [if_neg c, if_pos c3]
      subst c3
      rw [q, fs_143_35]
      simp (disch := first | exact fd_nl_int | exact fd_nl_ref | exact fd_nl_none | assumption | exact nI_ne0 (by omega) (by omega) | exact fd_nb0 | exact fd_nb1 | exact fd_nbb | omega) only [fs_143_0, fs_143_1, fs_143_2, fs_143_3, fs_143_4_p77 hk, fs_143_7, fs_143_10, fs_143_11, fs_143_12_p77 hk, fs_143_15, fs_143_18, fs_143_19, fs_143_22, fs_143_23_p77 hk, fs_143_26, fs_143_28, fs_143_29, fs_143_30_p82 hk, fs_143_31, fs_143_32, fs_143_33, fs_143_37, fs_143_38_p77 hk, fs_143_41, fs_143_44, fs_143_45, fs_143_46, fs_143_49, fs_143_50_p77 hk, fs_143_53, fs_143_54, fs_143_56, fs_143_57, fs_143_58, fs_143_59, fs_143_60, fs_143_63, fs_143_65, fs_143_66, fs_143_69, fs_143_70_p77 hk, fs_143_73, fs_143_74_p78 hk, fs_143_75, fs_143_76_p77 hk, fs_143_79, fs_143_81_p78 hk, fs_143_82, fs_143_85, fs_143_86_p77 hk, fs_143_89, fs_143_92, fs_143_93, fs_143_95, fs_143_96, fs_143_97, fs_143_100, fs_143_101, fs_143_104, fs_143_105, fs_143_106, fs_143_109, fs_143_110_p77 hk, fs_143_113, fs_143_115, fs_143_117, fs_143_118, fs_143_119, fs_143_120_p87 hk, fs_143_121, fs_143_122, fs_143_125, fs_143_127, fs_143_130, fs_143_131_p77 hk, fs_143_134, fs_143_135_p77 hk, fs_143_138, fs_143_140, fs_143_142, fs_143_143, fs_143_144, fs_143_145, fs_143_146_p87 hk, fs_143_147, fs_143_150, fs_143_153, fs_143_156, fs_143_159, fs_143_160, fs_143_161, fs_143_162, fs_143_163_p77 hk, fs_143_166, fs_143_169, fs_143_170_p77 hk, fs_143_173, fs_143_175, fs_143_176, fs_143_177, fs_143_178_p82 hk, fs_143_179, fs_143_182, fs_143_185, Option.bind_some, Option.toList_some, Option.toList_none, List.cons_append, List.nil_append, fd_nb0, fd_nb1, fd_nbb, fd_b0, nI_add, pk_mul, ite_not, Classical.not_not, not_false_iff, not_true, and_self, or_true, true_or, ↓reduceIte, if_true, if_false, ite_self, fd_mI, fd_mH, fd_mL, fd_p0, fd_w0, fd_w1, fd_w2, fd_10, fd_00, hc, hm, hn, ef, e1, fm_mFar, hfar, fm_addWill hk, e7, w4]
    · have q : fd_seW L V (h.1 87 (6 * o + s)) = L := by unfold fd_seW; rw [if_neg c, if_neg c3]
      have y2 : (nI V = nI 2) = False := eq_false (fun z => c3 (fd_nIj (by omega) (by omega) z))
      by_cases c4 : V = 3
      · subst c4
        have c5 : h.1 87 (6 * o + s) = nI 3 := Classical.byContradiction fun z => c ⟨rfl, z⟩
        rw [q, fs_143_35]
        simp (disch := first | exact fd_nl_int | exact fd_nl_ref | exact fd_nl_none | assumption | exact nI_ne0 (by omega) (by omega) | exact fd_nb0 | exact fd_nb1 | exact fd_nbb | omega) only [fs_143_0, fs_143_1, fs_143_2, fs_143_3, fs_143_4_p77 hk, fs_143_7, fs_143_10, fs_143_11, fs_143_12_p77 hk, fs_143_15, fs_143_18, fs_143_19, fs_143_22, fs_143_23_p77 hk, fs_143_26, fs_143_28, fs_143_29, fs_143_30_p82 hk, fs_143_31, fs_143_32, fs_143_33, fs_143_37, fs_143_38_p77 hk, fs_143_41, fs_143_44, fs_143_45, fs_143_46, fs_143_49, fs_143_50_p77 hk, fs_143_53, fs_143_54, fs_143_56, fs_143_57, fs_143_58, fs_143_59, fs_143_60, fs_143_63, fs_143_65, fs_143_66, fs_143_69, fs_143_70_p77 hk, fs_143_73, fs_143_74_p78 hk, fs_143_75, fs_143_76_p77 hk, fs_143_79, fs_143_81_p78 hk, fs_143_82, fs_143_85, fs_143_86_p77 hk, fs_143_89, fs_143_92, fs_143_93, fs_143_95, fs_143_96, fs_143_97, fs_143_100, fs_143_101, fs_143_104, fs_143_105, fs_143_106, fs_143_109, fs_143_110_p77 hk, fs_143_113, fs_143_115, fs_143_117, fs_143_118, fs_143_119, fs_143_120_p87 hk, fs_143_121, fs_143_122, fs_143_125, fs_143_127, fs_143_130, fs_143_131_p77 hk, fs_143_134, fs_143_135_p77 hk, fs_143_138, fs_143_140, fs_143_142, fs_143_143, fs_143_144, fs_143_145, fs_143_146_p87 hk, fs_143_147, fs_143_150, fs_143_153, fs_143_156, fs_143_159, fs_143_160, fs_143_161, fs_143_162, fs_143_163_p77 hk, fs_143_166, fs_143_169, fs_143_170_p77 hk, fs_143_173, fs_143_175, fs_143_176, fs_143_177, fs_143_178_p82 hk, fs_143_179, fs_143_182, fs_143_185, Option.bind_some, Option.toList_some, Option.toList_none, List.cons_append, List.nil_append, fd_nb0, fd_nb1, fd_nbb, fd_b0, nI_add, pk_mul, ite_not, Classical.not_not, not_false_iff, not_true, and_self, or_true, true_or, ↓reduceIte, if_true, if_false, ite_self, fd_mI, fd_mH, fd_mL, fd_p0, fd_w0, fd_w1, fd_w2, fd_10, fd_00, hc, hm, hn, ef, e1, fm_mFar, hfar, y2, c5, fm_addWill hk, e7, fd_p0, w0]
      · have y3 : (nI V = nI 3) = False := eq_false (fun z => c4 (fd_nIj (by omega) (by omega) z))
        rw [q, fs_143_35]
        simp (disch := first | exact fd_nl_int | exact fd_nl_ref | exact fd_nl_none | assumption | exact nI_ne0 (by omega) (by omega) | exact fd_nb0 | exact fd_nb1 | exact fd_nbb | omega) only [fs_143_0, fs_143_1, fs_143_2, fs_143_3, fs_143_4_p77 hk, fs_143_7, fs_143_10, fs_143_11, fs_143_12_p77 hk, fs_143_15, fs_143_18, fs_143_19, fs_143_22, fs_143_23_p77 hk, fs_143_26, fs_143_28, fs_143_29, fs_143_30_p82 hk, fs_143_31, fs_143_32, fs_143_33, fs_143_37, fs_143_38_p77 hk, fs_143_41, fs_143_44, fs_143_45, fs_143_46, fs_143_49, fs_143_50_p77 hk, fs_143_53, fs_143_54, fs_143_56, fs_143_57, fs_143_58, fs_143_59, fs_143_60, fs_143_63, fs_143_65, fs_143_66, fs_143_69, fs_143_70_p77 hk, fs_143_73, fs_143_74_p78 hk, fs_143_75, fs_143_76_p77 hk, fs_143_79, fs_143_81_p78 hk, fs_143_82, fs_143_85, fs_143_86_p77 hk, fs_143_89, fs_143_92, fs_143_93, fs_143_95, fs_143_96, fs_143_97, fs_143_100, fs_143_101, fs_143_104, fs_143_105, fs_143_106, fs_143_109, fs_143_110_p77 hk, fs_143_113, fs_143_115, fs_143_117, fs_143_118, fs_143_119, fs_143_120_p87 hk, fs_143_121, fs_143_122, fs_143_125, fs_143_127, fs_143_130, fs_143_131_p77 hk, fs_143_134, fs_143_135_p77 hk, fs_143_138, fs_143_140, fs_143_142, fs_143_143, fs_143_144, fs_143_145, fs_143_146_p87 hk, fs_143_147, fs_143_150, fs_143_153, fs_143_156, fs_143_159, fs_143_160, fs_143_161, fs_143_162, fs_143_163_p77 hk, fs_143_166, fs_143_169, fs_143_170_p77 hk, fs_143_173, fs_143_175, fs_143_176, fs_143_177, fs_143_178_p82 hk, fs_143_179, fs_143_182, fs_143_185, Option.bind_some, Option.toList_some, Option.toList_none, List.cons_append, List.nil_append, fd_nb0, fd_nb1, fd_nbb, fd_b0, nI_add, pk_mul, ite_not, Classical.not_not, not_false_iff, not_true, and_self, or_true, true_or, ↓reduceIte, if_true, if_false, ite_self, fd_mI, fd_mH, fd_mL, fd_p0, fd_w0, fd_w1, fd_w2, fd_10, fd_00, hc, hm, hn, ef, e1, fm_mFar, hfar, y2, y3, fm_addWill hk, e7, fd_p0, w0]
theorem fd_see2 (hk : fd_Sok k fb bb dr) {ns np nb t s o V : Nat} (F : fd_Fl 1 h g ns np nb t) (hs : s < ns) (ho : o < ns) (hV : V ≤ 3) (ef : fd_fog (g.1 77 4) t = 0) : ∃ h' g', fd_E 37 51 [some (.ref (1)), some (.int (nI (s))), some (.int (nI (V))), some (.int (nI (o)))] [] k h = fd_E 37 51 [some (.ref (1)), some (.int (nI (s))), some (.int (nI (V))), some (.int (nI (o + 1)))] [] k h' ∧ fd_E 143 35 [some (.ref (77)), some (.int (nI (t))), some (.int (nI (s))), some (.int (nI (V))), some (.int (nI (o)))] [] k g = fd_E 143 35 [some (.ref (77)), some (.int (nI (t))), some (.int (nI (s))), some (.int (nI (V))), some (.int (nI (o + 1)))] [] k g' ∧ fd_Fl 1 h' g' ns np nb t ∧ (∀ q, ¬ q = 8 → ¬ q = 11 → h'.1 q = h.1 q) ∧ (∀ q, ¬ q = 82 → ¬ q = 87 → g'.1 q = g.1 q) := by
  have F0 := F
  simp only [fd_Fl, Nat.reduceAdd] at F0
  obtain ⟨⟨b1, b2, b3, b4⟩, ⟨f1, f2, f3, f4, f5, f6, f7⟩, ⟨g1, g2, g3, g4⟩, S, O, T⟩ := F0
  have hc : ¬ nI ns ≤ nI o := nI_ge (by omega) (by omega)
  have hm : (nI V = -1) = False := eq_false (fd_nm1 (by omega))
  have Qs := S s hs
  have Qo := S o ho
  simp only [fd_S1, Nat.reduceAdd] at Qs Qo
  obtain ⟨⟨cs, _, cs2, cs3, cs4⟩, _⟩ := Qs
  obtain ⟨⟨co, _, co2, co3, co4⟩, p2, p3, p4, p5, ⟨L, _, L2, L3, L4⟩, p7, p8, p9, p10⟩ := Qo
  have g1' := g1
  obtain ⟨I, _, I2, I3, I4⟩ := g1'
  have fr := fd_farc0 cs (by omega) co (by omega)
  by_cases c1 : o = s
  · subst c1
    have ef2 := ef
    unfold fd_fog at ef2
    refine ⟨h, g, ?_, ?_, F, fun _ _ _ => rfl, fun _ _ _ => rfl⟩
    · rw [fs_37_51]
      simp (disch := first | exact fd_nl_int | exact fd_nl_ref | exact fd_nl_none | assumption | exact nI_ne0 (by omega) (by omega) | exact fd_nb0 | exact fd_nb1 | exact fd_nbb | omega) only [fs_37_0, fs_37_1_p1 hk, fs_37_1_p20 hk, fs_37_4, fs_37_5_p2 hk, fs_37_5_p21 hk, fs_37_6, fs_37_7_p1 hk, fs_37_7_p20 hk, fs_37_10, fs_37_12, fs_37_13, fs_37_16, fs_37_19, fs_37_20, fs_37_21, fs_37_22, fs_37_23, fs_37_24_p1 hk, fs_37_24_p20 hk, fs_37_27, fs_37_30, fs_37_31, fs_37_32_p1 hk, fs_37_32_p20 hk, fs_37_35, fs_37_38, fs_37_39, fs_37_42, fs_37_43_p1 hk, fs_37_43_p20 hk, fs_37_46, fs_37_47_p10 hk, fs_37_47_p29 hk, fs_37_48, fs_37_49, fs_37_50, fs_37_52, fs_37_53, fs_37_56, fs_37_57, fs_37_58_p1 hk, fs_37_58_p20 hk, fs_37_61, fs_37_64, fs_37_65, fs_37_66, fs_37_69, fs_37_70_p1 hk, fs_37_70_p20 hk, fs_37_73, fs_37_74_p3 hk, fs_37_74_p22 hk, fs_37_75, fs_37_76_p1 hk, fs_37_76_p20 hk, fs_37_79, fs_37_80_p3 hk, fs_37_80_p22 hk, fs_37_81, fs_37_84, fs_37_85_p1 hk, fs_37_85_p20 hk, fs_37_88, fs_37_89_p2 hk, fs_37_89_p21 hk, fs_37_90, fs_37_93, fs_37_94, fs_37_95, fs_37_96, fs_37_97_p1 hk, fs_37_97_p20 hk, fs_37_100, fs_37_103, fs_37_106, fs_37_109, fs_37_112, Option.bind_some, Option.toList_some, Option.toList_none, List.cons_append, List.nil_append, fd_nb0, fd_nb1, fd_nbb, fd_b0, nI_add, pk_mul, ite_not, Classical.not_not, not_false_iff, not_true, and_self, or_true, true_or, ↓reduceIte, if_true, if_false, ite_self, fd_mI, fd_mH, fd_mL, fd_p0, fd_w0, fd_w1, fd_w2, fd_10, fd_00, hc, f2, hm]
    · rw [fs_143_35]
      simp (disch := first | exact fd_nl_int | exact fd_nl_ref | exact fd_nl_none | assumption | exact nI_ne0 (by omega) (by omega) | exact fd_nb0 | exact fd_nb1 | exact fd_nbb | omega) only [fs_143_0, fs_143_1, fs_143_2, fs_143_3, fs_143_4_p77 hk, fs_143_7, fs_143_10, fs_143_11, fs_143_12_p77 hk, fs_143_15, fs_143_18, fs_143_19, fs_143_22, fs_143_23_p77 hk, fs_143_26, fs_143_28, fs_143_29, fs_143_30_p82 hk, fs_143_31, fs_143_32, fs_143_33, fs_143_37, fs_143_38_p77 hk, fs_143_41, fs_143_44, fs_143_45, fs_143_46, fs_143_49, fs_143_50_p77 hk, fs_143_53, fs_143_54, fs_143_56, fs_143_57, fs_143_58, fs_143_59, fs_143_60, fs_143_63, fs_143_65, fs_143_66, fs_143_69, fs_143_70_p77 hk, fs_143_73, fs_143_74_p78 hk, fs_143_75, fs_143_76_p77 hk, fs_143_79, fs_143_81_p78 hk, fs_143_82, fs_143_85, fs_143_86_p77 hk, fs_143_89, fs_143_92, fs_143_93, fs_143_95, fs_143_96, fs_143_97, fs_143_100, fs_143_101, fs_143_104, fs_143_105, fs_143_106, fs_143_109, fs_143_110_p77 hk, fs_143_113, fs_143_115, fs_143_117, fs_143_118, fs_143_119, fs_143_120_p87 hk, fs_143_121, fs_143_122, fs_143_125, fs_143_127, fs_143_130, fs_143_131_p77 hk, fs_143_134, fs_143_135_p77 hk, fs_143_138, fs_143_140, fs_143_142, fs_143_143, fs_143_144, fs_143_145, fs_143_146_p87 hk, fs_143_147, fs_143_150, fs_143_153, fs_143_156, fs_143_159, fs_143_160, fs_143_161, fs_143_162, fs_143_163_p77 hk, fs_143_166, fs_143_169, fs_143_170_p77 hk, fs_143_173, fs_143_175, fs_143_176, fs_143_177, fs_143_178_p82 hk, fs_143_179, fs_143_182, fs_143_185, Option.bind_some, Option.toList_some, Option.toList_none, List.cons_append, List.nil_append, fd_nb0, fd_nb1, fd_nbb, fd_b0, nI_add, pk_mul, ite_not, Classical.not_not, not_false_iff, not_true, and_self, or_true, true_or, ↓reduceIte, if_true, if_false, ite_self, fd_mI, fd_mH, fd_mL, fd_p0, fd_w0, fd_w1, fd_w2, fd_10, fd_00, hc, f3, hm, ef2]
  · have c1' : (nI o = nI s) = False := eq_false (fun z => c1 (fd_nIj (by omega) (by omega) z))
    by_cases c2 : nI I < fd_far (nI cs) (nI co)
    · have ef2 := ef
      unfold fd_fog at ef2
      refine ⟨h, g, ?_, ?_, F, fun _ _ _ => rfl, fun _ _ _ => rfl⟩
      · have c2' : nI I < fd_far (nI co) (nI cs) := by rw [← fr]; exact c2
        rw [fs_37_51]
        simp (disch := first | exact fd_nl_int | exact fd_nl_ref | exact fd_nl_none | assumption | exact nI_ne0 (by omega) (by omega) | exact fd_nb0 | exact fd_nb1 | exact fd_nbb | omega) only [fs_37_0, fs_37_1_p1 hk, fs_37_1_p20 hk, fs_37_4, fs_37_5_p2 hk, fs_37_5_p21 hk, fs_37_6, fs_37_7_p1 hk, fs_37_7_p20 hk, fs_37_10, fs_37_12, fs_37_13, fs_37_16, fs_37_19, fs_37_20, fs_37_21, fs_37_22, fs_37_23, fs_37_24_p1 hk, fs_37_24_p20 hk, fs_37_27, fs_37_30, fs_37_31, fs_37_32_p1 hk, fs_37_32_p20 hk, fs_37_35, fs_37_38, fs_37_39, fs_37_42, fs_37_43_p1 hk, fs_37_43_p20 hk, fs_37_46, fs_37_47_p10 hk, fs_37_47_p29 hk, fs_37_48, fs_37_49, fs_37_50, fs_37_52, fs_37_53, fs_37_56, fs_37_57, fs_37_58_p1 hk, fs_37_58_p20 hk, fs_37_61, fs_37_64, fs_37_65, fs_37_66, fs_37_69, fs_37_70_p1 hk, fs_37_70_p20 hk, fs_37_73, fs_37_74_p3 hk, fs_37_74_p22 hk, fs_37_75, fs_37_76_p1 hk, fs_37_76_p20 hk, fs_37_79, fs_37_80_p3 hk, fs_37_80_p22 hk, fs_37_81, fs_37_84, fs_37_85_p1 hk, fs_37_85_p20 hk, fs_37_88, fs_37_89_p2 hk, fs_37_89_p21 hk, fs_37_90, fs_37_93, fs_37_94, fs_37_95, fs_37_96, fs_37_97_p1 hk, fs_37_97_p20 hk, fs_37_100, fs_37_103, fs_37_106, fs_37_109, fs_37_112, Option.bind_some, Option.toList_some, Option.toList_none, List.cons_append, List.nil_append, fd_nb0, fd_nb1, fd_nbb, fd_b0, nI_add, pk_mul, ite_not, Classical.not_not, not_false_iff, not_true, and_self, or_true, true_or, ↓reduceIte, if_true, if_false, ite_self, fd_mI, fd_mH, fd_mL, fd_p0, fd_w0, fd_w1, fd_w2, fd_10, fd_00, hc, f2, hm, c1', fm_far, I3, co3, cs3, c2']
      · rw [fs_143_35]
        simp (disch := first | exact fd_nl_int | exact fd_nl_ref | exact fd_nl_none | assumption | exact nI_ne0 (by omega) (by omega) | exact fd_nb0 | exact fd_nb1 | exact fd_nbb | omega) only [fs_143_0, fs_143_1, fs_143_2, fs_143_3, fs_143_4_p77 hk, fs_143_7, fs_143_10, fs_143_11, fs_143_12_p77 hk, fs_143_15, fs_143_18, fs_143_19, fs_143_22, fs_143_23_p77 hk, fs_143_26, fs_143_28, fs_143_29, fs_143_30_p82 hk, fs_143_31, fs_143_32, fs_143_33, fs_143_37, fs_143_38_p77 hk, fs_143_41, fs_143_44, fs_143_45, fs_143_46, fs_143_49, fs_143_50_p77 hk, fs_143_53, fs_143_54, fs_143_56, fs_143_57, fs_143_58, fs_143_59, fs_143_60, fs_143_63, fs_143_65, fs_143_66, fs_143_69, fs_143_70_p77 hk, fs_143_73, fs_143_74_p78 hk, fs_143_75, fs_143_76_p77 hk, fs_143_79, fs_143_81_p78 hk, fs_143_82, fs_143_85, fs_143_86_p77 hk, fs_143_89, fs_143_92, fs_143_93, fs_143_95, fs_143_96, fs_143_97, fs_143_100, fs_143_101, fs_143_104, fs_143_105, fs_143_106, fs_143_109, fs_143_110_p77 hk, fs_143_113, fs_143_115, fs_143_117, fs_143_118, fs_143_119, fs_143_120_p87 hk, fs_143_121, fs_143_122, fs_143_125, fs_143_127, fs_143_130, fs_143_131_p77 hk, fs_143_134, fs_143_135_p77 hk, fs_143_138, fs_143_140, fs_143_142, fs_143_143, fs_143_144, fs_143_145, fs_143_146_p87 hk, fs_143_147, fs_143_150, fs_143_153, fs_143_156, fs_143_159, fs_143_160, fs_143_161, fs_143_162, fs_143_163_p77 hk, fs_143_166, fs_143_169, fs_143_170_p77 hk, fs_143_173, fs_143_175, fs_143_176, fs_143_177, fs_143_178_p82 hk, fs_143_179, fs_143_182, fs_143_185, Option.bind_some, Option.toList_some, Option.toList_none, List.cons_append, List.nil_append, fd_nb0, fd_nb1, fd_nbb, fd_b0, nI_add, pk_mul, ite_not, Classical.not_not, not_false_iff, not_true, and_self, or_true, true_or, ↓reduceIte, if_true, if_false, ite_self, fd_mI, fd_mH, fd_mL, fd_p0, fd_w0, fd_w1, fd_w2, fd_10, fd_00, hc, f3, hm, ef2, c1', fm_mFar, I4, co4, cs4, c2]
    · obtain ⟨h', r1, r2, r3, r4⟩ := fm_see (h := h) hk (show o < 6 by omega) (show s < 6 by omega) hV L3 L2
      have e10 := (p10 s (by omega)).1
      have ch : ∀ q, ¬ q = 8 → ¬ q = 11 → h'.1 q = h.1 q := fun q q1 q2 => funext fun j => r4 q j (fun y => q1 y.1) (fun y => q2 y.1)
      have mh : ∀ q, ¬ q = 82 → ¬ q = 87 → (fd_w (fd_w g 82 (12 + o) (nI (fd_seW L V (g.1 87 (6 * o + s))))) 87 (6 * o + s) (nI V)).1 q = g.1 q := fun q q1 q2 => by rw [fd_wp q2, fd_wp q1]
      have hw : fd_seW L V (g.1 87 (6 * o + s)) ≤ 100 := by
        unfold fd_seW
        (repeat' split) <;> omega
      rw [e10] at r2
      refine ⟨h', fd_w (fd_w g 82 (12 + o) (nI (fd_seW L V (g.1 87 (6 * o + s))))) 87 (6 * o + s) (nI V), ?_, ?_, ?_, ch, mh⟩
      · have c2' : ¬ nI I < fd_far (nI co) (nI cs) := by rw [← fr]; exact c2
        rw [fs_37_51]
        simp (disch := first | exact fd_nl_int | exact fd_nl_ref | exact fd_nl_none | assumption | exact nI_ne0 (by omega) (by omega) | exact fd_nb0 | exact fd_nb1 | exact fd_nbb | omega) only [fs_37_0, fs_37_1_p1 hk, fs_37_1_p20 hk, fs_37_4, fs_37_5_p2 hk, fs_37_5_p21 hk, fs_37_6, fs_37_7_p1 hk, fs_37_7_p20 hk, fs_37_10, fs_37_12, fs_37_13, fs_37_16, fs_37_19, fs_37_20, fs_37_21, fs_37_22, fs_37_23, fs_37_24_p1 hk, fs_37_24_p20 hk, fs_37_27, fs_37_30, fs_37_31, fs_37_32_p1 hk, fs_37_32_p20 hk, fs_37_35, fs_37_38, fs_37_39, fs_37_42, fs_37_43_p1 hk, fs_37_43_p20 hk, fs_37_46, fs_37_47_p10 hk, fs_37_47_p29 hk, fs_37_48, fs_37_49, fs_37_50, fs_37_52, fs_37_53, fs_37_56, fs_37_57, fs_37_58_p1 hk, fs_37_58_p20 hk, fs_37_61, fs_37_64, fs_37_65, fs_37_66, fs_37_69, fs_37_70_p1 hk, fs_37_70_p20 hk, fs_37_73, fs_37_74_p3 hk, fs_37_74_p22 hk, fs_37_75, fs_37_76_p1 hk, fs_37_76_p20 hk, fs_37_79, fs_37_80_p3 hk, fs_37_80_p22 hk, fs_37_81, fs_37_84, fs_37_85_p1 hk, fs_37_85_p20 hk, fs_37_88, fs_37_89_p2 hk, fs_37_89_p21 hk, fs_37_90, fs_37_93, fs_37_94, fs_37_95, fs_37_96, fs_37_97_p1 hk, fs_37_97_p20 hk, fs_37_100, fs_37_103, fs_37_106, fs_37_109, fs_37_112, Option.bind_some, Option.toList_some, Option.toList_none, List.cons_append, List.nil_append, fd_nb0, fd_nb1, fd_nbb, fd_b0, nI_add, pk_mul, ite_not, Classical.not_not, not_false_iff, not_true, and_self, or_true, true_or, ↓reduceIte, if_true, if_false, ite_self, fd_mI, fd_mH, fd_mL, fd_p0, fd_w0, fd_w1, fd_w2, fd_10, fd_00, hc, f2, hm, c1', fm_far, I3, co3, cs3, c2', r1]
      · exact fm_mSee hk (by omega) ho b1 hV f3 ef c1 (by rw [I4, cs4, co4]; exact c2) L4 L2
      · generalize fd_seW L V (g.1 87 (6 * o + s)) = W at r2 hw mh
        simp (disch := omega) only [fd_Fl, Nat.reduceAdd, ch, fd_wp]
        refine ⟨⟨b1, b2, b3, b4⟩, ⟨f1, f2, f3, f4, f5, f6, f7⟩, ⟨g1, g2, g3, g4⟩, fun s' hs' => ?_, O, fun i hi => ?_⟩
        · have q' := S s' hs'
          simp only [fd_S1, Nat.reduceAdd] at q' ⊢
          simp (disch := omega) only [ch, fd_wp, fd_w2]
          obtain ⟨u1, u2, u3, u4, u5, u6, u7, u8, u9, u10⟩ := q'
          refine ⟨u1, u2, u3, u4, u5, ?_, u7, u8, u9, fun o' ho' => ?_⟩
          · by_cases y : s' = o
            · subst y
              rw [r2, fd_w0]
              exact fd_bdr (by omega) hw
            · rw [r4 8 s' (by omega) (by omega), fd_w2 (by omega)]
              exact u6
          · have v := u10 o' ho'
            refine ⟨?_, v.2⟩
            by_cases y : s' = o ∧ o' = s
            · obtain ⟨y1, y2⟩ := y
              subst y1; subst y2
              rw [r3, fd_w0]
            · rw [r4 11 _ (by omega) (by omega), fd_w2 (by omega), fd_wp (by decide)]
              exact v.1
        · have q' := T i hi
          simp only [fd_B1, Nat.reduceAdd] at q' ⊢
          simp (disch := omega) only [ch, fd_wp]
          exact q'
theorem fd_see2T (hk : fd_Sok k fb bb dr) {ns np nb t s o V : Nat} (F : fd_Fl 20 h g ns np nb t) (hs : s < ns) (ho : o < ns) (hV : V ≤ 3) (ef : fd_fog (g.1 77 4) t = 0) : ∃ h' g', fd_E 37 51 [some (.ref (20)), some (.int (nI (s))), some (.int (nI (V))), some (.int (nI (o)))] [] k h = fd_E 37 51 [some (.ref (20)), some (.int (nI (s))), some (.int (nI (V))), some (.int (nI (o + 1)))] [] k h' ∧ fd_E 143 35 [some (.ref (77)), some (.int (nI (t))), some (.int (nI (s))), some (.int (nI (V))), some (.int (nI (o)))] [] k g = fd_E 143 35 [some (.ref (77)), some (.int (nI (t))), some (.int (nI (s))), some (.int (nI (V))), some (.int (nI (o + 1)))] [] k g' ∧ fd_Fl 20 h' g' ns np nb t ∧ (∀ q, ¬ q = 27 → ¬ q = 30 → h'.1 q = h.1 q) ∧ (∀ q, ¬ q = 82 → ¬ q = 87 → g'.1 q = g.1 q) := by
  have F0 := F
  simp only [fd_Fl, Nat.reduceAdd] at F0
  obtain ⟨⟨b1, b2, b3, b4⟩, ⟨f1, f2, f3, f4, f5, f6, f7⟩, ⟨g1, g2, g3, g4⟩, S, O, T⟩ := F0
  have hc : ¬ nI ns ≤ nI o := nI_ge (by omega) (by omega)
  have hm : (nI V = -1) = False := eq_false (fd_nm1 (by omega))
  have Qs := S s hs
  have Qo := S o ho
  simp only [fd_S1, Nat.reduceAdd] at Qs Qo
  obtain ⟨⟨cs, _, cs2, cs3, cs4⟩, _⟩ := Qs
  obtain ⟨⟨co, _, co2, co3, co4⟩, p2, p3, p4, p5, ⟨L, _, L2, L3, L4⟩, p7, p8, p9, p10⟩ := Qo
  have g1' := g1
  obtain ⟨I, _, I2, I3, I4⟩ := g1'
  have fr := fd_farc0 cs (by omega) co (by omega)
  by_cases c1 : o = s
  · subst c1
    have ef2 := ef
    unfold fd_fog at ef2
    refine ⟨h, g, ?_, ?_, F, fun _ _ _ => rfl, fun _ _ _ => rfl⟩
    · rw [fs_37_51]
      simp (disch := first | exact fd_nl_int | exact fd_nl_ref | exact fd_nl_none | assumption | exact nI_ne0 (by omega) (by omega) | exact fd_nb0 | exact fd_nb1 | exact fd_nbb | omega) only [fs_37_0, fs_37_1_p1 hk, fs_37_1_p20 hk, fs_37_4, fs_37_5_p2 hk, fs_37_5_p21 hk, fs_37_6, fs_37_7_p1 hk, fs_37_7_p20 hk, fs_37_10, fs_37_12, fs_37_13, fs_37_16, fs_37_19, fs_37_20, fs_37_21, fs_37_22, fs_37_23, fs_37_24_p1 hk, fs_37_24_p20 hk, fs_37_27, fs_37_30, fs_37_31, fs_37_32_p1 hk, fs_37_32_p20 hk, fs_37_35, fs_37_38, fs_37_39, fs_37_42, fs_37_43_p1 hk, fs_37_43_p20 hk, fs_37_46, fs_37_47_p10 hk, fs_37_47_p29 hk, fs_37_48, fs_37_49, fs_37_50, fs_37_52, fs_37_53, fs_37_56, fs_37_57, fs_37_58_p1 hk, fs_37_58_p20 hk, fs_37_61, fs_37_64, fs_37_65, fs_37_66, fs_37_69, fs_37_70_p1 hk, fs_37_70_p20 hk, fs_37_73, fs_37_74_p3 hk, fs_37_74_p22 hk, fs_37_75, fs_37_76_p1 hk, fs_37_76_p20 hk, fs_37_79, fs_37_80_p3 hk, fs_37_80_p22 hk, fs_37_81, fs_37_84, fs_37_85_p1 hk, fs_37_85_p20 hk, fs_37_88, fs_37_89_p2 hk, fs_37_89_p21 hk, fs_37_90, fs_37_93, fs_37_94, fs_37_95, fs_37_96, fs_37_97_p1 hk, fs_37_97_p20 hk, fs_37_100, fs_37_103, fs_37_106, fs_37_109, fs_37_112, Option.bind_some, Option.toList_some, Option.toList_none, List.cons_append, List.nil_append, fd_nb0, fd_nb1, fd_nbb, fd_b0, nI_add, pk_mul, ite_not, Classical.not_not, not_false_iff, not_true, and_self, or_true, true_or, ↓reduceIte, if_true, if_false, ite_self, fd_mI, fd_mH, fd_mL, fd_p0, fd_w0, fd_w1, fd_w2, fd_10, fd_00, hc, f2, hm]
    · rw [fs_143_35]
      simp (disch := first | exact fd_nl_int | exact fd_nl_ref | exact fd_nl_none | assumption | exact nI_ne0 (by omega) (by omega) | exact fd_nb0 | exact fd_nb1 | exact fd_nbb | omega) only [fs_143_0, fs_143_1, fs_143_2, fs_143_3, fs_143_4_p77 hk, fs_143_7, fs_143_10, fs_143_11, fs_143_12_p77 hk, fs_143_15, fs_143_18, fs_143_19, fs_143_22, fs_143_23_p77 hk, fs_143_26, fs_143_28, fs_143_29, fs_143_30_p82 hk, fs_143_31, fs_143_32, fs_143_33, fs_143_37, fs_143_38_p77 hk, fs_143_41, fs_143_44, fs_143_45, fs_143_46, fs_143_49, fs_143_50_p77 hk, fs_143_53, fs_143_54, fs_143_56, fs_143_57, fs_143_58, fs_143_59, fs_143_60, fs_143_63, fs_143_65, fs_143_66, fs_143_69, fs_143_70_p77 hk, fs_143_73, fs_143_74_p78 hk, fs_143_75, fs_143_76_p77 hk, fs_143_79, fs_143_81_p78 hk, fs_143_82, fs_143_85, fs_143_86_p77 hk, fs_143_89, fs_143_92, fs_143_93, fs_143_95, fs_143_96, fs_143_97, fs_143_100, fs_143_101, fs_143_104, fs_143_105, fs_143_106, fs_143_109, fs_143_110_p77 hk, fs_143_113, fs_143_115, fs_143_117, fs_143_118, fs_143_119, fs_143_120_p87 hk, fs_143_121, fs_143_122, fs_143_125, fs_143_127, fs_143_130, fs_143_131_p77 hk, fs_143_134, fs_143_135_p77 hk, fs_143_138, fs_143_140, fs_143_142, fs_143_143, fs_143_144, fs_143_145, fs_143_146_p87 hk, fs_143_147, fs_143_150, fs_143_153, fs_143_156, fs_143_159, fs_143_160, fs_143_161, fs_143_162, fs_143_163_p77 hk, fs_143_166, fs_143_169, fs_143_170_p77 hk, fs_143_173, fs_143_175, fs_143_176, fs_143_177, fs_143_178_p82 hk, fs_143_179, fs_143_182, fs_143_185, Option.bind_some, Option.toList_some, Option.toList_none, List.cons_append, List.nil_append, fd_nb0, fd_nb1, fd_nbb, fd_b0, nI_add, pk_mul, ite_not, Classical.not_not, not_false_iff, not_true, and_self, or_true, true_or, ↓reduceIte, if_true, if_false, ite_self, fd_mI, fd_mH, fd_mL, fd_p0, fd_w0, fd_w1, fd_w2, fd_10, fd_00, hc, f3, hm, ef2]
  · have c1' : (nI o = nI s) = False := eq_false (fun z => c1 (fd_nIj (by omega) (by omega) z))
    by_cases c2 : nI I < fd_far (nI cs) (nI co)
    · have ef2 := ef
      unfold fd_fog at ef2
      refine ⟨h, g, ?_, ?_, F, fun _ _ _ => rfl, fun _ _ _ => rfl⟩
      · have c2' : nI I < fd_far (nI co) (nI cs) := by rw [← fr]; exact c2
        rw [fs_37_51]
        simp (disch := first | exact fd_nl_int | exact fd_nl_ref | exact fd_nl_none | assumption | exact nI_ne0 (by omega) (by omega) | exact fd_nb0 | exact fd_nb1 | exact fd_nbb | omega) only [fs_37_0, fs_37_1_p1 hk, fs_37_1_p20 hk, fs_37_4, fs_37_5_p2 hk, fs_37_5_p21 hk, fs_37_6, fs_37_7_p1 hk, fs_37_7_p20 hk, fs_37_10, fs_37_12, fs_37_13, fs_37_16, fs_37_19, fs_37_20, fs_37_21, fs_37_22, fs_37_23, fs_37_24_p1 hk, fs_37_24_p20 hk, fs_37_27, fs_37_30, fs_37_31, fs_37_32_p1 hk, fs_37_32_p20 hk, fs_37_35, fs_37_38, fs_37_39, fs_37_42, fs_37_43_p1 hk, fs_37_43_p20 hk, fs_37_46, fs_37_47_p10 hk, fs_37_47_p29 hk, fs_37_48, fs_37_49, fs_37_50, fs_37_52, fs_37_53, fs_37_56, fs_37_57, fs_37_58_p1 hk, fs_37_58_p20 hk, fs_37_61, fs_37_64, fs_37_65, fs_37_66, fs_37_69, fs_37_70_p1 hk, fs_37_70_p20 hk, fs_37_73, fs_37_74_p3 hk, fs_37_74_p22 hk, fs_37_75, fs_37_76_p1 hk, fs_37_76_p20 hk, fs_37_79, fs_37_80_p3 hk, fs_37_80_p22 hk, fs_37_81, fs_37_84, fs_37_85_p1 hk, fs_37_85_p20 hk, fs_37_88, fs_37_89_p2 hk, fs_37_89_p21 hk, fs_37_90, fs_37_93, fs_37_94, fs_37_95, fs_37_96, fs_37_97_p1 hk, fs_37_97_p20 hk, fs_37_100, fs_37_103, fs_37_106, fs_37_109, fs_37_112, Option.bind_some, Option.toList_some, Option.toList_none, List.cons_append, List.nil_append, fd_nb0, fd_nb1, fd_nbb, fd_b0, nI_add, pk_mul, ite_not, Classical.not_not, not_false_iff, not_true, and_self, or_true, true_or, ↓reduceIte, if_true, if_false, ite_self, fd_mI, fd_mH, fd_mL, fd_p0, fd_w0, fd_w1, fd_w2, fd_10, fd_00, hc, f2, hm, c1', fm_far, I3, co3, cs3, c2']
      · rw [fs_143_35]
        simp (disch := first | exact fd_nl_int | exact fd_nl_ref | exact fd_nl_none | assumption | exact nI_ne0 (by omega) (by omega) | exact fd_nb0 | exact fd_nb1 | exact fd_nbb | omega) only [fs_143_0, fs_143_1, fs_143_2, fs_143_3, fs_143_4_p77 hk, fs_143_7, fs_143_10, fs_143_11, fs_143_12_p77 hk, fs_143_15, fs_143_18, fs_143_19, fs_143_22, fs_143_23_p77 hk, fs_143_26, fs_143_28, fs_143_29, fs_143_30_p82 hk, fs_143_31, fs_143_32, fs_143_33, fs_143_37, fs_143_38_p77 hk, fs_143_41, fs_143_44, fs_143_45, fs_143_46, fs_143_49, fs_143_50_p77 hk, fs_143_53, fs_143_54, fs_143_56, fs_143_57, fs_143_58, fs_143_59, fs_143_60, fs_143_63, fs_143_65, fs_143_66, fs_143_69, fs_143_70_p77 hk, fs_143_73, fs_143_74_p78 hk, fs_143_75, fs_143_76_p77 hk, fs_143_79, fs_143_81_p78 hk, fs_143_82, fs_143_85, fs_143_86_p77 hk, fs_143_89, fs_143_92, fs_143_93, fs_143_95, fs_143_96, fs_143_97, fs_143_100, fs_143_101, fs_143_104, fs_143_105, fs_143_106, fs_143_109, fs_143_110_p77 hk, fs_143_113, fs_143_115, fs_143_117, fs_143_118, fs_143_119, fs_143_120_p87 hk, fs_143_121, fs_143_122, fs_143_125, fs_143_127, fs_143_130, fs_143_131_p77 hk, fs_143_134, fs_143_135_p77 hk, fs_143_138, fs_143_140, fs_143_142, fs_143_143, fs_143_144, fs_143_145, fs_143_146_p87 hk, fs_143_147, fs_143_150, fs_143_153, fs_143_156, fs_143_159, fs_143_160, fs_143_161, fs_143_162, fs_143_163_p77 hk, fs_143_166, fs_143_169, fs_143_170_p77 hk, fs_143_173, fs_143_175, fs_143_176, fs_143_177, fs_143_178_p82 hk, fs_143_179, fs_143_182, fs_143_185, Option.bind_some, Option.toList_some, Option.toList_none, List.cons_append, List.nil_append, fd_nb0, fd_nb1, fd_nbb, fd_b0, nI_add, pk_mul, ite_not, Classical.not_not, not_false_iff, not_true, and_self, or_true, true_or, ↓reduceIte, if_true, if_false, ite_self, fd_mI, fd_mH, fd_mL, fd_p0, fd_w0, fd_w1, fd_w2, fd_10, fd_00, hc, f3, hm, ef2, c1', fm_mFar, I4, co4, cs4, c2]
    · obtain ⟨h', r1, r2, r3, r4⟩ := fm_seeT (h := h) hk (show o < 6 by omega) (show s < 6 by omega) hV L3 L2
      have e10 := (p10 s (by omega)).1
      have ch : ∀ q, ¬ q = 27 → ¬ q = 30 → h'.1 q = h.1 q := fun q q1 q2 => funext fun j => r4 q j (fun y => q1 y.1) (fun y => q2 y.1)
      have mh : ∀ q, ¬ q = 82 → ¬ q = 87 → (fd_w (fd_w g 82 (12 + o) (nI (fd_seW L V (g.1 87 (6 * o + s))))) 87 (6 * o + s) (nI V)).1 q = g.1 q := fun q q1 q2 => by rw [fd_wp q2, fd_wp q1]
      have hw : fd_seW L V (g.1 87 (6 * o + s)) ≤ 100 := by
        unfold fd_seW
        (repeat' split) <;> omega
      rw [e10] at r2
      refine ⟨h', fd_w (fd_w g 82 (12 + o) (nI (fd_seW L V (g.1 87 (6 * o + s))))) 87 (6 * o + s) (nI V), ?_, ?_, ?_, ch, mh⟩
      · have c2' : ¬ nI I < fd_far (nI co) (nI cs) := by rw [← fr]; exact c2
        rw [fs_37_51]
        simp (disch := first | exact fd_nl_int | exact fd_nl_ref | exact fd_nl_none | assumption | exact nI_ne0 (by omega) (by omega) | exact fd_nb0 | exact fd_nb1 | exact fd_nbb | omega) only [fs_37_0, fs_37_1_p1 hk, fs_37_1_p20 hk, fs_37_4, fs_37_5_p2 hk, fs_37_5_p21 hk, fs_37_6, fs_37_7_p1 hk, fs_37_7_p20 hk, fs_37_10, fs_37_12, fs_37_13, fs_37_16, fs_37_19, fs_37_20, fs_37_21, fs_37_22, fs_37_23, fs_37_24_p1 hk, fs_37_24_p20 hk, fs_37_27, fs_37_30, fs_37_31, fs_37_32_p1 hk, fs_37_32_p20 hk, fs_37_35, fs_37_38, fs_37_39, fs_37_42, fs_37_43_p1 hk, fs_37_43_p20 hk, fs_37_46, fs_37_47_p10 hk, fs_37_47_p29 hk, fs_37_48, fs_37_49, fs_37_50, fs_37_52, fs_37_53, fs_37_56, fs_37_57, fs_37_58_p1 hk, fs_37_58_p20 hk, fs_37_61, fs_37_64, fs_37_65, fs_37_66, fs_37_69, fs_37_70_p1 hk, fs_37_70_p20 hk, fs_37_73, fs_37_74_p3 hk, fs_37_74_p22 hk, fs_37_75, fs_37_76_p1 hk, fs_37_76_p20 hk, fs_37_79, fs_37_80_p3 hk, fs_37_80_p22 hk, fs_37_81, fs_37_84, fs_37_85_p1 hk, fs_37_85_p20 hk, fs_37_88, fs_37_89_p2 hk, fs_37_89_p21 hk, fs_37_90, fs_37_93, fs_37_94, fs_37_95, fs_37_96, fs_37_97_p1 hk, fs_37_97_p20 hk, fs_37_100, fs_37_103, fs_37_106, fs_37_109, fs_37_112, Option.bind_some, Option.toList_some, Option.toList_none, List.cons_append, List.nil_append, fd_nb0, fd_nb1, fd_nbb, fd_b0, nI_add, pk_mul, ite_not, Classical.not_not, not_false_iff, not_true, and_self, or_true, true_or, ↓reduceIte, if_true, if_false, ite_self, fd_mI, fd_mH, fd_mL, fd_p0, fd_w0, fd_w1, fd_w2, fd_10, fd_00, hc, f2, hm, c1', fm_far, I3, co3, cs3, c2', r1]
      · exact fm_mSee hk (by omega) ho b1 hV f3 ef c1 (by rw [I4, cs4, co4]; exact c2) L4 L2
      · generalize fd_seW L V (g.1 87 (6 * o + s)) = W at r2 hw mh
        simp (disch := omega) only [fd_Fl, Nat.reduceAdd, ch, fd_wp]
        refine ⟨⟨b1, b2, b3, b4⟩, ⟨f1, f2, f3, f4, f5, f6, f7⟩, ⟨g1, g2, g3, g4⟩, fun s' hs' => ?_, O, fun i hi => ?_⟩
        · have q' := S s' hs'
          simp only [fd_S1, Nat.reduceAdd] at q' ⊢
          simp (disch := omega) only [ch, fd_wp, fd_w2]
          obtain ⟨u1, u2, u3, u4, u5, u6, u7, u8, u9, u10⟩ := q'
          refine ⟨u1, u2, u3, u4, u5, ?_, u7, u8, u9, fun o' ho' => ?_⟩
          · by_cases y : s' = o
            · subst y
              rw [r2, fd_w0]
              exact fd_bdr (by omega) hw
            · rw [r4 27 s' (by omega) (by omega), fd_w2 (by omega)]
              exact u6
          · have v := u10 o' ho'
            refine ⟨?_, v.2⟩
            by_cases y : s' = o ∧ o' = s
            · obtain ⟨y1, y2⟩ := y
              subst y1; subst y2
              rw [r3, fd_w0]
            · rw [r4 30 _ (by omega) (by omega), fd_w2 (by omega), fd_wp (by decide)]
              exact v.1
        · have q' := T i hi
          simp only [fd_B1, Nat.reduceAdd] at q' ⊢
          simp (disch := omega) only [ch, fd_wp]
          exact q'
end TURN
