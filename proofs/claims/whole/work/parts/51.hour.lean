/-! HOURS: an hour, hours -/
section HOUR
variable {k : fd_Sk} {h h' g g' : fd_Hp} {fb bb dr b : Nat}
theorem fd_eatL (hk : fd_Sok k fb bb dr) {ns np nb t : Nat} : ∀ (m s : Nat) (h g : fd_Hp) (z : Option Value), s + m = ns → fd_Fl 1 h g ns np nb t → ∃ h' g', fd_E 33 2 [some (.ref (1)), some (.int (nI (s)))] [] k h = fd_E 33 21 [some (.ref (1)), some (.int (nI (ns)))] [] k h' ∧ fd_E 140 2 [some (.ref (77)), some (.int (nI (s))), z] [] k g = some (none, (k, g')) ∧ fd_Fl 1 h' g' ns np nb t ∧ (∀ q, ¬ q = 5 → ¬ q = 6 → ¬ q = 8 → h'.1 q = h.1 q) ∧ (∀ q, ¬ q = 82 → g'.1 q = g.1 q) := by
  intro m
  induction m with
  | zero =>
    intro s h g z e F
    obtain rfl : s = ns := by omega
    have F0 := F
    simp only [fd_Fl, Nat.reduceAdd] at F0
    obtain ⟨⟨b1, b2, b3, b4⟩, ⟨f1, f2, f3, f4, f5, f6, f7⟩, _⟩ := F0
    have hc : nI s ≤ nI s := nI_le (by omega) (by omega)
    refine ⟨h, g, ?_, ?_, F, fun _ _ _ _ => rfl, fun _ _ => rfl⟩
    · rw [fs_33_2]
      simp (disch := first | exact fd_nl_int | exact fd_nl_ref | exact fd_nl_none | assumption | exact nI_ne0 (by omega) (by omega) | exact fd_nb0 | exact fd_nb1 | exact fd_nbb | omega) only [fs_33_0, fs_33_1, fs_33_3, fs_33_4_p1 hk, fs_33_4_p20 hk, fs_33_7, fs_33_10, fs_33_11, fs_33_12_p1 hk, fs_33_12_p20 hk, fs_33_15, fs_33_18, fs_33_22_p1 hk, fs_33_22_p20 hk, fs_33_25, fs_33_26_p1 hk, fs_33_26_p20 hk, fs_33_29, fs_33_30, fs_33_31, fs_33_32, fs_33_33_p1 hk, fs_33_33_p20 hk, fs_33_36, fs_33_39, fs_33_40, fs_33_41_p1 hk, fs_33_41_p20 hk, fs_33_44, fs_33_47, fs_33_48_p1 hk, fs_33_48_p20 hk, fs_33_51, fs_33_52_p8 hk, fs_33_52_p27 hk, fs_33_53, fs_33_54_p1 hk, fs_33_54_p20 hk, fs_33_57, fs_33_58_p2 hk, fs_33_58_p21 hk, fs_33_59, fs_33_62, fs_33_63_p1 hk, fs_33_63_p20 hk, fs_33_66, fs_33_67, fs_33_68_p1 hk, fs_33_68_p20 hk, fs_33_71_p9 hk, fs_33_71_p28 hk, fs_33_72, fs_33_73_p1 hk, fs_33_73_p20 hk, fs_33_76, fs_33_77, fs_33_78_p10 hk, fs_33_78_p29 hk, fs_33_79, fs_33_82, fs_33_85, fs_33_86, fs_33_87_p1 hk, fs_33_87_p20 hk, fs_33_90, fs_33_91, fs_33_92_p1 hk, fs_33_92_p20 hk, fs_33_95, Option.bind_some, Option.toList_some, Option.toList_none, List.cons_append, List.nil_append, fd_nb0, fd_nb1, fd_nbb, fd_b0, nI_add, pk_mul, ite_not, Classical.not_not, not_false_iff, not_true, and_self, or_true, true_or, ↓reduceIte, if_true, if_false, ite_self, fd_mI, fd_mH, fd_mL, fd_p0, fd_w0, fd_w1, fd_w2, fd_10, fd_00, hc, f2]
    · rw [fs_140_2]
      simp (disch := first | exact fd_nl_int | exact fd_nl_ref | exact fd_nl_none | assumption | exact nI_ne0 (by omega) (by omega) | exact fd_nb0 | exact fd_nb1 | exact fd_nbb | omega) only [fs_140_0, fs_140_1, fs_140_3, fs_140_4_p77 hk, fs_140_7, fs_140_10, fs_140_11, fs_140_12_p77 hk, fs_140_15, fs_140_16, fs_140_17, fs_140_18, fs_140_19, fs_140_20_p77 hk, fs_140_23, fs_140_24, fs_140_27, fs_140_29, fs_140_32, fs_140_33_p77 hk, fs_140_36, fs_140_37, fs_140_38, fs_140_39, fs_140_40_p77 hk, fs_140_43, fs_140_44, fs_140_47, fs_140_49, fs_140_52, fs_140_53_p77 hk, fs_140_56, fs_140_57_p77 hk, fs_140_60, fs_140_61, fs_140_62, fs_140_63_p77 hk, fs_140_66, fs_140_67, fs_140_70, fs_140_71, fs_140_74, fs_140_75, fs_140_76_p77 hk, fs_140_79, fs_140_80, fs_140_81_p82 hk, fs_140_82, fs_140_83_p77 hk, fs_140_86, fs_140_88, fs_140_89, fs_140_90, fs_140_91, fs_140_92_p77 hk, fs_140_95, fs_140_96, fs_140_99, fs_140_100, fs_140_103, fs_140_104, fs_140_105_p77 hk, fs_140_108, fs_140_109, fs_140_110_p82 hk, fs_140_111, fs_140_114, fs_140_117, Option.bind_some, Option.toList_some, Option.toList_none, List.cons_append, List.nil_append, fd_nb0, fd_nb1, fd_nbb, fd_b0, nI_add, pk_mul, ite_not, Classical.not_not, not_false_iff, not_true, and_self, or_true, true_or, ↓reduceIte, if_true, if_false, ite_self, fd_mI, fd_mH, fd_mL, fd_p0, fd_w0, fd_w1, fd_w2, fd_10, fd_00, hc, f3]
  | succ m ih =>
    intro s h g z e F
    have F0 := F
    simp only [fd_Fl, Nat.reduceAdd] at F0
    obtain ⟨⟨b1, b2, b3, b4⟩, ⟨f1, f2, f3, f4, f5, f6, f7⟩, _⟩ := F0
    have hc : ¬ nI ns ≤ nI s := nI_ge (by omega) (by omega)
    obtain ⟨h1, g1, v, r1, r2, F1, c1, m1⟩ := fd_eat2 hk F (show s < ns by omega) z
    obtain ⟨h2, g2, r3, r4, F2, c2, m2⟩ := ih (s + 1) h1 g1 (some (.int v)) (by omega) F1
    refine ⟨h2, g2, ?_, r2.trans r4, F2, fun q a1 a2 a3 => (c2 q a1 a2 a3).trans (c1 q a1 a2 a3), fun q a1 => (m2 q a1).trans (m1 q a1)⟩
    rw [fs_33_2]
    simp (disch := first | exact fd_nl_int | exact fd_nl_ref | exact fd_nl_none | assumption | exact nI_ne0 (by omega) (by omega) | exact fd_nb0 | exact fd_nb1 | exact fd_nbb | omega) only [fs_33_0, fs_33_1, fs_33_3, fs_33_4_p1 hk, fs_33_4_p20 hk, fs_33_7, fs_33_10, fs_33_11, fs_33_12_p1 hk, fs_33_12_p20 hk, fs_33_15, fs_33_18, fs_33_22_p1 hk, fs_33_22_p20 hk, fs_33_25, fs_33_26_p1 hk, fs_33_26_p20 hk, fs_33_29, fs_33_30, fs_33_31, fs_33_32, fs_33_33_p1 hk, fs_33_33_p20 hk, fs_33_36, fs_33_39, fs_33_40, fs_33_41_p1 hk, fs_33_41_p20 hk, fs_33_44, fs_33_47, fs_33_48_p1 hk, fs_33_48_p20 hk, fs_33_51, fs_33_52_p8 hk, fs_33_52_p27 hk, fs_33_53, fs_33_54_p1 hk, fs_33_54_p20 hk, fs_33_57, fs_33_58_p2 hk, fs_33_58_p21 hk, fs_33_59, fs_33_62, fs_33_63_p1 hk, fs_33_63_p20 hk, fs_33_66, fs_33_67, fs_33_68_p1 hk, fs_33_68_p20 hk, fs_33_71_p9 hk, fs_33_71_p28 hk, fs_33_72, fs_33_73_p1 hk, fs_33_73_p20 hk, fs_33_76, fs_33_77, fs_33_78_p10 hk, fs_33_78_p29 hk, fs_33_79, fs_33_82, fs_33_85, fs_33_86, fs_33_87_p1 hk, fs_33_87_p20 hk, fs_33_90, fs_33_91, fs_33_92_p1 hk, fs_33_92_p20 hk, fs_33_95, Option.bind_some, Option.toList_some, Option.toList_none, List.cons_append, List.nil_append, fd_nb0, fd_nb1, fd_nbb, fd_b0, nI_add, pk_mul, ite_not, Classical.not_not, not_false_iff, not_true, and_self, or_true, true_or, ↓reduceIte, if_true, if_false, ite_self, fd_mI, fd_mH, fd_mL, fd_p0, fd_w0, fd_w1, fd_w2, fd_10, fd_00, hc, f2, r1, r3]
theorem fd_hour2 (hk : fd_Sok k fb bb dr) {ns np nb t : Nat} (F : fd_Fl 1 h g ns np nb t) (ht : t + 1 ≤ 3000) : ∃ h' g' nb', fd_E 33 0 [some (.ref (1)), none] [] k h = some (none, (k, h')) ∧ fd_E 144 0 [some (.ref (77)), some (.int (nI (t))), none] [] k g = some (none, (k, g')) ∧ fd_Fl 1 h' g' ns np nb' (t + 1) ∧ (∀ q, ¬ (1 ≤ q ∧ q ≤ 19) → h'.1 q = h.1 q) ∧ (∀ q, ¬ q = 82 → ¬ q = 85 → ¬ q = 87 → ¬ q = 89 → ¬ q = 77 → g'.1 q = g.1 q) ∧ ∀ j, ¬ j = 18 → g'.1 77 j = g.1 77 j := by
  obtain ⟨h1, g1, e1, e2, F1, c1, m1⟩ := fd_eatL hk ns 0 h g none (by omega) F
  obtain ⟨h2, g2, n2, e3, e4, F2, c2, m2, j2⟩ := fd_land2 hk F1
  obtain ⟨h3, g3, v, w, e5, e6, F3, c3, m3⟩ := fd_show2 hk F2
  have F0 := F3
  simp only [fd_Fl, Nat.reduceAdd] at F0
  obtain ⟨⟨b1, b2, b3, b4⟩, ⟨f1, f2, f3, f4, f5, f6, f7⟩, ⟨q1, q2, q3, q4⟩, S, O, T⟩ := F0
  obtain ⟨g4, e7, a1, a2⟩ := fm_mRst (t := t) hk b1 v w ns 0 g3 (by omega) f3
  obtain ⟨h5, e8, d1, d2, d3, d4⟩ := fd_yL hk b1 ns 0 h3 (by omega) f2
  obtain ⟨g5, e9, l1, l2⟩ := fm_mYL (t := t) hk b1 ns 0 g4 (by omega) (by rw [a2 77 5 (by omega)]; exact f3)
  have ch : ∀ q, ¬ q = 1 → ¬ q = 9 → ¬ q = 10 → h5.1 q = h3.1 q := fun q y1 y2 y3 => funext fun j => d4 q j (fun y => y.1.elim y2 y3) (fun y => y1 y.1)
  have mh : ∀ q, ¬ q = 82 → g5.1 q = g3.1 q := fun q y1 => funext fun j => (l2 q j (fun y => y1 y.1)).trans (a2 q j (fun y => y1 y.1))
  refine ⟨h5, g5, n2, ?_, ?_, ?_, fun q hq => ?_, fun q y1 y2 y3 y4 y5 => ?_, fun j hj => ?_⟩
  · have hz : fd_E 33 0 [some (.ref (1)), none] [] k h = fd_E 33 2 [some (.ref (1)), some (.int (nI (0)))] [] k h := by
      simp (disch := first | exact fd_nl_int | exact fd_nl_ref | exact fd_nl_none | assumption | exact nI_ne0 (by omega) (by omega) | exact fd_nb0 | exact fd_nb1 | exact fd_nbb | omega) only [fs_33_0, fs_33_1, fs_33_3, fs_33_4_p1 hk, fs_33_4_p20 hk, fs_33_7, fs_33_10, fs_33_11, fs_33_12_p1 hk, fs_33_12_p20 hk, fs_33_15, fs_33_18, fs_33_21, fs_33_22_p1 hk, fs_33_22_p20 hk, fs_33_25, fs_33_26_p1 hk, fs_33_26_p20 hk, fs_33_29, fs_33_30, fs_33_31, fs_33_32, fs_33_33_p1 hk, fs_33_33_p20 hk, fs_33_36, fs_33_39, fs_33_40, fs_33_41_p1 hk, fs_33_41_p20 hk, fs_33_44, fs_33_47, fs_33_48_p1 hk, fs_33_48_p20 hk, fs_33_51, fs_33_52_p8 hk, fs_33_52_p27 hk, fs_33_53, fs_33_54_p1 hk, fs_33_54_p20 hk, fs_33_57, fs_33_58_p2 hk, fs_33_58_p21 hk, fs_33_59, fs_33_62, fs_33_63_p1 hk, fs_33_63_p20 hk, fs_33_66, fs_33_67, fs_33_68_p1 hk, fs_33_68_p20 hk, fs_33_71_p9 hk, fs_33_71_p28 hk, fs_33_72, fs_33_73_p1 hk, fs_33_73_p20 hk, fs_33_76, fs_33_77, fs_33_78_p10 hk, fs_33_78_p29 hk, fs_33_79, fs_33_82, fs_33_85, fs_33_86, fs_33_87_p1 hk, fs_33_87_p20 hk, fs_33_90, fs_33_91, fs_33_92_p1 hk, fs_33_92_p20 hk, fs_33_95, Option.bind_some, Option.toList_some, Option.toList_none, List.cons_append, List.nil_append, fd_nb0, fd_nb1, fd_nbb, fd_b0, nI_add, pk_mul, ite_not, Classical.not_not, not_false_iff, not_true, and_self, or_true, true_or, ↓reduceIte, if_true, if_false, ite_self, fd_mI, fd_mH, fd_mL, fd_p0, fd_w0, fd_w1, fd_w2, fd_10, fd_00]
    rw [hz, e1]
    simp (disch := first | exact fd_nl_int | exact fd_nl_ref | exact fd_nl_none | assumption | exact nI_ne0 (by omega) (by omega) | exact fd_nb0 | exact fd_nb1 | exact fd_nbb | omega) only [fs_33_0, fs_33_1, fs_33_2, fs_33_3, fs_33_4_p1 hk, fs_33_4_p20 hk, fs_33_7, fs_33_10, fs_33_11, fs_33_12_p1 hk, fs_33_12_p20 hk, fs_33_15, fs_33_18, fs_33_21, fs_33_22_p1 hk, fs_33_22_p20 hk, fs_33_25, fs_33_26_p1 hk, fs_33_26_p20 hk, fs_33_29, fs_33_30, fs_33_32, fs_33_33_p1 hk, fs_33_33_p20 hk, fs_33_36, fs_33_39, fs_33_40, fs_33_41_p1 hk, fs_33_41_p20 hk, fs_33_44, fs_33_47, fs_33_48_p1 hk, fs_33_48_p20 hk, fs_33_51, fs_33_52_p8 hk, fs_33_52_p27 hk, fs_33_53, fs_33_54_p1 hk, fs_33_54_p20 hk, fs_33_57, fs_33_58_p2 hk, fs_33_58_p21 hk, fs_33_59, fs_33_62, fs_33_63_p1 hk, fs_33_63_p20 hk, fs_33_66, fs_33_67, fs_33_68_p1 hk, fs_33_68_p20 hk, fs_33_71_p9 hk, fs_33_71_p28 hk, fs_33_72, fs_33_73_p1 hk, fs_33_73_p20 hk, fs_33_76, fs_33_77, fs_33_78_p10 hk, fs_33_78_p29 hk, fs_33_79, fs_33_82, fs_33_85, fs_33_86, fs_33_87_p1 hk, fs_33_87_p20 hk, fs_33_90, fs_33_91, fs_33_92_p1 hk, fs_33_92_p20 hk, fs_33_95, Option.bind_some, Option.toList_some, Option.toList_none, List.cons_append, List.nil_append, fd_nb0, fd_nb1, fd_nbb, fd_b0, nI_add, pk_mul, ite_not, Classical.not_not, not_false_iff, not_true, and_self, or_true, true_or, ↓reduceIte, if_true, if_false, ite_self, fd_mI, fd_mH, fd_mL, fd_p0, fd_w0, fd_w1, fd_w2, fd_10, fd_00, e3, e5, e8]
  · have hz : fd_E 140 0 [some (.ref (77)), none, none] [] k g = some (none, (k, g1)) := by
      simp (disch := first | exact fd_nl_int | exact fd_nl_ref | exact fd_nl_none | assumption | exact nI_ne0 (by omega) (by omega) | exact fd_nb0 | exact fd_nb1 | exact fd_nbb | omega) only [fs_140_0, fs_140_1, fs_140_3, fs_140_4_p77 hk, fs_140_7, fs_140_10, fs_140_11, fs_140_12_p77 hk, fs_140_15, fs_140_16, fs_140_17, fs_140_18, fs_140_19, fs_140_20_p77 hk, fs_140_23, fs_140_24, fs_140_27, fs_140_29, fs_140_32, fs_140_33_p77 hk, fs_140_36, fs_140_37, fs_140_38, fs_140_39, fs_140_40_p77 hk, fs_140_43, fs_140_44, fs_140_47, fs_140_49, fs_140_52, fs_140_53_p77 hk, fs_140_56, fs_140_57_p77 hk, fs_140_60, fs_140_61, fs_140_62, fs_140_63_p77 hk, fs_140_66, fs_140_67, fs_140_70, fs_140_71, fs_140_74, fs_140_75, fs_140_76_p77 hk, fs_140_79, fs_140_80, fs_140_81_p82 hk, fs_140_82, fs_140_83_p77 hk, fs_140_86, fs_140_88, fs_140_89, fs_140_90, fs_140_91, fs_140_92_p77 hk, fs_140_95, fs_140_96, fs_140_99, fs_140_100, fs_140_103, fs_140_104, fs_140_105_p77 hk, fs_140_108, fs_140_109, fs_140_110_p82 hk, fs_140_111, fs_140_114, fs_140_117, Option.bind_some, Option.toList_some, Option.toList_none, List.cons_append, List.nil_append, fd_nb0, fd_nb1, fd_nbb, fd_b0, nI_add, pk_mul, ite_not, Classical.not_not, not_false_iff, not_true, and_self, or_true, true_or, ↓reduceIte, if_true, if_false, ite_self, fd_mI, fd_mH, fd_mL, fd_p0, fd_w0, fd_w1, fd_w2, fd_10, fd_00, e2]
    have h3z : fd_E 143 0 [some (.ref (77)), some (.int (nI (t))), none, none, none] [] k g2 = some (none, (k, g4)) := e6.trans e7
    simp (disch := first | exact fd_nl_int | exact fd_nl_ref | exact fd_nl_none | assumption | exact nI_ne0 (by omega) (by omega) | exact fd_nb0 | exact fd_nb1 | exact fd_nbb | omega) only [fs_144_0, fs_144_1_p77 hk, fs_144_4, fs_144_5, fs_144_6_p77 hk, fs_144_9, fs_144_10, fs_144_11_p77 hk, fs_144_14, fs_144_15, fs_144_17, fs_144_18_p77 hk, fs_144_21, fs_144_24, fs_144_25_p77 hk, fs_144_28, fs_144_30, fs_144_31, fs_144_32, fs_144_33, fs_144_34_p77 hk, fs_144_37, fs_144_40, fs_144_41, fs_144_42_p77 hk, fs_144_45, fs_144_46_p77 hk, fs_144_49, fs_144_52, fs_144_53, fs_144_56, fs_144_57_p77 hk, fs_144_60, fs_144_62, fs_144_63, fs_144_64_p82 hk, fs_144_65_p82 hk, fs_144_66, fs_144_69, fs_144_72, Option.bind_some, Option.toList_some, Option.toList_none, List.cons_append, List.nil_append, fd_nb0, fd_nb1, fd_nbb, fd_b0, nI_add, pk_mul, ite_not, Classical.not_not, not_false_iff, not_true, and_self, or_true, true_or, ↓reduceIte, if_true, if_false, ite_self, fd_mI, fd_mH, fd_mL, fd_p0, fd_w0, fd_w1, fd_w2, fd_10, fd_00, hz, e4, h3z, e9]
  · simp only [fd_Fl, Nat.reduceAdd]
    simp (disch := omega) only [ch, mh]
    rw [d4 1 1 (by omega) (by omega), d4 1 2 (by omega) (by omega), d3, f1]
    refine ⟨⟨b1, b2, b3, ht⟩, ⟨nI_add t 1, f2, f3, f4, f5, f6, f7⟩, ⟨q1, q2, q3, q4⟩, fun s hs => ?_, O, fun i hi => ?_⟩
    · have q' := S s hs
      simp only [fd_S1, Nat.reduceAdd] at q' ⊢
      simp (disch := omega) only [ch, mh]
      obtain ⟨r1, r2, r3, r4, r5, r6, r7, r8, r9, r10⟩ := q'
      have k0 : g5.1 82 s = g3.1 82 s := (l2 82 s (by omega)).trans (a2 82 s (by omega))
      have k1 : g5.1 82 (6 + s) = g3.1 82 (6 + s) := (l2 82 (6 + s) (by omega)).trans (a2 82 (6 + s) (by omega))
      have k2 : g5.1 82 (12 + s) = g3.1 82 (12 + s) := (l2 82 (12 + s) (by omega)).trans (a2 82 (12 + s) (by omega))
      have k4 : g5.1 82 (24 + s) = -1 := (l2 82 (24 + s) (by omega)).trans (a1 s (by omega) hs)
      have k3 := l1 s (by omega) hs
      rw [a2 82 (18 + s) (by omega), a2 82 (12 + s) (by omega), a2 77 3 (by omega)] at k3
      rw [k0, k1, k2, k4, k3, d1 s (by omega) hs, d2 s (by omega) hs, f1]
      refine ⟨r1, r2, r3, r4, r5, r6, ?_, rfl, Or.inl rfl, fun o' ho' => ⟨(r10 o' ho').1, (r10 o' ho').2.1, (r10 o' ho').2.2.imp id (fun ⟨x, x1, x2⟩ => ⟨x, by omega, x2⟩)⟩⟩
      rw [r7, fd_bde r6, fd_bde q3]
    · have q' := T i hi
      simp only [fd_B1, Nat.reduceAdd] at q' ⊢
      simp (disch := omega) only [ch, mh]
      exact q'
  · rw [ch q (by omega) (by omega) (by omega), c3 q (by omega) (by omega), c2 q (by omega), c1 q (by omega) (by omega) (by omega)]
  · rw [mh q y1, m3 q y1 y3, m2 q y1 y2 y4 y5, m1 q y1]
  · rw [mh 77 (by decide), m3 77 (by decide) (by decide), j2 j hj, m1 77 (by decide)]
theorem fd_Fl_h {ns np nb t : Nat} (F : fd_Fl 1 h g ns np nb t) (c : ∀ q, 1 ≤ q → q ≤ 19 → h'.1 q = h.1 q) : fd_Fl 1 h' g ns np nb t := by
  unfold fd_Fl fd_S1 fd_B1 at F ⊢
  simp only [Nat.reduceAdd] at F ⊢
  simp (disch := omega) only [c]
  exact F
theorem fd_Fl_g {ns np nb t : Nat} (F : fd_Fl 1 h g ns np nb t) (c : ∀ q, ¬ q = 77 → 78 ≤ q → q ≤ 89 → ¬ q = 81 → ¬ q = 83 → ¬ q = 86 → ¬ q = 88 → g'.1 q = g.1 q) (d : ∀ j, 1 ≤ j → j ≤ 18 → g'.1 77 j = g.1 77 j) : fd_Fl 1 h g' ns np nb t := by
  unfold fd_Fl fd_S1 fd_B1 at F ⊢
  simp only [Nat.reduceAdd] at F ⊢
  simp (disch := omega) only [c, d]
  exact F
theorem fd_eatLT (hk : fd_Sok k fb bb dr) {ns np nb t : Nat} : ∀ (m s : Nat) (h g : fd_Hp) (z : Option Value), s + m = ns → fd_Fl 20 h g ns np nb t → ∃ h' g', fd_E 33 2 [some (.ref (20)), some (.int (nI (s)))] [] k h = fd_E 33 21 [some (.ref (20)), some (.int (nI (ns)))] [] k h' ∧ fd_E 140 2 [some (.ref (77)), some (.int (nI (s))), z] [] k g = some (none, (k, g')) ∧ fd_Fl 20 h' g' ns np nb t ∧ (∀ q, ¬ q = 24 → ¬ q = 25 → ¬ q = 27 → h'.1 q = h.1 q) ∧ (∀ q, ¬ q = 82 → g'.1 q = g.1 q) := by
  intro m
  induction m with
  | zero =>
    intro s h g z e F
    obtain rfl : s = ns := by omega
    have F0 := F
    simp only [fd_Fl, Nat.reduceAdd] at F0
    obtain ⟨⟨b1, b2, b3, b4⟩, ⟨f1, f2, f3, f4, f5, f6, f7⟩, _⟩ := F0
    have hc : nI s ≤ nI s := nI_le (by omega) (by omega)
    refine ⟨h, g, ?_, ?_, F, fun _ _ _ _ => rfl, fun _ _ => rfl⟩
    · rw [fs_33_2]
      simp (disch := first | exact fd_nl_int | exact fd_nl_ref | exact fd_nl_none | assumption | exact nI_ne0 (by omega) (by omega) | exact fd_nb0 | exact fd_nb1 | exact fd_nbb | omega) only [fs_33_0, fs_33_1, fs_33_3, fs_33_4_p1 hk, fs_33_4_p20 hk, fs_33_7, fs_33_10, fs_33_11, fs_33_12_p1 hk, fs_33_12_p20 hk, fs_33_15, fs_33_18, fs_33_22_p1 hk, fs_33_22_p20 hk, fs_33_25, fs_33_26_p1 hk, fs_33_26_p20 hk, fs_33_29, fs_33_30, fs_33_31, fs_33_32, fs_33_33_p1 hk, fs_33_33_p20 hk, fs_33_36, fs_33_39, fs_33_40, fs_33_41_p1 hk, fs_33_41_p20 hk, fs_33_44, fs_33_47, fs_33_48_p1 hk, fs_33_48_p20 hk, fs_33_51, fs_33_52_p8 hk, fs_33_52_p27 hk, fs_33_53, fs_33_54_p1 hk, fs_33_54_p20 hk, fs_33_57, fs_33_58_p2 hk, fs_33_58_p21 hk, fs_33_59, fs_33_62, fs_33_63_p1 hk, fs_33_63_p20 hk, fs_33_66, fs_33_67, fs_33_68_p1 hk, fs_33_68_p20 hk, fs_33_71_p9 hk, fs_33_71_p28 hk, fs_33_72, fs_33_73_p1 hk, fs_33_73_p20 hk, fs_33_76, fs_33_77, fs_33_78_p10 hk, fs_33_78_p29 hk, fs_33_79, fs_33_82, fs_33_85, fs_33_86, fs_33_87_p1 hk, fs_33_87_p20 hk, fs_33_90, fs_33_91, fs_33_92_p1 hk, fs_33_92_p20 hk, fs_33_95, Option.bind_some, Option.toList_some, Option.toList_none, List.cons_append, List.nil_append, fd_nb0, fd_nb1, fd_nbb, fd_b0, nI_add, pk_mul, ite_not, Classical.not_not, not_false_iff, not_true, and_self, or_true, true_or, ↓reduceIte, if_true, if_false, ite_self, fd_mI, fd_mH, fd_mL, fd_p0, fd_w0, fd_w1, fd_w2, fd_10, fd_00, hc, f2]
    · rw [fs_140_2]
      simp (disch := first | exact fd_nl_int | exact fd_nl_ref | exact fd_nl_none | assumption | exact nI_ne0 (by omega) (by omega) | exact fd_nb0 | exact fd_nb1 | exact fd_nbb | omega) only [fs_140_0, fs_140_1, fs_140_3, fs_140_4_p77 hk, fs_140_7, fs_140_10, fs_140_11, fs_140_12_p77 hk, fs_140_15, fs_140_16, fs_140_17, fs_140_18, fs_140_19, fs_140_20_p77 hk, fs_140_23, fs_140_24, fs_140_27, fs_140_29, fs_140_32, fs_140_33_p77 hk, fs_140_36, fs_140_37, fs_140_38, fs_140_39, fs_140_40_p77 hk, fs_140_43, fs_140_44, fs_140_47, fs_140_49, fs_140_52, fs_140_53_p77 hk, fs_140_56, fs_140_57_p77 hk, fs_140_60, fs_140_61, fs_140_62, fs_140_63_p77 hk, fs_140_66, fs_140_67, fs_140_70, fs_140_71, fs_140_74, fs_140_75, fs_140_76_p77 hk, fs_140_79, fs_140_80, fs_140_81_p82 hk, fs_140_82, fs_140_83_p77 hk, fs_140_86, fs_140_88, fs_140_89, fs_140_90, fs_140_91, fs_140_92_p77 hk, fs_140_95, fs_140_96, fs_140_99, fs_140_100, fs_140_103, fs_140_104, fs_140_105_p77 hk, fs_140_108, fs_140_109, fs_140_110_p82 hk, fs_140_111, fs_140_114, fs_140_117, Option.bind_some, Option.toList_some, Option.toList_none, List.cons_append, List.nil_append, fd_nb0, fd_nb1, fd_nbb, fd_b0, nI_add, pk_mul, ite_not, Classical.not_not, not_false_iff, not_true, and_self, or_true, true_or, ↓reduceIte, if_true, if_false, ite_self, fd_mI, fd_mH, fd_mL, fd_p0, fd_w0, fd_w1, fd_w2, fd_10, fd_00, hc, f3]
  | succ m ih =>
    intro s h g z e F
    have F0 := F
    simp only [fd_Fl, Nat.reduceAdd] at F0
    obtain ⟨⟨b1, b2, b3, b4⟩, ⟨f1, f2, f3, f4, f5, f6, f7⟩, _⟩ := F0
    have hc : ¬ nI ns ≤ nI s := nI_ge (by omega) (by omega)
    obtain ⟨h1, g1, v, r1, r2, F1, c1, m1⟩ := fd_eat2T hk F (show s < ns by omega) z
    obtain ⟨h2, g2, r3, r4, F2, c2, m2⟩ := ih (s + 1) h1 g1 (some (.int v)) (by omega) F1
    refine ⟨h2, g2, ?_, r2.trans r4, F2, fun q a1 a2 a3 => (c2 q a1 a2 a3).trans (c1 q a1 a2 a3), fun q a1 => (m2 q a1).trans (m1 q a1)⟩
    rw [fs_33_2]
    simp (disch := first | exact fd_nl_int | exact fd_nl_ref | exact fd_nl_none | assumption | exact nI_ne0 (by omega) (by omega) | exact fd_nb0 | exact fd_nb1 | exact fd_nbb | omega) only [fs_33_0, fs_33_1, fs_33_3, fs_33_4_p1 hk, fs_33_4_p20 hk, fs_33_7, fs_33_10, fs_33_11, fs_33_12_p1 hk, fs_33_12_p20 hk, fs_33_15, fs_33_18, fs_33_22_p1 hk, fs_33_22_p20 hk, fs_33_25, fs_33_26_p1 hk, fs_33_26_p20 hk, fs_33_29, fs_33_30, fs_33_31, fs_33_32, fs_33_33_p1 hk, fs_33_33_p20 hk, fs_33_36, fs_33_39, fs_33_40, fs_33_41_p1 hk, fs_33_41_p20 hk, fs_33_44, fs_33_47, fs_33_48_p1 hk, fs_33_48_p20 hk, fs_33_51, fs_33_52_p8 hk, fs_33_52_p27 hk, fs_33_53, fs_33_54_p1 hk, fs_33_54_p20 hk, fs_33_57, fs_33_58_p2 hk, fs_33_58_p21 hk, fs_33_59, fs_33_62, fs_33_63_p1 hk, fs_33_63_p20 hk, fs_33_66, fs_33_67, fs_33_68_p1 hk, fs_33_68_p20 hk, fs_33_71_p9 hk, fs_33_71_p28 hk, fs_33_72, fs_33_73_p1 hk, fs_33_73_p20 hk, fs_33_76, fs_33_77, fs_33_78_p10 hk, fs_33_78_p29 hk, fs_33_79, fs_33_82, fs_33_85, fs_33_86, fs_33_87_p1 hk, fs_33_87_p20 hk, fs_33_90, fs_33_91, fs_33_92_p1 hk, fs_33_92_p20 hk, fs_33_95, Option.bind_some, Option.toList_some, Option.toList_none, List.cons_append, List.nil_append, fd_nb0, fd_nb1, fd_nbb, fd_b0, nI_add, pk_mul, ite_not, Classical.not_not, not_false_iff, not_true, and_self, or_true, true_or, ↓reduceIte, if_true, if_false, ite_self, fd_mI, fd_mH, fd_mL, fd_p0, fd_w0, fd_w1, fd_w2, fd_10, fd_00, hc, f2, r1, r3]
theorem fd_hour2T (hk : fd_Sok k fb bb dr) {ns np nb t : Nat} (F : fd_Fl 20 h g ns np nb t) (ht : t + 1 ≤ 3000) : ∃ h' g' nb', fd_E 33 0 [some (.ref (20)), none] [] k h = some (none, (k, h')) ∧ fd_E 144 0 [some (.ref (77)), some (.int (nI (t))), none] [] k g = some (none, (k, g')) ∧ fd_Fl 20 h' g' ns np nb' (t + 1) ∧ (∀ q, ¬ (20 ≤ q ∧ q ≤ 38) → h'.1 q = h.1 q) ∧ (∀ q, ¬ q = 82 → ¬ q = 85 → ¬ q = 87 → ¬ q = 89 → ¬ q = 77 → g'.1 q = g.1 q) ∧ ∀ j, ¬ j = 18 → g'.1 77 j = g.1 77 j := by
  obtain ⟨h1, g1, e1, e2, F1, c1, m1⟩ := fd_eatLT hk ns 0 h g none (by omega) F
  obtain ⟨h2, g2, n2, e3, e4, F2, c2, m2, j2⟩ := fd_land2T hk F1
  obtain ⟨h3, g3, v, w, e5, e6, F3, c3, m3⟩ := fd_show2T hk F2
  have F0 := F3
  simp only [fd_Fl, Nat.reduceAdd] at F0
  obtain ⟨⟨b1, b2, b3, b4⟩, ⟨f1, f2, f3, f4, f5, f6, f7⟩, ⟨q1, q2, q3, q4⟩, S, O, T⟩ := F0
  obtain ⟨g4, e7, a1, a2⟩ := fm_mRst (t := t) hk b1 v w ns 0 g3 (by omega) f3
  obtain ⟨h5, e8, d1, d2, d3, d4⟩ := fd_yLT hk b1 ns 0 h3 (by omega) f2
  obtain ⟨g5, e9, l1, l2⟩ := fm_mYL (t := t) hk b1 ns 0 g4 (by omega) (by rw [a2 77 5 (by omega)]; exact f3)
  have ch : ∀ q, ¬ q = 20 → ¬ q = 28 → ¬ q = 29 → h5.1 q = h3.1 q := fun q y1 y2 y3 => funext fun j => d4 q j (fun y => y.1.elim y2 y3) (fun y => y1 y.1)
  have mh : ∀ q, ¬ q = 82 → g5.1 q = g3.1 q := fun q y1 => funext fun j => (l2 q j (fun y => y1 y.1)).trans (a2 q j (fun y => y1 y.1))
  refine ⟨h5, g5, n2, ?_, ?_, ?_, fun q hq => ?_, fun q y1 y2 y3 y4 y5 => ?_, fun j hj => ?_⟩
  · have hz : fd_E 33 0 [some (.ref (20)), none] [] k h = fd_E 33 2 [some (.ref (20)), some (.int (nI (0)))] [] k h := by
      simp (disch := first | exact fd_nl_int | exact fd_nl_ref | exact fd_nl_none | assumption | exact nI_ne0 (by omega) (by omega) | exact fd_nb0 | exact fd_nb1 | exact fd_nbb | omega) only [fs_33_0, fs_33_1, fs_33_3, fs_33_4_p1 hk, fs_33_4_p20 hk, fs_33_7, fs_33_10, fs_33_11, fs_33_12_p1 hk, fs_33_12_p20 hk, fs_33_15, fs_33_18, fs_33_21, fs_33_22_p1 hk, fs_33_22_p20 hk, fs_33_25, fs_33_26_p1 hk, fs_33_26_p20 hk, fs_33_29, fs_33_30, fs_33_31, fs_33_32, fs_33_33_p1 hk, fs_33_33_p20 hk, fs_33_36, fs_33_39, fs_33_40, fs_33_41_p1 hk, fs_33_41_p20 hk, fs_33_44, fs_33_47, fs_33_48_p1 hk, fs_33_48_p20 hk, fs_33_51, fs_33_52_p8 hk, fs_33_52_p27 hk, fs_33_53, fs_33_54_p1 hk, fs_33_54_p20 hk, fs_33_57, fs_33_58_p2 hk, fs_33_58_p21 hk, fs_33_59, fs_33_62, fs_33_63_p1 hk, fs_33_63_p20 hk, fs_33_66, fs_33_67, fs_33_68_p1 hk, fs_33_68_p20 hk, fs_33_71_p9 hk, fs_33_71_p28 hk, fs_33_72, fs_33_73_p1 hk, fs_33_73_p20 hk, fs_33_76, fs_33_77, fs_33_78_p10 hk, fs_33_78_p29 hk, fs_33_79, fs_33_82, fs_33_85, fs_33_86, fs_33_87_p1 hk, fs_33_87_p20 hk, fs_33_90, fs_33_91, fs_33_92_p1 hk, fs_33_92_p20 hk, fs_33_95, Option.bind_some, Option.toList_some, Option.toList_none, List.cons_append, List.nil_append, fd_nb0, fd_nb1, fd_nbb, fd_b0, nI_add, pk_mul, ite_not, Classical.not_not, not_false_iff, not_true, and_self, or_true, true_or, ↓reduceIte, if_true, if_false, ite_self, fd_mI, fd_mH, fd_mL, fd_p0, fd_w0, fd_w1, fd_w2, fd_10, fd_00]
    rw [hz, e1]
    simp (disch := first | exact fd_nl_int | exact fd_nl_ref | exact fd_nl_none | assumption | exact nI_ne0 (by omega) (by omega) | exact fd_nb0 | exact fd_nb1 | exact fd_nbb | omega) only [fs_33_0, fs_33_1, fs_33_2, fs_33_3, fs_33_4_p1 hk, fs_33_4_p20 hk, fs_33_7, fs_33_10, fs_33_11, fs_33_12_p1 hk, fs_33_12_p20 hk, fs_33_15, fs_33_18, fs_33_21, fs_33_22_p1 hk, fs_33_22_p20 hk, fs_33_25, fs_33_26_p1 hk, fs_33_26_p20 hk, fs_33_29, fs_33_30, fs_33_32, fs_33_33_p1 hk, fs_33_33_p20 hk, fs_33_36, fs_33_39, fs_33_40, fs_33_41_p1 hk, fs_33_41_p20 hk, fs_33_44, fs_33_47, fs_33_48_p1 hk, fs_33_48_p20 hk, fs_33_51, fs_33_52_p8 hk, fs_33_52_p27 hk, fs_33_53, fs_33_54_p1 hk, fs_33_54_p20 hk, fs_33_57, fs_33_58_p2 hk, fs_33_58_p21 hk, fs_33_59, fs_33_62, fs_33_63_p1 hk, fs_33_63_p20 hk, fs_33_66, fs_33_67, fs_33_68_p1 hk, fs_33_68_p20 hk, fs_33_71_p9 hk, fs_33_71_p28 hk, fs_33_72, fs_33_73_p1 hk, fs_33_73_p20 hk, fs_33_76, fs_33_77, fs_33_78_p10 hk, fs_33_78_p29 hk, fs_33_79, fs_33_82, fs_33_85, fs_33_86, fs_33_87_p1 hk, fs_33_87_p20 hk, fs_33_90, fs_33_91, fs_33_92_p1 hk, fs_33_92_p20 hk, fs_33_95, Option.bind_some, Option.toList_some, Option.toList_none, List.cons_append, List.nil_append, fd_nb0, fd_nb1, fd_nbb, fd_b0, nI_add, pk_mul, ite_not, Classical.not_not, not_false_iff, not_true, and_self, or_true, true_or, ↓reduceIte, if_true, if_false, ite_self, fd_mI, fd_mH, fd_mL, fd_p0, fd_w0, fd_w1, fd_w2, fd_10, fd_00, e3, e5, e8]
  · have hz : fd_E 140 0 [some (.ref (77)), none, none] [] k g = some (none, (k, g1)) := by
      simp (disch := first | exact fd_nl_int | exact fd_nl_ref | exact fd_nl_none | assumption | exact nI_ne0 (by omega) (by omega) | exact fd_nb0 | exact fd_nb1 | exact fd_nbb | omega) only [fs_140_0, fs_140_1, fs_140_3, fs_140_4_p77 hk, fs_140_7, fs_140_10, fs_140_11, fs_140_12_p77 hk, fs_140_15, fs_140_16, fs_140_17, fs_140_18, fs_140_19, fs_140_20_p77 hk, fs_140_23, fs_140_24, fs_140_27, fs_140_29, fs_140_32, fs_140_33_p77 hk, fs_140_36, fs_140_37, fs_140_38, fs_140_39, fs_140_40_p77 hk, fs_140_43, fs_140_44, fs_140_47, fs_140_49, fs_140_52, fs_140_53_p77 hk, fs_140_56, fs_140_57_p77 hk, fs_140_60, fs_140_61, fs_140_62, fs_140_63_p77 hk, fs_140_66, fs_140_67, fs_140_70, fs_140_71, fs_140_74, fs_140_75, fs_140_76_p77 hk, fs_140_79, fs_140_80, fs_140_81_p82 hk, fs_140_82, fs_140_83_p77 hk, fs_140_86, fs_140_88, fs_140_89, fs_140_90, fs_140_91, fs_140_92_p77 hk, fs_140_95, fs_140_96, fs_140_99, fs_140_100, fs_140_103, fs_140_104, fs_140_105_p77 hk, fs_140_108, fs_140_109, fs_140_110_p82 hk, fs_140_111, fs_140_114, fs_140_117, Option.bind_some, Option.toList_some, Option.toList_none, List.cons_append, List.nil_append, fd_nb0, fd_nb1, fd_nbb, fd_b0, nI_add, pk_mul, ite_not, Classical.not_not, not_false_iff, not_true, and_self, or_true, true_or, ↓reduceIte, if_true, if_false, ite_self, fd_mI, fd_mH, fd_mL, fd_p0, fd_w0, fd_w1, fd_w2, fd_10, fd_00, e2]
    have h3z : fd_E 143 0 [some (.ref (77)), some (.int (nI (t))), none, none, none] [] k g2 = some (none, (k, g4)) := e6.trans e7
    simp (disch := first | exact fd_nl_int | exact fd_nl_ref | exact fd_nl_none | assumption | exact nI_ne0 (by omega) (by omega) | exact fd_nb0 | exact fd_nb1 | exact fd_nbb | omega) only [fs_144_0, fs_144_1_p77 hk, fs_144_4, fs_144_5, fs_144_6_p77 hk, fs_144_9, fs_144_10, fs_144_11_p77 hk, fs_144_14, fs_144_15, fs_144_17, fs_144_18_p77 hk, fs_144_21, fs_144_24, fs_144_25_p77 hk, fs_144_28, fs_144_30, fs_144_31, fs_144_32, fs_144_33, fs_144_34_p77 hk, fs_144_37, fs_144_40, fs_144_41, fs_144_42_p77 hk, fs_144_45, fs_144_46_p77 hk, fs_144_49, fs_144_52, fs_144_53, fs_144_56, fs_144_57_p77 hk, fs_144_60, fs_144_62, fs_144_63, fs_144_64_p82 hk, fs_144_65_p82 hk, fs_144_66, fs_144_69, fs_144_72, Option.bind_some, Option.toList_some, Option.toList_none, List.cons_append, List.nil_append, fd_nb0, fd_nb1, fd_nbb, fd_b0, nI_add, pk_mul, ite_not, Classical.not_not, not_false_iff, not_true, and_self, or_true, true_or, ↓reduceIte, if_true, if_false, ite_self, fd_mI, fd_mH, fd_mL, fd_p0, fd_w0, fd_w1, fd_w2, fd_10, fd_00, hz, e4, h3z, e9]
  · simp only [fd_Fl, Nat.reduceAdd]
    simp (disch := omega) only [ch, mh]
    rw [d4 20 1 (by omega) (by omega), d4 20 2 (by omega) (by omega), d3, f1]
    refine ⟨⟨b1, b2, b3, ht⟩, ⟨nI_add t 1, f2, f3, f4, f5, f6, f7⟩, ⟨q1, q2, q3, q4⟩, fun s hs => ?_, O, fun i hi => ?_⟩
    · have q' := S s hs
      simp only [fd_S1, Nat.reduceAdd] at q' ⊢
      simp (disch := omega) only [ch, mh]
      obtain ⟨r1, r2, r3, r4, r5, r6, r7, r8, r9, r10⟩ := q'
      have k0 : g5.1 82 s = g3.1 82 s := (l2 82 s (by omega)).trans (a2 82 s (by omega))
      have k1 : g5.1 82 (6 + s) = g3.1 82 (6 + s) := (l2 82 (6 + s) (by omega)).trans (a2 82 (6 + s) (by omega))
      have k2 : g5.1 82 (12 + s) = g3.1 82 (12 + s) := (l2 82 (12 + s) (by omega)).trans (a2 82 (12 + s) (by omega))
      have k4 : g5.1 82 (24 + s) = -1 := (l2 82 (24 + s) (by omega)).trans (a1 s (by omega) hs)
      have k3 := l1 s (by omega) hs
      rw [a2 82 (18 + s) (by omega), a2 82 (12 + s) (by omega), a2 77 3 (by omega)] at k3
      rw [k0, k1, k2, k4, k3, d1 s (by omega) hs, d2 s (by omega) hs, f1]
      refine ⟨r1, r2, r3, r4, r5, r6, ?_, rfl, Or.inl rfl, fun o' ho' => ⟨(r10 o' ho').1, (r10 o' ho').2.1, (r10 o' ho').2.2.imp id (fun ⟨x, x1, x2⟩ => ⟨x, by omega, x2⟩)⟩⟩
      rw [r7, fd_bde r6, fd_bde q3]
    · have q' := T i hi
      simp only [fd_B1, Nat.reduceAdd] at q' ⊢
      simp (disch := omega) only [ch, mh]
      exact q'
  · rw [ch q (by omega) (by omega) (by omega), c3 q (by omega) (by omega), c2 q (by omega), c1 q (by omega) (by omega) (by omega)]
  · rw [mh q y1, m3 q y1 y3, m2 q y1 y2 y4 y5, m1 q y1]
  · rw [mh 77 (by decide), m3 77 (by decide) (by decide), j2 j hj, m1 77 (by decide)]
theorem fd_Fl_hT {ns np nb t : Nat} (F : fd_Fl 20 h g ns np nb t) (c : ∀ q, 20 ≤ q → q ≤ 38 → h'.1 q = h.1 q) : fd_Fl 20 h' g ns np nb t := by
  unfold fd_Fl fd_S1 fd_B1 at F ⊢
  simp only [Nat.reduceAdd] at F ⊢
  simp (disch := omega) only [c]
  exact F
theorem fd_Fl_gT {ns np nb t : Nat} (F : fd_Fl 20 h g ns np nb t) (c : ∀ q, ¬ q = 77 → 78 ≤ q → q ≤ 89 → ¬ q = 81 → ¬ q = 83 → ¬ q = 86 → ¬ q = 88 → g'.1 q = g.1 q) (d : ∀ j, 1 ≤ j → j ≤ 18 → g'.1 77 j = g.1 77 j) : fd_Fl 20 h g' ns np nb t := by
  unfold fd_Fl fd_S1 fd_B1 at F ⊢
  simp only [Nat.reduceAdd] at F ⊢
  simp (disch := omega) only [c, d]
  exact F
theorem fd_hoursL (hk : fd_Sok k fb bb dr) {ns np n : Nat} : ∀ (m i t nb : Nat) (h g : fd_Hp), i + m = n → n ≤ 60 → t + m ≤ 3000 → fd_Fl 1 h g ns np nb t → g.1 77 0 = nI t → ∃ h' g' nb', fd_E 32 2 [some (.ref (1)), some (.int (nI (n))), some (.int (nI (i)))] [] k h = some (none, (k, h')) ∧ fd_E 145 27 [some (.ref (77)), some (.int (nI (n))), some (.int (nI (i)))] [] k g = some (some (.int (nI (t + m))), (k, g')) ∧ fd_Fl 1 h' g' ns np nb' (t + m) ∧ g'.1 77 0 = nI (t + m) ∧ (∀ q, ¬ (1 ≤ q ∧ q ≤ 19) → h'.1 q = h.1 q) ∧ (∀ q, ¬ q = 82 → ¬ q = 85 → ¬ q = 87 → ¬ q = 89 → ¬ q = 77 → g'.1 q = g.1 q) ∧ ∀ j, ¬ j = 18 → ¬ j = 0 → g'.1 77 j = g.1 77 j := by
  intro m
  induction m with
  | zero =>
    intro i t nb h g e hn ht F e0
    obtain rfl : i = n := by omega
    have hc : nI i ≤ nI i := nI_le (by omega) (by omega)
    refine ⟨h, g, nb, ?_, ?_, F, e0, fun _ _ => rfl, fun _ _ _ _ _ _ => rfl, fun _ _ _ => rfl⟩
    · rw [fs_32_2]
      simp (disch := first | exact fd_nl_int | exact fd_nl_ref | exact fd_nl_none | assumption | exact nI_ne0 (by omega) (by omega) | exact fd_nb0 | exact fd_nb1 | exact fd_nbb | omega) only [fs_32_0, fs_32_1, fs_32_3, fs_32_4, fs_32_7, fs_32_8_p1 hk, fs_32_8_p20 hk, fs_32_11, fs_32_14, fs_32_17, Option.bind_some, Option.toList_some, Option.toList_none, List.cons_append, List.nil_append, fd_nb0, fd_nb1, fd_nbb, fd_b0, nI_add, pk_mul, ite_not, Classical.not_not, not_false_iff, not_true, and_self, or_true, true_or, ↓reduceIte, if_true, if_false, ite_self, fd_mI, fd_mH, fd_mL, fd_p0, fd_w0, fd_w1, fd_w2, fd_10, fd_00, hc]
    · rw [fs_145_27]
      simp (disch := first | exact fd_nl_int | exact fd_nl_ref | exact fd_nl_none | assumption | exact nI_ne0 (by omega) (by omega) | exact fd_nb0 | exact fd_nb1 | exact fd_nbb | omega) only [fs_145_0, fs_145_1, fs_145_2, fs_145_4, fs_145_7, fs_145_10, fs_145_11_p77 hk, fs_145_14, fs_145_15, fs_145_16, fs_145_19, fs_145_22, fs_145_24, fs_145_25, fs_145_26, fs_145_28, fs_145_29, fs_145_32, fs_145_33, fs_145_34_p77 hk, fs_145_37_p77 hk, fs_145_40, fs_145_41, fs_145_42_p77 hk, fs_145_45, fs_145_46, fs_145_47_p77 hk, fs_145_50, fs_145_53, fs_145_56, fs_145_57_p77 hk, fs_145_60, Option.bind_some, Option.toList_some, Option.toList_none, List.cons_append, List.nil_append, fd_nb0, fd_nb1, fd_nbb, fd_b0, nI_add, pk_mul, ite_not, Classical.not_not, not_false_iff, not_true, and_self, or_true, true_or, ↓reduceIte, if_true, if_false, ite_self, fd_mI, fd_mH, fd_mL, fd_p0, fd_w0, fd_w1, fd_w2, fd_10, fd_00, hc, e0]
      rfl
  | succ m ih =>
    intro i t nb h g e hn ht F e0
    have hc : ¬ nI n ≤ nI i := nI_ge (by omega) (by omega)
    obtain ⟨h1, g1, nb1, r1, r2, F1, c1, m1, j1⟩ := fd_hour2 hk F (by omega)
    have e1 : g1.1 77 0 = nI t := (j1 0 (by decide)).trans e0
    obtain ⟨h2, g2, nb2, r3, r4, F2, e2, c2, m2, j2⟩ := ih (i + 1) (t + 1) nb1 h1 (fd_w g1 77 0 (nI (t + 1))) (by omega) hn (by omega) (fd_Fl_g F1 (fun q y _ _ _ _ _ _ => fd_wp y) (fun j y _ => fd_w2 (by omega))) fd_w0
    rw [show t + 1 + m = t + (m + 1) by omega] at r4 F2 e2
    refine ⟨h2, g2, nb2, ?_, ?_, F2, e2, fun q y => (c2 q y).trans (c1 q y), fun q y1 y2 y3 y4 y5 => ?_, fun j y1 y2 => ?_⟩
    · rw [fs_32_2]
      simp (disch := first | exact fd_nl_int | exact fd_nl_ref | exact fd_nl_none | assumption | exact nI_ne0 (by omega) (by omega) | exact fd_nb0 | exact fd_nb1 | exact fd_nbb | omega) only [fs_32_0, fs_32_1, fs_32_3, fs_32_4, fs_32_7, fs_32_8_p1 hk, fs_32_8_p20 hk, fs_32_11, fs_32_14, fs_32_17, Option.bind_some, Option.toList_some, Option.toList_none, List.cons_append, List.nil_append, fd_nb0, fd_nb1, fd_nbb, fd_b0, nI_add, pk_mul, ite_not, Classical.not_not, not_false_iff, not_true, and_self, or_true, true_or, ↓reduceIte, if_true, if_false, ite_self, fd_mI, fd_mH, fd_mL, fd_p0, fd_w0, fd_w1, fd_w2, fd_10, fd_00, hc, r1, r3]
    · rw [fs_145_27]
      simp (disch := first | exact fd_nl_int | exact fd_nl_ref | exact fd_nl_none | assumption | exact nI_ne0 (by omega) (by omega) | exact fd_nb0 | exact fd_nb1 | exact fd_nbb | omega) only [fs_145_0, fs_145_1, fs_145_2, fs_145_4, fs_145_7, fs_145_10, fs_145_11_p77 hk, fs_145_14, fs_145_15, fs_145_16, fs_145_19, fs_145_22, fs_145_24, fs_145_25, fs_145_26, fs_145_28, fs_145_29, fs_145_32, fs_145_33, fs_145_34_p77 hk, fs_145_37_p77 hk, fs_145_40, fs_145_41, fs_145_42_p77 hk, fs_145_45, fs_145_46, fs_145_47_p77 hk, fs_145_50, fs_145_53, fs_145_56, fs_145_57_p77 hk, fs_145_60, Option.bind_some, Option.toList_some, Option.toList_none, List.cons_append, List.nil_append, fd_nb0, fd_nb1, fd_nbb, fd_b0, nI_add, pk_mul, ite_not, Classical.not_not, not_false_iff, not_true, and_self, or_true, true_or, ↓reduceIte, if_true, if_false, ite_self, fd_mI, fd_mH, fd_mL, fd_p0, fd_w0, fd_w1, fd_w2, fd_10, fd_00, hc, e0, r2, e1, r4]
    · rw [m2 q y1 y2 y3 y4 y5, fd_wp y5, m1 q y1 y2 y3 y4 y5]
    · rw [j2 j y1 y2, fd_w2 y2, j1 j y1]
theorem fd_hoursW (hk : fd_Sok k fb bb dr) {ns np n t0 s : Nat} {x : Int32} : ∀ (m i nb : Nat) (h g : fd_Hp), i + m = n → n ≤ 60 → t0 + n ≤ 3000 → fd_Fl 20 h g ns np nb (t0 + i) → g.1 77 0 = nI t0 → ∃ h' g' nb', fd_E 32 2 [some (.ref (20)), some (.int (nI (n))), some (.int (nI (i)))] [] k h = some (none, (k, h')) ∧ fd_E 152 65 [some (.ref (77)), some (.int (nI (s))), some (.int (x)), some (.int (nI (n))), some (.int (nI (i)))] [] k g = fd_E 152 88 [some (.ref (77)), some (.int (nI (s))), some (.int (x)), some (.int (nI (n))), some (.int (nI (n)))] [] k g' ∧ fd_Fl 20 h' g' ns np nb' (t0 + n) ∧ (∀ q, ¬ (20 ≤ q ∧ q ≤ 38) → h'.1 q = h.1 q) ∧ (∀ q, ¬ q = 82 → ¬ q = 85 → ¬ q = 87 → ¬ q = 89 → ¬ q = 77 → g'.1 q = g.1 q) ∧ ∀ j, ¬ j = 18 → g'.1 77 j = g.1 77 j := by
  intro m
  induction m with
  | zero =>
    intro i nb h g e hn ht F e0
    obtain rfl : i = n := by omega
    have hc : nI i ≤ nI i := nI_le (by omega) (by omega)
    refine ⟨h, g, nb, ?_, ?_, F, fun _ _ => rfl, fun _ _ _ _ _ _ => rfl, fun _ _ => rfl⟩
    · rw [fs_32_2]
      simp (disch := first | exact fd_nl_int | exact fd_nl_ref | exact fd_nl_none | assumption | exact nI_ne0 (by omega) (by omega) | exact fd_nb0 | exact fd_nb1 | exact fd_nbb | omega) only [fs_32_0, fs_32_1, fs_32_3, fs_32_4, fs_32_7, fs_32_8_p1 hk, fs_32_8_p20 hk, fs_32_11, fs_32_14, fs_32_17, Option.bind_some, Option.toList_some, Option.toList_none, List.cons_append, List.nil_append, fd_nb0, fd_nb1, fd_nbb, fd_b0, nI_add, pk_mul, ite_not, Classical.not_not, not_false_iff, not_true, and_self, or_true, true_or, ↓reduceIte, if_true, if_false, ite_self, fd_mI, fd_mH, fd_mL, fd_p0, fd_w0, fd_w1, fd_w2, fd_10, fd_00, hc]
    · rw [fs_152_65]
      simp (disch := first | exact fd_nl_int | exact fd_nl_ref | exact fd_nl_none | assumption | exact nI_ne0 (by omega) (by omega) | exact fd_nb0 | exact fd_nb1 | exact fd_nbb | omega) only [fs_152_0, fs_152_1, fs_152_2_p77 hk, fs_152_5, fs_152_8, fs_152_10, fs_152_11, fs_152_12, fs_152_13, fs_152_15, fs_152_18, fs_152_21, fs_152_22, fs_152_23, fs_152_25, fs_152_28, fs_152_31, fs_152_32_p77 hk, fs_152_35, fs_152_36, fs_152_37, fs_152_40, fs_152_43, fs_152_45, fs_152_46, fs_152_47, fs_152_48_p77 hk, fs_152_51, fs_152_52, fs_152_53, fs_152_56, fs_152_57, fs_152_58, fs_152_59_p77 hk, fs_152_62, fs_152_63, fs_152_67, fs_152_68, fs_152_71, fs_152_72, fs_152_73_p77 hk, fs_152_76, fs_152_78, fs_152_79_p77 hk, fs_152_82, fs_152_85, fs_152_89_p77 hk, fs_152_92, fs_152_94, fs_152_95, fs_152_96_p77 hk, fs_152_99, fs_152_101, Option.bind_some, Option.toList_some, Option.toList_none, List.cons_append, List.nil_append, fd_nb0, fd_nb1, fd_nbb, fd_b0, nI_add, pk_mul, ite_not, Classical.not_not, not_false_iff, not_true, and_self, or_true, true_or, ↓reduceIte, if_true, if_false, ite_self, fd_mI, fd_mH, fd_mL, fd_p0, fd_w0, fd_w1, fd_w2, fd_10, fd_00, hc]
  | succ m ih =>
    intro i nb h g e hn ht F e0
    have hc : ¬ nI n ≤ nI i := nI_ge (by omega) (by omega)
    obtain ⟨h1, g1, nb1, r1, r2, F1, c1, m1, j1⟩ := fd_hour2T hk F (by omega)
    obtain ⟨h2, g2, nb2, r3, r4, F2, c2, m2, j2⟩ := ih (i + 1) nb1 h1 g1 (by omega) hn ht F1 ((j1 0 (by decide)).trans e0)
    refine ⟨h2, g2, nb2, ?_, ?_, F2, fun q y => (c2 q y).trans (c1 q y), fun q y1 y2 y3 y4 y5 => (m2 q y1 y2 y3 y4 y5).trans (m1 q y1 y2 y3 y4 y5), fun j y1 => (j2 j y1).trans (j1 j y1)⟩
    · rw [fs_32_2]
      simp (disch := first | exact fd_nl_int | exact fd_nl_ref | exact fd_nl_none | assumption | exact nI_ne0 (by omega) (by omega) | exact fd_nb0 | exact fd_nb1 | exact fd_nbb | omega) only [fs_32_0, fs_32_1, fs_32_3, fs_32_4, fs_32_7, fs_32_8_p1 hk, fs_32_8_p20 hk, fs_32_11, fs_32_14, fs_32_17, Option.bind_some, Option.toList_some, Option.toList_none, List.cons_append, List.nil_append, fd_nb0, fd_nb1, fd_nbb, fd_b0, nI_add, pk_mul, ite_not, Classical.not_not, not_false_iff, not_true, and_self, or_true, true_or, ↓reduceIte, if_true, if_false, ite_self, fd_mI, fd_mH, fd_mL, fd_p0, fd_w0, fd_w1, fd_w2, fd_10, fd_00, hc, r1, r3]
    · rw [fs_152_65]
      simp (disch := first | exact fd_nl_int | exact fd_nl_ref | exact fd_nl_none | assumption | exact nI_ne0 (by omega) (by omega) | exact fd_nb0 | exact fd_nb1 | exact fd_nbb | omega) only [fs_152_0, fs_152_1, fs_152_2_p77 hk, fs_152_5, fs_152_8, fs_152_10, fs_152_11, fs_152_12, fs_152_13, fs_152_15, fs_152_18, fs_152_21, fs_152_22, fs_152_23, fs_152_25, fs_152_28, fs_152_31, fs_152_32_p77 hk, fs_152_35, fs_152_36, fs_152_37, fs_152_40, fs_152_43, fs_152_45, fs_152_46, fs_152_47, fs_152_48_p77 hk, fs_152_51, fs_152_52, fs_152_53, fs_152_56, fs_152_57, fs_152_58, fs_152_59_p77 hk, fs_152_62, fs_152_63, fs_152_67, fs_152_68, fs_152_71, fs_152_72, fs_152_73_p77 hk, fs_152_76, fs_152_78, fs_152_79_p77 hk, fs_152_82, fs_152_85, fs_152_89_p77 hk, fs_152_92, fs_152_94, fs_152_95, fs_152_96_p77 hk, fs_152_99, fs_152_101, Option.bind_some, Option.toList_some, Option.toList_none, List.cons_append, List.nil_append, fd_nb0, fd_nb1, fd_nbb, fd_b0, nI_add, pk_mul, ite_not, Classical.not_not, not_false_iff, not_true, and_self, or_true, true_or, ↓reduceIte, if_true, if_false, ite_self, fd_mI, fd_mH, fd_mL, fd_p0, fd_w0, fd_w1, fd_w2, fd_10, fd_00, hc, e0, r2, r4]
theorem fd_addL {t n : Nat} (ht : t ≤ 3000) (hn : n ≤ 60) : (¬ nI 3000 < nI t + nI n) ↔ t + n ≤ 3000 := by
  rw [nI_add, nI_ltI (by omega) (by omega)]
  omega
theorem fc_hours (I : fd_Inv k h) (x : Int32) : fd_Ag k h 74 [some (.ref (0)), some (.int (x))] 145 [some (.ref (77)), some (.int (x)), none] := by
  have I0 := I; obtain ⟨fb, bb, dr, ns, np, nb, t, hk, F, ht, TX, B0, B1, FE, BA, OF, PL⟩ := I0; have F0 := F; simp only [fd_Fl, Nat.reduceAdd] at F0; obtain ⟨⟨b1, b2, b3, b4⟩, ⟨f1, f2, f3, f4, f5, f6, f7⟩, ⟨g1, g2, g3, g4⟩, S, O, T⟩ := F0
  by_cases c1 : fd_wi x (nI 1) (nI 60)
  · obtain ⟨n, n1, n2, rfl⟩ := (fd_argL (by omega) (by omega)).mp c1
    by_cases c2 : t + n ≤ 3000
    · have c2' := (fd_addL b4 n2).mpr c2
      have c3 := Int32.not_lt.mp c2'
      rw [nI_add] at c2' c3
      obtain ⟨h1, g1, nb1, r1, r2, F1, e1, k1, m1, j1⟩ := fd_hoursL hk n 0 t nb h h (by omega) n2 c2 F ht
      obtain ⟨h2, g2, nb2, r3, r4, F2, e2, k2, m2, j2⟩ := fd_hoursL hk n 0 t nb h h1 (by omega) n2 c2 (fd_Fl_g F (fun q _ y1 _ _ _ _ _ => k1 q (by omega)) (fun j _ _ => by rw [k1 77 (by omega)])) (by rw [k1 77 (by omega)]; exact ht)
      have e3 : h2 = h1 := by
        have := r3.symm.trans r1
        injection this with this
        injection this with _ this
        injection this
      subst e3
      have G : ∀ q, ¬ (1 ≤ q ∧ q ≤ 19) → ¬ q = 82 → ¬ q = 85 → ¬ q = 87 → ¬ q = 89 → ¬ q = 77 → g2.1 q = h.1 q := fun q y0 y1 y2 y3 y4 y5 => (m2 q y1 y2 y3 y4 y5).trans (k2 q y0)
      have J : ∀ j, ¬ j = 18 → ¬ j = 0 → g2.1 77 j = h.1 77 j := fun j y1 y2 => (j2 j y1 y2).trans (by rw [k2 77 (by omega)])
      have FF : fd_Fl 1 g2 g2 ns np nb2 (t + n) := fd_Fl_h F2 (fun q y1 y2 => m2 q (by omega) (by omega) (by omega) (by omega) (by omega))
      have F9 := F2
      simp only [fd_Fl] at F9
      have f9 := F9.2.1.1
      refine ⟨nI (t + n), k, h2, g2, ?_, ?_, ⟨fb, bb, dr, ns, np, nb2, t + n, hk, FF, e2, fd_Itx_fr (by simp (disch := omega) only [G, J, and_self]) TX, fd_Bk_fr hk.2.2.2.2.2.2.1 (by simp (disch := omega) only [G, J, and_self]) B0, fd_Bk_fr hk.2.2.2.2.2.2.2.1 (by simp (disch := omega) only [G, J, and_self]) B1, fd_Ife_fr (by simp (disch := omega) only [G, J, and_self]) FE, fd_Iba_fr (by simp (disch := omega) only [G, J, and_self]) BA, fd_Iof_fr (by simp (disch := omega) only [G, J, and_self]) OF, fd_Ipl_fr (by simp (disch := omega) only [G, J, and_self]) PL⟩, rfl⟩
      · have r0 : fd_E 32 0 [some (.ref (1)), some (.int (nI (n))), none] [] k h = some (none, (k, h2)) := by
          simp (disch := first | exact fd_nl_int | exact fd_nl_ref | exact fd_nl_none | assumption | exact nI_ne0 (by omega) (by omega) | exact fd_nb0 | exact fd_nb1 | exact fd_nbb | omega) only [fs_32_0, fs_32_1, fs_32_3, fs_32_4, fs_32_7, fs_32_8_p1 hk, fs_32_8_p20 hk, fs_32_11, fs_32_14, fs_32_17, Option.bind_some, Option.toList_some, Option.toList_none, List.cons_append, List.nil_append, fd_nb0, fd_nb1, fd_nbb, fd_b0, nI_add, pk_mul, ite_not, Classical.not_not, not_false_iff, not_true, and_self, or_true, true_or, ↓reduceIte, if_true, if_false, ite_self, fd_mI, fd_mH, fd_mL, fd_p0, fd_w0, fd_w1, fd_w2, fd_10, fd_00, r1]
        have c9 := eq_true c1
        simp (disch := first | exact fd_nl_int | exact fd_nl_ref | exact fd_nl_none | assumption | exact nI_ne0 (by omega) (by omega) | exact fd_nb0 | exact fd_nb1 | exact fd_nbb | omega) only [fs_74_0, fs_74_1, fs_74_2_p0 hk, fs_74_5, fs_74_8, fs_74_10, fs_74_11, fs_74_12_p0 hk, fs_74_15, fs_74_16_p1 hk, fs_74_19, fs_74_20_p0 hk, fs_74_23_p1 hk, fs_74_26, Option.bind_some, Option.toList_some, Option.toList_none, List.cons_append, List.nil_append, fd_nb0, fd_nb1, fd_nbb, fd_b0, nI_add, pk_mul, ite_not, Classical.not_not, not_false_iff, not_true, and_self, or_true, true_or, ↓reduceIte, if_true, if_false, ite_self, fd_mI, fd_mH, fd_mL, fd_p0, fd_w0, fd_w1, fd_w2, fd_10, fd_00, fm_isShip hk, fm_isHour, fm_isBook, fm_within, fm_isCell, fm_canPass hk, f1, f2, f4, c9, c2', r0, f9]
      · have e0 : h2.1 77 0 = nI t := by rw [k2 77 (by omega)]; exact ht
        simp (disch := first | exact fd_nl_int | exact fd_nl_ref | exact fd_nl_none | assumption | exact nI_ne0 (by omega) (by omega) | exact fd_nb0 | exact fd_nb1 | exact fd_nbb | omega) only [fs_145_0, fs_145_1, fs_145_2, fs_145_4, fs_145_7, fs_145_10, fs_145_11_p77 hk, fs_145_14, fs_145_15, fs_145_16, fs_145_19, fs_145_22, fs_145_24, fs_145_25, fs_145_26, fs_145_28, fs_145_29, fs_145_32, fs_145_33, fs_145_34_p77 hk, fs_145_37_p77 hk, fs_145_40, fs_145_41, fs_145_42_p77 hk, fs_145_45, fs_145_46, fs_145_47_p77 hk, fs_145_50, fs_145_53, fs_145_56, fs_145_57_p77 hk, fs_145_60, Option.bind_some, Option.toList_some, Option.toList_none, List.cons_append, List.nil_append, fd_nb0, fd_nb1, fd_nbb, fd_b0, nI_add, pk_mul, ite_not, Classical.not_not, not_false_iff, not_true, and_self, or_true, true_or, ↓reduceIte, if_true, if_false, ite_self, fd_mI, fd_mH, fd_mL, fd_p0, fd_w0, fd_w1, fd_w2, fd_10, fd_00, fm_mIn, eq_true c1, e0, c3, r4]
    · have c2' : ¬ ¬ nI 3000 < nI t + nI n := fun z => c2 ((fd_addL b4 n2).mp z)
      have c4 := Classical.not_not.mp c2'
      have c3 : ¬ nI t + nI n ≤ nI 3000 := Int32.not_le.mpr c4
      rw [nI_add] at c3 c4
      exact fd_ag_ro I (v := -3) (w := -3) (by simp (disch := first | exact fd_nl_int | exact fd_nl_ref | exact fd_nl_none | assumption | exact nI_ne0 (by omega) (by omega) | exact fd_nb0 | exact fd_nb1 | exact fd_nbb | omega) only [fs_74_0, fs_74_1, fs_74_2_p0 hk, fs_74_5, fs_74_8, fs_74_10, fs_74_11, fs_74_12_p0 hk, fs_74_15, fs_74_16_p1 hk, fs_74_19, fs_74_20_p0 hk, fs_74_23_p1 hk, fs_74_26, Option.bind_some, Option.toList_some, Option.toList_none, List.cons_append, List.nil_append, fd_nb0, fd_nb1, fd_nbb, fd_b0, nI_add, pk_mul, ite_not, Classical.not_not, not_false_iff, not_true, and_self, or_true, true_or, ↓reduceIte, if_true, if_false, ite_self, fd_mI, fd_mH, fd_mL, fd_p0, fd_w0, fd_w1, fd_w2, fd_10, fd_00, fm_isShip hk, fm_isHour, fm_isBook, fm_within, fm_isCell, fm_canPass hk, f1, f2, f4, eq_true c1, c4, c3, and_false]) (by simp (disch := first | exact fd_nl_int | exact fd_nl_ref | exact fd_nl_none | assumption | exact nI_ne0 (by omega) (by omega) | exact fd_nb0 | exact fd_nb1 | exact fd_nbb | omega) only [fs_145_0, fs_145_1, fs_145_2, fs_145_4, fs_145_7, fs_145_10, fs_145_11_p77 hk, fs_145_14, fs_145_15, fs_145_16, fs_145_19, fs_145_22, fs_145_24, fs_145_25, fs_145_26, fs_145_27, fs_145_28, fs_145_29, fs_145_32, fs_145_33, fs_145_34_p77 hk, fs_145_37_p77 hk, fs_145_40, fs_145_41, fs_145_42_p77 hk, fs_145_45, fs_145_46, fs_145_47_p77 hk, fs_145_50, fs_145_53, fs_145_56, fs_145_57_p77 hk, fs_145_60, Option.bind_some, Option.toList_some, Option.toList_none, List.cons_append, List.nil_append, fd_nb0, fd_nb1, fd_nbb, fd_b0, nI_add, pk_mul, ite_not, Classical.not_not, not_false_iff, not_true, and_self, or_true, true_or, ↓reduceIte, if_true, if_false, ite_self, fd_mI, fd_mH, fd_mL, fd_p0, fd_w0, fd_w1, fd_w2, fd_10, fd_00, fm_mIsShip hk, fm_mIn, fm_mIsHour, fm_mIsBook, fm_mIsCell, f3, f5, ht, eq_true c1, c4, c3, and_false]) rfl
  · exact fd_ag_ro I (v := -3) (w := -3) (by simp (disch := first | exact fd_nl_int | exact fd_nl_ref | exact fd_nl_none | assumption | exact nI_ne0 (by omega) (by omega) | exact fd_nb0 | exact fd_nb1 | exact fd_nbb | omega) only [fs_74_0, fs_74_1, fs_74_2_p0 hk, fs_74_5, fs_74_8, fs_74_10, fs_74_11, fs_74_12_p0 hk, fs_74_15, fs_74_16_p1 hk, fs_74_19, fs_74_20_p0 hk, fs_74_23_p1 hk, fs_74_26, Option.bind_some, Option.toList_some, Option.toList_none, List.cons_append, List.nil_append, fd_nb0, fd_nb1, fd_nbb, fd_b0, nI_add, pk_mul, ite_not, Classical.not_not, not_false_iff, not_true, and_self, or_true, true_or, ↓reduceIte, if_true, if_false, ite_self, fd_mI, fd_mH, fd_mL, fd_p0, fd_w0, fd_w1, fd_w2, fd_10, fd_00, fm_isShip hk, fm_isHour, fm_isBook, fm_within, fm_isCell, fm_canPass hk, f1, f2, f4, c1, false_and]) (by simp (disch := first | exact fd_nl_int | exact fd_nl_ref | exact fd_nl_none | assumption | exact nI_ne0 (by omega) (by omega) | exact fd_nb0 | exact fd_nb1 | exact fd_nbb | omega) only [fs_145_0, fs_145_1, fs_145_2, fs_145_4, fs_145_7, fs_145_10, fs_145_11_p77 hk, fs_145_14, fs_145_15, fs_145_16, fs_145_19, fs_145_22, fs_145_24, fs_145_25, fs_145_26, fs_145_27, fs_145_28, fs_145_29, fs_145_32, fs_145_33, fs_145_34_p77 hk, fs_145_37_p77 hk, fs_145_40, fs_145_41, fs_145_42_p77 hk, fs_145_45, fs_145_46, fs_145_47_p77 hk, fs_145_50, fs_145_53, fs_145_56, fs_145_57_p77 hk, fs_145_60, Option.bind_some, Option.toList_some, Option.toList_none, List.cons_append, List.nil_append, fd_nb0, fd_nb1, fd_nbb, fd_b0, nI_add, pk_mul, ite_not, Classical.not_not, not_false_iff, not_true, and_self, or_true, true_or, ↓reduceIte, if_true, if_false, ite_self, fd_mI, fd_mH, fd_mL, fd_p0, fd_w0, fd_w1, fd_w2, fd_10, fd_00, fm_mIsShip hk, fm_mIn, fm_mIsHour, fm_mIsBook, fm_mIsCell, f3, f5, ht, c1, false_and]) rfl
end HOUR
