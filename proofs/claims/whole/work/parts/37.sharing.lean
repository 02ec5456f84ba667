/-! BITS; THE CALL sharing -/
section SHAR
variable {k : fd_Sk} {h g : fd_Hp} {fb bb dr b : Nat}
theorem fd_bitN {n j : Nat} (hn : n < 2 ^ 31) (hj : j < 32) : (nI n >>> (nI j &&& 31)) &&& nI 1 = nI (n / 2 ^ j % 2) := by
  have key : ∀ j, j < 32 → ((nI j &&& 31).toBitVec.smod 32).toNat = j := by decide +kernel
  rw [pk_shrN hn (nI j &&& 31) j (key j hj), pk_andN (Nat.lt_of_le_of_lt (Nat.div_le_self _ _) (by omega)) 1 (by decide)]
theorem fd_bit0 {n j : Nat} (hn : n < 2 ^ 31) (hj : j < 32) : ((nI n >>> (nI j &&& 31)) &&& nI 1 = 0) = (n.testBit j = false) := by
  rw [fd_bitN hn hj, ← nI_0, Nat.testBit_eq_decide_div_mod_eq]
  refine propext ⟨fun z => ?_, fun z => ?_⟩
  · have := fd_nIj (by omega) (by omega) z
    exact decide_eq_false (by omega)
  · have := of_decide_eq_false z
    exact congrArg nI (by omega)
theorem fd_bit1 {n j : Nat} (hn : n < 2 ^ 31) (hj : j < 32) : ((nI n >>> (nI j &&& 31)) &&& nI 1 = nI 1) = (n.testBit j = true) := by
  rw [fd_bitN hn hj, Nat.testBit_eq_decide_div_mod_eq]
  refine propext ⟨fun z => ?_, fun z => ?_⟩
  · have := fd_nIj (by omega) (by omega) z
    exact decide_eq_true (by omega)
  · have := of_decide_eq_true z
    exact congrArg nI (by omega)
theorem fd_anyb {w n : Nat} (hw : w < 2 ^ n) (h0 : ¬ w = 0) : ∃ s, s < n ∧ w.testBit s = true := by
  obtain ⟨i, hi⟩ := Nat.exists_testBit_of_ne_zero h0
  refine ⟨i, ?_, hi⟩
  rcases Nat.lt_or_ge i n with z | z
  · exact z
  · have := Nat.testBit_lt_two_pow (Nat.lt_of_lt_of_le hw (Nat.pow_le_pow_right (by omega) z))
    rw [this] at hi
    exact absurd hi (by decide)
theorem fd_shar (hk : fd_Sok k fb bb dr) {ns np nb t w : Nat} (F : fd_Fl 1 h h ns np nb t) (hw : w < 64) : ∀ (m a x y e : Nat), a + m = ns → x ≤ 9000 * a → y ≤ 9000 * a → e ≤ 9 * a → (1 ≤ e ∨ ∃ s, a ≤ s ∧ s < ns ∧ w.testBit s = true) → ∃ z, fd_E 91 31 [some (.ref (0)), some (.int (nI (w))), some (.int (nI (x))), some (.int (nI (y))), some (.int (nI (e))), some (.int (nI (a)))] [] k h = some (some (.int (z)), (k, h)) ∧ fd_E 181 29 [some (.ref (77)), some (.int (nI (w))), some (.int (nI (x))), some (.int (nI (y))), some (.int (nI (e))), some (.int (nI (a)))] [] k h = some (some (.int (z)), (k, h)) := by
  have F0 := F
  simp only [fd_Fl, Nat.reduceAdd] at F0
  obtain ⟨⟨b1, b2, b3, b4⟩, ⟨f1, f2, f3, f4, f5, f6, f7⟩, ⟨g1, g2, g3, g4⟩, S, O, T⟩ := F0
  intro m
  induction m with
  | zero =>
    intro a x y e q1 q2 q3 q4 q5
    have hc : nI ns ≤ nI a := nI_le (by omega) (by omega)
    have he : 1 ≤ e := q5.elim id (fun ⟨s, s1, s2, _⟩ => by omega)
    have z0 : ¬ nI e = 0 := nI_ne0 (by omega) (by omega)
    have z1 : ¬ nI e ≤ 0 := nI_nle (by omega) (by omega)
    refine ⟨fd_hoursOf (nI x) (nI y) (nI e), ?_, ?_⟩
    · rw [fs_91_31]
      simp (disch := first | exact fd_nl_int | exact fd_nl_ref | exact fd_nl_none | assumption | exact nI_ne0 (by omega) (by omega) | exact fd_nb0 | exact fd_nb1 | exact fd_nbb | omega) only [fs_91_0, fs_91_1, fs_91_4, fs_91_5, fs_91_6_p0 hk, fs_91_9_p1 hk, fs_91_12, fs_91_15, fs_91_18, fs_91_20, fs_91_21, fs_91_22, fs_91_23, fs_91_24, fs_91_25, fs_91_26, fs_91_28, fs_91_29, fs_91_33, fs_91_34_p0 hk, fs_91_37_p1 hk, fs_91_40, fs_91_43, fs_91_44, fs_91_46, fs_91_49, fs_91_52, fs_91_53, fs_91_54_p0 hk, fs_91_57_p1 hk, fs_91_60, fs_91_62_p5 hk, fs_91_63, fs_91_64, fs_91_65, fs_91_66, fs_91_67_p0 hk, fs_91_70_p1 hk, fs_91_73, fs_91_75_p6 hk, fs_91_76, fs_91_77, fs_91_78, fs_91_80, fs_91_81_p0 hk, fs_91_84, fs_91_86_p1 hk, fs_91_89, fs_91_90, fs_91_92, fs_91_95, fs_91_98, fs_91_99, fs_91_100, fs_91_102, fs_91_105, Option.bind_some, Option.toList_some, Option.toList_none, List.cons_append, List.nil_append, fd_nb0, fd_nb1, fd_nbb, fd_b0, nI_add, pk_mul, ite_not, Classical.not_not, not_false_iff, not_true, and_self, or_true, true_or, ↓reduceIte, if_true, if_false, ite_self, fd_mI, fd_mH, fd_mL, fd_p0, fd_w0, fd_w1, fd_w2, fd_10, fd_00, hc, f2, fm_hoursOf]
    · rw [fs_181_29]
      simp (disch := first | exact fd_nl_int | exact fd_nl_ref | exact fd_nl_none | assumption | exact nI_ne0 (by omega) (by omega) | exact fd_nb0 | exact fd_nb1 | exact fd_nbb | omega) only [fs_181_0, fs_181_1, fs_181_2, fs_181_3, fs_181_4_p77 hk, fs_181_7, fs_181_8, fs_181_9, fs_181_10, fs_181_13, fs_181_16, fs_181_18, fs_181_19, fs_181_20, fs_181_21, fs_181_22, fs_181_23, fs_181_24, fs_181_26, fs_181_27, fs_181_31, fs_181_32_p77 hk, fs_181_35, fs_181_38, fs_181_39, fs_181_41, fs_181_42, fs_181_43, fs_181_44, fs_181_45, fs_181_48, fs_181_49, fs_181_50, fs_181_52_p77 hk, fs_181_55, fs_181_56, fs_181_57, fs_181_58, fs_181_59, fs_181_61_p77 hk, fs_181_64, fs_181_65, fs_181_66, fs_181_68, fs_181_69, fs_181_71_p77 hk, fs_181_74, fs_181_75, fs_181_77, fs_181_80, fs_181_83, fs_181_84, fs_181_85, fs_181_88, fs_181_89, fs_181_92, fs_181_93, fs_181_95, fs_181_96, Option.bind_some, Option.toList_some, Option.toList_none, List.cons_append, List.nil_append, fd_nb0, fd_nb1, fd_nbb, fd_b0, nI_add, pk_mul, ite_not, Classical.not_not, not_false_iff, not_true, and_self, or_true, true_or, ↓reduceIte, if_true, if_false, ite_self, fd_mI, fd_mH, fd_mL, fd_p0, fd_w0, fd_w1, fd_w2, fd_10, fd_00, hc, f3, z0]
      unfold fd_hoursOf
      rw [if_neg z1, fd_mn2]
      split <;> rfl
  | succ m ih =>
    intro a x y e q1 q2 q3 q4 q5
    have hc : ¬ nI ns ≤ nI a := nI_ge (by omega) (by omega)
    have ha : a < 6 := by omega
    have Q := S a (by omega)
    simp only [fd_S1, Nat.reduceAdd] at Q
    obtain ⟨p1, ⟨mm, m1, m2, m3, m4⟩, ⟨B, _, B2, B3, B4⟩, ⟨W, _, W2, W3, W4⟩, p5, p6, p7, p8, p9, p10⟩ := Q
    obtain ⟨E, E1, E2, E3⟩ := fd_ea_bd m1 m2
    have c0 := fd_bit0 (n := w) (j := a) (by omega) (by omega)
    have c1 := fd_bit1 (n := w) (j := a) (by omega) (by omega)
    by_cases c : w.testBit a = true
    · obtain ⟨z, i1, i2⟩ := ih (a + 1) (x + B) (y + W) (e + E) (by omega) (by omega) (by omega) (by omega) (Or.inl (by omega))
      have d0 : ((nI w >>> (nI a &&& 31)) &&& nI 1 = 0) = False := by rw [c0, c]; exact eq_false (by decide)
      have d1 : ((nI w >>> (nI a &&& 31)) &&& nI 1 = nI 1) = True := by rw [c1, c]; exact eq_true rfl
      refine ⟨z, ?_, ?_⟩
      · rw [fs_91_31]
        simp (disch := first | exact fd_nl_int | exact fd_nl_ref | exact fd_nl_none | assumption | exact nI_ne0 (by omega) (by omega) | exact fd_nb0 | exact fd_nb1 | exact fd_nbb | omega) only [fs_91_0, fs_91_1, fs_91_4, fs_91_5, fs_91_6_p0 hk, fs_91_9_p1 hk, fs_91_12, fs_91_15, fs_91_18, fs_91_20, fs_91_21, fs_91_22, fs_91_23, fs_91_24, fs_91_25, fs_91_26, fs_91_28, fs_91_29, fs_91_33, fs_91_34_p0 hk, fs_91_37_p1 hk, fs_91_40, fs_91_43, fs_91_44, fs_91_46, fs_91_49, fs_91_52, fs_91_53, fs_91_54_p0 hk, fs_91_57_p1 hk, fs_91_60, fs_91_62_p5 hk, fs_91_63, fs_91_64, fs_91_65, fs_91_66, fs_91_67_p0 hk, fs_91_70_p1 hk, fs_91_73, fs_91_75_p6 hk, fs_91_76, fs_91_77, fs_91_78, fs_91_80, fs_91_81_p0 hk, fs_91_84, fs_91_86_p1 hk, fs_91_89, fs_91_90, fs_91_92, fs_91_95, fs_91_98, fs_91_99, fs_91_100, fs_91_102, fs_91_105, Option.bind_some, Option.toList_some, Option.toList_none, List.cons_append, List.nil_append, fd_nb0, fd_nb1, fd_nbb, fd_b0, nI_add, pk_mul, ite_not, Classical.not_not, not_false_iff, not_true, and_self, or_true, true_or, ↓reduceIte, if_true, if_false, ite_self, fd_mI, fd_mH, fd_mL, fd_p0, fd_w0, fd_w1, fd_w2, fd_10, fd_00, hc, f2, fm_has, d0, fm_eats hk, B3, W3, m3, E3, i1]
      · rw [fs_181_29]
        simp (disch := first | exact fd_nl_int | exact fd_nl_ref | exact fd_nl_none | assumption | exact nI_ne0 (by omega) (by omega) | exact fd_nb0 | exact fd_nb1 | exact fd_nbb | omega) only [fs_181_0, fs_181_1, fs_181_2, fs_181_3, fs_181_4_p77 hk, fs_181_7, fs_181_8, fs_181_9, fs_181_10, fs_181_13, fs_181_16, fs_181_18, fs_181_19, fs_181_20, fs_181_21, fs_181_22, fs_181_23, fs_181_24, fs_181_26, fs_181_27, fs_181_31, fs_181_32_p77 hk, fs_181_35, fs_181_38, fs_181_39, fs_181_41, fs_181_42, fs_181_43, fs_181_44, fs_181_45, fs_181_48, fs_181_49, fs_181_50, fs_181_52_p77 hk, fs_181_55, fs_181_56, fs_181_57, fs_181_58, fs_181_59, fs_181_61_p77 hk, fs_181_64, fs_181_65, fs_181_66, fs_181_68, fs_181_69, fs_181_71_p77 hk, fs_181_74, fs_181_75, fs_181_77, fs_181_80, fs_181_83, fs_181_84, fs_181_85, fs_181_88, fs_181_89, fs_181_92, fs_181_93, fs_181_95, fs_181_96, Option.bind_some, Option.toList_some, Option.toList_none, List.cons_append, List.nil_append, fd_nb0, fd_nb1, fd_nbb, fd_b0, nI_add, pk_mul, ite_not, Classical.not_not, not_false_iff, not_true, and_self, or_true, true_or, ↓reduceIte, if_true, if_false, ite_self, fd_mI, fd_mH, fd_mL, fd_p0, fd_w0, fd_w1, fd_w2, fd_10, fd_00, hc, f3, d1, fm_mBeef hk, fm_mWater hk, fm_mEats hk, B4, W4, m4, E3, i2]
    · have c' : w.testBit a = false := by
        cases q : w.testBit a
        · rfl
        · exact absurd q c
      obtain ⟨z, i1, i2⟩ := ih (a + 1) x y e (by omega) (by omega) (by omega) (by omega) (q5.elim Or.inl (fun ⟨s, s1, s2, s3⟩ => Or.inr ⟨s, by
        rcases Nat.lt_or_ge a s with u | u
        · exact u
        · have : s = a := by omega
          subst this
          exact absurd s3 c, s2, s3⟩))
      have d0 : ((nI w >>> (nI a &&& 31)) &&& nI 1 = 0) = True := by rw [c0, c']; exact eq_true rfl
      have d1 : ((nI w >>> (nI a &&& 31)) &&& nI 1 = nI 1) = False := by rw [c1, c']; exact eq_false (by decide)
      refine ⟨z, ?_, ?_⟩
      · rw [fs_91_31]
        simp (disch := first | exact fd_nl_int | exact fd_nl_ref | exact fd_nl_none | assumption | exact nI_ne0 (by omega) (by omega) | exact fd_nb0 | exact fd_nb1 | exact fd_nbb | omega) only [fs_91_0, fs_91_1, fs_91_4, fs_91_5, fs_91_6_p0 hk, fs_91_9_p1 hk, fs_91_12, fs_91_15, fs_91_18, fs_91_20, fs_91_21, fs_91_22, fs_91_23, fs_91_24, fs_91_25, fs_91_26, fs_91_28, fs_91_29, fs_91_33, fs_91_34_p0 hk, fs_91_37_p1 hk, fs_91_40, fs_91_43, fs_91_44, fs_91_46, fs_91_49, fs_91_52, fs_91_53, fs_91_54_p0 hk, fs_91_57_p1 hk, fs_91_60, fs_91_62_p5 hk, fs_91_63, fs_91_64, fs_91_65, fs_91_66, fs_91_67_p0 hk, fs_91_70_p1 hk, fs_91_73, fs_91_75_p6 hk, fs_91_76, fs_91_77, fs_91_78, fs_91_80, fs_91_81_p0 hk, fs_91_84, fs_91_86_p1 hk, fs_91_89, fs_91_90, fs_91_92, fs_91_95, fs_91_98, fs_91_99, fs_91_100, fs_91_102, fs_91_105, Option.bind_some, Option.toList_some, Option.toList_none, List.cons_append, List.nil_append, fd_nb0, fd_nb1, fd_nbb, fd_b0, nI_add, pk_mul, ite_not, Classical.not_not, not_false_iff, not_true, and_self, or_true, true_or, ↓reduceIte, if_true, if_false, ite_self, fd_mI, fd_mH, fd_mL, fd_p0, fd_w0, fd_w1, fd_w2, fd_10, fd_00, hc, f2, fm_has, d0, i1]
      · rw [fs_181_29]
        simp (disch := first | exact fd_nl_int | exact fd_nl_ref | exact fd_nl_none | assumption | exact nI_ne0 (by omega) (by omega) | exact fd_nb0 | exact fd_nb1 | exact fd_nbb | omega) only [fs_181_0, fs_181_1, fs_181_2, fs_181_3, fs_181_4_p77 hk, fs_181_7, fs_181_8, fs_181_9, fs_181_10, fs_181_13, fs_181_16, fs_181_18, fs_181_19, fs_181_20, fs_181_21, fs_181_22, fs_181_23, fs_181_24, fs_181_26, fs_181_27, fs_181_31, fs_181_32_p77 hk, fs_181_35, fs_181_38, fs_181_39, fs_181_41, fs_181_42, fs_181_43, fs_181_44, fs_181_45, fs_181_48, fs_181_49, fs_181_50, fs_181_52_p77 hk, fs_181_55, fs_181_56, fs_181_57, fs_181_58, fs_181_59, fs_181_61_p77 hk, fs_181_64, fs_181_65, fs_181_66, fs_181_68, fs_181_69, fs_181_71_p77 hk, fs_181_74, fs_181_75, fs_181_77, fs_181_80, fs_181_83, fs_181_84, fs_181_85, fs_181_88, fs_181_89, fs_181_92, fs_181_93, fs_181_95, fs_181_96, Option.bind_some, Option.toList_some, Option.toList_none, List.cons_append, List.nil_append, fd_nb0, fd_nb1, fd_nbb, fd_b0, nI_add, pk_mul, ite_not, Classical.not_not, not_false_iff, not_true, and_self, or_true, true_or, ↓reduceIte, if_true, if_false, ite_self, fd_mI, fd_mH, fd_mL, fd_p0, fd_w0, fd_w1, fd_w2, fd_10, fd_00, hc, f3, d1, i2]
theorem fc_sharing (I : fd_Inv k h) (x : Int32) : fd_Ag k h 91 [some (.ref (0)), some (.int (x)), none, none, none, none] 181 [some (.ref (77)), some (.int (x)), none, none, none, none] := by
  have I0 := I; obtain ⟨fb, bb, dr, ns, np, nb, t, hk, F, ht, TX, B0, B1, FE, BA, OF, PL⟩ := I0; have F0 := F; simp only [fd_Fl, Nat.reduceAdd] at F0; obtain ⟨⟨b1, b2, b3, b4⟩, ⟨f1, f2, f3, f4, f5, f6, f7⟩, ⟨g1, g2, g3, g4⟩, S, O, T⟩ := F0
  have e1 := fd_sh1 (show ns ≤ 12 by omega)
  have hp : 2 ^ ns ≤ 64 := Nat.pow_le_pow_right (n := 2) (by omega) b1
  have h0 : 1 ≤ 2 ^ ns := Nat.one_le_two_pow
  have W : fd_wi x (nI 1) (nI (2 ^ ns) - nI 1) ↔ ∃ w, 1 ≤ w ∧ w < 2 ^ ns ∧ x = nI w := by
    rw [nI_sub h0, fd_argL (by omega) (by omega)]
    constructor
    · rintro ⟨s, h1, h2, rfl⟩
      exact ⟨s, h1, by omega, rfl⟩
    · rintro ⟨s, h1, h2, rfl⟩
      exact ⟨s, h1, by omega, rfl⟩
  by_cases c1 : fd_wi x (nI 1) (nI (2 ^ ns) - nI 1)
  · obtain ⟨w, w1, w2, rfl⟩ := W.mp c1
    have d1 : ¬ nI w < 0 ∧ ¬ nI (2 ^ ns) ≤ nI w := (fd_isS (by omega)).mpr ⟨w, w2, rfl⟩
    have w0 : ¬ nI w = 0 := nI_ne0 (by omega) (by omega)
    obtain ⟨s, s1, s2⟩ := fd_anyb w2 (by omega)
    obtain ⟨z, z1, z2⟩ := fd_shar hk F (by omega) ns 0 0 0 0 (by omega) (by omega) (by omega) (by omega) (Or.inr ⟨s, by omega, s1, s2⟩)
    exact fd_ag_ro I (v := z) (w := z) (by simp (disch := first | exact fd_nl_int | exact fd_nl_ref | exact fd_nl_none | assumption | exact nI_ne0 (by omega) (by omega) | exact fd_nb0 | exact fd_nb1 | exact fd_nbb | omega) only [fs_91_0, fs_91_1, fs_91_4, fs_91_5, fs_91_6_p0 hk, fs_91_9_p1 hk, fs_91_12, fs_91_15, fs_91_18, fs_91_20, fs_91_21, fs_91_22, fs_91_23, fs_91_24, fs_91_25, fs_91_26, fs_91_28, fs_91_29, fs_91_33, fs_91_34_p0 hk, fs_91_37_p1 hk, fs_91_40, fs_91_43, fs_91_44, fs_91_46, fs_91_49, fs_91_52, fs_91_53, fs_91_54_p0 hk, fs_91_57_p1 hk, fs_91_60, fs_91_62_p5 hk, fs_91_63, fs_91_64, fs_91_65, fs_91_66, fs_91_67_p0 hk, fs_91_70_p1 hk, fs_91_73, fs_91_75_p6 hk, fs_91_76, fs_91_77, fs_91_78, fs_91_80, fs_91_81_p0 hk, fs_91_84, fs_91_86_p1 hk, fs_91_89, fs_91_90, fs_91_92, fs_91_95, fs_91_98, fs_91_99, fs_91_100, fs_91_102, fs_91_105, Option.bind_some, Option.toList_some, Option.toList_none, List.cons_append, List.nil_append, fd_nb0, fd_nb1, fd_nbb, fd_b0, nI_add, pk_mul, ite_not, Classical.not_not, not_false_iff, not_true, and_self, or_true, true_or, ↓reduceIte, if_true, if_false, ite_self, fd_mI, fd_mH, fd_mL, fd_p0, fd_w0, fd_w1, fd_w2, fd_10, fd_00, fm_isShip hk, fm_isHour, fm_isBook, fm_within, fm_isCell, fm_canPass hk, f1, f2, f4, fm_isSet, e1, eq_true d1, eq_true c1, w0, z1, z2]) (by simp (disch := first | exact fd_nl_int | exact fd_nl_ref | exact fd_nl_none | assumption | exact nI_ne0 (by omega) (by omega) | exact fd_nb0 | exact fd_nb1 | exact fd_nbb | omega) only [fs_181_0, fs_181_1, fs_181_2, fs_181_3, fs_181_4_p77 hk, fs_181_7, fs_181_8, fs_181_9, fs_181_10, fs_181_13, fs_181_16, fs_181_18, fs_181_19, fs_181_20, fs_181_21, fs_181_22, fs_181_23, fs_181_24, fs_181_26, fs_181_27, fs_181_31, fs_181_32_p77 hk, fs_181_35, fs_181_38, fs_181_39, fs_181_41, fs_181_42, fs_181_43, fs_181_44, fs_181_45, fs_181_48, fs_181_49, fs_181_50, fs_181_52_p77 hk, fs_181_55, fs_181_56, fs_181_57, fs_181_58, fs_181_59, fs_181_61_p77 hk, fs_181_64, fs_181_65, fs_181_66, fs_181_68, fs_181_69, fs_181_71_p77 hk, fs_181_74, fs_181_75, fs_181_77, fs_181_80, fs_181_83, fs_181_84, fs_181_85, fs_181_88, fs_181_89, fs_181_92, fs_181_93, fs_181_95, fs_181_96, Option.bind_some, Option.toList_some, Option.toList_none, List.cons_append, List.nil_append, fd_nb0, fd_nb1, fd_nbb, fd_b0, nI_add, pk_mul, ite_not, Classical.not_not, not_false_iff, not_true, and_self, or_true, true_or, ↓reduceIte, if_true, if_false, ite_self, fd_mI, fd_mH, fd_mL, fd_p0, fd_w0, fd_w1, fd_w2, fd_10, fd_00, fm_mIsShip hk, fm_mIn, fm_mIsHour, fm_mIsBook, fm_mIsCell, f3, f5, ht, fm_isSet, e1, eq_true d1, eq_true c1, w0, z1, z2]) rfl
  · by_cases w0 : x = 0
    · exact fd_ag_ro I (v := -3) (w := -3) (by simp (disch := first | exact fd_nl_int | exact fd_nl_ref | exact fd_nl_none | assumption | exact nI_ne0 (by omega) (by omega) | exact fd_nb0 | exact fd_nb1 | exact fd_nbb | omega) only [fs_91_0, fs_91_1, fs_91_4, fs_91_5, fs_91_6_p0 hk, fs_91_9_p1 hk, fs_91_12, fs_91_15, fs_91_18, fs_91_20, fs_91_21, fs_91_22, fs_91_23, fs_91_24, fs_91_25, fs_91_26, fs_91_28, fs_91_29, fs_91_33, fs_91_34_p0 hk, fs_91_37_p1 hk, fs_91_40, fs_91_43, fs_91_44, fs_91_46, fs_91_49, fs_91_52, fs_91_53, fs_91_54_p0 hk, fs_91_57_p1 hk, fs_91_60, fs_91_62_p5 hk, fs_91_63, fs_91_64, fs_91_65, fs_91_66, fs_91_67_p0 hk, fs_91_70_p1 hk, fs_91_73, fs_91_75_p6 hk, fs_91_76, fs_91_77, fs_91_78, fs_91_80, fs_91_81_p0 hk, fs_91_84, fs_91_86_p1 hk, fs_91_89, fs_91_90, fs_91_92, fs_91_95, fs_91_98, fs_91_99, fs_91_100, fs_91_102, fs_91_105, Option.bind_some, Option.toList_some, Option.toList_none, List.cons_append, List.nil_append, fd_nb0, fd_nb1, fd_nbb, fd_b0, nI_add, pk_mul, ite_not, Classical.not_not, not_false_iff, not_true, and_self, or_true, true_or, ↓reduceIte, if_true, if_false, ite_self, fd_mI, fd_mH, fd_mL, fd_p0, fd_w0, fd_w1, fd_w2, fd_10, fd_00, fm_isShip hk, fm_isHour, fm_isBook, fm_within, fm_isCell, fm_canPass hk, f1, f2, f4, fm_isSet, e1, w0, eq_false (w0 ▸ c1)]) (by simp (disch := first | exact fd_nl_int | exact fd_nl_ref | exact fd_nl_none | assumption | exact nI_ne0 (by omega) (by omega) | exact fd_nb0 | exact fd_nb1 | exact fd_nbb | omega) only [fs_181_0, fs_181_1, fs_181_2, fs_181_3, fs_181_4_p77 hk, fs_181_7, fs_181_8, fs_181_9, fs_181_10, fs_181_13, fs_181_16, fs_181_18, fs_181_19, fs_181_20, fs_181_21, fs_181_22, fs_181_23, fs_181_24, fs_181_26, fs_181_27, fs_181_31, fs_181_32_p77 hk, fs_181_35, fs_181_38, fs_181_39, fs_181_41, fs_181_42, fs_181_43, fs_181_44, fs_181_45, fs_181_48, fs_181_49, fs_181_50, fs_181_52_p77 hk, fs_181_55, fs_181_56, fs_181_57, fs_181_58, fs_181_59, fs_181_61_p77 hk, fs_181_64, fs_181_65, fs_181_66, fs_181_68, fs_181_69, fs_181_71_p77 hk, fs_181_74, fs_181_75, fs_181_77, fs_181_80, fs_181_83, fs_181_84, fs_181_85, fs_181_88, fs_181_89, fs_181_92, fs_181_93, fs_181_95, fs_181_96, Option.bind_some, Option.toList_some, Option.toList_none, List.cons_append, List.nil_append, fd_nb0, fd_nb1, fd_nbb, fd_b0, nI_add, pk_mul, ite_not, Classical.not_not, not_false_iff, not_true, and_self, or_true, true_or, ↓reduceIte, if_true, if_false, ite_self, fd_mI, fd_mH, fd_mL, fd_p0, fd_w0, fd_w1, fd_w2, fd_10, fd_00, fm_mIsShip hk, fm_mIn, fm_mIsHour, fm_mIsBook, fm_mIsCell, f3, f5, ht, fm_isSet, e1, w0, eq_false (w0 ▸ c1)]) rfl
    · have d1 : ¬ (¬ x < 0 ∧ ¬ nI (2 ^ ns) ≤ x) := fun z => by
        obtain ⟨w, w1, w2⟩ := (fd_isS (by omega)).mp z
        refine c1 (W.mpr ⟨w, ?_, w1, w2⟩)
        rcases Nat.eq_zero_or_pos w with y | y
        · exact absurd (by rw [w2, y, nI_0]) w0
        · exact y
      have d2 := eq_false d1
      exact fd_ag_ro I (v := -3) (w := -3) (by simp (disch := first | exact fd_nl_int | exact fd_nl_ref | exact fd_nl_none | assumption | exact nI_ne0 (by omega) (by omega) | exact fd_nb0 | exact fd_nb1 | exact fd_nbb | omega) only [fs_91_0, fs_91_1, fs_91_4, fs_91_5, fs_91_6_p0 hk, fs_91_9_p1 hk, fs_91_12, fs_91_15, fs_91_18, fs_91_20, fs_91_21, fs_91_22, fs_91_23, fs_91_24, fs_91_25, fs_91_26, fs_91_28, fs_91_29, fs_91_33, fs_91_34_p0 hk, fs_91_37_p1 hk, fs_91_40, fs_91_43, fs_91_44, fs_91_46, fs_91_49, fs_91_52, fs_91_53, fs_91_54_p0 hk, fs_91_57_p1 hk, fs_91_60, fs_91_62_p5 hk, fs_91_63, fs_91_64, fs_91_65, fs_91_66, fs_91_67_p0 hk, fs_91_70_p1 hk, fs_91_73, fs_91_75_p6 hk, fs_91_76, fs_91_77, fs_91_78, fs_91_80, fs_91_81_p0 hk, fs_91_84, fs_91_86_p1 hk, fs_91_89, fs_91_90, fs_91_92, fs_91_95, fs_91_98, fs_91_99, fs_91_100, fs_91_102, fs_91_105, Option.bind_some, Option.toList_some, Option.toList_none, List.cons_append, List.nil_append, fd_nb0, fd_nb1, fd_nbb, fd_b0, nI_add, pk_mul, ite_not, Classical.not_not, not_false_iff, not_true, and_self, or_true, true_or, ↓reduceIte, if_true, if_false, ite_self, fd_mI, fd_mH, fd_mL, fd_p0, fd_w0, fd_w1, fd_w2, fd_10, fd_00, fm_isShip hk, fm_isHour, fm_isBook, fm_within, fm_isCell, fm_canPass hk, f1, f2, f4, fm_isSet, e1, w0, d2, c1]) (by simp (disch := first | exact fd_nl_int | exact fd_nl_ref | exact fd_nl_none | assumption | exact nI_ne0 (by omega) (by omega) | exact fd_nb0 | exact fd_nb1 | exact fd_nbb | omega) only [fs_181_0, fs_181_1, fs_181_2, fs_181_3, fs_181_4_p77 hk, fs_181_7, fs_181_8, fs_181_9, fs_181_10, fs_181_13, fs_181_16, fs_181_18, fs_181_19, fs_181_20, fs_181_21, fs_181_22, fs_181_23, fs_181_24, fs_181_26, fs_181_27, fs_181_31, fs_181_32_p77 hk, fs_181_35, fs_181_38, fs_181_39, fs_181_41, fs_181_42, fs_181_43, fs_181_44, fs_181_45, fs_181_48, fs_181_49, fs_181_50, fs_181_52_p77 hk, fs_181_55, fs_181_56, fs_181_57, fs_181_58, fs_181_59, fs_181_61_p77 hk, fs_181_64, fs_181_65, fs_181_66, fs_181_68, fs_181_69, fs_181_71_p77 hk, fs_181_74, fs_181_75, fs_181_77, fs_181_80, fs_181_83, fs_181_84, fs_181_85, fs_181_88, fs_181_89, fs_181_92, fs_181_93, fs_181_95, fs_181_96, Option.bind_some, Option.toList_some, Option.toList_none, List.cons_append, List.nil_append, fd_nb0, fd_nb1, fd_nbb, fd_b0, nI_add, pk_mul, ite_not, Classical.not_not, not_false_iff, not_true, and_self, or_true, true_or, ↓reduceIte, if_true, if_false, ite_self, fd_mI, fd_mH, fd_mL, fd_p0, fd_w0, fd_w1, fd_w2, fd_10, fd_00, fm_mIsShip hk, fm_mIn, fm_mIsHour, fm_mIsBook, fm_mIsCell, f3, f5, ht, fm_isSet, e1, w0, d2, c1]) rfl
end SHAR
