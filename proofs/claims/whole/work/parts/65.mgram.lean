/-! HOW THE REFERENCE takes articles -/
section MGRAM
variable {k : fd_Sk} {h g : fd_Hp} {fb bb dr b : Nat} {n p ns : Nat} {bt : Nat → Int32}
theorem fd_mT_f {h' : fd_Hp} (T : fd_mT n bt h) (e : ∀ q j, ¬ (q = 77 ∧ 24 ≤ j ∧ j ≤ 30) → ¬ q = 92 → h'.1 q j = h.1 q j) : fd_mT n bt h' := fd_mT_fr T (e 77 22 (by omega) (by omega)) (funext fun j => e 91 j (by omega) (by omega))
theorem fd_ML_fr {h' : fd_Hp} (L : fd_ML n bt p h) (e2 : h'.2 = h.2) (e : ∀ j, 24 ≤ j → j ≤ 28 → h'.1 77 j = h.1 77 j) : fd_ML n bt p h' := by
  unfold fd_ML
  rw [e2, e 24 (by omega) (by omega), e 25 (by omega) (by omega), e 28 (by omega) (by omega)]
  exact L
theorem fd_ML_num (L : fd_ML n bt p h) {l m : Int32} (w : fd_isN n bt p l m) : h.1 77 28 = fd_num n bt p := L.2.2.2.2 ((fd_tk_N L.1).mpr ⟨w.1, w.2.1⟩)
theorem fm_whom0 (hk : fd_Sok k fb bb dr) (T : fd_mT n bt h) (L : fd_ML n bt p h) (hn : h.1 77 5 = nI ns) {a x : Nat} (e : fd_pShip n bt ns (fd_tE n bt p) = .inl x) : ∃ h', fd_E 158 0 [some (.ref (77)), some (.int (nI (a)))] [] k h = some (some (.int (nI 0)), (k, h')) ∧ h'.1 77 29 = nI x ∧ ∀ q j, ¬ (q = 77 ∧ 24 ≤ j ∧ j ≤ 29) → h'.1 q j = h.1 q j := by
  obtain ⟨h1, r1, r2, r3⟩ := fd_ML_n hk T L
  have n5 : h1.1 77 5 = nI ns := (r3 77 5 (by omega)).trans hn
  unfold fd_pShip fd_pNum at e
  have w4 : (lg_cmp (fd_tk n bt (fd_tE n bt p)) 1065 = 0) = fd_isW n bt (fd_tE n bt p) 4 := fd_lcW r2.1 (b := 4) (by omega)
  by_cases c : fd_isW n bt (fd_tE n bt p) 4
  · rw [if_pos c] at e; cases e
  · rw [if_neg c] at e
    by_cases d : fd_isN n bt (fd_tE n bt p) (nI 0) (nI ns - nI 1)
    · rw [if_pos d] at e; cases e
    · rw [if_neg d] at e
      cases e
      have w4' := w4.trans (eq_false c)
      have u := fm_mIsNum (l := nI 0) (m := nI ns - nI 1) hk r2
      rw [fd_bf d] at u
      have f := fm_mFails hk r2
      have tk := r2.2.2.2.1
      refine ⟨fd_w h1 77 29 (nI (fd_tS n bt (fd_tE n bt p))), ?_, fd_w0, fun q j hn => (if_neg (by omega)).trans (r3 q j (by omega))⟩
      simp (disch := first | exact fd_nl_int | exact fd_nl_ref | exact fd_nl_none | assumption | exact nI_ne0 (by omega) (by omega) | exact fd_nb0 | exact fd_nb1 | exact fd_nbb | omega) only [fs_158_0, fs_158_1_p77 hk, fs_158_4, fs_158_5_p77 hk, fs_158_8, fs_158_11, fs_158_12, fs_158_15, fs_158_16, fs_158_17, fs_158_18_p77 hk, fs_158_21, fs_158_22, fs_158_23_p77 hk, fs_158_26, fs_158_29, fs_158_30_p77 hk, fs_158_33, fs_158_34, fs_158_35_p77 hk, fs_158_38, fs_158_39, fs_158_40, fs_158_41, fs_158_42_p77 hk, fs_158_45, fs_158_48, fs_158_49, fs_158_52, fs_158_53, fs_158_56, fs_158_57_p77 hk, fs_158_60_p92 hk, fs_158_61, fs_158_62, Option.bind_some, Option.toList_some, Option.toList_none, List.cons_append, List.nil_append, fd_nb0, fd_nb1, fd_nbb, fd_b0, nI_add, pk_mul, ite_not, Classical.not_not, not_false_iff, not_true, and_self, or_true, true_or, ↓reduceIte, if_true, if_false, ite_self, fd_mI, fd_mH, fd_mL, fd_p0, fd_w0, fd_w1, fd_w2, fd_10, fd_00, r1, tk, w4', n5, u, f]
theorem fm_whom1 (hk : fd_Sok k fb bb dr) (T : fd_mT n bt h) (L : fd_ML n bt p h) (hn : h.1 77 5 = nI ns) {a q : Nat} {v : Int32} (ha : a < 46) (e : fd_pShip n bt ns (fd_tE n bt p) = .inr (v, q)) : q = fd_tE n bt (fd_tE n bt p) ∧ ∃ h', fd_E 158 0 [some (.ref (77)), some (.int (nI (a)))] [] k h = some (some (.int (nI 1)), (k, h')) ∧ fd_ML n bt (fd_tE n bt p) h' ∧ h'.1 92 (a + 1) = v ∧ ∀ q j, ¬ (q = 77 ∧ 24 ≤ j ∧ j ≤ 28) → ¬ (q = 92 ∧ j = a + 1) → h'.1 q j = h.1 q j := by
  obtain ⟨h1, r1, r2, r3⟩ := fd_ML_n hk T L
  have n5 : h1.1 77 5 = nI ns := (r3 77 5 (by omega)).trans hn
  unfold fd_pShip fd_pNum at e
  have w4 : (lg_cmp (fd_tk n bt (fd_tE n bt p)) 1065 = 0) = fd_isW n bt (fd_tE n bt p) 4 := fd_lcW r2.1 (b := 4) (by omega)
  have tk := r2.2.2.2.1
  by_cases c : fd_isW n bt (fd_tE n bt p) 4
  · rw [if_pos c] at e
    cases e
    have w4' := w4.trans (eq_true c)
    refine ⟨rfl, fd_w h1 92 (a + 1) (-1), ?_, fd_ML_fr r2 rfl (fun j _ _ => fd_w1 (by decide)), fd_w0, fun q j n1 n2 => (if_neg (by omega)).trans (r3 q j n1)⟩
    simp (disch := first | exact fd_nl_int | exact fd_nl_ref | exact fd_nl_none | assumption | exact nI_ne0 (by omega) (by omega) | exact fd_nb0 | exact fd_nb1 | exact fd_nbb | omega) only [fs_158_0, fs_158_1_p77 hk, fs_158_4, fs_158_5_p77 hk, fs_158_8, fs_158_11, fs_158_12, fs_158_15, fs_158_16, fs_158_17, fs_158_18_p77 hk, fs_158_21, fs_158_22, fs_158_23_p77 hk, fs_158_26, fs_158_29, fs_158_30_p77 hk, fs_158_33, fs_158_34, fs_158_35_p77 hk, fs_158_38, fs_158_39, fs_158_40, fs_158_41, fs_158_42_p77 hk, fs_158_45, fs_158_48, fs_158_49, fs_158_52, fs_158_53, fs_158_56, fs_158_57_p77 hk, fs_158_60_p92 hk, fs_158_61, fs_158_62, Option.bind_some, Option.toList_some, Option.toList_none, List.cons_append, List.nil_append, fd_nb0, fd_nb1, fd_nbb, fd_b0, nI_add, pk_mul, ite_not, Classical.not_not, not_false_iff, not_true, and_self, or_true, true_or, ↓reduceIte, if_true, if_false, ite_self, fd_mI, fd_mH, fd_mL, fd_p0, fd_w0, fd_w1, fd_w2, fd_10, fd_00, r1, tk, w4']
  · rw [if_neg c] at e
    by_cases d : fd_isN n bt (fd_tE n bt p) (nI 0) (nI ns - nI 1)
    · rw [if_pos d] at e
      cases e
      have w4' := w4.trans (eq_false c)
      have u := fm_mIsNum (l := nI 0) (m := nI ns - nI 1) hk r2
      rw [fd_bt d] at u
      have e28 := fd_ML_num r2 d
      refine ⟨rfl, fd_w h1 92 (a + 1) (fd_num n bt (fd_tE n bt p)), ?_, fd_ML_fr r2 rfl (fun j _ _ => fd_w1 (by decide)), fd_w0, fun q j n1 n2 => (if_neg (by omega)).trans (r3 q j n1)⟩
      simp (disch := first | exact fd_nl_int | exact fd_nl_ref | exact fd_nl_none | assumption | exact nI_ne0 (by omega) (by omega) | exact fd_nb0 | exact fd_nb1 | exact fd_nbb | omega) only [fs_158_0, fs_158_1_p77 hk, fs_158_4, fs_158_5_p77 hk, fs_158_8, fs_158_11, fs_158_12, fs_158_15, fs_158_16, fs_158_17, fs_158_18_p77 hk, fs_158_21, fs_158_22, fs_158_23_p77 hk, fs_158_26, fs_158_29, fs_158_30_p77 hk, fs_158_33, fs_158_34, fs_158_35_p77 hk, fs_158_38, fs_158_39, fs_158_40, fs_158_41, fs_158_42_p77 hk, fs_158_45, fs_158_48, fs_158_49, fs_158_52, fs_158_53, fs_158_56, fs_158_57_p77 hk, fs_158_60_p92 hk, fs_158_61, fs_158_62, Option.bind_some, Option.toList_some, Option.toList_none, List.cons_append, List.nil_append, fd_nb0, fd_nb1, fd_nbb, fd_b0, nI_add, pk_mul, ite_not, Classical.not_not, not_false_iff, not_true, and_self, or_true, true_or, ↓reduceIte, if_true, if_false, ite_self, fd_mI, fd_mH, fd_mL, fd_p0, fd_w0, fd_w1, fd_w2, fd_10, fd_00, r1, tk, w4', n5, u, e28]
    · rw [if_neg d] at e; cases e
theorem fm_cnt0 (hk : fd_Sok k fb bb dr) (T : fd_mT n bt h) (L : fd_ML n bt p h) {a x : Nat} {m : Int32} (e : fd_pNum n bt (nI 0) m (fd_tE n bt p) = .inl x) : ∃ h', fd_E 159 0 [some (.ref (77)), some (.int (nI (a))), some (.int (m))] [] k h = some (some (.int (nI 0)), (k, h')) ∧ h'.1 77 29 = nI x ∧ ∀ q j, ¬ (q = 77 ∧ 24 ≤ j ∧ j ≤ 29) → h'.1 q j = h.1 q j := by
  obtain ⟨h1, r1, r2, r3⟩ := fd_ML_n hk T L
  unfold fd_pNum at e
  by_cases d : fd_isN n bt (fd_tE n bt p) (nI 0) m
  · rw [if_pos d] at e; cases e
  · rw [if_neg d] at e
    cases e
    have u := fm_mIsNum (l := nI 0) (m := m) hk r2
    rw [fd_bf d] at u
    have f := fm_mFails hk r2
    refine ⟨fd_w h1 77 29 (nI (fd_tS n bt (fd_tE n bt p))), ?_, fd_w0, fun q j hn => (if_neg (by omega)).trans (r3 q j (by omega))⟩
    simp (disch := first | exact fd_nl_int | exact fd_nl_ref | exact fd_nl_none | assumption | exact nI_ne0 (by omega) (by omega) | exact fd_nb0 | exact fd_nb1 | exact fd_nbb | omega) only [fs_159_0, fs_159_1_p77 hk, fs_159_4, fs_159_5, fs_159_6, fs_159_7_p77 hk, fs_159_10, fs_159_13, fs_159_14_p77 hk, fs_159_17, fs_159_18, fs_159_19_p77 hk, fs_159_22, fs_159_23, fs_159_24, fs_159_25, fs_159_26_p77 hk, fs_159_29_p92 hk, fs_159_30, fs_159_31, Option.bind_some, Option.toList_some, Option.toList_none, List.cons_append, List.nil_append, fd_nb0, fd_nb1, fd_nbb, fd_b0, nI_add, pk_mul, ite_not, Classical.not_not, not_false_iff, not_true, and_self, or_true, true_or, ↓reduceIte, if_true, if_false, ite_self, fd_mI, fd_mH, fd_mL, fd_p0, fd_w0, fd_w1, fd_w2, fd_10, fd_00, r1, u, f]
theorem fm_cnt1 (hk : fd_Sok k fb bb dr) (T : fd_mT n bt h) (L : fd_ML n bt p h) {a q : Nat} {m v : Int32} (ha : a < 46) (e : fd_pNum n bt (nI 0) m (fd_tE n bt p) = .inr (v, q)) : q = fd_tE n bt (fd_tE n bt p) ∧ ∃ h', fd_E 159 0 [some (.ref (77)), some (.int (nI (a))), some (.int (m))] [] k h = some (some (.int (nI 1)), (k, h')) ∧ fd_ML n bt (fd_tE n bt p) h' ∧ h'.1 92 (a + 2) = v ∧ ∀ q j, ¬ (q = 77 ∧ 24 ≤ j ∧ j ≤ 28) → ¬ (q = 92 ∧ j = a + 2) → h'.1 q j = h.1 q j := by
  obtain ⟨h1, r1, r2, r3⟩ := fd_ML_n hk T L
  unfold fd_pNum at e
  by_cases d : fd_isN n bt (fd_tE n bt p) (nI 0) m
  · rw [if_pos d] at e
    cases e
    have u := fm_mIsNum (l := nI 0) (m := m) hk r2
    rw [fd_bt d] at u
    have e28 := fd_ML_num r2 d
    refine ⟨rfl, fd_w h1 92 (a + 2) (fd_num n bt (fd_tE n bt p)), ?_, fd_ML_fr r2 rfl (fun j _ _ => fd_w1 (by decide)), fd_w0, fun q j n1 n2 => (if_neg (by omega)).trans (r3 q j n1)⟩
    simp (disch := first | exact fd_nl_int | exact fd_nl_ref | exact fd_nl_none | assumption | exact nI_ne0 (by omega) (by omega) | exact fd_nb0 | exact fd_nb1 | exact fd_nbb | omega) only [fs_159_0, fs_159_1_p77 hk, fs_159_4, fs_159_5, fs_159_6, fs_159_7_p77 hk, fs_159_10, fs_159_13, fs_159_14_p77 hk, fs_159_17, fs_159_18, fs_159_19_p77 hk, fs_159_22, fs_159_23, fs_159_24, fs_159_25, fs_159_26_p77 hk, fs_159_29_p92 hk, fs_159_30, fs_159_31, Option.bind_some, Option.toList_some, Option.toList_none, List.cons_append, List.nil_append, fd_nb0, fd_nb1, fd_nbb, fd_b0, nI_add, pk_mul, ite_not, Classical.not_not, not_false_iff, not_true, and_self, or_true, true_or, ↓reduceIte, if_true, if_false, ite_self, fd_mI, fd_mH, fd_mL, fd_p0, fd_w0, fd_w1, fd_w2, fd_10, fd_00, r1, u, e28]
  · rw [if_neg d] at e; cases e
/-- the hours of an article, both ends -/
theorem fm_when (hk : fd_Sok k fb bb dr) (T : fd_mT n bt h) (L : fd_ML n bt p h) {a : Nat} (ha : a < 46) : (∀ x, fd_pHrs n bt p = .inl x → ∃ h', fd_E 161 0 [some (.ref (77)), some (.int (nI (a)))] [] k h = some (some (.int (nI 0)), (k, h')) ∧ h'.1 77 29 = nI x ∧ ∀ q j, ¬ (q = 77 ∧ 24 ≤ j ∧ j ≤ 29) → ¬ (q = 92 ∧ a + 3 ≤ j ∧ j ≤ a + 4) → h'.1 q j = h.1 q j) ∧ ∀ f t r, fd_pHrs n bt p = .inr ((f, t), r) → ∃ h', fd_E 161 0 [some (.ref (77)), some (.int (nI (a)))] [] k h = some (some (.int (nI 1)), (k, h')) ∧ fd_ML n bt r h' ∧ h'.1 92 (a + 3) = f ∧ h'.1 92 (a + 4) = t ∧ ∀ q j, ¬ (q = 77 ∧ 24 ≤ j ∧ j ≤ 28) → ¬ (q = 92 ∧ a + 3 ≤ j ∧ j ≤ a + 4) → h'.1 q j = h.1 q j := by
  have T0 : fd_mT n bt (fd_w (fd_w h 92 (a + 3) (nI 0)) 92 (a + 4) (nI 3000)) := fd_mT_f T (fun q j n1 n2 => (if_neg (by omega)).trans (if_neg (by omega)))
  have L0 : fd_ML n bt p (fd_w (fd_w h 92 (a + 3) (nI 0)) 92 (a + 4) (nI 3000)) := fd_ML_fr L rfl (fun j _ _ => (fd_w1 (by decide)).trans (fd_w1 (by decide)))
  have tk := L.2.2.2.1
  have w6 : (lg_cmp (fd_tk n bt p) 131638 = 0) = fd_isW n bt p 6 := fd_lcW L.1 (b := 6) (by omega)
  unfold fd_pHrs
  by_cases c : fd_isW n bt p 6
  · have w6' := w6.trans (eq_true c)
    simp only [if_pos c]
    obtain ⟨h1, r1, r2, r3⟩ := fd_ML_n hk T0 L0
    have T1 : fd_mT n bt h1 := fd_mT_f T0 (fun q j n1 n2 => r3 q j (by omega))
    have u := fm_mIsNum (l := nI 0) (m := nI 3000) hk r2
    unfold fd_pNum
    by_cases d : fd_isN n bt (fd_tE n bt p) (nI 0) (nI 3000)
    · simp only [if_pos d]
      rw [fd_bt d] at u
      have e28 := fd_ML_num r2 d
      have T2 : fd_mT n bt (fd_w h1 92 (a + 3) (fd_num n bt (fd_tE n bt p))) := fd_mT_f T1 (fun q j n1 n2 => if_neg (by omega))
      have L2 : fd_ML n bt (fd_tE n bt p) (fd_w h1 92 (a + 3) (fd_num n bt (fd_tE n bt p))) := fd_ML_fr r2 rfl (fun j _ _ => fd_w1 (by decide))
      obtain ⟨h3, s1, s2, s3⟩ := fd_ML_n hk T2 L2
      have T3 : fd_mT n bt h3 := fd_mT_f T2 (fun q j n1 n2 => s3 q j (by omega))
      have tk3 := s2.2.2.2.1
      have f3 : h3.1 92 (a + 3) = fd_num n bt (fd_tE n bt p) := (s3 92 (a + 3) (by omega)).trans fd_w0
      have fr3 : ∀ q j, ¬ (q = 77 ∧ 24 ≤ j ∧ j ≤ 28) → ¬ (q = 92 ∧ a + 3 ≤ j ∧ j ≤ a + 4) → h3.1 q j = h.1 q j := fun q j n1 n2 => (s3 q j n1).trans ((if_neg (by omega)).trans ((r3 q j n1).trans ((if_neg (by omega)).trans (if_neg (by omega)))))
      have f34 : h3.1 92 (a + 4) = nI 3000 := (s3 92 (a + 4) (by omega)).trans ((fd_w2 (by omega)).trans ((r3 92 (a + 4) (by omega)).trans fd_w0))
      have w7 : (lg_cmp (fd_tk n bt (fd_tE n bt (fd_tE n bt p))) 555 = 0) = fd_isW n bt (fd_tE n bt (fd_tE n bt p)) 7 := fd_lcW s2.1 (b := 7) (by omega)
      unfold fd_pTo
      by_cases c2 : fd_isW n bt (fd_tE n bt (fd_tE n bt p)) 7
      · have w7' := w7.trans (eq_true c2)
        simp only [if_pos c2]
        obtain ⟨h4, t1, t2, t3⟩ := fd_ML_n hk T3 s2
        have T4 : fd_mT n bt h4 := fd_mT_f T3 (fun q j n1 n2 => t3 q j (by omega))
        have f4 : h4.1 92 (a + 3) = fd_num n bt (fd_tE n bt p) := (t3 92 (a + 3) (by omega)).trans f3
        have u2 := fm_mIsNum (l := fd_num n bt (fd_tE n bt p)) (m := nI 3000) hk t2
        unfold fd_pNum
        by_cases d2 : fd_isN n bt (fd_tE n bt (fd_tE n bt (fd_tE n bt p))) (fd_num n bt (fd_tE n bt p)) (nI 3000)
        · simp only [if_pos d2]
          rw [fd_bt d2] at u2
          have e28' := fd_ML_num t2 d2
          have T5 : fd_mT n bt (fd_w h4 92 (a + 4) (fd_num n bt (fd_tE n bt (fd_tE n bt (fd_tE n bt p))))) := fd_mT_f T4 (fun q j n1 n2 => if_neg (by omega))
          have L5 : fd_ML n bt (fd_tE n bt (fd_tE n bt (fd_tE n bt p))) (fd_w h4 92 (a + 4) (fd_num n bt (fd_tE n bt (fd_tE n bt (fd_tE n bt p))))) := fd_ML_fr t2 rfl (fun j _ _ => fd_w1 (by decide))
          obtain ⟨h6, v1, v2, v3⟩ := fd_ML_n hk T5 L5
          refine ⟨fun x e => (by cases e), fun f t r e => ?_⟩
          cases e
          refine ⟨h6, ?_, v2, (v3 92 (a + 3) (by omega)).trans ((fd_w2 (by omega)).trans f4), (v3 92 (a + 4) (by omega)).trans fd_w0, fun q j n1 n2 => (v3 q j n1).trans ((if_neg (by omega)).trans ((t3 q j n1).trans (fr3 q j n1 n2)))⟩
          simp (disch := first | exact fd_nl_int | exact fd_nl_ref | exact fd_nl_none | assumption | exact nI_ne0 (by omega) (by omega) | exact fd_nb0 | exact fd_nb1 | exact fd_nbb | omega) only [fs_161_0, fs_161_1_p77 hk, fs_161_4, fs_161_5, fs_161_6, fs_161_7, fs_161_8_p92 hk, fs_161_9, fs_161_10_p77 hk, fs_161_13, fs_161_14, fs_161_15, fs_161_16, fs_161_19_p92 hk, fs_161_20, fs_161_21_p77 hk, fs_161_24, fs_161_27, fs_161_28, fs_161_31, fs_161_32, fs_161_33, fs_161_34_p77 hk, fs_161_37, fs_161_38, fs_161_39, fs_161_42_p77 hk, fs_161_45, fs_161_48, fs_161_49_p77 hk, fs_161_52, fs_161_53, fs_161_54_p77 hk, fs_161_57, fs_161_58, fs_161_59, fs_161_60, fs_161_61_p77 hk, fs_161_64_p92 hk, fs_161_65, fs_161_66_p77 hk, fs_161_69, fs_161_70_p77 hk, fs_161_73, fs_161_76, fs_161_77, fs_161_80, fs_161_81, fs_161_82, fs_161_83_p77 hk, fs_161_86, fs_161_87, fs_161_88_p77 hk, fs_161_91, fs_161_92, fs_161_93, fs_161_94_p92 hk, fs_161_95, fs_161_98_p77 hk, fs_161_101, fs_161_104, fs_161_105_p77 hk, fs_161_108, fs_161_109, fs_161_110_p77 hk, fs_161_113, fs_161_114, fs_161_115, fs_161_116, fs_161_117_p77 hk, fs_161_120_p92 hk, fs_161_121, fs_161_122_p77 hk, fs_161_125, fs_161_126, Option.bind_some, Option.toList_some, Option.toList_none, List.cons_append, List.nil_append, fd_nb0, fd_nb1, fd_nbb, fd_b0, nI_add, pk_mul, ite_not, Classical.not_not, not_false_iff, not_true, and_self, or_true, true_or, ↓reduceIte, if_true, if_false, ite_self, fd_mI, fd_mH, fd_mL, fd_p0, fd_w0, fd_w1, fd_w2, fd_10, fd_00, fd_w_2, tk, w6', r1, u, e28, s1, tk3, w7', t1, f4, u2, e28', v1]
        · simp only [if_neg d2]
          rw [fd_bf d2] at u2
          have f := fm_mFails hk t2
          refine ⟨fun x e => ?_, fun f t r e => by cases e⟩
          cases e
          refine ⟨fd_w h4 77 29 (nI (fd_tS n bt (fd_tE n bt (fd_tE n bt (fd_tE n bt p))))), ?_, fd_w0, fun q j n1 n2 => (if_neg (by omega)).trans ((t3 q j (by omega)).trans (fr3 q j (by omega) n2))⟩
          simp (disch := first | exact fd_nl_int | exact fd_nl_ref | exact fd_nl_none | assumption | exact nI_ne0 (by omega) (by omega) | exact fd_nb0 | exact fd_nb1 | exact fd_nbb | omega) only [fs_161_0, fs_161_1_p77 hk, fs_161_4, fs_161_5, fs_161_6, fs_161_7, fs_161_8_p92 hk, fs_161_9, fs_161_10_p77 hk, fs_161_13, fs_161_14, fs_161_15, fs_161_16, fs_161_19_p92 hk, fs_161_20, fs_161_21_p77 hk, fs_161_24, fs_161_27, fs_161_28, fs_161_31, fs_161_32, fs_161_33, fs_161_34_p77 hk, fs_161_37, fs_161_38, fs_161_39, fs_161_42_p77 hk, fs_161_45, fs_161_48, fs_161_49_p77 hk, fs_161_52, fs_161_53, fs_161_54_p77 hk, fs_161_57, fs_161_58, fs_161_59, fs_161_60, fs_161_61_p77 hk, fs_161_64_p92 hk, fs_161_65, fs_161_66_p77 hk, fs_161_69, fs_161_70_p77 hk, fs_161_73, fs_161_76, fs_161_77, fs_161_80, fs_161_81, fs_161_82, fs_161_83_p77 hk, fs_161_86, fs_161_87, fs_161_88_p77 hk, fs_161_91, fs_161_92, fs_161_93, fs_161_94_p92 hk, fs_161_95, fs_161_98_p77 hk, fs_161_101, fs_161_104, fs_161_105_p77 hk, fs_161_108, fs_161_109, fs_161_110_p77 hk, fs_161_113, fs_161_114, fs_161_115, fs_161_116, fs_161_117_p77 hk, fs_161_120_p92 hk, fs_161_121, fs_161_122_p77 hk, fs_161_125, fs_161_126, Option.bind_some, Option.toList_some, Option.toList_none, List.cons_append, List.nil_append, fd_nb0, fd_nb1, fd_nbb, fd_b0, nI_add, pk_mul, ite_not, Classical.not_not, not_false_iff, not_true, and_self, or_true, true_or, ↓reduceIte, if_true, if_false, ite_self, fd_mI, fd_mH, fd_mL, fd_p0, fd_w0, fd_w1, fd_w2, fd_10, fd_00, fd_w_2, tk, w6', r1, u, e28, s1, tk3, w7', t1, f4, u2, f]
      · have w7' := w7.trans (eq_false c2)
        simp only [if_neg c2]
        refine ⟨fun x e => by (cases e), fun f t r e => ?_⟩
        cases e
        refine ⟨h3, ?_, s2, f3, f34, fr3⟩
        simp (disch := first | exact fd_nl_int | exact fd_nl_ref | exact fd_nl_none | assumption | exact nI_ne0 (by omega) (by omega) | exact fd_nb0 | exact fd_nb1 | exact fd_nbb | omega) only [fs_161_0, fs_161_1_p77 hk, fs_161_4, fs_161_5, fs_161_6, fs_161_7, fs_161_8_p92 hk, fs_161_9, fs_161_10_p77 hk, fs_161_13, fs_161_14, fs_161_15, fs_161_16, fs_161_19_p92 hk, fs_161_20, fs_161_21_p77 hk, fs_161_24, fs_161_27, fs_161_28, fs_161_31, fs_161_32, fs_161_33, fs_161_34_p77 hk, fs_161_37, fs_161_38, fs_161_39, fs_161_42_p77 hk, fs_161_45, fs_161_48, fs_161_49_p77 hk, fs_161_52, fs_161_53, fs_161_54_p77 hk, fs_161_57, fs_161_58, fs_161_59, fs_161_60, fs_161_61_p77 hk, fs_161_64_p92 hk, fs_161_65, fs_161_66_p77 hk, fs_161_69, fs_161_70_p77 hk, fs_161_73, fs_161_76, fs_161_77, fs_161_80, fs_161_81, fs_161_82, fs_161_83_p77 hk, fs_161_86, fs_161_87, fs_161_88_p77 hk, fs_161_91, fs_161_92, fs_161_93, fs_161_94_p92 hk, fs_161_95, fs_161_98_p77 hk, fs_161_101, fs_161_104, fs_161_105_p77 hk, fs_161_108, fs_161_109, fs_161_110_p77 hk, fs_161_113, fs_161_114, fs_161_115, fs_161_116, fs_161_117_p77 hk, fs_161_120_p92 hk, fs_161_121, fs_161_122_p77 hk, fs_161_125, fs_161_126, Option.bind_some, Option.toList_some, Option.toList_none, List.cons_append, List.nil_append, fd_nb0, fd_nb1, fd_nbb, fd_b0, nI_add, pk_mul, ite_not, Classical.not_not, not_false_iff, not_true, and_self, or_true, true_or, ↓reduceIte, if_true, if_false, ite_self, fd_mI, fd_mH, fd_mL, fd_p0, fd_w0, fd_w1, fd_w2, fd_10, fd_00, fd_w_2, tk, w6', r1, u, e28, s1, tk3, w7']
    · simp only [if_neg d]
      rw [fd_bf d] at u
      have f := fm_mFails hk r2
      refine ⟨fun x e => ?_, fun f t r e => by cases e⟩
      cases e
      refine ⟨fd_w h1 77 29 (nI (fd_tS n bt (fd_tE n bt p))), ?_, fd_w0, fun q j n1 n2 => (if_neg (by omega)).trans ((r3 q j (by omega)).trans ((if_neg (by omega)).trans (if_neg (by omega))))⟩
      simp (disch := first | exact fd_nl_int | exact fd_nl_ref | exact fd_nl_none | assumption | exact nI_ne0 (by omega) (by omega) | exact fd_nb0 | exact fd_nb1 | exact fd_nbb | omega) only [fs_161_0, fs_161_1_p77 hk, fs_161_4, fs_161_5, fs_161_6, fs_161_7, fs_161_8_p92 hk, fs_161_9, fs_161_10_p77 hk, fs_161_13, fs_161_14, fs_161_15, fs_161_16, fs_161_19_p92 hk, fs_161_20, fs_161_21_p77 hk, fs_161_24, fs_161_27, fs_161_28, fs_161_31, fs_161_32, fs_161_33, fs_161_34_p77 hk, fs_161_37, fs_161_38, fs_161_39, fs_161_42_p77 hk, fs_161_45, fs_161_48, fs_161_49_p77 hk, fs_161_52, fs_161_53, fs_161_54_p77 hk, fs_161_57, fs_161_58, fs_161_59, fs_161_60, fs_161_61_p77 hk, fs_161_64_p92 hk, fs_161_65, fs_161_66_p77 hk, fs_161_69, fs_161_70_p77 hk, fs_161_73, fs_161_76, fs_161_77, fs_161_80, fs_161_81, fs_161_82, fs_161_83_p77 hk, fs_161_86, fs_161_87, fs_161_88_p77 hk, fs_161_91, fs_161_92, fs_161_93, fs_161_94_p92 hk, fs_161_95, fs_161_98_p77 hk, fs_161_101, fs_161_104, fs_161_105_p77 hk, fs_161_108, fs_161_109, fs_161_110_p77 hk, fs_161_113, fs_161_114, fs_161_115, fs_161_116, fs_161_117_p77 hk, fs_161_120_p92 hk, fs_161_121, fs_161_122_p77 hk, fs_161_125, fs_161_126, Option.bind_some, Option.toList_some, Option.toList_none, List.cons_append, List.nil_append, fd_nb0, fd_nb1, fd_nbb, fd_b0, nI_add, pk_mul, ite_not, Classical.not_not, not_false_iff, not_true, and_self, or_true, true_or, ↓reduceIte, if_true, if_false, ite_self, fd_mI, fd_mH, fd_mL, fd_p0, fd_w0, fd_w1, fd_w2, fd_10, fd_00, fd_w_2, tk, w6', r1, u, f]
  · have w6' := w6.trans (eq_false c)
    simp only [if_neg c]
    refine ⟨fun x e => by (cases e), fun f t r e => ?_⟩
    cases e
    refine ⟨fd_w (fd_w h 92 (a + 3) (nI 0)) 92 (a + 4) (nI 3000), ?_, L0, (fd_w2 (by omega)).trans fd_w0, fd_w0, fun q j n1 n2 => (if_neg (by omega)).trans (if_neg (by omega))⟩
    simp (disch := first | exact fd_nl_int | exact fd_nl_ref | exact fd_nl_none | assumption | exact nI_ne0 (by omega) (by omega) | exact fd_nb0 | exact fd_nb1 | exact fd_nbb | omega) only [fs_161_0, fs_161_1_p77 hk, fs_161_4, fs_161_5, fs_161_6, fs_161_7, fs_161_8_p92 hk, fs_161_9, fs_161_10_p77 hk, fs_161_13, fs_161_14, fs_161_15, fs_161_16, fs_161_19_p92 hk, fs_161_20, fs_161_21_p77 hk, fs_161_24, fs_161_27, fs_161_28, fs_161_31, fs_161_32, fs_161_33, fs_161_34_p77 hk, fs_161_37, fs_161_38, fs_161_39, fs_161_42_p77 hk, fs_161_45, fs_161_48, fs_161_49_p77 hk, fs_161_52, fs_161_53, fs_161_54_p77 hk, fs_161_57, fs_161_58, fs_161_59, fs_161_60, fs_161_61_p77 hk, fs_161_64_p92 hk, fs_161_65, fs_161_66_p77 hk, fs_161_69, fs_161_70_p77 hk, fs_161_73, fs_161_76, fs_161_77, fs_161_80, fs_161_81, fs_161_82, fs_161_83_p77 hk, fs_161_86, fs_161_87, fs_161_88_p77 hk, fs_161_91, fs_161_92, fs_161_93, fs_161_94_p92 hk, fs_161_95, fs_161_98_p77 hk, fs_161_101, fs_161_104, fs_161_105_p77 hk, fs_161_108, fs_161_109, fs_161_110_p77 hk, fs_161_113, fs_161_114, fs_161_115, fs_161_116, fs_161_117_p77 hk, fs_161_120_p92 hk, fs_161_121, fs_161_122_p77 hk, fs_161_125, fs_161_126, Option.bind_some, Option.toList_some, Option.toList_none, List.cons_append, List.nil_append, fd_nb0, fd_nb1, fd_nbb, fd_b0, nI_add, pk_mul, ite_not, Classical.not_not, not_false_iff, not_true, and_self, or_true, true_or, ↓reduceIte, if_true, if_false, ite_self, fd_mI, fd_mH, fd_mL, fd_p0, fd_w0, fd_w1, fd_w2, fd_10, fd_00, fd_w_2, tk, w6']
/-- the sort of an article -/
theorem fm_mKd (hk : fd_Sok k fb bb dr) (L : fd_ML n bt p h) {a : Nat} : fd_E 160 0 [some (.ref (77)), some (.int (nI (a))), none] [] k h = fd_E 160 62 [some (.ref (77)), some (.int (nI (a))), some (.int (if fd_pKd n bt p = 4 then -1 else nI (fd_pKd n bt p)))] [] k h := by
  have tk := L.2.2.2.1
  have w0 : (lg_cmp (fd_tk n bt p) 11561 = 0) = fd_isW n bt p 0 := fd_lcW L.1 (b := 0) (by omega)
  have w1 : (lg_cmp (fd_tk n bt p) 11993594 = 0) = fd_isW n bt p 1 := fd_lcW L.1 (b := 1) (by omega)
  have w2 : (lg_cmp (fd_tk n bt p) 1627639 = 0) = fd_isW n bt p 2 := fd_lcW L.1 (b := 2) (by omega)
  have w3 : (lg_cmp (fd_tk n bt p) 230471582 = 0) = fd_isW n bt p 3 := fd_lcW L.1 (b := 3) (by omega)
  unfold fd_pKd
  by_cases c0 : fd_isW n bt p 0
  · have w0' := w0.trans (eq_true c0)
    rw [if_pos c0, if_neg (by decide)]
    simp (disch := first | exact fd_nl_int | exact fd_nl_ref | exact fd_nl_none | assumption | exact nI_ne0 (by omega) (by omega) | exact fd_nb0 | exact fd_nb1 | exact fd_nbb | omega) only [fs_160_0, fs_160_1_p77 hk, fs_160_4, fs_160_7, fs_160_8, fs_160_11, fs_160_12, fs_160_15, fs_160_16_p77 hk, fs_160_19, fs_160_22, fs_160_23, fs_160_26, fs_160_27, fs_160_30, fs_160_31_p77 hk, fs_160_34, fs_160_37, fs_160_38, fs_160_41, fs_160_42, fs_160_45, fs_160_46_p77 hk, fs_160_49, fs_160_52, fs_160_53, fs_160_56, fs_160_57, fs_160_60, fs_160_61, fs_160_63, fs_160_64, fs_160_67, fs_160_68_p77 hk, fs_160_71, fs_160_72, fs_160_73_p77 hk, fs_160_76, fs_160_77, fs_160_78_p92 hk, fs_160_79, fs_160_80_p77 hk, fs_160_83, fs_160_84, fs_160_85, fs_160_86, fs_160_87_p92 hk, fs_160_88, fs_160_89_p77 hk, fs_160_92, fs_160_93, fs_160_94, fs_160_95, fs_160_96_p92 hk, fs_160_97, fs_160_98, fs_160_99, fs_160_102, fs_160_103, fs_160_104_p77 hk, fs_160_107, fs_160_110, fs_160_111, fs_160_112, fs_160_113, fs_160_114, fs_160_117, fs_160_118, fs_160_119, fs_160_121_p77 hk, fs_160_124, fs_160_127, fs_160_128, fs_160_129, fs_160_130_p77 hk, fs_160_133, fs_160_134, fs_160_135, fs_160_138, fs_160_139_p77 hk, fs_160_142, fs_160_145, fs_160_146, fs_160_149, fs_160_150, fs_160_151, fs_160_152_p77 hk, fs_160_155, fs_160_158, fs_160_159, fs_160_160, fs_160_161_p77 hk, fs_160_164, fs_160_165, fs_160_166_p77 hk, fs_160_169, Option.bind_some, Option.toList_some, Option.toList_none, List.cons_append, List.nil_append, fd_nb0, fd_nb1, fd_nbb, fd_b0, nI_add, pk_mul, ite_not, Classical.not_not, not_false_iff, not_true, and_self, or_true, true_or, ↓reduceIte, if_true, if_false, ite_self, fd_mI, fd_mH, fd_mL, fd_p0, fd_w0, fd_w1, fd_w2, fd_10, fd_00, tk, w0']
  · have w0' := w0.trans (eq_false c0)
    by_cases c1 : fd_isW n bt p 1
    · have w1' := w1.trans (eq_true c1)
      rw [if_neg c0, if_pos c1, if_neg (by decide)]
      simp (disch := first | exact fd_nl_int | exact fd_nl_ref | exact fd_nl_none | assumption | exact nI_ne0 (by omega) (by omega) | exact fd_nb0 | exact fd_nb1 | exact fd_nbb | omega) only [fs_160_0, fs_160_1_p77 hk, fs_160_4, fs_160_7, fs_160_8, fs_160_11, fs_160_12, fs_160_15, fs_160_16_p77 hk, fs_160_19, fs_160_22, fs_160_23, fs_160_26, fs_160_27, fs_160_30, fs_160_31_p77 hk, fs_160_34, fs_160_37, fs_160_38, fs_160_41, fs_160_42, fs_160_45, fs_160_46_p77 hk, fs_160_49, fs_160_52, fs_160_53, fs_160_56, fs_160_57, fs_160_60, fs_160_61, fs_160_63, fs_160_64, fs_160_67, fs_160_68_p77 hk, fs_160_71, fs_160_72, fs_160_73_p77 hk, fs_160_76, fs_160_77, fs_160_78_p92 hk, fs_160_79, fs_160_80_p77 hk, fs_160_83, fs_160_84, fs_160_85, fs_160_86, fs_160_87_p92 hk, fs_160_88, fs_160_89_p77 hk, fs_160_92, fs_160_93, fs_160_94, fs_160_95, fs_160_96_p92 hk, fs_160_97, fs_160_98, fs_160_99, fs_160_102, fs_160_103, fs_160_104_p77 hk, fs_160_107, fs_160_110, fs_160_111, fs_160_112, fs_160_113, fs_160_114, fs_160_117, fs_160_118, fs_160_119, fs_160_121_p77 hk, fs_160_124, fs_160_127, fs_160_128, fs_160_129, fs_160_130_p77 hk, fs_160_133, fs_160_134, fs_160_135, fs_160_138, fs_160_139_p77 hk, fs_160_142, fs_160_145, fs_160_146, fs_160_149, fs_160_150, fs_160_151, fs_160_152_p77 hk, fs_160_155, fs_160_158, fs_160_159, fs_160_160, fs_160_161_p77 hk, fs_160_164, fs_160_165, fs_160_166_p77 hk, fs_160_169, Option.bind_some, Option.toList_some, Option.toList_none, List.cons_append, List.nil_append, fd_nb0, fd_nb1, fd_nbb, fd_b0, nI_add, pk_mul, ite_not, Classical.not_not, not_false_iff, not_true, and_self, or_true, true_or, ↓reduceIte, if_true, if_false, ite_self, fd_mI, fd_mH, fd_mL, fd_p0, fd_w0, fd_w1, fd_w2, fd_10, fd_00, tk, w0', w1']
    · have w1' := w1.trans (eq_false c1)
      by_cases c2 : fd_isW n bt p 2
      · have w2' := w2.trans (eq_true c2)
        rw [if_neg c0, if_neg c1, if_pos c2, if_neg (by decide)]
        simp (disch := first | exact fd_nl_int | exact fd_nl_ref | exact fd_nl_none | assumption | exact nI_ne0 (by omega) (by omega) | exact fd_nb0 | exact fd_nb1 | exact fd_nbb | omega) only [fs_160_0, fs_160_1_p77 hk, fs_160_4, fs_160_7, fs_160_8, fs_160_11, fs_160_12, fs_160_15, fs_160_16_p77 hk, fs_160_19, fs_160_22, fs_160_23, fs_160_26, fs_160_27, fs_160_30, fs_160_31_p77 hk, fs_160_34, fs_160_37, fs_160_38, fs_160_41, fs_160_42, fs_160_45, fs_160_46_p77 hk, fs_160_49, fs_160_52, fs_160_53, fs_160_56, fs_160_57, fs_160_60, fs_160_61, fs_160_63, fs_160_64, fs_160_67, fs_160_68_p77 hk, fs_160_71, fs_160_72, fs_160_73_p77 hk, fs_160_76, fs_160_77, fs_160_78_p92 hk, fs_160_79, fs_160_80_p77 hk, fs_160_83, fs_160_84, fs_160_85, fs_160_86, fs_160_87_p92 hk, fs_160_88, fs_160_89_p77 hk, fs_160_92, fs_160_93, fs_160_94, fs_160_95, fs_160_96_p92 hk, fs_160_97, fs_160_98, fs_160_99, fs_160_102, fs_160_103, fs_160_104_p77 hk, fs_160_107, fs_160_110, fs_160_111, fs_160_112, fs_160_113, fs_160_114, fs_160_117, fs_160_118, fs_160_119, fs_160_121_p77 hk, fs_160_124, fs_160_127, fs_160_128, fs_160_129, fs_160_130_p77 hk, fs_160_133, fs_160_134, fs_160_135, fs_160_138, fs_160_139_p77 hk, fs_160_142, fs_160_145, fs_160_146, fs_160_149, fs_160_150, fs_160_151, fs_160_152_p77 hk, fs_160_155, fs_160_158, fs_160_159, fs_160_160, fs_160_161_p77 hk, fs_160_164, fs_160_165, fs_160_166_p77 hk, fs_160_169, Option.bind_some, Option.toList_some, Option.toList_none, List.cons_append, List.nil_append, fd_nb0, fd_nb1, fd_nbb, fd_b0, nI_add, pk_mul, ite_not, Classical.not_not, not_false_iff, not_true, and_self, or_true, true_or, ↓reduceIte, if_true, if_false, ite_self, fd_mI, fd_mH, fd_mL, fd_p0, fd_w0, fd_w1, fd_w2, fd_10, fd_00, tk, w0', w1', w2']
      · have w2' := w2.trans (eq_false c2)
        by_cases c3 : fd_isW n bt p 3
        · have w3' := w3.trans (eq_true c3)
          rw [if_neg c0, if_neg c1, if_neg c2, if_pos c3, if_neg (by decide)]
          simp (disch := first | exact fd_nl_int | exact fd_nl_ref | exact fd_nl_none | assumption | exact nI_ne0 (by omega) (by omega) | exact fd_nb0 | exact fd_nb1 | exact fd_nbb | omega) only [fs_160_0, fs_160_1_p77 hk, fs_160_4, fs_160_7, fs_160_8, fs_160_11, fs_160_12, fs_160_15, fs_160_16_p77 hk, fs_160_19, fs_160_22, fs_160_23, fs_160_26, fs_160_27, fs_160_30, fs_160_31_p77 hk, fs_160_34, fs_160_37, fs_160_38, fs_160_41, fs_160_42, fs_160_45, fs_160_46_p77 hk, fs_160_49, fs_160_52, fs_160_53, fs_160_56, fs_160_57, fs_160_60, fs_160_61, fs_160_63, fs_160_64, fs_160_67, fs_160_68_p77 hk, fs_160_71, fs_160_72, fs_160_73_p77 hk, fs_160_76, fs_160_77, fs_160_78_p92 hk, fs_160_79, fs_160_80_p77 hk, fs_160_83, fs_160_84, fs_160_85, fs_160_86, fs_160_87_p92 hk, fs_160_88, fs_160_89_p77 hk, fs_160_92, fs_160_93, fs_160_94, fs_160_95, fs_160_96_p92 hk, fs_160_97, fs_160_98, fs_160_99, fs_160_102, fs_160_103, fs_160_104_p77 hk, fs_160_107, fs_160_110, fs_160_111, fs_160_112, fs_160_113, fs_160_114, fs_160_117, fs_160_118, fs_160_119, fs_160_121_p77 hk, fs_160_124, fs_160_127, fs_160_128, fs_160_129, fs_160_130_p77 hk, fs_160_133, fs_160_134, fs_160_135, fs_160_138, fs_160_139_p77 hk, fs_160_142, fs_160_145, fs_160_146, fs_160_149, fs_160_150, fs_160_151, fs_160_152_p77 hk, fs_160_155, fs_160_158, fs_160_159, fs_160_160, fs_160_161_p77 hk, fs_160_164, fs_160_165, fs_160_166_p77 hk, fs_160_169, Option.bind_some, Option.toList_some, Option.toList_none, List.cons_append, List.nil_append, fd_nb0, fd_nb1, fd_nbb, fd_b0, nI_add, pk_mul, ite_not, Classical.not_not, not_false_iff, not_true, and_self, or_true, true_or, ↓reduceIte, if_true, if_false, ite_self, fd_mI, fd_mH, fd_mL, fd_p0, fd_w0, fd_w1, fd_w2, fd_10, fd_00, tk, w0', w1', w2', w3']
        · have w3' := w3.trans (eq_false c3)
          rw [if_neg c0, if_neg c1, if_neg c2, if_neg c3, if_pos rfl]
          simp (disch := first | exact fd_nl_int | exact fd_nl_ref | exact fd_nl_none | assumption | exact nI_ne0 (by omega) (by omega) | exact fd_nb0 | exact fd_nb1 | exact fd_nbb | omega) only [fs_160_0, fs_160_1_p77 hk, fs_160_4, fs_160_7, fs_160_8, fs_160_11, fs_160_12, fs_160_15, fs_160_16_p77 hk, fs_160_19, fs_160_22, fs_160_23, fs_160_26, fs_160_27, fs_160_30, fs_160_31_p77 hk, fs_160_34, fs_160_37, fs_160_38, fs_160_41, fs_160_42, fs_160_45, fs_160_46_p77 hk, fs_160_49, fs_160_52, fs_160_53, fs_160_56, fs_160_57, fs_160_60, fs_160_61, fs_160_63, fs_160_64, fs_160_67, fs_160_68_p77 hk, fs_160_71, fs_160_72, fs_160_73_p77 hk, fs_160_76, fs_160_77, fs_160_78_p92 hk, fs_160_79, fs_160_80_p77 hk, fs_160_83, fs_160_84, fs_160_85, fs_160_86, fs_160_87_p92 hk, fs_160_88, fs_160_89_p77 hk, fs_160_92, fs_160_93, fs_160_94, fs_160_95, fs_160_96_p92 hk, fs_160_97, fs_160_98, fs_160_99, fs_160_102, fs_160_103, fs_160_104_p77 hk, fs_160_107, fs_160_110, fs_160_111, fs_160_112, fs_160_113, fs_160_114, fs_160_117, fs_160_118, fs_160_119, fs_160_121_p77 hk, fs_160_124, fs_160_127, fs_160_128, fs_160_129, fs_160_130_p77 hk, fs_160_133, fs_160_134, fs_160_135, fs_160_138, fs_160_139_p77 hk, fs_160_142, fs_160_145, fs_160_146, fs_160_149, fs_160_150, fs_160_151, fs_160_152_p77 hk, fs_160_155, fs_160_158, fs_160_159, fs_160_160, fs_160_161_p77 hk, fs_160_164, fs_160_165, fs_160_166_p77 hk, fs_160_169, Option.bind_some, Option.toList_some, Option.toList_none, List.cons_append, List.nil_append, fd_nb0, fd_nb1, fd_nbb, fd_b0, nI_add, pk_mul, ite_not, Classical.not_not, not_false_iff, not_true, and_self, or_true, true_or, ↓reduceIte, if_true, if_false, ite_self, fd_mI, fd_mH, fd_mL, fd_p0, fd_w0, fd_w1, fd_w2, fd_10, fd_00, tk, w0', w1', w2', w3']
/-- whom an article is for, and its number -/
theorem fm_mBody (hk : fd_Sok k fb bb dr) (T : fd_mT n bt h) (L : fd_ML n bt p h) (hn : h.1 77 5 = nI ns) {a kd : Nat} (ha : a < 46) (k4 : kd < 4) : (∀ x, fd_pBody n bt ns kd (fd_tE n bt p) = .inl x → ∃ h', fd_E 160 62 [some (.ref (77)), some (.int (nI (a))), some (.int (nI (kd)))] [] k h = some (some (.int (nI 0)), (k, h')) ∧ h'.1 77 29 = nI x ∧ ∀ q j, ¬ (q = 77 ∧ 24 ≤ j ∧ j ≤ 29) → ¬ (q = 92 ∧ a ≤ j ∧ j ≤ a + 4) → h'.1 q j = h.1 q j) ∧ ∀ s v r, fd_pBody n bt ns kd (fd_tE n bt p) = .inr ((s, v), r) → ∃ h', fd_E 160 62 [some (.ref (77)), some (.int (nI (a))), some (.int (nI (kd)))] [] k h = fd_E 160 164 [some (.ref (77)), some (.int (nI (a))), some (.int (nI (kd)))] [] k h' ∧ fd_ML n bt r h' ∧ h'.1 92 a = nI kd ∧ h'.1 92 (a + 1) = s ∧ h'.1 92 (a + 2) = v ∧ ∀ q j, ¬ (q = 77 ∧ 24 ≤ j ∧ j ≤ 28) → ¬ (q = 92 ∧ a ≤ j ∧ j ≤ a + 4) → h'.1 q j = h.1 q j := by
  have km : (nI kd = -1) = False := eq_false (fd_nm1 (by omega))
  have n02 : (nI 0 = nI 2) = False := eq_false (by decide)
  have n12 : (nI 1 = nI 2) = False := eq_false (by decide)
  have n32 : (nI 3 = nI 2) = False := eq_false (by decide)
  have n03 : (nI 0 = nI 3) = False := eq_false (by decide)
  have n13 : (nI 1 = nI 3) = False := eq_false (by decide)
  have n23 : (nI 2 = nI 3) = False := eq_false (by decide)
  have T0 : fd_mT n bt (fd_w (fd_w (fd_w h 92 a (nI kd)) 92 (a + 1) (-1)) 92 (a + 2) (-1)) := fd_mT_f T (fun q j n1 n2 => (if_neg (by omega)).trans ((if_neg (by omega)).trans (if_neg (by omega))))
  have L0 : fd_ML n bt p (fd_w (fd_w (fd_w h 92 a (nI kd)) 92 (a + 1) (-1)) 92 (a + 2) (-1)) := fd_ML_fr L rfl (fun j _ _ => (fd_w1 (by decide)).trans ((fd_w1 (by decide)).trans (fd_w1 (by decide))))
  have hn0 : (fd_w (fd_w (fd_w h 92 a (nI kd)) 92 (a + 1) (-1)) 92 (a + 2) (-1)).1 77 5 = nI ns := (fd_w1 (by decide)).trans ((fd_w1 (by decide)).trans ((fd_w1 (by decide)).trans hn))
  have z0 : (fd_w (fd_w (fd_w h 92 a (nI kd)) 92 (a + 1) (-1)) 92 (a + 2) (-1)).1 92 a = nI kd := (fd_w2 (by omega)).trans ((fd_w2 (by omega)).trans fd_w0)
  have z1 : (fd_w (fd_w (fd_w h 92 a (nI kd)) 92 (a + 1) (-1)) 92 (a + 2) (-1)).1 92 (a + 1) = -1 := (fd_w2 (by omega)).trans fd_w0
  have z2 : (fd_w (fd_w (fd_w h 92 a (nI kd)) 92 (a + 1) (-1)) 92 (a + 2) (-1)).1 92 (a + 2) = -1 := fd_w0
  have fr0 : ∀ q j, ¬ (q = 92 ∧ a ≤ j ∧ j ≤ a + 4) → (fd_w (fd_w (fd_w h 92 a (nI kd)) 92 (a + 1) (-1)) 92 (a + 2) (-1)).1 q j = h.1 q j := fun q j n2 => (if_neg (by omega)).trans ((if_neg (by omega)).trans (if_neg (by omega)))
  obtain ⟨h0, hh0⟩ : ∃ h0 : fd_Hp, h0 = fd_w (fd_w (fd_w h 92 a (nI kd)) 92 (a + 1) (-1)) 92 (a + 2) (-1) := ⟨_, rfl⟩
  rw [← hh0] at T0 L0 hn0 z0 z1 z2 fr0
  unfold fd_pBody fd_pWho
  by_cases c2 : kd = 2
  · subst c2
    have st : fd_E 160 62 [some (.ref (77)), some (.int (nI (a))), some (.int (nI (2)))] [] k h = fd_E 160 117 [some (.ref (77)), some (.int (nI (a))), some (.int (nI (2)))] [] k h0 := by
      rw [hh0]
      simp (disch := first | exact fd_nl_int | exact fd_nl_ref | exact fd_nl_none | assumption | exact nI_ne0 (by omega) (by omega) | exact fd_nb0 | exact fd_nb1 | exact fd_nbb | omega) only [fs_160_0, fs_160_1_p77 hk, fs_160_4, fs_160_7, fs_160_8, fs_160_11, fs_160_12, fs_160_15, fs_160_16_p77 hk, fs_160_19, fs_160_22, fs_160_23, fs_160_26, fs_160_27, fs_160_30, fs_160_31_p77 hk, fs_160_34, fs_160_37, fs_160_38, fs_160_41, fs_160_42, fs_160_45, fs_160_46_p77 hk, fs_160_49, fs_160_52, fs_160_53, fs_160_56, fs_160_57, fs_160_60, fs_160_61, fs_160_62, fs_160_63, fs_160_64, fs_160_67, fs_160_68_p77 hk, fs_160_71, fs_160_72, fs_160_73_p77 hk, fs_160_76, fs_160_77, fs_160_78_p92 hk, fs_160_79, fs_160_80_p77 hk, fs_160_83, fs_160_84, fs_160_85, fs_160_86, fs_160_87_p92 hk, fs_160_88, fs_160_89_p77 hk, fs_160_92, fs_160_93, fs_160_94, fs_160_95, fs_160_96_p92 hk, fs_160_97, fs_160_98, fs_160_99, fs_160_102, fs_160_103, fs_160_104_p77 hk, fs_160_107, fs_160_110, fs_160_111, fs_160_112, fs_160_113, fs_160_114, fs_160_118, fs_160_119, fs_160_121_p77 hk, fs_160_124, fs_160_127, fs_160_128, fs_160_129, fs_160_130_p77 hk, fs_160_133, fs_160_134, fs_160_135, fs_160_138, fs_160_139_p77 hk, fs_160_142, fs_160_145, fs_160_146, fs_160_149, fs_160_150, fs_160_151, fs_160_152_p77 hk, fs_160_155, fs_160_158, fs_160_159, fs_160_160, fs_160_161_p77 hk, fs_160_164, fs_160_165, fs_160_166_p77 hk, fs_160_169, Option.bind_some, Option.toList_some, Option.toList_none, List.cons_append, List.nil_append, fd_nb0, fd_nb1, fd_nbb, fd_b0, nI_add, pk_mul, ite_not, Classical.not_not, not_false_iff, not_true, and_self, or_true, true_or, ↓reduceIte, if_true, if_false, ite_self, fd_mI, fd_mH, fd_mL, fd_p0, fd_w0, fd_w1, fd_w2, fd_10, fd_00, km, n23]
    simp only [if_true]
    have ev : fd_pVal n bt 2 (fd_tE n bt p) = fd_pNum n bt (nI 0) (nI 99) (fd_tE n bt p) := if_neg (by decide)
    rw [ev]
    cases en : fd_pNum n bt (nI 0) (nI 99) (fd_tE n bt p) with
    | inl y =>
      obtain ⟨h1, r1, r2, r3⟩ := fm_cnt0 (a := a) hk T0 L0 en
      refine ⟨fun x e => ?_, fun s v r e => by cases e⟩
      cases e
      refine ⟨h1, st.trans ?_, r2, fun q j n1 n2 => (r3 q j n1).trans (fr0 q j n2)⟩
      simp (disch := first | exact fd_nl_int | exact fd_nl_ref | exact fd_nl_none | assumption | exact nI_ne0 (by omega) (by omega) | exact fd_nb0 | exact fd_nb1 | exact fd_nbb | omega) only [fs_160_0, fs_160_1_p77 hk, fs_160_4, fs_160_7, fs_160_8, fs_160_11, fs_160_12, fs_160_15, fs_160_16_p77 hk, fs_160_19, fs_160_22, fs_160_23, fs_160_26, fs_160_27, fs_160_30, fs_160_31_p77 hk, fs_160_34, fs_160_37, fs_160_38, fs_160_41, fs_160_42, fs_160_45, fs_160_46_p77 hk, fs_160_49, fs_160_52, fs_160_53, fs_160_56, fs_160_57, fs_160_60, fs_160_61, fs_160_62, fs_160_63, fs_160_64, fs_160_67, fs_160_68_p77 hk, fs_160_71, fs_160_72, fs_160_73_p77 hk, fs_160_76, fs_160_77, fs_160_78_p92 hk, fs_160_79, fs_160_80_p77 hk, fs_160_83, fs_160_84, fs_160_85, fs_160_86, fs_160_87_p92 hk, fs_160_88, fs_160_89_p77 hk, fs_160_92, fs_160_93, fs_160_94, fs_160_95, fs_160_96_p92 hk, fs_160_97, fs_160_98, fs_160_99, fs_160_102, fs_160_103, fs_160_104_p77 hk, fs_160_107, fs_160_110, fs_160_111, fs_160_112, fs_160_113, fs_160_114, fs_160_117, fs_160_118, fs_160_119, fs_160_121_p77 hk, fs_160_124, fs_160_127, fs_160_128, fs_160_129, fs_160_130_p77 hk, fs_160_133, fs_160_134, fs_160_135, fs_160_138, fs_160_139_p77 hk, fs_160_142, fs_160_145, fs_160_146, fs_160_149, fs_160_150, fs_160_151, fs_160_152_p77 hk, fs_160_155, fs_160_158, fs_160_159, fs_160_160, fs_160_161_p77 hk, fs_160_164, fs_160_165, fs_160_166_p77 hk, fs_160_169, Option.bind_some, Option.toList_some, Option.toList_none, List.cons_append, List.nil_append, fd_nb0, fd_nb1, fd_nbb, fd_b0, nI_add, pk_mul, ite_not, Classical.not_not, not_false_iff, not_true, and_self, or_true, true_or, ↓reduceIte, if_true, if_false, ite_self, fd_mI, fd_mH, fd_mL, fd_p0, fd_w0, fd_w1, fd_w2, fd_10, fd_00, r1]
    | inr y =>
      obtain ⟨v', q'⟩ := y
      obtain ⟨rfl, h1, r1, r2, r4, r3⟩ := fm_cnt1 (a := a) hk T0 L0 ha en
      have T1 : fd_mT n bt h1 := fd_mT_f T0 (fun q j n1 n2 => r3 q j (by omega) (by omega))
      obtain ⟨h2, s1, s2, s3⟩ := fd_ML_n hk T1 r2
      refine ⟨fun x e => (by cases e), fun s v r e => ?_⟩
      cases e
      refine ⟨h2, st.trans ?_, s2, ?_, ?_, ?_, fun q j n1 n2 => (s3 q j n1).trans ((r3 q j n1 (by omega)).trans (fr0 q j n2))⟩
      · simp (disch := first | exact fd_nl_int | exact fd_nl_ref | exact fd_nl_none | assumption | exact nI_ne0 (by omega) (by omega) | exact fd_nb0 | exact fd_nb1 | exact fd_nbb | omega) only [fs_160_0, fs_160_1_p77 hk, fs_160_4, fs_160_7, fs_160_8, fs_160_11, fs_160_12, fs_160_15, fs_160_16_p77 hk, fs_160_19, fs_160_22, fs_160_23, fs_160_26, fs_160_27, fs_160_30, fs_160_31_p77 hk, fs_160_34, fs_160_37, fs_160_38, fs_160_41, fs_160_42, fs_160_45, fs_160_46_p77 hk, fs_160_49, fs_160_52, fs_160_53, fs_160_56, fs_160_57, fs_160_60, fs_160_61, fs_160_62, fs_160_63, fs_160_64, fs_160_67, fs_160_68_p77 hk, fs_160_71, fs_160_72, fs_160_73_p77 hk, fs_160_76, fs_160_77, fs_160_78_p92 hk, fs_160_79, fs_160_80_p77 hk, fs_160_83, fs_160_84, fs_160_85, fs_160_86, fs_160_87_p92 hk, fs_160_88, fs_160_89_p77 hk, fs_160_92, fs_160_93, fs_160_94, fs_160_95, fs_160_96_p92 hk, fs_160_97, fs_160_98, fs_160_99, fs_160_102, fs_160_103, fs_160_104_p77 hk, fs_160_107, fs_160_110, fs_160_111, fs_160_112, fs_160_113, fs_160_114, fs_160_117, fs_160_118, fs_160_119, fs_160_121_p77 hk, fs_160_124, fs_160_127, fs_160_128, fs_160_129, fs_160_130_p77 hk, fs_160_133, fs_160_134, fs_160_135, fs_160_138, fs_160_139_p77 hk, fs_160_142, fs_160_145, fs_160_146, fs_160_149, fs_160_150, fs_160_151, fs_160_152_p77 hk, fs_160_155, fs_160_158, fs_160_159, fs_160_160, fs_160_161_p77 hk, fs_160_165, fs_160_166_p77 hk, fs_160_169, Option.bind_some, Option.toList_some, Option.toList_none, List.cons_append, List.nil_append, fd_nb0, fd_nb1, fd_nbb, fd_b0, nI_add, pk_mul, ite_not, Classical.not_not, not_false_iff, not_true, and_self, or_true, true_or, ↓reduceIte, if_true, if_false, ite_self, fd_mI, fd_mH, fd_mL, fd_p0, fd_w0, fd_w1, fd_w2, fd_10, fd_00, r1, s1, n23]
      · rw [s3 92 a (by omega), r3 92 a (by omega) (by omega), z0]
      · rw [s3 92 (a + 1) (by omega), r3 92 (a + 1) (by omega) (by omega), z1]
      · rw [s3 92 (a + 2) (by omega), r4]
  · have c2' : (nI kd = nI 2) = False := eq_false (fun z => c2 (fd_nIj (by omega) (by omega) z))
    have st : fd_E 160 62 [some (.ref (77)), some (.int (nI (a))), some (.int (nI (kd)))] [] k h = fd_E 160 102 [some (.ref (77)), some (.int (nI (a))), some (.int (nI (kd)))] [] k h0 := by
      rw [hh0]
      simp (disch := first | exact fd_nl_int | exact fd_nl_ref | exact fd_nl_none | assumption | exact nI_ne0 (by omega) (by omega) | exact fd_nb0 | exact fd_nb1 | exact fd_nbb | omega) only [fs_160_0, fs_160_1_p77 hk, fs_160_4, fs_160_7, fs_160_8, fs_160_11, fs_160_12, fs_160_15, fs_160_16_p77 hk, fs_160_19, fs_160_22, fs_160_23, fs_160_26, fs_160_27, fs_160_30, fs_160_31_p77 hk, fs_160_34, fs_160_37, fs_160_38, fs_160_41, fs_160_42, fs_160_45, fs_160_46_p77 hk, fs_160_49, fs_160_52, fs_160_53, fs_160_56, fs_160_57, fs_160_60, fs_160_61, fs_160_62, fs_160_63, fs_160_64, fs_160_67, fs_160_68_p77 hk, fs_160_71, fs_160_72, fs_160_73_p77 hk, fs_160_76, fs_160_77, fs_160_78_p92 hk, fs_160_79, fs_160_80_p77 hk, fs_160_83, fs_160_84, fs_160_85, fs_160_86, fs_160_87_p92 hk, fs_160_88, fs_160_89_p77 hk, fs_160_92, fs_160_93, fs_160_94, fs_160_95, fs_160_96_p92 hk, fs_160_97, fs_160_98, fs_160_99, fs_160_103, fs_160_104_p77 hk, fs_160_107, fs_160_110, fs_160_111, fs_160_112, fs_160_113, fs_160_114, fs_160_117, fs_160_118, fs_160_119, fs_160_121_p77 hk, fs_160_124, fs_160_127, fs_160_128, fs_160_129, fs_160_130_p77 hk, fs_160_133, fs_160_134, fs_160_135, fs_160_138, fs_160_139_p77 hk, fs_160_142, fs_160_145, fs_160_146, fs_160_149, fs_160_150, fs_160_151, fs_160_152_p77 hk, fs_160_155, fs_160_158, fs_160_159, fs_160_160, fs_160_161_p77 hk, fs_160_164, fs_160_165, fs_160_166_p77 hk, fs_160_169, Option.bind_some, Option.toList_some, Option.toList_none, List.cons_append, List.nil_append, fd_nb0, fd_nb1, fd_nbb, fd_b0, nI_add, pk_mul, ite_not, Classical.not_not, not_false_iff, not_true, and_self, or_true, true_or, ↓reduceIte, if_true, if_false, ite_self, fd_mI, fd_mH, fd_mL, fd_p0, fd_w0, fd_w1, fd_w2, fd_10, fd_00, km, c2']
    simp only [if_neg c2]
    cases es : fd_pShip n bt ns (fd_tE n bt p) with
    | inl y =>
      obtain ⟨h1, r1, r2, r3⟩ := fm_whom0 (a := a) hk T0 L0 hn0 es
      refine ⟨fun x e => ?_, fun s v r e => by cases e⟩
      cases e
      refine ⟨h1, st.trans ?_, r2, fun q j n1 n2 => (r3 q j n1).trans (fr0 q j n2)⟩
      simp (disch := first | exact fd_nl_int | exact fd_nl_ref | exact fd_nl_none | assumption | exact nI_ne0 (by omega) (by omega) | exact fd_nb0 | exact fd_nb1 | exact fd_nbb | omega) only [fs_160_0, fs_160_1_p77 hk, fs_160_4, fs_160_7, fs_160_8, fs_160_11, fs_160_12, fs_160_15, fs_160_16_p77 hk, fs_160_19, fs_160_22, fs_160_23, fs_160_26, fs_160_27, fs_160_30, fs_160_31_p77 hk, fs_160_34, fs_160_37, fs_160_38, fs_160_41, fs_160_42, fs_160_45, fs_160_46_p77 hk, fs_160_49, fs_160_52, fs_160_53, fs_160_56, fs_160_57, fs_160_60, fs_160_61, fs_160_62, fs_160_63, fs_160_64, fs_160_67, fs_160_68_p77 hk, fs_160_71, fs_160_72, fs_160_73_p77 hk, fs_160_76, fs_160_77, fs_160_78_p92 hk, fs_160_79, fs_160_80_p77 hk, fs_160_83, fs_160_84, fs_160_85, fs_160_86, fs_160_87_p92 hk, fs_160_88, fs_160_89_p77 hk, fs_160_92, fs_160_93, fs_160_94, fs_160_95, fs_160_96_p92 hk, fs_160_97, fs_160_98, fs_160_99, fs_160_102, fs_160_103, fs_160_104_p77 hk, fs_160_107, fs_160_110, fs_160_111, fs_160_112, fs_160_113, fs_160_114, fs_160_117, fs_160_118, fs_160_119, fs_160_121_p77 hk, fs_160_124, fs_160_127, fs_160_128, fs_160_129, fs_160_130_p77 hk, fs_160_133, fs_160_134, fs_160_135, fs_160_138, fs_160_139_p77 hk, fs_160_142, fs_160_145, fs_160_146, fs_160_149, fs_160_150, fs_160_151, fs_160_152_p77 hk, fs_160_155, fs_160_158, fs_160_159, fs_160_160, fs_160_161_p77 hk, fs_160_164, fs_160_165, fs_160_166_p77 hk, fs_160_169, Option.bind_some, Option.toList_some, Option.toList_none, List.cons_append, List.nil_append, fd_nb0, fd_nb1, fd_nbb, fd_b0, nI_add, pk_mul, ite_not, Classical.not_not, not_false_iff, not_true, and_self, or_true, true_or, ↓reduceIte, if_true, if_false, ite_self, fd_mI, fd_mH, fd_mL, fd_p0, fd_w0, fd_w1, fd_w2, fd_10, fd_00, r1]
    | inr y =>
      obtain ⟨s', q'⟩ := y
      obtain ⟨rfl, h1, r1, r2, r4, r3⟩ := fm_whom1 (a := a) hk T0 L0 hn0 ha es
      have T1 : fd_mT n bt h1 := fd_mT_f T0 (fun q j n1 n2 => r3 q j (by omega) (by omega))
      have y0 : h1.1 92 a = nI kd := (r3 92 a (by omega) (by omega)).trans z0
      have y2 : h1.1 92 (a + 2) = -1 := (r3 92 (a + 2) (by omega) (by omega)).trans z2
      have fr1 : ∀ q j, ¬ (q = 77 ∧ 24 ≤ j ∧ j ≤ 28) → ¬ (q = 92 ∧ a ≤ j ∧ j ≤ a + 4) → h1.1 q j = h.1 q j := fun q j n1 n2 => (r3 q j n1 (by omega)).trans (fr0 q j n2)
      dsimp only
      by_cases c3 : kd = 3
      · subst c3
        have ev : fd_pVal n bt 3 (fd_tE n bt (fd_tE n bt p)) = fd_pBut n bt (fd_tE n bt (fd_tE n bt p)) := if_pos rfl
        rw [ev]
        unfold fd_pBut
        obtain ⟨h2, s1, s2, s3⟩ := fd_ML_n hk T1 r2
        have T2 : fd_mT n bt h2 := fd_mT_f T1 (fun q j n1 n2 => s3 q j (by omega))
        have tk2 := s2.2.2.2.1
        have w5 : (lg_cmp (fd_tk n bt (fd_tE n bt (fd_tE n bt p))) 2045 = 0) = fd_isW n bt (fd_tE n bt (fd_tE n bt p)) 5 := fd_lcW s2.1 (b := 5) (by omega)
        by_cases c5 : fd_isW n bt (fd_tE n bt (fd_tE n bt p)) 5
        · have w5' := w5.trans (eq_true c5)
          simp only [if_pos c5]
          cases en : fd_pNum n bt (nI 0) (nI 5) (fd_tE n bt (fd_tE n bt (fd_tE n bt p))) with
          | inl y =>
            obtain ⟨h3, t1, t2, t3⟩ := fm_cnt0 (a := a) hk T2 s2 en
            refine ⟨fun x e => ?_, fun s v r e => by cases e⟩
            cases e
            refine ⟨h3, st.trans ?_, t2, fun q j n1 n2 => (t3 q j n1).trans ((s3 q j (by omega)).trans (fr1 q j (by omega) n2))⟩
            simp (disch := first | exact fd_nl_int | exact fd_nl_ref | exact fd_nl_none | assumption | exact nI_ne0 (by omega) (by omega) | exact fd_nb0 | exact fd_nb1 | exact fd_nbb | omega) only [fs_160_0, fs_160_1_p77 hk, fs_160_4, fs_160_7, fs_160_8, fs_160_11, fs_160_12, fs_160_15, fs_160_16_p77 hk, fs_160_19, fs_160_22, fs_160_23, fs_160_26, fs_160_27, fs_160_30, fs_160_31_p77 hk, fs_160_34, fs_160_37, fs_160_38, fs_160_41, fs_160_42, fs_160_45, fs_160_46_p77 hk, fs_160_49, fs_160_52, fs_160_53, fs_160_56, fs_160_57, fs_160_60, fs_160_61, fs_160_62, fs_160_63, fs_160_64, fs_160_67, fs_160_68_p77 hk, fs_160_71, fs_160_72, fs_160_73_p77 hk, fs_160_76, fs_160_77, fs_160_78_p92 hk, fs_160_79, fs_160_80_p77 hk, fs_160_83, fs_160_84, fs_160_85, fs_160_86, fs_160_87_p92 hk, fs_160_88, fs_160_89_p77 hk, fs_160_92, fs_160_93, fs_160_94, fs_160_95, fs_160_96_p92 hk, fs_160_97, fs_160_98, fs_160_99, fs_160_102, fs_160_103, fs_160_104_p77 hk, fs_160_107, fs_160_110, fs_160_111, fs_160_112, fs_160_113, fs_160_114, fs_160_117, fs_160_118, fs_160_119, fs_160_121_p77 hk, fs_160_124, fs_160_127, fs_160_128, fs_160_129, fs_160_130_p77 hk, fs_160_133, fs_160_134, fs_160_135, fs_160_138, fs_160_139_p77 hk, fs_160_142, fs_160_145, fs_160_146, fs_160_149, fs_160_150, fs_160_151, fs_160_152_p77 hk, fs_160_155, fs_160_158, fs_160_159, fs_160_160, fs_160_161_p77 hk, fs_160_164, fs_160_165, fs_160_166_p77 hk, fs_160_169, Option.bind_some, Option.toList_some, Option.toList_none, List.cons_append, List.nil_append, fd_nb0, fd_nb1, fd_nbb, fd_b0, nI_add, pk_mul, ite_not, Classical.not_not, not_false_iff, not_true, and_self, or_true, true_or, ↓reduceIte, if_true, if_false, ite_self, fd_mI, fd_mH, fd_mL, fd_p0, fd_w0, fd_w1, fd_w2, fd_10, fd_00, r1, s1, tk2, w5', t1]
          | inr y =>
            obtain ⟨v', q'⟩ := y
            obtain ⟨rfl, h3, t1, t2, t4, t3⟩ := fm_cnt1 (a := a) hk T2 s2 ha en
            have T3 : fd_mT n bt h3 := fd_mT_f T2 (fun q j n1 n2 => t3 q j (by omega) (by omega))
            obtain ⟨h4, u1, u2, u3⟩ := fd_ML_n hk T3 t2
            refine ⟨fun x e => (by cases e), fun s v r e => ?_⟩
            cases e
            refine ⟨h4, st.trans ?_, u2, ?_, ?_, ?_, fun q j n1 n2 => (u3 q j n1).trans ((t3 q j n1 (by omega)).trans ((s3 q j n1).trans (fr1 q j n1 n2)))⟩
            · simp (disch := first | exact fd_nl_int | exact fd_nl_ref | exact fd_nl_none | assumption | exact nI_ne0 (by omega) (by omega) | exact fd_nb0 | exact fd_nb1 | exact fd_nbb | omega) only [fs_160_0, fs_160_1_p77 hk, fs_160_4, fs_160_7, fs_160_8, fs_160_11, fs_160_12, fs_160_15, fs_160_16_p77 hk, fs_160_19, fs_160_22, fs_160_23, fs_160_26, fs_160_27, fs_160_30, fs_160_31_p77 hk, fs_160_34, fs_160_37, fs_160_38, fs_160_41, fs_160_42, fs_160_45, fs_160_46_p77 hk, fs_160_49, fs_160_52, fs_160_53, fs_160_56, fs_160_57, fs_160_60, fs_160_61, fs_160_62, fs_160_63, fs_160_64, fs_160_67, fs_160_68_p77 hk, fs_160_71, fs_160_72, fs_160_73_p77 hk, fs_160_76, fs_160_77, fs_160_78_p92 hk, fs_160_79, fs_160_80_p77 hk, fs_160_83, fs_160_84, fs_160_85, fs_160_86, fs_160_87_p92 hk, fs_160_88, fs_160_89_p77 hk, fs_160_92, fs_160_93, fs_160_94, fs_160_95, fs_160_96_p92 hk, fs_160_97, fs_160_98, fs_160_99, fs_160_102, fs_160_103, fs_160_104_p77 hk, fs_160_107, fs_160_110, fs_160_111, fs_160_112, fs_160_113, fs_160_114, fs_160_117, fs_160_118, fs_160_119, fs_160_121_p77 hk, fs_160_124, fs_160_127, fs_160_128, fs_160_129, fs_160_130_p77 hk, fs_160_133, fs_160_134, fs_160_135, fs_160_138, fs_160_139_p77 hk, fs_160_142, fs_160_145, fs_160_146, fs_160_149, fs_160_150, fs_160_151, fs_160_152_p77 hk, fs_160_155, fs_160_158, fs_160_159, fs_160_160, fs_160_161_p77 hk, fs_160_165, fs_160_166_p77 hk, fs_160_169, Option.bind_some, Option.toList_some, Option.toList_none, List.cons_append, List.nil_append, fd_nb0, fd_nb1, fd_nbb, fd_b0, nI_add, pk_mul, ite_not, Classical.not_not, not_false_iff, not_true, and_self, or_true, true_or, ↓reduceIte, if_true, if_false, ite_self, fd_mI, fd_mH, fd_mL, fd_p0, fd_w0, fd_w1, fd_w2, fd_10, fd_00, r1, s1, tk2, w5', t1, u1]
            · rw [u3 92 a (by omega), t3 92 a (by omega) (by omega), s3 92 a (by omega), y0]
            · rw [u3 92 (a + 1) (by omega), t3 92 (a + 1) (by omega) (by omega), s3 92 (a + 1) (by omega), r4]
            · rw [u3 92 (a + 2) (by omega), t4]
        · have w5' := w5.trans (eq_false c5)
          simp only [if_neg c5]
          refine ⟨fun x e => (by cases e), fun s v r e => ?_⟩
          cases e
          refine ⟨h2, st.trans ?_, s2, ?_, ?_, ?_, fun q j n1 n2 => (s3 q j n1).trans (fr1 q j n1 n2)⟩
          · simp (disch := first | exact fd_nl_int | exact fd_nl_ref | exact fd_nl_none | assumption | exact nI_ne0 (by omega) (by omega) | exact fd_nb0 | exact fd_nb1 | exact fd_nbb | omega) only [fs_160_0, fs_160_1_p77 hk, fs_160_4, fs_160_7, fs_160_8, fs_160_11, fs_160_12, fs_160_15, fs_160_16_p77 hk, fs_160_19, fs_160_22, fs_160_23, fs_160_26, fs_160_27, fs_160_30, fs_160_31_p77 hk, fs_160_34, fs_160_37, fs_160_38, fs_160_41, fs_160_42, fs_160_45, fs_160_46_p77 hk, fs_160_49, fs_160_52, fs_160_53, fs_160_56, fs_160_57, fs_160_60, fs_160_61, fs_160_62, fs_160_63, fs_160_64, fs_160_67, fs_160_68_p77 hk, fs_160_71, fs_160_72, fs_160_73_p77 hk, fs_160_76, fs_160_77, fs_160_78_p92 hk, fs_160_79, fs_160_80_p77 hk, fs_160_83, fs_160_84, fs_160_85, fs_160_86, fs_160_87_p92 hk, fs_160_88, fs_160_89_p77 hk, fs_160_92, fs_160_93, fs_160_94, fs_160_95, fs_160_96_p92 hk, fs_160_97, fs_160_98, fs_160_99, fs_160_102, fs_160_103, fs_160_104_p77 hk, fs_160_107, fs_160_110, fs_160_111, fs_160_112, fs_160_113, fs_160_114, fs_160_117, fs_160_118, fs_160_119, fs_160_121_p77 hk, fs_160_124, fs_160_127, fs_160_128, fs_160_129, fs_160_130_p77 hk, fs_160_133, fs_160_134, fs_160_135, fs_160_138, fs_160_139_p77 hk, fs_160_142, fs_160_145, fs_160_146, fs_160_149, fs_160_150, fs_160_151, fs_160_152_p77 hk, fs_160_155, fs_160_158, fs_160_159, fs_160_160, fs_160_161_p77 hk, fs_160_165, fs_160_166_p77 hk, fs_160_169, Option.bind_some, Option.toList_some, Option.toList_none, List.cons_append, List.nil_append, fd_nb0, fd_nb1, fd_nbb, fd_b0, nI_add, pk_mul, ite_not, Classical.not_not, not_false_iff, not_true, and_self, or_true, true_or, ↓reduceIte, if_true, if_false, ite_self, fd_mI, fd_mH, fd_mL, fd_p0, fd_w0, fd_w1, fd_w2, fd_10, fd_00, r1, s1, tk2, w5']
          · rw [s3 92 a (by omega), y0]
          · rw [s3 92 (a + 1) (by omega), r4]
          · rw [s3 92 (a + 2) (by omega), y2]
      · have c3' : (nI kd = nI 3) = False := eq_false (fun z => c3 (fd_nIj (by omega) (by omega) z))
        have ev : fd_pVal n bt kd (fd_tE n bt (fd_tE n bt p)) = fd_pNum n bt (nI 0) (nI 99) (fd_tE n bt (fd_tE n bt p)) := if_neg c3
        rw [ev]
        cases en : fd_pNum n bt (nI 0) (nI 99) (fd_tE n bt (fd_tE n bt p)) with
        | inl y =>
          obtain ⟨h2, s1, s2, s3⟩ := fm_cnt0 (a := a) hk T1 r2 en
          refine ⟨fun x e => ?_, fun s v r e => by cases e⟩
          cases e
          refine ⟨h2, st.trans ?_, s2, fun q j n1 n2 => (s3 q j n1).trans (fr1 q j (by omega) n2)⟩
          simp (disch := first | exact fd_nl_int | exact fd_nl_ref | exact fd_nl_none | assumption | exact nI_ne0 (by omega) (by omega) | exact fd_nb0 | exact fd_nb1 | exact fd_nbb | omega) only [fs_160_0, fs_160_1_p77 hk, fs_160_4, fs_160_7, fs_160_8, fs_160_11, fs_160_12, fs_160_15, fs_160_16_p77 hk, fs_160_19, fs_160_22, fs_160_23, fs_160_26, fs_160_27, fs_160_30, fs_160_31_p77 hk, fs_160_34, fs_160_37, fs_160_38, fs_160_41, fs_160_42, fs_160_45, fs_160_46_p77 hk, fs_160_49, fs_160_52, fs_160_53, fs_160_56, fs_160_57, fs_160_60, fs_160_61, fs_160_62, fs_160_63, fs_160_64, fs_160_67, fs_160_68_p77 hk, fs_160_71, fs_160_72, fs_160_73_p77 hk, fs_160_76, fs_160_77, fs_160_78_p92 hk, fs_160_79, fs_160_80_p77 hk, fs_160_83, fs_160_84, fs_160_85, fs_160_86, fs_160_87_p92 hk, fs_160_88, fs_160_89_p77 hk, fs_160_92, fs_160_93, fs_160_94, fs_160_95, fs_160_96_p92 hk, fs_160_97, fs_160_98, fs_160_99, fs_160_102, fs_160_103, fs_160_104_p77 hk, fs_160_107, fs_160_110, fs_160_111, fs_160_112, fs_160_113, fs_160_114, fs_160_117, fs_160_118, fs_160_119, fs_160_121_p77 hk, fs_160_124, fs_160_127, fs_160_128, fs_160_129, fs_160_130_p77 hk, fs_160_133, fs_160_134, fs_160_135, fs_160_138, fs_160_139_p77 hk, fs_160_142, fs_160_145, fs_160_146, fs_160_149, fs_160_150, fs_160_151, fs_160_152_p77 hk, fs_160_155, fs_160_158, fs_160_159, fs_160_160, fs_160_161_p77 hk, fs_160_164, fs_160_165, fs_160_166_p77 hk, fs_160_169, Option.bind_some, Option.toList_some, Option.toList_none, List.cons_append, List.nil_append, fd_nb0, fd_nb1, fd_nbb, fd_b0, nI_add, pk_mul, ite_not, Classical.not_not, not_false_iff, not_true, and_self, or_true, true_or, ↓reduceIte, if_true, if_false, ite_self, fd_mI, fd_mH, fd_mL, fd_p0, fd_w0, fd_w1, fd_w2, fd_10, fd_00, r1, c3', s1]
        | inr y =>
          obtain ⟨v', q'⟩ := y
          obtain ⟨rfl, h2, s1, s2, s4, s3⟩ := fm_cnt1 (a := a) hk T1 r2 ha en
          have T2 : fd_mT n bt h2 := fd_mT_f T1 (fun q j n1 n2 => s3 q j (by omega) (by omega))
          obtain ⟨h3, t1, t2, t3⟩ := fd_ML_n hk T2 s2
          refine ⟨fun x e => (by cases e), fun s v r e => ?_⟩
          cases e
          refine ⟨h3, st.trans ?_, t2, ?_, ?_, ?_, fun q j n1 n2 => (t3 q j n1).trans ((s3 q j n1 (by omega)).trans (fr1 q j n1 n2))⟩
          · simp (disch := first | exact fd_nl_int | exact fd_nl_ref | exact fd_nl_none | assumption | exact nI_ne0 (by omega) (by omega) | exact fd_nb0 | exact fd_nb1 | exact fd_nbb | omega) only [fs_160_0, fs_160_1_p77 hk, fs_160_4, fs_160_7, fs_160_8, fs_160_11, fs_160_12, fs_160_15, fs_160_16_p77 hk, fs_160_19, fs_160_22, fs_160_23, fs_160_26, fs_160_27, fs_160_30, fs_160_31_p77 hk, fs_160_34, fs_160_37, fs_160_38, fs_160_41, fs_160_42, fs_160_45, fs_160_46_p77 hk, fs_160_49, fs_160_52, fs_160_53, fs_160_56, fs_160_57, fs_160_60, fs_160_61, fs_160_62, fs_160_63, fs_160_64, fs_160_67, fs_160_68_p77 hk, fs_160_71, fs_160_72, fs_160_73_p77 hk, fs_160_76, fs_160_77, fs_160_78_p92 hk, fs_160_79, fs_160_80_p77 hk, fs_160_83, fs_160_84, fs_160_85, fs_160_86, fs_160_87_p92 hk, fs_160_88, fs_160_89_p77 hk, fs_160_92, fs_160_93, fs_160_94, fs_160_95, fs_160_96_p92 hk, fs_160_97, fs_160_98, fs_160_99, fs_160_102, fs_160_103, fs_160_104_p77 hk, fs_160_107, fs_160_110, fs_160_111, fs_160_112, fs_160_113, fs_160_114, fs_160_117, fs_160_118, fs_160_119, fs_160_121_p77 hk, fs_160_124, fs_160_127, fs_160_128, fs_160_129, fs_160_130_p77 hk, fs_160_133, fs_160_134, fs_160_135, fs_160_138, fs_160_139_p77 hk, fs_160_142, fs_160_145, fs_160_146, fs_160_149, fs_160_150, fs_160_151, fs_160_152_p77 hk, fs_160_155, fs_160_158, fs_160_159, fs_160_160, fs_160_161_p77 hk, fs_160_165, fs_160_166_p77 hk, fs_160_169, Option.bind_some, Option.toList_some, Option.toList_none, List.cons_append, List.nil_append, fd_nb0, fd_nb1, fd_nbb, fd_b0, nI_add, pk_mul, ite_not, Classical.not_not, not_false_iff, not_true, and_self, or_true, true_or, ↓reduceIte, if_true, if_false, ite_self, fd_mI, fd_mH, fd_mL, fd_p0, fd_w0, fd_w1, fd_w2, fd_10, fd_00, r1, c3', s1, t1]
          · rw [t3 92 a (by omega), s3 92 a (by omega) (by omega), y0]
          · rw [t3 92 (a + 1) (by omega), s3 92 (a + 1) (by omega) (by omega), r4]
          · rw [t3 92 (a + 2) (by omega), s4]
theorem fm_mArt (hk : fd_Sok k fb bb dr) (T : fd_mT n bt h) (L : fd_ML n bt p h) (hn : h.1 77 5 = nI ns) {a : Nat} (ha : a < 46) : (∀ x, fd_pArt n bt ns p = .inl x → ∃ h', fd_E 160 0 [some (.ref (77)), some (.int (nI (a))), none] [] k h = some (some (.int (nI 0)), (k, h')) ∧ h'.1 77 29 = nI x ∧ ∀ q j, ¬ (q = 77 ∧ 24 ≤ j ∧ j ≤ 29) → ¬ (q = 92 ∧ a ≤ j ∧ j ≤ a + 4) → h'.1 q j = h.1 q j) ∧ ∀ kd s v f t r, fd_pArt n bt ns p = .inr ((kd, s, v, f, t), r) → ∃ h', fd_E 160 0 [some (.ref (77)), some (.int (nI (a))), none] [] k h = some (some (.int (nI 1)), (k, h')) ∧ fd_ML n bt r h' ∧ (h'.1 92 a = nI kd ∧ h'.1 92 (a + 1) = s ∧ h'.1 92 (a + 2) = v ∧ h'.1 92 (a + 3) = f ∧ h'.1 92 (a + 4) = t) ∧ ∀ q j, ¬ (q = 77 ∧ 24 ≤ j ∧ j ≤ 28) → ¬ (q = 92 ∧ a ≤ j ∧ j ≤ a + 4) → h'.1 q j = h.1 q j := by
  have kdE := fm_mKd (a := a) hk L
  unfold fd_pArt
  by_cases d : fd_pKd n bt p = 4
  · rw [if_pos d] at kdE
    simp only [if_pos d]
    have f := fm_mFails hk L
    refine ⟨fun x e => ?_, fun kd s v f t r e => by cases e⟩
    cases e
    refine ⟨fd_w h 77 29 (nI (fd_tS n bt p)), kdE.trans ?_, fd_w0, fun q j n1 n2 => if_neg (by omega)⟩
    simp (disch := first | exact fd_nl_int | exact fd_nl_ref | exact fd_nl_none | assumption | exact nI_ne0 (by omega) (by omega) | exact fd_nb0 | exact fd_nb1 | exact fd_nbb | omega) only [fs_160_0, fs_160_1_p77 hk, fs_160_4, fs_160_7, fs_160_8, fs_160_11, fs_160_12, fs_160_15, fs_160_16_p77 hk, fs_160_19, fs_160_22, fs_160_23, fs_160_26, fs_160_27, fs_160_30, fs_160_31_p77 hk, fs_160_34, fs_160_37, fs_160_38, fs_160_41, fs_160_42, fs_160_45, fs_160_46_p77 hk, fs_160_49, fs_160_52, fs_160_53, fs_160_56, fs_160_57, fs_160_60, fs_160_61, fs_160_62, fs_160_63, fs_160_64, fs_160_67, fs_160_68_p77 hk, fs_160_71, fs_160_72, fs_160_73_p77 hk, fs_160_76, fs_160_77, fs_160_78_p92 hk, fs_160_79, fs_160_80_p77 hk, fs_160_83, fs_160_84, fs_160_85, fs_160_86, fs_160_87_p92 hk, fs_160_88, fs_160_89_p77 hk, fs_160_92, fs_160_93, fs_160_94, fs_160_95, fs_160_96_p92 hk, fs_160_97, fs_160_98, fs_160_99, fs_160_102, fs_160_103, fs_160_104_p77 hk, fs_160_107, fs_160_110, fs_160_111, fs_160_112, fs_160_113, fs_160_114, fs_160_117, fs_160_118, fs_160_119, fs_160_121_p77 hk, fs_160_124, fs_160_127, fs_160_128, fs_160_129, fs_160_130_p77 hk, fs_160_133, fs_160_134, fs_160_135, fs_160_138, fs_160_139_p77 hk, fs_160_142, fs_160_145, fs_160_146, fs_160_149, fs_160_150, fs_160_151, fs_160_152_p77 hk, fs_160_155, fs_160_158, fs_160_159, fs_160_160, fs_160_161_p77 hk, fs_160_164, fs_160_165, fs_160_166_p77 hk, fs_160_169, Option.bind_some, Option.toList_some, Option.toList_none, List.cons_append, List.nil_append, fd_nb0, fd_nb1, fd_nbb, fd_b0, nI_add, pk_mul, ite_not, Classical.not_not, not_false_iff, not_true, and_self, or_true, true_or, ↓reduceIte, if_true, if_false, ite_self, fd_mI, fd_mH, fd_mL, fd_p0, fd_w0, fd_w1, fd_w2, fd_10, fd_00, f]
  · rw [if_neg d] at kdE
    simp only [if_neg d]
    have k4 : fd_pKd n bt p < 4 := by
      unfold fd_pKd at d ⊢
      (repeat' split at d) <;> (repeat' split) <;> first | omega | (exfalso; omega)
    obtain ⟨b0, b1⟩ := fm_mBody (a := a) hk T L hn ha k4
    generalize fd_pKd n bt p = K at kdE b0 b1 k4
    cases eb : fd_pBody n bt ns K (fd_tE n bt p) with
    | inl y =>
      obtain ⟨h1, r1, r2, r3⟩ := b0 y eb
      refine ⟨fun x e => ?_, fun kd s v f t r e => by cases e⟩
      cases e
      exact ⟨h1, kdE.trans r1, r2, r3⟩
    | inr y =>
      obtain ⟨⟨s', v'⟩, q'⟩ := y
      obtain ⟨h1, r1, r2, y0, y1, y2, r3⟩ := b1 s' v' q' eb
      have T1 : fd_mT n bt h1 := fd_mT_f T (fun q j n1 n2 => r3 q j (by omega) (by omega))
      obtain ⟨w0, w1⟩ := fm_when (a := a) hk T1 r2 ha
      dsimp only
      cases eh : fd_pHrs n bt q' with
      | inl y =>
        obtain ⟨h2, s1, s2, s3⟩ := w0 y eh
        refine ⟨fun x e => ?_, fun kd s v f t r e => by cases e⟩
        cases e
        refine ⟨h2, (kdE.trans r1).trans ?_, s2, fun q j n1 n2 => (s3 q j n1 (by omega)).trans (r3 q j (by omega) n2)⟩
        simp (disch := first | exact fd_nl_int | exact fd_nl_ref | exact fd_nl_none | assumption | exact nI_ne0 (by omega) (by omega) | exact fd_nb0 | exact fd_nb1 | exact fd_nbb | omega) only [fs_160_0, fs_160_1_p77 hk, fs_160_4, fs_160_7, fs_160_8, fs_160_11, fs_160_12, fs_160_15, fs_160_16_p77 hk, fs_160_19, fs_160_22, fs_160_23, fs_160_26, fs_160_27, fs_160_30, fs_160_31_p77 hk, fs_160_34, fs_160_37, fs_160_38, fs_160_41, fs_160_42, fs_160_45, fs_160_46_p77 hk, fs_160_49, fs_160_52, fs_160_53, fs_160_56, fs_160_57, fs_160_60, fs_160_61, fs_160_62, fs_160_63, fs_160_64, fs_160_67, fs_160_68_p77 hk, fs_160_71, fs_160_72, fs_160_73_p77 hk, fs_160_76, fs_160_77, fs_160_78_p92 hk, fs_160_79, fs_160_80_p77 hk, fs_160_83, fs_160_84, fs_160_85, fs_160_86, fs_160_87_p92 hk, fs_160_88, fs_160_89_p77 hk, fs_160_92, fs_160_93, fs_160_94, fs_160_95, fs_160_96_p92 hk, fs_160_97, fs_160_98, fs_160_99, fs_160_102, fs_160_103, fs_160_104_p77 hk, fs_160_107, fs_160_110, fs_160_111, fs_160_112, fs_160_113, fs_160_114, fs_160_117, fs_160_118, fs_160_119, fs_160_121_p77 hk, fs_160_124, fs_160_127, fs_160_128, fs_160_129, fs_160_130_p77 hk, fs_160_133, fs_160_134, fs_160_135, fs_160_138, fs_160_139_p77 hk, fs_160_142, fs_160_145, fs_160_146, fs_160_149, fs_160_150, fs_160_151, fs_160_152_p77 hk, fs_160_155, fs_160_158, fs_160_159, fs_160_160, fs_160_161_p77 hk, fs_160_164, fs_160_165, fs_160_166_p77 hk, fs_160_169, Option.bind_some, Option.toList_some, Option.toList_none, List.cons_append, List.nil_append, fd_nb0, fd_nb1, fd_nbb, fd_b0, nI_add, pk_mul, ite_not, Classical.not_not, not_false_iff, not_true, and_self, or_true, true_or, ↓reduceIte, if_true, if_false, ite_self, fd_mI, fd_mH, fd_mL, fd_p0, fd_w0, fd_w1, fd_w2, fd_10, fd_00, s1]
      | inr y =>
        obtain ⟨⟨f', t'⟩, r'⟩ := y
        obtain ⟨h2, s1, s2, s4, s5, s3⟩ := w1 f' t' r' eh
        refine ⟨fun x e => (by cases e), fun kd s v f t r e => ?_⟩
        cases e
        refine ⟨h2, (kdE.trans r1).trans ?_, s2, ⟨?_, ?_, ?_, s4, s5⟩, fun q j n1 n2 => (s3 q j n1 (by omega)).trans (r3 q j n1 n2)⟩
        · simp (disch := first | exact fd_nl_int | exact fd_nl_ref | exact fd_nl_none | assumption | exact nI_ne0 (by omega) (by omega) | exact fd_nb0 | exact fd_nb1 | exact fd_nbb | omega) only [fs_160_0, fs_160_1_p77 hk, fs_160_4, fs_160_7, fs_160_8, fs_160_11, fs_160_12, fs_160_15, fs_160_16_p77 hk, fs_160_19, fs_160_22, fs_160_23, fs_160_26, fs_160_27, fs_160_30, fs_160_31_p77 hk, fs_160_34, fs_160_37, fs_160_38, fs_160_41, fs_160_42, fs_160_45, fs_160_46_p77 hk, fs_160_49, fs_160_52, fs_160_53, fs_160_56, fs_160_57, fs_160_60, fs_160_61, fs_160_62, fs_160_63, fs_160_64, fs_160_67, fs_160_68_p77 hk, fs_160_71, fs_160_72, fs_160_73_p77 hk, fs_160_76, fs_160_77, fs_160_78_p92 hk, fs_160_79, fs_160_80_p77 hk, fs_160_83, fs_160_84, fs_160_85, fs_160_86, fs_160_87_p92 hk, fs_160_88, fs_160_89_p77 hk, fs_160_92, fs_160_93, fs_160_94, fs_160_95, fs_160_96_p92 hk, fs_160_97, fs_160_98, fs_160_99, fs_160_102, fs_160_103, fs_160_104_p77 hk, fs_160_107, fs_160_110, fs_160_111, fs_160_112, fs_160_113, fs_160_114, fs_160_117, fs_160_118, fs_160_119, fs_160_121_p77 hk, fs_160_124, fs_160_127, fs_160_128, fs_160_129, fs_160_130_p77 hk, fs_160_133, fs_160_134, fs_160_135, fs_160_138, fs_160_139_p77 hk, fs_160_142, fs_160_145, fs_160_146, fs_160_149, fs_160_150, fs_160_151, fs_160_152_p77 hk, fs_160_155, fs_160_158, fs_160_159, fs_160_160, fs_160_161_p77 hk, fs_160_164, fs_160_165, fs_160_166_p77 hk, fs_160_169, Option.bind_some, Option.toList_some, Option.toList_none, List.cons_append, List.nil_append, fd_nb0, fd_nb1, fd_nbb, fd_b0, nI_add, pk_mul, ite_not, Classical.not_not, not_false_iff, not_true, and_self, or_true, true_or, ↓reduceIte, if_true, if_false, ite_self, fd_mI, fd_mH, fd_mL, fd_p0, fd_w0, fd_w1, fd_w2, fd_10, fd_00, s1]
        · rw [s3 92 a (by omega) (by omega), y0]
        · rw [s3 92 (a + 1) (by omega) (by omega), y1]
        · rw [s3 92 (a + 2) (by omega) (by omega), y2]
end MGRAM
