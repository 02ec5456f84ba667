/-! THE CALL write -/
section WR
variable {k : fd_Sk} {h g : fd_Hp} {fb bb dr b : Nat}
/-- byte i of what is written -/
def fd_by (x : Int64) (i : Nat) : Int32 := (x >>> ((nI (8 * i)).toInt64 &&& 63)).toInt32 &&& nI 255
theorem fd_by2 {x : Int64} : (x &&& 255).toInt32 = x.toInt32 &&& nI 255 := by
  rw [Int64.toInt32_and]; rfl
def fd_wrC (x : Int64) (L i : Nat) (g : fd_Hp) : fd_Hp := fd_w (fd_w g 40 (L + i) (fd_by x i)) 39 1 (nI (L + i + 1))
def fd_wrM (x : Int64) (L i : Nat) (g : fd_Hp) : fd_Hp := fd_w g 91 (L + i) (fd_by x i)
theorem fm_append (hk : fd_Sok k fb bb dr) {n : Nat} (e : h.1 39 1 = nI n) (hn : n < 200) (v : Int32) : fd_E 66 0 [some (.ref (39)), some (.int (v))] [] k h = some (none, (k, fd_w (fd_w h 40 n v) 39 1 (nI (n + 1)))) := by
  have q1 : ¬ nI 200 ≤ nI n := nI_ge (by omega) (by omega)
  simp (disch := first | exact fd_nl_int | exact fd_nl_ref | exact fd_nl_none | assumption | exact nI_ne0 (by omega) (by omega) | exact fd_nb0 | exact fd_nb1 | exact fd_nbb | omega) only [fs_66_0, fs_66_1_p39 hk, fs_66_4, fs_66_7, fs_66_10, fs_66_11_p39 hk, fs_66_14, fs_66_15_p39 hk, fs_66_18, fs_66_19_p40 hk, fs_66_20, fs_66_21, fs_66_22_p39 hk, fs_66_25, fs_66_26, fs_66_27_p39 hk, fs_66_30, Option.bind_some, Option.toList_some, Option.toList_none, List.cons_append, List.nil_append, fd_nb0, fd_nb1, fd_nbb, fd_b0, nI_add, pk_mul, ite_not, Classical.not_not, not_false_iff, not_true, and_self, or_true, true_or, ↓reduceIte, if_true, if_false, ite_self, fd_mI, fd_mH, fd_mL, fd_p0, fd_w0, fd_w1, fd_w2, fd_10, fd_00, e, q1]
theorem fm_wrC (hk : fd_Sok k fb bb dr) {L n : Nat} (x : Int64) (hL : L + n ≤ 200) (hn : n ≤ 8) : ∀ (m a : Nat) (g : fd_Hp), a + m = n → g.1 39 1 = nI (L + a) → fd_E 79 34 [some (.ref (0)), some (.long (x)), none, some (.int (nI (n))), some (.int (nI (a)))] [] k g = some (some (.int (nI (L + n))), (k, fd_fold (fd_wrC x L) m a g)) := by
  intro m
  induction m with
  | zero =>
    intro a g e hg
    have : a = n := by omega
    subst this
    have hc : nI a ≤ nI a := nI_le (by omega) (by omega)
    rw [fs_79_34]
    simp (disch := first | exact fd_nl_int | exact fd_nl_ref | exact fd_nl_none | assumption | exact nI_ne0 (by omega) (by omega) | exact fd_nb0 | exact fd_nb1 | exact fd_nbb | omega) only [fs_79_0, fs_79_1, fs_79_2, fs_79_4, fs_79_7, fs_79_10, fs_79_12, fs_79_13, fs_79_14_p0 hk, fs_79_17_p39 hk, fs_79_20, fs_79_21, fs_79_22, fs_79_25, fs_79_28, fs_79_30, fs_79_31, fs_79_32, fs_79_36, fs_79_37, fs_79_40, fs_79_41_p0 hk, fs_79_44, fs_79_45, fs_79_47, fs_79_49, fs_79_50, fs_79_51, fs_79_52, fs_79_55, fs_79_56_p39 hk, fs_79_59, fs_79_62, fs_79_65, fs_79_66_p0 hk, fs_79_69_p39 hk, fs_79_72, Option.bind_some, Option.toList_some, Option.toList_none, List.cons_append, List.nil_append, fd_nb0, fd_nb1, fd_nbb, fd_b0, nI_add, pk_mul, ite_not, Classical.not_not, not_false_iff, not_true, and_self, or_true, true_or, ↓reduceIte, if_true, if_false, ite_self, fd_mI, fd_mH, fd_mL, fd_p0, fd_w0, fd_w1, fd_w2, fd_10, fd_00, hc, hg]
    rfl
  | succ m ih =>
    intro a g e hg
    have hc : ¬ nI n ≤ nI a := nI_ge (by omega) (by omega)
    have i1 := ih (a + 1) (fd_wrC x L a g) (by omega) (by rw [fd_wrC, fd_w0]; rfl)
    rw [fs_79_34]
    simp (disch := first | exact fd_nl_int | exact fd_nl_ref | exact fd_nl_none | assumption | exact nI_ne0 (by omega) (by omega) | exact fd_nb0 | exact fd_nb1 | exact fd_nbb | omega) only [fs_79_0, fs_79_1, fs_79_2, fs_79_4, fs_79_7, fs_79_10, fs_79_12, fs_79_13, fs_79_14_p0 hk, fs_79_17_p39 hk, fs_79_20, fs_79_21, fs_79_22, fs_79_25, fs_79_28, fs_79_30, fs_79_31, fs_79_32, fs_79_36, fs_79_37, fs_79_40, fs_79_41_p0 hk, fs_79_44, fs_79_45, fs_79_47, fs_79_49, fs_79_50, fs_79_51, fs_79_52, fs_79_55, fs_79_56_p39 hk, fs_79_59, fs_79_62, fs_79_65, fs_79_66_p0 hk, fs_79_69_p39 hk, fs_79_72, Option.bind_some, Option.toList_some, Option.toList_none, List.cons_append, List.nil_append, fd_nb0, fd_nb1, fd_nbb, fd_b0, nI_add, pk_mul, ite_not, Classical.not_not, not_false_iff, not_true, and_self, or_true, true_or, ↓reduceIte, if_true, if_false, ite_self, fd_mI, fd_mH, fd_mL, fd_p0, fd_w0, fd_w1, fd_w2, fd_10, fd_00, hc, fm_append hk hg (show L + a < 200 by omega)]
    exact i1
theorem fm_wrM (hk : fd_Sok k fb bb dr) {L n : Nat} (x : Int64) (hL : L + n ≤ 200) (hn : n ≤ 8) : ∀ (m a : Nat) (g : fd_Hp), a + m = n → g.1 77 22 = nI L → fd_E 153 31 [some (.ref (77)), some (.long (x)), none, some (.int (nI (n))), some (.int (nI (a)))] [] k g = some (some (.int (nI (L + n))), (k, fd_w (fd_fold (fd_wrM x L) m a g) 77 22 (nI (L + n)))) := by
  intro m
  induction m with
  | zero =>
    intro a g e hg
    have : a = n := by omega
    subst this
    have hc : nI a ≤ nI a := nI_le (by omega) (by omega)
    rw [fs_153_31]
    simp (disch := first | exact fd_nl_int | exact fd_nl_ref | exact fd_nl_none | assumption | exact nI_ne0 (by omega) (by omega) | exact fd_nb0 | exact fd_nb1 | exact fd_nbb | omega) only [fs_153_0, fs_153_1, fs_153_2, fs_153_4, fs_153_7, fs_153_10, fs_153_12, fs_153_13, fs_153_14_p77 hk, fs_153_17, fs_153_18, fs_153_19, fs_153_22, fs_153_25, fs_153_27, fs_153_28, fs_153_29, fs_153_33, fs_153_34, fs_153_37, fs_153_38_p77 hk, fs_153_41, fs_153_42_p77 hk, fs_153_45, fs_153_47, fs_153_48, fs_153_49, fs_153_51, fs_153_53, fs_153_54, fs_153_55, fs_153_58, fs_153_59, fs_153_60_p91 hk, fs_153_61, fs_153_64, fs_153_67, fs_153_68, fs_153_69_p77 hk, fs_153_72, fs_153_73, fs_153_74_p77 hk, fs_153_77, fs_153_78_p77 hk, fs_153_81, Option.bind_some, Option.toList_some, Option.toList_none, List.cons_append, List.nil_append, fd_nb0, fd_nb1, fd_nbb, fd_b0, nI_add, pk_mul, ite_not, Classical.not_not, not_false_iff, not_true, and_self, or_true, true_or, ↓reduceIte, if_true, if_false, ite_self, fd_mI, fd_mH, fd_mL, fd_p0, fd_w0, fd_w1, fd_w2, fd_10, fd_00, hc, hg]
    rfl
  | succ m ih =>
    intro a g e hg
    have hc : ¬ nI n ≤ nI a := nI_ge (by omega) (by omega)
    have i1 := ih (a + 1) (fd_wrM x L a g) (by omega) ((fd_w1 (by decide)).trans hg)
    rw [fs_153_31]
    simp (disch := first | exact fd_nl_int | exact fd_nl_ref | exact fd_nl_none | assumption | exact nI_ne0 (by omega) (by omega) | exact fd_nb0 | exact fd_nb1 | exact fd_nbb | omega) only [fs_153_0, fs_153_1, fs_153_2, fs_153_4, fs_153_7, fs_153_10, fs_153_12, fs_153_13, fs_153_14_p77 hk, fs_153_17, fs_153_18, fs_153_19, fs_153_22, fs_153_25, fs_153_27, fs_153_28, fs_153_29, fs_153_33, fs_153_34, fs_153_37, fs_153_38_p77 hk, fs_153_41, fs_153_42_p77 hk, fs_153_45, fs_153_47, fs_153_48, fs_153_49, fs_153_51, fs_153_53, fs_153_54, fs_153_55, fs_153_58, fs_153_59, fs_153_60_p91 hk, fs_153_61, fs_153_64, fs_153_67, fs_153_68, fs_153_69_p77 hk, fs_153_72, fs_153_73, fs_153_74_p77 hk, fs_153_77, fs_153_78_p77 hk, fs_153_81, Option.bind_some, Option.toList_some, Option.toList_none, List.cons_append, List.nil_append, fd_nb0, fd_nb1, fd_nbb, fd_b0, nI_add, pk_mul, ite_not, Classical.not_not, not_false_iff, not_true, and_self, or_true, true_or, ↓reduceIte, if_true, if_false, ite_self, fd_mI, fd_mH, fd_mL, fd_p0, fd_w0, fd_w1, fd_w2, fd_10, fd_00, hc, hg, fd_by2]
    exact i1
theorem fd_wrC_at {x : Int64} {L : Nat} (n : Nat) {a : Nat} {g : fd_Hp} : (∀ q, ¬ q = 39 → ¬ q = 40 → (fd_fold (fd_wrC x L) n a g).1 q = g.1 q) ∧ (∀ i, i < L + a → (fd_fold (fd_wrC x L) n a g).1 40 i = g.1 40 i) ∧ (∀ i, a ≤ i → i < a + n → (fd_fold (fd_wrC x L) n a g).1 40 (L + i) = fd_by x i) := by
  induction n generalizing a g with
  | zero => exact ⟨fun _ _ _ => rfl, fun _ _ => rfl, fun i h1 h2 => by omega⟩
  | succ n ih =>
    rw [fd_foldS]
    obtain ⟨i1, i2, i3⟩ := ih (a := a + 1) (g := fd_wrC x L a g)
    refine ⟨fun q h1 h2 => ?_, fun i hi => ?_, fun i h1 h2 => ?_⟩
    · rw [i1 q h1 h2, fd_wrC, fd_wp h1, fd_wp h2]
    · rw [i2 i (by omega), fd_wrC, fd_w1 (by decide), fd_w2 (by omega)]
    · by_cases z : i = a
      · subst z
        rw [i2 (L + i) (by omega), fd_wrC, fd_w1 (by decide), fd_w0]
      · exact i3 i (by omega) (by omega)
theorem fd_wrM_at {x : Int64} {L : Nat} (n : Nat) {a : Nat} {g : fd_Hp} : (∀ q, ¬ q = 91 → (fd_fold (fd_wrM x L) n a g).1 q = g.1 q) ∧ (∀ i, i < L + a → (fd_fold (fd_wrM x L) n a g).1 91 i = g.1 91 i) ∧ (∀ i, a ≤ i → i < a + n → (fd_fold (fd_wrM x L) n a g).1 91 (L + i) = fd_by x i) := by
  induction n generalizing a g with
  | zero => exact ⟨fun _ _ => rfl, fun _ _ => rfl, fun i h1 h2 => by omega⟩
  | succ n ih =>
    rw [fd_foldS]
    obtain ⟨i1, i2, i3⟩ := ih (a := a + 1) (g := fd_wrM x L a g)
    refine ⟨fun q h1 => ?_, fun i hi => ?_, fun i h1 h2 => ?_⟩
    · rw [i1 q h1, fd_wrM, fd_wp h1]
    · rw [i2 i (by omega), fd_wrM, fd_w2 (by omega)]
    · by_cases z : i = a
      · subst z
        rw [i2 (L + i) (by omega), fd_wrM, fd_w0]
      · exact i3 i (by omega) (by omega)
theorem fd_wrC_len {x : Int64} {L : Nat} (n : Nat) {a : Nat} {g : fd_Hp} (hg : g.1 39 1 = nI (L + a)) : (fd_fold (fd_wrC x L) n a g).1 39 1 = nI (L + a + n) := by
  induction n generalizing a g with
  | zero => exact hg
  | succ n ih =>
    rw [fd_foldS, ih (a := a + 1) (g := fd_wrC x L a g) (by rw [fd_wrC, fd_w0]; rfl)]
    exact congrArg nI (by omega)
theorem fc_write (I : fd_Inv k h) (x : Int64) (y : Int32) : fd_Ag k h 79 [some (.ref (0)), some (.long (x)), none, some (.int (y)), none] 153 [some (.ref (77)), some (.long (x)), none, some (.int (y)), none] := by
  have I0 := I; obtain ⟨fb, bb, dr, ns, np, nb, t, hk, F, ht, TX, B0, B1, FE, BA, OF, PL⟩ := I0; have F0 := F; simp only [fd_Fl, Nat.reduceAdd] at F0; obtain ⟨⟨b1, b2, b3, b4⟩, ⟨f1, f2, f3, f4, f5, f6, f7⟩, ⟨g1, g2, g3, g4⟩, S, O, T⟩ := F0
  obtain ⟨L, hL, e1, e2, e3⟩ := TX
  by_cases c1 : fd_wi y (nI 1) (nI 8)
  · obtain ⟨n, n1, n8, rfl⟩ := (fd_argL (by omega) (by omega)).mp c1
    by_cases c2 : L + n ≤ 200
    · have d1 : ¬ nI 200 < nI (L + n) := nI_nlt (by omega) (by omega)
      have d2 : nI (L + n) ≤ nI 200 := nI_le (by omega) (by omega)
      obtain ⟨w1, w2, w3⟩ := fd_wrC_at (x := x) (L := L) n (a := 0) (g := h)
      have e4 : (fd_fold (fd_wrC x L) n 0 h).1 77 22 = nI L := by rw [w1 77 (by decide) (by decide)]; exact e2
      obtain ⟨v1, v2, v3⟩ := fd_wrM_at (x := x) (L := L) n (a := 0) (g := fd_fold (fd_wrC x L) n 0 h)
      have u : ∀ q, ¬ q = 39 → ¬ q = 40 → ¬ q = 91 → ¬ q = 77 → (fd_w (fd_fold (fd_wrM x L) n 0 (fd_fold (fd_wrC x L) n 0 h)) 77 22 (nI (L + n))).1 q = h.1 q := fun q q1 q2 q3 q4 => by rw [fd_wp q4, v1 q q3, w1 q q1 q2]
      have u7 : ∀ j, ¬ j = 22 → (fd_w (fd_fold (fd_wrM x L) n 0 (fd_fold (fd_wrC x L) n 0 h)) 77 22 (nI (L + n))).1 77 j = h.1 77 j := fun j q => by rw [fd_w2 q, v1 77 (by decide), w1 77 (by decide) (by decide)]
      have i1 := fm_wrC hk x c2 n8 n 0 h (by omega) e1
      have i2 := fm_wrM hk x c2 n8 n 0 (fd_fold (fd_wrC x L) n 0 h) (by omega) e4
      refine ⟨nI (L + n), k, fd_fold (fd_wrC x L) n 0 h, fd_w (fd_fold (fd_wrM x L) n 0 (fd_fold (fd_wrC x L) n 0 h)) 77 22 (nI (L + n)), ?_, ?_, ⟨fb, bb, dr, ns, np, nb, t, hk, fd_Fl_fr ?_ F, ?_, ⟨L + n, c2, ?_, ?_, fun i hi => ?_⟩, fd_Bk_fr hk.2.2.2.2.2.2.1 ?_ B0, fd_Bk_fr hk.2.2.2.2.2.2.2.1 ?_ B1, fd_Ife_fr ?_ FE, fd_Iba_fr ?_ BA, fd_Iof_fr ?_ OF, fd_Ipl_fr ?_ PL⟩, rfl⟩
      · simp (disch := first | exact fd_nl_int | exact fd_nl_ref | exact fd_nl_none | assumption | exact nI_ne0 (by omega) (by omega) | exact fd_nb0 | exact fd_nb1 | exact fd_nbb | omega) only [fs_79_0, fs_79_1, fs_79_2, fs_79_4, fs_79_7, fs_79_10, fs_79_12, fs_79_13, fs_79_14_p0 hk, fs_79_17_p39 hk, fs_79_20, fs_79_21, fs_79_22, fs_79_25, fs_79_28, fs_79_30, fs_79_31, fs_79_32, fs_79_36, fs_79_37, fs_79_40, fs_79_41_p0 hk, fs_79_44, fs_79_45, fs_79_47, fs_79_49, fs_79_50, fs_79_51, fs_79_52, fs_79_55, fs_79_56_p39 hk, fs_79_59, fs_79_62, fs_79_65, fs_79_66_p0 hk, fs_79_69_p39 hk, fs_79_72, Option.bind_some, Option.toList_some, Option.toList_none, List.cons_append, List.nil_append, fd_nb0, fd_nb1, fd_nbb, fd_b0, nI_add, pk_mul, ite_not, Classical.not_not, not_false_iff, not_true, and_self, or_true, true_or, ↓reduceIte, if_true, if_false, ite_self, fd_mI, fd_mH, fd_mL, fd_p0, fd_w0, fd_w1, fd_w2, fd_10, fd_00, fm_isShip hk, fm_isHour, fm_isBook, fm_within, fm_isCell, fm_canPass hk, f1, f2, f4, eq_true c1, e1, d1, d2, i1]
      · simp (disch := first | exact fd_nl_int | exact fd_nl_ref | exact fd_nl_none | assumption | exact nI_ne0 (by omega) (by omega) | exact fd_nb0 | exact fd_nb1 | exact fd_nbb | omega) only [fs_153_0, fs_153_1, fs_153_2, fs_153_4, fs_153_7, fs_153_10, fs_153_12, fs_153_13, fs_153_14_p77 hk, fs_153_17, fs_153_18, fs_153_19, fs_153_22, fs_153_25, fs_153_27, fs_153_28, fs_153_29, fs_153_33, fs_153_34, fs_153_37, fs_153_38_p77 hk, fs_153_41, fs_153_42_p77 hk, fs_153_45, fs_153_47, fs_153_48, fs_153_49, fs_153_51, fs_153_53, fs_153_54, fs_153_55, fs_153_58, fs_153_59, fs_153_60_p91 hk, fs_153_61, fs_153_64, fs_153_67, fs_153_68, fs_153_69_p77 hk, fs_153_72, fs_153_73, fs_153_74_p77 hk, fs_153_77, fs_153_78_p77 hk, fs_153_81, Option.bind_some, Option.toList_some, Option.toList_none, List.cons_append, List.nil_append, fd_nb0, fd_nb1, fd_nbb, fd_b0, nI_add, pk_mul, ite_not, Classical.not_not, not_false_iff, not_true, and_self, or_true, true_or, ↓reduceIte, if_true, if_false, ite_self, fd_mI, fd_mH, fd_mL, fd_p0, fd_w0, fd_w1, fd_w2, fd_10, fd_00, fm_mIsShip hk, fm_mIn, fm_mIsHour, fm_mIsBook, fm_mIsCell, f3, f5, ht, eq_true c1, e4, d1, d2, i2]
      · simp (disch := omega) only [u, u7, and_self]
      · rw [u7 0 (by decide)]; exact ht
      · rw [fd_w1 (by decide), v1 39 (by decide)]
        by_cases z : n = 0
        · omega
        · obtain ⟨n', rfl⟩ : ∃ n', n = n' + 1 := ⟨n - 1, by omega⟩
          exact fd_wrC_len (n' + 1) e1
      · exact fd_w0
      · rw [fd_w1 (by decide), fd_w1 (by decide), v1 40 (by decide)]
        by_cases z : i < L
        · rw [w2 i (by omega), v2 i (by omega), w1 91 (by decide) (by decide)]
          exact e3 i z
        · obtain ⟨j, rfl⟩ : ∃ j, i = L + j := ⟨i - L, by omega⟩
          rw [w3 j (by omega) (by omega), v3 j (by omega) (by omega)]
      · simp (disch := omega) only [u, u7, and_self]
      · simp (disch := omega) only [u, u7, and_self]
      · simp (disch := omega) only [u, u7, and_self]
      · simp (disch := omega) only [u, u7, and_self]
      · simp (disch := omega) only [u, u7, and_self]
      · simp (disch := omega) only [u, u7, and_self]
    · have d1 : nI 200 < nI (L + n) := nI_lt (by omega) (by omega)
      have d2 : ¬ nI (L + n) ≤ nI 200 := nI_ge (by omega) (by omega)
      exact fd_ag_ro I (v := -5) (w := -5) (by simp (disch := first | exact fd_nl_int | exact fd_nl_ref | exact fd_nl_none | assumption | exact nI_ne0 (by omega) (by omega) | exact fd_nb0 | exact fd_nb1 | exact fd_nbb | omega) only [fs_79_0, fs_79_1, fs_79_2, fs_79_4, fs_79_7, fs_79_10, fs_79_12, fs_79_13, fs_79_14_p0 hk, fs_79_17_p39 hk, fs_79_20, fs_79_21, fs_79_22, fs_79_25, fs_79_28, fs_79_30, fs_79_31, fs_79_32, fs_79_34, fs_79_36, fs_79_37, fs_79_40, fs_79_41_p0 hk, fs_79_44, fs_79_45, fs_79_47, fs_79_49, fs_79_50, fs_79_51, fs_79_52, fs_79_55, fs_79_56_p39 hk, fs_79_59, fs_79_62, fs_79_65, fs_79_66_p0 hk, fs_79_69_p39 hk, fs_79_72, Option.bind_some, Option.toList_some, Option.toList_none, List.cons_append, List.nil_append, fd_nb0, fd_nb1, fd_nbb, fd_b0, nI_add, pk_mul, ite_not, Classical.not_not, not_false_iff, not_true, and_self, or_true, true_or, ↓reduceIte, if_true, if_false, ite_self, fd_mI, fd_mH, fd_mL, fd_p0, fd_w0, fd_w1, fd_w2, fd_10, fd_00, fm_isShip hk, fm_isHour, fm_isBook, fm_within, fm_isCell, fm_canPass hk, f1, f2, f4, eq_true c1, e1, e2, d1, d2]) (by simp (disch := first | exact fd_nl_int | exact fd_nl_ref | exact fd_nl_none | assumption | exact nI_ne0 (by omega) (by omega) | exact fd_nb0 | exact fd_nb1 | exact fd_nbb | omega) only [fs_153_0, fs_153_1, fs_153_2, fs_153_4, fs_153_7, fs_153_10, fs_153_12, fs_153_13, fs_153_14_p77 hk, fs_153_17, fs_153_18, fs_153_19, fs_153_22, fs_153_25, fs_153_27, fs_153_28, fs_153_29, fs_153_31, fs_153_33, fs_153_34, fs_153_37, fs_153_38_p77 hk, fs_153_41, fs_153_42_p77 hk, fs_153_45, fs_153_47, fs_153_48, fs_153_49, fs_153_51, fs_153_53, fs_153_54, fs_153_55, fs_153_58, fs_153_59, fs_153_60_p91 hk, fs_153_61, fs_153_64, fs_153_67, fs_153_68, fs_153_69_p77 hk, fs_153_72, fs_153_73, fs_153_74_p77 hk, fs_153_77, fs_153_78_p77 hk, fs_153_81, Option.bind_some, Option.toList_some, Option.toList_none, List.cons_append, List.nil_append, fd_nb0, fd_nb1, fd_nbb, fd_b0, nI_add, pk_mul, ite_not, Classical.not_not, not_false_iff, not_true, and_self, or_true, true_or, ↓reduceIte, if_true, if_false, ite_self, fd_mI, fd_mH, fd_mL, fd_p0, fd_w0, fd_w1, fd_w2, fd_10, fd_00, fm_mIsShip hk, fm_mIn, fm_mIsHour, fm_mIsBook, fm_mIsCell, f3, f5, ht, eq_true c1, e1, e2, d1, d2]) rfl
  · exact fd_ag_ro I (v := -3) (w := -3) (by simp (disch := first | exact fd_nl_int | exact fd_nl_ref | exact fd_nl_none | assumption | exact nI_ne0 (by omega) (by omega) | exact fd_nb0 | exact fd_nb1 | exact fd_nbb | omega) only [fs_79_0, fs_79_1, fs_79_2, fs_79_4, fs_79_7, fs_79_10, fs_79_12, fs_79_13, fs_79_14_p0 hk, fs_79_17_p39 hk, fs_79_20, fs_79_21, fs_79_22, fs_79_25, fs_79_28, fs_79_30, fs_79_31, fs_79_32, fs_79_34, fs_79_36, fs_79_37, fs_79_40, fs_79_41_p0 hk, fs_79_44, fs_79_45, fs_79_47, fs_79_49, fs_79_50, fs_79_51, fs_79_52, fs_79_55, fs_79_56_p39 hk, fs_79_59, fs_79_62, fs_79_65, fs_79_66_p0 hk, fs_79_69_p39 hk, fs_79_72, Option.bind_some, Option.toList_some, Option.toList_none, List.cons_append, List.nil_append, fd_nb0, fd_nb1, fd_nbb, fd_b0, nI_add, pk_mul, ite_not, Classical.not_not, not_false_iff, not_true, and_self, or_true, true_or, ↓reduceIte, if_true, if_false, ite_self, fd_mI, fd_mH, fd_mL, fd_p0, fd_w0, fd_w1, fd_w2, fd_10, fd_00, fm_isShip hk, fm_isHour, fm_isBook, fm_within, fm_isCell, fm_canPass hk, f1, f2, f4, c1]) (by simp (disch := first | exact fd_nl_int | exact fd_nl_ref | exact fd_nl_none | assumption | exact nI_ne0 (by omega) (by omega) | exact fd_nb0 | exact fd_nb1 | exact fd_nbb | omega) only [fs_153_0, fs_153_1, fs_153_2, fs_153_4, fs_153_7, fs_153_10, fs_153_12, fs_153_13, fs_153_14_p77 hk, fs_153_17, fs_153_18, fs_153_19, fs_153_22, fs_153_25, fs_153_27, fs_153_28, fs_153_29, fs_153_31, fs_153_33, fs_153_34, fs_153_37, fs_153_38_p77 hk, fs_153_41, fs_153_42_p77 hk, fs_153_45, fs_153_47, fs_153_48, fs_153_49, fs_153_51, fs_153_53, fs_153_54, fs_153_55, fs_153_58, fs_153_59, fs_153_60_p91 hk, fs_153_61, fs_153_64, fs_153_67, fs_153_68, fs_153_69_p77 hk, fs_153_72, fs_153_73, fs_153_74_p77 hk, fs_153_77, fs_153_78_p77 hk, fs_153_81, Option.bind_some, Option.toList_some, Option.toList_none, List.cons_append, List.nil_append, fd_nb0, fd_nb1, fd_nbb, fd_b0, nI_add, pk_mul, ite_not, Classical.not_not, not_false_iff, not_true, and_self, or_true, true_or, ↓reduceIte, if_true, if_false, ite_self, fd_mI, fd_mH, fd_mL, fd_p0, fd_w0, fd_w1, fd_w2, fd_10, fd_00, fm_mIsShip hk, fm_mIn, fm_mIsHour, fm_mIsBook, fm_mIsCell, f3, f5, ht, c1]) rfl
end WR
