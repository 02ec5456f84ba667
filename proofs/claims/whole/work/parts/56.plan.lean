/-! THE CALLS reaches, begin -/
section PLAN
variable {k : fd_Sk} {h g : fd_Hp} {fb bb dr b : Nat}
theorem fm_bestBut (hk : fd_Sok k fb bb dr) {w : Nat → Int} {S : Nat} (hS : S < 32) (ew : ∀ a, a < 5 → h.1 76 a = fd_z (w a) ∧ -20 ≤ w a ∧ w a ≤ 20) : ∃ b, fd_E 50 0 [some (.ref (75)), some (.int (nI (S))), none, none] [] k h = some (some (.int (b)), (k, h)) ∧ ((b = -1 ∧ ∀ a, a < 5 → S.testBit a = false → w a ≤ 0) ∨ ∃ m, b = nI m ∧ m < 5 ∧ S.testBit m = false ∧ 0 < w m ∧ ∀ a, a < 5 → S.testBit a = false → w a ≤ w m) := by
  have loop : ∀ (m a : Nat) (b : Int32), a + m = 5 → ((b = -1 ∧ ∀ c, c < a → S.testBit c = false → w c ≤ 0) ∨ ∃ m, b = nI m ∧ m < a ∧ S.testBit m = false ∧ 0 < w m ∧ ∀ c, c < a → S.testBit c = false → w c ≤ w m) → ∃ b', fd_E 50 4 [some (.ref (75)), some (.int (nI (S))), some (.int (b)), some (.int (nI (a)))] [] k h = some (some (.int (b')), (k, h)) ∧ ((b' = -1 ∧ ∀ a, a < 5 → S.testBit a = false → w a ≤ 0) ∨ ∃ m, b' = nI m ∧ m < 5 ∧ S.testBit m = false ∧ 0 < w m ∧ ∀ a, a < 5 → S.testBit a = false → w a ≤ w m) := by
    intro m
    induction m with
    | zero =>
      intro a b e I
      obtain rfl : a = 5 := by omega
      have hc : nI 5 ≤ nI 5 := nI_le (by omega) (by omega)
      refine ⟨b, ?_, I⟩
      rw [fs_50_4]
      simp (disch := first | exact fd_nl_int | exact fd_nl_ref | exact fd_nl_none | assumption | exact nI_ne0 (by omega) (by omega) | exact fd_nb0 | exact fd_nb1 | exact fd_nbb | omega) only [fs_50_0, fs_50_1, fs_50_2, fs_50_3, fs_50_5, fs_50_6, fs_50_9, fs_50_10, fs_50_11, fs_50_14, fs_50_17, fs_50_18_p75 hk, fs_50_21, fs_50_22_p76 hk, fs_50_23, fs_50_26, fs_50_27, fs_50_28, fs_50_31, fs_50_32_p75 hk, fs_50_35, fs_50_36_p76 hk, fs_50_37, fs_50_38_p75 hk, fs_50_41, fs_50_42_p76 hk, fs_50_43, fs_50_46, fs_50_47, fs_50_48, fs_50_51, fs_50_54, fs_50_55, Option.bind_some, Option.toList_some, Option.toList_none, List.cons_append, List.nil_append, fd_nb0, fd_nb1, fd_nbb, fd_b0, nI_add, pk_mul, ite_not, Classical.not_not, not_false_iff, not_true, and_self, or_true, true_or, ↓reduceIte, if_true, if_false, ite_self, fd_mI, fd_mH, fd_mL, fd_p0, fd_w0, fd_w1, fd_w2, fd_10, fd_00, hc]
    | succ m ih =>
      intro a b e I
      have hc : ¬ nI 5 ≤ nI a := nI_ge (by omega) (by omega)
      obtain ⟨w1, w2, w3⟩ := ew a (by omega)
      have c0 := fd_bit0 (n := S) (j := a) (by omega) (by omega)
      have sp : ∀ c, c < a + 1 → c < a ∨ c = a := fun c hc => by omega
      cases q : S.testBit a
      · have d1 : ((nI S >>> (nI a &&& 31)) &&& nI 1 = 0) = True := by rw [c0, q]; exact eq_true rfl
        by_cases p : w a ≤ 0
        · have p' : fd_z (w a) ≤ 0 := by rw [← fd_z0]; exact (fd_zle (by omega) (by omega) (by omega) (by omega)).mpr p
          obtain ⟨b', r1, r2⟩ := ih (a + 1) b (by omega) (by
            rcases I with ⟨I1, I2⟩ | ⟨m, I1, I2, I3, I4, I5⟩
            · exact Or.inl ⟨I1, fun c hc sc => (sp c hc).elim (fun z => I2 c z sc) (fun z => z ▸ p)⟩
            · exact Or.inr ⟨m, I1, by omega, I3, I4, fun c hc sc => (sp c hc).elim (fun z => I5 c z sc) (fun z => by subst z; omega)⟩)
          refine ⟨b', ?_, r2⟩
          rw [fs_50_4]
          simp (disch := first | exact fd_nl_int | exact fd_nl_ref | exact fd_nl_none | assumption | exact nI_ne0 (by omega) (by omega) | exact fd_nb0 | exact fd_nb1 | exact fd_nbb | omega) only [fs_50_0, fs_50_1, fs_50_2, fs_50_3, fs_50_5, fs_50_6, fs_50_9, fs_50_10, fs_50_11, fs_50_14, fs_50_17, fs_50_18_p75 hk, fs_50_21, fs_50_22_p76 hk, fs_50_23, fs_50_26, fs_50_27, fs_50_28, fs_50_31, fs_50_32_p75 hk, fs_50_35, fs_50_36_p76 hk, fs_50_37, fs_50_38_p75 hk, fs_50_41, fs_50_42_p76 hk, fs_50_43, fs_50_46, fs_50_47, fs_50_48, fs_50_51, fs_50_54, fs_50_55, Option.bind_some, Option.toList_some, Option.toList_none, List.cons_append, List.nil_append, fd_nb0, fd_nb1, fd_nbb, fd_b0, nI_add, pk_mul, ite_not, Classical.not_not, not_false_iff, not_true, and_self, or_true, true_or, ↓reduceIte, if_true, if_false, ite_self, fd_mI, fd_mH, fd_mL, fd_p0, fd_w0, fd_w1, fd_w2, fd_10, fd_00, hc, fm_has, d1, w1, p', r1]
        · have p' : ¬ fd_z (w a) ≤ 0 := by rw [← fd_z0]; exact fun z => p ((fd_zle (by omega) (by omega) (by omega) (by omega)).mp z)
          rcases I with ⟨rfl, I2⟩ | ⟨m, rfl, I2, I3, I4, I5⟩
          · obtain ⟨b', r1, r2⟩ := ih (a + 1) (nI a) (by omega) (Or.inr ⟨a, rfl, by omega, q, by omega, fun c hc sc => (sp c hc).elim (fun z => by have := I2 c z sc; omega) (fun z => by subst z; omega)⟩)
            refine ⟨b', ?_, r2⟩
            rw [fs_50_4]
            simp (disch := first | exact fd_nl_int | exact fd_nl_ref | exact fd_nl_none | assumption | exact nI_ne0 (by omega) (by omega) | exact fd_nb0 | exact fd_nb1 | exact fd_nbb | omega) only [fs_50_0, fs_50_1, fs_50_2, fs_50_3, fs_50_5, fs_50_6, fs_50_9, fs_50_10, fs_50_11, fs_50_14, fs_50_17, fs_50_18_p75 hk, fs_50_21, fs_50_22_p76 hk, fs_50_23, fs_50_26, fs_50_27, fs_50_28, fs_50_31, fs_50_32_p75 hk, fs_50_35, fs_50_36_p76 hk, fs_50_37, fs_50_38_p75 hk, fs_50_41, fs_50_42_p76 hk, fs_50_43, fs_50_46, fs_50_47, fs_50_48, fs_50_51, fs_50_54, fs_50_55, Option.bind_some, Option.toList_some, Option.toList_none, List.cons_append, List.nil_append, fd_nb0, fd_nb1, fd_nbb, fd_b0, nI_add, pk_mul, ite_not, Classical.not_not, not_false_iff, not_true, and_self, or_true, true_or, ↓reduceIte, if_true, if_false, ite_self, fd_mI, fd_mH, fd_mL, fd_p0, fd_w0, fd_w1, fd_w2, fd_10, fd_00, hc, fm_has, d1, w1, p', r1]
          · have qm : (nI m = -1) = False := eq_false (fd_nm1 (by omega))
            obtain ⟨v1, v2, v3⟩ := ew m (by omega)
            by_cases y : w a ≤ w m
            · have y' : fd_z (w a) ≤ fd_z (w m) := (fd_zle (by omega) (by omega) (by omega) (by omega)).mpr y
              obtain ⟨b', r1, r2⟩ := ih (a + 1) (nI m) (by omega) (Or.inr ⟨m, rfl, by omega, I3, I4, fun c hc sc => (sp c hc).elim (fun z => I5 c z sc) (fun z => by subst z; exact y)⟩)
              refine ⟨b', ?_, r2⟩
              rw [fs_50_4]
              simp (disch := first | exact fd_nl_int | exact fd_nl_ref | exact fd_nl_none | assumption | exact nI_ne0 (by omega) (by omega) | exact fd_nb0 | exact fd_nb1 | exact fd_nbb | omega) only [fs_50_0, fs_50_1, fs_50_2, fs_50_3, fs_50_5, fs_50_6, fs_50_9, fs_50_10, fs_50_11, fs_50_14, fs_50_17, fs_50_18_p75 hk, fs_50_21, fs_50_22_p76 hk, fs_50_23, fs_50_26, fs_50_27, fs_50_28, fs_50_31, fs_50_32_p75 hk, fs_50_35, fs_50_36_p76 hk, fs_50_37, fs_50_38_p75 hk, fs_50_41, fs_50_42_p76 hk, fs_50_43, fs_50_46, fs_50_47, fs_50_48, fs_50_51, fs_50_54, fs_50_55, Option.bind_some, Option.toList_some, Option.toList_none, List.cons_append, List.nil_append, fd_nb0, fd_nb1, fd_nbb, fd_b0, nI_add, pk_mul, ite_not, Classical.not_not, not_false_iff, not_true, and_self, or_true, true_or, ↓reduceIte, if_true, if_false, ite_self, fd_mI, fd_mH, fd_mL, fd_p0, fd_w0, fd_w1, fd_w2, fd_10, fd_00, hc, fm_has, d1, w1, v1, p', qm, y', r1]
            · have y' : ¬ fd_z (w a) ≤ fd_z (w m) := fun z => y ((fd_zle (by omega) (by omega) (by omega) (by omega)).mp z)
              obtain ⟨b', r1, r2⟩ := ih (a + 1) (nI a) (by omega) (Or.inr ⟨a, rfl, by omega, q, by omega, fun c hc sc => (sp c hc).elim (fun z => by have := I5 c z sc; omega) (fun z => by subst z; omega)⟩)
              refine ⟨b', ?_, r2⟩
              rw [fs_50_4]
              simp (disch := first | exact fd_nl_int | exact fd_nl_ref | exact fd_nl_none | assumption | exact nI_ne0 (by omega) (by omega) | exact fd_nb0 | exact fd_nb1 | exact fd_nbb | omega) only [fs_50_0, fs_50_1, fs_50_2, fs_50_3, fs_50_5, fs_50_6, fs_50_9, fs_50_10, fs_50_11, fs_50_14, fs_50_17, fs_50_18_p75 hk, fs_50_21, fs_50_22_p76 hk, fs_50_23, fs_50_26, fs_50_27, fs_50_28, fs_50_31, fs_50_32_p75 hk, fs_50_35, fs_50_36_p76 hk, fs_50_37, fs_50_38_p75 hk, fs_50_41, fs_50_42_p76 hk, fs_50_43, fs_50_46, fs_50_47, fs_50_48, fs_50_51, fs_50_54, fs_50_55, Option.bind_some, Option.toList_some, Option.toList_none, List.cons_append, List.nil_append, fd_nb0, fd_nb1, fd_nbb, fd_b0, nI_add, pk_mul, ite_not, Classical.not_not, not_false_iff, not_true, and_self, or_true, true_or, ↓reduceIte, if_true, if_false, ite_self, fd_mI, fd_mH, fd_mL, fd_p0, fd_w0, fd_w1, fd_w2, fd_10, fd_00, hc, fm_has, d1, w1, v1, p', qm, y', r1]
      · have d1 : ((nI S >>> (nI a &&& 31)) &&& nI 1 = 0) = False := by rw [c0, q]; exact eq_false (by decide)
        obtain ⟨b', r1, r2⟩ := ih (a + 1) b (by omega) (by
          rcases I with ⟨I1, I2⟩ | ⟨m, I1, I2, I3, I4, I5⟩
          · exact Or.inl ⟨I1, fun c hc sc => (sp c hc).elim (fun z => I2 c z sc) (fun z => by subst z; rw [q] at sc; exact absurd sc (by decide))⟩
          · exact Or.inr ⟨m, I1, by omega, I3, I4, fun c hc sc => (sp c hc).elim (fun z => I5 c z sc) (fun z => by subst z; rw [q] at sc; exact absurd sc (by decide))⟩)
        refine ⟨b', ?_, r2⟩
        rw [fs_50_4]
        simp (disch := first | exact fd_nl_int | exact fd_nl_ref | exact fd_nl_none | assumption | exact nI_ne0 (by omega) (by omega) | exact fd_nb0 | exact fd_nb1 | exact fd_nbb | omega) only [fs_50_0, fs_50_1, fs_50_2, fs_50_3, fs_50_5, fs_50_6, fs_50_9, fs_50_10, fs_50_11, fs_50_14, fs_50_17, fs_50_18_p75 hk, fs_50_21, fs_50_22_p76 hk, fs_50_23, fs_50_26, fs_50_27, fs_50_28, fs_50_31, fs_50_32_p75 hk, fs_50_35, fs_50_36_p76 hk, fs_50_37, fs_50_38_p75 hk, fs_50_41, fs_50_42_p76 hk, fs_50_43, fs_50_46, fs_50_47, fs_50_48, fs_50_51, fs_50_54, fs_50_55, Option.bind_some, Option.toList_some, Option.toList_none, List.cons_append, List.nil_append, fd_nb0, fd_nb1, fd_nbb, fd_b0, nI_add, pk_mul, ite_not, Classical.not_not, not_false_iff, not_true, and_self, or_true, true_or, ↓reduceIte, if_true, if_false, ite_self, fd_mI, fd_mH, fd_mL, fd_p0, fd_w0, fd_w1, fd_w2, fd_10, fd_00, hc, fm_has, d1, r1]
  obtain ⟨b', r1, r2⟩ := loop 5 0 (-1) (by omega) (Or.inl ⟨rfl, fun c hc => absurd hc (Nat.not_lt_zero c)⟩)
  refine ⟨b', ?_, r2⟩
  simp (disch := first | exact fd_nl_int | exact fd_nl_ref | exact fd_nl_none | assumption | exact nI_ne0 (by omega) (by omega) | exact fd_nb0 | exact fd_nb1 | exact fd_nbb | omega) only [fs_50_0, fs_50_1, fs_50_2, fs_50_3, fs_50_5, fs_50_6, fs_50_9, fs_50_10, fs_50_11, fs_50_14, fs_50_17, fs_50_18_p75 hk, fs_50_21, fs_50_22_p76 hk, fs_50_23, fs_50_26, fs_50_27, fs_50_28, fs_50_31, fs_50_32_p75 hk, fs_50_35, fs_50_36_p76 hk, fs_50_37, fs_50_38_p75 hk, fs_50_41, fs_50_42_p76 hk, fs_50_43, fs_50_46, fs_50_47, fs_50_48, fs_50_51, fs_50_54, fs_50_55, Option.bind_some, Option.toList_some, Option.toList_none, List.cons_append, List.nil_append, fd_nb0, fd_nb1, fd_nbb, fd_b0, nI_add, pk_mul, ite_not, Classical.not_not, not_false_iff, not_true, and_self, or_true, true_or, ↓reduceIte, if_true, if_false, ite_self, fd_mI, fd_mH, fd_mL, fd_p0, fd_w0, fd_w1, fd_w2, fd_10, fd_00, r1]
theorem fm_sureL (hk : fd_Sok k fb bb dr) {w : Nat → Int} {n : Nat} {W : Int32} (hn : n ≤ 5) (ew : ∀ a, a < 5 → h.1 76 a = fd_z (w a) ∧ -20 ≤ w a ∧ w a ≤ 20) : ∀ (m i S : Nat) (st : Int) (z : Option Value), i + m = n → S < 32 → fd_E 49 19 [some (.ref (75)), some (.int (nI (n))), some (.int (W)), some (.int (fd_z st)), some (.int (nI (S))), some (.int (nI (i))), z] [] k h = some (some (.int (fd_z (st + fd_bb w m S))), (k, h)) := by
  intro m
  induction m with
  | zero =>
    intro i S st z e hS
    have hc : nI n ≤ nI i := nI_le (by omega) (by omega)
    have E : st + fd_bb w 0 S = st := Int.add_zero st
    rw [E, fs_49_19]
    simp (disch := first | exact fd_nl_int | exact fd_nl_ref | exact fd_nl_none | assumption | exact nI_ne0 (by omega) (by omega) | exact fd_nb0 | exact fd_nb1 | exact fd_nbb | omega) only [fs_49_0, fs_49_1, fs_49_2, fs_49_3, fs_49_4, fs_49_7, fs_49_8, fs_49_11, fs_49_12, fs_49_13, fs_49_14, fs_49_16, fs_49_17, fs_49_21, fs_49_22, fs_49_25, fs_49_26, fs_49_28_p75 hk, fs_49_31, fs_49_33, fs_49_35, fs_49_36, fs_49_39, fs_49_40, fs_49_41, fs_49_42, fs_49_43_p75 hk, fs_49_46, fs_49_48_p76 hk, fs_49_49, fs_49_50, fs_49_51, fs_49_53, fs_49_54, fs_49_56, fs_49_57, fs_49_58, fs_49_60, fs_49_63, fs_49_66, fs_49_67, Option.bind_some, Option.toList_some, Option.toList_none, List.cons_append, List.nil_append, fd_nb0, fd_nb1, fd_nbb, fd_b0, nI_add, pk_mul, ite_not, Classical.not_not, not_false_iff, not_true, and_self, or_true, true_or, ↓reduceIte, if_true, if_false, ite_self, fd_mI, fd_mH, fd_mL, fd_p0, fd_w0, fd_w1, fd_w2, fd_10, fd_00, hc]
  | succ m ih =>
    intro i S st z e hS
    have hc : ¬ nI n ≤ nI i := nI_ge (by omega) (by omega)
    obtain ⟨b', r1, r2⟩ := fm_bestBut (h := h) hk hS ew
    rcases r2 with ⟨rfl, r2⟩ | ⟨c, rfl, c5, sc, c0, cx⟩
    · have E : st + fd_bb w (m + 1) S = st := by rw [fd_bb_none (m + 1) S r2]; omega
      rw [E, fs_49_19]
      simp (disch := first | exact fd_nl_int | exact fd_nl_ref | exact fd_nl_none | assumption | exact nI_ne0 (by omega) (by omega) | exact fd_nb0 | exact fd_nb1 | exact fd_nbb | omega) only [fs_49_0, fs_49_1, fs_49_2, fs_49_3, fs_49_4, fs_49_7, fs_49_8, fs_49_11, fs_49_12, fs_49_13, fs_49_14, fs_49_16, fs_49_17, fs_49_21, fs_49_22, fs_49_25, fs_49_26, fs_49_28_p75 hk, fs_49_31, fs_49_33, fs_49_35, fs_49_36, fs_49_39, fs_49_40, fs_49_41, fs_49_42, fs_49_43_p75 hk, fs_49_46, fs_49_48_p76 hk, fs_49_49, fs_49_50, fs_49_51, fs_49_53, fs_49_54, fs_49_56, fs_49_57, fs_49_58, fs_49_60, fs_49_63, fs_49_66, fs_49_67, Option.bind_some, Option.toList_some, Option.toList_none, List.cons_append, List.nil_append, fd_nb0, fd_nb1, fd_nbb, fd_b0, nI_add, pk_mul, ite_not, Classical.not_not, not_false_iff, not_true, and_self, or_true, true_or, ↓reduceIte, if_true, if_false, ite_self, fd_mI, fd_mH, fd_mL, fd_p0, fd_w0, fd_w1, fd_w2, fd_10, fd_00, hc, r1]
    · have qm : (nI c = -1) = False := eq_false (fd_nm1 (by omega))
      obtain ⟨w1, w2, w3⟩ := ew c c5
      have E : st + fd_bb w (m + 1) S = (st + w c) + fd_bb w m (S ||| 2 ^ c) := by rw [fd_bb_top c5 sc (by omega) cx]; omega
      have i1 := ih (i + 1) (S ||| 2 ^ c) (st + w c) (some (.int (nI c))) (by omega) (fd_bs5 S hS c c5).1
      have sh := fd_sh1 (n := c) (by omega)
      rw [E, fs_49_19]
      simp (disch := first | exact fd_nl_int | exact fd_nl_ref | exact fd_nl_none | assumption | exact nI_ne0 (by omega) (by omega) | exact fd_nb0 | exact fd_nb1 | exact fd_nbb | omega) only [fs_49_0, fs_49_1, fs_49_2, fs_49_3, fs_49_4, fs_49_7, fs_49_8, fs_49_11, fs_49_12, fs_49_13, fs_49_14, fs_49_16, fs_49_17, fs_49_21, fs_49_22, fs_49_25, fs_49_26, fs_49_28_p75 hk, fs_49_31, fs_49_33, fs_49_35, fs_49_36, fs_49_39, fs_49_40, fs_49_41, fs_49_42, fs_49_43_p75 hk, fs_49_46, fs_49_48_p76 hk, fs_49_49, fs_49_50, fs_49_51, fs_49_53, fs_49_54, fs_49_56, fs_49_57, fs_49_58, fs_49_60, fs_49_63, fs_49_66, fs_49_67, Option.bind_some, Option.toList_some, Option.toList_none, List.cons_append, List.nil_append, fd_nb0, fd_nb1, fd_nbb, fd_b0, nI_add, pk_mul, ite_not, Classical.not_not, not_false_iff, not_true, and_self, or_true, true_or, ↓reduceIte, if_true, if_false, ite_self, fd_mI, fd_mH, fd_mL, fd_p0, fd_w0, fd_w1, fd_w2, fd_10, fd_00, hc, r1, qm, w1, fd_zadd, sh, fd_orN, i1]
theorem fm_sure0 (hk : fd_Sok k fb bb dr) {w : Nat → Int} {n : Nat} (hn : n ≤ 5) (ew : ∀ a, a < 5 → h.1 76 a = fd_z (w a) ∧ -20 ≤ w a ∧ w a ≤ 20) : fd_E 49 0 [some (.ref (75)), some (.int (nI (n))), some (.int (-1)), none, none, none, none] [] k h = some (some (.int (fd_z (fd_bb w n 0))), (k, h)) := by
  have i1 := fm_sureL (W := -1) hk hn ew n 0 0 0 none (by omega) (by omega)
  rw [Int.zero_add, fd_z0, ← nI_0] at i1
  simp (disch := first | exact fd_nl_int | exact fd_nl_ref | exact fd_nl_none | assumption | exact nI_ne0 (by omega) (by omega) | exact fd_nb0 | exact fd_nb1 | exact fd_nbb | omega) only [fs_49_0, fs_49_1, fs_49_2, fs_49_3, fs_49_4, fs_49_7, fs_49_8, fs_49_11, fs_49_12, fs_49_13, fs_49_14, fs_49_16, fs_49_17, fs_49_21, fs_49_22, fs_49_25, fs_49_26, fs_49_28_p75 hk, fs_49_31, fs_49_33, fs_49_35, fs_49_36, fs_49_39, fs_49_40, fs_49_41, fs_49_42, fs_49_43_p75 hk, fs_49_46, fs_49_48_p76 hk, fs_49_49, fs_49_50, fs_49_51, fs_49_53, fs_49_54, fs_49_56, fs_49_57, fs_49_58, fs_49_60, fs_49_63, fs_49_66, fs_49_67, Option.bind_some, Option.toList_some, Option.toList_none, List.cons_append, List.nil_append, fd_nb0, fd_nb1, fd_nbb, fd_b0, nI_add, pk_mul, ite_not, Classical.not_not, not_false_iff, not_true, and_self, or_true, true_or, ↓reduceIte, if_true, if_false, ite_self, fd_mI, fd_mH, fd_mL, fd_p0, fd_w0, fd_w1, fd_w2, fd_10, fd_00, i1]
theorem fm_sureA (hk : fd_Sok k fb bb dr) {w : Nat → Int} {n a : Nat} (ha : a < 5) (hn : n ≤ 5) (ew : ∀ a, a < 5 → h.1 76 a = fd_z (w a) ∧ -20 ≤ w a ∧ w a ≤ 20) : fd_E 49 0 [some (.ref (75)), some (.int (nI (n))), some (.int (nI (a))), none, none, none, none] [] k h = some (some (.int (fd_z (fd_bb w n (2 ^ a)))), (k, h)) := by
  have p : 2 ^ a < 32 := Nat.pow_lt_pow_right (a := 2) (m := a) (n := 5) (by omega) ha
  have qm : (nI a = -1) = False := eq_false (fd_nm1 (by omega))
  have sh := fd_sh1 (n := a) (by omega)
  have i1 := fm_sureL (W := nI a) hk hn ew n 0 (2 ^ a) 0 none (by omega) p
  rw [Int.zero_add, fd_z0, ← nI_0] at i1
  simp (disch := first | exact fd_nl_int | exact fd_nl_ref | exact fd_nl_none | assumption | exact nI_ne0 (by omega) (by omega) | exact fd_nb0 | exact fd_nb1 | exact fd_nbb | omega) only [fs_49_0, fs_49_1, fs_49_2, fs_49_3, fs_49_4, fs_49_7, fs_49_8, fs_49_11, fs_49_12, fs_49_13, fs_49_14, fs_49_16, fs_49_17, fs_49_21, fs_49_22, fs_49_25, fs_49_26, fs_49_28_p75 hk, fs_49_31, fs_49_33, fs_49_35, fs_49_36, fs_49_39, fs_49_40, fs_49_41, fs_49_42, fs_49_43_p75 hk, fs_49_46, fs_49_48_p76 hk, fs_49_49, fs_49_50, fs_49_51, fs_49_53, fs_49_54, fs_49_56, fs_49_57, fs_49_58, fs_49_60, fs_49_63, fs_49_66, fs_49_67, Option.bind_some, Option.toList_some, Option.toList_none, List.cons_append, List.nil_append, fd_nb0, fd_nb1, fd_nbb, fd_b0, nI_add, pk_mul, ite_not, Classical.not_not, not_false_iff, not_true, and_self, or_true, true_or, ↓reduceIte, if_true, if_false, ite_self, fd_mI, fd_mH, fd_mL, fd_p0, fd_w0, fd_w1, fd_w2, fd_10, fd_00, qm, sh, i1]
theorem fm_firstAsk (hk : fd_Sok k fb bb dr) {w : Nat → Int} {n : Nat} {G : Int} (h1 : 1 ≤ n) (hn : n ≤ 5) (g1 : -100 ≤ G) (g2 : G ≤ 100) (ew : ∀ a, a < 5 → h.1 76 a = fd_z (w a) ∧ -20 ≤ w a ∧ w a ≤ 20) : fd_E 51 0 [some (.ref (75)), some (.int (nI (n))), some (.int (fd_z G)), none] [] k h = some (some (.int (fd_first (fun a => G ≤ w a + fd_bb w (n - 1) (2 ^ a)) 5 0)), (k, h)) := by
  have loop : ∀ (m a : Nat), a + m = 5 → fd_E 51 2 [some (.ref (75)), some (.int (nI (n))), some (.int (fd_z G)), some (.int (nI (a)))] [] k h = some (some (.int (fd_first (fun a => G ≤ w a + fd_bb w (n - 1) (2 ^ a)) m a)), (k, h)) := by
    intro m
    induction m with
    | zero =>
      intro a e
      have hc : nI 5 ≤ nI a := nI_le (by omega) (by omega)
      rw [fs_51_2]
      simp (disch := first | exact fd_nl_int | exact fd_nl_ref | exact fd_nl_none | assumption | exact nI_ne0 (by omega) (by omega) | exact fd_nb0 | exact fd_nb1 | exact fd_nbb | omega) only [fs_51_0, fs_51_1, fs_51_3, fs_51_4, fs_51_7, fs_51_8_p75 hk, fs_51_11, fs_51_12_p76 hk, fs_51_13, fs_51_14, fs_51_15, fs_51_16, fs_51_17, fs_51_18_p75 hk, fs_51_21, fs_51_22, fs_51_23, fs_51_26, fs_51_27, fs_51_28, fs_51_31, fs_51_34, fs_51_35, Option.bind_some, Option.toList_some, Option.toList_none, List.cons_append, List.nil_append, fd_nb0, fd_nb1, fd_nbb, fd_b0, nI_add, pk_mul, ite_not, Classical.not_not, not_false_iff, not_true, and_self, or_true, true_or, ↓reduceIte, if_true, if_false, ite_self, fd_mI, fd_mH, fd_mL, fd_p0, fd_w0, fd_w1, fd_w2, fd_10, fd_00, hc]
      rfl
    | succ m ih =>
      intro a e
      have hc : ¬ nI 5 ≤ nI a := nI_ge (by omega) (by omega)
      obtain ⟨w1, w2, w3⟩ := ew a (by omega)
      have s1 := fm_sureA (h := h) (n := n - 1) (a := a) hk (by omega) (by omega) ew
      have sb : nI n - nI 1 = nI (n - 1) := nI_sub h1
      have b1 := fd_bb_bd (w := w) (fun a ha => (ew a ha).2.2) (n - 1) (2 ^ a)
      have b0 := fd_bb_0 (w := w) (k := n - 1) (S := 2 ^ a)
      have i1 := ih (a + 1) (by omega)
      rw [fs_51_2]
      by_cases c : G ≤ w a + fd_bb w (n - 1) (2 ^ a)
      · have E : fd_first (fun a => G ≤ w a + fd_bb w (n - 1) (2 ^ a)) (m + 1) a = nI a := if_pos c
        have c' : ¬ fd_z (w a + fd_bb w (n - 1) (2 ^ a)) < fd_z G := fun z => by
          have := (fd_zlt (by omega) (by omega) (by omega) (by omega)).mp z
          omega
        rw [E]
        simp (disch := first | exact fd_nl_int | exact fd_nl_ref | exact fd_nl_none | assumption | exact nI_ne0 (by omega) (by omega) | exact fd_nb0 | exact fd_nb1 | exact fd_nbb | omega) only [fs_51_0, fs_51_1, fs_51_3, fs_51_4, fs_51_7, fs_51_8_p75 hk, fs_51_11, fs_51_12_p76 hk, fs_51_13, fs_51_14, fs_51_15, fs_51_16, fs_51_17, fs_51_18_p75 hk, fs_51_21, fs_51_22, fs_51_23, fs_51_26, fs_51_27, fs_51_28, fs_51_31, fs_51_34, fs_51_35, Option.bind_some, Option.toList_some, Option.toList_none, List.cons_append, List.nil_append, fd_nb0, fd_nb1, fd_nbb, fd_b0, nI_add, pk_mul, ite_not, Classical.not_not, not_false_iff, not_true, and_self, or_true, true_or, ↓reduceIte, if_true, if_false, ite_self, fd_mI, fd_mH, fd_mL, fd_p0, fd_w0, fd_w1, fd_w2, fd_10, fd_00, hc, w1, sb, s1, fd_zadd, c']
      · have E : fd_first (fun a => G ≤ w a + fd_bb w (n - 1) (2 ^ a)) (m + 1) a = fd_first (fun a => G ≤ w a + fd_bb w (n - 1) (2 ^ a)) m (a + 1) := if_neg c
        have c' : fd_z (w a + fd_bb w (n - 1) (2 ^ a)) < fd_z G := (fd_zlt (by omega) (by omega) (by omega) (by omega)).mpr (by omega)
        rw [E]
        simp (disch := first | exact fd_nl_int | exact fd_nl_ref | exact fd_nl_none | assumption | exact nI_ne0 (by omega) (by omega) | exact fd_nb0 | exact fd_nb1 | exact fd_nbb | omega) only [fs_51_0, fs_51_1, fs_51_3, fs_51_4, fs_51_7, fs_51_8_p75 hk, fs_51_11, fs_51_12_p76 hk, fs_51_13, fs_51_14, fs_51_15, fs_51_16, fs_51_17, fs_51_18_p75 hk, fs_51_21, fs_51_22, fs_51_23, fs_51_26, fs_51_27, fs_51_28, fs_51_31, fs_51_34, fs_51_35, Option.bind_some, Option.toList_some, Option.toList_none, List.cons_append, List.nil_append, fd_nb0, fd_nb1, fd_nbb, fd_b0, nI_add, pk_mul, ite_not, Classical.not_not, not_false_iff, not_true, and_self, or_true, true_or, ↓reduceIte, if_true, if_false, ite_self, fd_mI, fd_mH, fd_mL, fd_p0, fd_w0, fd_w1, fd_w2, fd_10, fd_00, hc, w1, sb, s1, fd_zadd, c', i1]
  have i0 := loop 5 0 (by omega)
  simp (disch := first | exact fd_nl_int | exact fd_nl_ref | exact fd_nl_none | assumption | exact nI_ne0 (by omega) (by omega) | exact fd_nb0 | exact fd_nb1 | exact fd_nbb | omega) only [fs_51_0, fs_51_1, fs_51_3, fs_51_4, fs_51_7, fs_51_8_p75 hk, fs_51_11, fs_51_12_p76 hk, fs_51_13, fs_51_14, fs_51_15, fs_51_16, fs_51_17, fs_51_18_p75 hk, fs_51_21, fs_51_22, fs_51_23, fs_51_26, fs_51_27, fs_51_28, fs_51_31, fs_51_34, fs_51_35, Option.bind_some, Option.toList_some, Option.toList_none, List.cons_append, List.nil_append, fd_nb0, fd_nb1, fd_nbb, fd_b0, nI_add, pk_mul, ite_not, Classical.not_not, not_false_iff, not_true, and_self, or_true, true_or, ↓reduceIte, if_true, if_false, ite_self, fd_mI, fd_mH, fd_mL, fd_p0, fd_w0, fd_w1, fd_w2, fd_10, fd_00, i0]
theorem fm_needBy (hk : fd_Sok k fb bb dr) {S a : Nat} {v x y : Int} (hS : S < 32) (ha : a < 5) (sa : S.testBit a = false) (ev : h.1 106 (S ||| 2 ^ a) = fd_z v) (ex : h.1 105 (2 * a) = fd_z x) (ey : h.1 105 (2 * a + 1) = fd_z y) (v1 : -1000 ≤ v) (v2 : v ≤ 1000) (x1 : -20 ≤ x) (x2 : x ≤ 20) (y1 : -20 ≤ y) (y2 : y ≤ 20) : fd_E 195 0 [some (.ref (77)), some (.int (nI (S))), some (.int (nI (a))), none, none] [] k h = some (some (.int (fd_z (v - min x y))), (k, h)) := by
  have c0 := fd_bit1 (n := S) (j := a) (by omega) (by omega)
  have d1 : ((nI S >>> (nI a &&& 31)) &&& nI 1 = nI 1) = False := by rw [c0, sa]; exact eq_false (by decide)
  have sh := fd_sh1 (n := a) (by omega)
  have lt := (fd_bs5 S hS a ha).1
  by_cases c : v - x ≤ v - y
  · have c' : fd_z (v - x) ≤ fd_z (v - y) := (fd_zle (by omega) (by omega) (by omega) (by omega)).mpr c
    rw [Int.min_eq_right (by omega)]
    simp (disch := first | exact fd_nl_int | exact fd_nl_ref | exact fd_nl_none | assumption | exact nI_ne0 (by omega) (by omega) | exact fd_nb0 | exact fd_nb1 | exact fd_nbb | omega) only [fs_195_0, fs_195_1, fs_195_2, fs_195_3, fs_195_4, fs_195_5, fs_195_6, fs_195_9, fs_195_12, fs_195_13, fs_195_14_p77 hk, fs_195_17, fs_195_18, fs_195_19, fs_195_20, fs_195_21, fs_195_22_p106 hk, fs_195_23, fs_195_24_p77 hk, fs_195_27, fs_195_28, fs_195_29, fs_195_30_p105 hk, fs_195_31, fs_195_32, fs_195_33, fs_195_34_p77 hk, fs_195_37, fs_195_38, fs_195_39, fs_195_40, fs_195_41, fs_195_42_p106 hk, fs_195_43, fs_195_44_p77 hk, fs_195_47, fs_195_48, fs_195_49, fs_195_50, fs_195_51, fs_195_52_p105 hk, fs_195_53, fs_195_54, fs_195_56, fs_195_57, fs_195_59, fs_195_62, fs_195_63, fs_195_66, fs_195_68, Option.bind_some, Option.toList_some, Option.toList_none, List.cons_append, List.nil_append, fd_nb0, fd_nb1, fd_nbb, fd_b0, nI_add, pk_mul, ite_not, Classical.not_not, not_false_iff, not_true, and_self, or_true, true_or, ↓reduceIte, if_true, if_false, ite_self, fd_mI, fd_mH, fd_mL, fd_p0, fd_w0, fd_w1, fd_w2, fd_10, fd_00, d1, sh, fd_orN, ev, ex, ey, fd_zsub, c']
  · have c' : ¬ fd_z (v - x) ≤ fd_z (v - y) := fun z => c ((fd_zle (by omega) (by omega) (by omega) (by omega)).mp z)
    rw [Int.min_eq_left (by omega)]
    simp (disch := first | exact fd_nl_int | exact fd_nl_ref | exact fd_nl_none | assumption | exact nI_ne0 (by omega) (by omega) | exact fd_nb0 | exact fd_nb1 | exact fd_nbb | omega) only [fs_195_0, fs_195_1, fs_195_2, fs_195_3, fs_195_4, fs_195_5, fs_195_6, fs_195_9, fs_195_12, fs_195_13, fs_195_14_p77 hk, fs_195_17, fs_195_18, fs_195_19, fs_195_20, fs_195_21, fs_195_22_p106 hk, fs_195_23, fs_195_24_p77 hk, fs_195_27, fs_195_28, fs_195_29, fs_195_30_p105 hk, fs_195_31, fs_195_32, fs_195_33, fs_195_34_p77 hk, fs_195_37, fs_195_38, fs_195_39, fs_195_40, fs_195_41, fs_195_42_p106 hk, fs_195_43, fs_195_44_p77 hk, fs_195_47, fs_195_48, fs_195_49, fs_195_50, fs_195_51, fs_195_52_p105 hk, fs_195_53, fs_195_54, fs_195_56, fs_195_57, fs_195_59, fs_195_62, fs_195_63, fs_195_66, fs_195_68, Option.bind_some, Option.toList_some, Option.toList_none, List.cons_append, List.nil_append, fd_nb0, fd_nb1, fd_nbb, fd_b0, nI_add, pk_mul, ite_not, Classical.not_not, not_false_iff, not_true, and_self, or_true, true_or, ↓reduceIte, if_true, if_false, ite_self, fd_mI, fd_mH, fd_mL, fd_p0, fd_w0, fd_w1, fd_w2, fd_10, fd_00, d1, sh, fd_orN, ev, ex, ey, fd_zsub, c']
theorem fm_needFar (hk : fd_Sok k fb bb dr) {S a : Nat} (hS : S < 32) (ha : a < 5) (sa : S.testBit a = true) : fd_E 195 0 [some (.ref (77)), some (.int (nI (S))), some (.int (nI (a))), none, none] [] k h = some (some (.int (nI 1000000)), (k, h)) := by
  have c0 := fd_bit1 (n := S) (j := a) (by omega) (by omega)
  have d1 : ((nI S >>> (nI a &&& 31)) &&& nI 1 = nI 1) = True := by rw [c0, sa]; exact eq_true rfl
  simp (disch := first | exact fd_nl_int | exact fd_nl_ref | exact fd_nl_none | assumption | exact nI_ne0 (by omega) (by omega) | exact fd_nb0 | exact fd_nb1 | exact fd_nbb | omega) only [fs_195_0, fs_195_1, fs_195_2, fs_195_3, fs_195_4, fs_195_5, fs_195_6, fs_195_9, fs_195_12, fs_195_13, fs_195_14_p77 hk, fs_195_17, fs_195_18, fs_195_19, fs_195_20, fs_195_21, fs_195_22_p106 hk, fs_195_23, fs_195_24_p77 hk, fs_195_27, fs_195_28, fs_195_29, fs_195_30_p105 hk, fs_195_31, fs_195_32, fs_195_33, fs_195_34_p77 hk, fs_195_37, fs_195_38, fs_195_39, fs_195_40, fs_195_41, fs_195_42_p106 hk, fs_195_43, fs_195_44_p77 hk, fs_195_47, fs_195_48, fs_195_49, fs_195_50, fs_195_51, fs_195_52_p105 hk, fs_195_53, fs_195_54, fs_195_56, fs_195_57, fs_195_59, fs_195_62, fs_195_63, fs_195_66, fs_195_68, Option.bind_some, Option.toList_some, Option.toList_none, List.cons_append, List.nil_append, fd_nb0, fd_nb1, fd_nbb, fd_b0, nI_add, pk_mul, ite_not, Classical.not_not, not_false_iff, not_true, and_self, or_true, true_or, ↓reduceIte, if_true, if_false, ite_self, fd_mI, fd_mH, fd_mL, fd_p0, fd_w0, fd_w1, fd_w2, fd_10, fd_00, d1]
/-- the reference's table, from set S1 on -/
def fd_NT (w : Nat → Int) (G : Int) (n S1 : Nat) (h : fd_Hp) : Prop := ∀ S, S1 ≤ S → S < 32 → h.1 106 S = fd_z (G - fd_bb w (n - fd_bs S 12) S)
def fd_AN (w : Nat → Int) (h : fd_Hp) : Prop := ∀ a, a < 5 → ∃ x y : Int, -20 ≤ x ∧ x ≤ 20 ∧ -20 ≤ y ∧ y ≤ 20 ∧ h.1 105 (2 * a) = fd_z x ∧ h.1 105 (2 * a + 1) = fd_z y ∧ w a = min x y
theorem fm_findIn (hk : fd_Sok k fb bb dr) {w : Nat → Int} {n S K : Nat} {G : Int} (hn : n ≤ 5) (g1 : -100 ≤ G) (g2 : G ≤ 100) (hS : S < 32) (hb : n = fd_bs S 12 + (K + 1)) (w20 : ∀ a, a < 5 → w a ≤ 20) : ∀ (m a : Nat) (h : fd_Hp) (X : Int) (z5 : Option Value), a + m = 5 → 0 ≤ X → X ≤ 200 → fd_AN w h → fd_NT w G n (S + 1) h → h.1 106 S = fd_z (G - X) → ∃ h' v4 v5, fd_E 194 17 [some (.ref (77)), some (.int (nI (n))), some (.int (fd_z G)), some (.int (nI (S))), some (.int (nI (a))), z5] [] k h = fd_E 194 3 [some (.ref (77)), some (.int (nI (n))), some (.int (fd_z G)), some (.int (nI S + (-1))), some (.int (nI (v4))), v5] [] k h' ∧ h'.1 106 S = fd_z (G - fd_fold (fun a x => if S.testBit a = true then x else max x (w a + fd_bb w K (S ||| 2 ^ a))) m a X) ∧ (∀ S', ¬ S' = S → h'.1 106 S' = h.1 106 S') ∧ ∀ q, ¬ q = 106 → h'.1 q = h.1 q := by
  intro m
  induction m with
  | zero =>
    intro a h X z5 e x0 x1 A N eX
    have hc : nI 5 ≤ nI a := nI_le (by omega) (by omega)
    refine ⟨h, a, z5, ?_, eX, fun _ _ => rfl, fun _ _ => rfl⟩
    rw [fs_194_17]
    simp (disch := first | exact fd_nl_int | exact fd_nl_ref | exact fd_nl_none | assumption | exact nI_ne0 (by omega) (by omega) | exact fd_nb0 | exact fd_nb1 | exact fd_nbb | omega) only [fs_194_0, fs_194_2, fs_194_4, fs_194_7, fs_194_8_p77 hk, fs_194_11, fs_194_12, fs_194_13_p106 hk, fs_194_14, fs_194_15, fs_194_19, fs_194_20, fs_194_23, fs_194_24, fs_194_27, fs_194_28, fs_194_31, fs_194_32, fs_194_33, fs_194_35_p77 hk, fs_194_38, fs_194_40, fs_194_41_p77 hk, fs_194_44, fs_194_45, fs_194_47, fs_194_48_p77 hk, fs_194_51, fs_194_52_p106 hk, fs_194_53, fs_194_56, fs_194_58, fs_194_61, fs_194_62_p77 hk, fs_194_65, fs_194_66_p106 hk, fs_194_67_p106 hk, fs_194_68, fs_194_71, fs_194_74, fs_194_77, fs_194_80, Option.bind_some, Option.toList_some, Option.toList_none, List.cons_append, List.nil_append, fd_nb0, fd_nb1, fd_nbb, fd_b0, nI_add, pk_mul, ite_not, Classical.not_not, not_false_iff, not_true, and_self, or_true, true_or, ↓reduceIte, if_true, if_false, ite_self, fd_mI, fd_mH, fd_mL, fd_p0, fd_w0, fd_w1, fd_w2, fd_10, fd_00, hc]
  | succ m ih =>
    intro a h X z5 e x0 x1 A N eX
    have hc : ¬ nI 5 ≤ nI a := nI_ge (by omega) (by omega)
    have bi := fm_bits (k := k) (h := h) (show S < 4096 by omega)
    have bl : ¬ nI n ≤ nI (fd_bs S 12) := nI_ge (by omega) (by omega)
    rw [fd_foldS]
    cases q : S.testBit a
    · obtain ⟨x, y, X1, X2, Y1, Y2, ex, ey, ew⟩ := A a (by omega)
      obtain ⟨u1, u2⟩ := fd_bs5 S hS a (by omega)
      obtain ⟨u3, u4⟩ := u2 q
      have ev := N (S ||| 2 ^ a) (by omega) u1
      rw [u3, show n - (fd_bs S 12 + 1) = K by omega] at ev
      have b1 := fd_bb_bd (w := w) w20 K (S ||| 2 ^ a)
      have b0 := fd_bb_0 (w := w) (k := K) (S := S ||| 2 ^ a)
      have nb := fm_needBy (h := h) hk hS (show a < 5 by omega) q ev ex ey (by omega) (by omega) X1 X2 Y1 Y2
      rw [← ew] at nb
      have wa := w20 a (by omega)
      have step : fd_E 194 17 [some (.ref (77)), some (.int (nI (n))), some (.int (fd_z G)), some (.int (nI (S))), some (.int (nI (a))), z5] [] k h = fd_E 194 17 [some (.ref (77)), some (.int (nI (n))), some (.int (fd_z G)), some (.int (nI (S))), some (.int (nI (a + 1))), some (.int (fd_z (G - fd_bb w K (S ||| 2 ^ a) - w a)))] [] k (fd_w h 106 S (fd_z (G - max X (w a + fd_bb w K (S ||| 2 ^ a))))) := by
        by_cases c : G - X ≤ G - fd_bb w K (S ||| 2 ^ a) - w a
        · have c' : fd_z (G - X) ≤ fd_z (G - fd_bb w K (S ||| 2 ^ a) - w a) := (fd_zle (by omega) (by omega) (by omega) (by omega)).mpr c
          rw [Int.max_eq_left (by omega), fs_194_17]
          simp (disch := first | exact fd_nl_int | exact fd_nl_ref | exact fd_nl_none | assumption | exact nI_ne0 (by omega) (by omega) | exact fd_nb0 | exact fd_nb1 | exact fd_nbb | omega) only [fs_194_0, fs_194_2, fs_194_4, fs_194_7, fs_194_8_p77 hk, fs_194_11, fs_194_12, fs_194_13_p106 hk, fs_194_14, fs_194_15, fs_194_19, fs_194_20, fs_194_23, fs_194_24, fs_194_27, fs_194_28, fs_194_31, fs_194_32, fs_194_33, fs_194_35_p77 hk, fs_194_38, fs_194_40, fs_194_41_p77 hk, fs_194_44, fs_194_45, fs_194_47, fs_194_48_p77 hk, fs_194_51, fs_194_52_p106 hk, fs_194_53, fs_194_56, fs_194_58, fs_194_61, fs_194_62_p77 hk, fs_194_65, fs_194_66_p106 hk, fs_194_67_p106 hk, fs_194_68, fs_194_71, fs_194_74, fs_194_77, fs_194_80, Option.bind_some, Option.toList_some, Option.toList_none, List.cons_append, List.nil_append, fd_nb0, fd_nb1, fd_nbb, fd_b0, nI_add, pk_mul, ite_not, Classical.not_not, not_false_iff, not_true, and_self, or_true, true_or, ↓reduceIte, if_true, if_false, ite_self, fd_mI, fd_mH, fd_mL, fd_p0, fd_w0, fd_w1, fd_w2, fd_10, fd_00, hc, bi, bl, nb, eX, c']
        · have c' : ¬ fd_z (G - X) ≤ fd_z (G - fd_bb w K (S ||| 2 ^ a) - w a) := fun z => c ((fd_zle (by omega) (by omega) (by omega) (by omega)).mp z)
          rw [Int.max_eq_right (by omega), show G - (w a + fd_bb w K (S ||| 2 ^ a)) = G - fd_bb w K (S ||| 2 ^ a) - w a by omega, fs_194_17]
          simp (disch := first | exact fd_nl_int | exact fd_nl_ref | exact fd_nl_none | assumption | exact nI_ne0 (by omega) (by omega) | exact fd_nb0 | exact fd_nb1 | exact fd_nbb | omega) only [fs_194_0, fs_194_2, fs_194_4, fs_194_7, fs_194_8_p77 hk, fs_194_11, fs_194_12, fs_194_13_p106 hk, fs_194_14, fs_194_15, fs_194_19, fs_194_20, fs_194_23, fs_194_24, fs_194_27, fs_194_28, fs_194_31, fs_194_32, fs_194_33, fs_194_35_p77 hk, fs_194_38, fs_194_40, fs_194_41_p77 hk, fs_194_44, fs_194_45, fs_194_47, fs_194_48_p77 hk, fs_194_51, fs_194_52_p106 hk, fs_194_53, fs_194_56, fs_194_58, fs_194_61, fs_194_62_p77 hk, fs_194_65, fs_194_66_p106 hk, fs_194_67_p106 hk, fs_194_68, fs_194_71, fs_194_74, fs_194_77, fs_194_80, Option.bind_some, Option.toList_some, Option.toList_none, List.cons_append, List.nil_append, fd_nb0, fd_nb1, fd_nbb, fd_b0, nI_add, pk_mul, ite_not, Classical.not_not, not_false_iff, not_true, and_self, or_true, true_or, ↓reduceIte, if_true, if_false, ite_self, fd_mI, fd_mH, fd_mL, fd_p0, fd_w0, fd_w1, fd_w2, fd_10, fd_00, hc, bi, bl, nb, eX, c']
      have E : (if false = true then X else max X (w a + fd_bb w K (S ||| 2 ^ a))) = max X (w a + fd_bb w K (S ||| 2 ^ a)) := if_neg (by decide)
      obtain ⟨h', v4, v5, r1, r2, r3, r4⟩ := ih (a + 1) (fd_w h 106 S (fd_z (G - max X (w a + fd_bb w K (S ||| 2 ^ a))))) (max X (w a + fd_bb w K (S ||| 2 ^ a))) (some (.int (fd_z (G - fd_bb w K (S ||| 2 ^ a) - w a)))) (by omega) (by omega) (by omega) (fun c hc => by
        obtain ⟨x, y, z1, z2, z3, z4, z5, z6, z7⟩ := A c hc
        exact ⟨x, y, z1, z2, z3, z4, (fd_w1 (by decide)).trans z5, (fd_w1 (by decide)).trans z6, z7⟩) (fun S' h1 h2 => (fd_w2 (by omega)).trans (N S' h1 h2)) fd_w0
      rw [E]
      exact ⟨h', v4, v5, step.trans r1, r2, fun S' hs => (r3 S' hs).trans (fd_w2 hs), fun q hq => (r4 q hq).trans (fd_wp hq)⟩
    · have nf := fm_needFar (h := h) hk hS (show a < 5 by omega) q
      have c' : fd_z (G - X) ≤ nI 1000000 := by
        rw [← fd_zN]
        exact (fd_zle (by omega) (by omega) (by omega) (by omega)).mpr (by omega)
      have step : fd_E 194 17 [some (.ref (77)), some (.int (nI (n))), some (.int (fd_z G)), some (.int (nI (S))), some (.int (nI (a))), z5] [] k h = fd_E 194 17 [some (.ref (77)), some (.int (nI (n))), some (.int (fd_z G)), some (.int (nI (S))), some (.int (nI (a + 1))), some (.int (nI (1000000)))] [] k (fd_w h 106 S (fd_z (G - X))) := by
        rw [fs_194_17]
        simp (disch := first | exact fd_nl_int | exact fd_nl_ref | exact fd_nl_none | assumption | exact nI_ne0 (by omega) (by omega) | exact fd_nb0 | exact fd_nb1 | exact fd_nbb | omega) only [fs_194_0, fs_194_2, fs_194_4, fs_194_7, fs_194_8_p77 hk, fs_194_11, fs_194_12, fs_194_13_p106 hk, fs_194_14, fs_194_15, fs_194_19, fs_194_20, fs_194_23, fs_194_24, fs_194_27, fs_194_28, fs_194_31, fs_194_32, fs_194_33, fs_194_35_p77 hk, fs_194_38, fs_194_40, fs_194_41_p77 hk, fs_194_44, fs_194_45, fs_194_47, fs_194_48_p77 hk, fs_194_51, fs_194_52_p106 hk, fs_194_53, fs_194_56, fs_194_58, fs_194_61, fs_194_62_p77 hk, fs_194_65, fs_194_66_p106 hk, fs_194_67_p106 hk, fs_194_68, fs_194_71, fs_194_74, fs_194_77, fs_194_80, Option.bind_some, Option.toList_some, Option.toList_none, List.cons_append, List.nil_append, fd_nb0, fd_nb1, fd_nbb, fd_b0, nI_add, pk_mul, ite_not, Classical.not_not, not_false_iff, not_true, and_self, or_true, true_or, ↓reduceIte, if_true, if_false, ite_self, fd_mI, fd_mH, fd_mL, fd_p0, fd_w0, fd_w1, fd_w2, fd_10, fd_00, hc, bi, bl, nf, eX, c']
      have E : (if true = true then X else max X (w a + fd_bb w K (S ||| 2 ^ a))) = X := if_pos rfl
      obtain ⟨h', v4, v5, r1, r2, r3, r4⟩ := ih (a + 1) (fd_w h 106 S (fd_z (G - X))) X (some (.int (nI 1000000))) (by omega) x0 x1 (fun c hc => by
        obtain ⟨x, y, z1, z2, z3, z4, z5, z6, z7⟩ := A c hc
        exact ⟨x, y, z1, z2, z3, z4, (fd_w1 (by decide)).trans z5, (fd_w1 (by decide)).trans z6, z7⟩) (fun S' h1 h2 => (fd_w2 (by omega)).trans (N S' h1 h2)) fd_w0
      rw [E]
      exact ⟨h', v4, v5, step.trans r1, r2, fun S' hs => (r3 S' hs).trans (fd_w2 hs), fun q hq => (r4 q hq).trans (fd_wp hq)⟩
theorem fm_findL (hk : fd_Sok k fb bb dr) {w : Nat → Int} {n : Nat} {G : Int} (hn : n ≤ 5) (g1 : -100 ≤ G) (g2 : G ≤ 100) (w20 : ∀ a, a < 5 → w a ≤ 20) : ∀ (S1 : Nat) (h : fd_Hp) (z4 z5 : Option Value), S1 ≤ 32 → fd_AN w h → fd_NT w G n S1 h → ∃ h', fd_E 194 3 [some (.ref (77)), some (.int (nI (n))), some (.int (fd_z G)), some (.int (nI S1 + (-1))), z4, z5] [] k h = some (none, (k, h')) ∧ fd_NT w G n 0 h' ∧ ∀ q, ¬ q = 106 → h'.1 q = h.1 q := by
  intro S1
  induction S1 with
  | zero =>
    intro h z4 z5 _ A N
    have hc : nI 0 + (-1) < 0 := by decide
    refine ⟨h, ?_, N, fun _ _ => rfl⟩
    rw [fs_194_3]
    simp (disch := first | exact fd_nl_int | exact fd_nl_ref | exact fd_nl_none | assumption | exact nI_ne0 (by omega) (by omega) | exact fd_nb0 | exact fd_nb1 | exact fd_nbb | omega) only [fs_194_0, fs_194_2, fs_194_4, fs_194_7, fs_194_8_p77 hk, fs_194_11, fs_194_12, fs_194_13_p106 hk, fs_194_14, fs_194_15, fs_194_17, fs_194_19, fs_194_20, fs_194_23, fs_194_24, fs_194_27, fs_194_28, fs_194_31, fs_194_32, fs_194_33, fs_194_35_p77 hk, fs_194_38, fs_194_40, fs_194_41_p77 hk, fs_194_44, fs_194_45, fs_194_47, fs_194_48_p77 hk, fs_194_51, fs_194_52_p106 hk, fs_194_53, fs_194_56, fs_194_58, fs_194_61, fs_194_62_p77 hk, fs_194_65, fs_194_66_p106 hk, fs_194_67_p106 hk, fs_194_68, fs_194_71, fs_194_74, fs_194_77, fs_194_80, Option.bind_some, Option.toList_some, Option.toList_none, List.cons_append, List.nil_append, fd_nb0, fd_nb1, fd_nbb, fd_b0, nI_add, pk_mul, ite_not, Classical.not_not, not_false_iff, not_true, and_self, or_true, true_or, ↓reduceIte, if_true, if_false, ite_self, fd_mI, fd_mH, fd_mL, fd_p0, fd_w0, fd_w1, fd_w2, fd_10, fd_00, hc]
  | succ S ih =>
    intro h z4 z5 hS A N
    have hc : ¬ nI S < 0 := nI_pos (by omega)
    rw [pk_m1]
    have A' : fd_AN w (fd_w h 106 S (fd_z G)) := fun c hc => by
      obtain ⟨x, y, z1, z2, z3, z4, z5, z6, z7⟩ := A c hc
      exact ⟨x, y, z1, z2, z3, z4, (fd_w1 (by decide)).trans z5, (fd_w1 (by decide)).trans z6, z7⟩
    have st : fd_E 194 3 [some (.ref (77)), some (.int (nI (n))), some (.int (fd_z G)), some (.int (nI (S))), z4, z5] [] k h = fd_E 194 17 [some (.ref (77)), some (.int (nI (n))), some (.int (fd_z G)), some (.int (nI (S))), some (.int (nI (0))), z5] [] k (fd_w h 106 S (fd_z G)) := by
      rw [fs_194_3]
      simp (disch := first | exact fd_nl_int | exact fd_nl_ref | exact fd_nl_none | assumption | exact nI_ne0 (by omega) (by omega) | exact fd_nb0 | exact fd_nb1 | exact fd_nbb | omega) only [fs_194_0, fs_194_2, fs_194_4, fs_194_7, fs_194_8_p77 hk, fs_194_11, fs_194_12, fs_194_13_p106 hk, fs_194_14, fs_194_15, fs_194_19, fs_194_20, fs_194_23, fs_194_24, fs_194_27, fs_194_28, fs_194_31, fs_194_32, fs_194_33, fs_194_35_p77 hk, fs_194_38, fs_194_40, fs_194_41_p77 hk, fs_194_44, fs_194_45, fs_194_47, fs_194_48_p77 hk, fs_194_51, fs_194_52_p106 hk, fs_194_53, fs_194_56, fs_194_58, fs_194_61, fs_194_62_p77 hk, fs_194_65, fs_194_66_p106 hk, fs_194_67_p106 hk, fs_194_68, fs_194_71, fs_194_74, fs_194_77, fs_194_80, Option.bind_some, Option.toList_some, Option.toList_none, List.cons_append, List.nil_append, fd_nb0, fd_nb1, fd_nbb, fd_b0, nI_add, pk_mul, ite_not, Classical.not_not, not_false_iff, not_true, and_self, or_true, true_or, ↓reduceIte, if_true, if_false, ite_self, fd_mI, fd_mH, fd_mL, fd_p0, fd_w0, fd_w1, fd_w2, fd_10, fd_00, hc]
    have go : ∀ (h1 : fd_Hp) (v4 v5 : Option Value), fd_E 194 3 [some (.ref (77)), some (.int (nI (n))), some (.int (fd_z G)), some (.int (nI (S))), z4, z5] [] k h = fd_E 194 3 [some (.ref (77)), some (.int (nI (n))), some (.int (fd_z G)), some (.int (nI S + (-1))), v4, v5] [] k h1 → h1.1 106 S = fd_z (G - fd_bb w (n - fd_bs S 12) S) → (∀ S', ¬ S' = S → h1.1 106 S' = h.1 106 S') → (∀ q, ¬ q = 106 → h1.1 q = h.1 q) → ∃ h', fd_E 194 3 [some (.ref (77)), some (.int (nI (n))), some (.int (fd_z G)), some (.int (nI (S))), z4, z5] [] k h = some (none, (k, h')) ∧ fd_NT w G n 0 h' ∧ ∀ q, ¬ q = 106 → h'.1 q = h.1 q := by
      intro h1 v4 v5 r1 r2 r3 r4
      have A1 : fd_AN w h1 := fun c hc => by
        obtain ⟨x, y, z1, z2, z3, z4, z5, z6, z7⟩ := A c hc
        exact ⟨x, y, z1, z2, z3, z4, by rw [r4 105 (by decide)]; exact z5, by rw [r4 105 (by decide)]; exact z6, z7⟩
      obtain ⟨h2, s1, s2, s3⟩ := ih h1 v4 v5 (by omega) A1 (fun S' y1 y2 => by
        by_cases y : S' = S
        · subst y; exact r2
        · rw [r3 S' y]; exact N S' (by omega) y2)
      exact ⟨h2, r1.trans s1, s2, fun q hq => (s3 q hq).trans (r4 q hq)⟩
    by_cases c : fd_bs S 12 < n
    · obtain ⟨h1, v4, v5, r1, r2, r3, r4⟩ := fm_findIn (S := S) (K := n - fd_bs S 12 - 1) hk hn g1 g2 (by omega) (by omega) w20 5 0 (fd_w h 106 S (fd_z G)) 0 z5 (by omega) (by omega) (by omega) A' (fun S' y1 y2 => (fd_w2 (by omega)).trans (N S' (by omega) y2)) (by rw [fd_w0, Int.sub_zero])
      refine go h1 (some (.int (nI v4))) v5 (st.trans r1) ?_ (fun S' y => (r3 S' y).trans (fd_w2 y)) (fun q hq => (r4 q hq).trans (fd_wp hq))
      rw [r2, show n - fd_bs S 12 = (n - fd_bs S 12 - 1) + 1 by omega]
      rfl
    · have bi := fm_bits (k := k) (h := fd_w h 106 S (fd_z G)) (show S < 4096 by omega)
      have l1 := fd_bs_le (n := S) (k := 12)
      have bl : nI n ≤ nI (fd_bs S 12) := nI_le (by omega) (by omega)
      have hc5 : ¬ nI 5 ≤ nI 0 := nI_ge (by omega) (by omega)
      refine go (fd_w h 106 S (fd_z G)) (some (.int (nI 0))) z5 (st.trans ?_) ?_ (fun S' y => fd_w2 y) (fun q hq => fd_wp hq)
      · rw [fs_194_17]
        simp (disch := first | exact fd_nl_int | exact fd_nl_ref | exact fd_nl_none | assumption | exact nI_ne0 (by omega) (by omega) | exact fd_nb0 | exact fd_nb1 | exact fd_nbb | omega) only [fs_194_0, fs_194_2, fs_194_4, fs_194_7, fs_194_8_p77 hk, fs_194_11, fs_194_12, fs_194_13_p106 hk, fs_194_14, fs_194_15, fs_194_19, fs_194_20, fs_194_23, fs_194_24, fs_194_27, fs_194_28, fs_194_31, fs_194_32, fs_194_33, fs_194_35_p77 hk, fs_194_38, fs_194_40, fs_194_41_p77 hk, fs_194_44, fs_194_45, fs_194_47, fs_194_48_p77 hk, fs_194_51, fs_194_52_p106 hk, fs_194_53, fs_194_56, fs_194_58, fs_194_61, fs_194_62_p77 hk, fs_194_65, fs_194_66_p106 hk, fs_194_67_p106 hk, fs_194_68, fs_194_71, fs_194_74, fs_194_77, fs_194_80, Option.bind_some, Option.toList_some, Option.toList_none, List.cons_append, List.nil_append, fd_nb0, fd_nb1, fd_nbb, fd_b0, nI_add, pk_mul, ite_not, Classical.not_not, not_false_iff, not_true, and_self, or_true, true_or, ↓reduceIte, if_true, if_false, ite_self, fd_mI, fd_mH, fd_mL, fd_p0, fd_w0, fd_w1, fd_w2, fd_10, fd_00, hc5, bi, bl]
      · rw [fd_w0, show n - fd_bs S 12 = 0 by omega]
        show fd_z G = fd_z (G - 0)
        rw [Int.sub_zero]
theorem fm_find (hk : fd_Sok k fb bb dr) {w : Nat → Int} {n : Nat} {G : Int} (hn : n ≤ 5) (g1 : -100 ≤ G) (g2 : G ≤ 100) (w20 : ∀ a, a < 5 → w a ≤ 20) (A : fd_AN w h) : ∃ h', fd_E 194 0 [some (.ref (77)), some (.int (nI (n))), some (.int (fd_z G)), none, none, none] [] k h = some (none, (k, h')) ∧ fd_NT w G n 0 h' ∧ ∀ q, ¬ q = 106 → h'.1 q = h.1 q := by
  obtain ⟨h', r1, r2⟩ := fm_findL (G := G) (n := n) hk hn g1 g2 w20 32 h none none (by omega) A (fun S h1 h2 => by omega)
  rw [pk_m1] at r1
  refine ⟨h', ?_, r2⟩
  simp (disch := first | exact fd_nl_int | exact fd_nl_ref | exact fd_nl_none | assumption | exact nI_ne0 (by omega) (by omega) | exact fd_nb0 | exact fd_nb1 | exact fd_nbb | omega) only [fs_194_0, fs_194_2, fs_194_4, fs_194_7, fs_194_8_p77 hk, fs_194_11, fs_194_12, fs_194_13_p106 hk, fs_194_14, fs_194_15, fs_194_17, fs_194_19, fs_194_20, fs_194_23, fs_194_24, fs_194_27, fs_194_28, fs_194_31, fs_194_32, fs_194_33, fs_194_35_p77 hk, fs_194_38, fs_194_40, fs_194_41_p77 hk, fs_194_44, fs_194_45, fs_194_47, fs_194_48_p77 hk, fs_194_51, fs_194_52_p106 hk, fs_194_53, fs_194_56, fs_194_58, fs_194_61, fs_194_62_p77 hk, fs_194_65, fs_194_66_p106 hk, fs_194_67_p106 hk, fs_194_68, fs_194_71, fs_194_74, fs_194_77, fs_194_80, Option.bind_some, Option.toList_some, Option.toList_none, List.cons_append, List.nil_append, fd_nb0, fd_nb1, fd_nbb, fd_b0, nI_add, pk_mul, ite_not, Classical.not_not, not_false_iff, not_true, and_self, or_true, true_or, ↓reduceIte, if_true, if_false, ite_self, fd_mI, fd_mH, fd_mL, fd_p0, fd_w0, fd_w1, fd_w2, fd_10, fd_00, r1]
theorem fd_planW (PL : fd_Ipl h) : ∃ w : Nat → Int, (∀ a, a < 5 → h.1 76 a = fd_z (w a) ∧ -20 ≤ w a ∧ w a ≤ 20) ∧ fd_AN w h := by
  refine ⟨fun a => (h.1 76 a).toInt, fun a ha => ?_, fun a ha => ?_⟩
  all_goals obtain ⟨x, y, x1, x2, y1, y2, ex, ey, ew⟩ := PL a ha
  · have : (h.1 76 a).toInt = min x y := by rw [ew]; exact fd_zT (by omega) (by omega)
    dsimp only
    rw [this]
    exact ⟨ew, by omega, by omega⟩
  · have : (h.1 76 a).toInt = min x y := by rw [ew]; exact fd_zT (by omega) (by omega)
    exact ⟨x, y, x1, x2, y1, y2, ex, ey, this⟩
theorem fd_goalT {n g : Int32} (c : fd_wi n (nI 1) (nI 5) ∧ fd_wi g (-100) (nI 100)) : ∃ (N : Nat) (G : Int), 1 ≤ N ∧ N ≤ 5 ∧ n = nI N ∧ -100 ≤ G ∧ G ≤ 100 ∧ g = fd_z G := by
  obtain ⟨c1, c2⟩ := c
  obtain ⟨N, n1, n2, n3⟩ := (fd_argL (by omega) (by omega)).mp c1
  rw [show (-100 : Int32) = Int32.ofInt (-100) by decide, show (nI 100 : Int32) = Int32.ofInt 100 by decide] at c2
  have e := (fd_ofI (x := g) (l := -100) (m := 100) (by omega) (by omega)).mp c2
  refine ⟨N, g.toInt, n1, n2, n3, by omega, by omega, ?_⟩
  unfold fd_z
  rw [Int32.ofInt_toInt]
theorem fc_reaches (I : fd_Inv k h) (x y : Int32) : fd_Ag k h 100 [some (.ref (0)), some (.int (x)), some (.int (y))] 197 [some (.ref (77)), some (.int (x)), some (.int (y))] := by
  have I0 := I; obtain ⟨fb, bb, dr, ns, np, nb, t, hk, F, ht, TX, B0, B1, FE, BA, OF, PL⟩ := I0; have F0 := F; simp only [fd_Fl, Nat.reduceAdd] at F0; obtain ⟨⟨b1, b2, b3, b4⟩, ⟨f1, f2, f3, f4, f5, f6, f7⟩, ⟨g1, g2, g3, g4⟩, S, O, T⟩ := F0
  by_cases c1 : fd_wi x (nI 1) (nI 5) ∧ fd_wi y (-100) (nI 100)
  · obtain ⟨n, G, n1, n2, rfl, g1, g2, rfl⟩ := fd_goalT c1
    obtain ⟨w, ew, A⟩ := fd_planW PL
    have s0 := fm_sure0 (h := h) hk n2 ew
    obtain ⟨h', r1, r2, r3⟩ := fm_find (h := h) (n := n) (G := G) hk n2 g1 g2 (fun a ha => (ew a ha).2.2) A
    have r4 := r2 0 (by omega) (by omega)
    rw [show fd_bs 0 12 = 0 by decide, Nat.sub_zero] at r4
    have b1 := fd_bb_bd (w := w) (fun a ha => (ew a ha).2.2) n 0
    have b0 := fd_bb_0 (w := w) (k := n) (S := 0)
    have c1' := eq_true c1
    have IV : fd_Inv k h' := ⟨fb, bb, dr, ns, np, nb, t, hk, fd_Fl_fr (by simp (disch := omega) only [r3, and_self]) F, (by simp (disch := omega) only [r3]; exact ht), fd_Itx_fr (by simp (disch := omega) only [r3, and_self]) TX, fd_Bk_fr hk.2.2.2.2.2.2.1 (by simp (disch := omega) only [r3, and_self]) B0, fd_Bk_fr hk.2.2.2.2.2.2.2.1 (by simp (disch := omega) only [r3, and_self]) B1, fd_Ife_fr (by simp (disch := omega) only [r3, and_self]) FE, fd_Iba_fr (by simp (disch := omega) only [r3, and_self]) BA, fd_Iof_fr (by simp (disch := omega) only [r3, and_self]) OF, fd_Ipl_fr (by simp (disch := omega) only [r3, and_self]) PL⟩
    by_cases d : G ≤ fd_bb w n 0
    · have d1 : ¬ fd_z (fd_bb w n 0) < fd_z G := fun z => by
        have := (fd_zlt (by omega) (by omega) (by omega) (by omega)).mp z
        omega
      have d2 : ¬ 0 < fd_z (G - fd_bb w n 0) := fun z => by
        rw [← fd_z0] at z
        have := (fd_zlt (by omega) (by omega) (by omega) (by omega)).mp z
        omega
      refine ⟨nI 1, k, h, h', ?_, ?_, IV, rfl⟩
      · simp (disch := first | exact fd_nl_int | exact fd_nl_ref | exact fd_nl_none | assumption | exact nI_ne0 (by omega) (by omega) | exact fd_nb0 | exact fd_nb1 | exact fd_nbb | omega) only [fs_100_0, fs_100_1, fs_100_2, fs_100_5, fs_100_8, fs_100_10, fs_100_11, fs_100_12_p0 hk, fs_100_15, fs_100_16, fs_100_17_p75 hk, fs_100_20, fs_100_21, fs_100_24, fs_100_25, fs_100_28, fs_100_29, Option.bind_some, Option.toList_some, Option.toList_none, List.cons_append, List.nil_append, fd_nb0, fd_nb1, fd_nbb, fd_b0, nI_add, pk_mul, ite_not, Classical.not_not, not_false_iff, not_true, and_self, or_true, true_or, ↓reduceIte, if_true, if_false, ite_self, fd_mI, fd_mH, fd_mL, fd_p0, fd_w0, fd_w1, fd_w2, fd_10, fd_00, fm_isGoal, c1', s0, d1]
      · simp (disch := first | exact fd_nl_int | exact fd_nl_ref | exact fd_nl_none | assumption | exact nI_ne0 (by omega) (by omega) | exact fd_nb0 | exact fd_nb1 | exact fd_nbb | omega) only [fs_197_0, fs_197_1, fs_197_2, fs_197_5, fs_197_8, fs_197_10, fs_197_11, fs_197_12, fs_197_13, fs_197_14_p77 hk, fs_197_17, fs_197_18_p77 hk, fs_197_21, fs_197_22_p106 hk, fs_197_23, fs_197_26, fs_197_27, fs_197_30, fs_197_31, Option.bind_some, Option.toList_some, Option.toList_none, List.cons_append, List.nil_append, fd_nb0, fd_nb1, fd_nbb, fd_b0, nI_add, pk_mul, ite_not, Classical.not_not, not_false_iff, not_true, and_self, or_true, true_or, ↓reduceIte, if_true, if_false, ite_self, fd_mI, fd_mH, fd_mL, fd_p0, fd_w0, fd_w1, fd_w2, fd_10, fd_00, fm_mIsPlan, c1', r1, r4, d2]
    · have d1 : fd_z (fd_bb w n 0) < fd_z G := (fd_zlt (by omega) (by omega) (by omega) (by omega)).mpr (by omega)
      have d2 : 0 < fd_z (G - fd_bb w n 0) := by
        rw [← fd_z0]
        exact (fd_zlt (by omega) (by omega) (by omega) (by omega)).mpr (by omega)
      refine ⟨nI 0, k, h, h', ?_, ?_, IV, rfl⟩
      · simp (disch := first | exact fd_nl_int | exact fd_nl_ref | exact fd_nl_none | assumption | exact nI_ne0 (by omega) (by omega) | exact fd_nb0 | exact fd_nb1 | exact fd_nbb | omega) only [fs_100_0, fs_100_1, fs_100_2, fs_100_5, fs_100_8, fs_100_10, fs_100_11, fs_100_12_p0 hk, fs_100_15, fs_100_16, fs_100_17_p75 hk, fs_100_20, fs_100_21, fs_100_24, fs_100_25, fs_100_28, fs_100_29, Option.bind_some, Option.toList_some, Option.toList_none, List.cons_append, List.nil_append, fd_nb0, fd_nb1, fd_nbb, fd_b0, nI_add, pk_mul, ite_not, Classical.not_not, not_false_iff, not_true, and_self, or_true, true_or, ↓reduceIte, if_true, if_false, ite_self, fd_mI, fd_mH, fd_mL, fd_p0, fd_w0, fd_w1, fd_w2, fd_10, fd_00, fm_isGoal, c1', s0, d1]
      · simp (disch := first | exact fd_nl_int | exact fd_nl_ref | exact fd_nl_none | assumption | exact nI_ne0 (by omega) (by omega) | exact fd_nb0 | exact fd_nb1 | exact fd_nbb | omega) only [fs_197_0, fs_197_1, fs_197_2, fs_197_5, fs_197_8, fs_197_10, fs_197_11, fs_197_12, fs_197_13, fs_197_14_p77 hk, fs_197_17, fs_197_18_p77 hk, fs_197_21, fs_197_22_p106 hk, fs_197_23, fs_197_26, fs_197_27, fs_197_30, fs_197_31, Option.bind_some, Option.toList_some, Option.toList_none, List.cons_append, List.nil_append, fd_nb0, fd_nb1, fd_nbb, fd_b0, nI_add, pk_mul, ite_not, Classical.not_not, not_false_iff, not_true, and_self, or_true, true_or, ↓reduceIte, if_true, if_false, ite_self, fd_mI, fd_mH, fd_mL, fd_p0, fd_w0, fd_w1, fd_w2, fd_10, fd_00, fm_mIsPlan, c1', r1, r4, d2]
  · have c1' := eq_false c1
    exact fd_ag_ro I (v := -3) (w := -3) (by simp (disch := first | exact fd_nl_int | exact fd_nl_ref | exact fd_nl_none | assumption | exact nI_ne0 (by omega) (by omega) | exact fd_nb0 | exact fd_nb1 | exact fd_nbb | omega) only [fs_100_0, fs_100_1, fs_100_2, fs_100_5, fs_100_8, fs_100_10, fs_100_11, fs_100_12_p0 hk, fs_100_15, fs_100_16, fs_100_17_p75 hk, fs_100_20, fs_100_21, fs_100_24, fs_100_25, fs_100_28, fs_100_29, Option.bind_some, Option.toList_some, Option.toList_none, List.cons_append, List.nil_append, fd_nb0, fd_nb1, fd_nbb, fd_b0, nI_add, pk_mul, ite_not, Classical.not_not, not_false_iff, not_true, and_self, or_true, true_or, ↓reduceIte, if_true, if_false, ite_self, fd_mI, fd_mH, fd_mL, fd_p0, fd_w0, fd_w1, fd_w2, fd_10, fd_00, fm_isShip hk, fm_isHour, fm_isBook, fm_within, fm_isCell, fm_canPass hk, f1, f2, f4, fm_isGoal, fm_mIsPlan, c1']) (by simp (disch := first | exact fd_nl_int | exact fd_nl_ref | exact fd_nl_none | assumption | exact nI_ne0 (by omega) (by omega) | exact fd_nb0 | exact fd_nb1 | exact fd_nbb | omega) only [fs_197_0, fs_197_1, fs_197_2, fs_197_5, fs_197_8, fs_197_10, fs_197_11, fs_197_12, fs_197_13, fs_197_14_p77 hk, fs_197_17, fs_197_18_p77 hk, fs_197_21, fs_197_22_p106 hk, fs_197_23, fs_197_26, fs_197_27, fs_197_30, fs_197_31, Option.bind_some, Option.toList_some, Option.toList_none, List.cons_append, List.nil_append, fd_nb0, fd_nb1, fd_nbb, fd_b0, nI_add, pk_mul, ite_not, Classical.not_not, not_false_iff, not_true, and_self, or_true, true_or, ↓reduceIte, if_true, if_false, ite_self, fd_mI, fd_mH, fd_mL, fd_p0, fd_w0, fd_w1, fd_w2, fd_10, fd_00, fm_mIsShip hk, fm_mIn, fm_mIsHour, fm_mIsBook, fm_mIsCell, f3, f5, ht, fm_isGoal, fm_mIsPlan, c1']) rfl
theorem fc_begin (I : fd_Inv k h) (x y : Int32) : fd_Ag k h 101 [some (.ref (0)), some (.int (x)), some (.int (y))] 198 [some (.ref (77)), some (.int (x)), some (.int (y)), none] := by
  have I0 := I; obtain ⟨fb, bb, dr, ns, np, nb, t, hk, F, ht, TX, B0, B1, FE, BA, OF, PL⟩ := I0; have F0 := F; simp only [fd_Fl, Nat.reduceAdd] at F0; obtain ⟨⟨b1, b2, b3, b4⟩, ⟨f1, f2, f3, f4, f5, f6, f7⟩, ⟨g1, g2, g3, g4⟩, S, O, T⟩ := F0
  by_cases c1 : fd_wi x (nI 1) (nI 5) ∧ fd_wi y (-100) (nI 100)
  · obtain ⟨n, G, n1, n2, rfl, g1, g2, rfl⟩ := fd_goalT c1
    obtain ⟨w, ew, A⟩ := fd_planW PL
    obtain ⟨h', r1, r2, r3⟩ := fm_find (h := h) (n := n) (G := G) hk n2 g1 g2 (fun a ha => (ew a ha).2.2) A
    have c1' := eq_true c1
    have IV : fd_Inv k h' := ⟨fb, bb, dr, ns, np, nb, t, hk, fd_Fl_fr (by simp (disch := omega) only [r3, and_self]) F, (by simp (disch := omega) only [r3]; exact ht), fd_Itx_fr (by simp (disch := omega) only [r3, and_self]) TX, fd_Bk_fr hk.2.2.2.2.2.2.1 (by simp (disch := omega) only [r3, and_self]) B0, fd_Bk_fr hk.2.2.2.2.2.2.2.1 (by simp (disch := omega) only [r3, and_self]) B1, fd_Ife_fr (by simp (disch := omega) only [r3, and_self]) FE, fd_Iba_fr (by simp (disch := omega) only [r3, and_self]) BA, fd_Iof_fr (by simp (disch := omega) only [r3, and_self]) OF, fd_Ipl_fr (by simp (disch := omega) only [r3, and_self]) PL⟩
    by_cases d : G ≤ 0
    · have d1 : ¬ 0 < fd_z G := fun z => by
        rw [← fd_z0] at z
        have := (fd_zlt (by omega) (by omega) (by omega) (by omega)).mp z
        omega
      have d2 : fd_z G ≤ 0 := Int32.not_lt.mp d1
      have hc : ¬ nI 5 ≤ nI 0 := nI_ge (by omega) (by omega)
      refine ⟨-1, k, h, h', ?_, ?_, IV, rfl⟩
      · simp (disch := first | exact fd_nl_int | exact fd_nl_ref | exact fd_nl_none | assumption | exact nI_ne0 (by omega) (by omega) | exact fd_nb0 | exact fd_nb1 | exact fd_nbb | omega) only [fs_101_0, fs_101_1, fs_101_2, fs_101_5, fs_101_8, fs_101_10, fs_101_11, fs_101_12, fs_101_15, fs_101_16, fs_101_19, fs_101_20_p0 hk, fs_101_23, fs_101_24, fs_101_25_p75 hk, fs_101_28, Option.bind_some, Option.toList_some, Option.toList_none, List.cons_append, List.nil_append, fd_nb0, fd_nb1, fd_nbb, fd_b0, nI_add, pk_mul, ite_not, Classical.not_not, not_false_iff, not_true, and_self, or_true, true_or, ↓reduceIte, if_true, if_false, ite_self, fd_mI, fd_mH, fd_mL, fd_p0, fd_w0, fd_w1, fd_w2, fd_10, fd_00, fm_isGoal, c1', d1]
      · simp (disch := first | exact fd_nl_int | exact fd_nl_ref | exact fd_nl_none | assumption | exact nI_ne0 (by omega) (by omega) | exact fd_nb0 | exact fd_nb1 | exact fd_nbb | omega) only [fs_198_0, fs_198_1, fs_198_2, fs_198_5, fs_198_8, fs_198_10, fs_198_11, fs_198_12, fs_198_13, fs_198_14_p77 hk, fs_198_17, fs_198_18, fs_198_19, fs_198_20, fs_198_21, fs_198_24, fs_198_25, fs_198_28, fs_198_29, fs_198_30, fs_198_31_p77 hk, fs_198_34, fs_198_37, fs_198_38, fs_198_39, fs_198_42, fs_198_45, fs_198_46, Option.bind_some, Option.toList_some, Option.toList_none, List.cons_append, List.nil_append, fd_nb0, fd_nb1, fd_nbb, fd_b0, nI_add, pk_mul, ite_not, Classical.not_not, not_false_iff, not_true, and_self, or_true, true_or, ↓reduceIte, if_true, if_false, ite_self, fd_mI, fd_mH, fd_mL, fd_p0, fd_w0, fd_w1, fd_w2, fd_10, fd_00, fm_mIsPlan, c1', r1, hc, d2]
    · have d1 : 0 < fd_z G := by
        rw [← fd_z0]
        exact (fd_zlt (by omega) (by omega) (by omega) (by omega)).mpr (by omega)
      have d2 : ¬ fd_z G ≤ 0 := Int32.not_le.mpr d1
      have fa := fm_firstAsk (h := h) (G := G) hk n1 n2 g1 g2 ew
      have loop : ∀ (m a : Nat), a + m = 5 → fd_E 198 19 [some (.ref (77)), some (.int (nI (n))), some (.int (fd_z G)), some (.int (nI (a)))] [] k h' = some (some (.int (fd_first (fun a => G ≤ w a + fd_bb w (n - 1) (2 ^ a)) m a)), (k, h')) := by
        intro m
        induction m with
        | zero =>
          intro a e
          have hc : nI 5 ≤ nI a := nI_le (by omega) (by omega)
          rw [fs_198_19]
          simp (disch := first | exact fd_nl_int | exact fd_nl_ref | exact fd_nl_none | assumption | exact nI_ne0 (by omega) (by omega) | exact fd_nb0 | exact fd_nb1 | exact fd_nbb | omega) only [fs_198_0, fs_198_1, fs_198_2, fs_198_5, fs_198_8, fs_198_10, fs_198_11, fs_198_12, fs_198_13, fs_198_14_p77 hk, fs_198_17, fs_198_18, fs_198_20, fs_198_21, fs_198_24, fs_198_25, fs_198_28, fs_198_29, fs_198_30, fs_198_31_p77 hk, fs_198_34, fs_198_37, fs_198_38, fs_198_39, fs_198_42, fs_198_45, fs_198_46, Option.bind_some, Option.toList_some, Option.toList_none, List.cons_append, List.nil_append, fd_nb0, fd_nb1, fd_nbb, fd_b0, nI_add, pk_mul, ite_not, Classical.not_not, not_false_iff, not_true, and_self, or_true, true_or, ↓reduceIte, if_true, if_false, ite_self, fd_mI, fd_mH, fd_mL, fd_p0, fd_w0, fd_w1, fd_w2, fd_10, fd_00, hc]
          rfl
        | succ m ih =>
          intro a e
          have hc : ¬ nI 5 ≤ nI a := nI_ge (by omega) (by omega)
          obtain ⟨xx, yy, X1, X2, Y1, Y2, ex, ey, eww⟩ := A a (by omega)
          obtain ⟨u1, u2⟩ := fd_bs5 0 (by omega) a (by omega)
          obtain ⟨u3, u4⟩ := u2 (Nat.zero_testBit a)
          have ev := r2 (0 ||| 2 ^ a) (by omega) u1
          rw [u3, show fd_bs 0 12 = 0 by decide, Nat.zero_add, Nat.zero_or] at ev
          have b1 := fd_bb_bd (w := w) (fun a ha => (ew a ha).2.2) (n - 1) (2 ^ a)
          have b0 := fd_bb_0 (w := w) (k := n - 1) (S := 2 ^ a)
          obtain ⟨_, w2, w3⟩ := ew a (by omega)
          have nb := fm_needBy (h := h') (S := 0) hk (by omega) (show a < 5 by omega) (Nat.zero_testBit a) (by rw [Nat.zero_or]; exact ev) (by rw [r3 105 (by decide)]; exact ex) (by rw [r3 105 (by decide)]; exact ey) (by omega) (by omega) X1 X2 Y1 Y2
          rw [← eww] at nb
          have i1 := ih (a + 1) (by omega)
          rw [fs_198_19]
          by_cases c : G ≤ w a + fd_bb w (n - 1) (2 ^ a)
          · have E : fd_first (fun a => G ≤ w a + fd_bb w (n - 1) (2 ^ a)) (m + 1) a = nI a := if_pos c
            have c' : ¬ 0 < fd_z (G - fd_bb w (n - 1) (2 ^ a) - w a) := fun z => by
              rw [← fd_z0] at z
              have := (fd_zlt (by omega) (by omega) (by omega) (by omega)).mp z
              omega
            rw [E]
            simp (disch := first | exact fd_nl_int | exact fd_nl_ref | exact fd_nl_none | assumption | exact nI_ne0 (by omega) (by omega) | exact fd_nb0 | exact fd_nb1 | exact fd_nbb | omega) only [fs_198_0, fs_198_1, fs_198_2, fs_198_5, fs_198_8, fs_198_10, fs_198_11, fs_198_12, fs_198_13, fs_198_14_p77 hk, fs_198_17, fs_198_18, fs_198_20, fs_198_21, fs_198_24, fs_198_25, fs_198_28, fs_198_29, fs_198_30, fs_198_31_p77 hk, fs_198_34, fs_198_37, fs_198_38, fs_198_39, fs_198_42, fs_198_45, fs_198_46, Option.bind_some, Option.toList_some, Option.toList_none, List.cons_append, List.nil_append, fd_nb0, fd_nb1, fd_nbb, fd_b0, nI_add, pk_mul, ite_not, Classical.not_not, not_false_iff, not_true, and_self, or_true, true_or, ↓reduceIte, if_true, if_false, ite_self, fd_mI, fd_mH, fd_mL, fd_p0, fd_w0, fd_w1, fd_w2, fd_10, fd_00, hc, d2, nb, c']
          · have E : fd_first (fun a => G ≤ w a + fd_bb w (n - 1) (2 ^ a)) (m + 1) a = fd_first (fun a => G ≤ w a + fd_bb w (n - 1) (2 ^ a)) m (a + 1) := if_neg c
            have c' : 0 < fd_z (G - fd_bb w (n - 1) (2 ^ a) - w a) := by
              rw [← fd_z0]
              exact (fd_zlt (by omega) (by omega) (by omega) (by omega)).mpr (by omega)
            rw [E]
            simp (disch := first | exact fd_nl_int | exact fd_nl_ref | exact fd_nl_none | assumption | exact nI_ne0 (by omega) (by omega) | exact fd_nb0 | exact fd_nb1 | exact fd_nbb | omega) only [fs_198_0, fs_198_1, fs_198_2, fs_198_5, fs_198_8, fs_198_10, fs_198_11, fs_198_12, fs_198_13, fs_198_14_p77 hk, fs_198_17, fs_198_18, fs_198_20, fs_198_21, fs_198_24, fs_198_25, fs_198_28, fs_198_29, fs_198_30, fs_198_31_p77 hk, fs_198_34, fs_198_37, fs_198_38, fs_198_39, fs_198_42, fs_198_45, fs_198_46, Option.bind_some, Option.toList_some, Option.toList_none, List.cons_append, List.nil_append, fd_nb0, fd_nb1, fd_nbb, fd_b0, nI_add, pk_mul, ite_not, Classical.not_not, not_false_iff, not_true, and_self, or_true, true_or, ↓reduceIte, if_true, if_false, ite_self, fd_mI, fd_mH, fd_mL, fd_p0, fd_w0, fd_w1, fd_w2, fd_10, fd_00, hc, d2, nb, c', i1]
      have l0 := loop 5 0 (by omega)
      refine ⟨fd_first (fun a => G ≤ w a + fd_bb w (n - 1) (2 ^ a)) 5 0, k, h, h', ?_, ?_, IV, rfl⟩
      · simp (disch := first | exact fd_nl_int | exact fd_nl_ref | exact fd_nl_none | assumption | exact nI_ne0 (by omega) (by omega) | exact fd_nb0 | exact fd_nb1 | exact fd_nbb | omega) only [fs_101_0, fs_101_1, fs_101_2, fs_101_5, fs_101_8, fs_101_10, fs_101_11, fs_101_12, fs_101_15, fs_101_16, fs_101_19, fs_101_20_p0 hk, fs_101_23, fs_101_24, fs_101_25_p75 hk, fs_101_28, Option.bind_some, Option.toList_some, Option.toList_none, List.cons_append, List.nil_append, fd_nb0, fd_nb1, fd_nbb, fd_b0, nI_add, pk_mul, ite_not, Classical.not_not, not_false_iff, not_true, and_self, or_true, true_or, ↓reduceIte, if_true, if_false, ite_self, fd_mI, fd_mH, fd_mL, fd_p0, fd_w0, fd_w1, fd_w2, fd_10, fd_00, fm_isGoal, c1', d1, fa]
      · simp (disch := first | exact fd_nl_int | exact fd_nl_ref | exact fd_nl_none | assumption | exact nI_ne0 (by omega) (by omega) | exact fd_nb0 | exact fd_nb1 | exact fd_nbb | omega) only [fs_198_0, fs_198_1, fs_198_2, fs_198_5, fs_198_8, fs_198_10, fs_198_11, fs_198_12, fs_198_13, fs_198_14_p77 hk, fs_198_17, fs_198_18, fs_198_20, fs_198_21, fs_198_24, fs_198_25, fs_198_28, fs_198_29, fs_198_30, fs_198_31_p77 hk, fs_198_34, fs_198_37, fs_198_38, fs_198_39, fs_198_42, fs_198_45, fs_198_46, Option.bind_some, Option.toList_some, Option.toList_none, List.cons_append, List.nil_append, fd_nb0, fd_nb1, fd_nbb, fd_b0, nI_add, pk_mul, ite_not, Classical.not_not, not_false_iff, not_true, and_self, or_true, true_or, ↓reduceIte, if_true, if_false, ite_self, fd_mI, fd_mH, fd_mL, fd_p0, fd_w0, fd_w1, fd_w2, fd_10, fd_00, fm_mIsPlan, c1', r1, l0]
  · have c1' := eq_false c1
    exact fd_ag_ro I (v := -3) (w := -3) (by simp (disch := first | exact fd_nl_int | exact fd_nl_ref | exact fd_nl_none | assumption | exact nI_ne0 (by omega) (by omega) | exact fd_nb0 | exact fd_nb1 | exact fd_nbb | omega) only [fs_101_0, fs_101_1, fs_101_2, fs_101_5, fs_101_8, fs_101_10, fs_101_11, fs_101_12, fs_101_15, fs_101_16, fs_101_19, fs_101_20_p0 hk, fs_101_23, fs_101_24, fs_101_25_p75 hk, fs_101_28, Option.bind_some, Option.toList_some, Option.toList_none, List.cons_append, List.nil_append, fd_nb0, fd_nb1, fd_nbb, fd_b0, nI_add, pk_mul, ite_not, Classical.not_not, not_false_iff, not_true, and_self, or_true, true_or, ↓reduceIte, if_true, if_false, ite_self, fd_mI, fd_mH, fd_mL, fd_p0, fd_w0, fd_w1, fd_w2, fd_10, fd_00, fm_isShip hk, fm_isHour, fm_isBook, fm_within, fm_isCell, fm_canPass hk, f1, f2, f4, fm_isGoal, fm_mIsPlan, c1']) (by simp (disch := first | exact fd_nl_int | exact fd_nl_ref | exact fd_nl_none | assumption | exact nI_ne0 (by omega) (by omega) | exact fd_nb0 | exact fd_nb1 | exact fd_nbb | omega) only [fs_198_0, fs_198_1, fs_198_2, fs_198_5, fs_198_8, fs_198_10, fs_198_11, fs_198_12, fs_198_13, fs_198_14_p77 hk, fs_198_17, fs_198_18, fs_198_20, fs_198_21, fs_198_24, fs_198_25, fs_198_28, fs_198_29, fs_198_30, fs_198_31_p77 hk, fs_198_34, fs_198_37, fs_198_38, fs_198_39, fs_198_42, fs_198_45, fs_198_46, Option.bind_some, Option.toList_some, Option.toList_none, List.cons_append, List.nil_append, fd_nb0, fd_nb1, fd_nbb, fd_b0, nI_add, pk_mul, ite_not, Classical.not_not, not_false_iff, not_true, and_self, or_true, true_or, ↓reduceIte, if_true, if_false, ite_self, fd_mI, fd_mH, fd_mL, fd_p0, fd_w0, fd_w1, fd_w2, fd_10, fd_00, fm_mIsShip hk, fm_mIn, fm_mIsHour, fm_mIsBook, fm_mIsCell, f3, f5, ht, fm_isGoal, fm_mIsPlan, c1']) rfl
end PLAN
