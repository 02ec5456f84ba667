/-! ARTICLES: the books of FleetDelegates, those of the reference -/
/-- the article of number a: 1 its kind, 2 its ship, 3 its number, 4 from, 5 to -/
abbrev fd_A : Type := Nat → Nat → Int32
abbrev fd_isF (A : fd_A) (a : Nat) (kd s hr : Int32) : Prop := A 1 a = kd ∧ (A 2 a = -1 ∨ A 2 a = s) ∧ ¬ hr < A 4 a ∧ ¬ A 5 a < hr
def fd_bkA (h : fd_Hp) (b : Nat) : fd_A := fun j a => h.1 (b + j) a
def fd_mdA (h : fd_Hp) (B : Nat) : fd_A := fun j a => h.1 94 (50 * B + 5 * a + (j - 1))
section BOOK
variable {k : fd_Sk} {h : fd_Hp} {fb bb dr b : Nat} {A : fd_A}
theorem fm_isFor (hk : fd_Sok k fb bb dr) (hb : fd_isB b) {a : Nat} (ha : a < 10) (kd s hr : Int32) : fd_E 12 0 [some (.ref (b)), some (.int (nI (a))), some (.int (kd)), some (.int (s)), some (.int (hr))] [] k h = some (some (.int (fd_b (fd_isF (fd_bkA h b) a kd s hr))), (k, h)) := by
  simp (disch := first | exact fd_nl_int | exact fd_nl_ref | exact fd_nl_none | assumption | exact nI_ne0 (by omega) (by omega) | exact fd_nb0 | exact fd_nb1 | exact fd_nbb | omega) only [fs_12_0, fs_12_1 hk, fs_12_4, fs_12_5 hk, fs_12_6, fs_12_7, fs_12_10, fs_12_11 hk, fs_12_14, fs_12_15 hk, fs_12_16, fs_12_17, fs_12_20, fs_12_21 hk, fs_12_24, fs_12_25 hk, fs_12_26, fs_12_27, fs_12_30, fs_12_32, fs_12_33 hk, fs_12_36, fs_12_37 hk, fs_12_38, fs_12_41, fs_12_43, fs_12_44 hk, fs_12_47, fs_12_48 hk, fs_12_49, fs_12_52, fs_12_53, fs_12_56, fs_12_57, Option.bind_some, Option.toList_some, Option.toList_none, List.cons_append, List.nil_append, fd_nb0, fd_nb1, fd_nbb, fd_b0, nI_add, pk_mul, ite_not, Classical.not_not, not_false_iff, not_true, and_self, or_true, true_or, ↓reduceIte, if_true, if_false, ite_self, fd_mI, fd_mH, fd_mL, fd_p0, fd_w0, fd_w1, fd_w2, fd_10, fd_00]
  unfold fd_bkA
  by_cases h1 : h.1 (b + 1) a = kd <;> by_cases h2 : h.1 (b + 2) a = -1 <;> by_cases h3 : h.1 (b + 2) a = s <;> by_cases h4 : hr < h.1 (b + 4) a <;> by_cases h5 : h.1 (b + 5) a < hr <;> simp [*, fd_b, fd_isF]
def fd_owedF (A : fd_A) (s hr : Int32) (a : Nat) (x : Int32) : Int32 := if fd_isF A a (nI 0) s hr then x + A 3 a else x
def fd_vocF (A : fd_A) (s hr : Int32) (a : Nat) (x : Int32) : Int32 := if fd_isF A a (nI 1) s hr then A 3 a else x
def fd_carF (A : fd_A) (hr : Int32) (a : Nat) (x : Int32) : Int32 := if fd_isF A a (nI 2) (-1) hr then A 3 a else x
def fd_lbF (A : fd_A) (s hr : Int32) (a : Nat) (x : Int32) : Int32 := if fd_isF A a (nI 3) s hr then (if A 3 a = -1 then x else if x = -1 then A 3 a else if x ≤ A 3 a then x else A 3 a) else x
def fd_chF (A : fd_A) (hr : Int32) (a : Nat) (x : Int32) : Int32 :=
  let y := if A 4 a ≤ hr then x else if A 4 a < x then A 4 a else x
  if A 5 a < hr then y else if A 5 a + nI 1 < y then A 5 a + nI 1 else y
/-- does article a pardon him who did these doings -/
abbrev fd_pdP (A : fd_A) (s d hr : Int32) (a : Nat) : Prop := fd_isF A a (nI 3) s hr ∧ (A 3 a = -1 ∨ ¬ fd_has d (A 3 a))
def fd_ex (P : Nat → Prop) : Nat → Nat → Prop
  | 0, _ => False
  | m + 1, i => P i ∨ fd_ex P m (i + 1)
theorem fd_ex_iff {P : Nat → Prop} {m i : Nat} : fd_ex P m i ↔ ∃ a, i ≤ a ∧ a < i + m ∧ P a := by
  induction m generalizing i with
  | zero => exact ⟨fun z => z.elim, fun ⟨a, h1, h2, _⟩ => by omega⟩
  | succ m ih =>
    unfold fd_ex
    rw [ih]
    constructor
    · rintro (z | ⟨a, h1, h2, h3⟩)
      · exact ⟨i, by omega, by omega, z⟩
      · exact ⟨a, by omega, by omega, h3⟩
    · rintro ⟨a, h1, h2, h3⟩
      rcases Nat.lt_or_ge i a with z | z
      · exact Or.inr ⟨a, by omega, by omega, h3⟩
      · have : a = i := by omega
        exact Or.inl (this ▸ h3)
theorem fm_owedEach (hk : fd_Sok k fb bb dr) (hb : fd_isB b) {n : Nat} (hn : h.1 b 0 = nI n) (h10 : n ≤ 10) (s hr : Int32) : fd_E 13 0 [some (.ref (b)), some (.int (s)), some (.int (hr)), none, none] [] k h = some (some (.int (fd_fold (fd_owedF (fd_bkA h b) s hr) n 0 (nI 0))), (k, h)) := by
  have loop : ∀ (m a : Nat) (x : Int32), a + m = n → fd_E 13 5 [some (.ref (b)), some (.int (s)), some (.int (hr)), some (.int (x)), some (.int (nI (a)))] [] k h = some (some (.int (fd_fold (fd_owedF (fd_bkA h b) s hr) m a x)), (k, h)) := by
    intro m
    induction m with
    | zero =>
      intro a x e
      have hc : nI (n) ≤ nI a := nI_le (by omega) (by omega)
      rw [fs_13_5]
      simp (disch := first | exact fd_nl_int | exact fd_nl_ref | exact fd_nl_none | assumption | exact nI_ne0 (by omega) (by omega) | exact fd_nb0 | exact fd_nb1 | exact fd_nbb | omega) only [fs_13_0, fs_13_1, fs_13_2, fs_13_3, fs_13_7, fs_13_8 hk, fs_13_11, fs_13_14, fs_13_15, fs_13_17, fs_13_18, fs_13_19, fs_13_20 hk, fs_13_23, fs_13_26, fs_13_27, fs_13_28 hk, fs_13_31, fs_13_33 hk, fs_13_34, fs_13_35, fs_13_36, fs_13_39, fs_13_42, fs_13_43, Option.bind_some, Option.toList_some, Option.toList_none, List.cons_append, List.nil_append, fd_nb0, fd_nb1, fd_nbb, fd_b0, nI_add, pk_mul, ite_not, Classical.not_not, not_false_iff, not_true, and_self, or_true, true_or, ↓reduceIte, if_true, if_false, ite_self, fd_mI, fd_mH, fd_mL, fd_p0, fd_w0, fd_w1, fd_w2, fd_10, fd_00, hc, hn]
      try rfl
    | succ m ih =>
      intro a x e
      have hc : ¬ nI (n) ≤ nI a := nI_ge (by omega) (by omega)
      rw [fs_13_5]
      simp (disch := first | exact fd_nl_int | exact fd_nl_ref | exact fd_nl_none | assumption | exact nI_ne0 (by omega) (by omega) | exact fd_nb0 | exact fd_nb1 | exact fd_nbb | omega) only [fs_13_0, fs_13_1, fs_13_2, fs_13_3, fs_13_7, fs_13_8 hk, fs_13_11, fs_13_14, fs_13_15, fs_13_17, fs_13_18, fs_13_19, fs_13_20 hk, fs_13_23, fs_13_26, fs_13_27, fs_13_28 hk, fs_13_31, fs_13_33 hk, fs_13_34, fs_13_35, fs_13_36, fs_13_39, fs_13_42, fs_13_43, Option.bind_some, Option.toList_some, Option.toList_none, List.cons_append, List.nil_append, fd_nb0, fd_nb1, fd_nbb, fd_b0, nI_add, pk_mul, ite_not, Classical.not_not, not_false_iff, not_true, and_self, or_true, true_or, ↓reduceIte, if_true, if_false, ite_self, fd_mI, fd_mH, fd_mL, fd_p0, fd_w0, fd_w1, fd_w2, fd_10, fd_00, hc, fd_foldS, hn, fm_isFor hk hb, ih (a + 1) _ (by omega)]
      try rfl
  simp (disch := first | exact fd_nl_int | exact fd_nl_ref | exact fd_nl_none | assumption | exact nI_ne0 (by omega) (by omega) | exact fd_nb0 | exact fd_nb1 | exact fd_nbb | omega) only [fs_13_0, fs_13_1, fs_13_2, fs_13_3, fs_13_7, fs_13_8 hk, fs_13_11, fs_13_14, fs_13_15, fs_13_17, fs_13_18, fs_13_19, fs_13_20 hk, fs_13_23, fs_13_26, fs_13_27, fs_13_28 hk, fs_13_31, fs_13_33 hk, fs_13_34, fs_13_35, fs_13_36, fs_13_39, fs_13_42, fs_13_43, Option.bind_some, Option.toList_some, Option.toList_none, List.cons_append, List.nil_append, fd_nb0, fd_nb1, fd_nbb, fd_b0, nI_add, pk_mul, ite_not, Classical.not_not, not_false_iff, not_true, and_self, or_true, true_or, ↓reduceIte, if_true, if_false, ite_self, fd_mI, fd_mH, fd_mL, fd_p0, fd_w0, fd_w1, fd_w2, fd_10, fd_00, loop n 0 (nI 0) (by omega)]
theorem fm_voicesOf (hk : fd_Sok k fb bb dr) (hb : fd_isB b) {n : Nat} (hn : h.1 b 0 = nI n) (h10 : n ≤ 10) (s hr : Int32) : fd_E 14 0 [some (.ref (b)), some (.int (s)), some (.int (hr)), none, none] [] k h = some (some (.int (fd_fold (fd_vocF (fd_bkA h b) s hr) n 0 (nI 1))), (k, h)) := by
  have loop : ∀ (m a : Nat) (x : Int32), a + m = n → fd_E 14 5 [some (.ref (b)), some (.int (s)), some (.int (hr)), some (.int (x)), some (.int (nI (a)))] [] k h = some (some (.int (fd_fold (fd_vocF (fd_bkA h b) s hr) m a x)), (k, h)) := by
    intro m
    induction m with
    | zero =>
      intro a x e
      have hc : nI (n) ≤ nI a := nI_le (by omega) (by omega)
      rw [fs_14_5]
      simp (disch := first | exact fd_nl_int | exact fd_nl_ref | exact fd_nl_none | assumption | exact nI_ne0 (by omega) (by omega) | exact fd_nb0 | exact fd_nb1 | exact fd_nbb | omega) only [fs_14_0, fs_14_1, fs_14_2, fs_14_3, fs_14_7, fs_14_8 hk, fs_14_11, fs_14_14, fs_14_15, fs_14_17, fs_14_18, fs_14_19, fs_14_20 hk, fs_14_23, fs_14_26, fs_14_27 hk, fs_14_30, fs_14_32 hk, fs_14_33, fs_14_34, fs_14_37, fs_14_40, fs_14_41, Option.bind_some, Option.toList_some, Option.toList_none, List.cons_append, List.nil_append, fd_nb0, fd_nb1, fd_nbb, fd_b0, nI_add, pk_mul, ite_not, Classical.not_not, not_false_iff, not_true, and_self, or_true, true_or, ↓reduceIte, if_true, if_false, ite_self, fd_mI, fd_mH, fd_mL, fd_p0, fd_w0, fd_w1, fd_w2, fd_10, fd_00, hc, hn]
      try rfl
    | succ m ih =>
      intro a x e
      have hc : ¬ nI (n) ≤ nI a := nI_ge (by omega) (by omega)
      rw [fs_14_5]
      simp (disch := first | exact fd_nl_int | exact fd_nl_ref | exact fd_nl_none | assumption | exact nI_ne0 (by omega) (by omega) | exact fd_nb0 | exact fd_nb1 | exact fd_nbb | omega) only [fs_14_0, fs_14_1, fs_14_2, fs_14_3, fs_14_7, fs_14_8 hk, fs_14_11, fs_14_14, fs_14_15, fs_14_17, fs_14_18, fs_14_19, fs_14_20 hk, fs_14_23, fs_14_26, fs_14_27 hk, fs_14_30, fs_14_32 hk, fs_14_33, fs_14_34, fs_14_37, fs_14_40, fs_14_41, Option.bind_some, Option.toList_some, Option.toList_none, List.cons_append, List.nil_append, fd_nb0, fd_nb1, fd_nbb, fd_b0, nI_add, pk_mul, ite_not, Classical.not_not, not_false_iff, not_true, and_self, or_true, true_or, ↓reduceIte, if_true, if_false, ite_self, fd_mI, fd_mH, fd_mL, fd_p0, fd_w0, fd_w1, fd_w2, fd_10, fd_00, hc, fd_foldS, hn, fm_isFor hk hb, ih (a + 1) _ (by omega)]
      try rfl
  simp (disch := first | exact fd_nl_int | exact fd_nl_ref | exact fd_nl_none | assumption | exact nI_ne0 (by omega) (by omega) | exact fd_nb0 | exact fd_nb1 | exact fd_nbb | omega) only [fs_14_0, fs_14_1, fs_14_2, fs_14_3, fs_14_7, fs_14_8 hk, fs_14_11, fs_14_14, fs_14_15, fs_14_17, fs_14_18, fs_14_19, fs_14_20 hk, fs_14_23, fs_14_26, fs_14_27 hk, fs_14_30, fs_14_32 hk, fs_14_33, fs_14_34, fs_14_37, fs_14_40, fs_14_41, Option.bind_some, Option.toList_some, Option.toList_none, List.cons_append, List.nil_append, fd_nb0, fd_nb1, fd_nbb, fd_b0, nI_add, pk_mul, ite_not, Classical.not_not, not_false_iff, not_true, and_self, or_true, true_or, ↓reduceIte, if_true, if_false, ite_self, fd_mI, fd_mH, fd_mL, fd_p0, fd_w0, fd_w1, fd_w2, fd_10, fd_00, loop n 0 (nI 1) (by omega)]
theorem fm_carry (hk : fd_Sok k fb bb dr) (hb : fd_isB b) {n : Nat} (hn : h.1 b 0 = nI n) (h10 : n ≤ 10) (hr : Int32) : fd_E 15 0 [some (.ref (b)), some (.int (hr)), none, none] [] k h = some (some (.int (fd_fold (fd_carF (fd_bkA h b) hr) n 0 (-1))), (k, h)) := by
  have loop : ∀ (m a : Nat) (x : Int32), a + m = n → fd_E 15 4 [some (.ref (b)), some (.int (hr)), some (.int (x)), some (.int (nI (a)))] [] k h = some (some (.int (fd_fold (fd_carF (fd_bkA h b) hr) m a x)), (k, h)) := by
    intro m
    induction m with
    | zero =>
      intro a x e
      have hc : nI (n) ≤ nI a := nI_le (by omega) (by omega)
      rw [fs_15_4]
      simp (disch := first | exact fd_nl_int | exact fd_nl_ref | exact fd_nl_none | assumption | exact nI_ne0 (by omega) (by omega) | exact fd_nb0 | exact fd_nb1 | exact fd_nbb | omega) only [fs_15_0, fs_15_1, fs_15_2, fs_15_3, fs_15_5, fs_15_6 hk, fs_15_9, fs_15_12, fs_15_13, fs_15_14, fs_15_15, fs_15_16, fs_15_17 hk, fs_15_20, fs_15_23, fs_15_24 hk, fs_15_27, fs_15_28 hk, fs_15_29, fs_15_30, fs_15_33, fs_15_36, fs_15_37, Option.bind_some, Option.toList_some, Option.toList_none, List.cons_append, List.nil_append, fd_nb0, fd_nb1, fd_nbb, fd_b0, nI_add, pk_mul, ite_not, Classical.not_not, not_false_iff, not_true, and_self, or_true, true_or, ↓reduceIte, if_true, if_false, ite_self, fd_mI, fd_mH, fd_mL, fd_p0, fd_w0, fd_w1, fd_w2, fd_10, fd_00, hc, hn]
      try rfl
    | succ m ih =>
      intro a x e
      have hc : ¬ nI (n) ≤ nI a := nI_ge (by omega) (by omega)
      rw [fs_15_4]
      simp (disch := first | exact fd_nl_int | exact fd_nl_ref | exact fd_nl_none | assumption | exact nI_ne0 (by omega) (by omega) | exact fd_nb0 | exact fd_nb1 | exact fd_nbb | omega) only [fs_15_0, fs_15_1, fs_15_2, fs_15_3, fs_15_5, fs_15_6 hk, fs_15_9, fs_15_12, fs_15_13, fs_15_14, fs_15_15, fs_15_16, fs_15_17 hk, fs_15_20, fs_15_23, fs_15_24 hk, fs_15_27, fs_15_28 hk, fs_15_29, fs_15_30, fs_15_33, fs_15_36, fs_15_37, Option.bind_some, Option.toList_some, Option.toList_none, List.cons_append, List.nil_append, fd_nb0, fd_nb1, fd_nbb, fd_b0, nI_add, pk_mul, ite_not, Classical.not_not, not_false_iff, not_true, and_self, or_true, true_or, ↓reduceIte, if_true, if_false, ite_self, fd_mI, fd_mH, fd_mL, fd_p0, fd_w0, fd_w1, fd_w2, fd_10, fd_00, hc, fd_foldS, hn, fm_isFor hk hb, ih (a + 1) _ (by omega)]
      try rfl
  simp (disch := first | exact fd_nl_int | exact fd_nl_ref | exact fd_nl_none | assumption | exact nI_ne0 (by omega) (by omega) | exact fd_nb0 | exact fd_nb1 | exact fd_nbb | omega) only [fs_15_0, fs_15_1, fs_15_2, fs_15_3, fs_15_5, fs_15_6 hk, fs_15_9, fs_15_12, fs_15_13, fs_15_14, fs_15_15, fs_15_16, fs_15_17 hk, fs_15_20, fs_15_23, fs_15_24 hk, fs_15_27, fs_15_28 hk, fs_15_29, fs_15_30, fs_15_33, fs_15_36, fs_15_37, Option.bind_some, Option.toList_some, Option.toList_none, List.cons_append, List.nil_append, fd_nb0, fd_nb1, fd_nbb, fd_b0, nI_add, pk_mul, ite_not, Classical.not_not, not_false_iff, not_true, and_self, or_true, true_or, ↓reduceIte, if_true, if_false, ite_self, fd_mI, fd_mH, fd_mL, fd_p0, fd_w0, fd_w1, fd_w2, fd_10, fd_00, loop n 0 (-1) (by omega)]
theorem fm_leastBut (hk : fd_Sok k fb bb dr) (hb : fd_isB b) {n : Nat} (hn : h.1 b 0 = nI n) (h10 : n ≤ 10) (s hr : Int32) : fd_E 17 0 [some (.ref (b)), some (.int (s)), some (.int (hr)), none, none] [] k h = some (some (.int (fd_fold (fd_lbF (fd_bkA h b) s hr) n 0 (-1))), (k, h)) := by
  have loop : ∀ (m a : Nat) (x : Int32), a + m = n → fd_E 17 5 [some (.ref (b)), some (.int (s)), some (.int (hr)), some (.int (x)), some (.int (nI (a)))] [] k h = some (some (.int (fd_fold (fd_lbF (fd_bkA h b) s hr) m a x)), (k, h)) := by
    intro m
    induction m with
    | zero =>
      intro a x e
      have hc : nI (n) ≤ nI a := nI_le (by omega) (by omega)
      rw [fs_17_5]
      simp (disch := first | exact fd_nl_int | exact fd_nl_ref | exact fd_nl_none | assumption | exact nI_ne0 (by omega) (by omega) | exact fd_nb0 | exact fd_nb1 | exact fd_nbb | omega) only [fs_17_0, fs_17_1, fs_17_2, fs_17_3, fs_17_7, fs_17_8 hk, fs_17_11, fs_17_14, fs_17_15, fs_17_17, fs_17_18, fs_17_19, fs_17_20 hk, fs_17_23, fs_17_26, fs_17_27 hk, fs_17_30, fs_17_32 hk, fs_17_33, fs_17_34, fs_17_37, fs_17_38, fs_17_39, fs_17_42, fs_17_43 hk, fs_17_46, fs_17_48 hk, fs_17_49, fs_17_50, fs_17_53, fs_17_54 hk, fs_17_57, fs_17_59 hk, fs_17_60, fs_17_61, fs_17_64, fs_17_67, fs_17_68, Option.bind_some, Option.toList_some, Option.toList_none, List.cons_append, List.nil_append, fd_nb0, fd_nb1, fd_nbb, fd_b0, nI_add, pk_mul, ite_not, Classical.not_not, not_false_iff, not_true, and_self, or_true, true_or, ↓reduceIte, if_true, if_false, ite_self, fd_mI, fd_mH, fd_mL, fd_p0, fd_w0, fd_w1, fd_w2, fd_10, fd_00, hc, hn]
      try rfl
    | succ m ih =>
      intro a x e
      have hc : ¬ nI (n) ≤ nI a := nI_ge (by omega) (by omega)
      rw [fs_17_5]
      simp (disch := first | exact fd_nl_int | exact fd_nl_ref | exact fd_nl_none | assumption | exact nI_ne0 (by omega) (by omega) | exact fd_nb0 | exact fd_nb1 | exact fd_nbb | omega) only [fs_17_0, fs_17_1, fs_17_2, fs_17_3, fs_17_7, fs_17_8 hk, fs_17_11, fs_17_14, fs_17_15, fs_17_17, fs_17_18, fs_17_19, fs_17_20 hk, fs_17_23, fs_17_26, fs_17_27 hk, fs_17_30, fs_17_32 hk, fs_17_33, fs_17_34, fs_17_37, fs_17_38, fs_17_39, fs_17_42, fs_17_43 hk, fs_17_46, fs_17_48 hk, fs_17_49, fs_17_50, fs_17_53, fs_17_54 hk, fs_17_57, fs_17_59 hk, fs_17_60, fs_17_61, fs_17_64, fs_17_67, fs_17_68, Option.bind_some, Option.toList_some, Option.toList_none, List.cons_append, List.nil_append, fd_nb0, fd_nb1, fd_nbb, fd_b0, nI_add, pk_mul, ite_not, Classical.not_not, not_false_iff, not_true, and_self, or_true, true_or, ↓reduceIte, if_true, if_false, ite_self, fd_mI, fd_mH, fd_mL, fd_p0, fd_w0, fd_w1, fd_w2, fd_10, fd_00, hc, fd_foldS, hn, fm_isFor hk hb, ih (a + 1) _ (by omega)]
      try rfl
  simp (disch := first | exact fd_nl_int | exact fd_nl_ref | exact fd_nl_none | assumption | exact nI_ne0 (by omega) (by omega) | exact fd_nb0 | exact fd_nb1 | exact fd_nbb | omega) only [fs_17_0, fs_17_1, fs_17_2, fs_17_3, fs_17_7, fs_17_8 hk, fs_17_11, fs_17_14, fs_17_15, fs_17_17, fs_17_18, fs_17_19, fs_17_20 hk, fs_17_23, fs_17_26, fs_17_27 hk, fs_17_30, fs_17_32 hk, fs_17_33, fs_17_34, fs_17_37, fs_17_38, fs_17_39, fs_17_42, fs_17_43 hk, fs_17_46, fs_17_48 hk, fs_17_49, fs_17_50, fs_17_53, fs_17_54 hk, fs_17_57, fs_17_59 hk, fs_17_60, fs_17_61, fs_17_64, fs_17_67, fs_17_68, Option.bind_some, Option.toList_some, Option.toList_none, List.cons_append, List.nil_append, fd_nb0, fd_nb1, fd_nbb, fd_b0, nI_add, pk_mul, ite_not, Classical.not_not, not_false_iff, not_true, and_self, or_true, true_or, ↓reduceIte, if_true, if_false, ite_self, fd_mI, fd_mH, fd_mL, fd_p0, fd_w0, fd_w1, fd_w2, fd_10, fd_00, loop n 0 (-1) (by omega)]
theorem fm_changeAfter (hk : fd_Sok k fb bb dr) (hb : fd_isB b) {n : Nat} (hn : h.1 b 0 = nI n) (h10 : n ≤ 10) (hr : Int32) : fd_E 18 0 [some (.ref (b)), some (.int (hr)), none, none] [] k h = some (some (.int (fd_fold (fd_chF (fd_bkA h b) hr) n 0 (nI 3001))), (k, h)) := by
  have loop : ∀ (m a : Nat) (x : Int32), a + m = n → fd_E 18 6 [some (.ref (b)), some (.int (hr)), some (.int (x)), some (.int (nI (a)))] [] k h = some (some (.int (fd_fold (fd_chF (fd_bkA h b) hr) m a x)), (k, h)) := by
    intro m
    induction m with
    | zero =>
      intro a x e
      have hc : nI (n) ≤ nI a := nI_le (by omega) (by omega)
      rw [fs_18_6]
      simp (disch := first | exact fd_nl_int | exact fd_nl_ref | exact fd_nl_none | assumption | exact nI_ne0 (by omega) (by omega) | exact fd_nb0 | exact fd_nb1 | exact fd_nbb | omega) only [fs_18_0, fs_18_3, fs_18_4, fs_18_5, fs_18_7, fs_18_8 hk, fs_18_11, fs_18_14, fs_18_15 hk, fs_18_18, fs_18_19 hk, fs_18_20, fs_18_21, fs_18_24, fs_18_25, fs_18_26 hk, fs_18_29, fs_18_30 hk, fs_18_31, fs_18_34, fs_18_35, fs_18_36 hk, fs_18_39, fs_18_40 hk, fs_18_41, fs_18_42, fs_18_45, fs_18_46, fs_18_47 hk, fs_18_50, fs_18_51 hk, fs_18_52, fs_18_53, fs_18_54, fs_18_57, fs_18_58, fs_18_61, fs_18_64, fs_18_65, Option.bind_some, Option.toList_some, Option.toList_none, List.cons_append, List.nil_append, fd_nb0, fd_nb1, fd_nbb, fd_b0, nI_add, pk_mul, ite_not, Classical.not_not, not_false_iff, not_true, and_self, or_true, true_or, ↓reduceIte, if_true, if_false, ite_self, fd_mI, fd_mH, fd_mL, fd_p0, fd_w0, fd_w1, fd_w2, fd_10, fd_00, hc, hn]
      try rfl
    | succ m ih =>
      intro a x e
      have hc : ¬ nI (n) ≤ nI a := nI_ge (by omega) (by omega)
      rw [fs_18_6]
      simp (disch := first | exact fd_nl_int | exact fd_nl_ref | exact fd_nl_none | assumption | exact nI_ne0 (by omega) (by omega) | exact fd_nb0 | exact fd_nb1 | exact fd_nbb | omega) only [fs_18_0, fs_18_3, fs_18_4, fs_18_5, fs_18_7, fs_18_8 hk, fs_18_11, fs_18_14, fs_18_15 hk, fs_18_18, fs_18_19 hk, fs_18_20, fs_18_21, fs_18_24, fs_18_25, fs_18_26 hk, fs_18_29, fs_18_30 hk, fs_18_31, fs_18_34, fs_18_35, fs_18_36 hk, fs_18_39, fs_18_40 hk, fs_18_41, fs_18_42, fs_18_45, fs_18_46, fs_18_47 hk, fs_18_50, fs_18_51 hk, fs_18_52, fs_18_53, fs_18_54, fs_18_57, fs_18_58, fs_18_61, fs_18_64, fs_18_65, Option.bind_some, Option.toList_some, Option.toList_none, List.cons_append, List.nil_append, fd_nb0, fd_nb1, fd_nbb, fd_b0, nI_add, pk_mul, ite_not, Classical.not_not, not_false_iff, not_true, and_self, or_true, true_or, ↓reduceIte, if_true, if_false, ite_self, fd_mI, fd_mH, fd_mL, fd_p0, fd_w0, fd_w1, fd_w2, fd_10, fd_00, hc, fd_foldS, hn, ih (a + 1) _ (by omega)]
      refine congrArg (fun z => some (some (Value.int (fd_fold (fd_chF (fd_bkA h b) hr) m (a + 1) z)), (k, h))) ?_; unfold fd_chF fd_bkA; dsimp only; by_cases c1 : h.1 (b + 4) a ≤ hr <;> by_cases c2 : h.1 (b + 5) a < hr <;> simp only [c1, c2, if_true, if_false]
  simp (disch := first | exact fd_nl_int | exact fd_nl_ref | exact fd_nl_none | assumption | exact nI_ne0 (by omega) (by omega) | exact fd_nb0 | exact fd_nb1 | exact fd_nbb | omega) only [fs_18_0, fs_18_3, fs_18_4, fs_18_5, fs_18_7, fs_18_8 hk, fs_18_11, fs_18_14, fs_18_15 hk, fs_18_18, fs_18_19 hk, fs_18_20, fs_18_21, fs_18_24, fs_18_25, fs_18_26 hk, fs_18_29, fs_18_30 hk, fs_18_31, fs_18_34, fs_18_35, fs_18_36 hk, fs_18_39, fs_18_40 hk, fs_18_41, fs_18_42, fs_18_45, fs_18_46, fs_18_47 hk, fs_18_50, fs_18_51 hk, fs_18_52, fs_18_53, fs_18_54, fs_18_57, fs_18_58, fs_18_61, fs_18_64, fs_18_65, Option.bind_some, Option.toList_some, Option.toList_none, List.cons_append, List.nil_append, fd_nb0, fd_nb1, fd_nbb, fd_b0, nI_add, pk_mul, ite_not, Classical.not_not, not_false_iff, not_true, and_self, or_true, true_or, ↓reduceIte, if_true, if_false, ite_self, fd_mI, fd_mH, fd_mL, fd_p0, fd_w0, fd_w1, fd_w2, fd_10, fd_00, loop n 0 (nI 3001) (by omega)]
theorem fm_pardons (hk : fd_Sok k fb bb dr) (hb : fd_isB b) {n : Nat} (hn : h.1 b 0 = nI n) (h10 : n ≤ 10) (s d hr : Int32) : ∃ x, fd_E 16 0 [some (.ref (b)), some (.int (s)), some (.int (d)), some (.int (hr)), none] [] k h = some (some (.int (x)), (k, h)) ∧ (x = nI 1 ∨ x = nI 0) ∧ (x = nI 1 ↔ fd_ex (fd_pdP (fd_bkA h b) s d hr) n 0) := by
  have loop : ∀ (m a : Nat), a + m = n → ∃ x, fd_E 16 3 [some (.ref (b)), some (.int (s)), some (.int (d)), some (.int (hr)), some (.int (nI (a)))] [] k h = some (some (.int (x)), (k, h)) ∧ (x = nI 1 ∨ x = nI 0) ∧ (x = nI 1 ↔ fd_ex (fd_pdP (fd_bkA h b) s d hr) m a) := by
    intro m
    induction m with
    | zero =>
      intro a e
      have hc : nI n ≤ nI a := nI_le (by omega) (by omega)
      refine ⟨nI 0, ?_, Or.inr rfl, ?_⟩
      · rw [fs_16_3]
        simp (disch := first | exact fd_nl_int | exact fd_nl_ref | exact fd_nl_none | assumption | exact nI_ne0 (by omega) (by omega) | exact fd_nb0 | exact fd_nb1 | exact fd_nbb | omega) only [fs_16_0, fs_16_1, fs_16_5, fs_16_6 hk, fs_16_9, fs_16_12, fs_16_13, fs_16_15, fs_16_16, fs_16_17, fs_16_18 hk, fs_16_21, fs_16_24, fs_16_25 hk, fs_16_28, fs_16_30 hk, fs_16_31, fs_16_32, fs_16_35, fs_16_36, fs_16_37 hk, fs_16_40, fs_16_42 hk, fs_16_43, fs_16_46, fs_16_49, fs_16_50, fs_16_51, fs_16_54, fs_16_57, fs_16_58, Option.bind_some, Option.toList_some, Option.toList_none, List.cons_append, List.nil_append, fd_nb0, fd_nb1, fd_nbb, fd_b0, nI_add, pk_mul, ite_not, Classical.not_not, not_false_iff, not_true, and_self, or_true, true_or, ↓reduceIte, if_true, if_false, ite_self, fd_mI, fd_mH, fd_mL, fd_p0, fd_w0, fd_w1, fd_w2, fd_10, fd_00, hn, hc]
      · exact ⟨fun z => absurd z (by decide), fun z => z.elim⟩
    | succ m ih =>
      intro a e
      have hc : ¬ nI n ≤ nI a := nI_ge (by omega) (by omega)
      obtain ⟨x, h1, h2, h3⟩ := ih (a + 1) (by omega)
      by_cases z : fd_pdP (fd_bkA h b) s d hr a
      · refine ⟨nI 1, ?_, Or.inl rfl, fun _ => Or.inl z, fun _ => rfl⟩
        rw [fs_16_3]
        obtain ⟨z1, z2⟩ := z
        rcases z2 with z2 | z2
        · have z3 : h.1 (b + 3) a = -1 := z2
          simp (disch := first | exact fd_nl_int | exact fd_nl_ref | exact fd_nl_none | assumption | exact nI_ne0 (by omega) (by omega) | exact fd_nb0 | exact fd_nb1 | exact fd_nbb | omega) only [fs_16_0, fs_16_1, fs_16_5, fs_16_6 hk, fs_16_9, fs_16_12, fs_16_13, fs_16_15, fs_16_16, fs_16_17, fs_16_18 hk, fs_16_21, fs_16_24, fs_16_25 hk, fs_16_28, fs_16_30 hk, fs_16_31, fs_16_32, fs_16_35, fs_16_36, fs_16_37 hk, fs_16_40, fs_16_42 hk, fs_16_43, fs_16_46, fs_16_49, fs_16_50, fs_16_51, fs_16_54, fs_16_57, fs_16_58, Option.bind_some, Option.toList_some, Option.toList_none, List.cons_append, List.nil_append, fd_nb0, fd_nb1, fd_nbb, fd_b0, nI_add, pk_mul, ite_not, Classical.not_not, not_false_iff, not_true, and_self, or_true, true_or, ↓reduceIte, if_true, if_false, ite_self, fd_mI, fd_mH, fd_mL, fd_p0, fd_w0, fd_w1, fd_w2, fd_10, fd_00, hn, hc, fm_isFor hk hb, z3]
          rw [if_pos z1]
        · have z3 : (d >>> (h.1 (b + 3) a &&& 31)) &&& nI 1 = 0 := Classical.not_not.mp z2
          simp (disch := first | exact fd_nl_int | exact fd_nl_ref | exact fd_nl_none | assumption | exact nI_ne0 (by omega) (by omega) | exact fd_nb0 | exact fd_nb1 | exact fd_nbb | omega) only [fs_16_0, fs_16_1, fs_16_5, fs_16_6 hk, fs_16_9, fs_16_12, fs_16_13, fs_16_15, fs_16_16, fs_16_17, fs_16_18 hk, fs_16_21, fs_16_24, fs_16_25 hk, fs_16_28, fs_16_30 hk, fs_16_31, fs_16_32, fs_16_35, fs_16_36, fs_16_37 hk, fs_16_40, fs_16_42 hk, fs_16_43, fs_16_46, fs_16_49, fs_16_50, fs_16_51, fs_16_54, fs_16_57, fs_16_58, Option.bind_some, Option.toList_some, Option.toList_none, List.cons_append, List.nil_append, fd_nb0, fd_nb1, fd_nbb, fd_b0, nI_add, pk_mul, ite_not, Classical.not_not, not_false_iff, not_true, and_self, or_true, true_or, ↓reduceIte, if_true, if_false, ite_self, fd_mI, fd_mH, fd_mL, fd_p0, fd_w0, fd_w1, fd_w2, fd_10, fd_00, hn, hc, fm_isFor hk hb, fm_has, z3]
          rw [if_pos z1]
      · refine ⟨x, ?_, h2, ?_⟩
        · rw [fs_16_3]
          by_cases z1 : fd_isF (fd_bkA h b) a (nI 3) s hr
          · have z4 : ¬ h.1 (b + 3) a = -1 := fun q => z ⟨z1, Or.inl q⟩
            have z5 : fd_has d (h.1 (b + 3) a) := Classical.byContradiction fun q => z ⟨z1, Or.inr q⟩
            have z6 : ¬ (d >>> (h.1 (b + 3) a &&& 31)) &&& nI 1 = 0 := z5
            simp (disch := first | exact fd_nl_int | exact fd_nl_ref | exact fd_nl_none | assumption | exact nI_ne0 (by omega) (by omega) | exact fd_nb0 | exact fd_nb1 | exact fd_nbb | omega) only [fs_16_0, fs_16_1, fs_16_5, fs_16_6 hk, fs_16_9, fs_16_12, fs_16_13, fs_16_15, fs_16_16, fs_16_17, fs_16_18 hk, fs_16_21, fs_16_24, fs_16_25 hk, fs_16_28, fs_16_30 hk, fs_16_31, fs_16_32, fs_16_35, fs_16_36, fs_16_37 hk, fs_16_40, fs_16_42 hk, fs_16_43, fs_16_46, fs_16_49, fs_16_50, fs_16_51, fs_16_54, fs_16_57, fs_16_58, Option.bind_some, Option.toList_some, Option.toList_none, List.cons_append, List.nil_append, fd_nb0, fd_nb1, fd_nbb, fd_b0, nI_add, pk_mul, ite_not, Classical.not_not, not_false_iff, not_true, and_self, or_true, true_or, ↓reduceIte, if_true, if_false, ite_self, fd_mI, fd_mH, fd_mL, fd_p0, fd_w0, fd_w1, fd_w2, fd_10, fd_00, hn, hc, fm_isFor hk hb, z4, fm_has, z6, h1]
          · simp (disch := first | exact fd_nl_int | exact fd_nl_ref | exact fd_nl_none | assumption | exact nI_ne0 (by omega) (by omega) | exact fd_nb0 | exact fd_nb1 | exact fd_nbb | omega) only [fs_16_0, fs_16_1, fs_16_5, fs_16_6 hk, fs_16_9, fs_16_12, fs_16_13, fs_16_15, fs_16_16, fs_16_17, fs_16_18 hk, fs_16_21, fs_16_24, fs_16_25 hk, fs_16_28, fs_16_30 hk, fs_16_31, fs_16_32, fs_16_35, fs_16_36, fs_16_37 hk, fs_16_40, fs_16_42 hk, fs_16_43, fs_16_46, fs_16_49, fs_16_50, fs_16_51, fs_16_54, fs_16_57, fs_16_58, Option.bind_some, Option.toList_some, Option.toList_none, List.cons_append, List.nil_append, fd_nb0, fd_nb1, fd_nbb, fd_b0, nI_add, pk_mul, ite_not, Classical.not_not, not_false_iff, not_true, and_self, or_true, true_or, ↓reduceIte, if_true, if_false, ite_self, fd_mI, fd_mH, fd_mL, fd_p0, fd_w0, fd_w1, fd_w2, fd_10, fd_00, hn, hc, fm_isFor hk hb, h1]
            rw [if_neg z1]
        · rw [h3]
          exact ⟨fun q => Or.inr q, fun q => q.elim (fun y => absurd y z) id⟩
  obtain ⟨x, h1, h2⟩ := loop n 0 (by omega)
  exact ⟨x, by simp (disch := first | exact fd_nl_int | exact fd_nl_ref | exact fd_nl_none | assumption | exact nI_ne0 (by omega) (by omega) | exact fd_nb0 | exact fd_nb1 | exact fd_nbb | omega) only [fs_16_0, fs_16_1, fs_16_5, fs_16_6 hk, fs_16_9, fs_16_12, fs_16_13, fs_16_15, fs_16_16, fs_16_17, fs_16_18 hk, fs_16_21, fs_16_24, fs_16_25 hk, fs_16_28, fs_16_30 hk, fs_16_31, fs_16_32, fs_16_35, fs_16_36, fs_16_37 hk, fs_16_40, fs_16_42 hk, fs_16_43, fs_16_46, fs_16_49, fs_16_50, fs_16_51, fs_16_54, fs_16_57, fs_16_58, Option.bind_some, Option.toList_some, Option.toList_none, List.cons_append, List.nil_append, fd_nb0, fd_nb1, fd_nbb, fd_b0, nI_add, pk_mul, ite_not, Classical.not_not, not_false_iff, not_true, and_self, or_true, true_or, ↓reduceIte, if_true, if_false, ite_self, fd_mI, fd_mH, fd_mL, fd_p0, fd_w0, fd_w1, fd_w2, fd_10, fd_00, h1], h2⟩
theorem fm_add (hk : fd_Sok k fb bb dr) (hb : fd_isB b) {n : Nat} (hn : h.1 b 0 = nI n) (h10 : n < 10) (x1 x2 x3 x4 x5 : Int32) : fd_E 11 0 [some (.ref (b)), some (.int (x1)), some (.int (x2)), some (.int (x3)), some (.int (x4)), some (.int (x5))] [] k h = some (none, (k, fd_w (fd_w (fd_w (fd_w (fd_w (fd_w h (b + 1) n x1) (b + 2) n x2) (b + 3) n x3) (b + 4) n x4) (b + 5) n x5) b 0 (nI (n + 1)))) := by
  have hc : nI n < nI 10 := nI_lt (by omega) (by omega)
  simp (disch := first | exact fd_nl_int | exact fd_nl_ref | exact fd_nl_none | assumption | exact nI_ne0 (by omega) (by omega) | exact fd_nb0 | exact fd_nb1 | exact fd_nbb | omega) only [fs_11_0, fs_11_1 hk, fs_11_4, fs_11_6, fs_11_9, fs_11_10, fs_11_11 hk, fs_11_14, fs_11_15 hk, fs_11_18, fs_11_19 hk, fs_11_20, fs_11_21 hk, fs_11_24, fs_11_25 hk, fs_11_28, fs_11_29 hk, fs_11_30, fs_11_31 hk, fs_11_34, fs_11_35 hk, fs_11_38, fs_11_39 hk, fs_11_40, fs_11_41 hk, fs_11_44, fs_11_45 hk, fs_11_48, fs_11_50 hk, fs_11_51, fs_11_52 hk, fs_11_55, fs_11_56 hk, fs_11_59, fs_11_61 hk, fs_11_62, fs_11_63, fs_11_64 hk, fs_11_67, fs_11_68, fs_11_69 hk, fs_11_72, Option.bind_some, Option.toList_some, Option.toList_none, List.cons_append, List.nil_append, fd_nb0, fd_nb1, fd_nbb, fd_b0, nI_add, pk_mul, ite_not, Classical.not_not, not_false_iff, not_true, and_self, or_true, true_or, ↓reduceIte, if_true, if_false, ite_self, fd_mI, fd_mH, fd_mL, fd_p0, fd_w0, fd_w1, fd_w2, fd_10, fd_00, hn, hc]
end BOOK
