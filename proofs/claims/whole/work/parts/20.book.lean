/-! ARTICLES: the books of FleetDelegates, those of the reference -/
/-- the article of number a: 1 its kind, 2 its ship, 3 its number, 4 from, 5 to -/
abbrev fd_A : Type := Nat → Nat → Int32
abbrev fd_isF (A : fd_A) (a : Nat) (kd s hr : Int32) : Prop := A 1 a = kd ∧ (A 2 a = -1 ∨ A 2 a = s) ∧ ¬ hr < A 4 a ∧ ¬ A 5 a < hr
def fd_bkA (h : fd_Hp) (b : Nat) : fd_A := fun j a => h.1 (b + j) a
def fd_mdA (h : fd_Hp) (B : Nat) : fd_A := fun j a => h.1 94 (50 * B + 5 * a + (j - 1))
section BOOK
variable {k : fd_Sk} {h : fd_Hp} {fb bb dr b : Nat} {A : fd_A}
theorem fm_isFor (hk : fd_Sok k fb bb dr) (hb : fd_isB b) {a : Nat} (ha : a < 10) (kd s hr : Int32) : fd_E 12 0 [some (.ref (b)), some (.int (nI (a))), some (.int (kd)), some (.int (s)), some (.int (hr))] [] k h = some (some (.int (fd_b (fd_isF (fd_bkA h b) a kd s hr))), (k, h)) := by
  simp (disch := first | exact fd_nl_int | exact fd_nl_ref | exact fd_nl_none | assumption | exact fd_nb0 | exact fd_nb1 | exact fd_nbb | omega) only [fs_12_0, fs_12_1 hk, fs_12_4, fs_12_5 hk, fs_12_6, fs_12_7, fs_12_10, fs_12_11 hk, fs_12_14, fs_12_15 hk, fs_12_16, fs_12_17, fs_12_20, fs_12_21 hk, fs_12_24, fs_12_25 hk, fs_12_26, fs_12_27, fs_12_30, fs_12_32, fs_12_33 hk, fs_12_36, fs_12_37 hk, fs_12_38, fs_12_41, fs_12_43, fs_12_44 hk, fs_12_47, fs_12_48 hk, fs_12_49, fs_12_52, fs_12_53, fs_12_56, fs_12_57, Option.bind_some, Option.toList_some, Option.toList_none, List.cons_append, List.nil_append, fd_nb0, fd_nb1, fd_nbb, fd_b0, nI_add, pk_mul, ite_not, Classical.not_not, reduceIte, if_true, if_false, ite_self, fd_mI, fd_mH, fd_mL]
  unfold fd_bkA
  by_cases h1 : h.1 (b + 1) a = kd <;> by_cases h2 : h.1 (b + 2) a = -1 <;> by_cases h3 : h.1 (b + 2) a = s <;> by_cases h4 : hr < h.1 (b + 4) a <;> by_cases h5 : h.1 (b + 5) a < hr <;> simp [*, fd_b, fd_isF]
def fd_owedF (A : fd_A) (s hr : Int32) (a : Nat) (x : Int32) : Int32 := if fd_isF A a (nI 0) s hr then x + A 3 a else x
theorem fm_owedEach (hk : fd_Sok k fb bb dr) (hb : fd_isB b) {n : Nat} (hn : h.1 b 0 = nI n) (h10 : n ≤ 10) (s hr : Int32) : fd_E 13 0 [some (.ref (b)), some (.int (s)), some (.int (hr)), none, none] [] k h = some (some (.int (fd_fold (fd_owedF (fd_bkA h b) s hr) n 0 (nI 0))), (k, h)) := by
  have loop : ∀ (m a : Nat) (x : Int32), a + m = n → fd_E 13 5 [some (.ref (b)), some (.int (s)), some (.int (hr)), some (.int (x)), some (.int (nI (a)))] [] k h = some (some (.int (fd_fold (fd_owedF (fd_bkA h b) s hr) m a x)), (k, h)) := by
    intro m
    induction m with
    | zero =>
      intro a x e
      have hc : nI n ≤ nI a := nI_le (by omega) (by omega)
      rw [fs_13_5]
      simp (disch := first | exact fd_nl_int | exact fd_nl_ref | exact fd_nl_none | assumption | exact fd_nb0 | exact fd_nb1 | exact fd_nbb | omega) only [fs_13_0, fs_13_1, fs_13_2, fs_13_3, fs_13_7, fs_13_8 hk, fs_13_11, fs_13_14, fs_13_15, fs_13_17, fs_13_18, fs_13_19, fs_13_20 hk, fs_13_23, fs_13_26, fs_13_27, fs_13_28 hk, fs_13_31, fs_13_33 hk, fs_13_34, fs_13_35, fs_13_36, fs_13_39, fs_13_42, fs_13_43, Option.bind_some, Option.toList_some, Option.toList_none, List.cons_append, List.nil_append, fd_nb0, fd_nb1, fd_nbb, fd_b0, nI_add, pk_mul, ite_not, Classical.not_not, reduceIte, if_true, if_false, ite_self, fd_mI, fd_mH, fd_mL, hn, hc]
      rfl
    | succ m ih =>
      intro a x e
      have hc : ¬ nI n ≤ nI a := nI_ge (by omega) (by omega)
      rw [fs_13_5]
      simp (disch := first | exact fd_nl_int | exact fd_nl_ref | exact fd_nl_none | assumption | exact fd_nb0 | exact fd_nb1 | exact fd_nbb | omega) only [fs_13_0, fs_13_1, fs_13_2, fs_13_3, fs_13_7, fs_13_8 hk, fs_13_11, fs_13_14, fs_13_15, fs_13_17, fs_13_18, fs_13_19, fs_13_20 hk, fs_13_23, fs_13_26, fs_13_27, fs_13_28 hk, fs_13_31, fs_13_33 hk, fs_13_34, fs_13_35, fs_13_36, fs_13_39, fs_13_42, fs_13_43, Option.bind_some, Option.toList_some, Option.toList_none, List.cons_append, List.nil_append, fd_nb0, fd_nb1, fd_nbb, fd_b0, nI_add, pk_mul, ite_not, Classical.not_not, reduceIte, if_true, if_false, ite_self, fd_mI, fd_mH, fd_mL, hn, hc, fm_isFor hk hb, ih (a + 1) _ (by omega), fd_foldS]
      rfl
  simp (disch := first | exact fd_nl_int | exact fd_nl_ref | exact fd_nl_none | assumption | exact fd_nb0 | exact fd_nb1 | exact fd_nbb | omega) only [fs_13_0, fs_13_1, fs_13_2, fs_13_3, fs_13_7, fs_13_8 hk, fs_13_11, fs_13_14, fs_13_15, fs_13_17, fs_13_18, fs_13_19, fs_13_20 hk, fs_13_23, fs_13_26, fs_13_27, fs_13_28 hk, fs_13_31, fs_13_33 hk, fs_13_34, fs_13_35, fs_13_36, fs_13_39, fs_13_42, fs_13_43, Option.bind_some, Option.toList_some, Option.toList_none, List.cons_append, List.nil_append, fd_nb0, fd_nb1, fd_nbb, fd_b0, nI_add, pk_mul, ite_not, Classical.not_not, reduceIte, if_true, if_false, ite_self, fd_mI, fd_mH, fd_mL, loop n 0 (nI 0) (by omega)]
end BOOK
