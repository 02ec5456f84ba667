/-! BOOK -/
section BOOK
variable {k : fd_Sk} {h : fd_Hp} {fb bb dr b : Nat}
def fd_isFor (h : fd_Hp) (b a : Nat) (kd s hr : Int32) : Bool := decide (h.1 (b + 1) a = kd ∧ (h.1 (b + 2) a = -1 ∨ h.1 (b + 2) a = s) ∧ h.1 (b + 4) a ≤ hr ∧ hr ≤ h.1 (b + 5) a)
theorem fm_isFor (hk : fd_Sok k fb bb dr) (hb : fd_isB b) {a : Nat} (ha : a < 10) (kd s hr : Int32) : fd_E 12 0 [some (.ref b), some (.int (nI a)), some (.int kd), some (.int s), some (.int hr)] [] k h = some (some (.int (fd_bi (fd_isFor h b a kd s hr))), (k, h)) := by
  simp only [fs_12_0, fs_12_1 hk, fs_12_4, fs_12_5 hk, fs_12_6, fs_12_7, fs_12_10, fs_12_11 hk, fs_12_14, fs_12_15 hk, fs_12_16, fs_12_17, fs_12_20, fs_12_21 hk, fs_12_24, fs_12_25 hk, fs_12_26, fs_12_27, fs_12_30, fs_12_32, fs_12_33 hk, fs_12_36, fs_12_37 hk, fs_12_38, fs_12_41, fs_12_43, fs_12_44 hk, fs_12_47, fs_12_48 hk, fs_12_49, fs_12_52, fs_12_53, fs_12_56, fs_12_57, Option.bind_some, Option.toList_some, Option.toList_none, List.cons_append, List.nil_append, fd_nl_int, fd_nl_ref, fd_nl_none, fd_nb0, fd_nb1, fd_nbb, ha, hb]
  unfold fd_isFor
  by_cases h1 : h.1 (b + 1) a = kd <;> by_cases h2 : h.1 (b + 2) a = -1 <;> by_cases h3 : h.1 (b + 2) a = s <;> by_cases h4 : h.1 (b + 4) a ≤ hr <;> by_cases h5 : hr ≤ h.1 (b + 5) a <;> simp_all [fd_bi, Int32.not_lt, Int32.not_le]
def fd_owedF (h : fd_Hp) (b : Nat) (s hr : Int32) (a : Nat) (x : Int32) : Int32 := if fd_isFor h b a (nI 0) s hr = true then x + h.1 (b + 3) a else x
theorem fm_owedEach (hk : fd_Sok k fb bb dr) (hb : fd_isB b) {n : Nat} (hn : h.1 b 0 = nI n) (h10 : n ≤ 10) (s hr : Int32) : fd_E 13 0 [some (.ref b), some (.int s), some (.int hr), none, none] [] k h = some (some (.int (fd_fold (fd_owedF h b s hr) n 0 (nI 0))), (k, h)) := by
  have loop : ∀ (m a : Nat) (x : Int32), a + m = n → fd_E 13 5 [some (.ref b), some (.int s), some (.int hr), some (.int x), some (.int (nI a))] [] k h = some (some (.int (fd_fold (fd_owedF h b s hr) m a x)), (k, h)) := by
    intro m
    induction m with
    | zero =>
      intro a x e
      have hc : nI n ≤ nI a := nI_le (by omega) (by omega)
      rw [fs_13_5]
      simp only [fs_13_0, fs_13_1, fs_13_2, fs_13_3, fs_13_7, fs_13_8 hk, fs_13_11, fs_13_14, fs_13_15, fs_13_17, fs_13_18, fs_13_19, fs_13_20 hk, fs_13_23, fs_13_26, fs_13_27, fs_13_28 hk, fs_13_31, fs_13_33 hk, fs_13_34, fs_13_35, fs_13_36, fs_13_39, fs_13_42, fs_13_43, Option.bind_some, Option.toList_some, Option.toList_none, List.cons_append, List.nil_append, fd_nl_int, fd_nl_ref, fd_nl_none, fd_nb0, fd_nb1, fd_nbb, hb, hn, hc, if_true]
      rfl
    | succ m ih =>
      intro a x e
      have hc : ¬ nI n ≤ nI a := nI_ge (by omega) (by omega)
      have ha : a < 10 := by omega
      rw [fs_13_5]
      simp only [fs_13_0, fs_13_1, fs_13_2, fs_13_3, fs_13_7, fs_13_8 hk, fs_13_11, fs_13_14, fs_13_15, fs_13_17, fs_13_18, fs_13_19, fs_13_20 hk, fs_13_23, fs_13_26, fs_13_27, fs_13_28 hk, fs_13_31, fs_13_33 hk, fs_13_34, fs_13_35, fs_13_36, fs_13_39, fs_13_42, fs_13_43, Option.bind_some, Option.toList_some, Option.toList_none, List.cons_append, List.nil_append, fd_nl_int, fd_nl_ref, fd_nl_none, fd_nb0, fd_nb1, fd_nbb, hb, hn, hc, if_false, fm_isFor hk hb ha, ha, fd_bi0, nI_add, ih (a + 1) _ (by omega), fd_fold, fd_owedF]
      cases fd_isFor h b a (nI 0) s hr <;> rfl
  simp only [fs_13_0, fs_13_1, fs_13_2, fs_13_3, fs_13_7, fs_13_8 hk, fs_13_11, fs_13_14, fs_13_15, fs_13_17, fs_13_18, fs_13_19, fs_13_20 hk, fs_13_23, fs_13_26, fs_13_27, fs_13_28 hk, fs_13_31, fs_13_33 hk, fs_13_34, fs_13_35, fs_13_36, fs_13_39, fs_13_42, fs_13_43, Option.bind_some, Option.toList_some, Option.toList_none, List.cons_append, List.nil_append, fd_nl_int, fd_nl_ref, fd_nl_none, fd_nb0, fd_nb1, fd_nbb, loop n 0 (nI 0) (by omega)]
end BOOK
