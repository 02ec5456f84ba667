/-! VOTES -/
section VOTES
variable {k : fd_Sk} {h g : fd_Hp} {fb bb dr b : Nat}
def fd_vfF (Y L V : Nat → Int32) (o : Int32) (s : Nat) (x : Int32) : Int32 := if Y s = -1 then (if o < L s then x else x + V s) else x
def fd_vaF (Y V : Nat → Int32) (s : Nat) (x : Int32) : Int32 := if Y s = -1 then x + V s else x
def fd_X (want will : Int32) : Int32 := want - (nI 100 - will) / nI 10
theorem fm_voicesFor (hk : fd_Sok k fb bb dr) {n ns t : Nat} (hs6 : ns ≤ 6) (e0 : h.1 1 0 = nI t) (e1 : h.1 1 1 = nI ns) (hn : h.1 fb 0 = nI n) (h10 : n ≤ 10) (o : Int32) : fd_E 116 0 [some (.ref (0)), some (.int (o)), none, none] [] k h = some (some (.int (fd_fold (fd_vfF (fun s => h.1 9 s) (fun s => fd_lo (h.1 7 s) (h.1 8 s)) (fun s => fd_fold (fd_vocF (fd_bkA h fb) (nI s) (nI t)) n 0 (nI 1)) o) ns 0 (nI 0))), (k, h)) := by
  have hfb : fd_isB fb := hk.2.2.2.2.2.2.1
  have loop : ∀ (m a : Nat) (x : Int32), a + m = ns → fd_E 116 4 [some (.ref (0)), some (.int (o)), some (.int (x)), some (.int (nI (a)))] [] k h = some (some (.int (fd_fold (fd_vfF (fun s => h.1 9 s) (fun s => fd_lo (h.1 7 s) (h.1 8 s)) (fun s => fd_fold (fd_vocF (fd_bkA h fb) (nI s) (nI t)) n 0 (nI 1)) o) m a x)), (k, h)) := by
    intro m
    induction m with
    | zero =>
      intro a x e
      have hc : nI (ns) ≤ nI a := nI_le (by omega) (by omega)
      rw [fs_116_4]
      simp (disch := first | exact fd_nl_int | exact fd_nl_ref | exact fd_nl_none | assumption | exact nI_ne0 (by omega) (by omega) | exact fd_nb0 | exact fd_nb1 | exact fd_nbb | omega) only [fs_116_0, fs_116_1, fs_116_2, fs_116_3, fs_116_5, fs_116_6_p0 hk, fs_116_9_p1 hk, fs_116_12, fs_116_15, fs_116_16_p0 hk, fs_116_19, fs_116_20_p1 hk, fs_116_23, fs_116_26, fs_116_27, fs_116_28_p0 hk, fs_116_31, fs_116_32_p1 hk, fs_116_35, fs_116_38, fs_116_39, fs_116_40_p0 hk, fs_116_43, fs_116_44, fs_116_45_p0 hk, fs_116_48_p1 hk, fs_116_51 hk, fs_116_54, fs_116_55, fs_116_56, fs_116_59, fs_116_62, fs_116_63, Option.bind_some, Option.toList_some, Option.toList_none, List.cons_append, List.nil_append, fd_nb0, fd_nb1, fd_nbb, fd_b0, nI_add, pk_mul, ite_not, Classical.not_not, not_false_iff, not_true, and_self, or_true, true_or, ↓reduceIte, if_true, if_false, ite_self, fd_mI, fd_mH, fd_mL, fd_p0, fd_w0, fd_w1, fd_w2, fd_10, fd_00, hc, e0, e1]
      try rfl
    | succ m ih =>
      intro a x e
      have hc : ¬ nI (ns) ≤ nI a := nI_ge (by omega) (by omega)
      rw [fs_116_4]
      simp (disch := first | exact fd_nl_int | exact fd_nl_ref | exact fd_nl_none | assumption | exact nI_ne0 (by omega) (by omega) | exact fd_nb0 | exact fd_nb1 | exact fd_nbb | omega) only [fs_116_0, fs_116_1, fs_116_2, fs_116_3, fs_116_5, fs_116_6_p0 hk, fs_116_9_p1 hk, fs_116_12, fs_116_15, fs_116_16_p0 hk, fs_116_19, fs_116_20_p1 hk, fs_116_23, fs_116_26, fs_116_27, fs_116_28_p0 hk, fs_116_31, fs_116_32_p1 hk, fs_116_35, fs_116_38, fs_116_39, fs_116_40_p0 hk, fs_116_43, fs_116_44, fs_116_45_p0 hk, fs_116_48_p1 hk, fs_116_51 hk, fs_116_54, fs_116_55, fs_116_56, fs_116_59, fs_116_62, fs_116_63, Option.bind_some, Option.toList_some, Option.toList_none, List.cons_append, List.nil_append, fd_nb0, fd_nb1, fd_nbb, fd_b0, nI_add, pk_mul, ite_not, Classical.not_not, not_false_iff, not_true, and_self, or_true, true_or, ↓reduceIte, if_true, if_false, ite_self, fd_mI, fd_mH, fd_mL, fd_p0, fd_w0, fd_w1, fd_w2, fd_10, fd_00, hc, fd_foldS, e0, e1, fm_hasY hk, fm_leastOffer hk, fm_voicesOf hk hfb hn h10, ih (a + 1) _ (by omega)]
      rfl
  simp (disch := first | exact fd_nl_int | exact fd_nl_ref | exact fd_nl_none | assumption | exact nI_ne0 (by omega) (by omega) | exact fd_nb0 | exact fd_nb1 | exact fd_nbb | omega) only [fs_116_0, fs_116_1, fs_116_2, fs_116_3, fs_116_5, fs_116_6_p0 hk, fs_116_9_p1 hk, fs_116_12, fs_116_15, fs_116_16_p0 hk, fs_116_19, fs_116_20_p1 hk, fs_116_23, fs_116_26, fs_116_27, fs_116_28_p0 hk, fs_116_31, fs_116_32_p1 hk, fs_116_35, fs_116_38, fs_116_39, fs_116_40_p0 hk, fs_116_43, fs_116_44, fs_116_45_p0 hk, fs_116_48_p1 hk, fs_116_51 hk, fs_116_54, fs_116_55, fs_116_56, fs_116_59, fs_116_62, fs_116_63, Option.bind_some, Option.toList_some, Option.toList_none, List.cons_append, List.nil_append, fd_nb0, fd_nb1, fd_nbb, fd_b0, nI_add, pk_mul, ite_not, Classical.not_not, not_false_iff, not_true, and_self, or_true, true_or, ↓reduceIte, if_true, if_false, ite_self, fd_mI, fd_mH, fd_mL, fd_p0, fd_w0, fd_w1, fd_w2, fd_10, fd_00, loop ns 0 (nI 0) (by omega)]
theorem fm_mIsFor (hk : fd_Sok k fb bb dr) {s : Nat} (hs : s < 6) (o : Int32) : fd_E 175 0 [some (.ref (77)), some (.int (nI (s))), some (.int (o))] [] k h = some (some (.int (fd_b (¬ o < fd_X (h.1 80 s) (h.1 82 (12 + s))))), (k, h)) := by
  simp (disch := first | exact fd_nl_int | exact fd_nl_ref | exact fd_nl_none | assumption | exact nI_ne0 (by omega) (by omega) | exact fd_nb0 | exact fd_nb1 | exact fd_nbb | omega) only [fs_175_0, fs_175_1, fs_175_2_p77 hk, fs_175_5, fs_175_6_p80 hk, fs_175_7, fs_175_9, fs_175_10, fs_175_11_p77 hk, fs_175_14, fs_175_15, fs_175_17, fs_175_18, fs_175_19, fs_175_22, fs_175_23, fs_175_26, fs_175_27, Option.bind_some, Option.toList_some, Option.toList_none, List.cons_append, List.nil_append, fd_nb0, fd_nb1, fd_nbb, fd_b0, nI_add, pk_mul, ite_not, Classical.not_not, not_false_iff, not_true, and_self, or_true, true_or, ↓reduceIte, if_true, if_false, ite_self, fd_mI, fd_mH, fd_mL, fd_p0, fd_w0, fd_w1, fd_w2, fd_10, fd_00, fm_mWill hk]
  unfold fd_X
  unfold fd_b; (repeat' split) <;> simp_all
theorem fm_mVoicesFor (hk : fd_Sok k fb bb dr) {n ns t : Nat} (hs6 : ns ≤ 6) (e0 : h.1 77 0 = nI t) (e1 : h.1 77 5 = nI ns) (hn : h.1 93 0 = nI n) (h10 : n ≤ 10) (o : Int32) : fd_E 176 0 [some (.ref (77)), some (.int (o)), none, none] [] k h = some (some (.int (fd_fold (fd_vfF (fun s => h.1 82 (18 + s)) (fun s => fd_X (h.1 80 s) (h.1 82 (12 + s))) (fun s => fd_fold (fd_vocF (fd_mdA h 0) (nI s) (nI t)) n 0 (nI 1)) o) ns 0 (nI 0))), (k, h)) := by
  have loop : ∀ (m a : Nat) (x : Int32), a + m = ns → fd_E 176 4 [some (.ref (77)), some (.int (o)), some (.int (x)), some (.int (nI (a)))] [] k h = some (some (.int (fd_fold (fd_vfF (fun s => h.1 82 (18 + s)) (fun s => fd_X (h.1 80 s) (h.1 82 (12 + s))) (fun s => fd_fold (fd_vocF (fd_mdA h 0) (nI s) (nI t)) n 0 (nI 1)) o) m a x)), (k, h)) := by
    intro m
    induction m with
    | zero =>
      intro a x e
      have hc : nI (ns) ≤ nI a := nI_le (by omega) (by omega)
      rw [fs_176_4]
      simp (disch := first | exact fd_nl_int | exact fd_nl_ref | exact fd_nl_none | assumption | exact nI_ne0 (by omega) (by omega) | exact fd_nb0 | exact fd_nb1 | exact fd_nbb | omega) only [fs_176_0, fs_176_1, fs_176_2, fs_176_3, fs_176_5, fs_176_6_p77 hk, fs_176_9, fs_176_12, fs_176_13, fs_176_14, fs_176_15_p77 hk, fs_176_18, fs_176_21, fs_176_22, fs_176_23, fs_176_24_p77 hk, fs_176_27, fs_176_30, fs_176_31, fs_176_32, fs_176_33, fs_176_34_p77 hk, fs_176_37_p77 hk, fs_176_40, fs_176_43, fs_176_44, fs_176_45, fs_176_46, fs_176_49, fs_176_52, fs_176_53, Option.bind_some, Option.toList_some, Option.toList_none, List.cons_append, List.nil_append, fd_nb0, fd_nb1, fd_nbb, fd_b0, nI_add, pk_mul, ite_not, Classical.not_not, not_false_iff, not_true, and_self, or_true, true_or, ↓reduceIte, if_true, if_false, ite_self, fd_mI, fd_mH, fd_mL, fd_p0, fd_w0, fd_w1, fd_w2, fd_10, fd_00, hc, e0, e1]
      try rfl
    | succ m ih =>
      intro a x e
      have hc : ¬ nI (ns) ≤ nI a := nI_ge (by omega) (by omega)
      rw [fs_176_4]
      simp (disch := first | exact fd_nl_int | exact fd_nl_ref | exact fd_nl_none | assumption | exact nI_ne0 (by omega) (by omega) | exact fd_nb0 | exact fd_nb1 | exact fd_nbb | omega) only [fs_176_0, fs_176_1, fs_176_2, fs_176_3, fs_176_5, fs_176_6_p77 hk, fs_176_9, fs_176_12, fs_176_13, fs_176_14, fs_176_15_p77 hk, fs_176_18, fs_176_21, fs_176_22, fs_176_23, fs_176_24_p77 hk, fs_176_27, fs_176_30, fs_176_31, fs_176_32, fs_176_33, fs_176_34_p77 hk, fs_176_37_p77 hk, fs_176_40, fs_176_43, fs_176_44, fs_176_45, fs_176_46, fs_176_49, fs_176_52, fs_176_53, Option.bind_some, Option.toList_some, Option.toList_none, List.cons_append, List.nil_append, fd_nb0, fd_nb1, fd_nbb, fd_b0, nI_add, pk_mul, ite_not, Classical.not_not, not_false_iff, not_true, and_self, or_true, true_or, ↓reduceIte, if_true, if_false, ite_self, fd_mI, fd_mH, fd_mL, fd_p0, fd_w0, fd_w1, fd_w2, fd_10, fd_00, hc, fd_foldS, e0, e1, fm_mHasY hk, fm_mIsFor hk, fm_mVoicesBy hk (B := 0) (by omega) hn h10, ih (a + 1) _ (by omega)]
      rfl
  simp (disch := first | exact fd_nl_int | exact fd_nl_ref | exact fd_nl_none | assumption | exact nI_ne0 (by omega) (by omega) | exact fd_nb0 | exact fd_nb1 | exact fd_nbb | omega) only [fs_176_0, fs_176_1, fs_176_2, fs_176_3, fs_176_5, fs_176_6_p77 hk, fs_176_9, fs_176_12, fs_176_13, fs_176_14, fs_176_15_p77 hk, fs_176_18, fs_176_21, fs_176_22, fs_176_23, fs_176_24_p77 hk, fs_176_27, fs_176_30, fs_176_31, fs_176_32, fs_176_33, fs_176_34_p77 hk, fs_176_37_p77 hk, fs_176_40, fs_176_43, fs_176_44, fs_176_45, fs_176_46, fs_176_49, fs_176_52, fs_176_53, Option.bind_some, Option.toList_some, Option.toList_none, List.cons_append, List.nil_append, fd_nb0, fd_nb1, fd_nbb, fd_b0, nI_add, pk_mul, ite_not, Classical.not_not, not_false_iff, not_true, and_self, or_true, true_or, ↓reduceIte, if_true, if_false, ite_self, fd_mI, fd_mH, fd_mL, fd_p0, fd_w0, fd_w1, fd_w2, fd_10, fd_00, loop ns 0 (nI 0) (by omega)]
theorem fm_toCarry (hk : fd_Sok k fb bb dr) {t n : Nat} (e0 : h.1 1 0 = nI t) (hn : h.1 fb 0 = nI n) (h10 : n ≤ 10) {v : Int32} (hv : fd_E 116 0 [some (.ref (0)), some (.int (nI (100))), none, none] [] k h = some (some (.int (v)), (k, h))) : fd_E 117 0 [some (.ref (0)), none] [] k h = some (some (.int (if fd_fold (fd_carF (fd_bkA h fb) (nI t)) n 0 (-1) = -1 then v / nI 2 + nI 1 else fd_fold (fd_carF (fd_bkA h fb) (nI t)) n 0 (-1))), (k, h)) := by
  have hfb : fd_isB fb := hk.2.2.2.2.2.2.1
  have L := fm_carry hk hfb hn h10 (nI t)
  simp (disch := first | exact fd_nl_int | exact fd_nl_ref | exact fd_nl_none | assumption | exact nI_ne0 (by omega) (by omega) | exact fd_nb0 | exact fd_nb1 | exact fd_nbb | omega) only [fs_117_0, fs_117_1_p0 hk, fs_117_4, fs_117_5_p0 hk, fs_117_8_p1 hk, fs_117_11 hk, fs_117_14, fs_117_15, fs_117_16, fs_117_17, fs_117_20, fs_117_21, fs_117_24, fs_117_25, fs_117_27_p0 hk, fs_117_30, fs_117_31, fs_117_32, fs_117_33, fs_117_34, Option.bind_some, Option.toList_some, Option.toList_none, List.cons_append, List.nil_append, fd_nb0, fd_nb1, fd_nbb, fd_b0, nI_add, pk_mul, ite_not, Classical.not_not, not_false_iff, not_true, and_self, or_true, true_or, ↓reduceIte, if_true, if_false, ite_self, fd_mI, fd_mH, fd_mL, fd_p0, fd_w0, fd_w1, fd_w2, fd_10, fd_00, e0, L, hv]
theorem fd_mdA0 {a j : Nat} : fd_mdA h 0 j a = h.1 94 (5 * a + (j - 1)) := by
  unfold fd_mdA
  exact congrArg (h.1 94) (by omega)
theorem fm_mInForce0 (hk : fd_Sok k fb bb dr) {a : Nat} (ha : a < 10) (sort s hr : Int32) : fd_E 165 0 [some (.ref (77)), some (.int (nI (5 * a))), some (.int (sort)), some (.int (s)), some (.int (hr))] [] k h = some (some (.int (fd_b (fd_isF (fd_mdA h 0) a sort s hr))), (k, h)) := by
  have q := fm_mInForce (h := h) hk (B := 0) (by omega) ha sort s hr
  rwa [show 50 * 0 + 5 * a = 5 * a by omega] at q
theorem fm_mCarry (hk : fd_Sok k fb bb dr) {n ns t : Nat} (hs6 : ns ≤ 6) (e0 : h.1 77 0 = nI t) (e1 : h.1 77 5 = nI ns) (hn : h.1 93 0 = nI n) (h10 : n ≤ 10) : fd_E 177 0 [some (.ref (77)), none, none, none] [] k h = some (some (.int (fd_fold (fd_carF (fd_mdA h 0) (nI t)) n 0 (fd_fold (fd_vaF (fun s => h.1 82 (18 + s)) (fun s => fd_fold (fd_vocF (fd_mdA h 0) (nI s) (nI t)) n 0 (nI 1))) ns 0 (nI 0) / nI 2 + nI 1))), (k, h)) := by
  have loop2 : ∀ (m a : Nat) (y x : Int32), a + m = n → fd_E 177 51 [some (.ref (77)), some (.int (y)), some (.int (x)), some (.int (nI (a)))] [] k h = some (some (.int (fd_fold (fd_carF (fd_mdA h 0) (nI t)) m a x)), (k, h)) := by
    intro m
    induction m with
    | zero =>
      intro a y x e
      have hc : nI (n) ≤ nI a := nI_le (by omega) (by omega)
      rw [fs_177_51]
      simp (disch := first | exact fd_nl_int | exact fd_nl_ref | exact fd_nl_none | assumption | exact nI_ne0 (by omega) (by omega) | exact fd_nb0 | exact fd_nb1 | exact fd_nbb | omega) only [fs_177_0, fs_177_1, fs_177_2, fs_177_3, fs_177_4, fs_177_5, fs_177_6_p77 hk, fs_177_9, fs_177_12, fs_177_13, fs_177_14, fs_177_15_p77 hk, fs_177_18, fs_177_21, fs_177_22, fs_177_25, fs_177_26, fs_177_27, fs_177_28, fs_177_29_p77 hk, fs_177_32_p77 hk, fs_177_35, fs_177_36, fs_177_37, fs_177_40, fs_177_43, fs_177_44, fs_177_45, fs_177_46, fs_177_47, fs_177_48, fs_177_49, fs_177_50, fs_177_52, fs_177_53_p77 hk, fs_177_56, fs_177_57_p93 hk, fs_177_58, fs_177_61, fs_177_62, fs_177_63, fs_177_64, fs_177_65, fs_177_66, fs_177_67, fs_177_68_p77 hk, fs_177_71_p77 hk, fs_177_74, fs_177_77, fs_177_78_p77 hk, fs_177_81, fs_177_82, fs_177_83, fs_177_84, fs_177_85, fs_177_86_p94 hk, fs_177_87, fs_177_90, fs_177_91, fs_177_92, fs_177_95, fs_177_98, fs_177_99, Option.bind_some, Option.toList_some, Option.toList_none, List.cons_append, List.nil_append, fd_nb0, fd_nb1, fd_nbb, fd_b0, nI_add, pk_mul, ite_not, Classical.not_not, not_false_iff, not_true, and_self, or_true, true_or, ↓reduceIte, if_true, if_false, ite_self, fd_mI, fd_mH, fd_mL, fd_p0, fd_w0, fd_w1, fd_w2, fd_10, fd_00, hc, e0, hn]
      try rfl
    | succ m ih =>
      intro a y x e
      have hc : ¬ nI (n) ≤ nI a := nI_ge (by omega) (by omega)
      rw [fs_177_51]
      simp (disch := first | exact fd_nl_int | exact fd_nl_ref | exact fd_nl_none | assumption | exact nI_ne0 (by omega) (by omega) | exact fd_nb0 | exact fd_nb1 | exact fd_nbb | omega) only [fs_177_0, fs_177_1, fs_177_2, fs_177_3, fs_177_4, fs_177_5, fs_177_6_p77 hk, fs_177_9, fs_177_12, fs_177_13, fs_177_14, fs_177_15_p77 hk, fs_177_18, fs_177_21, fs_177_22, fs_177_25, fs_177_26, fs_177_27, fs_177_28, fs_177_29_p77 hk, fs_177_32_p77 hk, fs_177_35, fs_177_36, fs_177_37, fs_177_40, fs_177_43, fs_177_44, fs_177_45, fs_177_46, fs_177_47, fs_177_48, fs_177_49, fs_177_50, fs_177_52, fs_177_53_p77 hk, fs_177_56, fs_177_57_p93 hk, fs_177_58, fs_177_61, fs_177_62, fs_177_63, fs_177_64, fs_177_65, fs_177_66, fs_177_67, fs_177_68_p77 hk, fs_177_71_p77 hk, fs_177_74, fs_177_77, fs_177_78_p77 hk, fs_177_81, fs_177_82, fs_177_83, fs_177_84, fs_177_85, fs_177_86_p94 hk, fs_177_87, fs_177_90, fs_177_91, fs_177_92, fs_177_95, fs_177_98, fs_177_99, Option.bind_some, Option.toList_some, Option.toList_none, List.cons_append, List.nil_append, fd_nb0, fd_nb1, fd_nbb, fd_b0, nI_add, pk_mul, ite_not, Classical.not_not, not_false_iff, not_true, and_self, or_true, true_or, ↓reduceIte, if_true, if_false, ite_self, fd_mI, fd_mH, fd_mL, fd_p0, fd_w0, fd_w1, fd_w2, fd_10, fd_00, hc, fd_foldS, e0, hn, fm_mInForce0 hk, ih (a + 1) _ _ (by omega)]
      rw [fd_carF, show fd_mdA h 0 3 a = h.1 94 (5 * a + 2) from fd_mdA0]
  have loop1 : ∀ (m a : Nat) (x : Int32) (z : Option Value), a + m = ns → fd_E 177 4 [some (.ref (77)), some (.int (x)), some (.int (nI (a))), z] [] k h = some (some (.int (fd_fold (fd_carF (fd_mdA h 0) (nI t)) n 0 (fd_fold (fd_vaF (fun s => h.1 82 (18 + s)) (fun s => fd_fold (fd_vocF (fd_mdA h 0) (nI s) (nI t)) n 0 (nI 1))) m a x / nI 2 + nI 1))), (k, h)) := by
    intro m
    induction m with
    | zero =>
      intro a x z e
      have hc : nI (ns) ≤ nI a := nI_le (by omega) (by omega)
      rw [fs_177_4]
      simp (disch := first | exact fd_nl_int | exact fd_nl_ref | exact fd_nl_none | assumption | exact nI_ne0 (by omega) (by omega) | exact fd_nb0 | exact fd_nb1 | exact fd_nbb | omega) only [fs_177_0, fs_177_1, fs_177_2, fs_177_3, fs_177_5, fs_177_6_p77 hk, fs_177_9, fs_177_12, fs_177_13, fs_177_14, fs_177_15_p77 hk, fs_177_18, fs_177_21, fs_177_22, fs_177_25, fs_177_26, fs_177_27, fs_177_28, fs_177_29_p77 hk, fs_177_32_p77 hk, fs_177_35, fs_177_36, fs_177_37, fs_177_40, fs_177_43, fs_177_44, fs_177_45, fs_177_46, fs_177_47, fs_177_48, fs_177_49, fs_177_50, fs_177_52, fs_177_53_p77 hk, fs_177_56, fs_177_57_p93 hk, fs_177_58, fs_177_61, fs_177_62, fs_177_63, fs_177_64, fs_177_65, fs_177_66, fs_177_67, fs_177_68_p77 hk, fs_177_71_p77 hk, fs_177_74, fs_177_77, fs_177_78_p77 hk, fs_177_81, fs_177_82, fs_177_83, fs_177_84, fs_177_85, fs_177_86_p94 hk, fs_177_87, fs_177_90, fs_177_91, fs_177_92, fs_177_95, fs_177_98, fs_177_99, Option.bind_some, Option.toList_some, Option.toList_none, List.cons_append, List.nil_append, fd_nb0, fd_nb1, fd_nbb, fd_b0, nI_add, pk_mul, ite_not, Classical.not_not, not_false_iff, not_true, and_self, or_true, true_or, ↓reduceIte, if_true, if_false, ite_self, fd_mI, fd_mH, fd_mL, fd_p0, fd_w0, fd_w1, fd_w2, fd_10, fd_00, hc, e0, e1, (fun y x => loop2 n 0 y x (by omega))]
      try rfl
    | succ m ih =>
      intro a x z e
      have hc : ¬ nI (ns) ≤ nI a := nI_ge (by omega) (by omega)
      rw [fs_177_4]
      simp (disch := first | exact fd_nl_int | exact fd_nl_ref | exact fd_nl_none | assumption | exact nI_ne0 (by omega) (by omega) | exact fd_nb0 | exact fd_nb1 | exact fd_nbb | omega) only [fs_177_0, fs_177_1, fs_177_2, fs_177_3, fs_177_5, fs_177_6_p77 hk, fs_177_9, fs_177_12, fs_177_13, fs_177_14, fs_177_15_p77 hk, fs_177_18, fs_177_21, fs_177_22, fs_177_25, fs_177_26, fs_177_27, fs_177_28, fs_177_29_p77 hk, fs_177_32_p77 hk, fs_177_35, fs_177_36, fs_177_37, fs_177_40, fs_177_43, fs_177_44, fs_177_45, fs_177_46, fs_177_47, fs_177_48, fs_177_49, fs_177_50, fs_177_52, fs_177_53_p77 hk, fs_177_56, fs_177_57_p93 hk, fs_177_58, fs_177_61, fs_177_62, fs_177_63, fs_177_64, fs_177_65, fs_177_66, fs_177_67, fs_177_68_p77 hk, fs_177_71_p77 hk, fs_177_74, fs_177_77, fs_177_78_p77 hk, fs_177_81, fs_177_82, fs_177_83, fs_177_84, fs_177_85, fs_177_86_p94 hk, fs_177_87, fs_177_90, fs_177_91, fs_177_92, fs_177_95, fs_177_98, fs_177_99, Option.bind_some, Option.toList_some, Option.toList_none, List.cons_append, List.nil_append, fd_nb0, fd_nb1, fd_nbb, fd_b0, nI_add, pk_mul, ite_not, Classical.not_not, not_false_iff, not_true, and_self, or_true, true_or, ↓reduceIte, if_true, if_false, ite_self, fd_mI, fd_mH, fd_mL, fd_p0, fd_w0, fd_w1, fd_w2, fd_10, fd_00, hc, fd_foldS, e0, e1, (fun y x => loop2 n 0 y x (by omega)), fm_mHasY hk, fm_mVoicesBy hk (B := 0) (by omega) hn h10, ih (a + 1) _ _ (by omega)]
      unfold fd_vaF; split <;> rfl
  simp (disch := first | exact fd_nl_int | exact fd_nl_ref | exact fd_nl_none | assumption | exact nI_ne0 (by omega) (by omega) | exact fd_nb0 | exact fd_nb1 | exact fd_nbb | omega) only [fs_177_0, fs_177_1, fs_177_2, fs_177_3, fs_177_5, fs_177_6_p77 hk, fs_177_9, fs_177_12, fs_177_13, fs_177_14, fs_177_15_p77 hk, fs_177_18, fs_177_21, fs_177_22, fs_177_25, fs_177_26, fs_177_27, fs_177_28, fs_177_29_p77 hk, fs_177_32_p77 hk, fs_177_35, fs_177_36, fs_177_37, fs_177_40, fs_177_43, fs_177_44, fs_177_45, fs_177_46, fs_177_47, fs_177_48, fs_177_49, fs_177_50, fs_177_52, fs_177_53_p77 hk, fs_177_56, fs_177_57_p93 hk, fs_177_58, fs_177_61, fs_177_62, fs_177_63, fs_177_64, fs_177_65, fs_177_66, fs_177_67, fs_177_68_p77 hk, fs_177_71_p77 hk, fs_177_74, fs_177_77, fs_177_78_p77 hk, fs_177_81, fs_177_82, fs_177_83, fs_177_84, fs_177_85, fs_177_86_p94 hk, fs_177_87, fs_177_90, fs_177_91, fs_177_92, fs_177_95, fs_177_98, fs_177_99, Option.bind_some, Option.toList_some, Option.toList_none, List.cons_append, List.nil_append, fd_nb0, fd_nb1, fd_nbb, fd_b0, nI_add, pk_mul, ite_not, Classical.not_not, not_false_iff, not_true, and_self, or_true, true_or, ↓reduceIte, if_true, if_false, ite_self, fd_mI, fd_mH, fd_mL, fd_p0, fd_w0, fd_w1, fd_w2, fd_10, fd_00, loop1 ns 0 (nI 0) none (by omega)]
theorem fd_lo_at {w l : Nat} (hw : w ≤ 100) (hl : l ≤ 100) : ∃ u, u ≤ 100 ∧ fd_lo (nI w) (nI l) = nI u ∧ ∀ v, v ≤ 100 → (nI v < fd_X (nI w) (nI l) ↔ v < u) := by
  have key : ∀ l, l < 101 → (nI 100 - nI l) / nI 10 = nI ((100 - l) / 10) := by decide +kernel
  have k1 := key l (by omega)
  have hX : (fd_X (nI w) (nI l)).toInt = (w : Int) - ((100 - l) / 10 : Nat) := by
    unfold fd_X
    rw [k1, Int32.toInt_sub, nI_toInt (by omega), nI_toInt (by omega)]
    exact Int.bmod_eq_of_le (by omega) (by omega)
  refine ⟨w - (100 - l) / 10, by omega, ?_, fun v hv => ?_⟩
  · show (if nI 0 < fd_X (nI w) (nI l) then fd_X (nI w) (nI l) else nI 0) = _
    by_cases z : (100 - l) / 10 < w
    · rw [if_pos (Int32.lt_iff_toInt_lt.mpr (by rw [hX, nI_toInt (by omega)]; omega))]
      refine Int32.toInt_inj.mp ?_
      rw [hX, nI_toInt (by omega)]
      omega
    · rw [if_neg (fun y => by rw [Int32.lt_iff_toInt_lt, hX, nI_toInt (by omega)] at y; omega)]
      exact congrArg nI (by omega)
  · rw [Int32.lt_iff_toInt_lt, hX, nI_toInt (by omega)]
    omega
end VOTES
