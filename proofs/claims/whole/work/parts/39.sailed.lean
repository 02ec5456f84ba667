/-! THE CALL sailed -/
section SAIL
variable {k : fd_Sk} {h g : fd_Hp} {fb bb dr b : Nat}
def fd_hsF (inc : Nat → Bool) (K : Nat → Nat) (o H : Nat) : Nat := if inc o = true then H ||| K o else H
def fd_msF (inc : Nat → Bool) (K : Nat → Nat) (o M : Nat) : Nat := if inc o = true then M &&& (15 ^^^ K o) else M
theorem fd_m16 : ∀ a, a < 16 → ∀ c, c < 16 → nI a &&& (nI c ^^^ -1) = nI (a &&& (15 ^^^ c)) := by decide +kernel
theorem fd_o16 : ∀ a, a < 16 → ∀ c, c < 16 → nI a ||| nI c = nI (a ||| c) := by decide +kernel
theorem fd_l16 : ∀ a, a < 16 → ∀ c, c < 16 → a ||| c < 16 ∧ a &&& (15 ^^^ c) < 16 := by decide +kernel
theorem fd_d16 : ∀ a, a < 16 → ∀ b, b < 16 → ∀ c, c < 16 → (a &&& (15 ^^^ b)) &&& (15 ^^^ c) = a &&& (15 ^^^ (b ||| c)) := by decide +kernel
theorem fd_mshs {inc : Nat → Bool} {K : Nat → Nat} {n N : Nat} (hN : N < 16) (hK : ∀ o, o < n → K o < 16) : fd_fold (fd_hsF inc K) n 0 0 < 16 ∧ fd_fold (fd_msF inc K) n 0 N = N &&& (15 ^^^ fd_fold (fd_hsF inc K) n 0 0) := by
  have q := fd_fold_2 (f := fd_hsF inc K) (g := fd_msF inc K) (P := fun _ H M => H < 16 ∧ M = N &&& (15 ^^^ H)) n (i := 0) (x := 0) (y := N) ⟨by omega, (fun a (ha : a < 16) => (show ∀ a, a < 16 → a = a &&& (15 ^^^ 0) by decide +kernel) a ha) N hN⟩ (fun a _ ha H M z => by
    obtain ⟨z1, z2⟩ := z
    unfold fd_hsF fd_msF
    by_cases c : inc a = true
    · rw [if_pos c, if_pos c, z2]
      exact ⟨(fd_l16 H z1 (K a) (hK a (by omega))).1, fd_d16 N hN H z1 (K a) (hK a (by omega))⟩
    · rw [if_neg c, if_neg c]
      exact ⟨z1, z2⟩)
  exact q
theorem fm_missing (hk : fd_Sok k fb bb dr) {n w N s : Nat} {T K : Nat → Nat} (hn : n ≤ 12) (hw : w < 4096) (hs : s < 6) (e0 : h.1 70 0 = nI n) (e1 : h.1 70 1 = nI w) (e2 : ∀ o, o < n → h.1 71 o = nI (T o) ∧ T o < 6) (e3 : ∀ o, o < n → h.1 72 o = nI (K o) ∧ K o < 16) (eN : h.1 73 s = nI N) (hN : N < 16) : fd_E 44 0 [some (.ref (70)), some (.int (nI (s))), none, none] [] k h = some (some (.int (nI (fd_fold (fd_msF (fun o => decide (T o = s) && !w.testBit o) K) n 0 N))), (k, h)) := by
  have loop : ∀ (m a M : Nat), a + m = n → M < 16 → fd_E 44 9 [some (.ref (70)), some (.int (nI (s))), some (.int (nI (M))), some (.int (nI (a)))] [] k h = some (some (.int (nI (fd_fold (fd_msF (fun o => decide (T o = s) && !w.testBit o) K) m a M))), (k, h)) := by
    intro m
    induction m with
    | zero =>
      intro a M e hM
      have hc : nI n ≤ nI a := nI_le (by omega) (by omega)
      rw [fs_44_9]
      simp (disch := first | exact fd_nl_int | exact fd_nl_ref | exact fd_nl_none | assumption | exact nI_ne0 (by omega) (by omega) | exact fd_nb0 | exact fd_nb1 | exact fd_nbb | omega) only [fs_44_0, fs_44_1_p70 hk, fs_44_4, fs_44_5_p73 hk, fs_44_6, fs_44_7, fs_44_8, fs_44_10, fs_44_11_p70 hk, fs_44_14, fs_44_17, fs_44_18_p70 hk, fs_44_21, fs_44_22_p71 hk, fs_44_23, fs_44_24, fs_44_27, fs_44_28_p70 hk, fs_44_31, fs_44_32, fs_44_35, fs_44_38, fs_44_39, fs_44_40_p70 hk, fs_44_43, fs_44_44_p72 hk, fs_44_45, fs_44_46, fs_44_47, fs_44_48, fs_44_49, fs_44_52, fs_44_55, fs_44_56, Option.bind_some, Option.toList_some, Option.toList_none, List.cons_append, List.nil_append, fd_nb0, fd_nb1, fd_nbb, fd_b0, nI_add, pk_mul, ite_not, Classical.not_not, not_false_iff, not_true, and_self, or_true, true_or, ↓reduceIte, if_true, if_false, ite_self, fd_mI, fd_mH, fd_mL, fd_p0, fd_w0, fd_w1, fd_w2, fd_10, fd_00, hc, e0]
      rfl
    | succ m ih =>
      intro a M e hM
      have hc : ¬ nI n ≤ nI a := nI_ge (by omega) (by omega)
      obtain ⟨t1, t2⟩ := e2 a (by omega)
      obtain ⟨k1, k2⟩ := e3 a (by omega)
      have c0 := fd_bit0 (n := w) (j := a) (by omega) (by omega)
      rw [fd_foldS]
      by_cases c : T a = s
      · have d0 : (nI (T a) = nI s) = True := by rw [c]; exact eq_true rfl
        cases q : w.testBit a
        · have d1 : ((nI w >>> (nI a &&& 31)) &&& nI 1 = 0) = True := by rw [c0, q]; exact eq_true rfl
          have i1 := ih (a + 1) (M &&& (15 ^^^ K a)) (by omega) (fd_l16 M hM (K a) k2).2
          have E : fd_msF (fun o => decide (T o = s) && !w.testBit o) K a M = M &&& (15 ^^^ K a) := if_pos (by dsimp only; rw [q, decide_eq_true c]; rfl)
          rw [E, fs_44_9]
          simp (disch := first | exact fd_nl_int | exact fd_nl_ref | exact fd_nl_none | assumption | exact nI_ne0 (by omega) (by omega) | exact fd_nb0 | exact fd_nb1 | exact fd_nbb | omega) only [fs_44_0, fs_44_1_p70 hk, fs_44_4, fs_44_5_p73 hk, fs_44_6, fs_44_7, fs_44_8, fs_44_10, fs_44_11_p70 hk, fs_44_14, fs_44_17, fs_44_18_p70 hk, fs_44_21, fs_44_22_p71 hk, fs_44_23, fs_44_24, fs_44_27, fs_44_28_p70 hk, fs_44_31, fs_44_32, fs_44_35, fs_44_38, fs_44_39, fs_44_40_p70 hk, fs_44_43, fs_44_44_p72 hk, fs_44_45, fs_44_46, fs_44_47, fs_44_48, fs_44_49, fs_44_52, fs_44_55, fs_44_56, Option.bind_some, Option.toList_some, Option.toList_none, List.cons_append, List.nil_append, fd_nb0, fd_nb1, fd_nbb, fd_b0, nI_add, pk_mul, ite_not, Classical.not_not, not_false_iff, not_true, and_self, or_true, true_or, ↓reduceIte, if_true, if_false, ite_self, fd_mI, fd_mH, fd_mL, fd_p0, fd_w0, fd_w1, fd_w2, fd_10, fd_00, hc, e0, t1, d0, e1, fm_has, d1, k1, fd_m16 M hM (K a) k2, i1]
        · have d1 : ((nI w >>> (nI a &&& 31)) &&& nI 1 = 0) = False := by rw [c0, q]; exact eq_false (by decide)
          have i1 := ih (a + 1) M (by omega) hM
          have E : fd_msF (fun o => decide (T o = s) && !w.testBit o) K a M = M := if_neg (by dsimp only; rw [q]; simp)
          rw [E, fs_44_9]
          simp (disch := first | exact fd_nl_int | exact fd_nl_ref | exact fd_nl_none | assumption | exact nI_ne0 (by omega) (by omega) | exact fd_nb0 | exact fd_nb1 | exact fd_nbb | omega) only [fs_44_0, fs_44_1_p70 hk, fs_44_4, fs_44_5_p73 hk, fs_44_6, fs_44_7, fs_44_8, fs_44_10, fs_44_11_p70 hk, fs_44_14, fs_44_17, fs_44_18_p70 hk, fs_44_21, fs_44_22_p71 hk, fs_44_23, fs_44_24, fs_44_27, fs_44_28_p70 hk, fs_44_31, fs_44_32, fs_44_35, fs_44_38, fs_44_39, fs_44_40_p70 hk, fs_44_43, fs_44_44_p72 hk, fs_44_45, fs_44_46, fs_44_47, fs_44_48, fs_44_49, fs_44_52, fs_44_55, fs_44_56, Option.bind_some, Option.toList_some, Option.toList_none, List.cons_append, List.nil_append, fd_nb0, fd_nb1, fd_nbb, fd_b0, nI_add, pk_mul, ite_not, Classical.not_not, not_false_iff, not_true, and_self, or_true, true_or, ↓reduceIte, if_true, if_false, ite_self, fd_mI, fd_mH, fd_mL, fd_p0, fd_w0, fd_w1, fd_w2, fd_10, fd_00, hc, e0, t1, d0, e1, fm_has, d1, i1]
      · have d0 : (nI (T a) = nI s) = False := eq_false (fun z => c (fd_nIj (by omega) (by omega) z))
        have i1 := ih (a + 1) M (by omega) hM
        have E : fd_msF (fun o => decide (T o = s) && !w.testBit o) K a M = M := if_neg (by dsimp only; rw [decide_eq_false c]; simp)
        rw [E, fs_44_9]
        simp (disch := first | exact fd_nl_int | exact fd_nl_ref | exact fd_nl_none | assumption | exact nI_ne0 (by omega) (by omega) | exact fd_nb0 | exact fd_nb1 | exact fd_nbb | omega) only [fs_44_0, fs_44_1_p70 hk, fs_44_4, fs_44_5_p73 hk, fs_44_6, fs_44_7, fs_44_8, fs_44_10, fs_44_11_p70 hk, fs_44_14, fs_44_17, fs_44_18_p70 hk, fs_44_21, fs_44_22_p71 hk, fs_44_23, fs_44_24, fs_44_27, fs_44_28_p70 hk, fs_44_31, fs_44_32, fs_44_35, fs_44_38, fs_44_39, fs_44_40_p70 hk, fs_44_43, fs_44_44_p72 hk, fs_44_45, fs_44_46, fs_44_47, fs_44_48, fs_44_49, fs_44_52, fs_44_55, fs_44_56, Option.bind_some, Option.toList_some, Option.toList_none, List.cons_append, List.nil_append, fd_nb0, fd_nb1, fd_nbb, fd_b0, nI_add, pk_mul, ite_not, Classical.not_not, not_false_iff, not_true, and_self, or_true, true_or, ↓reduceIte, if_true, if_false, ite_self, fd_mI, fd_mH, fd_mL, fd_p0, fd_w0, fd_w1, fd_w2, fd_10, fd_00, hc, e0, t1, d0, i1]
  have i0 := loop n 0 N (by omega) hN
  simp (disch := first | exact fd_nl_int | exact fd_nl_ref | exact fd_nl_none | assumption | exact nI_ne0 (by omega) (by omega) | exact fd_nb0 | exact fd_nb1 | exact fd_nbb | omega) only [fs_44_0, fs_44_1_p70 hk, fs_44_4, fs_44_5_p73 hk, fs_44_6, fs_44_7, fs_44_8, fs_44_10, fs_44_11_p70 hk, fs_44_14, fs_44_17, fs_44_18_p70 hk, fs_44_21, fs_44_22_p71 hk, fs_44_23, fs_44_24, fs_44_27, fs_44_28_p70 hk, fs_44_31, fs_44_32, fs_44_35, fs_44_38, fs_44_39, fs_44_40_p70 hk, fs_44_43, fs_44_44_p72 hk, fs_44_45, fs_44_46, fs_44_47, fs_44_48, fs_44_49, fs_44_52, fs_44_55, fs_44_56, Option.bind_some, Option.toList_some, Option.toList_none, List.cons_append, List.nil_append, fd_nb0, fd_nb1, fd_nbb, fd_b0, nI_add, pk_mul, ite_not, Classical.not_not, not_false_iff, not_true, and_self, or_true, true_or, ↓reduceIte, if_true, if_false, ite_self, fd_mI, fd_mH, fd_mL, fd_p0, fd_w0, fd_w1, fd_w2, fd_10, fd_00, eN, i0]
theorem fm_canSail (hk : fd_Sok k fb bb dr) {n w W N s : Nat} {T K : Nat → Nat} (hn : n ≤ 12) (hW : W < 4096) (hs : s < 6) (e0 : h.1 77 43 = nI n) (e1 : ∀ o, o < n → h.1 104 o = if w.testBit o then nI 1 else nI 0) (e2 : ∀ o, o < n → h.1 102 o = nI (T o) ∧ T o < 6) (e3 : ∀ o, o < n → h.1 103 o = nI (K o) ∧ K o < 16) (eN : h.1 81 s = nI N) (hN : N < 16) : fd_E 189 0 [some (.ref (77)), some (.int (nI (s))), some (.int (nI (W))), none, none] [] k h = some (some (.int (fd_b (nI (N &&& (15 ^^^ fd_fold (fd_hsF (fun o => decide (T o = s) && (!w.testBit o || W.testBit o)) K) n 0 0)) = 0))), (k, h)) := by
  have loop : ∀ (m a H : Nat), a + m = n → H < 16 → fd_fold (fd_hsF (fun o => decide (T o = s) && (!w.testBit o || W.testBit o)) K) m a H < 16 → fd_E 189 5 [some (.ref (77)), some (.int (nI (s))), some (.int (nI (W))), some (.int (nI (H))), some (.int (nI (a)))] [] k h = some (some (.int (fd_b (nI (N &&& (15 ^^^ fd_fold (fd_hsF (fun o => decide (T o = s) && (!w.testBit o || W.testBit o)) K) m a H)) = 0))), (k, h)) := by
    intro m
    induction m with
    | zero =>
      intro a H e hH _
      have hc : nI n ≤ nI a := nI_le (by omega) (by omega)
      rw [fs_189_5]
      simp (disch := first | exact fd_nl_int | exact fd_nl_ref | exact fd_nl_none | assumption | exact nI_ne0 (by omega) (by omega) | exact fd_nb0 | exact fd_nb1 | exact fd_nbb | omega) only [fs_189_0, fs_189_1, fs_189_2, fs_189_3, fs_189_7, fs_189_8_p77 hk, fs_189_11, fs_189_14, fs_189_15, fs_189_16_p77 hk, fs_189_19, fs_189_21_p102 hk, fs_189_22, fs_189_23, fs_189_26, fs_189_27_p77 hk, fs_189_30, fs_189_32_p104 hk, fs_189_33, fs_189_36, fs_189_37, fs_189_39, fs_189_40, fs_189_41, fs_189_42, fs_189_43, fs_189_46, fs_189_47_p77 hk, fs_189_50, fs_189_52_p103 hk, fs_189_53, fs_189_56, fs_189_57, fs_189_58, fs_189_59, fs_189_62, fs_189_65, fs_189_66_p77 hk, fs_189_69, fs_189_70_p81 hk, fs_189_71, fs_189_72, fs_189_73, fs_189_74, fs_189_75, fs_189_78, fs_189_79, fs_189_82, fs_189_83, Option.bind_some, Option.toList_some, Option.toList_none, List.cons_append, List.nil_append, fd_nb0, fd_nb1, fd_nbb, fd_b0, nI_add, pk_mul, ite_not, Classical.not_not, not_false_iff, not_true, and_self, or_true, true_or, ↓reduceIte, if_true, if_false, ite_self, fd_mI, fd_mH, fd_mL, fd_p0, fd_w0, fd_w1, fd_w2, fd_10, fd_00, hc, e0, eN, fd_m16 N hN H hH]
      unfold fd_fold fd_b
      split <;> rfl
    | succ m ih =>
      intro a H e hH hF
      have hc : ¬ nI n ≤ nI a := nI_ge (by omega) (by omega)
      obtain ⟨t1, t2⟩ := e2 a (by omega)
      obtain ⟨k1, k2⟩ := e3 a (by omega)
      have a1 := e1 a (by omega)
      have c0 := fd_bit1 (n := W) (j := a) (by omega) (by omega)
      have oo := fd_o16 H hH (K a) k2
      rw [fd_foldS] at hF
      rw [fd_foldS]
      have no : fd_hsF (fun o => decide (T o = s) && (!w.testBit o || W.testBit o)) K a H = H → fd_E 189 5 [some (.ref (77)), some (.int (nI (s))), some (.int (nI (W))), some (.int (nI (H))), some (.int (nI (a + 1)))] [] k h = some (some (.int (fd_b (nI (N &&& (15 ^^^ fd_fold (fd_hsF (fun o => decide (T o = s) && (!w.testBit o || W.testBit o)) K) m (a + 1) (fd_hsF (fun o => decide (T o = s) && (!w.testBit o || W.testBit o)) K a H))) = 0))), (k, h)) := fun E => by
        rw [E] at hF ⊢
        exact ih (a + 1) H (by omega) hH hF
      have ya : fd_hsF (fun o => decide (T o = s) && (!w.testBit o || W.testBit o)) K a H = H ||| K a → fd_E 189 5 [some (.ref (77)), some (.int (nI (s))), some (.int (nI (W))), some (.int (nI (H ||| K a))), some (.int (nI (a + 1)))] [] k h = some (some (.int (fd_b (nI (N &&& (15 ^^^ fd_fold (fd_hsF (fun o => decide (T o = s) && (!w.testBit o || W.testBit o)) K) m (a + 1) (fd_hsF (fun o => decide (T o = s) && (!w.testBit o || W.testBit o)) K a H))) = 0))), (k, h)) := fun E => by
        rw [E] at hF ⊢
        exact ih (a + 1) (H ||| K a) (by omega) (fd_l16 H hH (K a) k2).1 hF
      by_cases c : T a = s
      · have d0 : (nI (T a) = nI s) = True := by rw [c]; exact eq_true rfl
        cases q : w.testBit a
        · rw [q] at a1
          have a2 : h.1 104 a = nI 0 := a1
          have i1 := ya (if_pos (by dsimp only; rw [q, decide_eq_true c]; rfl))
          rw [fs_189_5]
          simp (disch := first | exact fd_nl_int | exact fd_nl_ref | exact fd_nl_none | assumption | exact nI_ne0 (by omega) (by omega) | exact fd_nb0 | exact fd_nb1 | exact fd_nbb | omega) only [fs_189_0, fs_189_1, fs_189_2, fs_189_3, fs_189_7, fs_189_8_p77 hk, fs_189_11, fs_189_14, fs_189_15, fs_189_16_p77 hk, fs_189_19, fs_189_21_p102 hk, fs_189_22, fs_189_23, fs_189_26, fs_189_27_p77 hk, fs_189_30, fs_189_32_p104 hk, fs_189_33, fs_189_36, fs_189_37, fs_189_39, fs_189_40, fs_189_41, fs_189_42, fs_189_43, fs_189_46, fs_189_47_p77 hk, fs_189_50, fs_189_52_p103 hk, fs_189_53, fs_189_56, fs_189_57, fs_189_58, fs_189_59, fs_189_62, fs_189_65, fs_189_66_p77 hk, fs_189_69, fs_189_70_p81 hk, fs_189_71, fs_189_72, fs_189_73, fs_189_74, fs_189_75, fs_189_78, fs_189_79, fs_189_82, fs_189_83, Option.bind_some, Option.toList_some, Option.toList_none, List.cons_append, List.nil_append, fd_nb0, fd_nb1, fd_nbb, fd_b0, nI_add, pk_mul, ite_not, Classical.not_not, not_false_iff, not_true, and_self, or_true, true_or, ↓reduceIte, if_true, if_false, ite_self, fd_mI, fd_mH, fd_mL, fd_p0, fd_w0, fd_w1, fd_w2, fd_10, fd_00, hc, e0, t1, d0, a2, k1, oo, i1]
        · rw [q] at a1
          have a2 : h.1 104 a = nI 1 := a1
          cases q2 : W.testBit a
          · have d1 : ((nI W >>> (nI a &&& 31)) &&& nI 1 = nI 1) = False := by rw [c0, q2]; exact eq_false (by decide)
            have i1 := no (if_neg (by dsimp only; rw [q, q2, decide_eq_true c]; decide))
            rw [fs_189_5]
            simp (disch := first | exact fd_nl_int | exact fd_nl_ref | exact fd_nl_none | assumption | exact nI_ne0 (by omega) (by omega) | exact fd_nb0 | exact fd_nb1 | exact fd_nbb | omega) only [fs_189_0, fs_189_1, fs_189_2, fs_189_3, fs_189_7, fs_189_8_p77 hk, fs_189_11, fs_189_14, fs_189_15, fs_189_16_p77 hk, fs_189_19, fs_189_21_p102 hk, fs_189_22, fs_189_23, fs_189_26, fs_189_27_p77 hk, fs_189_30, fs_189_32_p104 hk, fs_189_33, fs_189_36, fs_189_37, fs_189_39, fs_189_40, fs_189_41, fs_189_42, fs_189_43, fs_189_46, fs_189_47_p77 hk, fs_189_50, fs_189_52_p103 hk, fs_189_53, fs_189_56, fs_189_57, fs_189_58, fs_189_59, fs_189_62, fs_189_65, fs_189_66_p77 hk, fs_189_69, fs_189_70_p81 hk, fs_189_71, fs_189_72, fs_189_73, fs_189_74, fs_189_75, fs_189_78, fs_189_79, fs_189_82, fs_189_83, Option.bind_some, Option.toList_some, Option.toList_none, List.cons_append, List.nil_append, fd_nb0, fd_nb1, fd_nbb, fd_b0, nI_add, pk_mul, ite_not, Classical.not_not, not_false_iff, not_true, and_self, or_true, true_or, ↓reduceIte, if_true, if_false, ite_self, fd_mI, fd_mH, fd_mL, fd_p0, fd_w0, fd_w1, fd_w2, fd_10, fd_00, hc, e0, t1, d0, a2, d1, fd_or0, i1]
          · have d1 : ((nI W >>> (nI a &&& 31)) &&& nI 1 = nI 1) = True := by rw [c0, q2]; exact eq_true rfl
            have i1 := ya (if_pos (by dsimp only; rw [q, q2, decide_eq_true c]; rfl))
            rw [fs_189_5]
            simp (disch := first | exact fd_nl_int | exact fd_nl_ref | exact fd_nl_none | assumption | exact nI_ne0 (by omega) (by omega) | exact fd_nb0 | exact fd_nb1 | exact fd_nbb | omega) only [fs_189_0, fs_189_1, fs_189_2, fs_189_3, fs_189_7, fs_189_8_p77 hk, fs_189_11, fs_189_14, fs_189_15, fs_189_16_p77 hk, fs_189_19, fs_189_21_p102 hk, fs_189_22, fs_189_23, fs_189_26, fs_189_27_p77 hk, fs_189_30, fs_189_32_p104 hk, fs_189_33, fs_189_36, fs_189_37, fs_189_39, fs_189_40, fs_189_41, fs_189_42, fs_189_43, fs_189_46, fs_189_47_p77 hk, fs_189_50, fs_189_52_p103 hk, fs_189_53, fs_189_56, fs_189_57, fs_189_58, fs_189_59, fs_189_62, fs_189_65, fs_189_66_p77 hk, fs_189_69, fs_189_70_p81 hk, fs_189_71, fs_189_72, fs_189_73, fs_189_74, fs_189_75, fs_189_78, fs_189_79, fs_189_82, fs_189_83, Option.bind_some, Option.toList_some, Option.toList_none, List.cons_append, List.nil_append, fd_nb0, fd_nb1, fd_nbb, fd_b0, nI_add, pk_mul, ite_not, Classical.not_not, not_false_iff, not_true, and_self, or_true, true_or, ↓reduceIte, if_true, if_false, ite_self, fd_mI, fd_mH, fd_mL, fd_p0, fd_w0, fd_w1, fd_w2, fd_10, fd_00, hc, e0, t1, d0, a2, d1, k1, oo, i1]
      · have d0 : (nI (T a) = nI s) = False := eq_false (fun z => c (fd_nIj (by omega) (by omega) z))
        have i1 := no (if_neg (by dsimp only; rw [decide_eq_false c]; simp))
        rw [fs_189_5]
        simp (disch := first | exact fd_nl_int | exact fd_nl_ref | exact fd_nl_none | assumption | exact nI_ne0 (by omega) (by omega) | exact fd_nb0 | exact fd_nb1 | exact fd_nbb | omega) only [fs_189_0, fs_189_1, fs_189_2, fs_189_3, fs_189_7, fs_189_8_p77 hk, fs_189_11, fs_189_14, fs_189_15, fs_189_16_p77 hk, fs_189_19, fs_189_21_p102 hk, fs_189_22, fs_189_23, fs_189_26, fs_189_27_p77 hk, fs_189_30, fs_189_32_p104 hk, fs_189_33, fs_189_36, fs_189_37, fs_189_39, fs_189_40, fs_189_41, fs_189_42, fs_189_43, fs_189_46, fs_189_47_p77 hk, fs_189_50, fs_189_52_p103 hk, fs_189_53, fs_189_56, fs_189_57, fs_189_58, fs_189_59, fs_189_62, fs_189_65, fs_189_66_p77 hk, fs_189_69, fs_189_70_p81 hk, fs_189_71, fs_189_72, fs_189_73, fs_189_74, fs_189_75, fs_189_78, fs_189_79, fs_189_82, fs_189_83, Option.bind_some, Option.toList_some, Option.toList_none, List.cons_append, List.nil_append, fd_nb0, fd_nb1, fd_nbb, fd_b0, nI_add, pk_mul, ite_not, Classical.not_not, not_false_iff, not_true, and_self, or_true, true_or, ↓reduceIte, if_true, if_false, ite_self, fd_mI, fd_mH, fd_mL, fd_p0, fd_w0, fd_w1, fd_w2, fd_10, fd_00, hc, e0, t1, d0, fd_or0, i1]
  have hF := (fd_mshs (inc := fun o => decide (T o = s) && (!w.testBit o || W.testBit o)) (K := K) (n := n) hN (fun o ho => (e3 o ho).2)).1
  have i0 := loop n 0 0 (by omega) (by omega) hF
  simp (disch := first | exact fd_nl_int | exact fd_nl_ref | exact fd_nl_none | assumption | exact nI_ne0 (by omega) (by omega) | exact fd_nb0 | exact fd_nb1 | exact fd_nbb | omega) only [fs_189_0, fs_189_1, fs_189_2, fs_189_3, fs_189_7, fs_189_8_p77 hk, fs_189_11, fs_189_14, fs_189_15, fs_189_16_p77 hk, fs_189_19, fs_189_21_p102 hk, fs_189_22, fs_189_23, fs_189_26, fs_189_27_p77 hk, fs_189_30, fs_189_32_p104 hk, fs_189_33, fs_189_36, fs_189_37, fs_189_39, fs_189_40, fs_189_41, fs_189_42, fs_189_43, fs_189_46, fs_189_47_p77 hk, fs_189_50, fs_189_52_p103 hk, fs_189_53, fs_189_56, fs_189_57, fs_189_58, fs_189_59, fs_189_62, fs_189_65, fs_189_66_p77 hk, fs_189_69, fs_189_70_p81 hk, fs_189_71, fs_189_72, fs_189_73, fs_189_74, fs_189_75, fs_189_78, fs_189_79, fs_189_82, fs_189_83, Option.bind_some, Option.toList_some, Option.toList_none, List.cons_append, List.nil_append, fd_nb0, fd_nb1, fd_nbb, fd_b0, nI_add, pk_mul, ite_not, Classical.not_not, not_false_iff, not_true, and_self, or_true, true_or, ↓reduceIte, if_true, if_false, ite_self, fd_mI, fd_mH, fd_mL, fd_p0, fd_w0, fd_w1, fd_w2, fd_10, fd_00, i0]
/-- the officers, in plain numbers -/
theorem fd_offs {ns : Nat} (OF : fd_Iof h ns) : ∃ (n w : Nat) (T K : Nat → Nat), n ≤ 12 ∧ w < 2 ^ n ∧ h.1 70 0 = nI n ∧ h.1 77 43 = nI n ∧ h.1 70 1 = nI w ∧ (∀ o, o < n → h.1 104 o = if w.testBit o then nI 1 else nI 0) ∧ (∀ o, o < n → h.1 71 o = nI (T o) ∧ T o < 6) ∧ (∀ o, o < n → h.1 102 o = nI (T o) ∧ T o < 6) ∧ (∀ o, o < n → h.1 72 o = nI (K o) ∧ K o < 16) ∧ (∀ o, o < n → h.1 103 o = nI (K o) ∧ K o < 16) := by
  obtain ⟨⟨n, w, hn, hw, e1, e2, e4, e3⟩, O2, O3⟩ := OF
  refine ⟨n, w, fun o => (h.1 71 o).toNatClampNeg, fun o => (h.1 72 o).toNatClampNeg, hn, hw, e1, e2, e4, fun o ho => (e3 o ho).2.2, fun o ho => ?_, fun o ho => ?_, fun o ho => ?_, fun o ho => ?_⟩
  all_goals obtain ⟨⟨t, _, t1, t2, t3⟩, ⟨q, _, q1, q2, q3⟩, _⟩ := e3 o ho
  · dsimp only; rw [t2, fd_cl (by omega)]; exact ⟨rfl, by omega⟩
  · dsimp only; rw [t2, t3, fd_cl (by omega)]; exact ⟨rfl, by omega⟩
  · dsimp only; rw [q2, fd_cl (by omega)]; exact ⟨rfl, by omega⟩
  · dsimp only; rw [q2, q3, fd_cl (by omega)]; exact ⟨rfl, by omega⟩
theorem fc_sailed (I : fd_Inv k h) : fd_Ag k h 97 [some (.ref (0)), none, none] 190 [some (.ref (77)), none, none] := by
  have I0 := I; obtain ⟨fb, bb, dr, ns, np, nb, t, hk, F, ht, TX, B0, B1, FE, BA, OF, PL⟩ := I0; have F0 := F; simp only [fd_Fl, Nat.reduceAdd] at F0; obtain ⟨⟨b1, b2, b3, b4⟩, ⟨f1, f2, f3, f4, f5, f6, f7⟩, ⟨g1, g2, g3, g4⟩, S, O, T⟩ := F0
  obtain ⟨n, w, T, K, hn, hw, e1, e2, e4, a1, t1, t2, k1, k2⟩ := fd_offs OF
  have hp := fd_p2 hn
  have loop : ∀ (m a : Nat) (x : Int32), a + m = ns → ∃ z, fd_E 97 4 [some (.ref (0)), some (.int (x)), some (.int (nI (a)))] [] k h = some (some (.int (z)), (k, h)) ∧ fd_E 190 4 [some (.ref (77)), some (.int (x)), some (.int (nI (a)))] [] k h = some (some (.int (z)), (k, h)) := by
    intro m
    induction m with
    | zero =>
      intro a x e
      have hc : nI ns ≤ nI a := nI_le (by omega) (by omega)
      refine ⟨x, ?_, ?_⟩
      · rw [fs_97_4]
        simp (disch := first | exact fd_nl_int | exact fd_nl_ref | exact fd_nl_none | assumption | exact nI_ne0 (by omega) (by omega) | exact fd_nb0 | exact fd_nb1 | exact fd_nbb | omega) only [fs_97_0, fs_97_1, fs_97_2, fs_97_3, fs_97_5, fs_97_6_p0 hk, fs_97_9_p1 hk, fs_97_12, fs_97_15, fs_97_16_p0 hk, fs_97_19, fs_97_20_p70 hk, fs_97_23, fs_97_26, fs_97_27, fs_97_28, fs_97_29, fs_97_30, fs_97_31, fs_97_32, fs_97_35, fs_97_38, fs_97_39, Option.bind_some, Option.toList_some, Option.toList_none, List.cons_append, List.nil_append, fd_nb0, fd_nb1, fd_nbb, fd_b0, nI_add, pk_mul, ite_not, Classical.not_not, not_false_iff, not_true, and_self, or_true, true_or, ↓reduceIte, if_true, if_false, ite_self, fd_mI, fd_mH, fd_mL, fd_p0, fd_w0, fd_w1, fd_w2, fd_10, fd_00, hc, f2]
      · rw [fs_190_4]
        simp (disch := first | exact fd_nl_int | exact fd_nl_ref | exact fd_nl_none | assumption | exact nI_ne0 (by omega) (by omega) | exact fd_nb0 | exact fd_nb1 | exact fd_nbb | omega) only [fs_190_0, fs_190_1, fs_190_2, fs_190_3, fs_190_5, fs_190_6_p77 hk, fs_190_9, fs_190_12, fs_190_13, fs_190_14, fs_190_15, fs_190_16_p77 hk, fs_190_19, fs_190_22, fs_190_23, fs_190_24, fs_190_25, fs_190_28, fs_190_29, fs_190_30, fs_190_31, fs_190_34, fs_190_37, fs_190_38, Option.bind_some, Option.toList_some, Option.toList_none, List.cons_append, List.nil_append, fd_nb0, fd_nb1, fd_nbb, fd_b0, nI_add, pk_mul, ite_not, Classical.not_not, not_false_iff, not_true, and_self, or_true, true_or, ↓reduceIte, if_true, if_false, ite_self, fd_mI, fd_mH, fd_mL, fd_p0, fd_w0, fd_w1, fd_w2, fd_10, fd_00, hc, f3]
    | succ m ih =>
      intro a x e
      have hc : ¬ nI ns ≤ nI a := nI_ge (by omega) (by omega)
      obtain ⟨N, _, N1, N2, N3⟩ := OF.2.1 a (by omega)
      have A := fm_missing hk hn (show w < 4096 by omega) (show a < 6 by omega) e1 e4 t1 k1 N2 (show N < 16 by omega)
      have B := fm_canSail (W := 0) hk hn (by omega) (show a < 6 by omega) e2 a1 t2 k2 N3 (show N < 16 by omega)
      have C := fd_mshs (inc := fun o => decide (T o = a) && !w.testBit o) (K := K) (n := n) (show N < 16 by omega) (fun o ho => (k1 o ho).2)
      have D : (fun o => decide (T o = a) && (!w.testBit o || Nat.testBit 0 o)) = fun o => decide (T o = a) && !w.testBit o := by
        funext o
        rw [Nat.zero_testBit, Bool.or_false]
      rw [C.2] at A
      rw [D] at B
      by_cases c : nI (N &&& (15 ^^^ fd_fold (fd_hsF (fun o => decide (T o = a) && !w.testBit o) K) n 0 0)) = 0
      · obtain ⟨z, z1, z2⟩ := ih (a + 1) (x ||| nI 1 <<< (nI a &&& 31)) (by omega)
        rw [fd_bt c] at B
        refine ⟨z, ?_, ?_⟩
        · rw [fs_97_4]
          simp (disch := first | exact fd_nl_int | exact fd_nl_ref | exact fd_nl_none | assumption | exact nI_ne0 (by omega) (by omega) | exact fd_nb0 | exact fd_nb1 | exact fd_nbb | omega) only [fs_97_0, fs_97_1, fs_97_2, fs_97_3, fs_97_5, fs_97_6_p0 hk, fs_97_9_p1 hk, fs_97_12, fs_97_15, fs_97_16_p0 hk, fs_97_19, fs_97_20_p70 hk, fs_97_23, fs_97_26, fs_97_27, fs_97_28, fs_97_29, fs_97_30, fs_97_31, fs_97_32, fs_97_35, fs_97_38, fs_97_39, Option.bind_some, Option.toList_some, Option.toList_none, List.cons_append, List.nil_append, fd_nb0, fd_nb1, fd_nbb, fd_b0, nI_add, pk_mul, ite_not, Classical.not_not, not_false_iff, not_true, and_self, or_true, true_or, ↓reduceIte, if_true, if_false, ite_self, fd_mI, fd_mH, fd_mL, fd_p0, fd_w0, fd_w1, fd_w2, fd_10, fd_00, hc, f2, A, eq_true c, z1]
        · rw [fs_190_4]
          simp (disch := first | exact fd_nl_int | exact fd_nl_ref | exact fd_nl_none | assumption | exact nI_ne0 (by omega) (by omega) | exact fd_nb0 | exact fd_nb1 | exact fd_nbb | omega) only [fs_190_0, fs_190_1, fs_190_2, fs_190_3, fs_190_5, fs_190_6_p77 hk, fs_190_9, fs_190_12, fs_190_13, fs_190_14, fs_190_15, fs_190_16_p77 hk, fs_190_19, fs_190_22, fs_190_23, fs_190_24, fs_190_25, fs_190_28, fs_190_29, fs_190_30, fs_190_31, fs_190_34, fs_190_37, fs_190_38, Option.bind_some, Option.toList_some, Option.toList_none, List.cons_append, List.nil_append, fd_nb0, fd_nb1, fd_nbb, fd_b0, nI_add, pk_mul, ite_not, Classical.not_not, not_false_iff, not_true, and_self, or_true, true_or, ↓reduceIte, if_true, if_false, ite_self, fd_mI, fd_mH, fd_mL, fd_p0, fd_w0, fd_w1, fd_w2, fd_10, fd_00, hc, f3, B, z2]
      · obtain ⟨z, z1, z2⟩ := ih (a + 1) x (by omega)
        rw [fd_bf c] at B
        refine ⟨z, ?_, ?_⟩
        · rw [fs_97_4]
          simp (disch := first | exact fd_nl_int | exact fd_nl_ref | exact fd_nl_none | assumption | exact nI_ne0 (by omega) (by omega) | exact fd_nb0 | exact fd_nb1 | exact fd_nbb | omega) only [fs_97_0, fs_97_1, fs_97_2, fs_97_3, fs_97_5, fs_97_6_p0 hk, fs_97_9_p1 hk, fs_97_12, fs_97_15, fs_97_16_p0 hk, fs_97_19, fs_97_20_p70 hk, fs_97_23, fs_97_26, fs_97_27, fs_97_28, fs_97_29, fs_97_30, fs_97_31, fs_97_32, fs_97_35, fs_97_38, fs_97_39, Option.bind_some, Option.toList_some, Option.toList_none, List.cons_append, List.nil_append, fd_nb0, fd_nb1, fd_nbb, fd_b0, nI_add, pk_mul, ite_not, Classical.not_not, not_false_iff, not_true, and_self, or_true, true_or, ↓reduceIte, if_true, if_false, ite_self, fd_mI, fd_mH, fd_mL, fd_p0, fd_w0, fd_w1, fd_w2, fd_10, fd_00, hc, f2, A, c, z1]
        · rw [fs_190_4]
          simp (disch := first | exact fd_nl_int | exact fd_nl_ref | exact fd_nl_none | assumption | exact nI_ne0 (by omega) (by omega) | exact fd_nb0 | exact fd_nb1 | exact fd_nbb | omega) only [fs_190_0, fs_190_1, fs_190_2, fs_190_3, fs_190_5, fs_190_6_p77 hk, fs_190_9, fs_190_12, fs_190_13, fs_190_14, fs_190_15, fs_190_16_p77 hk, fs_190_19, fs_190_22, fs_190_23, fs_190_24, fs_190_25, fs_190_28, fs_190_29, fs_190_30, fs_190_31, fs_190_34, fs_190_37, fs_190_38, Option.bind_some, Option.toList_some, Option.toList_none, List.cons_append, List.nil_append, fd_nb0, fd_nb1, fd_nbb, fd_b0, nI_add, pk_mul, ite_not, Classical.not_not, not_false_iff, not_true, and_self, or_true, true_or, ↓reduceIte, if_true, if_false, ite_self, fd_mI, fd_mH, fd_mL, fd_p0, fd_w0, fd_w1, fd_w2, fd_10, fd_00, hc, f3, B, fd_or0, z2]
  obtain ⟨z, z1, z2⟩ := loop ns 0 (nI 0) (by omega)
  exact fd_ag_ro I (v := z) (w := z) (by simp (disch := first | exact fd_nl_int | exact fd_nl_ref | exact fd_nl_none | assumption | exact nI_ne0 (by omega) (by omega) | exact fd_nb0 | exact fd_nb1 | exact fd_nbb | omega) only [fs_97_0, fs_97_1, fs_97_2, fs_97_3, fs_97_5, fs_97_6_p0 hk, fs_97_9_p1 hk, fs_97_12, fs_97_15, fs_97_16_p0 hk, fs_97_19, fs_97_20_p70 hk, fs_97_23, fs_97_26, fs_97_27, fs_97_28, fs_97_29, fs_97_30, fs_97_31, fs_97_32, fs_97_35, fs_97_38, fs_97_39, Option.bind_some, Option.toList_some, Option.toList_none, List.cons_append, List.nil_append, fd_nb0, fd_nb1, fd_nbb, fd_b0, nI_add, pk_mul, ite_not, Classical.not_not, not_false_iff, not_true, and_self, or_true, true_or, ↓reduceIte, if_true, if_false, ite_self, fd_mI, fd_mH, fd_mL, fd_p0, fd_w0, fd_w1, fd_w2, fd_10, fd_00, fm_isShip hk, fm_isHour, fm_isBook, fm_within, fm_isCell, fm_canPass hk, f1, f2, f4, b1, z1, z2]) (by simp (disch := first | exact fd_nl_int | exact fd_nl_ref | exact fd_nl_none | assumption | exact nI_ne0 (by omega) (by omega) | exact fd_nb0 | exact fd_nb1 | exact fd_nbb | omega) only [fs_190_0, fs_190_1, fs_190_2, fs_190_3, fs_190_5, fs_190_6_p77 hk, fs_190_9, fs_190_12, fs_190_13, fs_190_14, fs_190_15, fs_190_16_p77 hk, fs_190_19, fs_190_22, fs_190_23, fs_190_24, fs_190_25, fs_190_28, fs_190_29, fs_190_30, fs_190_31, fs_190_34, fs_190_37, fs_190_38, Option.bind_some, Option.toList_some, Option.toList_none, List.cons_append, List.nil_append, fd_nb0, fd_nb1, fd_nbb, fd_b0, nI_add, pk_mul, ite_not, Classical.not_not, not_false_iff, not_true, and_self, or_true, true_or, ↓reduceIte, if_true, if_false, ite_self, fd_mI, fd_mH, fd_mL, fd_p0, fd_w0, fd_w1, fd_w2, fd_10, fd_00, fm_mIsShip hk, fm_mIn, fm_mIsHour, fm_mIsBook, fm_mIsCell, f3, f5, ht, b1, z1, z2]) rfl
end SAIL
