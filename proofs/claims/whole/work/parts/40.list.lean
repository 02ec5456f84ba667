/-! THE CALL list -/
section LIST
variable {k : fd_Sk} {h g : fd_Hp} {fb bb dr b : Nat}
theorem fd_andN {a c : Nat} : nI a &&& nI c = nI (a &&& c) := by
  refine Int32.toBitVec_inj.mp ?_
  show BitVec.ofNat 32 a &&& BitVec.ofNat 32 c = BitVec.ofNat 32 (a &&& c)
  rw [BitVec.ofNat_and]
theorem fd_orN {a c : Nat} : nI a ||| nI c = nI (a ||| c) := by
  refine Int32.toBitVec_inj.mp ?_
  show BitVec.ofNat 32 a ||| BitVec.ofNat 32 c = BitVec.ofNat 32 (a ||| c)
  rw [BitVec.ofNat_or]
theorem fd_xorN {a c : Nat} : nI a ^^^ nI c = nI (a ^^^ c) := by
  refine Int32.toBitVec_inj.mp ?_
  show BitVec.ofNat 32 a ^^^ BitVec.ofNat 32 c = BitVec.ofNat 32 (a ^^^ c)
  rw [BitVec.ofNat_xor]
/-- a without c -/
def fd_dn (a c : Nat) : Nat := a &&& (c ^^^ 4294967295)
theorem fd_dnN {a c : Nat} : nI a &&& (nI c ^^^ -1) = nI (fd_dn a c) := by
  rw [show (-1 : Int32) = nI 4294967295 from rfl, fd_xorN, fd_andN]
  rfl
theorem fd_dn_lt {a c n : Nat} (ha : a < 2 ^ n) : fd_dn a c < 2 ^ n := by
  unfold fd_dn
  rw [Nat.and_comm]
  exact Nat.and_lt_two_pow _ ha
theorem fd_dn_bit {a c i : Nat} (hi : i < 32) : (fd_dn a c).testBit i = (a.testBit i && !c.testBit i) := by
  unfold fd_dn
  rw [Nat.testBit_and, Nat.testBit_xor, show (4294967295 : Nat) = 2 ^ 32 - 1 from rfl, Nat.testBit_two_pow_sub_one, decide_eq_true hi, Bool.xor_true]
theorem fm_sendAshore (hk : fd_Sok k fb bb dr) {w s : Nat} (e : h.1 70 1 = nI w) (hs : s < 4096) : fd_E 42 0 [some (.ref (70)), some (.int (nI (s))), none] [] k h = some (some (.int (nI (fd_bs (fd_dn s w) 12))), (k, fd_w h 70 1 (nI (w ||| s)))) := by
  have q : fd_dn s w < 4096 := fd_dn_lt (n := 12) hs
  have q2 := fun (g : fd_Hp) => fm_bitCount (k := k) (h := g) q
  simp (disch := first | exact fd_nl_int | exact fd_nl_ref | exact fd_nl_none | assumption | exact nI_ne0 (by omega) (by omega) | exact fd_nb0 | exact fd_nb1 | exact fd_nbb | omega) only [fs_42_0, fs_42_1, fs_42_2_p70 hk, fs_42_5, fs_42_6, fs_42_7, fs_42_8, fs_42_9, fs_42_10, fs_42_11_p70 hk, fs_42_14, fs_42_15, fs_42_16_p70 hk, fs_42_19, fs_42_20, fs_42_23, Option.bind_some, Option.toList_some, Option.toList_none, List.cons_append, List.nil_append, fd_nb0, fd_nb1, fd_nbb, fd_b0, nI_add, pk_mul, ite_not, Classical.not_not, not_false_iff, not_true, and_self, or_true, true_or, ↓reduceIte, if_true, if_false, ite_self, fd_mI, fd_mH, fd_mL, fd_p0, fd_w0, fd_w1, fd_w2, fd_10, fd_00, e, fd_dnN, fd_orN, q2]
theorem fm_bringBack (hk : fd_Sok k fb bb dr) {w s : Nat} (e : h.1 70 1 = nI w) (hs : s < 4096) : fd_E 43 0 [some (.ref (70)), some (.int (nI (s))), none] [] k h = some (some (.int (nI (fd_bs (s &&& w) 12))), (k, fd_w h 70 1 (nI (fd_dn w s)))) := by
  have q : s &&& w < 4096 := by rw [Nat.and_comm]; exact Nat.and_lt_two_pow (n := 12) _ hs
  have q2 := fun (g : fd_Hp) => fm_bitCount (k := k) (h := g) q
  simp (disch := first | exact fd_nl_int | exact fd_nl_ref | exact fd_nl_none | assumption | exact nI_ne0 (by omega) (by omega) | exact fd_nb0 | exact fd_nb1 | exact fd_nbb | omega) only [fs_43_0, fs_43_1, fs_43_2_p70 hk, fs_43_5, fs_43_6, fs_43_7, fs_43_8, fs_43_9_p70 hk, fs_43_12, fs_43_13, fs_43_14, fs_43_15, fs_43_16_p70 hk, fs_43_19, fs_43_20, fs_43_23, Option.bind_some, Option.toList_some, Option.toList_none, List.cons_append, List.nil_append, fd_nb0, fd_nb1, fd_nbb, fd_b0, nI_add, pk_mul, ite_not, Classical.not_not, not_false_iff, not_true, and_self, or_true, true_or, ↓reduceIte, if_true, if_false, ite_self, fd_mI, fd_mH, fd_mL, fd_p0, fd_w0, fd_w1, fd_w2, fd_10, fd_00, e, fd_dnN, fd_andN, q2]
theorem fd_bs_s {Z a : Nat} : fd_bs Z (a + 1) = fd_bs Z a + if Z.testBit a = true then 1 else 0 := by
  show fd_bs Z a + Z / 2 ^ a % 2 = _
  rw [Nat.testBit_eq_decide_div_mod_eq]
  by_cases c : Z / 2 ^ a % 2 = 1
  · rw [if_pos (decide_eq_true c), c]
  · rw [if_neg (fun z => c (of_decide_eq_true z))]
    omega
theorem fm_mList1 (hk : fd_Sok k fb bb dr) {n w S Z : Nat} (hn : n ≤ 12) (hS : S < 4096) (hZ : ∀ o, o < n → Z.testBit o = (S.testBit o && (w.testBit o != true))) : ∀ (m a : Nat) (g : fd_Hp), a + m = n → g.1 77 43 = nI n → (∀ o, a ≤ o → o < n → g.1 104 o = if w.testBit o then nI 1 else nI 0) → ∃ g', fd_E 187 24 [some (.ref (77)), some (.int (nI (S))), some (.int (nI (1))), some (.int (nI (fd_bs Z a))), some (.int (nI (a)))] [] k g = some (some (.int (nI (fd_bs Z n))), (k, g')) ∧ (∀ q, ¬ q = 104 → g'.1 q = g.1 q) ∧ (∀ o, o < a → g'.1 104 o = g.1 104 o) ∧ ∀ o, a ≤ o → o < n → g'.1 104 o = if (if S.testBit o = true then true else w.testBit o) = true then nI 1 else nI 0 := by
  have v0 : vp_nar .boolean (nI 1) = nI 1 := by decide
  have x01 : (nI 0 = nI 1) = False := eq_false (by decide)
  have x10 : (nI 1 = nI 0) = False := eq_false (by decide)
  intro m
  induction m with
  | zero =>
    intro a g e e1 e2
    have : a = n := by omega
    subst this
    have hc : nI a ≤ nI a := nI_le (by omega) (by omega)
    refine ⟨g, ?_, fun _ _ => rfl, fun _ _ => rfl, fun o h1 h2 => by omega⟩
    rw [fs_187_24]
    simp (disch := first | exact fd_nl_int | exact fd_nl_ref | exact fd_nl_none | assumption | exact nI_ne0 (by omega) (by omega) | exact fd_nb0 | exact fd_nb1 | exact fd_nbb | omega) only [fs_187_0, fs_187_1, fs_187_2, fs_187_3, fs_187_4_p77 hk, fs_187_7, fs_187_8, fs_187_9, fs_187_10, fs_187_13, fs_187_16, fs_187_18, fs_187_19, fs_187_20, fs_187_21, fs_187_22, fs_187_26, fs_187_27_p77 hk, fs_187_30, fs_187_33, fs_187_34, fs_187_36, fs_187_37, fs_187_38, fs_187_39, fs_187_40, fs_187_43, fs_187_44_p77 hk, fs_187_47, fs_187_49_p104 hk, fs_187_50, fs_187_51, fs_187_54, fs_187_55_p77 hk, fs_187_58, fs_187_60, fs_187_61_p104 hk, fs_187_62, fs_187_65, fs_187_68, fs_187_71, fs_187_72, Option.bind_some, Option.toList_some, Option.toList_none, List.cons_append, List.nil_append, fd_nb0, fd_nb1, fd_nbb, fd_b0, nI_add, pk_mul, ite_not, Classical.not_not, not_false_iff, not_true, and_self, or_true, true_or, ↓reduceIte, if_true, if_false, ite_self, fd_mI, fd_mH, fd_mL, fd_p0, fd_w0, fd_w1, fd_w2, fd_10, fd_00, hc, e1]
  | succ m ih =>
    intro a g e e1 e2
    have hc : ¬ nI n ≤ nI a := nI_ge (by omega) (by omega)
    have c1 := fd_bit1 (n := S) (j := a) (by omega) (by omega)
    have z0 := hZ a (by omega)
    have e3 := e2 a (Nat.le_refl _) (by omega)
    have sp : ∀ o, a ≤ o → o = a ∨ a + 1 ≤ o := fun o ho => by omega
    have stay : ∀ (d1 : S.testBit a = false ∨ w.testBit a = true), fd_E 187 24 [some (.ref (77)), some (.int (nI (S))), some (.int (nI (1))), some (.int (nI (fd_bs Z a))), some (.int (nI (a)))] [] k g = fd_E 187 24 [some (.ref (77)), some (.int (nI (S))), some (.int (nI (1))), some (.int (nI (fd_bs Z (a + 1)))), some (.int (nI (a + 1)))] [] k g → ∃ g', fd_E 187 24 [some (.ref (77)), some (.int (nI (S))), some (.int (nI (1))), some (.int (nI (fd_bs Z a))), some (.int (nI (a)))] [] k g = some (some (.int (nI (fd_bs Z n))), (k, g')) ∧ (∀ q, ¬ q = 104 → g'.1 q = g.1 q) ∧ (∀ o, o < a → g'.1 104 o = g.1 104 o) ∧ ∀ o, a ≤ o → o < n → g'.1 104 o = if (if S.testBit o = true then true else w.testBit o) = true then nI 1 else nI 0 := by
      intro d1 E
      obtain ⟨g', i1, i2, i3, i4⟩ := ih (a + 1) g (by omega) e1 (fun o h1 h2 => e2 o (by omega) h2)
      refine ⟨g', E.trans i1, i2, fun o ho => i3 o (by omega), fun o h1 h2 => ?_⟩
      rcases sp o h1 with y | y
      · subst y
        rw [i3 o (by omega), e3]
        rcases d1 with d1 | d1
        · rw [d1]; rfl
        · rw [d1, ite_self]
      · exact i4 o y h2
    cases q : S.testBit a
    · have d1 : ((nI S >>> (nI a &&& 31)) &&& nI 1 = nI 1) = False := by rw [c1, q]; exact eq_false (by decide)
      refine stay (Or.inl q) ?_
      rw [q] at z0
      rw [fd_bs_s, z0, fs_187_24]
      simp (disch := first | exact fd_nl_int | exact fd_nl_ref | exact fd_nl_none | assumption | exact nI_ne0 (by omega) (by omega) | exact fd_nb0 | exact fd_nb1 | exact fd_nbb | omega) only [fs_187_0, fs_187_1, fs_187_2, fs_187_3, fs_187_4_p77 hk, fs_187_7, fs_187_8, fs_187_9, fs_187_10, fs_187_13, fs_187_16, fs_187_18, fs_187_19, fs_187_20, fs_187_21, fs_187_22, fs_187_26, fs_187_27_p77 hk, fs_187_30, fs_187_33, fs_187_34, fs_187_36, fs_187_37, fs_187_38, fs_187_39, fs_187_40, fs_187_43, fs_187_44_p77 hk, fs_187_47, fs_187_49_p104 hk, fs_187_50, fs_187_51, fs_187_54, fs_187_55_p77 hk, fs_187_58, fs_187_60, fs_187_61_p104 hk, fs_187_62, fs_187_65, fs_187_68, fs_187_71, fs_187_72, Option.bind_some, Option.toList_some, Option.toList_none, List.cons_append, List.nil_append, fd_nb0, fd_nb1, fd_nbb, fd_b0, nI_add, pk_mul, ite_not, Classical.not_not, not_false_iff, not_true, and_self, or_true, true_or, ↓reduceIte, if_true, if_false, ite_self, fd_mI, fd_mH, fd_mL, fd_p0, fd_w0, fd_w1, fd_w2, fd_10, fd_00, hc, e1, d1, Bool.false_and, Bool.false_eq_true, Nat.add_zero]
    · have d1 : ((nI S >>> (nI a &&& 31)) &&& nI 1 = nI 1) = True := by rw [c1, q]; exact eq_true rfl
      by_cases r : w.testBit a = true
      · rw [r] at e3
        have e4 : g.1 104 a = nI 1 := e3
        refine stay (Or.inr r) ?_
        rw [q, r] at z0
        rw [fd_bs_s, z0, fs_187_24]
        simp (disch := first | exact fd_nl_int | exact fd_nl_ref | exact fd_nl_none | assumption | exact nI_ne0 (by omega) (by omega) | exact fd_nb0 | exact fd_nb1 | exact fd_nbb | omega) only [fs_187_0, fs_187_1, fs_187_2, fs_187_3, fs_187_4_p77 hk, fs_187_7, fs_187_8, fs_187_9, fs_187_10, fs_187_13, fs_187_16, fs_187_18, fs_187_19, fs_187_20, fs_187_21, fs_187_22, fs_187_26, fs_187_27_p77 hk, fs_187_30, fs_187_33, fs_187_34, fs_187_36, fs_187_37, fs_187_38, fs_187_39, fs_187_40, fs_187_43, fs_187_44_p77 hk, fs_187_47, fs_187_49_p104 hk, fs_187_50, fs_187_51, fs_187_54, fs_187_55_p77 hk, fs_187_58, fs_187_60, fs_187_61_p104 hk, fs_187_62, fs_187_65, fs_187_68, fs_187_71, fs_187_72, Option.bind_some, Option.toList_some, Option.toList_none, List.cons_append, List.nil_append, fd_nb0, fd_nb1, fd_nbb, fd_b0, nI_add, pk_mul, ite_not, Classical.not_not, not_false_iff, not_true, and_self, or_true, true_or, ↓reduceIte, if_true, if_false, ite_self, fd_mI, fd_mH, fd_mL, fd_p0, fd_w0, fd_w1, fd_w2, fd_10, fd_00, hc, e1, d1, e4, Bool.true_and, bne_self_eq_false, Bool.false_eq_true, Nat.add_zero]
      · have e4 : (g.1 104 a = nI 1) = False := by
          rw [e3]
          cases y : w.testBit a
          · first | exact absurd y r | exact eq_false (by decide)
          · first | exact absurd y r | exact eq_false (by decide)
        have z1 : Z.testBit a = true := by
          rw [z0, q]
          cases y : w.testBit a
          · first | exact absurd y r | rfl
          · first | exact absurd y r | rfl
        obtain ⟨g', i1, i2, i3, i4⟩ := ih (a + 1) (fd_w g 104 a (nI 1)) (by omega) ((fd_w1 (by decide)).trans e1) (fun o h1 h2 => (fd_w2 (by omega)).trans (e2 o (by omega) h2))
        refine ⟨g', ?_, fun p hp => (i2 p hp).trans (fd_wp hp), fun o ho => (i3 o (by omega)).trans (fd_w2 (by omega)), fun o h1 h2 => ?_⟩
        · rw [fd_bs_s, if_pos z1] at i1
          rw [fs_187_24]
          simp (disch := first | exact fd_nl_int | exact fd_nl_ref | exact fd_nl_none | assumption | exact nI_ne0 (by omega) (by omega) | exact fd_nb0 | exact fd_nb1 | exact fd_nbb | omega) only [fs_187_0, fs_187_1, fs_187_2, fs_187_3, fs_187_4_p77 hk, fs_187_7, fs_187_8, fs_187_9, fs_187_10, fs_187_13, fs_187_16, fs_187_18, fs_187_19, fs_187_20, fs_187_21, fs_187_22, fs_187_26, fs_187_27_p77 hk, fs_187_30, fs_187_33, fs_187_34, fs_187_36, fs_187_37, fs_187_38, fs_187_39, fs_187_40, fs_187_43, fs_187_44_p77 hk, fs_187_47, fs_187_49_p104 hk, fs_187_50, fs_187_51, fs_187_54, fs_187_55_p77 hk, fs_187_58, fs_187_60, fs_187_61_p104 hk, fs_187_62, fs_187_65, fs_187_68, fs_187_71, fs_187_72, Option.bind_some, Option.toList_some, Option.toList_none, List.cons_append, List.nil_append, fd_nb0, fd_nb1, fd_nbb, fd_b0, nI_add, pk_mul, ite_not, Classical.not_not, not_false_iff, not_true, and_self, or_true, true_or, ↓reduceIte, if_true, if_false, ite_self, fd_mI, fd_mH, fd_mL, fd_p0, fd_w0, fd_w1, fd_w2, fd_10, fd_00, hc, e1, d1, e4, v0, i1]
        · rcases sp o h1 with y | y
          · subst y
            rw [i3 o (by omega), fd_w0, q]
            rfl
          · exact i4 o y h2
theorem fm_mList0 (hk : fd_Sok k fb bb dr) {n w S Z : Nat} (hn : n ≤ 12) (hS : S < 4096) (hZ : ∀ o, o < n → Z.testBit o = (S.testBit o && (w.testBit o != false))) : ∀ (m a : Nat) (g : fd_Hp), a + m = n → g.1 77 43 = nI n → (∀ o, a ≤ o → o < n → g.1 104 o = if w.testBit o then nI 1 else nI 0) → ∃ g', fd_E 187 24 [some (.ref (77)), some (.int (nI (S))), some (.int (nI (0))), some (.int (nI (fd_bs Z a))), some (.int (nI (a)))] [] k g = some (some (.int (nI (fd_bs Z n))), (k, g')) ∧ (∀ q, ¬ q = 104 → g'.1 q = g.1 q) ∧ (∀ o, o < a → g'.1 104 o = g.1 104 o) ∧ ∀ o, a ≤ o → o < n → g'.1 104 o = if (if S.testBit o = true then false else w.testBit o) = true then nI 1 else nI 0 := by
  have v0 : vp_nar .boolean (nI 0) = nI 0 := by decide
  have x01 : (nI 0 = nI 1) = False := eq_false (by decide)
  have x10 : (nI 1 = nI 0) = False := eq_false (by decide)
  intro m
  induction m with
  | zero =>
    intro a g e e1 e2
    have : a = n := by omega
    subst this
    have hc : nI a ≤ nI a := nI_le (by omega) (by omega)
    refine ⟨g, ?_, fun _ _ => rfl, fun _ _ => rfl, fun o h1 h2 => by omega⟩
    rw [fs_187_24]
    simp (disch := first | exact fd_nl_int | exact fd_nl_ref | exact fd_nl_none | assumption | exact nI_ne0 (by omega) (by omega) | exact fd_nb0 | exact fd_nb1 | exact fd_nbb | omega) only [fs_187_0, fs_187_1, fs_187_2, fs_187_3, fs_187_4_p77 hk, fs_187_7, fs_187_8, fs_187_9, fs_187_10, fs_187_13, fs_187_16, fs_187_18, fs_187_19, fs_187_20, fs_187_21, fs_187_22, fs_187_26, fs_187_27_p77 hk, fs_187_30, fs_187_33, fs_187_34, fs_187_36, fs_187_37, fs_187_38, fs_187_39, fs_187_40, fs_187_43, fs_187_44_p77 hk, fs_187_47, fs_187_49_p104 hk, fs_187_50, fs_187_51, fs_187_54, fs_187_55_p77 hk, fs_187_58, fs_187_60, fs_187_61_p104 hk, fs_187_62, fs_187_65, fs_187_68, fs_187_71, fs_187_72, Option.bind_some, Option.toList_some, Option.toList_none, List.cons_append, List.nil_append, fd_nb0, fd_nb1, fd_nbb, fd_b0, nI_add, pk_mul, ite_not, Classical.not_not, not_false_iff, not_true, and_self, or_true, true_or, ↓reduceIte, if_true, if_false, ite_self, fd_mI, fd_mH, fd_mL, fd_p0, fd_w0, fd_w1, fd_w2, fd_10, fd_00, hc, e1]
  | succ m ih =>
    intro a g e e1 e2
    have hc : ¬ nI n ≤ nI a := nI_ge (by omega) (by omega)
    have c1 := fd_bit1 (n := S) (j := a) (by omega) (by omega)
    have z0 := hZ a (by omega)
    have e3 := e2 a (Nat.le_refl _) (by omega)
    have sp : ∀ o, a ≤ o → o = a ∨ a + 1 ≤ o := fun o ho => by omega
    have stay : ∀ (d1 : S.testBit a = false ∨ w.testBit a = false), fd_E 187 24 [some (.ref (77)), some (.int (nI (S))), some (.int (nI (0))), some (.int (nI (fd_bs Z a))), some (.int (nI (a)))] [] k g = fd_E 187 24 [some (.ref (77)), some (.int (nI (S))), some (.int (nI (0))), some (.int (nI (fd_bs Z (a + 1)))), some (.int (nI (a + 1)))] [] k g → ∃ g', fd_E 187 24 [some (.ref (77)), some (.int (nI (S))), some (.int (nI (0))), some (.int (nI (fd_bs Z a))), some (.int (nI (a)))] [] k g = some (some (.int (nI (fd_bs Z n))), (k, g')) ∧ (∀ q, ¬ q = 104 → g'.1 q = g.1 q) ∧ (∀ o, o < a → g'.1 104 o = g.1 104 o) ∧ ∀ o, a ≤ o → o < n → g'.1 104 o = if (if S.testBit o = true then false else w.testBit o) = true then nI 1 else nI 0 := by
      intro d1 E
      obtain ⟨g', i1, i2, i3, i4⟩ := ih (a + 1) g (by omega) e1 (fun o h1 h2 => e2 o (by omega) h2)
      refine ⟨g', E.trans i1, i2, fun o ho => i3 o (by omega), fun o h1 h2 => ?_⟩
      rcases sp o h1 with y | y
      · subst y
        rw [i3 o (by omega), e3]
        rcases d1 with d1 | d1
        · rw [d1]; rfl
        · rw [d1, ite_self]
      · exact i4 o y h2
    cases q : S.testBit a
    · have d1 : ((nI S >>> (nI a &&& 31)) &&& nI 1 = nI 1) = False := by rw [c1, q]; exact eq_false (by decide)
      refine stay (Or.inl q) ?_
      rw [q] at z0
      rw [fd_bs_s, z0, fs_187_24]
      simp (disch := first | exact fd_nl_int | exact fd_nl_ref | exact fd_nl_none | assumption | exact nI_ne0 (by omega) (by omega) | exact fd_nb0 | exact fd_nb1 | exact fd_nbb | omega) only [fs_187_0, fs_187_1, fs_187_2, fs_187_3, fs_187_4_p77 hk, fs_187_7, fs_187_8, fs_187_9, fs_187_10, fs_187_13, fs_187_16, fs_187_18, fs_187_19, fs_187_20, fs_187_21, fs_187_22, fs_187_26, fs_187_27_p77 hk, fs_187_30, fs_187_33, fs_187_34, fs_187_36, fs_187_37, fs_187_38, fs_187_39, fs_187_40, fs_187_43, fs_187_44_p77 hk, fs_187_47, fs_187_49_p104 hk, fs_187_50, fs_187_51, fs_187_54, fs_187_55_p77 hk, fs_187_58, fs_187_60, fs_187_61_p104 hk, fs_187_62, fs_187_65, fs_187_68, fs_187_71, fs_187_72, Option.bind_some, Option.toList_some, Option.toList_none, List.cons_append, List.nil_append, fd_nb0, fd_nb1, fd_nbb, fd_b0, nI_add, pk_mul, ite_not, Classical.not_not, not_false_iff, not_true, and_self, or_true, true_or, ↓reduceIte, if_true, if_false, ite_self, fd_mI, fd_mH, fd_mL, fd_p0, fd_w0, fd_w1, fd_w2, fd_10, fd_00, hc, e1, d1, Bool.false_and, Bool.false_eq_true, Nat.add_zero]
    · have d1 : ((nI S >>> (nI a &&& 31)) &&& nI 1 = nI 1) = True := by rw [c1, q]; exact eq_true rfl
      by_cases r : w.testBit a = false
      · rw [r] at e3
        have e4 : g.1 104 a = nI 0 := e3
        refine stay (Or.inr r) ?_
        rw [q, r] at z0
        rw [fd_bs_s, z0, fs_187_24]
        simp (disch := first | exact fd_nl_int | exact fd_nl_ref | exact fd_nl_none | assumption | exact nI_ne0 (by omega) (by omega) | exact fd_nb0 | exact fd_nb1 | exact fd_nbb | omega) only [fs_187_0, fs_187_1, fs_187_2, fs_187_3, fs_187_4_p77 hk, fs_187_7, fs_187_8, fs_187_9, fs_187_10, fs_187_13, fs_187_16, fs_187_18, fs_187_19, fs_187_20, fs_187_21, fs_187_22, fs_187_26, fs_187_27_p77 hk, fs_187_30, fs_187_33, fs_187_34, fs_187_36, fs_187_37, fs_187_38, fs_187_39, fs_187_40, fs_187_43, fs_187_44_p77 hk, fs_187_47, fs_187_49_p104 hk, fs_187_50, fs_187_51, fs_187_54, fs_187_55_p77 hk, fs_187_58, fs_187_60, fs_187_61_p104 hk, fs_187_62, fs_187_65, fs_187_68, fs_187_71, fs_187_72, Option.bind_some, Option.toList_some, Option.toList_none, List.cons_append, List.nil_append, fd_nb0, fd_nb1, fd_nbb, fd_b0, nI_add, pk_mul, ite_not, Classical.not_not, not_false_iff, not_true, and_self, or_true, true_or, ↓reduceIte, if_true, if_false, ite_self, fd_mI, fd_mH, fd_mL, fd_p0, fd_w0, fd_w1, fd_w2, fd_10, fd_00, hc, e1, d1, e4, Bool.true_and, bne_self_eq_false, Bool.false_eq_true, Nat.add_zero]
      · have e4 : (g.1 104 a = nI 0) = False := by
          rw [e3]
          cases y : w.testBit a
          · first | exact absurd y r | exact eq_false (by decide)
          · first | exact absurd y r | exact eq_false (by decide)
        have z1 : Z.testBit a = true := by
          rw [z0, q]
          cases y : w.testBit a
          · first | exact absurd y r | rfl
          · first | exact absurd y r | rfl
        obtain ⟨g', i1, i2, i3, i4⟩ := ih (a + 1) (fd_w g 104 a (nI 0)) (by omega) ((fd_w1 (by decide)).trans e1) (fun o h1 h2 => (fd_w2 (by omega)).trans (e2 o (by omega) h2))
        refine ⟨g', ?_, fun p hp => (i2 p hp).trans (fd_wp hp), fun o ho => (i3 o (by omega)).trans (fd_w2 (by omega)), fun o h1 h2 => ?_⟩
        · rw [fd_bs_s, if_pos z1] at i1
          rw [fs_187_24]
          simp (disch := first | exact fd_nl_int | exact fd_nl_ref | exact fd_nl_none | assumption | exact nI_ne0 (by omega) (by omega) | exact fd_nb0 | exact fd_nb1 | exact fd_nbb | omega) only [fs_187_0, fs_187_1, fs_187_2, fs_187_3, fs_187_4_p77 hk, fs_187_7, fs_187_8, fs_187_9, fs_187_10, fs_187_13, fs_187_16, fs_187_18, fs_187_19, fs_187_20, fs_187_21, fs_187_22, fs_187_26, fs_187_27_p77 hk, fs_187_30, fs_187_33, fs_187_34, fs_187_36, fs_187_37, fs_187_38, fs_187_39, fs_187_40, fs_187_43, fs_187_44_p77 hk, fs_187_47, fs_187_49_p104 hk, fs_187_50, fs_187_51, fs_187_54, fs_187_55_p77 hk, fs_187_58, fs_187_60, fs_187_61_p104 hk, fs_187_62, fs_187_65, fs_187_68, fs_187_71, fs_187_72, Option.bind_some, Option.toList_some, Option.toList_none, List.cons_append, List.nil_append, fd_nb0, fd_nb1, fd_nbb, fd_b0, nI_add, pk_mul, ite_not, Classical.not_not, not_false_iff, not_true, and_self, or_true, true_or, ↓reduceIte, if_true, if_false, ite_self, fd_mI, fd_mH, fd_mL, fd_p0, fd_w0, fd_w1, fd_w2, fd_10, fd_00, hc, e1, d1, e4, v0, i1]
        · rcases sp o h1 with y | y
          · subst y
            rw [i3 o (by omega), fd_w0, q]
            rfl
          · exact i4 o y h2
theorem fc_list1 (I : fd_Inv k h) (x : Int32) : fd_Ag k h 95 [some (.ref (0)), some (.int (x)), some (.int (nI (1)))] 187 [some (.ref (77)), some (.int (x)), some (.int (nI (1))), none, none] := by
  have I0 := I; obtain ⟨fb, bb, dr, ns, np, nb, t, hk, F, ht, TX, B0, B1, FE, BA, OF, PL⟩ := I0; have F0 := F; simp only [fd_Fl, Nat.reduceAdd] at F0; obtain ⟨⟨b1, b2, b3, b4⟩, ⟨f1, f2, f3, f4, f5, f6, f7⟩, ⟨g1, g2, g3, g4⟩, S, O, T⟩ := F0
  obtain ⟨⟨n, w, hn, hw, e1, e2, e4, e3⟩, O2, O3⟩ := OF
  have hp := fd_p2 hn
  have s1 := fd_sh1 hn
  by_cases c1 : fd_wi x (nI 0) (nI (2 ^ n) - nI 1)
  · obtain ⟨S', hS, rfl⟩ := (fd_argS hn).mp c1
    have d1 : ¬ nI S' < 0 ∧ ¬ nI (2 ^ n) ≤ nI S' := (fd_isS hn).mpr ⟨S', hS, rfl⟩
    have Zl : (fd_dn S' w) < 2 ^ n := fd_dn_lt hS
    have Wl : (w ||| S') < 2 ^ n := Nat.or_lt_two_pow hw hS
    have A := fm_sendAshore hk e4 (show S' < 4096 by omega)
    rw [fd_bs_top Zl hn] at A
    have hZ : ∀ o, o < n → (fd_dn S' w).testBit o = (S'.testBit o && (w.testBit o != true)) := fun o ho => by
      rw [fd_dn_bit (by omega)]
      cases w.testBit o <;> cases S'.testBit o <;> rfl
    obtain ⟨g', i1, i2, i3, i4⟩ := fm_mList1 (Z := (fd_dn S' w)) hk hn (show S' < 4096 by omega) hZ n 0 (fd_w h 70 1 (nI (w ||| S'))) (by omega) ((fd_w1 (by decide)).trans e2) (fun o _ ho => (fd_w1 (by decide)).trans (e3 o ho).2.2)
    rw [show fd_bs (fd_dn S' w) 0 = 0 from rfl] at i1
    have u : ∀ q, ¬ q = 104 → ¬ q = 70 → g'.1 q = h.1 q := fun q q1 q2 => (i2 q q1).trans (fd_wp q2)
    refine ⟨nI (fd_bs (fd_dn S' w) n), k, fd_w h 70 1 (nI (w ||| S')), g', ?_, ?_, ⟨fb, bb, dr, ns, np, nb, t, hk, fd_Fl_fr ?_ F, ?_, fd_Itx_fr ?_ TX, fd_Bk_fr hk.2.2.2.2.2.2.1 ?_ B0, fd_Bk_fr hk.2.2.2.2.2.2.2.1 ?_ B1, fd_Ife_fr ?_ FE, fd_Iba_fr ?_ BA, ⟨⟨n, (w ||| S'), hn, Wl, ?_, ?_, ?_, fun o ho => ?_⟩, fun s hs => ?_, fun s h1 h2 => ?_⟩, fd_Ipl_fr ?_ PL⟩, rfl⟩
    · simp (disch := first | exact fd_nl_int | exact fd_nl_ref | exact fd_nl_none | assumption | exact nI_ne0 (by omega) (by omega) | exact fd_nb0 | exact fd_nb1 | exact fd_nbb | omega) only [fs_95_0, fs_95_1, fs_95_2_p0 hk, fs_95_5_p70 hk, fs_95_8, fs_95_11, fs_95_14, fs_95_16, fs_95_17, fs_95_18, fs_95_21, fs_95_22_p0 hk, fs_95_25, fs_95_26_p70 hk, fs_95_29, fs_95_32, fs_95_33_p0 hk, fs_95_36, fs_95_37_p70 hk, fs_95_40, Option.bind_some, Option.toList_some, Option.toList_none, List.cons_append, List.nil_append, fd_nb0, fd_nb1, fd_nbb, fd_b0, nI_add, pk_mul, ite_not, Classical.not_not, not_false_iff, not_true, and_self, or_true, true_or, ↓reduceIte, if_true, if_false, ite_self, fd_mI, fd_mH, fd_mL, fd_p0, fd_w0, fd_w1, fd_w2, fd_10, fd_00, fm_isShip hk, fm_isHour, fm_isBook, fm_within, fm_isCell, fm_canPass hk, f1, f2, f4, fm_isSet, e1, s1, eq_true d1, A]
    · simp (disch := first | exact fd_nl_int | exact fd_nl_ref | exact fd_nl_none | assumption | exact nI_ne0 (by omega) (by omega) | exact fd_nb0 | exact fd_nb1 | exact fd_nbb | omega) only [fs_187_0, fs_187_1, fs_187_2, fs_187_3, fs_187_4_p77 hk, fs_187_7, fs_187_8, fs_187_9, fs_187_10, fs_187_13, fs_187_16, fs_187_18, fs_187_19, fs_187_20, fs_187_21, fs_187_22, fs_187_26, fs_187_27_p77 hk, fs_187_30, fs_187_33, fs_187_34, fs_187_36, fs_187_37, fs_187_38, fs_187_39, fs_187_40, fs_187_43, fs_187_44_p77 hk, fs_187_47, fs_187_49_p104 hk, fs_187_50, fs_187_51, fs_187_54, fs_187_55_p77 hk, fs_187_58, fs_187_60, fs_187_61_p104 hk, fs_187_62, fs_187_65, fs_187_68, fs_187_71, fs_187_72, Option.bind_some, Option.toList_some, Option.toList_none, List.cons_append, List.nil_append, fd_nb0, fd_nb1, fd_nbb, fd_b0, nI_add, pk_mul, ite_not, Classical.not_not, not_false_iff, not_true, and_self, or_true, true_or, ↓reduceIte, if_true, if_false, ite_self, fd_mI, fd_mH, fd_mL, fd_p0, fd_w0, fd_w1, fd_w2, fd_10, fd_00, fm_mIsShip hk, fm_mIn, fm_mIsHour, fm_mIsBook, fm_mIsCell, f3, f5, ht, fm_mIn, e2, s1, eq_true c1, i1]
    · simp (disch := omega) only [u, and_self]
    · rw [u 77 (by decide) (by decide)]; exact ht
    · simp (disch := omega) only [u, and_self]
    · simp (disch := omega) only [u, and_self]
    · simp (disch := omega) only [u, and_self]
    · simp (disch := omega) only [u, and_self]
    · simp (disch := omega) only [u, and_self]
    · rw [i2 70 (by decide), fd_w2 (by decide)]; exact e1
    · rw [u 77 (by decide) (by decide)]; exact e2
    · rw [i2 70 (by decide), fd_w0]
    · rw [u 71 (by decide) (by decide), u 72 (by decide) (by decide), u 102 (by decide) (by decide), u 103 (by decide) (by decide)]
      refine ⟨(e3 o ho).1, (e3 o ho).2.1, ?_⟩
      rw [i4 o (by omega) ho]
      have q : (w ||| S').testBit o = (if S'.testBit o = true then true else w.testBit o) := by
        rw [Nat.testBit_or]
        cases w.testBit o <;> cases S'.testBit o <;> rfl
      rw [q]
    · rw [u 73 (by decide) (by decide), u 81 (by decide) (by decide)]; exact O2 s hs
    · rw [u 73 (by decide) (by decide)]; exact O3 s h1 h2
    · simp (disch := omega) only [u, and_self]
  · have d1 : ¬ (¬ x < 0 ∧ ¬ nI (2 ^ n) ≤ x) := fun z => c1 ((fd_argS hn).mpr ((fd_isS hn).mp z))
    have d2 := eq_false d1
    exact fd_ag_ro I (v := -3) (w := -3) (by simp (disch := first | exact fd_nl_int | exact fd_nl_ref | exact fd_nl_none | assumption | exact nI_ne0 (by omega) (by omega) | exact fd_nb0 | exact fd_nb1 | exact fd_nbb | omega) only [fs_95_0, fs_95_1, fs_95_2_p0 hk, fs_95_5_p70 hk, fs_95_8, fs_95_11, fs_95_14, fs_95_16, fs_95_17, fs_95_18, fs_95_21, fs_95_22_p0 hk, fs_95_25, fs_95_26_p70 hk, fs_95_29, fs_95_32, fs_95_33_p0 hk, fs_95_36, fs_95_37_p70 hk, fs_95_40, Option.bind_some, Option.toList_some, Option.toList_none, List.cons_append, List.nil_append, fd_nb0, fd_nb1, fd_nbb, fd_b0, nI_add, pk_mul, ite_not, Classical.not_not, not_false_iff, not_true, and_self, or_true, true_or, ↓reduceIte, if_true, if_false, ite_self, fd_mI, fd_mH, fd_mL, fd_p0, fd_w0, fd_w1, fd_w2, fd_10, fd_00, fm_isShip hk, fm_isHour, fm_isBook, fm_within, fm_isCell, fm_canPass hk, f1, f2, f4, fm_isSet, e1, e2, s1, d2, c1]) (by simp (disch := first | exact fd_nl_int | exact fd_nl_ref | exact fd_nl_none | assumption | exact nI_ne0 (by omega) (by omega) | exact fd_nb0 | exact fd_nb1 | exact fd_nbb | omega) only [fs_187_0, fs_187_1, fs_187_2, fs_187_3, fs_187_4_p77 hk, fs_187_7, fs_187_8, fs_187_9, fs_187_10, fs_187_13, fs_187_16, fs_187_18, fs_187_19, fs_187_20, fs_187_21, fs_187_22, fs_187_26, fs_187_27_p77 hk, fs_187_30, fs_187_33, fs_187_34, fs_187_36, fs_187_37, fs_187_38, fs_187_39, fs_187_40, fs_187_43, fs_187_44_p77 hk, fs_187_47, fs_187_49_p104 hk, fs_187_50, fs_187_51, fs_187_54, fs_187_55_p77 hk, fs_187_58, fs_187_60, fs_187_61_p104 hk, fs_187_62, fs_187_65, fs_187_68, fs_187_71, fs_187_72, Option.bind_some, Option.toList_some, Option.toList_none, List.cons_append, List.nil_append, fd_nb0, fd_nb1, fd_nbb, fd_b0, nI_add, pk_mul, ite_not, Classical.not_not, not_false_iff, not_true, and_self, or_true, true_or, ↓reduceIte, if_true, if_false, ite_self, fd_mI, fd_mH, fd_mL, fd_p0, fd_w0, fd_w1, fd_w2, fd_10, fd_00, fm_mIsShip hk, fm_mIn, fm_mIsHour, fm_mIsBook, fm_mIsCell, f3, f5, ht, fm_isSet, e1, e2, s1, d2, c1]) rfl
theorem fc_list0 (I : fd_Inv k h) (x : Int32) : fd_Ag k h 95 [some (.ref (0)), some (.int (x)), some (.int (nI (0)))] 187 [some (.ref (77)), some (.int (x)), some (.int (nI (0))), none, none] := by
  have I0 := I; obtain ⟨fb, bb, dr, ns, np, nb, t, hk, F, ht, TX, B0, B1, FE, BA, OF, PL⟩ := I0; have F0 := F; simp only [fd_Fl, Nat.reduceAdd] at F0; obtain ⟨⟨b1, b2, b3, b4⟩, ⟨f1, f2, f3, f4, f5, f6, f7⟩, ⟨g1, g2, g3, g4⟩, S, O, T⟩ := F0
  obtain ⟨⟨n, w, hn, hw, e1, e2, e4, e3⟩, O2, O3⟩ := OF
  have hp := fd_p2 hn
  have s1 := fd_sh1 hn
  by_cases c1 : fd_wi x (nI 0) (nI (2 ^ n) - nI 1)
  · obtain ⟨S', hS, rfl⟩ := (fd_argS hn).mp c1
    have d1 : ¬ nI S' < 0 ∧ ¬ nI (2 ^ n) ≤ nI S' := (fd_isS hn).mpr ⟨S', hS, rfl⟩
    have Zl : (S' &&& w) < 2 ^ n := by rw [Nat.and_comm]; exact Nat.and_lt_two_pow _ hS
    have Wl : (fd_dn w S') < 2 ^ n := fd_dn_lt hw
    have A := fm_bringBack hk e4 (show S' < 4096 by omega)
    rw [fd_bs_top Zl hn] at A
    have hZ : ∀ o, o < n → (S' &&& w).testBit o = (S'.testBit o && (w.testBit o != false)) := fun o ho => by
      rw [Nat.testBit_and]
      cases w.testBit o <;> cases S'.testBit o <;> rfl
    obtain ⟨g', i1, i2, i3, i4⟩ := fm_mList0 (Z := (S' &&& w)) hk hn (show S' < 4096 by omega) hZ n 0 (fd_w h 70 1 (nI (fd_dn w S'))) (by omega) ((fd_w1 (by decide)).trans e2) (fun o _ ho => (fd_w1 (by decide)).trans (e3 o ho).2.2)
    rw [show fd_bs (S' &&& w) 0 = 0 from rfl] at i1
    have u : ∀ q, ¬ q = 104 → ¬ q = 70 → g'.1 q = h.1 q := fun q q1 q2 => (i2 q q1).trans (fd_wp q2)
    refine ⟨nI (fd_bs (S' &&& w) n), k, fd_w h 70 1 (nI (fd_dn w S')), g', ?_, ?_, ⟨fb, bb, dr, ns, np, nb, t, hk, fd_Fl_fr ?_ F, ?_, fd_Itx_fr ?_ TX, fd_Bk_fr hk.2.2.2.2.2.2.1 ?_ B0, fd_Bk_fr hk.2.2.2.2.2.2.2.1 ?_ B1, fd_Ife_fr ?_ FE, fd_Iba_fr ?_ BA, ⟨⟨n, (fd_dn w S'), hn, Wl, ?_, ?_, ?_, fun o ho => ?_⟩, fun s hs => ?_, fun s h1 h2 => ?_⟩, fd_Ipl_fr ?_ PL⟩, rfl⟩
    · simp (disch := first | exact fd_nl_int | exact fd_nl_ref | exact fd_nl_none | assumption | exact nI_ne0 (by omega) (by omega) | exact fd_nb0 | exact fd_nb1 | exact fd_nbb | omega) only [fs_95_0, fs_95_1, fs_95_2_p0 hk, fs_95_5_p70 hk, fs_95_8, fs_95_11, fs_95_14, fs_95_16, fs_95_17, fs_95_18, fs_95_21, fs_95_22_p0 hk, fs_95_25, fs_95_26_p70 hk, fs_95_29, fs_95_32, fs_95_33_p0 hk, fs_95_36, fs_95_37_p70 hk, fs_95_40, Option.bind_some, Option.toList_some, Option.toList_none, List.cons_append, List.nil_append, fd_nb0, fd_nb1, fd_nbb, fd_b0, nI_add, pk_mul, ite_not, Classical.not_not, not_false_iff, not_true, and_self, or_true, true_or, ↓reduceIte, if_true, if_false, ite_self, fd_mI, fd_mH, fd_mL, fd_p0, fd_w0, fd_w1, fd_w2, fd_10, fd_00, fm_isShip hk, fm_isHour, fm_isBook, fm_within, fm_isCell, fm_canPass hk, f1, f2, f4, fm_isSet, e1, s1, eq_true d1, A]
    · simp (disch := first | exact fd_nl_int | exact fd_nl_ref | exact fd_nl_none | assumption | exact nI_ne0 (by omega) (by omega) | exact fd_nb0 | exact fd_nb1 | exact fd_nbb | omega) only [fs_187_0, fs_187_1, fs_187_2, fs_187_3, fs_187_4_p77 hk, fs_187_7, fs_187_8, fs_187_9, fs_187_10, fs_187_13, fs_187_16, fs_187_18, fs_187_19, fs_187_20, fs_187_21, fs_187_22, fs_187_26, fs_187_27_p77 hk, fs_187_30, fs_187_33, fs_187_34, fs_187_36, fs_187_37, fs_187_38, fs_187_39, fs_187_40, fs_187_43, fs_187_44_p77 hk, fs_187_47, fs_187_49_p104 hk, fs_187_50, fs_187_51, fs_187_54, fs_187_55_p77 hk, fs_187_58, fs_187_60, fs_187_61_p104 hk, fs_187_62, fs_187_65, fs_187_68, fs_187_71, fs_187_72, Option.bind_some, Option.toList_some, Option.toList_none, List.cons_append, List.nil_append, fd_nb0, fd_nb1, fd_nbb, fd_b0, nI_add, pk_mul, ite_not, Classical.not_not, not_false_iff, not_true, and_self, or_true, true_or, ↓reduceIte, if_true, if_false, ite_self, fd_mI, fd_mH, fd_mL, fd_p0, fd_w0, fd_w1, fd_w2, fd_10, fd_00, fm_mIsShip hk, fm_mIn, fm_mIsHour, fm_mIsBook, fm_mIsCell, f3, f5, ht, fm_mIn, e2, s1, eq_true c1, i1]
    · simp (disch := omega) only [u, and_self]
    · rw [u 77 (by decide) (by decide)]; exact ht
    · simp (disch := omega) only [u, and_self]
    · simp (disch := omega) only [u, and_self]
    · simp (disch := omega) only [u, and_self]
    · simp (disch := omega) only [u, and_self]
    · simp (disch := omega) only [u, and_self]
    · rw [i2 70 (by decide), fd_w2 (by decide)]; exact e1
    · rw [u 77 (by decide) (by decide)]; exact e2
    · rw [i2 70 (by decide), fd_w0]
    · rw [u 71 (by decide) (by decide), u 72 (by decide) (by decide), u 102 (by decide) (by decide), u 103 (by decide) (by decide)]
      refine ⟨(e3 o ho).1, (e3 o ho).2.1, ?_⟩
      rw [i4 o (by omega) ho]
      have q : (fd_dn w S').testBit o = (if S'.testBit o = true then false else w.testBit o) := by
        rw [fd_dn_bit (by omega)]
        cases w.testBit o <;> cases S'.testBit o <;> rfl
      rw [q]
    · rw [u 73 (by decide) (by decide), u 81 (by decide) (by decide)]; exact O2 s hs
    · rw [u 73 (by decide) (by decide)]; exact O3 s h1 h2
    · simp (disch := omega) only [u, and_self]
  · have d1 : ¬ (¬ x < 0 ∧ ¬ nI (2 ^ n) ≤ x) := fun z => c1 ((fd_argS hn).mpr ((fd_isS hn).mp z))
    have d2 := eq_false d1
    exact fd_ag_ro I (v := -3) (w := -3) (by simp (disch := first | exact fd_nl_int | exact fd_nl_ref | exact fd_nl_none | assumption | exact nI_ne0 (by omega) (by omega) | exact fd_nb0 | exact fd_nb1 | exact fd_nbb | omega) only [fs_95_0, fs_95_1, fs_95_2_p0 hk, fs_95_5_p70 hk, fs_95_8, fs_95_11, fs_95_14, fs_95_16, fs_95_17, fs_95_18, fs_95_21, fs_95_22_p0 hk, fs_95_25, fs_95_26_p70 hk, fs_95_29, fs_95_32, fs_95_33_p0 hk, fs_95_36, fs_95_37_p70 hk, fs_95_40, Option.bind_some, Option.toList_some, Option.toList_none, List.cons_append, List.nil_append, fd_nb0, fd_nb1, fd_nbb, fd_b0, nI_add, pk_mul, ite_not, Classical.not_not, not_false_iff, not_true, and_self, or_true, true_or, ↓reduceIte, if_true, if_false, ite_self, fd_mI, fd_mH, fd_mL, fd_p0, fd_w0, fd_w1, fd_w2, fd_10, fd_00, fm_isShip hk, fm_isHour, fm_isBook, fm_within, fm_isCell, fm_canPass hk, f1, f2, f4, fm_isSet, e1, e2, s1, d2, c1]) (by simp (disch := first | exact fd_nl_int | exact fd_nl_ref | exact fd_nl_none | assumption | exact nI_ne0 (by omega) (by omega) | exact fd_nb0 | exact fd_nb1 | exact fd_nbb | omega) only [fs_187_0, fs_187_1, fs_187_2, fs_187_3, fs_187_4_p77 hk, fs_187_7, fs_187_8, fs_187_9, fs_187_10, fs_187_13, fs_187_16, fs_187_18, fs_187_19, fs_187_20, fs_187_21, fs_187_22, fs_187_26, fs_187_27_p77 hk, fs_187_30, fs_187_33, fs_187_34, fs_187_36, fs_187_37, fs_187_38, fs_187_39, fs_187_40, fs_187_43, fs_187_44_p77 hk, fs_187_47, fs_187_49_p104 hk, fs_187_50, fs_187_51, fs_187_54, fs_187_55_p77 hk, fs_187_58, fs_187_60, fs_187_61_p104 hk, fs_187_62, fs_187_65, fs_187_68, fs_187_71, fs_187_72, Option.bind_some, Option.toList_some, Option.toList_none, List.cons_append, List.nil_append, fd_nb0, fd_nb1, fd_nbb, fd_b0, nI_add, pk_mul, ite_not, Classical.not_not, not_false_iff, not_true, and_self, or_true, true_or, ↓reduceIte, if_true, if_false, ite_self, fd_mI, fd_mH, fd_mL, fd_p0, fd_w0, fd_w1, fd_w2, fd_10, fd_00, fm_mIsShip hk, fm_mIn, fm_mIsHour, fm_mIsBook, fm_mIsCell, f3, f5, ht, fm_isSet, e1, e2, s1, d2, c1]) rfl
end LIST
