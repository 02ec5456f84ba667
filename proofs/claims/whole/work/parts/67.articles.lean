/-! THE CALL articles -/
section SWAP
variable {k : fd_Sk} {h g : fd_Hp} {fb bb dr b : Nat}
theorem fd_wr1 {k : fd_Sk} {p j q i x : Nat} (hn : ¬ (q = p ∧ i = j)) : (fd_wr k p j x).1.2 q i = k.1.2 q i := if_neg hn
theorem fd_wr0 {k : fd_Sk} {p j x : Nat} : (fd_wr k p j x).1.2 p j = x := if_pos ⟨rfl, rfl⟩
theorem fd_RT_no : ∀ q ∈ fd_RT, ¬ (q.1 = 0 ∧ (q.2.1 = 4 ∨ q.2.1 = 5 ∨ q.2.1 = 6)) := by decide +kernel
theorem fd_Sok_sw0 (hk : fd_Sok k fb bb dr) : fd_Sok (fd_wr (fd_wr k 0 6 (fb + 1)) 0 4 (dr + 1)) dr bb fb := by
  obtain ⟨h1, h2, h3, h4, h5, h6, h7, h8, h9, h10, h11, h12⟩ := hk
  refine ⟨h1, fun q hq => ?_, fd_wr0, ?_, ?_, fun b hb j j1 j2 => ?_, h9, h8, h7, fun z => h12 z.symm, fun z => h11 z.symm, fun z => h10 z.symm⟩
  · have := fd_RT_no q hq
    rw [fd_wr1 (by omega), fd_wr1 (by omega)]
    exact h2 q hq
  · rw [fd_wr1 (by omega), fd_wr1 (by omega)]; exact h4
  · rw [fd_wr1 (by omega)]; exact fd_wr0
  · have : ¬ b = 0 := by rcases hb with rfl | rfl | rfl <;> omega
    rw [fd_wr1 (by omega), fd_wr1 (by omega)]; exact h6 b hb j j1 j2
theorem fd_Sok_sw1 (hk : fd_Sok k fb bb dr) : fd_Sok (fd_wr (fd_wr k 0 6 (bb + 1)) 0 5 (dr + 1)) fb dr bb := by
  obtain ⟨h1, h2, h3, h4, h5, h6, h7, h8, h9, h10, h11, h12⟩ := hk
  refine ⟨h1, fun q hq => ?_, ?_, fd_wr0, ?_, fun b hb j j1 j2 => ?_, h7, h9, h8, h11, h10, fun z => h12 z.symm⟩
  · have := fd_RT_no q hq
    rw [fd_wr1 (by omega), fd_wr1 (by omega)]
    exact h2 q hq
  · rw [fd_wr1 (by omega), fd_wr1 (by omega)]; exact h3
  · rw [fd_wr1 (by omega)]; exact fd_wr0
  · have : ¬ b = 0 := by rcases hb with rfl | rfl | rfl <;> omega
    rw [fd_wr1 (by omega), fd_wr1 (by omega)]; exact h6 b hb j j1 j2
theorem fm_art73 (hk : fd_Sok k fb bb dr) (hb : fd_isB b) (x : Int32) : fd_E 82 73 [some (.ref (0)), some (.int (x)), some (.ref (b))] [] k h = some (some (.int (h.1 b 0)), (k, fd_w h 39 1 (nI 0))) := by
  have : ¬ b = 39 := by rcases hb with rfl | rfl | rfl <;> omega
  simp (disch := first | exact fd_nl_int | exact fd_nl_ref | exact fd_nl_none | assumption | exact nI_ne0 (by omega) (by omega) | exact fd_nb0 | exact fd_nb1 | exact fd_nbb | omega) only [fs_82_0, fs_82_1, fs_82_4, fs_82_7, fs_82_9, fs_82_10, fs_82_11_p0 hk, fs_82_14, fs_82_15_p0 hk, fs_82_18_p1 hk, fs_82_21, fs_82_22_p0 hk, fs_82_25_p41 hk, fs_82_28, fs_82_29, fs_82_32, fs_82_34, fs_82_35, fs_82_36_p0 hk, fs_82_39, fs_82_40, fs_82_41, fs_82_44, fs_82_45, fs_82_46_p0 hk, fs_82_49_p0, fs_82_52, fs_82_53, fs_82_54_p0, fs_82_57, fs_82_60, fs_82_61, fs_82_62_p0 hk, fs_82_65_p0, fs_82_68, fs_82_69, fs_82_70_p0, fs_82_73, fs_82_74_p0 hk, fs_82_77, fs_82_78_p39 hk, fs_82_81, fs_82_82 hk, fs_82_85, Option.bind_some, Option.toList_some, Option.toList_none, List.cons_append, List.nil_append, fd_nb0, fd_nb1, fd_nbb, fd_b0, nI_add, pk_mul, ite_not, Classical.not_not, not_false_iff, not_true, and_self, or_true, true_or, ↓reduceIte, if_true, if_false, ite_self, fd_mI, fd_mH, fd_mL, fd_p0, fd_w0, fd_w1, fd_w2, fd_10, fd_00]
theorem fm_artC0 (hk : fd_Sok k fb bb dr) {n ns : Nat} {bt : Nat → Int32} (hf : h.1 1 1 = nI ns) {h' : fd_Hp} (r : fd_E 53 0 [some (.ref (41)), some (.int (nI (ns))), some (.ref (dr)), none] [] k h = some (some (.int (-1)), (k, h'))) : fd_E 82 0 [some (.ref (0)), some (.int (nI (0))), none] [] k h = some (some (.int (h'.1 dr 0)), (fd_wr (fd_wr k 0 6 (fb + 1)) 0 4 (dr + 1), fd_w h' 39 1 (nI 0))) := by
  have p0 : fd_at k 0 = some (.inl 9) := fd_ato hk rfl
  have p1 : fd_at (fd_wr k 0 6 (fb + 1)) 0 = some (.inl 9) := p0
  have n00 : (nI 0 = nI 1) = False := eq_false (by decide)
  have st : fd_E 82 0 [some (.ref (0)), some (.int (nI (0))), none] [] k h = fd_E 82 73 [some (.ref 0), some (.int (nI 0)), some (.ref dr)] [] (fd_wr (fd_wr k 0 6 (fb + 1)) 0 4 (dr + 1)) h' := by
    simp (disch := first | exact fd_nl_int | exact fd_nl_ref | exact fd_nl_none | assumption | exact nI_ne0 (by omega) (by omega) | exact fd_nb0 | exact fd_nb1 | exact fd_nbb | omega) only [fs_82_0, fs_82_1, fs_82_4, fs_82_7, fs_82_9, fs_82_10, fs_82_11_p0 hk, fs_82_14, fs_82_15_p0 hk, fs_82_18_p1 hk, fs_82_21, fs_82_22_p0 hk, fs_82_25_p41 hk, fs_82_28, fs_82_29, fs_82_32, fs_82_34, fs_82_35, fs_82_36_p0 hk, fs_82_39, fs_82_40, fs_82_41, fs_82_44, fs_82_45, fs_82_46_p0 hk, fs_82_49_p0, fs_82_52, fs_82_53, fs_82_54_p0, fs_82_57, fs_82_60, fs_82_61, fs_82_62_p0 hk, fs_82_65_p0, fs_82_68, fs_82_69, fs_82_70_p0, fs_82_74_p0 hk, fs_82_77, fs_82_78_p39 hk, fs_82_81, fs_82_82 hk, fs_82_85, Option.bind_some, Option.toList_some, Option.toList_none, List.cons_append, List.nil_append, fd_nb0, fd_nb1, fd_nbb, fd_b0, nI_add, pk_mul, ite_not, Classical.not_not, not_false_iff, not_true, and_self, or_true, true_or, ↓reduceIte, if_true, if_false, ite_self, fd_mI, fd_mH, fd_mL, fd_p0, fd_w0, fd_w1, fd_w2, fd_10, fd_00, fm_isBook, hf, r]
  rw [st]
  exact fm_art73 (fd_Sok_sw0 hk) hk.2.2.2.2.2.2.2.2.1 (nI 0)
theorem fm_artC1 (hk : fd_Sok k fb bb dr) {n ns : Nat} {bt : Nat → Int32} (hf : h.1 1 1 = nI ns) {h' : fd_Hp} (r : fd_E 53 0 [some (.ref (41)), some (.int (nI (ns))), some (.ref (dr)), none] [] k h = some (some (.int (-1)), (k, h'))) : fd_E 82 0 [some (.ref (0)), some (.int (nI (1))), none] [] k h = some (some (.int (h'.1 dr 0)), (fd_wr (fd_wr k 0 6 (bb + 1)) 0 5 (dr + 1), fd_w h' 39 1 (nI 0))) := by
  have p0 : fd_at k 0 = some (.inl 9) := fd_ato hk rfl
  have p1 : fd_at (fd_wr k 0 6 (bb + 1)) 0 = some (.inl 9) := p0
  have st : fd_E 82 0 [some (.ref (0)), some (.int (nI (1))), none] [] k h = fd_E 82 73 [some (.ref 0), some (.int (nI 1)), some (.ref dr)] [] (fd_wr (fd_wr k 0 6 (bb + 1)) 0 5 (dr + 1)) h' := by
    simp (disch := first | exact fd_nl_int | exact fd_nl_ref | exact fd_nl_none | assumption | exact nI_ne0 (by omega) (by omega) | exact fd_nb0 | exact fd_nb1 | exact fd_nbb | omega) only [fs_82_0, fs_82_1, fs_82_4, fs_82_7, fs_82_9, fs_82_10, fs_82_11_p0 hk, fs_82_14, fs_82_15_p0 hk, fs_82_18_p1 hk, fs_82_21, fs_82_22_p0 hk, fs_82_25_p41 hk, fs_82_28, fs_82_29, fs_82_32, fs_82_34, fs_82_35, fs_82_36_p0 hk, fs_82_39, fs_82_40, fs_82_41, fs_82_44, fs_82_45, fs_82_46_p0 hk, fs_82_49_p0, fs_82_52, fs_82_53, fs_82_54_p0, fs_82_57, fs_82_60, fs_82_61, fs_82_62_p0 hk, fs_82_65_p0, fs_82_68, fs_82_69, fs_82_70_p0, fs_82_74_p0 hk, fs_82_77, fs_82_78_p39 hk, fs_82_81, fs_82_82 hk, fs_82_85, Option.bind_some, Option.toList_some, Option.toList_none, List.cons_append, List.nil_append, fd_nb0, fd_nb1, fd_nbb, fd_b0, nI_add, pk_mul, ite_not, Classical.not_not, not_false_iff, not_true, and_self, or_true, true_or, ↓reduceIte, if_true, if_false, ite_self, fd_mI, fd_mH, fd_mL, fd_p0, fd_w0, fd_w1, fd_w2, fd_10, fd_00, fm_isBook, hf, r]
  rw [st]
  exact fm_art73 (fd_Sok_sw1 hk) hk.2.2.2.2.2.2.2.2.1 (nI 1)
def fd_cpA (B i : Nat) (g : fd_Hp) : fd_Hp := fd_w g 94 (50 * B + i) (g.1 92 i)
theorem fd_cpA_at {B : Nat} : ∀ (m i : Nat) (h : fd_Hp), (∀ j, i ≤ j → j < i + m → (fd_fold (fd_cpA B) m i h).1 94 (50 * B + j) = h.1 92 j) ∧ ∀ q j, ¬ (q = 94 ∧ 50 * B + i ≤ j ∧ j < 50 * B + i + m) → (fd_fold (fd_cpA B) m i h).1 q j = h.1 q j := by
  intro m
  induction m with
  | zero => exact fun i h => ⟨fun j h1 h2 => by omega, fun _ _ _ => rfl⟩
  | succ m ih =>
    intro i h
    obtain ⟨i1, i2⟩ := ih (i + 1) (fd_cpA B i h)
    refine ⟨fun j h1 h2 => ?_, fun q j hn => ?_⟩
    · rw [fd_foldS]
      by_cases z : j = i
      · subst z
        rw [i2 94 (50 * B + j) (by omega)]
        exact fd_w0
      · rw [i1 j (by omega) (by omega)]
        exact fd_w1 (by decide)
    · rw [fd_foldS, i2 q j (by omega)]
      exact if_neg (by omega)
/-- the reference's own: a book's articles, their number, the text empty -/
theorem fm_mArtEnd (hk : fd_Sok k fb bb dr) {B L : Nat} (hB : B < 2) {h' : fd_Hp} (r : fd_E 162 0 [some (.ref (77)), none] [] k h = some (some (.int (nI 1)), (k, h'))) (e30 : h'.1 77 30 = nI L) : ∃ g', fd_E 164 0 [some (.ref (77)), some (.int (nI (B))), none] [] k h = some (some (.int (nI L)), (k, g')) ∧ (∀ j, j < 50 → g'.1 94 (50 * B + j) = h'.1 92 j) ∧ g'.1 93 B = nI L ∧ g'.1 77 22 = nI 0 ∧ ∀ q j, ¬ (q = 94 ∧ 50 * B ≤ j ∧ j < 50 * B + 50) → ¬ (q = 93 ∧ j = B) → ¬ (q = 77 ∧ j = 22) → g'.1 q j = h'.1 q j := by
  have loop : ∀ (m_ a_ : Nat) (g : fd_Hp) (hg : g.1 77 30 = nI L), a_ + m_ = 50 → fd_E 164 22 [some (.ref (77)), some (.int (nI (B))), some (.int (nI (a_)))] [] k g = some (some (.int (nI L)), (k, fd_w (fd_w (fd_fold (fd_cpA B) m_ a_ g) 93 B (nI L)) 77 22 (nI 0))) := by
    intro m_
    induction m_ with
    | zero =>
      intro a_ g hg e
      have hc : nI (50) ≤ nI a_ := nI_le (by omega) (by omega)
      rw [fs_164_22]
      simp (disch := first | exact fd_nl_int | exact fd_nl_ref | exact fd_nl_none | assumption | exact nI_ne0 (by omega) (by omega) | exact fd_nb0 | exact fd_nb1 | exact fd_nbb | omega) only [fs_164_0, fs_164_1, fs_164_4, fs_164_7, fs_164_9, fs_164_10, fs_164_11_p77 hk, fs_164_14, fs_164_17, fs_164_19, fs_164_20, fs_164_21, fs_164_23, fs_164_25, fs_164_28, fs_164_29_p77 hk, fs_164_32, fs_164_34, fs_164_35, fs_164_36, fs_164_37, fs_164_38, fs_164_39_p77 hk, fs_164_42, fs_164_43_p92 hk, fs_164_44_p94 hk, fs_164_45, fs_164_48, fs_164_51, fs_164_52_p77 hk, fs_164_55, fs_164_56, fs_164_57_p77 hk, fs_164_60_p93 hk, fs_164_61, fs_164_62, fs_164_63_p77 hk, fs_164_66, fs_164_67_p77 hk, fs_164_70, Option.bind_some, Option.toList_some, Option.toList_none, List.cons_append, List.nil_append, fd_nb0, fd_nb1, fd_nbb, fd_b0, nI_add, pk_mul, ite_not, Classical.not_not, not_false_iff, not_true, and_self, or_true, true_or, ↓reduceIte, if_true, if_false, ite_self, fd_mI, fd_mH, fd_mL, fd_p0, fd_w0, fd_w1, fd_w2, fd_10, fd_00, hc, hg]
      try rfl
    | succ m_ ih =>
      intro a_ g hg e
      have hc : ¬ nI (50) ≤ nI a_ := nI_ge (by omega) (by omega)
      rw [fs_164_22]
      simp (disch := first | exact fd_nl_int | exact fd_nl_ref | exact fd_nl_none | assumption | exact nI_ne0 (by omega) (by omega) | exact fd_nb0 | exact fd_nb1 | exact fd_nbb | omega) only [fs_164_0, fs_164_1, fs_164_4, fs_164_7, fs_164_9, fs_164_10, fs_164_11_p77 hk, fs_164_14, fs_164_17, fs_164_19, fs_164_20, fs_164_21, fs_164_23, fs_164_25, fs_164_28, fs_164_29_p77 hk, fs_164_32, fs_164_34, fs_164_35, fs_164_36, fs_164_37, fs_164_38, fs_164_39_p77 hk, fs_164_42, fs_164_43_p92 hk, fs_164_44_p94 hk, fs_164_45, fs_164_48, fs_164_51, fs_164_52_p77 hk, fs_164_55, fs_164_56, fs_164_57_p77 hk, fs_164_60_p93 hk, fs_164_61, fs_164_62, fs_164_63_p77 hk, fs_164_66, fs_164_67_p77 hk, fs_164_70, Option.bind_some, Option.toList_some, Option.toList_none, List.cons_append, List.nil_append, fd_nb0, fd_nb1, fd_nbb, fd_b0, nI_add, pk_mul, ite_not, Classical.not_not, not_false_iff, not_true, and_self, or_true, true_or, ↓reduceIte, if_true, if_false, ite_self, fd_mI, fd_mH, fd_mL, fd_p0, fd_w0, fd_w1, fd_w2, fd_10, fd_00, hc, fd_foldS, hg, ih (a_ + 1) _ _ (by omega)]
      exact ih (a_ + 1) _ ((fd_w1 (by decide)).trans hg) (by omega)
  obtain ⟨a1, a2⟩ := fd_cpA_at (B := B) 50 0 h'
  have l := loop 50 0 h' e30 (by omega)
  have bk : fd_wi (nI B) (nI 0) (nI 1) := (fd_argL (by omega) (by omega)).mpr ⟨B, by omega, by omega, rfl⟩
  refine ⟨fd_w (fd_w (fd_fold (fd_cpA B) 50 0 h') 93 B (nI L)) 77 22 (nI 0), ?_, fun j hj => ?_, (fd_w1 (by decide)).trans fd_w0, fd_w0, fun q j n1 n2 n3 => ?_⟩
  · simp (disch := first | exact fd_nl_int | exact fd_nl_ref | exact fd_nl_none | assumption | exact nI_ne0 (by omega) (by omega) | exact fd_nb0 | exact fd_nb1 | exact fd_nbb | omega) only [fs_164_0, fs_164_1, fs_164_4, fs_164_7, fs_164_9, fs_164_10, fs_164_11_p77 hk, fs_164_14, fs_164_17, fs_164_19, fs_164_20, fs_164_21, fs_164_23, fs_164_25, fs_164_28, fs_164_29_p77 hk, fs_164_32, fs_164_34, fs_164_35, fs_164_36, fs_164_37, fs_164_38, fs_164_39_p77 hk, fs_164_42, fs_164_43_p92 hk, fs_164_44_p94 hk, fs_164_45, fs_164_48, fs_164_51, fs_164_52_p77 hk, fs_164_55, fs_164_56, fs_164_57_p77 hk, fs_164_60_p93 hk, fs_164_61, fs_164_62, fs_164_63_p77 hk, fs_164_66, fs_164_67_p77 hk, fs_164_70, Option.bind_some, Option.toList_some, Option.toList_none, List.cons_append, List.nil_append, fd_nb0, fd_nb1, fd_nbb, fd_b0, nI_add, pk_mul, ite_not, Classical.not_not, not_false_iff, not_true, and_self, or_true, true_or, ↓reduceIte, if_true, if_false, ite_self, fd_mI, fd_mH, fd_mL, fd_p0, fd_w0, fd_w1, fd_w2, fd_10, fd_00, fm_mIsBook, eq_true bk, r, l]
  · rw [fd_w1 (by decide), fd_w1 (by decide)]
    exact a1 j (Nat.zero_le _) (by omega)
  · exact (if_neg n3).trans ((if_neg n2).trans (a2 q j (by omega)))
theorem fd_bk_of {n ns B : Nat} {bt : Nat → Int32} {h1 g : fd_Hp} {L : List fd_Art} (hB : B < 2) (hL : L.length ≤ 10) (ok : ∀ A, A ∈ L → fd_artOk A) (c0 : g.1 b 0 = nI L.length) (m0 : g.1 93 B = nI L.length) (ce : ∀ i A, L[i]? = some A → fd_cEnt b i A g) (me : ∀ i A, L[i]? = some A → ∀ j, j < 5 → g.1 94 (50 * B + (5 * i + j)) = if j = 0 then nI A.1 else if j = 1 then A.2.1 else if j = 2 then A.2.2.1 else if j = 3 then A.2.2.2.1 else A.2.2.2.2) : fd_Bk g b B := by
  refine ⟨L.length, hL, c0, m0, fun a ha => ?_⟩
  obtain ⟨A, hA⟩ : ∃ A, L[a]? = some A := ⟨L[a], List.getElem?_eq_getElem ha⟩
  obtain ⟨o1, o2, F, G, o3, o4, o5, o6⟩ := ok A (List.mem_of_getElem? hA)
  obtain ⟨e1, e2, e3, e4, e5⟩ := ce a A hA
  have m := me a A hA
  refine ⟨fun j j1 j2 => ?_, ?_, F, G, o3, o4, e4.trans o5, e5.trans o6⟩
  · unfold fd_bkA fd_mdA
    have mj := m (j - 1) (by omega)
    rw [show 50 * B + 5 * a + (j - 1) = 50 * B + (5 * a + (j - 1)) by omega, mj]
    obtain rfl | rfl | rfl | rfl | rfl : j = 1 ∨ j = 2 ∨ j = 3 ∨ j = 4 ∨ j = 5 := by omega
    · exact e1
    · exact e2
    · exact e3
    · exact e4
    · exact e5
  · rcases o2 with ⟨p1, p2⟩ | ⟨u, u1, u2⟩
    · exact Or.inl ⟨by rw [← p1]; exact e1, e3.trans p2⟩
    · exact Or.inr ⟨u, u1, e3.trans u2⟩
end SWAP
section ARTS
variable {k : fd_Sk} {h g : fd_Hp} {fb bb dr b : Nat}
theorem fc_articles (I : fd_Inv k h) (x : Int32) : fd_Ag k h 82 [some (.ref (0)), some (.int (x)), none] 164 [some (.ref (77)), some (.int (x)), none] := by
  have I0 := I; obtain ⟨fb, bb, dr, ns, np, nb, t, hk, F, ht, TX, B0, B1, FE, BA, OF, PL⟩ := I0; have F0 := F; simp only [fd_Fl, Nat.reduceAdd] at F0; obtain ⟨⟨b1, b2, b3, b4⟩, ⟨f1, f2, f3, f4, f5, f6, f7⟩, ⟨g1, g2, g3, g4⟩, S, O, T⟩ := F0
  by_cases c1 : fd_wi x (nI 0) (nI 1)
  · have d1 : x = 0 ∨ x = nI 1 := fd_bk01.mpr (fd_bkwi.mp c1)
    have TX' := TX
    obtain ⟨n, n200, t1, t2, t3⟩ := TX'
    have ifb : fd_isB fb := hk.2.2.2.2.2.2.1
    have ibb : fd_isB bb := hk.2.2.2.2.2.2.2.1
    have idr : fd_isB dr := hk.2.2.2.2.2.2.2.2.1
    obtain ⟨n1, n2, n3⟩ := hk.2.2.2.2.2.2.2.2.2
    have T : fd_cT n (h.1 40) h := ⟨n200, t1, fun _ _ => rfl⟩
    obtain ⟨h1, r1, r2, r3, r4⟩ := fm_faultOf (ns := ns) hk idr T
    have dr42 : 42 ≤ dr ∧ dr ≤ 54 := by rcases idr with rfl | rfl | rfl <;> omega
    have fbd : ∀ j, j ≤ 5 → ¬ (dr ≤ fb + j ∧ fb + j ≤ dr + 5) := by rcases ifb with rfl | rfl | rfl <;> rcases idr with rfl | rfl | rfl <;> omega
    have bbd : ∀ j, j ≤ 5 → ¬ (dr ≤ bb + j ∧ bb + j ≤ dr + 5) := by rcases ibb with rfl | rfl | rfl <;> rcases idr with rfl | rfl | rfl <;> omega
    have fbl : 42 ≤ fb ∧ fb ≤ 54 := by rcases ifb with rfl | rfl | rfl <;> omega
    have bbl : 42 ≤ bb ∧ bb ≤ 54 := by rcases ibb with rfl | rfl | rfl <;> omega
    have Ln := fd_pRun_len (n := n) (bt := h.1 40) (ns := ns) 10 0
    have Lo := fd_pRun_ok (n := n) (bt := h.1 40) (ns := ns) 10 0 (Nat.zero_le _)
    by_cases v : (fd_pRun n (h.1 40) ns 10 0).1 = -1
    · rw [v] at r1
      -- what both sides come to, for book B, whatever the shape is called now
      have key : ∀ (B : Nat) (k' : fd_Sk) (fb' bb' dr' : Nat), B < 2 → x = nI B → fd_Sok k' fb' bb' dr' → k'.2 = k.2 → fd_E 82 0 [some (.ref (0)), some (.int (x)), none] [] k h = some (some (.int (h1.1 dr 0)), (k', fd_w h1 39 1 (nI 0))) → (∀ g : fd_Hp, fd_Bk g dr B → (∀ q, (q = 93 ∨ ¬ (39 ≤ q ∧ q ≤ 41) ∧ ¬ (dr ≤ q ∧ q ≤ dr + 5) ∧ ¬ (77 ≤ q ∧ q ≤ 94)) → ∀ j, ¬ (q = 93 ∧ j = B) → g.1 q j = h.1 q j) → (∀ j, ¬ (50 * B ≤ j ∧ j < 50 * B + 50) → g.1 94 j = h.1 94 j) → fd_Bk g fb' 0 ∧ fd_Bk g bb' 1) → fd_Ag k h 82 [some (.ref (0)), some (.int (x)), none] 164 [some (.ref (77)), some (.int (x)), none] := by
        intro B k' fb' bb' dr' hB hx hk' ek r82 two
        have T1 : fd_mT n (h.1 40) (fd_w h1 39 1 (nI 0)) := ⟨n200, (fd_w1 (by decide)).trans ((r4 77 22 (by omega) (by omega)).trans t2), fun i hi => (fd_w1 (by decide)).trans ((r4 91 i (by omega) (by omega)).trans (t3 i hi).symm)⟩
        obtain ⟨h2, R, s1, s2, s3, s5, s4⟩ := fm_isRead (ns := ns) hk' T1 ((fd_w1 (by decide)).trans ((r4 77 5 (by omega) (by omega)).trans f3))
        have hR : R = nI 1 := by
          rcases s2 with ⟨s2, _⟩ | ⟨_, _, s2⟩
          · exact s2
          · exact absurd v s2
        subst hR
        obtain ⟨g1, u1, u2, u3, u4, u5⟩ := fm_mArtEnd hk' hB s1 s3
        have G0 : ∀ q j, ¬ (q = 41 ∧ 1 ≤ j ∧ j ≤ 8) → ¬ (dr ≤ q ∧ q ≤ dr + 5) → ¬ (q = 39 ∧ j = 1) → ¬ (q = 77 ∧ 22 ≤ j ∧ j ≤ 30) → ¬ q = 92 → ¬ (q = 94 ∧ 50 * B ≤ j ∧ j < 50 * B + 50) → ¬ (q = 93 ∧ j = B) → g1.1 q j = h.1 q j := fun q j a1 a2 a3 a4 a5 a6 a7 => by
          rw [u5 q j a6 a7 (by omega), s4 q j (by omega) a5]
          exact (if_neg a3).trans (r4 q j a1 a2)
        have Gd : ∀ j q, dr ≤ q → q ≤ dr + 5 → g1.1 q j = h1.1 q j := fun j q q1 q2 => by
          rw [u5 q j (by omega) (by omega) (by omega), s4 q j (by omega) (by omega)]
          exact if_neg (by omega)
        have G : ∀ q, ¬ (39 ≤ q ∧ q ≤ 41) → ¬ (dr ≤ q ∧ q ≤ dr + 5) → ¬ q = 77 → ¬ (92 ≤ q ∧ q ≤ 94) → g1.1 q = h.1 q := fun q a1 a2 a3 a4 => funext fun j => G0 q j (by omega) a2 (by omega) (by omega) (by omega) (by omega) (by omega)
        have J : ∀ j, ¬ (22 ≤ j ∧ j ≤ 30) → g1.1 77 j = h.1 77 j := fun j hj => G0 77 j (by omega) (by omega) (by omega) (by omega) (by omega) (by omega) (by omega)
        have BK : fd_Bk g1 dr B := by
          refine fd_bk_of (n := n) (ns := ns) (bt := h.1 40) (h1 := h1) (L := (fd_pRun n (h.1 40) ns 10 0).2) hB Ln Lo ((Gd 0 dr (by omega) (by omega)).trans r2) u3 (fun i A z => ?_) (fun i A z j hj => ?_)
          · obtain ⟨e1, e2, e3, e4, e5⟩ := r3 i A z
            exact ⟨(Gd i (dr + 1) (by omega) (by omega)).trans e1, (Gd i (dr + 2) (by omega) (by omega)).trans e2, (Gd i (dr + 3) (by omega) (by omega)).trans e3, (Gd i (dr + 4) (by omega) (by omega)).trans e4, (Gd i (dr + 5) (by omega) (by omega)).trans e5⟩
          · have il : i < (fd_pRun n (h.1 40) ns 10 0).2.length := (List.getElem?_eq_some_iff.mp z).1
            obtain ⟨e1, e2, e3, e4, e5⟩ := s5 i A z
            rw [u2 (5 * i + j) (by omega)]
            obtain rfl | rfl | rfl | rfl | rfl : j = 0 ∨ j = 1 ∨ j = 2 ∨ j = 3 ∨ j = 4 := by omega
            · exact e1
            · exact e2
            · exact e3
            · exact e4
            · exact e5
        have e39 : fd_Itx g1 := ⟨0, by omega, by rw [u5 39 1 (by omega) (by omega) (by omega), s4 39 1 (by omega) (by omega), fd_w0], u4, fun i hi => absurd hi (Nat.not_lt_zero i)⟩
        have tw : fd_Bk g1 fb' 0 ∧ fd_Bk g1 bb' 1 := two g1 BK (fun q hq j hj => G0 q j (by omega) (by omega) (by omega) (by omega) (by omega) (by omega) hj) (fun j hj => G0 94 j (by omega) (by omega) (by omega) (by omega) (by omega) (by omega) (by omega))
        refine ⟨h1.1 dr 0, k', fd_w h1 39 1 (nI 0), g1, r82, ?_, ⟨fb', bb', dr', ns, np, nb, t, hk', fd_Fl_fr (by simp (disch := omega) only [G, J, and_self]) F, (J 0 (by omega)).trans ht, e39, tw.1, tw.2, fd_Ife_fr (by simp (disch := omega) only [G, J, and_self]) FE, fd_Iba_fr (by simp (disch := omega) only [G, J, and_self]) BA, fd_Iof_fr (by simp (disch := omega) only [G, J, and_self]) OF, fd_Ipl_fr (by simp (disch := omega) only [G, J, and_self]) PL⟩, ek⟩
        rw [r2, hx]
        exact u1
      rcases fd_bkwi.mp c1 with hx | hx
      · subst hx
        exact key 0 _ dr bb fb (by omega) rfl (fd_Sok_sw0 hk) rfl (fm_artC0 (n := n) (bt := h.1 40) hk f2 r1) (fun g bk q1 q2 => ⟨bk, fd_Bk_f2 (by omega) (fun j hj => funext fun i => q1 (bb + j) (Or.inr ⟨by omega, bbd j hj, by omega⟩) i (by omega)) (q1 93 (Or.inl rfl) 1 (by omega)) (fun j j1 j2 => q2 j (by omega)) B1⟩)
      · subst hx
        exact key 1 _ fb dr bb (by omega) rfl (fd_Sok_sw1 hk) rfl (fm_artC1 (n := n) (bt := h.1 40) hk f2 r1) (fun g bk q1 q2 => ⟨fd_Bk_f2 (by omega) (fun j hj => funext fun i => q1 (fb + j) (Or.inr ⟨by omega, fbd j hj, by omega⟩) i (by omega)) (q1 93 (Or.inl rfl) 0 (by omega)) (fun j j1 j2 => q2 j (by omega)) B0, bk⟩)
    · have nv := eq_false v
      have T1 : fd_mT n (h.1 40) h1 := ⟨n200, (r4 77 22 (by omega) (by omega)).trans t2, fun i hi => (r4 91 i (by omega) (by omega)).trans (t3 i hi).symm⟩
      obtain ⟨h2, R, s1, s2, s3, s5, s4⟩ := fm_isRead (ns := ns) hk T1 ((r4 77 5 (by omega) (by omega)).trans f3)
      have hR : R = nI 0 := by
        rcases s2 with ⟨_, s2⟩ | ⟨s2, _⟩
        · exact absurd s2 v
        · exact s2
      subst hR
      have G : ∀ q, ¬ q = 41 → ¬ (dr ≤ q ∧ q ≤ dr + 5) → ¬ q = 77 → ¬ q = 92 → h2.1 q = h.1 q := fun q a1 a2 a3 a4 => funext fun j => (s4 q j (by omega) a4).trans (r4 q j (by omega) a2)
      have J : ∀ j, ¬ (24 ≤ j ∧ j ≤ 30) → h2.1 77 j = h.1 77 j := fun j hj => (s4 77 j (by omega) (by omega)).trans (r4 77 j (by omega) (by omega))
      refine ⟨-4, k, h1, h2, ?_, ?_, ⟨fb, bb, dr, ns, np, nb, t, hk, fd_Fl_fr (by simp (disch := omega) only [G, J, and_self]) F, (J 0 (by omega)).trans ht, fd_Itx_fr (by simp (disch := omega) only [G, J, and_self]) TX, fd_Bk_f2 (by omega) (fun j hj => G (fb + j) (by omega) (fbd j hj) (by omega) (by omega)) (by rw [G 93 (by omega) (by omega) (by omega) (by omega)]) (fun j _ _ => by rw [G 94 (by omega) (by omega) (by omega) (by omega)]) B0, fd_Bk_f2 (by omega) (fun j hj => G (bb + j) (by omega) (bbd j hj) (by omega) (by omega)) (by rw [G 93 (by omega) (by omega) (by omega) (by omega)]) (fun j _ _ => by rw [G 94 (by omega) (by omega) (by omega) (by omega)]) B1, fd_Ife_fr (by simp (disch := omega) only [G, J, and_self]) FE, fd_Iba_fr (by simp (disch := omega) only [G, J, and_self]) BA, fd_Iof_fr (by simp (disch := omega) only [G, J, and_self]) OF, fd_Ipl_fr (by simp (disch := omega) only [G, J, and_self]) PL⟩, rfl⟩
      · simp (disch := first | exact fd_nl_int | exact fd_nl_ref | exact fd_nl_none | assumption | exact nI_ne0 (by omega) (by omega) | exact fd_nb0 | exact fd_nb1 | exact fd_nbb | omega) only [fs_82_0, fs_82_1, fs_82_4, fs_82_7, fs_82_9, fs_82_10, fs_82_11_p0 hk, fs_82_14, fs_82_15_p0 hk, fs_82_18_p1 hk, fs_82_21, fs_82_22_p0 hk, fs_82_25_p41 hk, fs_82_28, fs_82_29, fs_82_32, fs_82_34, fs_82_35, fs_82_36_p0 hk, fs_82_39, fs_82_40, fs_82_41, fs_82_44, fs_82_45, fs_82_46_p0 hk, fs_82_49_p0, fs_82_52, fs_82_53, fs_82_54_p0, fs_82_57, fs_82_60, fs_82_61, fs_82_62_p0 hk, fs_82_65_p0, fs_82_68, fs_82_69, fs_82_70_p0, fs_82_74_p0 hk, fs_82_77, fs_82_78_p39 hk, fs_82_81, fs_82_82 hk, fs_82_85, Option.bind_some, Option.toList_some, Option.toList_none, List.cons_append, List.nil_append, fd_nb0, fd_nb1, fd_nbb, fd_b0, nI_add, pk_mul, ite_not, Classical.not_not, not_false_iff, not_true, and_self, or_true, true_or, ↓reduceIte, if_true, if_false, ite_self, fd_mI, fd_mH, fd_mL, fd_p0, fd_w0, fd_w1, fd_w2, fd_10, fd_00, fm_isBook, eq_true d1, f2, r1, nv]
      · simp (disch := first | exact fd_nl_int | exact fd_nl_ref | exact fd_nl_none | assumption | exact nI_ne0 (by omega) (by omega) | exact fd_nb0 | exact fd_nb1 | exact fd_nbb | omega) only [fs_164_0, fs_164_1, fs_164_4, fs_164_7, fs_164_9, fs_164_10, fs_164_11_p77 hk, fs_164_14, fs_164_17, fs_164_19, fs_164_20, fs_164_21, fs_164_23, fs_164_25, fs_164_28, fs_164_29_p77 hk, fs_164_32, fs_164_34, fs_164_35, fs_164_36, fs_164_37, fs_164_38, fs_164_39_p77 hk, fs_164_42, fs_164_43_p92 hk, fs_164_44_p94 hk, fs_164_45, fs_164_48, fs_164_51, fs_164_52_p77 hk, fs_164_55, fs_164_56, fs_164_57_p77 hk, fs_164_60_p93 hk, fs_164_61, fs_164_62, fs_164_63_p77 hk, fs_164_66, fs_164_67_p77 hk, fs_164_70, Option.bind_some, Option.toList_some, Option.toList_none, List.cons_append, List.nil_append, fd_nb0, fd_nb1, fd_nbb, fd_b0, nI_add, pk_mul, ite_not, Classical.not_not, not_false_iff, not_true, and_self, or_true, true_or, ↓reduceIte, if_true, if_false, ite_self, fd_mI, fd_mH, fd_mL, fd_p0, fd_w0, fd_w1, fd_w2, fd_10, fd_00, fm_mIsBook, eq_true c1, s1]
  · have d1 : ¬ (x = 0 ∨ x = nI 1) := fun q => c1 (fd_bkwi.mpr (fd_bk01.mp q))
    have d2 := eq_false d1
    exact fd_ag_ro I (v := -2) (w := -2) (by simp (disch := first | exact fd_nl_int | exact fd_nl_ref | exact fd_nl_none | assumption | exact nI_ne0 (by omega) (by omega) | exact fd_nb0 | exact fd_nb1 | exact fd_nbb | omega) only [fs_82_0, fs_82_1, fs_82_4, fs_82_7, fs_82_9, fs_82_10, fs_82_11_p0 hk, fs_82_14, fs_82_15_p0 hk, fs_82_18_p1 hk, fs_82_21, fs_82_22_p0 hk, fs_82_25_p41 hk, fs_82_28, fs_82_29, fs_82_32, fs_82_34, fs_82_35, fs_82_36_p0 hk, fs_82_39, fs_82_40, fs_82_41, fs_82_44, fs_82_45, fs_82_46_p0 hk, fs_82_49_p0, fs_82_52, fs_82_53, fs_82_54_p0, fs_82_57, fs_82_60, fs_82_61, fs_82_62_p0 hk, fs_82_65_p0, fs_82_68, fs_82_69, fs_82_70_p0, fs_82_74_p0 hk, fs_82_77, fs_82_78_p39 hk, fs_82_81, fs_82_82 hk, fs_82_85, Option.bind_some, Option.toList_some, Option.toList_none, List.cons_append, List.nil_append, fd_nb0, fd_nb1, fd_nbb, fd_b0, nI_add, pk_mul, ite_not, Classical.not_not, not_false_iff, not_true, and_self, or_true, true_or, ↓reduceIte, if_true, if_false, ite_self, fd_mI, fd_mH, fd_mL, fd_p0, fd_w0, fd_w1, fd_w2, fd_10, fd_00, fm_isShip hk, fm_isHour, fm_isBook, fm_within, fm_isCell, fm_canPass hk, f1, f2, f4, d2, c1]) (by simp (disch := first | exact fd_nl_int | exact fd_nl_ref | exact fd_nl_none | assumption | exact nI_ne0 (by omega) (by omega) | exact fd_nb0 | exact fd_nb1 | exact fd_nbb | omega) only [fs_164_0, fs_164_1, fs_164_4, fs_164_7, fs_164_9, fs_164_10, fs_164_11_p77 hk, fs_164_14, fs_164_17, fs_164_19, fs_164_20, fs_164_21, fs_164_23, fs_164_25, fs_164_28, fs_164_29_p77 hk, fs_164_32, fs_164_34, fs_164_35, fs_164_36, fs_164_37, fs_164_38, fs_164_39_p77 hk, fs_164_42, fs_164_43_p92 hk, fs_164_44_p94 hk, fs_164_45, fs_164_48, fs_164_51, fs_164_52_p77 hk, fs_164_55, fs_164_56, fs_164_57_p77 hk, fs_164_60_p93 hk, fs_164_61, fs_164_62, fs_164_63_p77 hk, fs_164_66, fs_164_67_p77 hk, fs_164_70, Option.bind_some, Option.toList_some, Option.toList_none, List.cons_append, List.nil_append, fd_nb0, fd_nb1, fd_nbb, fd_b0, nI_add, pk_mul, ite_not, Classical.not_not, not_false_iff, not_true, and_self, or_true, true_or, ↓reduceIte, if_true, if_false, ite_self, fd_mI, fd_mH, fd_mL, fd_p0, fd_w0, fd_w1, fd_w2, fd_10, fd_00, fm_mIsShip hk, fm_mIn, fm_mIsHour, fm_mIsBook, fm_mIsCell, f3, f5, ht, d2, c1]) rfl
end ARTS
