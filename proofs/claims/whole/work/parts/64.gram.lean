/-! ARTICLES as a text has them; how the reader takes them -/
section PARSE
variable (n : Nat) (bt : Nat → Int32)
abbrev fd_Art : Type := Nat × Int32 × Int32 × Int32 × Int32
def fd_pNum (l m : Int32) (p : Nat) : Nat ⊕ (Int32 × Nat) := if fd_isN n bt p l m then .inr (fd_num n bt p, fd_tE n bt p) else .inl (fd_tS n bt p)
def fd_pShip (ns p : Nat) : Nat ⊕ (Int32 × Nat) := if fd_isW n bt p 4 then .inr (-1, fd_tE n bt p) else fd_pNum n bt (nI 0) (nI ns - nI 1) p
def fd_pBut (p : Nat) : Nat ⊕ (Int32 × Nat) := if fd_isW n bt p 5 then fd_pNum n bt (nI 0) (nI 5) (fd_tE n bt p) else .inr (-1, p)
def fd_pTo (f : Int32) (q : Nat) : Nat ⊕ ((Int32 × Int32) × Nat) := if fd_isW n bt q 7 then (match fd_pNum n bt f (nI 3000) (fd_tE n bt q) with
  | .inl x => .inl x
  | .inr (t, r) => .inr ((f, t), r)) else .inr ((f, nI 3000), q)
def fd_pHrs (p : Nat) : Nat ⊕ ((Int32 × Int32) × Nat) := if fd_isW n bt p 6 then (match fd_pNum n bt (nI 0) (nI 3000) (fd_tE n bt p) with
  | .inl x => .inl x
  | .inr (f, q) => fd_pTo n bt f q) else .inr ((nI 0, nI 3000), p)
def fd_pKd (p : Nat) : Nat := if fd_isW n bt p 0 then 0 else if fd_isW n bt p 1 then 1 else if fd_isW n bt p 2 then 2 else if fd_isW n bt p 3 then 3 else 4
def fd_pVal (kd q : Nat) : Nat ⊕ (Int32 × Nat) := if kd = 3 then fd_pBut n bt q else fd_pNum n bt (nI 0) (nI 99) q
def fd_pWho (ns kd p : Nat) : Nat ⊕ (Int32 × Nat) := if kd = 2 then .inr (-1, p) else fd_pShip n bt ns p
def fd_pBody (ns kd p : Nat) : Nat ⊕ ((Int32 × Int32) × Nat) := match fd_pWho n bt ns kd p with
  | .inl x => .inl x
  | .inr (s, q) => (match fd_pVal n bt kd q with
    | .inl x => .inl x
    | .inr (v, r) => .inr ((s, v), r))
def fd_pArt (ns p : Nat) : Nat ⊕ (fd_Art × Nat) := if fd_pKd n bt p = 4 then .inl (fd_tS n bt p) else match fd_pBody n bt ns (fd_pKd n bt p) (fd_tE n bt p) with
  | .inl x => .inl x
  | .inr ((s, v), q) => (match fd_pHrs n bt q with
    | .inl x => .inl x
    | .inr ((f, t), r) => .inr ((fd_pKd n bt p, s, v, f, t), r))
end PARSE
section GRAM
variable {k : fd_Sk} {h g : fd_Hp} {fb bb dr b : Nat} {n p ns : Nat} {bt : Nat → Int32}
theorem fd_CL_fr {h' : fd_Hp} (L : fd_CL n bt p h) (e : ∀ j, 2 ≤ j → j ≤ 4 → h'.1 41 j = h.1 41 j) : fd_CL n bt p h' := by
  unfold fd_CL
  rw [e 2 (by omega) (by omega), e 3 (by omega) (by omega), e 4 (by omega) (by omega)]
  exact L
theorem fd_cT_f {h' : fd_Hp} (T : fd_cT n bt h) (e : ∀ q j, ¬ (q = 41 ∧ 2 ≤ j ∧ j ≤ 8) → h'.1 q j = h.1 q j) : fd_cT n bt h' := fd_cT_fr T (e 39 1 (by omega)) (funext fun j => e 40 j (by omega))
theorem fm_ship0 (hk : fd_Sok k fb bb dr) (T : fd_cT n bt h) (L : fd_CL n bt p h) (hn : h.1 41 1 = nI ns) {x : Nat} (e : fd_pShip n bt ns p = .inl x) : ∃ h', fd_E 56 0 [some (.ref (41)), none] [] k h = some (some (.int (nI 0)), (k, h')) ∧ h'.1 41 2 = nI x ∧ ∀ q j, ¬ (q = 41 ∧ 2 ≤ j ∧ j ≤ 8) → h'.1 q j = h.1 q j := by
  unfold fd_pShip fd_pNum at e
  by_cases c : fd_isW n bt p 4
  · rw [if_pos c] at e; cases e
  · rw [if_neg c] at e
    by_cases d : fd_isN n bt p (nI 0) (nI ns - nI 1)
    · rw [if_pos d] at e; cases e
    · rw [if_neg d] at e
      cases e
      have w := fm_wordN hk T L (by omega) c
      have u := fm_numN hk T L d
      simp only [Nat.reduceAdd] at w
      refine ⟨fd_w h 41 5 (h.1 41 6), ?_, (fd_w2 (by decide)).trans L.2.1, fun q j hn => if_neg (by omega)⟩
      simp (disch := first | exact fd_nl_int | exact fd_nl_ref | exact fd_nl_none | assumption | exact nI_ne0 (by omega) (by omega) | exact fd_nb0 | exact fd_nb1 | exact fd_nbb | omega) only [fs_56_0, fs_56_1, fs_56_3_p41 hk, fs_56_6, fs_56_9, fs_56_10, fs_56_11_p41 hk, fs_56_14, fs_56_15, fs_56_16, fs_56_17, fs_56_18, fs_56_19_p41 hk, fs_56_22, fs_56_23, fs_56_24_p41 hk, fs_56_27, fs_56_28, fs_56_29, fs_56_30_p41 hk, fs_56_33_p41 hk, fs_56_36, fs_56_37, Option.bind_some, Option.toList_some, Option.toList_none, List.cons_append, List.nil_append, fd_nb0, fd_nb1, fd_nbb, fd_b0, nI_add, pk_mul, ite_not, Classical.not_not, not_false_iff, not_true, and_self, or_true, true_or, ↓reduceIte, if_true, if_false, ite_self, fd_mI, fd_mH, fd_mL, fd_p0, fd_w0, fd_w1, fd_w2, fd_10, fd_00, w, hn, u]
theorem fm_ship1 (hk : fd_Sok k fb bb dr) (T : fd_cT n bt h) (L : fd_CL n bt p h) (hn : h.1 41 1 = nI ns) {v : Int32} {q : Nat} (e : fd_pShip n bt ns p = .inr (v, q)) : ∃ h', fd_E 56 0 [some (.ref (41)), none] [] k h = some (some (.int (nI 1)), (k, h')) ∧ fd_CL n bt q h' ∧ h'.1 41 5 = v ∧ ∀ q j, ¬ (q = 41 ∧ 2 ≤ j ∧ j ≤ 6) → h'.1 q j = h.1 q j := by
  unfold fd_pShip fd_pNum at e
  by_cases c : fd_isW n bt p 4
  · rw [if_pos c] at e
    cases e
    obtain ⟨h1, r1, r2, r3⟩ := fm_wordY hk T L (by omega) c
    simp only [Nat.reduceAdd] at r1
    refine ⟨fd_w h1 41 5 (-1), ?_, fd_CL_fr r2 (fun j j1 j2 => fd_w2 (by omega)), fd_w0, fun q j hn => (if_neg (by omega)).trans (r3 q j (by omega))⟩
    simp (disch := first | exact fd_nl_int | exact fd_nl_ref | exact fd_nl_none | assumption | exact nI_ne0 (by omega) (by omega) | exact fd_nb0 | exact fd_nb1 | exact fd_nbb | omega) only [fs_56_0, fs_56_1, fs_56_3_p41 hk, fs_56_6, fs_56_9, fs_56_10, fs_56_11_p41 hk, fs_56_14, fs_56_15, fs_56_16, fs_56_17, fs_56_18, fs_56_19_p41 hk, fs_56_22, fs_56_23, fs_56_24_p41 hk, fs_56_27, fs_56_28, fs_56_29, fs_56_30_p41 hk, fs_56_33_p41 hk, fs_56_36, fs_56_37, Option.bind_some, Option.toList_some, Option.toList_none, List.cons_append, List.nil_append, fd_nb0, fd_nb1, fd_nbb, fd_b0, nI_add, pk_mul, ite_not, Classical.not_not, not_false_iff, not_true, and_self, or_true, true_or, ↓reduceIte, if_true, if_false, ite_self, fd_mI, fd_mH, fd_mL, fd_p0, fd_w0, fd_w1, fd_w2, fd_10, fd_00, r1]
  · rw [if_neg c] at e
    by_cases d : fd_isN n bt p (nI 0) (nI ns - nI 1)
    · rw [if_pos d] at e
      cases e
      have w := fm_wordN hk T L (by omega) c
      simp only [Nat.reduceAdd] at w
      obtain ⟨h1, r1, r2, r4, r3⟩ := fm_numY hk T L d
      refine ⟨fd_w h1 41 5 (fd_num n bt p), ?_, fd_CL_fr r2 (fun j j1 j2 => fd_w2 (by omega)), fd_w0, fun q j hn => (if_neg (by omega)).trans (r3 q j (by omega) (by omega))⟩
      simp (disch := first | exact fd_nl_int | exact fd_nl_ref | exact fd_nl_none | assumption | exact nI_ne0 (by omega) (by omega) | exact fd_nb0 | exact fd_nb1 | exact fd_nbb | omega) only [fs_56_0, fs_56_1, fs_56_3_p41 hk, fs_56_6, fs_56_9, fs_56_10, fs_56_11_p41 hk, fs_56_14, fs_56_15, fs_56_16, fs_56_17, fs_56_18, fs_56_19_p41 hk, fs_56_22, fs_56_23, fs_56_24_p41 hk, fs_56_27, fs_56_28, fs_56_29, fs_56_30_p41 hk, fs_56_33_p41 hk, fs_56_36, fs_56_37, Option.bind_some, Option.toList_some, Option.toList_none, List.cons_append, List.nil_append, fd_nb0, fd_nb1, fd_nbb, fd_b0, nI_add, pk_mul, ite_not, Classical.not_not, not_false_iff, not_true, and_self, or_true, true_or, ↓reduceIte, if_true, if_false, ite_self, fd_mI, fd_mH, fd_mL, fd_p0, fd_w0, fd_w1, fd_w2, fd_10, fd_00, w, hn, r1, r4]
    · rw [if_neg d] at e; cases e
theorem fm_but0 (hk : fd_Sok k fb bb dr) (T : fd_cT n bt h) (L : fd_CL n bt p h) {x : Nat} (e : fd_pBut n bt p = .inl x) : ∃ h', fd_E 57 0 [some (.ref (41))] [] k h = some (some (.int (nI 0)), (k, h')) ∧ h'.1 41 2 = nI x ∧ ∀ q j, ¬ (q = 41 ∧ 2 ≤ j ∧ j ≤ 8) → h'.1 q j = h.1 q j := by
  unfold fd_pBut fd_pNum at e
  have T0 : fd_cT n bt (fd_w h 41 6 (-1)) := fd_cT_f T (fun q j hn => if_neg (by omega))
  have L0 : fd_CL n bt p (fd_w h 41 6 (-1)) := fd_CL_fr L (fun j j1 j2 => fd_w2 (by omega))
  by_cases c : fd_isW n bt p 5
  · rw [if_pos c] at e
    obtain ⟨h1, r1, r2, r3⟩ := fm_wordY hk T0 L0 (by omega) c
    simp only [Nat.reduceAdd] at r1
    have T1 : fd_cT n bt h1 := fd_cT_f T0 (fun q j hn => r3 q j (by omega))
    by_cases d : fd_isN n bt (fd_tE n bt p) (nI 0) (nI 5)
    · rw [if_pos d] at e; cases e
    · rw [if_neg d] at e
      cases e
      have u := fm_numN hk T1 r2 d
      refine ⟨h1, ?_, r2.2.1, fun q j hn => (r3 q j (by omega)).trans (if_neg (by omega))⟩
      simp (disch := first | exact fd_nl_int | exact fd_nl_ref | exact fd_nl_none | assumption | exact nI_ne0 (by omega) (by omega) | exact fd_nb0 | exact fd_nb1 | exact fd_nbb | omega) only [fs_57_0, fs_57_1, fs_57_2_p41 hk, fs_57_5, fs_57_6, fs_57_8_p41 hk, fs_57_11, fs_57_14, fs_57_15, fs_57_16, fs_57_17_p41 hk, fs_57_20, fs_57_23, fs_57_24, fs_57_27, fs_57_28, Option.bind_some, Option.toList_some, Option.toList_none, List.cons_append, List.nil_append, fd_nb0, fd_nb1, fd_nbb, fd_b0, nI_add, pk_mul, ite_not, Classical.not_not, not_false_iff, not_true, and_self, or_true, true_or, ↓reduceIte, if_true, if_false, ite_self, fd_mI, fd_mH, fd_mL, fd_p0, fd_w0, fd_w1, fd_w2, fd_10, fd_00, r1, u]
  · rw [if_neg c] at e; cases e
theorem fm_but1 (hk : fd_Sok k fb bb dr) (T : fd_cT n bt h) (L : fd_CL n bt p h) {v : Int32} {q : Nat} (e : fd_pBut n bt p = .inr (v, q)) : ∃ h', fd_E 57 0 [some (.ref (41))] [] k h = some (some (.int (nI 1)), (k, h')) ∧ fd_CL n bt q h' ∧ h'.1 41 6 = v ∧ ∀ q j, ¬ (q = 41 ∧ 2 ≤ j ∧ j ≤ 4) → ¬ (q = 41 ∧ j = 6) → h'.1 q j = h.1 q j := by
  unfold fd_pBut fd_pNum at e
  have T0 : fd_cT n bt (fd_w h 41 6 (-1)) := fd_cT_f T (fun q j hn => if_neg (by omega))
  have L0 : fd_CL n bt p (fd_w h 41 6 (-1)) := fd_CL_fr L (fun j j1 j2 => fd_w2 (by omega))
  by_cases c : fd_isW n bt p 5
  · rw [if_pos c] at e
    obtain ⟨h1, r1, r2, r3⟩ := fm_wordY hk T0 L0 (by omega) c
    simp only [Nat.reduceAdd] at r1
    have T1 : fd_cT n bt h1 := fd_cT_f T0 (fun q j hn => r3 q j (by omega))
    by_cases d : fd_isN n bt (fd_tE n bt p) (nI 0) (nI 5)
    · rw [if_pos d] at e
      cases e
      obtain ⟨h2, s1, s2, s4, s3⟩ := fm_numY hk T1 r2 d
      refine ⟨h2, ?_, s2, s4, fun q j n1 n2 => (s3 q j n1 n2).trans ((r3 q j n1).trans (if_neg n2))⟩
      simp (disch := first | exact fd_nl_int | exact fd_nl_ref | exact fd_nl_none | assumption | exact nI_ne0 (by omega) (by omega) | exact fd_nb0 | exact fd_nb1 | exact fd_nbb | omega) only [fs_57_0, fs_57_1, fs_57_2_p41 hk, fs_57_5, fs_57_6, fs_57_8_p41 hk, fs_57_11, fs_57_14, fs_57_15, fs_57_16, fs_57_17_p41 hk, fs_57_20, fs_57_23, fs_57_24, fs_57_27, fs_57_28, Option.bind_some, Option.toList_some, Option.toList_none, List.cons_append, List.nil_append, fd_nb0, fd_nb1, fd_nbb, fd_b0, nI_add, pk_mul, ite_not, Classical.not_not, not_false_iff, not_true, and_self, or_true, true_or, ↓reduceIte, if_true, if_false, ite_self, fd_mI, fd_mH, fd_mL, fd_p0, fd_w0, fd_w1, fd_w2, fd_10, fd_00, r1, s1]
    · rw [if_neg d] at e; cases e
  · rw [if_neg c] at e
    cases e
    have w := fm_wordN hk T0 L0 (by omega) c
    simp only [Nat.reduceAdd] at w
    refine ⟨fd_w h 41 6 (-1), ?_, L0, fd_w0, fun q j n1 n2 => if_neg n2⟩
    simp (disch := first | exact fd_nl_int | exact fd_nl_ref | exact fd_nl_none | assumption | exact nI_ne0 (by omega) (by omega) | exact fd_nb0 | exact fd_nb1 | exact fd_nbb | omega) only [fs_57_0, fs_57_1, fs_57_2_p41 hk, fs_57_5, fs_57_6, fs_57_8_p41 hk, fs_57_11, fs_57_14, fs_57_15, fs_57_16, fs_57_17_p41 hk, fs_57_20, fs_57_23, fs_57_24, fs_57_27, fs_57_28, Option.bind_some, Option.toList_some, Option.toList_none, List.cons_append, List.nil_append, fd_nb0, fd_nb1, fd_nbb, fd_b0, nI_add, pk_mul, ite_not, Classical.not_not, not_false_iff, not_true, and_self, or_true, true_or, ↓reduceIte, if_true, if_false, ite_self, fd_mI, fd_mH, fd_mL, fd_p0, fd_w0, fd_w1, fd_w2, fd_10, fd_00, w]
theorem fm_hrs0 (hk : fd_Sok k fb bb dr) (T : fd_cT n bt h) (L : fd_CL n bt p h) {x : Nat} (e : fd_pHrs n bt p = .inl x) : ∃ h', fd_E 58 0 [some (.ref (41)), none] [] k h = some (some (.int (nI 0)), (k, h')) ∧ h'.1 41 2 = nI x ∧ ∀ q j, ¬ (q = 41 ∧ 2 ≤ j ∧ j ≤ 8) → h'.1 q j = h.1 q j := by
  unfold fd_pHrs fd_pNum at e
  have T0 : fd_cT n bt (fd_w (fd_w h 41 7 (nI 0)) 41 8 (nI 3000)) := fd_cT_f T (fun q j hn => (if_neg (by omega)).trans (if_neg (by omega)))
  have L0 : fd_CL n bt p (fd_w (fd_w h 41 7 (nI 0)) 41 8 (nI 3000)) := fd_CL_fr L (fun j j1 j2 => (fd_w2 (by omega)).trans (fd_w2 (by omega)))
  by_cases c : fd_isW n bt p 6
  · rw [if_pos c] at e
    obtain ⟨h1, r1, r2, r3⟩ := fm_wordY hk T0 L0 (by omega) c
    simp only [Nat.reduceAdd] at r1
    have T1 : fd_cT n bt h1 := fd_cT_f T0 (fun q j hn => r3 q j (by omega))
    by_cases d : fd_isN n bt (fd_tE n bt p) (nI 0) (nI 3000)
    · rw [if_pos d] at e
      dsimp only at e
      obtain ⟨h2, s1, s2, s4, s3⟩ := fm_numY hk T1 r2 d
      have T2 : fd_cT n bt (fd_w h2 41 7 (fd_num n bt (fd_tE n bt p))) := fd_cT_f T1 (fun q j hn => (if_neg (by omega)).trans (s3 q j (by omega) (by omega)))
      have L2 : fd_CL n bt (fd_tE n bt (fd_tE n bt p)) (fd_w h2 41 7 (fd_num n bt (fd_tE n bt p))) := fd_CL_fr s2 (fun j j1 j2 => fd_w2 (by omega))
      unfold fd_pTo fd_pNum at e
      by_cases c2 : fd_isW n bt (fd_tE n bt (fd_tE n bt p)) 7
      · rw [if_pos c2] at e
        obtain ⟨h3, t1, t2, t3⟩ := fm_wordY hk T2 L2 (by omega) c2
        simp only [Nat.reduceAdd] at t1
        have T3 : fd_cT n bt h3 := fd_cT_f T2 (fun q j hn => t3 q j (by omega))
        by_cases d2 : fd_isN n bt (fd_tE n bt (fd_tE n bt (fd_tE n bt p))) (fd_num n bt (fd_tE n bt p)) (nI 3000)
        · rw [if_pos d2] at e; cases e
        · rw [if_neg d2] at e
          cases e
          have u := fm_numN hk T3 t2 d2
          have e7 : h3.1 41 7 = fd_num n bt (fd_tE n bt p) := (t3 41 7 (by omega)).trans fd_w0
          refine ⟨fd_w h3 41 8 (h3.1 41 6), ?_, (fd_w2 (by decide)).trans t2.2.1, fun q j hn => (if_neg (by omega)).trans ((t3 q j (by omega)).trans ((if_neg (by omega)).trans ((s3 q j (by omega) (by omega)).trans ((r3 q j (by omega)).trans ((if_neg (by omega)).trans (if_neg (by omega)))))))⟩
          simp (disch := first | exact fd_nl_int | exact fd_nl_ref | exact fd_nl_none | assumption | exact nI_ne0 (by omega) (by omega) | exact fd_nb0 | exact fd_nb1 | exact fd_nbb | omega) only [fs_58_0, fs_58_1, fs_58_2_p41 hk, fs_58_5, fs_58_6, fs_58_9_p41 hk, fs_58_12, fs_58_13, fs_58_15_p41 hk, fs_58_18, fs_58_21, fs_58_22, fs_58_23, fs_58_24, fs_58_25, fs_58_28_p41 hk, fs_58_31, fs_58_34, fs_58_35, fs_58_36, fs_58_37, fs_58_38_p41 hk, fs_58_41_p41 hk, fs_58_44, fs_58_45, fs_58_47_p41 hk, fs_58_50, fs_58_53, fs_58_54, fs_58_55, fs_58_56, fs_58_57_p41 hk, fs_58_60, fs_58_63_p41 hk, fs_58_66, fs_58_67, fs_58_68, fs_58_69_p41 hk, fs_58_72_p41 hk, fs_58_75, fs_58_76, Option.bind_some, Option.toList_some, Option.toList_none, List.cons_append, List.nil_append, fd_nb0, fd_nb1, fd_nbb, fd_b0, nI_add, pk_mul, ite_not, Classical.not_not, not_false_iff, not_true, and_self, or_true, true_or, ↓reduceIte, if_true, if_false, ite_self, fd_mI, fd_mH, fd_mL, fd_p0, fd_w0, fd_w1, fd_w2, fd_10, fd_00, r1, s1, s4, t1, e7, u]
      · rw [if_neg c2] at e; cases e
    · rw [if_neg d] at e
      cases e
      have u := fm_numN hk T1 r2 d
      refine ⟨h1, ?_, r2.2.1, fun q j hn => (r3 q j (by omega)).trans ((if_neg (by omega)).trans (if_neg (by omega)))⟩
      simp (disch := first | exact fd_nl_int | exact fd_nl_ref | exact fd_nl_none | assumption | exact nI_ne0 (by omega) (by omega) | exact fd_nb0 | exact fd_nb1 | exact fd_nbb | omega) only [fs_58_0, fs_58_1, fs_58_2_p41 hk, fs_58_5, fs_58_6, fs_58_9_p41 hk, fs_58_12, fs_58_13, fs_58_15_p41 hk, fs_58_18, fs_58_21, fs_58_22, fs_58_23, fs_58_24, fs_58_25, fs_58_28_p41 hk, fs_58_31, fs_58_34, fs_58_35, fs_58_36, fs_58_37, fs_58_38_p41 hk, fs_58_41_p41 hk, fs_58_44, fs_58_45, fs_58_47_p41 hk, fs_58_50, fs_58_53, fs_58_54, fs_58_55, fs_58_56, fs_58_57_p41 hk, fs_58_60, fs_58_63_p41 hk, fs_58_66, fs_58_67, fs_58_68, fs_58_69_p41 hk, fs_58_72_p41 hk, fs_58_75, fs_58_76, Option.bind_some, Option.toList_some, Option.toList_none, List.cons_append, List.nil_append, fd_nb0, fd_nb1, fd_nbb, fd_b0, nI_add, pk_mul, ite_not, Classical.not_not, not_false_iff, not_true, and_self, or_true, true_or, ↓reduceIte, if_true, if_false, ite_self, fd_mI, fd_mH, fd_mL, fd_p0, fd_w0, fd_w1, fd_w2, fd_10, fd_00, r1, u]
  · rw [if_neg c] at e; cases e
theorem fm_hrs1 (hk : fd_Sok k fb bb dr) (T : fd_cT n bt h) (L : fd_CL n bt p h) {f t : Int32} {q : Nat} (e : fd_pHrs n bt p = .inr ((f, t), q)) : ∃ h', fd_E 58 0 [some (.ref (41)), none] [] k h = some (some (.int (nI 1)), (k, h')) ∧ fd_CL n bt q h' ∧ h'.1 41 7 = f ∧ h'.1 41 8 = t ∧ ∀ q j, ¬ (q = 41 ∧ 2 ≤ j ∧ j ≤ 4) → ¬ (q = 41 ∧ 6 ≤ j ∧ j ≤ 8) → h'.1 q j = h.1 q j := by
  unfold fd_pHrs fd_pNum at e
  have T0 : fd_cT n bt (fd_w (fd_w h 41 7 (nI 0)) 41 8 (nI 3000)) := fd_cT_f T (fun q j hn => (if_neg (by omega)).trans (if_neg (by omega)))
  have L0 : fd_CL n bt p (fd_w (fd_w h 41 7 (nI 0)) 41 8 (nI 3000)) := fd_CL_fr L (fun j j1 j2 => (fd_w2 (by omega)).trans (fd_w2 (by omega)))
  by_cases c : fd_isW n bt p 6
  · rw [if_pos c] at e
    obtain ⟨h1, r1, r2, r3⟩ := fm_wordY hk T0 L0 (by omega) c
    simp only [Nat.reduceAdd] at r1
    have T1 : fd_cT n bt h1 := fd_cT_f T0 (fun q j hn => r3 q j (by omega))
    by_cases d : fd_isN n bt (fd_tE n bt p) (nI 0) (nI 3000)
    · rw [if_pos d] at e
      dsimp only at e
      obtain ⟨h2, s1, s2, s4, s3⟩ := fm_numY hk T1 r2 d
      have T2 : fd_cT n bt (fd_w h2 41 7 (fd_num n bt (fd_tE n bt p))) := fd_cT_f T1 (fun q j hn => (if_neg (by omega)).trans (s3 q j (by omega) (by omega)))
      have L2 : fd_CL n bt (fd_tE n bt (fd_tE n bt p)) (fd_w h2 41 7 (fd_num n bt (fd_tE n bt p))) := fd_CL_fr s2 (fun j j1 j2 => fd_w2 (by omega))
      unfold fd_pTo fd_pNum at e
      by_cases c2 : fd_isW n bt (fd_tE n bt (fd_tE n bt p)) 7
      · rw [if_pos c2] at e
        obtain ⟨h3, t1, t2, t3⟩ := fm_wordY hk T2 L2 (by omega) c2
        simp only [Nat.reduceAdd] at t1
        have T3 : fd_cT n bt h3 := fd_cT_f T2 (fun q j hn => t3 q j (by omega))
        have e7 : h3.1 41 7 = fd_num n bt (fd_tE n bt p) := (t3 41 7 (by omega)).trans fd_w0
        by_cases d2 : fd_isN n bt (fd_tE n bt (fd_tE n bt (fd_tE n bt p))) (fd_num n bt (fd_tE n bt p)) (nI 3000)
        · rw [if_pos d2] at e
          cases e
          obtain ⟨h4, u1, u2, u4, u3⟩ := fm_numY hk T3 t2 d2
          refine ⟨fd_w h4 41 8 (fd_num n bt (fd_tE n bt (fd_tE n bt (fd_tE n bt p)))), ?_, fd_CL_fr u2 (fun j j1 j2 => fd_w2 (by omega)), (fd_w2 (by decide)).trans ((u3 41 7 (by omega) (by omega)).trans e7), fd_w0, fun q j n1 n2 => (if_neg (by omega)).trans ((u3 q j (by omega) (by omega)).trans ((t3 q j (by omega)).trans ((if_neg (by omega)).trans ((s3 q j (by omega) (by omega)).trans ((r3 q j (by omega)).trans ((if_neg (by omega)).trans (if_neg (by omega))))))))⟩
          simp (disch := first | exact fd_nl_int | exact fd_nl_ref | exact fd_nl_none | assumption | exact nI_ne0 (by omega) (by omega) | exact fd_nb0 | exact fd_nb1 | exact fd_nbb | omega) only [fs_58_0, fs_58_1, fs_58_2_p41 hk, fs_58_5, fs_58_6, fs_58_9_p41 hk, fs_58_12, fs_58_13, fs_58_15_p41 hk, fs_58_18, fs_58_21, fs_58_22, fs_58_23, fs_58_24, fs_58_25, fs_58_28_p41 hk, fs_58_31, fs_58_34, fs_58_35, fs_58_36, fs_58_37, fs_58_38_p41 hk, fs_58_41_p41 hk, fs_58_44, fs_58_45, fs_58_47_p41 hk, fs_58_50, fs_58_53, fs_58_54, fs_58_55, fs_58_56, fs_58_57_p41 hk, fs_58_60, fs_58_63_p41 hk, fs_58_66, fs_58_67, fs_58_68, fs_58_69_p41 hk, fs_58_72_p41 hk, fs_58_75, fs_58_76, Option.bind_some, Option.toList_some, Option.toList_none, List.cons_append, List.nil_append, fd_nb0, fd_nb1, fd_nbb, fd_b0, nI_add, pk_mul, ite_not, Classical.not_not, not_false_iff, not_true, and_self, or_true, true_or, ↓reduceIte, if_true, if_false, ite_self, fd_mI, fd_mH, fd_mL, fd_p0, fd_w0, fd_w1, fd_w2, fd_10, fd_00, r1, s1, s4, t1, e7, u1, u4]
        · rw [if_neg d2] at e; cases e
      · rw [if_neg c2] at e
        cases e
        have w := fm_wordN hk T2 L2 (by omega) c2
        simp only [Nat.reduceAdd] at w
        refine ⟨fd_w h2 41 7 (fd_num n bt (fd_tE n bt p)), ?_, L2, fd_w0, (fd_w2 (by decide)).trans ((s3 41 8 (by omega) (by omega)).trans ((r3 41 8 (by omega)).trans fd_w0)), fun q j n1 n2 => (if_neg (by omega)).trans ((s3 q j (by omega) (by omega)).trans ((r3 q j (by omega)).trans ((if_neg (by omega)).trans (if_neg (by omega)))))⟩
        simp (disch := first | exact fd_nl_int | exact fd_nl_ref | exact fd_nl_none | assumption | exact nI_ne0 (by omega) (by omega) | exact fd_nb0 | exact fd_nb1 | exact fd_nbb | omega) only [fs_58_0, fs_58_1, fs_58_2_p41 hk, fs_58_5, fs_58_6, fs_58_9_p41 hk, fs_58_12, fs_58_13, fs_58_15_p41 hk, fs_58_18, fs_58_21, fs_58_22, fs_58_23, fs_58_24, fs_58_25, fs_58_28_p41 hk, fs_58_31, fs_58_34, fs_58_35, fs_58_36, fs_58_37, fs_58_38_p41 hk, fs_58_41_p41 hk, fs_58_44, fs_58_45, fs_58_47_p41 hk, fs_58_50, fs_58_53, fs_58_54, fs_58_55, fs_58_56, fs_58_57_p41 hk, fs_58_60, fs_58_63_p41 hk, fs_58_66, fs_58_67, fs_58_68, fs_58_69_p41 hk, fs_58_72_p41 hk, fs_58_75, fs_58_76, Option.bind_some, Option.toList_some, Option.toList_none, List.cons_append, List.nil_append, fd_nb0, fd_nb1, fd_nbb, fd_b0, nI_add, pk_mul, ite_not, Classical.not_not, not_false_iff, not_true, and_self, or_true, true_or, ↓reduceIte, if_true, if_false, ite_self, fd_mI, fd_mH, fd_mL, fd_p0, fd_w0, fd_w1, fd_w2, fd_10, fd_00, r1, s1, s4, w]
    · rw [if_neg d] at e; cases e
  · rw [if_neg c] at e
    cases e
    have w := fm_wordN hk T0 L0 (by omega) c
    simp only [Nat.reduceAdd] at w
    refine ⟨fd_w (fd_w h 41 7 (nI 0)) 41 8 (nI 3000), ?_, L0, (fd_w2 (by decide)).trans fd_w0, fd_w0, fun q j n1 n2 => (if_neg (by omega)).trans (if_neg (by omega))⟩
    simp (disch := first | exact fd_nl_int | exact fd_nl_ref | exact fd_nl_none | assumption | exact nI_ne0 (by omega) (by omega) | exact fd_nb0 | exact fd_nb1 | exact fd_nbb | omega) only [fs_58_0, fs_58_1, fs_58_2_p41 hk, fs_58_5, fs_58_6, fs_58_9_p41 hk, fs_58_12, fs_58_13, fs_58_15_p41 hk, fs_58_18, fs_58_21, fs_58_22, fs_58_23, fs_58_24, fs_58_25, fs_58_28_p41 hk, fs_58_31, fs_58_34, fs_58_35, fs_58_36, fs_58_37, fs_58_38_p41 hk, fs_58_41_p41 hk, fs_58_44, fs_58_45, fs_58_47_p41 hk, fs_58_50, fs_58_53, fs_58_54, fs_58_55, fs_58_56, fs_58_57_p41 hk, fs_58_60, fs_58_63_p41 hk, fs_58_66, fs_58_67, fs_58_68, fs_58_69_p41 hk, fs_58_72_p41 hk, fs_58_75, fs_58_76, Option.bind_some, Option.toList_some, Option.toList_none, List.cons_append, List.nil_append, fd_nb0, fd_nb1, fd_nbb, fd_b0, nI_add, pk_mul, ite_not, Classical.not_not, not_false_iff, not_true, and_self, or_true, true_or, ↓reduceIte, if_true, if_false, ite_self, fd_mI, fd_mH, fd_mL, fd_p0, fd_w0, fd_w1, fd_w2, fd_10, fd_00, w]
theorem fm_kind4 (hk : fd_Sok k fb bb dr) (T : fd_cT n bt h) (L : fd_CL n bt p h) (e : fd_pKd n bt p = 4) : fd_E 55 0 [some (.ref (41))] [] k h = some (some (.int (-1)), (k, h)) := by
  unfold fd_pKd at e
  by_cases c0 : fd_isW n bt p 0
  · rw [if_pos c0] at e; omega
  · by_cases c1 : fd_isW n bt p 1
    · rw [if_neg c0, if_pos c1] at e; omega
    · by_cases c2 : fd_isW n bt p 2
      · rw [if_neg c0, if_neg c1, if_pos c2] at e; omega
      · by_cases c3 : fd_isW n bt p 3
        · rw [if_neg c0, if_neg c1, if_neg c2, if_pos c3] at e; omega
        · have w0 := fm_wordN hk T L (by omega) c0
          have w1 := fm_wordN hk T L (by omega) c1
          have w2 := fm_wordN hk T L (by omega) c2
          have w3 := fm_wordN hk T L (by omega) c3
          simp only [Nat.reduceAdd] at w0 w1 w2 w3
          simp (disch := first | exact fd_nl_int | exact fd_nl_ref | exact fd_nl_none | assumption | exact nI_ne0 (by omega) (by omega) | exact fd_nb0 | exact fd_nb1 | exact fd_nbb | omega) only [fs_55_0, fs_55_1, fs_55_3_p41 hk, fs_55_6, fs_55_9, fs_55_10, fs_55_11, fs_55_12, fs_55_14_p41 hk, fs_55_17, fs_55_20, fs_55_21, fs_55_22, fs_55_23, fs_55_25_p41 hk, fs_55_28, fs_55_31, fs_55_32, fs_55_33, fs_55_34, fs_55_36_p41 hk, fs_55_39, fs_55_42, fs_55_43, fs_55_46, fs_55_47, Option.bind_some, Option.toList_some, Option.toList_none, List.cons_append, List.nil_append, fd_nb0, fd_nb1, fd_nbb, fd_b0, nI_add, pk_mul, ite_not, Classical.not_not, not_false_iff, not_true, and_self, or_true, true_or, ↓reduceIte, if_true, if_false, ite_self, fd_mI, fd_mH, fd_mL, fd_p0, fd_w0, fd_w1, fd_w2, fd_10, fd_00, w0, w1, w2, w3]
theorem fm_kind (hk : fd_Sok k fb bb dr) (T : fd_cT n bt h) (L : fd_CL n bt p h) (e : ¬ fd_pKd n bt p = 4) : fd_pKd n bt p < 4 ∧ ∃ h', fd_E 55 0 [some (.ref (41))] [] k h = some (some (.int (nI (fd_pKd n bt p))), (k, h')) ∧ fd_CL n bt (fd_tE n bt p) h' ∧ ∀ q j, ¬ (q = 41 ∧ 2 ≤ j ∧ j ≤ 4) → h'.1 q j = h.1 q j := by
  unfold fd_pKd at e ⊢
  by_cases c0 : fd_isW n bt p 0
  · rw [if_pos c0]
    obtain ⟨h', r1, r2, r3⟩ := fm_wordY hk T L (by omega) c0
    simp only [Nat.reduceAdd] at r1
    refine ⟨by omega, h', ?_, r2, r3⟩
    simp (disch := first | exact fd_nl_int | exact fd_nl_ref | exact fd_nl_none | assumption | exact nI_ne0 (by omega) (by omega) | exact fd_nb0 | exact fd_nb1 | exact fd_nbb | omega) only [fs_55_0, fs_55_1, fs_55_3_p41 hk, fs_55_6, fs_55_9, fs_55_10, fs_55_11, fs_55_12, fs_55_14_p41 hk, fs_55_17, fs_55_20, fs_55_21, fs_55_22, fs_55_23, fs_55_25_p41 hk, fs_55_28, fs_55_31, fs_55_32, fs_55_33, fs_55_34, fs_55_36_p41 hk, fs_55_39, fs_55_42, fs_55_43, fs_55_46, fs_55_47, Option.bind_some, Option.toList_some, Option.toList_none, List.cons_append, List.nil_append, fd_nb0, fd_nb1, fd_nbb, fd_b0, nI_add, pk_mul, ite_not, Classical.not_not, not_false_iff, not_true, and_self, or_true, true_or, ↓reduceIte, if_true, if_false, ite_self, fd_mI, fd_mH, fd_mL, fd_p0, fd_w0, fd_w1, fd_w2, fd_10, fd_00, r1]
  · have w0 := fm_wordN hk T L (by omega) c0
    by_cases c1 : fd_isW n bt p 1
    · rw [if_neg c0, if_pos c1]
      obtain ⟨h', r1, r2, r3⟩ := fm_wordY hk T L (by omega) c1
      simp only [Nat.reduceAdd] at r1 w0
      refine ⟨by omega, h', ?_, r2, r3⟩
      simp (disch := first | exact fd_nl_int | exact fd_nl_ref | exact fd_nl_none | assumption | exact nI_ne0 (by omega) (by omega) | exact fd_nb0 | exact fd_nb1 | exact fd_nbb | omega) only [fs_55_0, fs_55_1, fs_55_3_p41 hk, fs_55_6, fs_55_9, fs_55_10, fs_55_11, fs_55_12, fs_55_14_p41 hk, fs_55_17, fs_55_20, fs_55_21, fs_55_22, fs_55_23, fs_55_25_p41 hk, fs_55_28, fs_55_31, fs_55_32, fs_55_33, fs_55_34, fs_55_36_p41 hk, fs_55_39, fs_55_42, fs_55_43, fs_55_46, fs_55_47, Option.bind_some, Option.toList_some, Option.toList_none, List.cons_append, List.nil_append, fd_nb0, fd_nb1, fd_nbb, fd_b0, nI_add, pk_mul, ite_not, Classical.not_not, not_false_iff, not_true, and_self, or_true, true_or, ↓reduceIte, if_true, if_false, ite_self, fd_mI, fd_mH, fd_mL, fd_p0, fd_w0, fd_w1, fd_w2, fd_10, fd_00, w0, r1]
    · have w1 := fm_wordN hk T L (by omega) c1
      by_cases c2 : fd_isW n bt p 2
      · rw [if_neg c0, if_neg c1, if_pos c2]
        obtain ⟨h', r1, r2, r3⟩ := fm_wordY hk T L (by omega) c2
        simp only [Nat.reduceAdd] at r1 w0 w1
        refine ⟨by omega, h', ?_, r2, r3⟩
        simp (disch := first | exact fd_nl_int | exact fd_nl_ref | exact fd_nl_none | assumption | exact nI_ne0 (by omega) (by omega) | exact fd_nb0 | exact fd_nb1 | exact fd_nbb | omega) only [fs_55_0, fs_55_1, fs_55_3_p41 hk, fs_55_6, fs_55_9, fs_55_10, fs_55_11, fs_55_12, fs_55_14_p41 hk, fs_55_17, fs_55_20, fs_55_21, fs_55_22, fs_55_23, fs_55_25_p41 hk, fs_55_28, fs_55_31, fs_55_32, fs_55_33, fs_55_34, fs_55_36_p41 hk, fs_55_39, fs_55_42, fs_55_43, fs_55_46, fs_55_47, Option.bind_some, Option.toList_some, Option.toList_none, List.cons_append, List.nil_append, fd_nb0, fd_nb1, fd_nbb, fd_b0, nI_add, pk_mul, ite_not, Classical.not_not, not_false_iff, not_true, and_self, or_true, true_or, ↓reduceIte, if_true, if_false, ite_self, fd_mI, fd_mH, fd_mL, fd_p0, fd_w0, fd_w1, fd_w2, fd_10, fd_00, w0, w1, r1]
      · have w2 := fm_wordN hk T L (by omega) c2
        by_cases c3 : fd_isW n bt p 3
        · rw [if_neg c0, if_neg c1, if_neg c2, if_pos c3]
          obtain ⟨h', r1, r2, r3⟩ := fm_wordY hk T L (by omega) c3
          simp only [Nat.reduceAdd] at r1 w0 w1 w2
          refine ⟨by omega, h', ?_, r2, r3⟩
          simp (disch := first | exact fd_nl_int | exact fd_nl_ref | exact fd_nl_none | assumption | exact nI_ne0 (by omega) (by omega) | exact fd_nb0 | exact fd_nb1 | exact fd_nbb | omega) only [fs_55_0, fs_55_1, fs_55_3_p41 hk, fs_55_6, fs_55_9, fs_55_10, fs_55_11, fs_55_12, fs_55_14_p41 hk, fs_55_17, fs_55_20, fs_55_21, fs_55_22, fs_55_23, fs_55_25_p41 hk, fs_55_28, fs_55_31, fs_55_32, fs_55_33, fs_55_34, fs_55_36_p41 hk, fs_55_39, fs_55_42, fs_55_43, fs_55_46, fs_55_47, Option.bind_some, Option.toList_some, Option.toList_none, List.cons_append, List.nil_append, fd_nb0, fd_nb1, fd_nbb, fd_b0, nI_add, pk_mul, ite_not, Classical.not_not, not_false_iff, not_true, and_self, or_true, true_or, ↓reduceIte, if_true, if_false, ite_self, fd_mI, fd_mH, fd_mL, fd_p0, fd_w0, fd_w1, fd_w2, fd_10, fd_00, w0, w1, w2, r1]
        · rw [if_neg c0, if_neg c1, if_neg c2, if_neg c3] at e
          exact absurd rfl e
/-- the reader's body of an article: whom, and the number -/
theorem fm_body0 (hk : fd_Sok k fb bb dr) (T : fd_cT n bt h) (L : fd_CL n bt p h) (hn : h.1 41 1 = nI ns) {kd x c : Nat} (k4 : kd < 4) (hk2 : fd_E 55 0 [some (.ref (41))] [] k g = some (some (.int (nI kd)), (k, h))) (e : fd_pBody n bt ns kd p = .inl x) : ∃ h' z, fd_E 54 0 [some (.ref (41)), some (.ref (c)), none, none, none] [] k g = fd_E 54 92 [some (.ref (41)), some (.ref (c)), some (.int (nI (kd))), some (.int (nI (0))), some (.int (z))] [] k h' ∧ h'.1 41 2 = nI x ∧ ∀ q j, ¬ (q = 41 ∧ 2 ≤ j ∧ j ≤ 8) → h'.1 q j = h.1 q j := by
  have n01 : (nI 0 = nI 1) = False := eq_false (by decide)
  have n20 : (nI 2 = 0) = False := eq_false (by decide)
  have n21 : (nI 2 = nI 1) = False := eq_false (by decide)
  have n30 : (nI 3 = 0) = False := eq_false (by decide)
  have n31 : (nI 3 = nI 1) = False := eq_false (by decide)
  have n32 : (nI 3 = nI 2) = False := eq_false (by decide)
  by_cases c2 : kd = 2
  · subst c2
    have T1 : fd_cT n bt (fd_w h 41 5 (-1)) := fd_cT_f T (fun q j hn => if_neg (by omega))
    have L1 : fd_CL n bt p (fd_w h 41 5 (-1)) := fd_CL_fr L (fun j j1 j2 => fd_w2 (by omega))
    have e' : fd_pNum n bt (nI 0) (nI 99) p = .inl x := by
      unfold fd_pBody fd_pWho fd_pVal at e
      rw [if_pos rfl] at e
      dsimp only at e
      rw [if_neg (by decide)] at e
      revert e
      cases fd_pNum n bt (nI 0) (nI 99) p with
      | inl y => exact fun z => by cases z; rfl
      | inr y => exact fun z => by cases z
    unfold fd_pNum at e'
    by_cases d : fd_isN n bt p (nI 0) (nI 99)
    · rw [if_pos d] at e'; cases e'
    · rw [if_neg d] at e'
      cases e'
      have u := fm_numN hk T1 L1 d
      refine ⟨fd_w h 41 5 (-1), h.1 41 6, ?_, (fd_w2 (by decide)).trans L.2.1, fun q j hn => if_neg (by omega)⟩
      simp (disch := first | exact fd_nl_int | exact fd_nl_ref | exact fd_nl_none | assumption | exact nI_ne0 (by omega) (by omega) | exact fd_nb0 | exact fd_nb1 | exact fd_nbb | omega) only [fs_54_0, fs_54_1_p41 hk, fs_54_4, fs_54_5, fs_54_6, fs_54_9, fs_54_10, fs_54_11, fs_54_14, fs_54_15_p41 hk, fs_54_18, fs_54_21, fs_54_22, fs_54_23, fs_54_25_p41 hk, fs_54_28, fs_54_31, fs_54_32, fs_54_35, fs_54_36, fs_54_37, fs_54_40, fs_54_41, fs_54_42, fs_54_45, fs_54_46, fs_54_47_p41 hk, fs_54_50, fs_54_51, fs_54_52, fs_54_54_p41 hk, fs_54_57, fs_54_58, fs_54_61, fs_54_62, fs_54_63, fs_54_66, fs_54_67_p41 hk, fs_54_70, fs_54_73, fs_54_74_p41 hk, fs_54_77, fs_54_80, fs_54_81, fs_54_84, fs_54_85, fs_54_86, fs_54_87_p41 hk, fs_54_90, fs_54_93, fs_54_96, fs_54_97_p41 hk, fs_54_100, fs_54_103, fs_54_104, fs_54_105, fs_54_106, fs_54_107, fs_54_108_p41 hk, fs_54_111, fs_54_113, fs_54_114_p41 hk, fs_54_117, fs_54_118_p41 hk, fs_54_121 hk, fs_54_124, fs_54_125, Option.bind_some, Option.toList_some, Option.toList_none, List.cons_append, List.nil_append, fd_nb0, fd_nb1, fd_nbb, fd_b0, nI_add, pk_mul, ite_not, Classical.not_not, not_false_iff, not_true, and_self, or_true, true_or, ↓reduceIte, if_true, if_false, ite_self, fd_mI, fd_mH, fd_mL, fd_p0, fd_w0, fd_w1, fd_w2, fd_10, fd_00, hk2, n20, n21, u]
  · have ew : fd_pWho n bt ns kd p = fd_pShip n bt ns p := if_neg c2
    unfold fd_pBody at e
    rw [ew] at e
    cases es : fd_pShip n bt ns p with
    | inl y =>
      rw [es] at e
      cases e
      obtain ⟨h1, r1, r2, r3⟩ := fm_ship0 hk T L hn es
      refine ⟨h1, h1.1 41 6, ?_, r2, r3⟩
      obtain rfl | rfl | rfl : kd = 0 ∨ kd = 1 ∨ kd = 3 := by omega
      · simp (disch := first | exact fd_nl_int | exact fd_nl_ref | exact fd_nl_none | assumption | exact nI_ne0 (by omega) (by omega) | exact fd_nb0 | exact fd_nb1 | exact fd_nbb | omega) only [fs_54_0, fs_54_1_p41 hk, fs_54_4, fs_54_5, fs_54_6, fs_54_9, fs_54_10, fs_54_11, fs_54_14, fs_54_15_p41 hk, fs_54_18, fs_54_21, fs_54_22, fs_54_23, fs_54_25_p41 hk, fs_54_28, fs_54_31, fs_54_32, fs_54_35, fs_54_36, fs_54_37, fs_54_40, fs_54_41, fs_54_42, fs_54_45, fs_54_46, fs_54_47_p41 hk, fs_54_50, fs_54_51, fs_54_52, fs_54_54_p41 hk, fs_54_57, fs_54_58, fs_54_61, fs_54_62, fs_54_63, fs_54_66, fs_54_67_p41 hk, fs_54_70, fs_54_73, fs_54_74_p41 hk, fs_54_77, fs_54_80, fs_54_81, fs_54_84, fs_54_85, fs_54_86, fs_54_87_p41 hk, fs_54_90, fs_54_93, fs_54_96, fs_54_97_p41 hk, fs_54_100, fs_54_103, fs_54_104, fs_54_105, fs_54_106, fs_54_107, fs_54_108_p41 hk, fs_54_111, fs_54_113, fs_54_114_p41 hk, fs_54_117, fs_54_118_p41 hk, fs_54_121 hk, fs_54_124, fs_54_125, Option.bind_some, Option.toList_some, Option.toList_none, List.cons_append, List.nil_append, fd_nb0, fd_nb1, fd_nbb, fd_b0, nI_add, pk_mul, ite_not, Classical.not_not, not_false_iff, not_true, and_self, or_true, true_or, ↓reduceIte, if_true, if_false, ite_self, fd_mI, fd_mH, fd_mL, fd_p0, fd_w0, fd_w1, fd_w2, fd_10, fd_00, hk2, r1]
      · simp (disch := first | exact fd_nl_int | exact fd_nl_ref | exact fd_nl_none | assumption | exact nI_ne0 (by omega) (by omega) | exact fd_nb0 | exact fd_nb1 | exact fd_nbb | omega) only [fs_54_0, fs_54_1_p41 hk, fs_54_4, fs_54_5, fs_54_6, fs_54_9, fs_54_10, fs_54_11, fs_54_14, fs_54_15_p41 hk, fs_54_18, fs_54_21, fs_54_22, fs_54_23, fs_54_25_p41 hk, fs_54_28, fs_54_31, fs_54_32, fs_54_35, fs_54_36, fs_54_37, fs_54_40, fs_54_41, fs_54_42, fs_54_45, fs_54_46, fs_54_47_p41 hk, fs_54_50, fs_54_51, fs_54_52, fs_54_54_p41 hk, fs_54_57, fs_54_58, fs_54_61, fs_54_62, fs_54_63, fs_54_66, fs_54_67_p41 hk, fs_54_70, fs_54_73, fs_54_74_p41 hk, fs_54_77, fs_54_80, fs_54_81, fs_54_84, fs_54_85, fs_54_86, fs_54_87_p41 hk, fs_54_90, fs_54_93, fs_54_96, fs_54_97_p41 hk, fs_54_100, fs_54_103, fs_54_104, fs_54_105, fs_54_106, fs_54_107, fs_54_108_p41 hk, fs_54_111, fs_54_113, fs_54_114_p41 hk, fs_54_117, fs_54_118_p41 hk, fs_54_121 hk, fs_54_124, fs_54_125, Option.bind_some, Option.toList_some, Option.toList_none, List.cons_append, List.nil_append, fd_nb0, fd_nb1, fd_nbb, fd_b0, nI_add, pk_mul, ite_not, Classical.not_not, not_false_iff, not_true, and_self, or_true, true_or, ↓reduceIte, if_true, if_false, ite_self, fd_mI, fd_mH, fd_mL, fd_p0, fd_w0, fd_w1, fd_w2, fd_10, fd_00, hk2, r1]
      · simp (disch := first | exact fd_nl_int | exact fd_nl_ref | exact fd_nl_none | assumption | exact nI_ne0 (by omega) (by omega) | exact fd_nb0 | exact fd_nb1 | exact fd_nbb | omega) only [fs_54_0, fs_54_1_p41 hk, fs_54_4, fs_54_5, fs_54_6, fs_54_9, fs_54_10, fs_54_11, fs_54_14, fs_54_15_p41 hk, fs_54_18, fs_54_21, fs_54_22, fs_54_23, fs_54_25_p41 hk, fs_54_28, fs_54_31, fs_54_32, fs_54_35, fs_54_36, fs_54_37, fs_54_40, fs_54_41, fs_54_42, fs_54_45, fs_54_46, fs_54_47_p41 hk, fs_54_50, fs_54_51, fs_54_52, fs_54_54_p41 hk, fs_54_57, fs_54_58, fs_54_61, fs_54_62, fs_54_63, fs_54_66, fs_54_67_p41 hk, fs_54_70, fs_54_73, fs_54_74_p41 hk, fs_54_77, fs_54_80, fs_54_81, fs_54_84, fs_54_85, fs_54_86, fs_54_87_p41 hk, fs_54_90, fs_54_93, fs_54_96, fs_54_97_p41 hk, fs_54_100, fs_54_103, fs_54_104, fs_54_105, fs_54_106, fs_54_107, fs_54_108_p41 hk, fs_54_111, fs_54_113, fs_54_114_p41 hk, fs_54_117, fs_54_118_p41 hk, fs_54_121 hk, fs_54_124, fs_54_125, Option.bind_some, Option.toList_some, Option.toList_none, List.cons_append, List.nil_append, fd_nb0, fd_nb1, fd_nbb, fd_b0, nI_add, pk_mul, ite_not, Classical.not_not, not_false_iff, not_true, and_self, or_true, true_or, ↓reduceIte, if_true, if_false, ite_self, fd_mI, fd_mH, fd_mL, fd_p0, fd_w0, fd_w1, fd_w2, fd_10, fd_00, hk2, n30, n31, n32, r1]
    | inr y =>
      obtain ⟨s, q⟩ := y
      rw [es] at e
      dsimp only at e
      obtain ⟨h1, r1, r2, r4, r3⟩ := fm_ship1 hk T L hn es
      have T1 : fd_cT n bt h1 := fd_cT_f T (fun q j hn => r3 q j (by omega))
      by_cases c3 : kd = 3
      · subst c3
        have ev : fd_pVal n bt 3 q = fd_pBut n bt q := if_pos rfl
        rw [ev] at e
        cases eb : fd_pBut n bt q with
        | inl y =>
          rw [eb] at e
          cases e
          obtain ⟨h2, s1, s2, s3⟩ := fm_but0 hk T1 r2 eb
          refine ⟨h2, h2.1 41 6, ?_, s2, fun q j hn => (s3 q j hn).trans (r3 q j (by omega))⟩
          simp (disch := first | exact fd_nl_int | exact fd_nl_ref | exact fd_nl_none | assumption | exact nI_ne0 (by omega) (by omega) | exact fd_nb0 | exact fd_nb1 | exact fd_nbb | omega) only [fs_54_0, fs_54_1_p41 hk, fs_54_4, fs_54_5, fs_54_6, fs_54_9, fs_54_10, fs_54_11, fs_54_14, fs_54_15_p41 hk, fs_54_18, fs_54_21, fs_54_22, fs_54_23, fs_54_25_p41 hk, fs_54_28, fs_54_31, fs_54_32, fs_54_35, fs_54_36, fs_54_37, fs_54_40, fs_54_41, fs_54_42, fs_54_45, fs_54_46, fs_54_47_p41 hk, fs_54_50, fs_54_51, fs_54_52, fs_54_54_p41 hk, fs_54_57, fs_54_58, fs_54_61, fs_54_62, fs_54_63, fs_54_66, fs_54_67_p41 hk, fs_54_70, fs_54_73, fs_54_74_p41 hk, fs_54_77, fs_54_80, fs_54_81, fs_54_84, fs_54_85, fs_54_86, fs_54_87_p41 hk, fs_54_90, fs_54_93, fs_54_96, fs_54_97_p41 hk, fs_54_100, fs_54_103, fs_54_104, fs_54_105, fs_54_106, fs_54_107, fs_54_108_p41 hk, fs_54_111, fs_54_113, fs_54_114_p41 hk, fs_54_117, fs_54_118_p41 hk, fs_54_121 hk, fs_54_124, fs_54_125, Option.bind_some, Option.toList_some, Option.toList_none, List.cons_append, List.nil_append, fd_nb0, fd_nb1, fd_nbb, fd_b0, nI_add, pk_mul, ite_not, Classical.not_not, not_false_iff, not_true, and_self, or_true, true_or, ↓reduceIte, if_true, if_false, ite_self, fd_mI, fd_mH, fd_mL, fd_p0, fd_w0, fd_w1, fd_w2, fd_10, fd_00, hk2, n30, n31, n32, r1, s1]
        | inr y =>
          rw [eb] at e
          cases e
      · have ev : fd_pVal n bt kd q = fd_pNum n bt (nI 0) (nI 99) q := if_neg c3
        rw [ev] at e
        unfold fd_pNum at e
        by_cases d : fd_isN n bt q (nI 0) (nI 99)
        · rw [if_pos d] at e; cases e
        · rw [if_neg d] at e
          cases e
          have u := fm_numN hk T1 r2 d
          refine ⟨h1, h1.1 41 6, ?_, r2.2.1, fun q j hn => r3 q j (by omega)⟩
          obtain rfl | rfl : kd = 0 ∨ kd = 1 := by omega
          · simp (disch := first | exact fd_nl_int | exact fd_nl_ref | exact fd_nl_none | assumption | exact nI_ne0 (by omega) (by omega) | exact fd_nb0 | exact fd_nb1 | exact fd_nbb | omega) only [fs_54_0, fs_54_1_p41 hk, fs_54_4, fs_54_5, fs_54_6, fs_54_9, fs_54_10, fs_54_11, fs_54_14, fs_54_15_p41 hk, fs_54_18, fs_54_21, fs_54_22, fs_54_23, fs_54_25_p41 hk, fs_54_28, fs_54_31, fs_54_32, fs_54_35, fs_54_36, fs_54_37, fs_54_40, fs_54_41, fs_54_42, fs_54_45, fs_54_46, fs_54_47_p41 hk, fs_54_50, fs_54_51, fs_54_52, fs_54_54_p41 hk, fs_54_57, fs_54_58, fs_54_61, fs_54_62, fs_54_63, fs_54_66, fs_54_67_p41 hk, fs_54_70, fs_54_73, fs_54_74_p41 hk, fs_54_77, fs_54_80, fs_54_81, fs_54_84, fs_54_85, fs_54_86, fs_54_87_p41 hk, fs_54_90, fs_54_93, fs_54_96, fs_54_97_p41 hk, fs_54_100, fs_54_103, fs_54_104, fs_54_105, fs_54_106, fs_54_107, fs_54_108_p41 hk, fs_54_111, fs_54_113, fs_54_114_p41 hk, fs_54_117, fs_54_118_p41 hk, fs_54_121 hk, fs_54_124, fs_54_125, Option.bind_some, Option.toList_some, Option.toList_none, List.cons_append, List.nil_append, fd_nb0, fd_nb1, fd_nbb, fd_b0, nI_add, pk_mul, ite_not, Classical.not_not, not_false_iff, not_true, and_self, or_true, true_or, ↓reduceIte, if_true, if_false, ite_self, fd_mI, fd_mH, fd_mL, fd_p0, fd_w0, fd_w1, fd_w2, fd_10, fd_00, hk2, r1, u]
          · simp (disch := first | exact fd_nl_int | exact fd_nl_ref | exact fd_nl_none | assumption | exact nI_ne0 (by omega) (by omega) | exact fd_nb0 | exact fd_nb1 | exact fd_nbb | omega) only [fs_54_0, fs_54_1_p41 hk, fs_54_4, fs_54_5, fs_54_6, fs_54_9, fs_54_10, fs_54_11, fs_54_14, fs_54_15_p41 hk, fs_54_18, fs_54_21, fs_54_22, fs_54_23, fs_54_25_p41 hk, fs_54_28, fs_54_31, fs_54_32, fs_54_35, fs_54_36, fs_54_37, fs_54_40, fs_54_41, fs_54_42, fs_54_45, fs_54_46, fs_54_47_p41 hk, fs_54_50, fs_54_51, fs_54_52, fs_54_54_p41 hk, fs_54_57, fs_54_58, fs_54_61, fs_54_62, fs_54_63, fs_54_66, fs_54_67_p41 hk, fs_54_70, fs_54_73, fs_54_74_p41 hk, fs_54_77, fs_54_80, fs_54_81, fs_54_84, fs_54_85, fs_54_86, fs_54_87_p41 hk, fs_54_90, fs_54_93, fs_54_96, fs_54_97_p41 hk, fs_54_100, fs_54_103, fs_54_104, fs_54_105, fs_54_106, fs_54_107, fs_54_108_p41 hk, fs_54_111, fs_54_113, fs_54_114_p41 hk, fs_54_117, fs_54_118_p41 hk, fs_54_121 hk, fs_54_124, fs_54_125, Option.bind_some, Option.toList_some, Option.toList_none, List.cons_append, List.nil_append, fd_nb0, fd_nb1, fd_nbb, fd_b0, nI_add, pk_mul, ite_not, Classical.not_not, not_false_iff, not_true, and_self, or_true, true_or, ↓reduceIte, if_true, if_false, ite_self, fd_mI, fd_mH, fd_mL, fd_p0, fd_w0, fd_w1, fd_w2, fd_10, fd_00, hk2, r1, u]
theorem fm_body1 (hk : fd_Sok k fb bb dr) (T : fd_cT n bt h) (L : fd_CL n bt p h) (hn : h.1 41 1 = nI ns) {kd c r : Nat} {s v : Int32} (k4 : kd < 4) (hk2 : fd_E 55 0 [some (.ref (41))] [] k g = some (some (.int (nI kd)), (k, h))) (e : fd_pBody n bt ns kd p = .inr ((s, v), r)) : ∃ h', fd_E 54 0 [some (.ref (41)), some (.ref (c)), none, none, none] [] k g = fd_E 54 92 [some (.ref (41)), some (.ref (c)), some (.int (nI (kd))), some (.int (nI (1))), some (.int (v))] [] k h' ∧ fd_CL n bt r h' ∧ h'.1 41 5 = s ∧ ∀ q j, ¬ (q = 41 ∧ 2 ≤ j ∧ j ≤ 6) → h'.1 q j = h.1 q j := by
  have n01 : (nI 0 = nI 1) = False := eq_false (by decide)
  have n20 : (nI 2 = 0) = False := eq_false (by decide)
  have n21 : (nI 2 = nI 1) = False := eq_false (by decide)
  have n30 : (nI 3 = 0) = False := eq_false (by decide)
  have n31 : (nI 3 = nI 1) = False := eq_false (by decide)
  have n32 : (nI 3 = nI 2) = False := eq_false (by decide)
  by_cases c2 : kd = 2
  · subst c2
    have T1 : fd_cT n bt (fd_w h 41 5 (-1)) := fd_cT_f T (fun q j hn => if_neg (by omega))
    have L1 : fd_CL n bt p (fd_w h 41 5 (-1)) := fd_CL_fr L (fun j j1 j2 => fd_w2 (by omega))
    have e' : s = -1 ∧ fd_pNum n bt (nI 0) (nI 99) p = .inr (v, r) := by
      unfold fd_pBody fd_pWho fd_pVal at e
      rw [if_pos rfl] at e
      dsimp only at e
      rw [if_neg (by decide)] at e
      revert e
      cases fd_pNum n bt (nI 0) (nI 99) p with
      | inl y => exact fun z => by cases z
      | inr y => exact fun z => by cases z; exact ⟨rfl, rfl⟩
    obtain ⟨rfl, e'⟩ := e'
    unfold fd_pNum at e'
    by_cases d : fd_isN n bt p (nI 0) (nI 99)
    · rw [if_pos d] at e'
      cases e'
      obtain ⟨h2, s1, s2, s4, s3⟩ := fm_numY hk T1 L1 d
      refine ⟨h2, ?_, s2, (s3 41 5 (by omega) (by omega)).trans fd_w0, fun q j hn => (s3 q j (by omega) (by omega)).trans (if_neg (by omega))⟩
      simp (disch := first | exact fd_nl_int | exact fd_nl_ref | exact fd_nl_none | assumption | exact nI_ne0 (by omega) (by omega) | exact fd_nb0 | exact fd_nb1 | exact fd_nbb | omega) only [fs_54_0, fs_54_1_p41 hk, fs_54_4, fs_54_5, fs_54_6, fs_54_9, fs_54_10, fs_54_11, fs_54_14, fs_54_15_p41 hk, fs_54_18, fs_54_21, fs_54_22, fs_54_23, fs_54_25_p41 hk, fs_54_28, fs_54_31, fs_54_32, fs_54_35, fs_54_36, fs_54_37, fs_54_40, fs_54_41, fs_54_42, fs_54_45, fs_54_46, fs_54_47_p41 hk, fs_54_50, fs_54_51, fs_54_52, fs_54_54_p41 hk, fs_54_57, fs_54_58, fs_54_61, fs_54_62, fs_54_63, fs_54_66, fs_54_67_p41 hk, fs_54_70, fs_54_73, fs_54_74_p41 hk, fs_54_77, fs_54_80, fs_54_81, fs_54_84, fs_54_85, fs_54_86, fs_54_87_p41 hk, fs_54_90, fs_54_93, fs_54_96, fs_54_97_p41 hk, fs_54_100, fs_54_103, fs_54_104, fs_54_105, fs_54_106, fs_54_107, fs_54_108_p41 hk, fs_54_111, fs_54_113, fs_54_114_p41 hk, fs_54_117, fs_54_118_p41 hk, fs_54_121 hk, fs_54_124, fs_54_125, Option.bind_some, Option.toList_some, Option.toList_none, List.cons_append, List.nil_append, fd_nb0, fd_nb1, fd_nbb, fd_b0, nI_add, pk_mul, ite_not, Classical.not_not, not_false_iff, not_true, and_self, or_true, true_or, ↓reduceIte, if_true, if_false, ite_self, fd_mI, fd_mH, fd_mL, fd_p0, fd_w0, fd_w1, fd_w2, fd_10, fd_00, hk2, n20, n21, s1, s4]
    · rw [if_neg d] at e'; cases e'
  · have ew : fd_pWho n bt ns kd p = fd_pShip n bt ns p := if_neg c2
    unfold fd_pBody at e
    rw [ew] at e
    cases es : fd_pShip n bt ns p with
    | inl y =>
      rw [es] at e
      cases e
    | inr y =>
      obtain ⟨s', q⟩ := y
      rw [es] at e
      dsimp only at e
      obtain ⟨h1, r1, r2, r4, r3⟩ := fm_ship1 hk T L hn es
      have T1 : fd_cT n bt h1 := fd_cT_f T (fun q j hn => r3 q j (by omega))
      by_cases c3 : kd = 3
      · subst c3
        have ev : fd_pVal n bt 3 q = fd_pBut n bt q := if_pos rfl
        rw [ev] at e
        cases eb : fd_pBut n bt q with
        | inl y =>
          rw [eb] at e
          cases e
        | inr y =>
          obtain ⟨v', r'⟩ := y
          rw [eb] at e
          cases e
          obtain ⟨h2, s1, s2, s4, s3⟩ := fm_but1 hk T1 r2 eb
          refine ⟨h2, ?_, s2, (s3 41 5 (by omega) (by omega)).trans r4, fun q j hn => (s3 q j (by omega) (by omega)).trans (r3 q j (by omega))⟩
          simp (disch := first | exact fd_nl_int | exact fd_nl_ref | exact fd_nl_none | assumption | exact nI_ne0 (by omega) (by omega) | exact fd_nb0 | exact fd_nb1 | exact fd_nbb | omega) only [fs_54_0, fs_54_1_p41 hk, fs_54_4, fs_54_5, fs_54_6, fs_54_9, fs_54_10, fs_54_11, fs_54_14, fs_54_15_p41 hk, fs_54_18, fs_54_21, fs_54_22, fs_54_23, fs_54_25_p41 hk, fs_54_28, fs_54_31, fs_54_32, fs_54_35, fs_54_36, fs_54_37, fs_54_40, fs_54_41, fs_54_42, fs_54_45, fs_54_46, fs_54_47_p41 hk, fs_54_50, fs_54_51, fs_54_52, fs_54_54_p41 hk, fs_54_57, fs_54_58, fs_54_61, fs_54_62, fs_54_63, fs_54_66, fs_54_67_p41 hk, fs_54_70, fs_54_73, fs_54_74_p41 hk, fs_54_77, fs_54_80, fs_54_81, fs_54_84, fs_54_85, fs_54_86, fs_54_87_p41 hk, fs_54_90, fs_54_93, fs_54_96, fs_54_97_p41 hk, fs_54_100, fs_54_103, fs_54_104, fs_54_105, fs_54_106, fs_54_107, fs_54_108_p41 hk, fs_54_111, fs_54_113, fs_54_114_p41 hk, fs_54_117, fs_54_118_p41 hk, fs_54_121 hk, fs_54_124, fs_54_125, Option.bind_some, Option.toList_some, Option.toList_none, List.cons_append, List.nil_append, fd_nb0, fd_nb1, fd_nbb, fd_b0, nI_add, pk_mul, ite_not, Classical.not_not, not_false_iff, not_true, and_self, or_true, true_or, ↓reduceIte, if_true, if_false, ite_self, fd_mI, fd_mH, fd_mL, fd_p0, fd_w0, fd_w1, fd_w2, fd_10, fd_00, hk2, n30, n31, n32, r1, s1, s4]
      · have ev : fd_pVal n bt kd q = fd_pNum n bt (nI 0) (nI 99) q := if_neg c3
        rw [ev] at e
        unfold fd_pNum at e
        by_cases d : fd_isN n bt q (nI 0) (nI 99)
        · rw [if_pos d] at e
          cases e
          obtain ⟨h2, s1, s2, s4, s3⟩ := fm_numY hk T1 r2 d
          refine ⟨h2, ?_, s2, (s3 41 5 (by omega) (by omega)).trans r4, fun q j hn => (s3 q j (by omega) (by omega)).trans (r3 q j (by omega))⟩
          obtain rfl | rfl : kd = 0 ∨ kd = 1 := by omega
          · simp (disch := first | exact fd_nl_int | exact fd_nl_ref | exact fd_nl_none | assumption | exact nI_ne0 (by omega) (by omega) | exact fd_nb0 | exact fd_nb1 | exact fd_nbb | omega) only [fs_54_0, fs_54_1_p41 hk, fs_54_4, fs_54_5, fs_54_6, fs_54_9, fs_54_10, fs_54_11, fs_54_14, fs_54_15_p41 hk, fs_54_18, fs_54_21, fs_54_22, fs_54_23, fs_54_25_p41 hk, fs_54_28, fs_54_31, fs_54_32, fs_54_35, fs_54_36, fs_54_37, fs_54_40, fs_54_41, fs_54_42, fs_54_45, fs_54_46, fs_54_47_p41 hk, fs_54_50, fs_54_51, fs_54_52, fs_54_54_p41 hk, fs_54_57, fs_54_58, fs_54_61, fs_54_62, fs_54_63, fs_54_66, fs_54_67_p41 hk, fs_54_70, fs_54_73, fs_54_74_p41 hk, fs_54_77, fs_54_80, fs_54_81, fs_54_84, fs_54_85, fs_54_86, fs_54_87_p41 hk, fs_54_90, fs_54_93, fs_54_96, fs_54_97_p41 hk, fs_54_100, fs_54_103, fs_54_104, fs_54_105, fs_54_106, fs_54_107, fs_54_108_p41 hk, fs_54_111, fs_54_113, fs_54_114_p41 hk, fs_54_117, fs_54_118_p41 hk, fs_54_121 hk, fs_54_124, fs_54_125, Option.bind_some, Option.toList_some, Option.toList_none, List.cons_append, List.nil_append, fd_nb0, fd_nb1, fd_nbb, fd_b0, nI_add, pk_mul, ite_not, Classical.not_not, not_false_iff, not_true, and_self, or_true, true_or, ↓reduceIte, if_true, if_false, ite_self, fd_mI, fd_mH, fd_mL, fd_p0, fd_w0, fd_w1, fd_w2, fd_10, fd_00, hk2, r1, s1, s4]
          · simp (disch := first | exact fd_nl_int | exact fd_nl_ref | exact fd_nl_none | assumption | exact nI_ne0 (by omega) (by omega) | exact fd_nb0 | exact fd_nb1 | exact fd_nbb | omega) only [fs_54_0, fs_54_1_p41 hk, fs_54_4, fs_54_5, fs_54_6, fs_54_9, fs_54_10, fs_54_11, fs_54_14, fs_54_15_p41 hk, fs_54_18, fs_54_21, fs_54_22, fs_54_23, fs_54_25_p41 hk, fs_54_28, fs_54_31, fs_54_32, fs_54_35, fs_54_36, fs_54_37, fs_54_40, fs_54_41, fs_54_42, fs_54_45, fs_54_46, fs_54_47_p41 hk, fs_54_50, fs_54_51, fs_54_52, fs_54_54_p41 hk, fs_54_57, fs_54_58, fs_54_61, fs_54_62, fs_54_63, fs_54_66, fs_54_67_p41 hk, fs_54_70, fs_54_73, fs_54_74_p41 hk, fs_54_77, fs_54_80, fs_54_81, fs_54_84, fs_54_85, fs_54_86, fs_54_87_p41 hk, fs_54_90, fs_54_93, fs_54_96, fs_54_97_p41 hk, fs_54_100, fs_54_103, fs_54_104, fs_54_105, fs_54_106, fs_54_107, fs_54_108_p41 hk, fs_54_111, fs_54_113, fs_54_114_p41 hk, fs_54_117, fs_54_118_p41 hk, fs_54_121 hk, fs_54_124, fs_54_125, Option.bind_some, Option.toList_some, Option.toList_none, List.cons_append, List.nil_append, fd_nb0, fd_nb1, fd_nbb, fd_b0, nI_add, pk_mul, ite_not, Classical.not_not, not_false_iff, not_true, and_self, or_true, true_or, ↓reduceIte, if_true, if_false, ite_self, fd_mI, fd_mH, fd_mL, fd_p0, fd_w0, fd_w1, fd_w2, fd_10, fd_00, hk2, r1, s1, s4]
        · rw [if_neg d] at e; cases e
theorem fm_art0 (hk : fd_Sok k fb bb dr) (T : fd_cT n bt h) (L : fd_CL n bt p h) (hn : h.1 41 1 = nI ns) {c x : Nat} (e : fd_pArt n bt ns p = .inl x) : ∃ h', fd_E 54 0 [some (.ref (41)), some (.ref (c)), none, none, none] [] k h = some (some (.int (nI 0)), (k, h')) ∧ h'.1 41 2 = nI x ∧ ∀ q j, ¬ (q = 41 ∧ 2 ≤ j ∧ j ≤ 8) → h'.1 q j = h.1 q j := by
  unfold fd_pArt at e
  by_cases d : fd_pKd n bt p = 4
  · rw [if_pos d] at e
    cases e
    have r1 := fm_kind4 hk T L d
    have n10 : (-1 : Int32) = 0 ↔ False := by decide
    have n11 : (-1 : Int32) = nI 1 ↔ False := by decide
    have n12 : (-1 : Int32) = nI 2 ↔ False := by decide
    have n13 : (-1 : Int32) = nI 3 ↔ False := by decide
    refine ⟨h, ?_, L.2.1, fun _ _ _ => rfl⟩
    simp (disch := first | exact fd_nl_int | exact fd_nl_ref | exact fd_nl_none | assumption | exact nI_ne0 (by omega) (by omega) | exact fd_nb0 | exact fd_nb1 | exact fd_nbb | omega) only [fs_54_0, fs_54_1_p41 hk, fs_54_4, fs_54_5, fs_54_6, fs_54_9, fs_54_10, fs_54_11, fs_54_14, fs_54_15_p41 hk, fs_54_18, fs_54_21, fs_54_22, fs_54_23, fs_54_25_p41 hk, fs_54_28, fs_54_31, fs_54_32, fs_54_35, fs_54_36, fs_54_37, fs_54_40, fs_54_41, fs_54_42, fs_54_45, fs_54_46, fs_54_47_p41 hk, fs_54_50, fs_54_51, fs_54_52, fs_54_54_p41 hk, fs_54_57, fs_54_58, fs_54_61, fs_54_62, fs_54_63, fs_54_66, fs_54_67_p41 hk, fs_54_70, fs_54_73, fs_54_74_p41 hk, fs_54_77, fs_54_80, fs_54_81, fs_54_84, fs_54_85, fs_54_86, fs_54_87_p41 hk, fs_54_90, fs_54_92, fs_54_93, fs_54_96, fs_54_97_p41 hk, fs_54_100, fs_54_103, fs_54_104, fs_54_105, fs_54_106, fs_54_107, fs_54_108_p41 hk, fs_54_111, fs_54_113, fs_54_114_p41 hk, fs_54_117, fs_54_118_p41 hk, fs_54_121 hk, fs_54_124, fs_54_125, Option.bind_some, Option.toList_some, Option.toList_none, List.cons_append, List.nil_append, fd_nb0, fd_nb1, fd_nbb, fd_b0, nI_add, pk_mul, ite_not, Classical.not_not, not_false_iff, not_true, and_self, or_true, true_or, ↓reduceIte, if_true, if_false, ite_self, fd_mI, fd_mH, fd_mL, fd_p0, fd_w0, fd_w1, fd_w2, fd_10, fd_00, r1, n10, n11, n12, n13]
  · rw [if_neg d] at e
    obtain ⟨k4, h1, r1, r2, r3⟩ := fm_kind hk T L d
    have T1 : fd_cT n bt h1 := fd_cT_f T (fun q j hn => r3 q j (by omega))
    have hn1 : h1.1 41 1 = nI ns := (r3 41 1 (by omega)).trans hn
    cases eb : fd_pBody n bt ns (fd_pKd n bt p) (fd_tE n bt p) with
    | inl y =>
      rw [eb] at e
      cases e
      obtain ⟨h2, z, s1, s2, s3⟩ := fm_body0 (c := c) hk T1 r2 hn1 k4 r1 eb
      refine ⟨h2, s1.trans ?_, s2, fun q j hn => (s3 q j hn).trans (r3 q j (by omega))⟩
      simp (disch := first | exact fd_nl_int | exact fd_nl_ref | exact fd_nl_none | assumption | exact nI_ne0 (by omega) (by omega) | exact fd_nb0 | exact fd_nb1 | exact fd_nbb | omega) only [fs_54_0, fs_54_1_p41 hk, fs_54_4, fs_54_5, fs_54_6, fs_54_9, fs_54_10, fs_54_11, fs_54_14, fs_54_15_p41 hk, fs_54_18, fs_54_21, fs_54_22, fs_54_23, fs_54_25_p41 hk, fs_54_28, fs_54_31, fs_54_32, fs_54_35, fs_54_36, fs_54_37, fs_54_40, fs_54_41, fs_54_42, fs_54_45, fs_54_46, fs_54_47_p41 hk, fs_54_50, fs_54_51, fs_54_52, fs_54_54_p41 hk, fs_54_57, fs_54_58, fs_54_61, fs_54_62, fs_54_63, fs_54_66, fs_54_67_p41 hk, fs_54_70, fs_54_73, fs_54_74_p41 hk, fs_54_77, fs_54_80, fs_54_81, fs_54_84, fs_54_85, fs_54_86, fs_54_87_p41 hk, fs_54_90, fs_54_92, fs_54_93, fs_54_96, fs_54_97_p41 hk, fs_54_100, fs_54_103, fs_54_104, fs_54_105, fs_54_106, fs_54_107, fs_54_108_p41 hk, fs_54_111, fs_54_113, fs_54_114_p41 hk, fs_54_117, fs_54_118_p41 hk, fs_54_121 hk, fs_54_124, fs_54_125, Option.bind_some, Option.toList_some, Option.toList_none, List.cons_append, List.nil_append, fd_nb0, fd_nb1, fd_nbb, fd_b0, nI_add, pk_mul, ite_not, Classical.not_not, not_false_iff, not_true, and_self, or_true, true_or, ↓reduceIte, if_true, if_false, ite_self, fd_mI, fd_mH, fd_mL, fd_p0, fd_w0, fd_w1, fd_w2, fd_10, fd_00]
    | inr y =>
      obtain ⟨⟨s, v⟩, q⟩ := y
      rw [eb] at e
      dsimp only at e
      obtain ⟨h2, s1, s2, s4, s3⟩ := fm_body1 (c := c) hk T1 r2 hn1 k4 r1 eb
      have T2 : fd_cT n bt h2 := fd_cT_f T1 (fun q j hn => s3 q j (by omega))
      cases eh : fd_pHrs n bt q with
      | inl y =>
        rw [eh] at e
        cases e
        obtain ⟨h3, t1, t2, t3⟩ := fm_hrs0 hk T2 s2 eh
        refine ⟨h3, s1.trans ?_, t2, fun q j hn => (t3 q j hn).trans ((s3 q j (by omega)).trans (r3 q j (by omega)))⟩
        simp (disch := first | exact fd_nl_int | exact fd_nl_ref | exact fd_nl_none | assumption | exact nI_ne0 (by omega) (by omega) | exact fd_nb0 | exact fd_nb1 | exact fd_nbb | omega) only [fs_54_0, fs_54_1_p41 hk, fs_54_4, fs_54_5, fs_54_6, fs_54_9, fs_54_10, fs_54_11, fs_54_14, fs_54_15_p41 hk, fs_54_18, fs_54_21, fs_54_22, fs_54_23, fs_54_25_p41 hk, fs_54_28, fs_54_31, fs_54_32, fs_54_35, fs_54_36, fs_54_37, fs_54_40, fs_54_41, fs_54_42, fs_54_45, fs_54_46, fs_54_47_p41 hk, fs_54_50, fs_54_51, fs_54_52, fs_54_54_p41 hk, fs_54_57, fs_54_58, fs_54_61, fs_54_62, fs_54_63, fs_54_66, fs_54_67_p41 hk, fs_54_70, fs_54_73, fs_54_74_p41 hk, fs_54_77, fs_54_80, fs_54_81, fs_54_84, fs_54_85, fs_54_86, fs_54_87_p41 hk, fs_54_90, fs_54_92, fs_54_93, fs_54_96, fs_54_97_p41 hk, fs_54_100, fs_54_103, fs_54_104, fs_54_105, fs_54_106, fs_54_107, fs_54_108_p41 hk, fs_54_111, fs_54_113, fs_54_114_p41 hk, fs_54_117, fs_54_118_p41 hk, fs_54_121 hk, fs_54_124, fs_54_125, Option.bind_some, Option.toList_some, Option.toList_none, List.cons_append, List.nil_append, fd_nb0, fd_nb1, fd_nbb, fd_b0, nI_add, pk_mul, ite_not, Classical.not_not, not_false_iff, not_true, and_self, or_true, true_or, ↓reduceIte, if_true, if_false, ite_self, fd_mI, fd_mH, fd_mL, fd_p0, fd_w0, fd_w1, fd_w2, fd_10, fd_00, t1]
      | inr y =>
        obtain ⟨⟨f, t⟩, r⟩ := y
        rw [eh] at e
        cases e
theorem fm_art1 (hk : fd_Sok k fb bb dr) (T : fd_cT n bt h) (L : fd_CL n bt p h) (hn : h.1 41 1 = nI ns) {c a q kd : Nat} {s v f t : Int32} (hc : fd_isB c) (ec : h.1 c 0 = nI a) (ha : a < 10) (e : fd_pArt n bt ns p = .inr ((kd, s, v, f, t), q)) : ∃ h', fd_E 54 0 [some (.ref (41)), some (.ref (c)), none, none, none] [] k h = some (some (.int (nI 1)), (k, h')) ∧ fd_CL n bt q h' ∧ h'.1 c 0 = nI (a + 1) ∧ (h'.1 (c + 1) a = nI kd ∧ h'.1 (c + 2) a = s ∧ h'.1 (c + 3) a = v ∧ h'.1 (c + 4) a = f ∧ h'.1 (c + 5) a = t) ∧ ∀ q j, ¬ (q = 41 ∧ 2 ≤ j ∧ j ≤ 8) → ¬ (q = c ∧ j = 0) → ¬ (c + 1 ≤ q ∧ q ≤ c + 5 ∧ j = a) → h'.1 q j = h.1 q j := by
  unfold fd_pArt at e
  have hc41 : ¬ c = 41 ∧ 41 < c := by rcases hc with rfl | rfl | rfl <;> omega
  by_cases d : fd_pKd n bt p = 4
  · rw [if_pos d] at e
    cases e
  · rw [if_neg d] at e
    obtain ⟨k4, h1, r1, r2, r3⟩ := fm_kind hk T L d
    have T1 : fd_cT n bt h1 := fd_cT_f T (fun q j hn => r3 q j (by omega))
    have hn1 : h1.1 41 1 = nI ns := (r3 41 1 (by omega)).trans hn
    cases eb : fd_pBody n bt ns (fd_pKd n bt p) (fd_tE n bt p) with
    | inl y =>
      rw [eb] at e
      cases e
    | inr y =>
      obtain ⟨⟨s', v'⟩, q'⟩ := y
      rw [eb] at e
      dsimp only at e
      obtain ⟨h2, s1, s2, s4, s3⟩ := fm_body1 (c := c) hk T1 r2 hn1 k4 r1 eb
      have T2 : fd_cT n bt h2 := fd_cT_f T1 (fun q j hn => s3 q j (by omega))
      cases eh : fd_pHrs n bt q' with
      | inl y =>
        rw [eh] at e
        cases e
      | inr y =>
        obtain ⟨⟨f', t'⟩, r'⟩ := y
        rw [eh] at e
        cases e
        obtain ⟨h3, t1, t2, t4, t5, t3⟩ := fm_hrs1 hk T2 s2 eh
        have fr : ∀ q j, ¬ (q = 41 ∧ 2 ≤ j ∧ j ≤ 8) → h3.1 q j = h.1 q j := fun q j hn => (t3 q j (by omega) (by omega)).trans ((s3 q j (by omega)).trans (r3 q j (by omega)))
        have e5 : h3.1 41 5 = s := (t3 41 5 (by omega) (by omega)).trans s4
        have ec3 : h3.1 c 0 = nI a := (fr c 0 (by omega)).trans ec
        have ad := fm_add (h := h3) hk hc ec3 ha (nI (fd_pKd n bt p)) s v f t
        refine ⟨fd_w (fd_w (fd_w (fd_w (fd_w (fd_w h3 (c + 1) a (nI (fd_pKd n bt p))) (c + 2) a s) (c + 3) a v) (c + 4) a f) (c + 5) a t) c 0 (nI (a + 1)), s1.trans ?_, fd_CL_fr t2 (fun j j1 j2 => ?_), fd_w0, ⟨?_, ?_, ?_, ?_, ?_⟩, fun q j n1 n2 n3 => ?_⟩
        · simp (disch := first | exact fd_nl_int | exact fd_nl_ref | exact fd_nl_none | assumption | exact nI_ne0 (by omega) (by omega) | exact fd_nb0 | exact fd_nb1 | exact fd_nbb | omega) only [fs_54_0, fs_54_1_p41 hk, fs_54_4, fs_54_5, fs_54_6, fs_54_9, fs_54_10, fs_54_11, fs_54_14, fs_54_15_p41 hk, fs_54_18, fs_54_21, fs_54_22, fs_54_23, fs_54_25_p41 hk, fs_54_28, fs_54_31, fs_54_32, fs_54_35, fs_54_36, fs_54_37, fs_54_40, fs_54_41, fs_54_42, fs_54_45, fs_54_46, fs_54_47_p41 hk, fs_54_50, fs_54_51, fs_54_52, fs_54_54_p41 hk, fs_54_57, fs_54_58, fs_54_61, fs_54_62, fs_54_63, fs_54_66, fs_54_67_p41 hk, fs_54_70, fs_54_73, fs_54_74_p41 hk, fs_54_77, fs_54_80, fs_54_81, fs_54_84, fs_54_85, fs_54_86, fs_54_87_p41 hk, fs_54_90, fs_54_92, fs_54_93, fs_54_96, fs_54_97_p41 hk, fs_54_100, fs_54_103, fs_54_104, fs_54_105, fs_54_106, fs_54_107, fs_54_108_p41 hk, fs_54_111, fs_54_113, fs_54_114_p41 hk, fs_54_117, fs_54_118_p41 hk, fs_54_121 hk, fs_54_124, fs_54_125, Option.bind_some, Option.toList_some, Option.toList_none, List.cons_append, List.nil_append, fd_nb0, fd_nb1, fd_nbb, fd_b0, nI_add, pk_mul, ite_not, Classical.not_not, not_false_iff, not_true, and_self, or_true, true_or, ↓reduceIte, if_true, if_false, ite_self, fd_mI, fd_mH, fd_mL, fd_p0, fd_w0, fd_w1, fd_w2, fd_10, fd_00, t1, e5, t4, t5, ad]
        · simp (disch := omega) only [fd_w1]
        · simp (disch := omega) only [fd_w0, fd_w1]
        · simp (disch := omega) only [fd_w0, fd_w1]
        · simp (disch := omega) only [fd_w0, fd_w1]
        · simp (disch := omega) only [fd_w0, fd_w1]
        · simp (disch := omega) only [fd_w0, fd_w1]
        · exact (if_neg n2).trans ((if_neg (by omega)).trans ((if_neg (by omega)).trans ((if_neg (by omega)).trans ((if_neg (by omega)).trans ((if_neg (by omega)).trans (fr q j n1))))))
end GRAM
