/-! THE CALL least -/
section LEAST
variable {k : fd_Sk} {h g : fd_Hp} {fb bb dr b : Nat}
theorem fd_sh1 {n : Nat} (hn : n ≤ 12) : nI 1 <<< (nI n &&& 31) = nI (2 ^ n) := by
  have key : ∀ n, n < 13 → nI 1 <<< (nI n &&& 31) = nI (2 ^ n) := by decide +kernel
  exact key n (by omega)
theorem fd_p2 {n : Nat} (hn : n ≤ 12) : 2 ^ n ≤ 4096 := Nat.pow_le_pow_right (n := 2) (by omega) hn
/-- a set of members below n -/
theorem fd_argS {v : Int32} {n : Nat} (hn : n ≤ 12) : fd_wi v (nI 0) (nI (2 ^ n) - nI 1) ↔ ∃ w, w < 2 ^ n ∧ v = nI w := by
  have hp := fd_p2 hn
  have h0 : 1 ≤ 2 ^ n := Nat.one_le_two_pow
  rw [nI_sub h0, fd_argL (by omega) (by omega)]
  constructor
  · rintro ⟨s, _, h2, rfl⟩
    exact ⟨s, by omega, rfl⟩
  · rintro ⟨s, h2, rfl⟩
    exact ⟨s, by omega, by omega, rfl⟩
theorem fd_isS {v : Int32} {n : Nat} (hn : n ≤ 12) : (¬ v < 0 ∧ ¬ nI (2 ^ n) ≤ v) ↔ ∃ w, w < 2 ^ n ∧ v = nI w := by
  have hp := fd_p2 hn
  constructor
  · rintro ⟨h1, h2⟩
    obtain ⟨j, hj, rfl⟩ := nI_of h1
    rw [nI_leI (by omega) (by omega)] at h2
    exact ⟨j, by omega, rfl⟩
  · rintro ⟨w, hw, rfl⟩
    rw [nI_leI (by omega) (by omega)]
    exact ⟨nI_pos (by omega), by omega⟩
def fd_ltF (Y VF : Nat → Int32) (CY : Int32) (U : Nat → Nat) (s : Nat) (x : Int32) : Int32 := if Y s = -1 then (if x = -1 then (if VF (U s) < CY then x else nI (U s)) else if x ≤ nI (U s) then x else if VF (U s) < CY then x else nI (U s)) else x
theorem fm_ltc (hk : fd_Sok k fb bb dr) {ns : Nat} {VF : Nat → Int32} {CY : Int32} {U : Nat → Nat} (hs6 : ns ≤ 6) (f2 : h.1 1 1 = nI ns) (q1 : ∀ v, v ≤ 100 → fd_E 118 0 [some (.ref (0)), some (.int (nI (v)))] [] k h = some (some (.int (fd_b (¬ VF v < CY))), (k, h))) (q4 : ∀ s, s < ns → U s ≤ 100 ∧ fd_E 29 0 [some (.ref (1)), some (.int (nI (s)))] [] k h = some (some (.int (nI (U s))), (k, h))) : ∀ (m a : Nat) (x : Int32) (z : Option Value), a + m = ns → fd_nl z = true → fd_E 119 14 [some (.ref (0)), some (.int (x)), some (.int (nI (a))), z] [] k h = some (some (.int (fd_fold (fd_ltF (fun s => h.1 9 s) VF CY U) m a x)), (k, h)) := by
  intro m
  induction m with
  | zero =>
    intro a x z e hz
    have hc : nI ns ≤ nI a := nI_le (by omega) (by omega)
    rw [fs_119_14]
    simp (disch := first | exact fd_nl_int | exact fd_nl_ref | exact fd_nl_none | assumption | exact nI_ne0 (by omega) (by omega) | exact fd_nb0 | exact fd_nb1 | exact fd_nbb | omega) only [fs_119_0, fs_119_1, fs_119_2_p0 hk, fs_119_5, fs_119_8, fs_119_9, fs_119_10, fs_119_11, fs_119_12, fs_119_13, fs_119_15, fs_119_16_p0 hk, fs_119_19_p1 hk, fs_119_22, fs_119_25, fs_119_26_p0 hk, fs_119_29, fs_119_30_p1 hk, fs_119_33, fs_119_34, fs_119_35_p0 hk, fs_119_38, fs_119_39_p1 hk, fs_119_42, fs_119_45, fs_119_46, fs_119_47, fs_119_50, fs_119_51, fs_119_52, fs_119_55, fs_119_56, fs_119_57_p0 hk, fs_119_60, fs_119_63, fs_119_64, fs_119_65, fs_119_68, fs_119_71, fs_119_72, Option.bind_some, Option.toList_some, Option.toList_none, List.cons_append, List.nil_append, fd_nb0, fd_nb1, fd_nbb, fd_b0, nI_add, pk_mul, ite_not, Classical.not_not, not_false_iff, not_true, and_self, or_true, true_or, ↓reduceIte, if_true, if_false, ite_self, fd_mI, fd_mH, fd_mL, fd_p0, fd_w0, fd_w1, fd_w2, fd_10, fd_00, hc, f2]
    rfl
  | succ m ih =>
    intro a x z e hz
    have hc : ¬ nI ns ≤ nI a := nI_ge (by omega) (by omega)
    obtain ⟨u1, u2⟩ := q4 a (by omega)
    have cF := q1 (U a) u1
    have ih1 := fun x y => ih (a + 1) x (some (.int y)) (by omega) fd_nl_int
    rw [fs_119_14]
    simp (disch := first | exact fd_nl_int | exact fd_nl_ref | exact fd_nl_none | assumption | exact nI_ne0 (by omega) (by omega) | exact fd_nb0 | exact fd_nb1 | exact fd_nbb | omega) only [fs_119_0, fs_119_1, fs_119_2_p0 hk, fs_119_5, fs_119_8, fs_119_9, fs_119_10, fs_119_11, fs_119_12, fs_119_13, fs_119_15, fs_119_16_p0 hk, fs_119_19_p1 hk, fs_119_22, fs_119_25, fs_119_26_p0 hk, fs_119_29, fs_119_30_p1 hk, fs_119_33, fs_119_34, fs_119_35_p0 hk, fs_119_38, fs_119_39_p1 hk, fs_119_42, fs_119_45, fs_119_46, fs_119_47, fs_119_50, fs_119_51, fs_119_52, fs_119_55, fs_119_56, fs_119_57_p0 hk, fs_119_60, fs_119_63, fs_119_64, fs_119_65, fs_119_68, fs_119_71, fs_119_72, Option.bind_some, Option.toList_some, Option.toList_none, List.cons_append, List.nil_append, fd_nb0, fd_nb1, fd_nbb, fd_b0, nI_add, pk_mul, ite_not, Classical.not_not, not_false_iff, not_true, and_self, or_true, true_or, ↓reduceIte, if_true, if_false, ite_self, fd_mI, fd_mH, fd_mL, fd_p0, fd_w0, fd_w1, fd_w2, fd_10, fd_00, hc, f2, u2, cF, fm_hasY hk, fd_foldS, ih1]
    rfl
theorem fd_ltP {Y VF : Nat → Int32} {CY : Int32} {U : Nat → Nat} {ns : Nat} (hU : ∀ s, s < ns → U s ≤ 100) : (fd_fold (fd_ltF Y VF CY U) ns 0 (-1) = -1 ∧ ∀ s, s < ns → Y s = -1 → VF (U s) < CY) ∨ ∃ u, u ≤ 100 ∧ fd_fold (fd_ltF Y VF CY U) ns 0 (-1) = nI u ∧ ¬ VF u < CY ∧ ∀ s, s < ns → Y s = -1 → ¬ VF (U s) < CY → u ≤ U s := by
  have q := fd_fold_in (f := fd_ltF Y VF CY U) (P := fun a x => (x = -1 ∧ ∀ s, s < a → Y s = -1 → VF (U s) < CY) ∨ ∃ u, u ≤ 100 ∧ x = nI u ∧ ¬ VF u < CY ∧ ∀ s, s < a → Y s = -1 → ¬ VF (U s) < CY → u ≤ U s) ns (i := 0) (x := -1) (Or.inl ⟨rfl, fun s hs => by omega⟩) (fun a _ ha x P => by
    have ua := hU a (by omega)
    have m1 : ∀ u : Nat, u ≤ 100 → ¬ nI u = -1 := by
      intro u hu z
      have := congrArg Int32.toInt z
      rw [nI_toInt (by omega)] at this
      have h2 : (-1 : Int32).toInt = -1 := by decide
      omega
    have sp : ∀ s, s < a + 1 → s < a ∨ s = a := fun s hs => by omega
    unfold fd_ltF
    by_cases c1 : Y a = -1
    · rw [if_pos c1]
      by_cases c2 : VF (U a) < CY
      · rw [if_pos c2]
        have e : (if x = -1 then x else if x ≤ nI (U a) then x else x) = x := by
          by_cases y : x = -1
          · rw [if_pos y]
          · rw [if_neg y]; split <;> rfl
        rw [e]
        rcases P with ⟨p1, p2⟩ | ⟨u, p1, p2, p3, p4⟩
        · exact Or.inl ⟨p1, fun s hs y => (sp s hs).elim (fun z => p2 s z y) (fun z => z ▸ c2)⟩
        · exact Or.inr ⟨u, p1, p2, p3, fun s hs y w => (sp s hs).elim (fun z => p4 s z y w) (fun z => absurd (z ▸ c2) w)⟩
      · rw [if_neg c2]
        rcases P with ⟨p1, p2⟩ | ⟨u, p1, p2, p3, p4⟩
        · rw [if_pos p1]
          refine Or.inr ⟨U a, ua, rfl, c2, fun s hs y w => (sp s hs).elim (fun z => absurd (p2 s z y) w) (fun z => by rw [z]; exact Nat.le_refl _)⟩
        · rw [if_neg (by rw [p2]; exact m1 u p1), p2]
          by_cases c3 : nI u ≤ nI (U a)
          · rw [if_pos c3]
            rw [nI_leI (by omega) (by omega)] at c3
            exact Or.inr ⟨u, p1, rfl, p3, fun s hs y w => (sp s hs).elim (fun z => p4 s z y w) (fun z => by rw [z]; exact c3)⟩
          · rw [if_neg c3]
            rw [nI_leI (by omega) (by omega)] at c3
            exact Or.inr ⟨U a, ua, rfl, c2, fun s hs y w => (sp s hs).elim (fun z => by have := p4 s z y w; omega) (fun z => by rw [z]; exact Nat.le_refl _)⟩
    · rw [if_neg c1]
      rcases P with ⟨p1, p2⟩ | ⟨u, p1, p2, p3, p4⟩
      · exact Or.inl ⟨p1, fun s hs y => (sp s hs).elim (fun z => p2 s z y) (fun z => absurd (z ▸ y) c1)⟩
      · exact Or.inr ⟨u, p1, p2, p3, fun s hs y w => (sp s hs).elim (fun z => p4 s z y w) (fun z => absurd (z ▸ y) c1)⟩)
  rw [Nat.zero_add] at q
  exact q
theorem fm_mLeast0 (hk : fd_Sok k fb bb dr) {VF : Nat → Int32} {CY : Int32} (q1 : ∀ v, v ≤ 100 → fd_E 176 0 [some (.ref (77)), some (.int (nI (v))), none, none] [] k h = some (some (.int (VF v)), (k, h))) (q2 : fd_E 177 0 [some (.ref (77)), none, none, none] [] k h = some (some (.int (CY)), (k, h))) : ∀ (m a : Nat), a + m = 101 → (∀ v, v < a → VF v < CY) → ∃ x, fd_E 180 21 [some (.ref (77)), some (.int (nI (0))), some (.int (nI (a)))] [] k h = some (some (.int (x)), (k, h)) ∧ ((x = -1 ∧ ∀ v, v ≤ 100 → VF v < CY) ∨ ∃ u, u ≤ 100 ∧ x = nI u ∧ ¬ VF u < CY ∧ ∀ v, v < u → VF v < CY) := by
  intro m
  induction m with
  | zero =>
    intro a e p
    have hc : nI 100 < nI a := nI_lt (by omega) (by omega)
    refine ⟨-1, ?_, Or.inl ⟨rfl, fun v hv => p v (by omega)⟩⟩
    rw [fs_180_21]
    simp (disch := first | exact fd_nl_int | exact fd_nl_ref | exact fd_nl_none | assumption | exact nI_ne0 (by omega) (by omega) | exact fd_nb0 | exact fd_nb1 | exact fd_nbb | omega) only [fs_180_0, fs_180_1, fs_180_2, fs_180_3, fs_180_4_p77 hk, fs_180_7, fs_180_8, fs_180_9, fs_180_10, fs_180_13, fs_180_16, fs_180_18, fs_180_19, fs_180_20, fs_180_22, fs_180_24, fs_180_27, fs_180_28, fs_180_31, fs_180_32, fs_180_33_p77 hk, fs_180_36, fs_180_37_p77 hk, fs_180_40, fs_180_43, fs_180_46, fs_180_47, fs_180_48, fs_180_49_p77 hk, fs_180_52, fs_180_55, fs_180_56, fs_180_57, fs_180_60, fs_180_63, fs_180_64, Option.bind_some, Option.toList_some, Option.toList_none, List.cons_append, List.nil_append, fd_nb0, fd_nb1, fd_nbb, fd_b0, nI_add, pk_mul, ite_not, Classical.not_not, not_false_iff, not_true, and_self, or_true, true_or, ↓reduceIte, if_true, if_false, ite_self, fd_mI, fd_mH, fd_mL, fd_p0, fd_w0, fd_w1, fd_w2, fd_10, fd_00, hc]
  | succ m ih =>
    intro a e p
    have hc : ¬ nI 100 < nI a := nI_nlt (by omega) (by omega)
    have v1 := q1 a (by omega)
    by_cases c : VF a < CY
    · obtain ⟨x, x1, x2⟩ := ih (a + 1) (by omega) (fun v hv => by
        rcases Nat.lt_or_ge v a with z | z
        · exact p v z
        · have : v = a := by omega
          rw [this]; exact c)
      refine ⟨x, ?_, x2⟩
      rw [fs_180_21]
      simp (disch := first | exact fd_nl_int | exact fd_nl_ref | exact fd_nl_none | assumption | exact nI_ne0 (by omega) (by omega) | exact fd_nb0 | exact fd_nb1 | exact fd_nbb | omega) only [fs_180_0, fs_180_1, fs_180_2, fs_180_3, fs_180_4_p77 hk, fs_180_7, fs_180_8, fs_180_9, fs_180_10, fs_180_13, fs_180_16, fs_180_18, fs_180_19, fs_180_20, fs_180_22, fs_180_24, fs_180_27, fs_180_28, fs_180_31, fs_180_32, fs_180_33_p77 hk, fs_180_36, fs_180_37_p77 hk, fs_180_40, fs_180_43, fs_180_46, fs_180_47, fs_180_48, fs_180_49_p77 hk, fs_180_52, fs_180_55, fs_180_56, fs_180_57, fs_180_60, fs_180_63, fs_180_64, Option.bind_some, Option.toList_some, Option.toList_none, List.cons_append, List.nil_append, fd_nb0, fd_nb1, fd_nbb, fd_b0, nI_add, pk_mul, ite_not, Classical.not_not, not_false_iff, not_true, and_self, or_true, true_or, ↓reduceIte, if_true, if_false, ite_self, fd_mI, fd_mH, fd_mL, fd_p0, fd_w0, fd_w1, fd_w2, fd_10, fd_00, hc, v1, q2, c, x1]
    · refine ⟨nI a, ?_, Or.inr ⟨a, by omega, rfl, c, p⟩⟩
      rw [fs_180_21]
      simp (disch := first | exact fd_nl_int | exact fd_nl_ref | exact fd_nl_none | assumption | exact nI_ne0 (by omega) (by omega) | exact fd_nb0 | exact fd_nb1 | exact fd_nbb | omega) only [fs_180_0, fs_180_1, fs_180_2, fs_180_3, fs_180_4_p77 hk, fs_180_7, fs_180_8, fs_180_9, fs_180_10, fs_180_13, fs_180_16, fs_180_18, fs_180_19, fs_180_20, fs_180_22, fs_180_24, fs_180_27, fs_180_28, fs_180_31, fs_180_32, fs_180_33_p77 hk, fs_180_36, fs_180_37_p77 hk, fs_180_40, fs_180_43, fs_180_46, fs_180_47, fs_180_48, fs_180_49_p77 hk, fs_180_52, fs_180_55, fs_180_56, fs_180_57, fs_180_60, fs_180_63, fs_180_64, Option.bind_some, Option.toList_some, Option.toList_none, List.cons_append, List.nil_append, fd_nb0, fd_nb1, fd_nbb, fd_b0, nI_add, pk_mul, ite_not, Classical.not_not, not_false_iff, not_true, and_self, or_true, true_or, ↓reduceIte, if_true, if_false, ite_self, fd_mI, fd_mH, fd_mL, fd_p0, fd_w0, fd_w1, fd_w2, fd_10, fd_00, hc, v1, q2, c]
theorem fm_lfa (hk : fd_Sok k fb bb dr) {ns w : Nat} {U : Nat → Nat} (hs6 : ns ≤ 6) (f2 : h.1 1 1 = nI ns) (q4 : ∀ s, s < ns → U s ≤ 100 ∧ fd_E 29 0 [some (.ref (1)), some (.int (nI (s)))] [] k h = some (some (.int (nI (U s))), (k, h))) : ∀ (m a u : Nat), a + m = ns → u ≤ 100 → ∃ u', u' ≤ 100 ∧ fd_E 120 4 [some (.ref (0)), some (.int (nI (w))), some (.int (nI (u))), some (.int (nI (a)))] [] k h = some (some (.int (nI u')), (k, h)) ∧ ∀ v, (u' ≤ v ↔ u ≤ v ∧ ∀ s, a ≤ s → s < ns → ¬ (nI w >>> (nI s &&& 31)) &&& nI 1 = 0 → h.1 9 s = -1 → U s ≤ v) := by
  intro m
  induction m with
  | zero =>
    intro a u e hu
    have hc : nI ns ≤ nI a := nI_le (by omega) (by omega)
    refine ⟨u, hu, ?_, fun v => ⟨fun z => ⟨z, fun s h1 h2 => by omega⟩, fun z => z.1⟩⟩
    rw [fs_120_4]
    simp (disch := first | exact fd_nl_int | exact fd_nl_ref | exact fd_nl_none | assumption | exact nI_ne0 (by omega) (by omega) | exact fd_nb0 | exact fd_nb1 | exact fd_nbb | omega) only [fs_120_0, fs_120_1, fs_120_2, fs_120_3, fs_120_5, fs_120_6_p0 hk, fs_120_9_p1 hk, fs_120_12, fs_120_15, fs_120_16, fs_120_17, fs_120_20, fs_120_23, fs_120_24_p0 hk, fs_120_27, fs_120_28_p1 hk, fs_120_31, fs_120_34, fs_120_35, fs_120_36_p0 hk, fs_120_39, fs_120_40_p1 hk, fs_120_43, fs_120_46, fs_120_47, fs_120_50, fs_120_53, fs_120_54, Option.bind_some, Option.toList_some, Option.toList_none, List.cons_append, List.nil_append, fd_nb0, fd_nb1, fd_nbb, fd_b0, nI_add, pk_mul, ite_not, Classical.not_not, not_false_iff, not_true, and_self, or_true, true_or, ↓reduceIte, if_true, if_false, ite_self, fd_mI, fd_mH, fd_mL, fd_p0, fd_w0, fd_w1, fd_w2, fd_10, fd_00, hc, f2]
  | succ m ih =>
    intro a u e hu
    have hc : ¬ nI ns ≤ nI a := nI_ge (by omega) (by omega)
    obtain ⟨u1, u2⟩ := q4 a (by omega)
    have ha : a < 6 := by omega
    have sp : ∀ s, a ≤ s → s = a ∨ a + 1 ≤ s := fun s hs => by omega
    by_cases c : (nI w >>> (nI a &&& 31)) &&& nI 1 = 0
    · obtain ⟨x, x0, x1, x2⟩ := ih (a + 1) u (by omega) hu
      refine ⟨x, x0, ?_, fun v => ?_⟩
      · rw [fs_120_4]
        simp (disch := first | exact fd_nl_int | exact fd_nl_ref | exact fd_nl_none | assumption | exact nI_ne0 (by omega) (by omega) | exact fd_nb0 | exact fd_nb1 | exact fd_nbb | omega) only [fs_120_0, fs_120_1, fs_120_2, fs_120_3, fs_120_5, fs_120_6_p0 hk, fs_120_9_p1 hk, fs_120_12, fs_120_15, fs_120_16, fs_120_17, fs_120_20, fs_120_23, fs_120_24_p0 hk, fs_120_27, fs_120_28_p1 hk, fs_120_31, fs_120_34, fs_120_35, fs_120_36_p0 hk, fs_120_39, fs_120_40_p1 hk, fs_120_43, fs_120_46, fs_120_47, fs_120_50, fs_120_53, fs_120_54, Option.bind_some, Option.toList_some, Option.toList_none, List.cons_append, List.nil_append, fd_nb0, fd_nb1, fd_nbb, fd_b0, nI_add, pk_mul, ite_not, Classical.not_not, not_false_iff, not_true, and_self, or_true, true_or, ↓reduceIte, if_true, if_false, ite_self, fd_mI, fd_mH, fd_mL, fd_p0, fd_w0, fd_w1, fd_w2, fd_10, fd_00, hc, f2, fm_has, c, x1]
      · rw [x2]
        exact ⟨fun z => ⟨z.1, fun s h1 h2 h3 h4 => (sp s h1).elim (fun y => absurd (y ▸ c) h3) (fun y => z.2 s y h2 h3 h4)⟩, fun z => ⟨z.1, fun s h1 => z.2 s (by omega)⟩⟩
    · by_cases d : h.1 9 a = -1
      · by_cases f : u < U a
        · have f' : nI u < nI (U a) := nI_lt (by omega) (by omega)
          obtain ⟨x, x0, x1, x2⟩ := ih (a + 1) (U a) (by omega) u1
          refine ⟨x, x0, ?_, fun v => ?_⟩
          · rw [fs_120_4]
            simp (disch := first | exact fd_nl_int | exact fd_nl_ref | exact fd_nl_none | assumption | exact nI_ne0 (by omega) (by omega) | exact fd_nb0 | exact fd_nb1 | exact fd_nbb | omega) only [fs_120_0, fs_120_1, fs_120_2, fs_120_3, fs_120_5, fs_120_6_p0 hk, fs_120_9_p1 hk, fs_120_12, fs_120_15, fs_120_16, fs_120_17, fs_120_20, fs_120_23, fs_120_24_p0 hk, fs_120_27, fs_120_28_p1 hk, fs_120_31, fs_120_34, fs_120_35, fs_120_36_p0 hk, fs_120_39, fs_120_40_p1 hk, fs_120_43, fs_120_46, fs_120_47, fs_120_50, fs_120_53, fs_120_54, Option.bind_some, Option.toList_some, Option.toList_none, List.cons_append, List.nil_append, fd_nb0, fd_nb1, fd_nbb, fd_b0, nI_add, pk_mul, ite_not, Classical.not_not, not_false_iff, not_true, and_self, or_true, true_or, ↓reduceIte, if_true, if_false, ite_self, fd_mI, fd_mH, fd_mL, fd_p0, fd_w0, fd_w1, fd_w2, fd_10, fd_00, hc, f2, fm_has, c, fm_hasY hk, d, u2, f', x1]
          · rw [x2]
            exact ⟨fun z => ⟨by omega, fun s h1 h2 h3 h4 => (sp s h1).elim (fun y => by rw [y]; exact z.1) (fun y => z.2 s y h2 h3 h4)⟩, fun z => ⟨z.2 a (Nat.le_refl _) (by omega) c d, fun s h1 => z.2 s (by omega)⟩⟩
        · have f' : ¬ nI u < nI (U a) := nI_nlt (by omega) (by omega)
          obtain ⟨x, x0, x1, x2⟩ := ih (a + 1) u (by omega) hu
          refine ⟨x, x0, ?_, fun v => ?_⟩
          · rw [fs_120_4]
            simp (disch := first | exact fd_nl_int | exact fd_nl_ref | exact fd_nl_none | assumption | exact nI_ne0 (by omega) (by omega) | exact fd_nb0 | exact fd_nb1 | exact fd_nbb | omega) only [fs_120_0, fs_120_1, fs_120_2, fs_120_3, fs_120_5, fs_120_6_p0 hk, fs_120_9_p1 hk, fs_120_12, fs_120_15, fs_120_16, fs_120_17, fs_120_20, fs_120_23, fs_120_24_p0 hk, fs_120_27, fs_120_28_p1 hk, fs_120_31, fs_120_34, fs_120_35, fs_120_36_p0 hk, fs_120_39, fs_120_40_p1 hk, fs_120_43, fs_120_46, fs_120_47, fs_120_50, fs_120_53, fs_120_54, Option.bind_some, Option.toList_some, Option.toList_none, List.cons_append, List.nil_append, fd_nb0, fd_nb1, fd_nbb, fd_b0, nI_add, pk_mul, ite_not, Classical.not_not, not_false_iff, not_true, and_self, or_true, true_or, ↓reduceIte, if_true, if_false, ite_self, fd_mI, fd_mH, fd_mL, fd_p0, fd_w0, fd_w1, fd_w2, fd_10, fd_00, hc, f2, fm_has, c, fm_hasY hk, d, u2, f', x1]
          · rw [x2]
            exact ⟨fun z => ⟨z.1, fun s h1 h2 h3 h4 => (sp s h1).elim (fun y => by rw [y]; omega) (fun y => z.2 s y h2 h3 h4)⟩, fun z => ⟨z.1, fun s h1 => z.2 s (by omega)⟩⟩
      · obtain ⟨x, x0, x1, x2⟩ := ih (a + 1) u (by omega) hu
        refine ⟨x, x0, ?_, fun v => ?_⟩
        · rw [fs_120_4]
          simp (disch := first | exact fd_nl_int | exact fd_nl_ref | exact fd_nl_none | assumption | exact nI_ne0 (by omega) (by omega) | exact fd_nb0 | exact fd_nb1 | exact fd_nbb | omega) only [fs_120_0, fs_120_1, fs_120_2, fs_120_3, fs_120_5, fs_120_6_p0 hk, fs_120_9_p1 hk, fs_120_12, fs_120_15, fs_120_16, fs_120_17, fs_120_20, fs_120_23, fs_120_24_p0 hk, fs_120_27, fs_120_28_p1 hk, fs_120_31, fs_120_34, fs_120_35, fs_120_36_p0 hk, fs_120_39, fs_120_40_p1 hk, fs_120_43, fs_120_46, fs_120_47, fs_120_50, fs_120_53, fs_120_54, Option.bind_some, Option.toList_some, Option.toList_none, List.cons_append, List.nil_append, fd_nb0, fd_nb1, fd_nbb, fd_b0, nI_add, pk_mul, ite_not, Classical.not_not, not_false_iff, not_true, and_self, or_true, true_or, ↓reduceIte, if_true, if_false, ite_self, fd_mI, fd_mH, fd_mL, fd_p0, fd_w0, fd_w1, fd_w2, fd_10, fd_00, hc, f2, fm_has, c, fm_hasY hk, d, x1]
        · rw [x2]
          exact ⟨fun z => ⟨z.1, fun s h1 h2 h3 h4 => (sp s h1).elim (fun y => absurd (y ▸ h4) d) (fun y => z.2 s y h2 h3 h4)⟩, fun z => ⟨z.1, fun s h1 => z.2 s (by omega)⟩⟩
theorem fm_areFor (hk : fd_Sok k fb bb dr) {ns w v : Nat} (hs6 : ns ≤ 6) (f3 : h.1 77 5 = nI ns) : ∀ (m a : Nat) (x : Int32), a + m = ns → (x = nI 1 ∨ x = nI 0) → ∃ y, fd_E 179 5 [some (.ref (77)), some (.int (nI (w))), some (.int (nI (v))), some (.int (x)), some (.int (nI (a)))] [] k h = some (some (.int (y)), (k, h)) ∧ (y = nI 1 ∨ y = nI 0) ∧ (y = nI 1 ↔ x = nI 1 ∧ ∀ s, a ≤ s → s < ns → ¬ (nI w >>> (nI s &&& 31)) &&& nI 1 = 0 → h.1 82 (18 + s) = -1 → ¬ nI v < fd_X (h.1 80 s) (h.1 82 (12 + s))) := by
  intro m
  induction m with
  | zero =>
    intro a x e hx
    have hc : nI ns ≤ nI a := nI_le (by omega) (by omega)
    have hq : narrow .boolean (.int x) = .int x := by
      rcases hx with rfl | rfl
      · exact fd_nb1
      · exact fd_nb0
    refine ⟨x, ?_, hx, ⟨fun z => ⟨z, fun s h1 h2 => by omega⟩, fun z => z.1⟩⟩
    rw [fs_179_5]
    simp (disch := first | exact fd_nl_int | exact fd_nl_ref | exact fd_nl_none | assumption | exact nI_ne0 (by omega) (by omega) | exact fd_nb0 | exact fd_nb1 | exact fd_nbb | omega) only [fs_179_0, fs_179_1, fs_179_2, fs_179_3, fs_179_7, fs_179_8_p77 hk, fs_179_11, fs_179_14, fs_179_15, fs_179_18, fs_179_19, fs_179_21, fs_179_22, fs_179_23, fs_179_24, fs_179_27, fs_179_28, fs_179_30_p77 hk, fs_179_33, fs_179_36, fs_179_37, fs_179_39, fs_179_40_p77 hk, fs_179_43, fs_179_46, fs_179_47, fs_179_50, fs_179_51, fs_179_52, fs_179_55, fs_179_58, fs_179_59, Option.bind_some, Option.toList_some, Option.toList_none, List.cons_append, List.nil_append, fd_nb0, fd_nb1, fd_nbb, fd_b0, nI_add, pk_mul, ite_not, Classical.not_not, not_false_iff, not_true, and_self, or_true, true_or, ↓reduceIte, if_true, if_false, ite_self, fd_mI, fd_mH, fd_mL, fd_p0, fd_w0, fd_w1, fd_w2, fd_10, fd_00, hc, f3]
  | succ m ih =>
    intro a x e hx
    have hc : ¬ nI ns ≤ nI a := nI_ge (by omega) (by omega)
    have ha : a < 6 := by omega
    have sp : ∀ s, a ≤ s → s = a ∨ a + 1 ≤ s := fun s hs => by omega
    obtain ⟨y0, y1, y2, y3⟩ := ih (a + 1) (nI 0) (by omega) (Or.inr rfl)
    obtain ⟨t0, t1, t2, t3⟩ := ih (a + 1) (nI 1) (by omega) (Or.inl rfl)
    rcases hx with rfl | rfl
    · by_cases c : (nI w >>> (nI a &&& 31)) &&& nI 1 = 0
      · refine ⟨t0, ?_, t2, ?_⟩
        · rw [fs_179_5]
          simp (disch := first | exact fd_nl_int | exact fd_nl_ref | exact fd_nl_none | assumption | exact nI_ne0 (by omega) (by omega) | exact fd_nb0 | exact fd_nb1 | exact fd_nbb | omega) only [fs_179_0, fs_179_1, fs_179_2, fs_179_3, fs_179_7, fs_179_8_p77 hk, fs_179_11, fs_179_14, fs_179_15, fs_179_18, fs_179_19, fs_179_21, fs_179_22, fs_179_23, fs_179_24, fs_179_27, fs_179_28, fs_179_30_p77 hk, fs_179_33, fs_179_36, fs_179_37, fs_179_39, fs_179_40_p77 hk, fs_179_43, fs_179_46, fs_179_47, fs_179_50, fs_179_51, fs_179_52, fs_179_55, fs_179_58, fs_179_59, Option.bind_some, Option.toList_some, Option.toList_none, List.cons_append, List.nil_append, fd_nb0, fd_nb1, fd_nbb, fd_b0, nI_add, pk_mul, ite_not, Classical.not_not, not_false_iff, not_true, and_self, or_true, true_or, ↓reduceIte, if_true, if_false, ite_self, fd_mI, fd_mH, fd_mL, fd_p0, fd_w0, fd_w1, fd_w2, fd_10, fd_00, hc, f3, c, t1]
        · rw [t3]
          exact ⟨fun z => ⟨rfl, fun s h1 h2 h3 h4 => (sp s h1).elim (fun y => absurd (y ▸ c) h3) (fun y => z.2 s y h2 h3 h4)⟩, fun z => ⟨rfl, fun s h1 => z.2 s (by omega)⟩⟩
      · by_cases d : h.1 82 (18 + a) = -1
        · by_cases f : nI v < fd_X (h.1 80 a) (h.1 82 (12 + a))
          · refine ⟨y0, ?_, y2, ?_⟩
            · rw [fs_179_5]
              simp (disch := first | exact fd_nl_int | exact fd_nl_ref | exact fd_nl_none | assumption | exact nI_ne0 (by omega) (by omega) | exact fd_nb0 | exact fd_nb1 | exact fd_nbb | omega) only [fs_179_0, fs_179_1, fs_179_2, fs_179_3, fs_179_7, fs_179_8_p77 hk, fs_179_11, fs_179_14, fs_179_15, fs_179_18, fs_179_19, fs_179_21, fs_179_22, fs_179_23, fs_179_24, fs_179_27, fs_179_28, fs_179_30_p77 hk, fs_179_33, fs_179_36, fs_179_37, fs_179_39, fs_179_40_p77 hk, fs_179_43, fs_179_46, fs_179_47, fs_179_50, fs_179_51, fs_179_52, fs_179_55, fs_179_58, fs_179_59, Option.bind_some, Option.toList_some, Option.toList_none, List.cons_append, List.nil_append, fd_nb0, fd_nb1, fd_nbb, fd_b0, nI_add, pk_mul, ite_not, Classical.not_not, not_false_iff, not_true, and_self, or_true, true_or, ↓reduceIte, if_true, if_false, ite_self, fd_mI, fd_mH, fd_mL, fd_p0, fd_w0, fd_w1, fd_w2, fd_10, fd_00, hc, f3, c, fm_mHasY hk, d, fm_mIsFor hk, f, y1]
            · rw [y3]
              exact ⟨fun z => absurd z.1 (by decide), fun z => absurd f (z.2 a (Nat.le_refl _) (by omega) c d)⟩
          · refine ⟨t0, ?_, t2, ?_⟩
            · rw [fs_179_5]
              simp (disch := first | exact fd_nl_int | exact fd_nl_ref | exact fd_nl_none | assumption | exact nI_ne0 (by omega) (by omega) | exact fd_nb0 | exact fd_nb1 | exact fd_nbb | omega) only [fs_179_0, fs_179_1, fs_179_2, fs_179_3, fs_179_7, fs_179_8_p77 hk, fs_179_11, fs_179_14, fs_179_15, fs_179_18, fs_179_19, fs_179_21, fs_179_22, fs_179_23, fs_179_24, fs_179_27, fs_179_28, fs_179_30_p77 hk, fs_179_33, fs_179_36, fs_179_37, fs_179_39, fs_179_40_p77 hk, fs_179_43, fs_179_46, fs_179_47, fs_179_50, fs_179_51, fs_179_52, fs_179_55, fs_179_58, fs_179_59, Option.bind_some, Option.toList_some, Option.toList_none, List.cons_append, List.nil_append, fd_nb0, fd_nb1, fd_nbb, fd_b0, nI_add, pk_mul, ite_not, Classical.not_not, not_false_iff, not_true, and_self, or_true, true_or, ↓reduceIte, if_true, if_false, ite_self, fd_mI, fd_mH, fd_mL, fd_p0, fd_w0, fd_w1, fd_w2, fd_10, fd_00, hc, f3, c, fm_mHasY hk, d, fm_mIsFor hk, f, t1]
            · rw [t3]
              exact ⟨fun z => ⟨rfl, fun s h1 h2 h3 h4 => (sp s h1).elim (fun y => by rw [y]; exact f) (fun y => z.2 s y h2 h3 h4)⟩, fun z => ⟨rfl, fun s h1 => z.2 s (by omega)⟩⟩
        · refine ⟨t0, ?_, t2, ?_⟩
          · rw [fs_179_5]
            simp (disch := first | exact fd_nl_int | exact fd_nl_ref | exact fd_nl_none | assumption | exact nI_ne0 (by omega) (by omega) | exact fd_nb0 | exact fd_nb1 | exact fd_nbb | omega) only [fs_179_0, fs_179_1, fs_179_2, fs_179_3, fs_179_7, fs_179_8_p77 hk, fs_179_11, fs_179_14, fs_179_15, fs_179_18, fs_179_19, fs_179_21, fs_179_22, fs_179_23, fs_179_24, fs_179_27, fs_179_28, fs_179_30_p77 hk, fs_179_33, fs_179_36, fs_179_37, fs_179_39, fs_179_40_p77 hk, fs_179_43, fs_179_46, fs_179_47, fs_179_50, fs_179_51, fs_179_52, fs_179_55, fs_179_58, fs_179_59, Option.bind_some, Option.toList_some, Option.toList_none, List.cons_append, List.nil_append, fd_nb0, fd_nb1, fd_nbb, fd_b0, nI_add, pk_mul, ite_not, Classical.not_not, not_false_iff, not_true, and_self, or_true, true_or, ↓reduceIte, if_true, if_false, ite_self, fd_mI, fd_mH, fd_mL, fd_p0, fd_w0, fd_w1, fd_w2, fd_10, fd_00, hc, f3, c, fm_mHasY hk, d, t1]
          · rw [t3]
            exact ⟨fun z => ⟨rfl, fun s h1 h2 h3 h4 => (sp s h1).elim (fun y => absurd (y ▸ h4) d) (fun y => z.2 s y h2 h3 h4)⟩, fun z => ⟨rfl, fun s h1 => z.2 s (by omega)⟩⟩
    · refine ⟨y0, ?_, y2, ?_⟩
      · rw [fs_179_5]
        simp (disch := first | exact fd_nl_int | exact fd_nl_ref | exact fd_nl_none | assumption | exact nI_ne0 (by omega) (by omega) | exact fd_nb0 | exact fd_nb1 | exact fd_nbb | omega) only [fs_179_0, fs_179_1, fs_179_2, fs_179_3, fs_179_7, fs_179_8_p77 hk, fs_179_11, fs_179_14, fs_179_15, fs_179_18, fs_179_19, fs_179_21, fs_179_22, fs_179_23, fs_179_24, fs_179_27, fs_179_28, fs_179_30_p77 hk, fs_179_33, fs_179_36, fs_179_37, fs_179_39, fs_179_40_p77 hk, fs_179_43, fs_179_46, fs_179_47, fs_179_50, fs_179_51, fs_179_52, fs_179_55, fs_179_58, fs_179_59, Option.bind_some, Option.toList_some, Option.toList_none, List.cons_append, List.nil_append, fd_nb0, fd_nb1, fd_nbb, fd_b0, nI_add, pk_mul, ite_not, Classical.not_not, not_false_iff, not_true, and_self, or_true, true_or, ↓reduceIte, if_true, if_false, ite_self, fd_mI, fd_mH, fd_mL, fd_p0, fd_w0, fd_w1, fd_w2, fd_10, fd_00, hc, f3, y1]
      · rw [y3]
        exact ⟨fun z => absurd z.1 (by decide), fun z => absurd z.1 (by decide)⟩
theorem fm_mLeast1 (hk : fd_Sok k fb bb dr) {w : Nat} (hw : ¬ nI w = 0) {AF : Nat → Int32} (q1 : ∀ v, v ≤ 100 → fd_E 179 0 [some (.ref (77)), some (.int (nI (w))), some (.int (nI (v))), none, none] [] k h = some (some (.int (AF v)), (k, h)) ∧ (AF v = nI 1 ∨ AF v = nI 0)) {u : Nat} (hu : u ≤ 100) (q2 : ∀ v, v ≤ 100 → (AF v = nI 1 ↔ u ≤ v)) : ∀ (m a : Nat), a + m = 101 → a ≤ u → fd_E 180 21 [some (.ref (77)), some (.int (nI (w))), some (.int (nI (a)))] [] k h = some (some (.int (nI u)), (k, h)) := by
  intro m
  induction m with
  | zero => intro a e p; omega
  | succ m ih =>
    intro a e p
    have hc : ¬ nI 100 < nI a := nI_nlt (by omega) (by omega)
    obtain ⟨v1, v2⟩ := q1 a (by omega)
    have v3 := q2 a (by omega)
    by_cases c : u ≤ a
    · have : a = u := by omega
      subst this
      have v4 := v3.mpr c
      rw [v4] at v1
      rw [fs_180_21]
      simp (disch := first | exact fd_nl_int | exact fd_nl_ref | exact fd_nl_none | assumption | exact nI_ne0 (by omega) (by omega) | exact fd_nb0 | exact fd_nb1 | exact fd_nbb | omega) only [fs_180_0, fs_180_1, fs_180_2, fs_180_3, fs_180_4_p77 hk, fs_180_7, fs_180_8, fs_180_9, fs_180_10, fs_180_13, fs_180_16, fs_180_18, fs_180_19, fs_180_20, fs_180_22, fs_180_24, fs_180_27, fs_180_28, fs_180_31, fs_180_32, fs_180_33_p77 hk, fs_180_36, fs_180_37_p77 hk, fs_180_40, fs_180_43, fs_180_46, fs_180_47, fs_180_48, fs_180_49_p77 hk, fs_180_52, fs_180_55, fs_180_56, fs_180_57, fs_180_60, fs_180_63, fs_180_64, Option.bind_some, Option.toList_some, Option.toList_none, List.cons_append, List.nil_append, fd_nb0, fd_nb1, fd_nbb, fd_b0, nI_add, pk_mul, ite_not, Classical.not_not, not_false_iff, not_true, and_self, or_true, true_or, ↓reduceIte, if_true, if_false, ite_self, fd_mI, fd_mH, fd_mL, fd_p0, fd_w0, fd_w1, fd_w2, fd_10, fd_00, hc, v1, hw]
    · have v4 : AF a = nI 0 := v2.resolve_left (fun z => c (v3.mp z))
      rw [v4] at v1
      have i1 := ih (a + 1) (by omega) (by omega)
      rw [fs_180_21]
      simp (disch := first | exact fd_nl_int | exact fd_nl_ref | exact fd_nl_none | assumption | exact nI_ne0 (by omega) (by omega) | exact fd_nb0 | exact fd_nb1 | exact fd_nbb | omega) only [fs_180_0, fs_180_1, fs_180_2, fs_180_3, fs_180_4_p77 hk, fs_180_7, fs_180_8, fs_180_9, fs_180_10, fs_180_13, fs_180_16, fs_180_18, fs_180_19, fs_180_20, fs_180_22, fs_180_24, fs_180_27, fs_180_28, fs_180_31, fs_180_32, fs_180_33_p77 hk, fs_180_36, fs_180_37_p77 hk, fs_180_40, fs_180_43, fs_180_46, fs_180_47, fs_180_48, fs_180_49_p77 hk, fs_180_52, fs_180_55, fs_180_56, fs_180_57, fs_180_60, fs_180_63, fs_180_64, Option.bind_some, Option.toList_some, Option.toList_none, List.cons_append, List.nil_append, fd_nb0, fd_nb1, fd_nbb, fd_b0, nI_add, pk_mul, ite_not, Classical.not_not, not_false_iff, not_true, and_self, or_true, true_or, ↓reduceIte, if_true, if_false, ite_self, fd_mI, fd_mH, fd_mL, fd_p0, fd_w0, fd_w1, fd_w2, fd_10, fd_00, hc, v1, hw, i1]
theorem fc_least (I : fd_Inv k h) (x : Int32) : fd_Ag k h 90 [some (.ref (0)), some (.int (x))] 180 [some (.ref (77)), some (.int (x)), none] := by
  have I0 := I; obtain ⟨fb, bb, dr, ns, np, nb, t, hk, F, ht, TX, B0, B1, FE, BA, OF, PL⟩ := I0; have F0 := F; simp only [fd_Fl, Nat.reduceAdd] at F0; obtain ⟨⟨b1, b2, b3, b4⟩, ⟨f1, f2, f3, f4, f5, f6, f7⟩, ⟨g1, g2, g3, g4⟩, S, O, T⟩ := F0
  obtain ⟨VF, CY, U, q1, q2, q3, q4, q5⟩ := fd_votes hk F ht B0
  have e1 := fd_sh1 (show ns ≤ 12 by omega)
  by_cases c1 : fd_wi x (nI 0) (nI (2 ^ ns) - nI 1)
  · obtain ⟨w, hw, rfl⟩ := (fd_argS (by omega)).mp c1
    have hp := fd_p2 (show ns ≤ 12 by omega)
    have d1 : ¬ nI w < 0 ∧ ¬ nI (2 ^ ns) ≤ nI w := (fd_isS (by omega)).mpr ⟨w, hw, rfl⟩
    by_cases c2 : w = 0
    · subst c2
      have cr : ∀ v, v ≤ 100 → fd_E 118 0 [some (.ref (0)), some (.int (nI (v)))] [] k h = some (some (.int (fd_b (¬ VF v < CY))), (k, h)) := fun v hv => fm_carries hk (q1 v hv).1 q2
      have c0 := cr 0 (by omega)
      obtain ⟨z, z1, z2⟩ := fm_mLeast0 hk (fun v hv => (q1 v hv).2) q3 101 0 (by omega) (fun v hv => by omega)
      have L := fm_ltc hk b1 f2 cr (fun s hs => ⟨(q4 s hs).1, (q4 s hs).2.1⟩) ns 0 (-1) none (by omega) fd_nl_none
      have P := fd_ltP (Y := fun s => h.1 9 s) (VF := VF) (CY := CY) (U := U) (ns := ns) (fun s hs => (q4 s hs).1)
      have walk : ∀ n, VF 0 < CY → (∀ v, v < n → ∀ s, s < ns → h.1 9 s = -1 → U s = v + 1 → VF (v + 1) < CY) → n ≤ 100 → VF n < CY := by
        intro n
        induction n with
        | zero => intro q _ _; exact q
        | succ n ih =>
          intro q hq hn
          by_cases y : ∃ s, s < ns ∧ h.1 9 s = -1 ∧ U s = n + 1
          · obtain ⟨s, s1, s2, s3⟩ := y
            exact hq n (by omega) s s1 s2 s3
          · rw [q5 n (by omega) (fun s s1 s2 s3 => y ⟨s, s1, s2, s3⟩)]
            exact ih q (fun v hv => hq v (by omega)) (by omega)
      by_cases y0 : VF 0 < CY
      · have fin : fd_fold (fd_ltF (fun s => h.1 9 s) VF CY U) ns 0 (-1) = z := by
          rcases P with ⟨p1, p2⟩ | ⟨u, u1, u2, u3, u4⟩
          · have all : ∀ v, v ≤ 100 → VF v < CY := fun v hv => walk v y0 (fun v' _ s s1 s2 s3 => s3 ▸ p2 s s1 s2) hv
            rcases z2 with ⟨z3, _⟩ | ⟨u', w1, w2, w3, w4⟩
            · rw [p1, z3]
            · exact absurd (all u' w1) w3
          · have below : ∀ v, v < u → VF v < CY := fun v hv => walk v y0 (fun v' hv' s s1 s2 s3 => by
              refine Classical.byContradiction fun y => ?_
              have := u4 s s1 s2 (by rw [s3]; exact y)
              omega) (by omega)
            rcases z2 with ⟨_, z4⟩ | ⟨u', w1, w2, w3, w4⟩
            · exact absurd (z4 u u1) u3
            · have : u = u' := by
                rcases Nat.lt_trichotomy u u' with y | y | y
                · exact absurd (w4 u y) u3
                · exact y
                · exact absurd (below u' y) w3
              rw [u2, w2, this]
        have E := show fd_E 119 0 [some (.ref (0)), none, none, none] [] k h = some (some (.int (z)), (k, h)) by simp (disch := first | exact fd_nl_int | exact fd_nl_ref | exact fd_nl_none | assumption | exact nI_ne0 (by omega) (by omega) | exact fd_nb0 | exact fd_nb1 | exact fd_nbb | omega) only [fs_119_0, fs_119_1, fs_119_2_p0 hk, fs_119_5, fs_119_8, fs_119_9, fs_119_10, fs_119_11, fs_119_12, fs_119_13, fs_119_15, fs_119_16_p0 hk, fs_119_19_p1 hk, fs_119_22, fs_119_25, fs_119_26_p0 hk, fs_119_29, fs_119_30_p1 hk, fs_119_33, fs_119_34, fs_119_35_p0 hk, fs_119_38, fs_119_39_p1 hk, fs_119_42, fs_119_45, fs_119_46, fs_119_47, fs_119_50, fs_119_51, fs_119_52, fs_119_55, fs_119_56, fs_119_57_p0 hk, fs_119_60, fs_119_63, fs_119_64, fs_119_65, fs_119_68, fs_119_71, fs_119_72, Option.bind_some, Option.toList_some, Option.toList_none, List.cons_append, List.nil_append, fd_nb0, fd_nb1, fd_nbb, fd_b0, nI_add, pk_mul, ite_not, Classical.not_not, not_false_iff, not_true, and_self, or_true, true_or, ↓reduceIte, if_true, if_false, ite_self, fd_mI, fd_mH, fd_mL, fd_p0, fd_w0, fd_w1, fd_w2, fd_10, fd_00, c0, y0, L, fin]
        exact fd_ag_ro I (v := z) (w := z) (by simp (disch := first | exact fd_nl_int | exact fd_nl_ref | exact fd_nl_none | assumption | exact nI_ne0 (by omega) (by omega) | exact fd_nb0 | exact fd_nb1 | exact fd_nbb | omega) only [fs_90_0, fs_90_1, fs_90_2_p0 hk, fs_90_5_p1 hk, fs_90_8, fs_90_11, fs_90_14, fs_90_16, fs_90_17, fs_90_18, fs_90_21, fs_90_22_p0 hk, fs_90_25, fs_90_28, fs_90_29, fs_90_30_p0 hk, fs_90_33, Option.bind_some, Option.toList_some, Option.toList_none, List.cons_append, List.nil_append, fd_nb0, fd_nb1, fd_nbb, fd_b0, nI_add, pk_mul, ite_not, Classical.not_not, not_false_iff, not_true, and_self, or_true, true_or, ↓reduceIte, if_true, if_false, ite_self, fd_mI, fd_mH, fd_mL, fd_p0, fd_w0, fd_w1, fd_w2, fd_10, fd_00, fm_isShip hk, fm_isHour, fm_isBook, fm_within, fm_isCell, fm_canPass hk, f1, f2, f4, fm_isSet, e1, eq_true d1, eq_true c1, E, z1]) (by simp (disch := first | exact fd_nl_int | exact fd_nl_ref | exact fd_nl_none | assumption | exact nI_ne0 (by omega) (by omega) | exact fd_nb0 | exact fd_nb1 | exact fd_nbb | omega) only [fs_180_0, fs_180_1, fs_180_2, fs_180_3, fs_180_4_p77 hk, fs_180_7, fs_180_8, fs_180_9, fs_180_10, fs_180_13, fs_180_16, fs_180_18, fs_180_19, fs_180_20, fs_180_22, fs_180_24, fs_180_27, fs_180_28, fs_180_31, fs_180_32, fs_180_33_p77 hk, fs_180_36, fs_180_37_p77 hk, fs_180_40, fs_180_43, fs_180_46, fs_180_47, fs_180_48, fs_180_49_p77 hk, fs_180_52, fs_180_55, fs_180_56, fs_180_57, fs_180_60, fs_180_63, fs_180_64, Option.bind_some, Option.toList_some, Option.toList_none, List.cons_append, List.nil_append, fd_nb0, fd_nb1, fd_nbb, fd_b0, nI_add, pk_mul, ite_not, Classical.not_not, not_false_iff, not_true, and_self, or_true, true_or, ↓reduceIte, if_true, if_false, ite_self, fd_mI, fd_mH, fd_mL, fd_p0, fd_w0, fd_w1, fd_w2, fd_10, fd_00, fm_mIsShip hk, fm_mIn, fm_mIsHour, fm_mIsBook, fm_mIsCell, f3, f5, ht, fm_isSet, e1, eq_true d1, eq_true c1, E, z1]) rfl
      · have fin : z = nI 0 := by
          rcases z2 with ⟨_, z4⟩ | ⟨u', w1, w2, w3, w4⟩
          · exact absurd (z4 0 (by omega)) y0
          · rw [w2]
            refine congrArg nI ?_
            refine Classical.byContradiction fun y => y0 (w4 0 (by omega))
        subst fin
        have E := show fd_E 119 0 [some (.ref (0)), none, none, none] [] k h = some (some (.int (nI 0)), (k, h)) by simp (disch := first | exact fd_nl_int | exact fd_nl_ref | exact fd_nl_none | assumption | exact nI_ne0 (by omega) (by omega) | exact fd_nb0 | exact fd_nb1 | exact fd_nbb | omega) only [fs_119_0, fs_119_1, fs_119_2_p0 hk, fs_119_5, fs_119_8, fs_119_9, fs_119_10, fs_119_11, fs_119_12, fs_119_13, fs_119_15, fs_119_16_p0 hk, fs_119_19_p1 hk, fs_119_22, fs_119_25, fs_119_26_p0 hk, fs_119_29, fs_119_30_p1 hk, fs_119_33, fs_119_34, fs_119_35_p0 hk, fs_119_38, fs_119_39_p1 hk, fs_119_42, fs_119_45, fs_119_46, fs_119_47, fs_119_50, fs_119_51, fs_119_52, fs_119_55, fs_119_56, fs_119_57_p0 hk, fs_119_60, fs_119_63, fs_119_64, fs_119_65, fs_119_68, fs_119_71, fs_119_72, Option.bind_some, Option.toList_some, Option.toList_none, List.cons_append, List.nil_append, fd_nb0, fd_nb1, fd_nbb, fd_b0, nI_add, pk_mul, ite_not, Classical.not_not, not_false_iff, not_true, and_self, or_true, true_or, ↓reduceIte, if_true, if_false, ite_self, fd_mI, fd_mH, fd_mL, fd_p0, fd_w0, fd_w1, fd_w2, fd_10, fd_00, c0, y0]
        exact fd_ag_ro I (v := nI 0) (w := nI 0) (by simp (disch := first | exact fd_nl_int | exact fd_nl_ref | exact fd_nl_none | assumption | exact nI_ne0 (by omega) (by omega) | exact fd_nb0 | exact fd_nb1 | exact fd_nbb | omega) only [fs_90_0, fs_90_1, fs_90_2_p0 hk, fs_90_5_p1 hk, fs_90_8, fs_90_11, fs_90_14, fs_90_16, fs_90_17, fs_90_18, fs_90_21, fs_90_22_p0 hk, fs_90_25, fs_90_28, fs_90_29, fs_90_30_p0 hk, fs_90_33, Option.bind_some, Option.toList_some, Option.toList_none, List.cons_append, List.nil_append, fd_nb0, fd_nb1, fd_nbb, fd_b0, nI_add, pk_mul, ite_not, Classical.not_not, not_false_iff, not_true, and_self, or_true, true_or, ↓reduceIte, if_true, if_false, ite_self, fd_mI, fd_mH, fd_mL, fd_p0, fd_w0, fd_w1, fd_w2, fd_10, fd_00, fm_isShip hk, fm_isHour, fm_isBook, fm_within, fm_isCell, fm_canPass hk, f1, f2, f4, fm_isSet, e1, eq_true d1, eq_true c1, E, z1]) (by simp (disch := first | exact fd_nl_int | exact fd_nl_ref | exact fd_nl_none | assumption | exact nI_ne0 (by omega) (by omega) | exact fd_nb0 | exact fd_nb1 | exact fd_nbb | omega) only [fs_180_0, fs_180_1, fs_180_2, fs_180_3, fs_180_4_p77 hk, fs_180_7, fs_180_8, fs_180_9, fs_180_10, fs_180_13, fs_180_16, fs_180_18, fs_180_19, fs_180_20, fs_180_22, fs_180_24, fs_180_27, fs_180_28, fs_180_31, fs_180_32, fs_180_33_p77 hk, fs_180_36, fs_180_37_p77 hk, fs_180_40, fs_180_43, fs_180_46, fs_180_47, fs_180_48, fs_180_49_p77 hk, fs_180_52, fs_180_55, fs_180_56, fs_180_57, fs_180_60, fs_180_63, fs_180_64, Option.bind_some, Option.toList_some, Option.toList_none, List.cons_append, List.nil_append, fd_nb0, fd_nb1, fd_nbb, fd_b0, nI_add, pk_mul, ite_not, Classical.not_not, not_false_iff, not_true, and_self, or_true, true_or, ↓reduceIte, if_true, if_false, ite_self, fd_mI, fd_mH, fd_mL, fd_p0, fd_w0, fd_w1, fd_w2, fd_10, fd_00, fm_mIsShip hk, fm_mIn, fm_mIsHour, fm_mIsBook, fm_mIsCell, f3, f5, ht, fm_isSet, e1, eq_true d1, eq_true c1, E, z1]) rfl
    · have w0 : ¬ nI w = 0 := nI_ne0 (by omega) (by omega)
      obtain ⟨u, u1, u2, u3⟩ := fm_lfa (w := w) hk b1 f2 (fun s hs => ⟨(q4 s hs).1, (q4 s hs).2.1⟩) ns 0 0 (by omega) (by omega)
      have A : ∀ v, ∃ y, fd_E 179 5 [some (.ref (77)), some (.int (nI (w))), some (.int (nI (v))), some (.int (nI 1)), some (.int (nI (0)))] [] k h = some (some (.int (y)), (k, h)) ∧ (y = nI 1 ∨ y = nI 0) ∧ (y = nI 1 ↔ nI 1 = nI 1 ∧ ∀ s, 0 ≤ s → s < ns → ¬ (nI w >>> (nI s &&& 31)) &&& nI 1 = 0 → h.1 82 (18 + s) = -1 → ¬ nI v < fd_X (h.1 80 s) (h.1 82 (12 + s))) := fun v => fm_areFor hk b1 f3 ns 0 (nI 1) (by omega) (Or.inl rfl)
      have A2 : ∀ v, v ≤ 100 → ∃ y, fd_E 179 0 [some (.ref (77)), some (.int (nI (w))), some (.int (nI (v))), none, none] [] k h = some (some (.int (y)), (k, h)) ∧ (y = nI 1 ∨ y = nI 0) ∧ (y = nI 1 ↔ u ≤ v) := by
        intro v hv
        obtain ⟨y, y1, y2, y3⟩ := A v
        refine ⟨y, by simp (disch := first | exact fd_nl_int | exact fd_nl_ref | exact fd_nl_none | assumption | exact nI_ne0 (by omega) (by omega) | exact fd_nb0 | exact fd_nb1 | exact fd_nbb | omega) only [fs_179_0, fs_179_1, fs_179_2, fs_179_3, fs_179_7, fs_179_8_p77 hk, fs_179_11, fs_179_14, fs_179_15, fs_179_18, fs_179_19, fs_179_21, fs_179_22, fs_179_23, fs_179_24, fs_179_27, fs_179_28, fs_179_30_p77 hk, fs_179_33, fs_179_36, fs_179_37, fs_179_39, fs_179_40_p77 hk, fs_179_43, fs_179_46, fs_179_47, fs_179_50, fs_179_51, fs_179_52, fs_179_55, fs_179_58, fs_179_59, Option.bind_some, Option.toList_some, Option.toList_none, List.cons_append, List.nil_append, fd_nb0, fd_nb1, fd_nbb, fd_b0, nI_add, pk_mul, ite_not, Classical.not_not, not_false_iff, not_true, and_self, or_true, true_or, ↓reduceIte, if_true, if_false, ite_self, fd_mI, fd_mH, fd_mL, fd_p0, fd_w0, fd_w1, fd_w2, fd_10, fd_00, y1], y2, ?_⟩
        rw [y3, u3 v]
        constructor
        · rintro ⟨_, z⟩
          refine ⟨by omega, fun s h1 h2 h3 h4 => ?_⟩
          have Q := S s h2
          simp only [fd_S1, Nat.reduceAdd] at Q
          have := z s h1 h2 h3 (Q.2.2.2.2.2.2.1 ▸ h4)
          rw [(q4 s h2).2.2 v hv] at this
          omega
        · rintro ⟨_, z⟩
          refine ⟨rfl, fun s h1 h2 h3 h4 => ?_⟩
          have Q := S s h2
          simp only [fd_S1, Nat.reduceAdd] at Q
          have := z s h1 h2 h3 (Q.2.2.2.2.2.2.1.trans h4)
          rw [(q4 s h2).2.2 v hv]
          omega
      have A3 : ∃ AF : Nat → Int32, ∀ v, v ≤ 100 → fd_E 179 0 [some (.ref (77)), some (.int (nI (w))), some (.int (nI (v))), none, none] [] k h = some (some (.int (AF v)), (k, h)) ∧ (AF v = nI 1 ∨ AF v = nI 0) ∧ (AF v = nI 1 ↔ u ≤ v) := by
        refine ⟨fun v => if hv : v ≤ 100 then Classical.choose (A2 v hv) else 0, fun v hv => ?_⟩
        have := Classical.choose_spec (A2 v hv)
        dsimp only
        rw [dif_pos hv]
        exact this
      obtain ⟨AF, A4⟩ := A3
      have M := fm_mLeast1 hk w0 (fun v hv => ⟨(A4 v hv).1, (A4 v hv).2.1⟩) u1 (fun v hv => (A4 v hv).2.2) 101 0 (by omega) (by omega)
      have E := show fd_E 120 0 [some (.ref (0)), some (.int (nI (w))), none, none] [] k h = some (some (.int (nI u)), (k, h)) by simp (disch := first | exact fd_nl_int | exact fd_nl_ref | exact fd_nl_none | assumption | exact nI_ne0 (by omega) (by omega) | exact fd_nb0 | exact fd_nb1 | exact fd_nbb | omega) only [fs_120_0, fs_120_1, fs_120_2, fs_120_3, fs_120_5, fs_120_6_p0 hk, fs_120_9_p1 hk, fs_120_12, fs_120_15, fs_120_16, fs_120_17, fs_120_20, fs_120_23, fs_120_24_p0 hk, fs_120_27, fs_120_28_p1 hk, fs_120_31, fs_120_34, fs_120_35, fs_120_36_p0 hk, fs_120_39, fs_120_40_p1 hk, fs_120_43, fs_120_46, fs_120_47, fs_120_50, fs_120_53, fs_120_54, Option.bind_some, Option.toList_some, Option.toList_none, List.cons_append, List.nil_append, fd_nb0, fd_nb1, fd_nbb, fd_b0, nI_add, pk_mul, ite_not, Classical.not_not, not_false_iff, not_true, and_self, or_true, true_or, ↓reduceIte, if_true, if_false, ite_self, fd_mI, fd_mH, fd_mL, fd_p0, fd_w0, fd_w1, fd_w2, fd_10, fd_00, u2]
      exact fd_ag_ro I (v := nI u) (w := nI u) (by simp (disch := first | exact fd_nl_int | exact fd_nl_ref | exact fd_nl_none | assumption | exact nI_ne0 (by omega) (by omega) | exact fd_nb0 | exact fd_nb1 | exact fd_nbb | omega) only [fs_90_0, fs_90_1, fs_90_2_p0 hk, fs_90_5_p1 hk, fs_90_8, fs_90_11, fs_90_14, fs_90_16, fs_90_17, fs_90_18, fs_90_21, fs_90_22_p0 hk, fs_90_25, fs_90_28, fs_90_29, fs_90_30_p0 hk, fs_90_33, Option.bind_some, Option.toList_some, Option.toList_none, List.cons_append, List.nil_append, fd_nb0, fd_nb1, fd_nbb, fd_b0, nI_add, pk_mul, ite_not, Classical.not_not, not_false_iff, not_true, and_self, or_true, true_or, ↓reduceIte, if_true, if_false, ite_self, fd_mI, fd_mH, fd_mL, fd_p0, fd_w0, fd_w1, fd_w2, fd_10, fd_00, fm_isShip hk, fm_isHour, fm_isBook, fm_within, fm_isCell, fm_canPass hk, f1, f2, f4, fm_isSet, e1, eq_true d1, eq_true c1, w0, E, M]) (by simp (disch := first | exact fd_nl_int | exact fd_nl_ref | exact fd_nl_none | assumption | exact nI_ne0 (by omega) (by omega) | exact fd_nb0 | exact fd_nb1 | exact fd_nbb | omega) only [fs_180_0, fs_180_1, fs_180_2, fs_180_3, fs_180_4_p77 hk, fs_180_7, fs_180_8, fs_180_9, fs_180_10, fs_180_13, fs_180_16, fs_180_18, fs_180_19, fs_180_20, fs_180_22, fs_180_24, fs_180_27, fs_180_28, fs_180_31, fs_180_32, fs_180_33_p77 hk, fs_180_36, fs_180_37_p77 hk, fs_180_40, fs_180_43, fs_180_46, fs_180_47, fs_180_48, fs_180_49_p77 hk, fs_180_52, fs_180_55, fs_180_56, fs_180_57, fs_180_60, fs_180_63, fs_180_64, Option.bind_some, Option.toList_some, Option.toList_none, List.cons_append, List.nil_append, fd_nb0, fd_nb1, fd_nbb, fd_b0, nI_add, pk_mul, ite_not, Classical.not_not, not_false_iff, not_true, and_self, or_true, true_or, ↓reduceIte, if_true, if_false, ite_self, fd_mI, fd_mH, fd_mL, fd_p0, fd_w0, fd_w1, fd_w2, fd_10, fd_00, fm_mIsShip hk, fm_mIn, fm_mIsHour, fm_mIsBook, fm_mIsCell, f3, f5, ht, fm_isSet, e1, eq_true d1, eq_true c1, w0, E, M]) rfl
  · have d1 : ¬ (¬ x < 0 ∧ ¬ nI (2 ^ ns) ≤ x) := fun z => c1 ((fd_argS (by omega)).mpr ((fd_isS (by omega)).mp z))
    have d2 := eq_false d1
    exact fd_ag_ro I (v := -3) (w := -3) (by simp (disch := first | exact fd_nl_int | exact fd_nl_ref | exact fd_nl_none | assumption | exact nI_ne0 (by omega) (by omega) | exact fd_nb0 | exact fd_nb1 | exact fd_nbb | omega) only [fs_90_0, fs_90_1, fs_90_2_p0 hk, fs_90_5_p1 hk, fs_90_8, fs_90_11, fs_90_14, fs_90_16, fs_90_17, fs_90_18, fs_90_21, fs_90_22_p0 hk, fs_90_25, fs_90_28, fs_90_29, fs_90_30_p0 hk, fs_90_33, Option.bind_some, Option.toList_some, Option.toList_none, List.cons_append, List.nil_append, fd_nb0, fd_nb1, fd_nbb, fd_b0, nI_add, pk_mul, ite_not, Classical.not_not, not_false_iff, not_true, and_self, or_true, true_or, ↓reduceIte, if_true, if_false, ite_self, fd_mI, fd_mH, fd_mL, fd_p0, fd_w0, fd_w1, fd_w2, fd_10, fd_00, fm_isShip hk, fm_isHour, fm_isBook, fm_within, fm_isCell, fm_canPass hk, f1, f2, f4, fm_isSet, e1, d2, c1]) (by simp (disch := first | exact fd_nl_int | exact fd_nl_ref | exact fd_nl_none | assumption | exact nI_ne0 (by omega) (by omega) | exact fd_nb0 | exact fd_nb1 | exact fd_nbb | omega) only [fs_180_0, fs_180_1, fs_180_2, fs_180_3, fs_180_4_p77 hk, fs_180_7, fs_180_8, fs_180_9, fs_180_10, fs_180_13, fs_180_16, fs_180_18, fs_180_19, fs_180_20, fs_180_22, fs_180_24, fs_180_27, fs_180_28, fs_180_31, fs_180_32, fs_180_33_p77 hk, fs_180_36, fs_180_37_p77 hk, fs_180_40, fs_180_43, fs_180_46, fs_180_47, fs_180_48, fs_180_49_p77 hk, fs_180_52, fs_180_55, fs_180_56, fs_180_57, fs_180_60, fs_180_63, fs_180_64, Option.bind_some, Option.toList_some, Option.toList_none, List.cons_append, List.nil_append, fd_nb0, fd_nb1, fd_nbb, fd_b0, nI_add, pk_mul, ite_not, Classical.not_not, not_false_iff, not_true, and_self, or_true, true_or, ↓reduceIte, if_true, if_false, ite_self, fd_mI, fd_mH, fd_mL, fd_p0, fd_w0, fd_w1, fd_w2, fd_10, fd_00, fm_mIsShip hk, fm_mIn, fm_mIsHour, fm_mIsBook, fm_mIsCell, f3, f5, ht, fm_isSet, e1, d2, c1]) rfl
end LEAST
