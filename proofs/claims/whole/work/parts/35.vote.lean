/-! THE CALLS vote, least -/
section VOTE
variable {k : fd_Sk} {h g : fd_Hp} {fb bb dr b : Nat}
theorem fd_car_i {A : fd_A} {t i : Int32} {n : Nat} (e : ∀ a, a < n → A 1 a = nI 2 → ¬ A 3 a = -1) : fd_fold (fd_carF A t) n 0 i = if fd_fold (fd_carF A t) n 0 (-1) = -1 then i else fd_fold (fd_carF A t) n 0 (-1) := by
  have q := fd_fold_2 (f := fd_carF A t) (g := fd_carF A t) (P := fun _ u v => (u = -1 ∧ v = i) ∨ (v = u ∧ ¬ u = -1)) n (i := 0) (x := -1) (y := i) (Or.inl ⟨rfl, rfl⟩) (fun a _ ha u v z => by
    unfold fd_carF
    by_cases c : fd_isF A a (nI 2) (-1) t
    · rw [if_pos c, if_pos c]
      exact Or.inr ⟨rfl, e a (by omega) c.1⟩
    · rw [if_neg c, if_neg c]
      exact z)
  rcases q with ⟨q1, q2⟩ | ⟨q1, q2⟩
  · rw [if_pos q1, q2]
  · rw [if_neg q2, q1]
theorem fd_votes {ns np nb t : Nat} (hk : fd_Sok k fb bb dr) (F : fd_Fl 1 h h ns np nb t) (ht : h.1 77 0 = nI t) (B0 : fd_Bk h fb 0) : ∃ (VF : Nat → Int32) (CY : Int32) (U : Nat → Nat), (∀ v, v ≤ 100 → fd_E 116 0 [some (.ref (0)), some (.int (nI (v))), none, none] [] k h = some (some (.int (VF v)), (k, h)) ∧ fd_E 176 0 [some (.ref (77)), some (.int (nI (v))), none, none] [] k h = some (some (.int (VF v)), (k, h))) ∧ fd_E 117 0 [some (.ref (0)), none] [] k h = some (some (.int (CY)), (k, h)) ∧ fd_E 177 0 [some (.ref (77)), none, none, none] [] k h = some (some (.int (CY)), (k, h)) ∧ (∀ s, s < ns → U s ≤ 100 ∧ fd_E 29 0 [some (.ref (1)), some (.int (nI (s)))] [] k h = some (some (.int (nI (U s))), (k, h)) ∧ ∀ v, v ≤ 100 → (nI v < fd_X (h.1 80 s) (h.1 82 (12 + s)) ↔ v < U s)) ∧ (∀ v, v < 100 → (∀ s, s < ns → h.1 9 s = -1 → ¬ U s = v + 1) → VF (v + 1) = VF v) := by
  have F0 := F
  simp only [fd_Fl, Nat.reduceAdd] at F0
  obtain ⟨⟨b1, b2, b3, b4⟩, ⟨f1, f2, f3, f4, f5, f6, f7⟩, ⟨g1, g2, g3, g4⟩, S, O, T⟩ := F0
  obtain ⟨n, hn, e1, e2, e3⟩ := B0
  have hS : ∀ s, s < ns → h.1 9 s = h.1 82 (18 + s) ∧ (fd_lo (h.1 7 s) (h.1 8 s)).toNatClampNeg ≤ 100 ∧ fd_lo (h.1 7 s) (h.1 8 s) = nI (fd_lo (h.1 7 s) (h.1 8 s)).toNatClampNeg ∧ ∀ v, v ≤ 100 → (nI v < fd_X (h.1 80 s) (h.1 82 (12 + s)) ↔ v < (fd_lo (h.1 7 s) (h.1 8 s)).toNatClampNeg) := by
    intro s hs
    have Q := S s hs
    simp only [fd_S1, Nat.reduceAdd] at Q
    obtain ⟨p1, p2, p3, p4, ⟨w, _, w1, w2, w3⟩, ⟨l, _, l1, l2, l3⟩, p7, p8, p9, p10⟩ := Q
    obtain ⟨u, u1, u2, u3⟩ := fd_lo_at w1 l1
    rw [w2, w3, l2, l3, u2, fd_cl (by omega)]
    exact ⟨p7, u1, rfl, u3⟩
  have hV : ∀ s, fd_fold (fd_vocF (fd_bkA h fb) (nI s) (nI t)) n 0 (nI 1) = fd_fold (fd_vocF (fd_mdA h 0) (nI s) (nI t)) n 0 (nI 1) := fun s => fd_fold_eq (fun a _ ha x => fd_vocF_eq (e3 a (by omega)).1)
  have hF : ∀ v, v ≤ 100 → fd_fold (fd_vfF (fun s => h.1 9 s) (fun s => fd_lo (h.1 7 s) (h.1 8 s)) (fun s => fd_fold (fd_vocF (fd_bkA h fb) (nI s) (nI t)) n 0 (nI 1)) (nI v)) ns 0 (nI 0) = fd_fold (fd_vfF (fun s => h.1 82 (18 + s)) (fun s => fd_X (h.1 80 s) (h.1 82 (12 + s))) (fun s => fd_fold (fd_vocF (fd_mdA h 0) (nI s) (nI t)) n 0 (nI 1)) (nI v)) ns 0 (nI 0) := by
    intro v hv
    refine fd_fold_eq (fun a _ ha x => ?_)
    obtain ⟨q1, q2, q3, q4⟩ := hS a (by omega)
    have q5 : nI v < fd_lo (h.1 7 a) (h.1 8 a) ↔ nI v < fd_X (h.1 80 a) (h.1 82 (12 + a)) := by
      rw [q4 v hv, q3, nI_ltI (by omega) (by omega), fd_cl (by omega)]
    unfold fd_vfF
    dsimp only
    simp only [q1, q5, hV]
  have hA : fd_fold (fd_vfF (fun s => h.1 9 s) (fun s => fd_lo (h.1 7 s) (h.1 8 s)) (fun s => fd_fold (fd_vocF (fd_bkA h fb) (nI s) (nI t)) n 0 (nI 1)) (nI 100)) ns 0 (nI 0) = fd_fold (fd_vaF (fun s => h.1 82 (18 + s)) (fun s => fd_fold (fd_vocF (fd_mdA h 0) (nI s) (nI t)) n 0 (nI 1))) ns 0 (nI 0) := by
    rw [hF 100 (by omega)]
    refine fd_fold_eq (fun a _ ha x => ?_)
    obtain ⟨q1, q2, q3, q4⟩ := hS a (by omega)
    unfold fd_vfF fd_vaF
    dsimp only
    rw [if_neg (show ¬ nI 100 < fd_X (h.1 80 a) (h.1 82 (12 + a)) from fun z => by have := (q4 100 (by omega)).mp z; omega)]
  have c0 := fm_voicesFor hk b1 f1 f2 e1 hn (nI 100)
  have c1 := fm_toCarry hk f1 e1 hn c0
  have c2 := fm_mCarry hk b1 ht f3 e2 hn
  have c3 : fd_fold (fd_carF (fd_bkA h fb) (nI t)) n 0 (-1) = fd_fold (fd_carF (fd_mdA h 0) (nI t)) n 0 (-1) := fd_fold_eq (fun a _ ha x => fd_carF_eq (e3 a (by omega)).1)
  have c4 : ∀ a, a < n → fd_mdA h 0 1 a = nI 2 → ¬ fd_mdA h 0 3 a = -1 := by
    intro a ha z w
    have z1 := e3 a ha
    rw [z1.1 1 (by omega) (by omega), z1.1 3 (by omega) (by omega)] at z1
    rcases z1.2.1 with z2 | ⟨q, q1, q2⟩
    · rw [z] at z2; exact absurd z2.1 (by decide)
    · rw [w] at q2
      have := congrArg Int32.toInt q2
      rw [nI_toInt (by omega)] at this
      have h2 : (-1 : Int32).toInt = -1 := by decide
      omega
  rw [fd_car_i c4, ← hA] at c2
  rw [c3] at c1
  refine ⟨fun v => fd_fold (fd_vfF (fun s => h.1 9 s) (fun s => fd_lo (h.1 7 s) (h.1 8 s)) (fun s => fd_fold (fd_vocF (fd_bkA h fb) (nI s) (nI t)) n 0 (nI 1)) (nI v)) ns 0 (nI 0), _, fun s => (fd_lo (h.1 7 s) (h.1 8 s)).toNatClampNeg, fun v hv => ⟨fm_voicesFor hk b1 f1 f2 e1 hn (nI v), ?_⟩, c1, c2, fun s hs => ?_, fun v hv z => ?_⟩
  · dsimp only
    rw [hF v hv]
    exact fm_mVoicesFor hk b1 ht f3 e2 hn (nI v)
  · obtain ⟨q1, q2, q3, q4⟩ := hS s hs
    refine ⟨q2, ?_, q4⟩
    rw [← q3]
    exact fm_leastOffer hk (by omega)
  · dsimp only
    refine fd_fold_eq (fun a _ ha x => ?_)
    obtain ⟨q1, q2, q3, q4⟩ := hS a (by omega)
    unfold fd_vfF
    dsimp only
    by_cases y : h.1 9 a = -1
    · have z' : ¬ (fd_lo (h.1 7 a) (h.1 8 a)).toNatClampNeg = v + 1 := z a (by omega) y
      have q5 : nI (v + 1) < fd_lo (h.1 7 a) (h.1 8 a) ↔ nI v < fd_lo (h.1 7 a) (h.1 8 a) := by
        rw [q3, nI_ltI (by omega) (by omega), nI_ltI (by omega) (by omega)]
        omega
      simp only [y, q5]
    · rw [if_neg y, if_neg y]
theorem fm_carries (hk : fd_Sok k fb bb dr) {o v c : Int32} (hv : fd_E 116 0 [some (.ref (0)), some (.int (o)), none, none] [] k h = some (some (.int (v)), (k, h))) (hc : fd_E 117 0 [some (.ref (0)), none] [] k h = some (some (.int (c)), (k, h))) : fd_E 118 0 [some (.ref (0)), some (.int (o))] [] k h = some (some (.int (fd_b (¬ v < c))), (k, h)) := by
  simp (disch := first | exact fd_nl_int | exact fd_nl_ref | exact fd_nl_none | assumption | exact nI_ne0 (by omega) (by omega) | exact fd_nb0 | exact fd_nb1 | exact fd_nbb | omega) only [fs_118_0, fs_118_1, fs_118_2_p0 hk, fs_118_5, fs_118_6_p0 hk, fs_118_9, fs_118_12, fs_118_13, fs_118_16, fs_118_17, Option.bind_some, Option.toList_some, Option.toList_none, List.cons_append, List.nil_append, fd_nb0, fd_nb1, fd_nbb, fd_b0, nI_add, pk_mul, ite_not, Classical.not_not, not_false_iff, not_true, and_self, or_true, true_or, ↓reduceIte, if_true, if_false, ite_self, fd_mI, fd_mH, fd_mL, fd_p0, fd_w0, fd_w1, fd_w2, fd_10, fd_00, hv, hc]
  unfold fd_b; (repeat' split) <;> simp_all
theorem fc_vote (I : fd_Inv k h) (x y : Int32) : fd_Ag k h 89 [some (.ref (0)), some (.int (x)), some (.int (y))] 178 [some (.ref (77)), some (.int (x)), some (.int (y))] := by
  have I0 := I; obtain ⟨fb, bb, dr, ns, np, nb, t, hk, F, ht, TX, B0, B1, FE, BA, OF, PL⟩ := I0; have F0 := F; simp only [fd_Fl, Nat.reduceAdd] at F0; obtain ⟨⟨b1, b2, b3, b4⟩, ⟨f1, f2, f3, f4, f5, f6, f7⟩, ⟨g1, g2, g3, g4⟩, S, O, T⟩ := F0
  obtain ⟨VF, CY, U, q1, q2, q3, q4, q5⟩ := fd_votes hk F ht B0
  by_cases c1 : fd_wi x (nI 0) (nI 100)
  · obtain ⟨v, _, hv, rfl⟩ := (fd_argL (by omega) (by omega)).mp c1
    obtain ⟨v1, v2⟩ := q1 v hv
    rcases fd_sw y 2 (by omega) with hx | ⟨j, hj, rfl⟩
    · have c2 : ¬ fd_wi y (nI 0) (nI 2) := by
        rw [fd_argL (by omega) (by omega)]
        rintro ⟨s, _, s2, rfl⟩
        rw [nI_toInt (by omega)] at hx
        omega
      exact fd_ag_ro I (v := -3) (w := -3) (by simp (disch := first | exact fd_nl_int | exact fd_nl_ref | exact fd_nl_none | assumption | exact nI_ne0 (by omega) (by omega) | exact fd_nb0 | exact fd_nb1 | exact fd_nbb | omega) only [fs_89_0, fs_89_1, fs_89_2, fs_89_4, fs_89_7, fs_89_10, fs_89_12, fs_89_13, fs_89_14_c0, fs_89_14_c1, fs_89_14_c2, fs_89_14_out, fs_89_40, fs_89_41, fs_89_42_p0 hk, fs_89_45, fs_89_46, fs_89_47_p0 hk, fs_89_50, fs_89_51, fs_89_52, fs_89_53_p0 hk, fs_89_56, fs_89_59, fs_89_60, fs_89_63, fs_89_64, fs_89_65, fs_89_67, Option.bind_some, Option.toList_some, Option.toList_none, List.cons_append, List.nil_append, fd_nb0, fd_nb1, fd_nbb, fd_b0, nI_add, pk_mul, ite_not, Classical.not_not, not_false_iff, not_true, and_self, or_true, true_or, ↓reduceIte, if_true, if_false, ite_self, fd_mI, fd_mH, fd_mL, fd_p0, fd_w0, fd_w1, fd_w2, fd_10, fd_00, fm_isShip hk, fm_isHour, fm_isBook, fm_within, fm_isCell, fm_canPass hk, f1, f2, f4, eq_true c1, c2]) (by simp (disch := first | exact fd_nl_int | exact fd_nl_ref | exact fd_nl_none | assumption | exact nI_ne0 (by omega) (by omega) | exact fd_nb0 | exact fd_nb1 | exact fd_nbb | omega) only [fs_178_0, fs_178_1, fs_178_2, fs_178_4, fs_178_7, fs_178_10, fs_178_11, fs_178_12, fs_178_13, fs_178_16, fs_178_19, fs_178_21, fs_178_22, fs_178_23, fs_178_26, fs_178_27, fs_178_28_p77 hk, fs_178_31, fs_178_34, fs_178_35, fs_178_36, fs_178_39, fs_178_40_p77 hk, fs_178_43, fs_178_46, fs_178_47, fs_178_48_p77 hk, fs_178_51, fs_178_52_p77 hk, fs_178_55, fs_178_58, fs_178_59, fs_178_62, fs_178_63, Option.bind_some, Option.toList_some, Option.toList_none, List.cons_append, List.nil_append, fd_nb0, fd_nb1, fd_nbb, fd_b0, nI_add, pk_mul, ite_not, Classical.not_not, not_false_iff, not_true, and_self, or_true, true_or, ↓reduceIte, if_true, if_false, ite_self, fd_mI, fd_mH, fd_mL, fd_p0, fd_w0, fd_w1, fd_w2, fd_10, fd_00, fm_mIsShip hk, fm_mIn, fm_mIsHour, fm_mIsBook, fm_mIsCell, f3, f5, ht, eq_true c1, c2]) rfl
    · have c2 : fd_wi (nI j) (nI 0) (nI 2) := (fd_argL (by omega) (by omega)).mpr ⟨j, by omega, hj, rfl⟩
      have w1 : (nI 2 = 0) = False := eq_false (by decide)
      have w2 : (nI 2 = nI 1) = False := eq_false (by decide)
      obtain rfl | rfl | rfl : j = 0 ∨ j = 1 ∨ j = 2 := by omega
      · exact fd_ag_ro I (v := VF v) (w := VF v) (by simp (disch := first | exact fd_nl_int | exact fd_nl_ref | exact fd_nl_none | assumption | exact nI_ne0 (by omega) (by omega) | exact fd_nb0 | exact fd_nb1 | exact fd_nbb | omega) only [fs_89_0, fs_89_1, fs_89_2, fs_89_4, fs_89_7, fs_89_10, fs_89_12, fs_89_13, fs_89_14_c0, fs_89_14_c1, fs_89_14_c2, fs_89_14_out, fs_89_40, fs_89_41, fs_89_42_p0 hk, fs_89_45, fs_89_46, fs_89_47_p0 hk, fs_89_50, fs_89_51, fs_89_52, fs_89_53_p0 hk, fs_89_56, fs_89_59, fs_89_60, fs_89_63, fs_89_64, fs_89_65, fs_89_67, Option.bind_some, Option.toList_some, Option.toList_none, List.cons_append, List.nil_append, fd_nb0, fd_nb1, fd_nbb, fd_b0, nI_add, pk_mul, ite_not, Classical.not_not, not_false_iff, not_true, and_self, or_true, true_or, ↓reduceIte, if_true, if_false, ite_self, fd_mI, fd_mH, fd_mL, fd_p0, fd_w0, fd_w1, fd_w2, fd_10, fd_00, fm_isShip hk, fm_isHour, fm_isBook, fm_within, fm_isCell, fm_canPass hk, f1, f2, f4, eq_true c1, eq_true c2, v1, v2]) (by simp (disch := first | exact fd_nl_int | exact fd_nl_ref | exact fd_nl_none | assumption | exact nI_ne0 (by omega) (by omega) | exact fd_nb0 | exact fd_nb1 | exact fd_nbb | omega) only [fs_178_0, fs_178_1, fs_178_2, fs_178_4, fs_178_7, fs_178_10, fs_178_11, fs_178_12, fs_178_13, fs_178_16, fs_178_19, fs_178_21, fs_178_22, fs_178_23, fs_178_26, fs_178_27, fs_178_28_p77 hk, fs_178_31, fs_178_34, fs_178_35, fs_178_36, fs_178_39, fs_178_40_p77 hk, fs_178_43, fs_178_46, fs_178_47, fs_178_48_p77 hk, fs_178_51, fs_178_52_p77 hk, fs_178_55, fs_178_58, fs_178_59, fs_178_62, fs_178_63, Option.bind_some, Option.toList_some, Option.toList_none, List.cons_append, List.nil_append, fd_nb0, fd_nb1, fd_nbb, fd_b0, nI_add, pk_mul, ite_not, Classical.not_not, not_false_iff, not_true, and_self, or_true, true_or, ↓reduceIte, if_true, if_false, ite_self, fd_mI, fd_mH, fd_mL, fd_p0, fd_w0, fd_w1, fd_w2, fd_10, fd_00, fm_mIsShip hk, fm_mIn, fm_mIsHour, fm_mIsBook, fm_mIsCell, f3, f5, ht, eq_true c1, eq_true c2, v1, v2]) rfl
      · exact fd_ag_ro I (v := CY) (w := CY) (by simp (disch := first | exact fd_nl_int | exact fd_nl_ref | exact fd_nl_none | assumption | exact nI_ne0 (by omega) (by omega) | exact fd_nb0 | exact fd_nb1 | exact fd_nbb | omega) only [fs_89_0, fs_89_1, fs_89_2, fs_89_4, fs_89_7, fs_89_10, fs_89_12, fs_89_13, fs_89_14_c0, fs_89_14_c1, fs_89_14_c2, fs_89_14_out, fs_89_40, fs_89_41, fs_89_42_p0 hk, fs_89_45, fs_89_46, fs_89_47_p0 hk, fs_89_50, fs_89_51, fs_89_52, fs_89_53_p0 hk, fs_89_56, fs_89_59, fs_89_60, fs_89_63, fs_89_64, fs_89_65, fs_89_67, Option.bind_some, Option.toList_some, Option.toList_none, List.cons_append, List.nil_append, fd_nb0, fd_nb1, fd_nbb, fd_b0, nI_add, pk_mul, ite_not, Classical.not_not, not_false_iff, not_true, and_self, or_true, true_or, ↓reduceIte, if_true, if_false, ite_self, fd_mI, fd_mH, fd_mL, fd_p0, fd_w0, fd_w1, fd_w2, fd_10, fd_00, fm_isShip hk, fm_isHour, fm_isBook, fm_within, fm_isCell, fm_canPass hk, f1, f2, f4, eq_true c1, eq_true c2, q2, q3]) (by simp (disch := first | exact fd_nl_int | exact fd_nl_ref | exact fd_nl_none | assumption | exact nI_ne0 (by omega) (by omega) | exact fd_nb0 | exact fd_nb1 | exact fd_nbb | omega) only [fs_178_0, fs_178_1, fs_178_2, fs_178_4, fs_178_7, fs_178_10, fs_178_11, fs_178_12, fs_178_13, fs_178_16, fs_178_19, fs_178_21, fs_178_22, fs_178_23, fs_178_26, fs_178_27, fs_178_28_p77 hk, fs_178_31, fs_178_34, fs_178_35, fs_178_36, fs_178_39, fs_178_40_p77 hk, fs_178_43, fs_178_46, fs_178_47, fs_178_48_p77 hk, fs_178_51, fs_178_52_p77 hk, fs_178_55, fs_178_58, fs_178_59, fs_178_62, fs_178_63, Option.bind_some, Option.toList_some, Option.toList_none, List.cons_append, List.nil_append, fd_nb0, fd_nb1, fd_nbb, fd_b0, nI_add, pk_mul, ite_not, Classical.not_not, not_false_iff, not_true, and_self, or_true, true_or, ↓reduceIte, if_true, if_false, ite_self, fd_mI, fd_mH, fd_mL, fd_p0, fd_w0, fd_w1, fd_w2, fd_10, fd_00, fm_mIsShip hk, fm_mIn, fm_mIsHour, fm_mIsBook, fm_mIsCell, f3, f5, ht, eq_true c1, eq_true c2, q2, q3]) rfl
      · have v3 := fm_carries hk v1 q2
        refine fd_ag_ro I (v := fd_b (¬ VF v < CY)) (w := fd_b (¬ VF v < CY)) ?_ ?_ rfl
        · simp (disch := first | exact fd_nl_int | exact fd_nl_ref | exact fd_nl_none | assumption | exact nI_ne0 (by omega) (by omega) | exact fd_nb0 | exact fd_nb1 | exact fd_nbb | omega) only [fs_89_0, fs_89_1, fs_89_2, fs_89_4, fs_89_7, fs_89_10, fs_89_12, fs_89_13, fs_89_14_c0, fs_89_14_c1, fs_89_14_c2, fs_89_14_out, fs_89_40, fs_89_41, fs_89_42_p0 hk, fs_89_45, fs_89_46, fs_89_47_p0 hk, fs_89_50, fs_89_51, fs_89_52, fs_89_53_p0 hk, fs_89_56, fs_89_59, fs_89_60, fs_89_63, fs_89_64, fs_89_65, fs_89_67, Option.bind_some, Option.toList_some, Option.toList_none, List.cons_append, List.nil_append, fd_nb0, fd_nb1, fd_nbb, fd_b0, nI_add, pk_mul, ite_not, Classical.not_not, not_false_iff, not_true, and_self, or_true, true_or, ↓reduceIte, if_true, if_false, ite_self, fd_mI, fd_mH, fd_mL, fd_p0, fd_w0, fd_w1, fd_w2, fd_10, fd_00, fm_isShip hk, fm_isHour, fm_isBook, fm_within, fm_isCell, fm_canPass hk, f1, f2, f4, eq_true c1, eq_true c2, v3]
          unfold fd_b; (repeat' split) <;> simp_all
        · simp (disch := first | exact fd_nl_int | exact fd_nl_ref | exact fd_nl_none | assumption | exact nI_ne0 (by omega) (by omega) | exact fd_nb0 | exact fd_nb1 | exact fd_nbb | omega) only [fs_178_0, fs_178_1, fs_178_2, fs_178_4, fs_178_7, fs_178_10, fs_178_11, fs_178_12, fs_178_13, fs_178_16, fs_178_19, fs_178_21, fs_178_22, fs_178_23, fs_178_26, fs_178_27, fs_178_28_p77 hk, fs_178_31, fs_178_34, fs_178_35, fs_178_36, fs_178_39, fs_178_40_p77 hk, fs_178_43, fs_178_46, fs_178_47, fs_178_48_p77 hk, fs_178_51, fs_178_52_p77 hk, fs_178_55, fs_178_58, fs_178_59, fs_178_62, fs_178_63, Option.bind_some, Option.toList_some, Option.toList_none, List.cons_append, List.nil_append, fd_nb0, fd_nb1, fd_nbb, fd_b0, nI_add, pk_mul, ite_not, Classical.not_not, not_false_iff, not_true, and_self, or_true, true_or, ↓reduceIte, if_true, if_false, ite_self, fd_mI, fd_mH, fd_mL, fd_p0, fd_w0, fd_w1, fd_w2, fd_10, fd_00, fm_mIsShip hk, fm_mIn, fm_mIsHour, fm_mIsBook, fm_mIsCell, f3, f5, ht, eq_true c1, eq_true c2, v2, q3, w1, w2]
          unfold fd_b; (repeat' split) <;> simp_all
  · exact fd_ag_ro I (v := -3) (w := -3) (by simp (disch := first | exact fd_nl_int | exact fd_nl_ref | exact fd_nl_none | assumption | exact nI_ne0 (by omega) (by omega) | exact fd_nb0 | exact fd_nb1 | exact fd_nbb | omega) only [fs_89_0, fs_89_1, fs_89_2, fs_89_4, fs_89_7, fs_89_10, fs_89_12, fs_89_13, fs_89_14_c0, fs_89_14_c1, fs_89_14_c2, fs_89_14_out, fs_89_40, fs_89_41, fs_89_42_p0 hk, fs_89_45, fs_89_46, fs_89_47_p0 hk, fs_89_50, fs_89_51, fs_89_52, fs_89_53_p0 hk, fs_89_56, fs_89_59, fs_89_60, fs_89_63, fs_89_64, fs_89_65, fs_89_67, Option.bind_some, Option.toList_some, Option.toList_none, List.cons_append, List.nil_append, fd_nb0, fd_nb1, fd_nbb, fd_b0, nI_add, pk_mul, ite_not, Classical.not_not, not_false_iff, not_true, and_self, or_true, true_or, ↓reduceIte, if_true, if_false, ite_self, fd_mI, fd_mH, fd_mL, fd_p0, fd_w0, fd_w1, fd_w2, fd_10, fd_00, fm_isShip hk, fm_isHour, fm_isBook, fm_within, fm_isCell, fm_canPass hk, f1, f2, f4, c1]) (by simp (disch := first | exact fd_nl_int | exact fd_nl_ref | exact fd_nl_none | assumption | exact nI_ne0 (by omega) (by omega) | exact fd_nb0 | exact fd_nb1 | exact fd_nbb | omega) only [fs_178_0, fs_178_1, fs_178_2, fs_178_4, fs_178_7, fs_178_10, fs_178_11, fs_178_12, fs_178_13, fs_178_16, fs_178_19, fs_178_21, fs_178_22, fs_178_23, fs_178_26, fs_178_27, fs_178_28_p77 hk, fs_178_31, fs_178_34, fs_178_35, fs_178_36, fs_178_39, fs_178_40_p77 hk, fs_178_43, fs_178_46, fs_178_47, fs_178_48_p77 hk, fs_178_51, fs_178_52_p77 hk, fs_178_55, fs_178_58, fs_178_59, fs_178_62, fs_178_63, Option.bind_some, Option.toList_some, Option.toList_none, List.cons_append, List.nil_append, fd_nb0, fd_nb1, fd_nbb, fd_b0, nI_add, pk_mul, ite_not, Classical.not_not, not_false_iff, not_true, and_self, or_true, true_or, ↓reduceIte, if_true, if_false, ite_self, fd_mI, fd_mH, fd_mL, fd_p0, fd_w0, fd_w1, fd_w2, fd_10, fd_00, fm_mIsShip hk, fm_mIn, fm_mIsHour, fm_mIsBook, fm_mIsCell, f3, f5, ht, c1]) rfl
end VOTE
