/-! THE CALLS fault, articles -/
section RUNS
variable {n ns : Nat} {bt : Nat → Int32}
def fd_pRun (n : Nat) (bt : Nat → Int32) (ns : Nat) : Nat → Nat → Int32 × List fd_Art
  | 0, p => (nI (fd_tS n bt p), [])
  | m + 1, p => match fd_pArt n bt ns p with
    | .inl x => (nI x, [])
    | .inr (A, q) => if fd_tS n bt q = n then (-1, [A]) else if m = 0 then (nI (fd_tS n bt q), [A]) else if bt (fd_tS n bt q) = nI 59 then ((fd_pRun n bt ns m (fd_tE n bt q)).1, A :: (fd_pRun n bt ns m (fd_tE n bt q)).2) else (nI (fd_tS n bt q), [A])
theorem fd_pNum_le {l m : Int32} {p : Nat} (hp : p ≤ n) : (∀ x, fd_pNum n bt l m p = .inl x → x ≤ n) ∧ ∀ v q, fd_pNum n bt l m p = .inr (v, q) → q ≤ n ∧ fd_wi v l m := by
  unfold fd_pNum
  by_cases d : fd_isN n bt p l m
  · rw [if_pos d]
    exact ⟨fun x e => (by cases e), fun v q e => (by cases e; exact ⟨(fd_tE_le hp).2.1, d.2.2⟩)⟩
  · rw [if_neg d]
    exact ⟨fun x e => (by cases e; exact (fd_tS_le hp).2), fun v q e => (by cases e)⟩
theorem fd_pShip_le {p : Nat} (hp : p ≤ n) : (∀ x, fd_pShip n bt ns p = .inl x → x ≤ n) ∧ ∀ v q, fd_pShip n bt ns p = .inr (v, q) → q ≤ n := by
  unfold fd_pShip
  by_cases d : fd_isW n bt p 4
  · rw [if_pos d]
    exact ⟨fun x e => (by cases e), fun v q e => (by cases e; exact (fd_tE_le hp).2.1)⟩
  · rw [if_neg d]
    exact ⟨(fd_pNum_le hp).1, fun v q e => ((fd_pNum_le hp).2 v q e).1⟩
theorem fd_pVal_le {kd p : Nat} (hp : p ≤ n) : (∀ x, fd_pVal n bt kd p = .inl x → x ≤ n) ∧ ∀ v q, fd_pVal n bt kd p = .inr (v, q) → q ≤ n ∧ (kd = 3 ∧ v = -1 ∨ ∃ u, u ≤ 99 ∧ v = nI u) := by
  have wi : ∀ (v : Int32) (u : Nat), u ≤ 99 → fd_wi v (nI 0) (nI u) → ∃ u, u ≤ 99 ∧ v = nI u := fun v u hu z => by
    obtain ⟨s, _, s2, s3⟩ := (fd_argL (by omega) (by omega)).mp z
    exact ⟨s, by omega, s3⟩
  unfold fd_pVal fd_pBut
  by_cases c : kd = 3
  · rw [if_pos c]
    by_cases d : fd_isW n bt p 5
    · rw [if_pos d]
      have le := (fd_tE_le (bt := bt) hp).2.1
      exact ⟨(fd_pNum_le le).1, fun v q e => ⟨((fd_pNum_le le).2 v q e).1, Or.inr (wi v 5 (by omega) ((fd_pNum_le le).2 v q e).2)⟩⟩
    · rw [if_neg d]
      exact ⟨fun x e => (by cases e), fun v q e => (by cases e; exact ⟨hp, Or.inl ⟨c, rfl⟩⟩)⟩
  · rw [if_neg c]
    exact ⟨(fd_pNum_le hp).1, fun v q e => ⟨((fd_pNum_le hp).2 v q e).1, Or.inr (wi v 99 (by omega) ((fd_pNum_le hp).2 v q e).2)⟩⟩
theorem fd_pHrs_le {p : Nat} (hp : p ≤ n) : (∀ x, fd_pHrs n bt p = .inl x → x ≤ n) ∧ ∀ f t q, fd_pHrs n bt p = .inr ((f, t), q) → q ≤ n ∧ ∃ F G, F ≤ G ∧ G ≤ 3000 ∧ f = nI F ∧ t = nI G := by
  unfold fd_pHrs
  by_cases c : fd_isW n bt p 6
  · rw [if_pos c]
    have le := (fd_tE_le (bt := bt) hp).2.1
    have pn := fd_pNum_le (bt := bt) (l := nI 0) (m := nI 3000) le
    cases e1 : fd_pNum n bt (nI 0) (nI 3000) (fd_tE n bt p) with
    | inl y =>
      exact ⟨fun x e => (by cases e; exact pn.1 _ e1), fun f t q e => (by cases e)⟩
    | inr y =>
      obtain ⟨f', q'⟩ := y
      obtain ⟨q1, q2⟩ := pn.2 f' q' e1
      obtain ⟨F, _, F2, rfl⟩ := (fd_argL (by omega) (by omega)).mp q2
      dsimp only
      unfold fd_pTo
      by_cases c2 : fd_isW n bt q' 7
      · rw [if_pos c2]
        have le2 := (fd_tE_le (bt := bt) q1).2.1
        have pn2 := fd_pNum_le (bt := bt) (l := nI F) (m := nI 3000) le2
        cases e2 : fd_pNum n bt (nI F) (nI 3000) (fd_tE n bt q') with
        | inl y =>
          exact ⟨fun x e => (by cases e; exact pn2.1 _ e2), fun f t q e => (by cases e)⟩
        | inr y =>
          obtain ⟨t', r'⟩ := y
          obtain ⟨w1, w2⟩ := pn2.2 t' r' e2
          obtain ⟨G, G1, G2, rfl⟩ := (fd_argL (by omega) (by omega)).mp w2
          exact ⟨fun x e => (by cases e), fun f t q e => (by cases e; exact ⟨w1, F, G, G1, G2, rfl, rfl⟩)⟩
      · rw [if_neg c2]
        exact ⟨fun x e => (by cases e), fun f t q e => (by cases e; exact ⟨q1, F, 3000, F2, Nat.le_refl _, rfl, rfl⟩)⟩
  · rw [if_neg c]
    exact ⟨fun x e => (by cases e), fun f t q e => (by cases e; exact ⟨hp, 0, 3000, by omega, Nat.le_refl _, rfl, rfl⟩)⟩
def fd_artOk (A : fd_Art) : Prop := A.1 ≤ 3 ∧ (A.1 = 3 ∧ A.2.2.1 = -1 ∨ ∃ u, u ≤ 99 ∧ A.2.2.1 = nI u) ∧ ∃ F G, F ≤ G ∧ G ≤ 3000 ∧ A.2.2.2.1 = nI F ∧ A.2.2.2.2 = nI G
theorem fd_pBody_le {kd p : Nat} (hp : p ≤ n) : (∀ x, fd_pBody n bt ns kd p = .inl x → x ≤ n) ∧ ∀ s v q, fd_pBody n bt ns kd p = .inr ((s, v), q) → q ≤ n ∧ (kd = 3 ∧ v = -1 ∨ ∃ u, u ≤ 99 ∧ v = nI u) := by
  have wh : (∀ x, fd_pWho n bt ns kd p = .inl x → x ≤ n) ∧ ∀ v q, fd_pWho n bt ns kd p = .inr (v, q) → q ≤ n := by
    unfold fd_pWho
    by_cases c : kd = 2
    · rw [if_pos c]
      exact ⟨fun x e => (by cases e), fun v q e => (by cases e; exact hp)⟩
    · rw [if_neg c]
      exact fd_pShip_le hp
  unfold fd_pBody
  cases e1 : fd_pWho n bt ns kd p with
  | inl y => exact ⟨fun x e => (by cases e; exact wh.1 _ e1), fun s v q e => (by cases e)⟩
  | inr y =>
    obtain ⟨s', q'⟩ := y
    have q1 := wh.2 s' q' e1
    have vl := fd_pVal_le (bt := bt) (kd := kd) q1
    dsimp only
    cases e2 : fd_pVal n bt kd q' with
    | inl y => exact ⟨fun x e => (by cases e; exact vl.1 _ e2), fun s v q e => (by cases e)⟩
    | inr y =>
      obtain ⟨v', r'⟩ := y
      exact ⟨fun x e => (by cases e), fun s v q e => (by cases e; exact vl.2 _ _ e2)⟩
theorem fd_pKd_le {p : Nat} : fd_pKd n bt p ≤ 4 := by
  unfold fd_pKd
  (repeat' split) <;> omega
theorem fd_pArt_le {p : Nat} (hp : p ≤ n) : (∀ x, fd_pArt n bt ns p = .inl x → x ≤ n) ∧ ∀ A q, fd_pArt n bt ns p = .inr (A, q) → q ≤ n ∧ fd_artOk A := by
  unfold fd_pArt
  by_cases d : fd_pKd n bt p = 4
  · rw [if_pos d]
    exact ⟨fun x e => (by cases e; exact (fd_tS_le hp).2), fun A q e => (by cases e)⟩
  · rw [if_neg d]
    have k3 := fd_pKd_le (n := n) (bt := bt) (p := p)
    have bl := fd_pBody_le (bt := bt) (ns := ns) (kd := fd_pKd n bt p) (fd_tE_le (bt := bt) hp).2.1
    generalize fd_pKd n bt p = K at d k3 bl
    cases e1 : fd_pBody n bt ns K (fd_tE n bt p) with
    | inl y => exact ⟨fun x e => (by cases e; exact bl.1 _ e1), fun A q e => (by cases e)⟩
    | inr y =>
      obtain ⟨⟨s', v'⟩, q'⟩ := y
      obtain ⟨q1, q2⟩ := bl.2 s' v' q' e1
      have hl := fd_pHrs_le (bt := bt) q1
      dsimp only
      cases e2 : fd_pHrs n bt q' with
      | inl y => exact ⟨fun x e => (by cases e; exact hl.1 _ e2), fun A q e => (by cases e)⟩
      | inr y =>
        obtain ⟨⟨f', t'⟩, r'⟩ := y
        obtain ⟨r1, r2⟩ := hl.2 f' t' r' e2
        refine ⟨fun x e => (by cases e), fun A q e => ?_⟩
        cases e
        exact ⟨r1, by show K ≤ 3; omega, q2, r2⟩
theorem fd_pRun_len : ∀ m p, (fd_pRun n bt ns m p).2.length ≤ m := by
  intro m
  induction m with
  | zero => exact fun p => Nat.le_refl 0
  | succ m ih =>
    intro p
    unfold fd_pRun
    split
    · exact Nat.zero_le _
    · next A q _ =>
      split
      · exact Nat.succ_le_succ (Nat.zero_le m)
      · split
        · exact Nat.succ_le_succ (Nat.zero_le m)
        · split
          · exact Nat.succ_le_succ (ih _)
          · exact Nat.succ_le_succ (Nat.zero_le m)
theorem fd_pRun_ok : ∀ m p, p ≤ n → ∀ A, A ∈ (fd_pRun n bt ns m p).2 → fd_artOk A := by
  intro m
  induction m with
  | zero => exact fun p _ A h => (by cases h)
  | succ m ih =>
    intro p hp A hA
    have pl := fd_pArt_le (bt := bt) (ns := ns) hp
    unfold fd_pRun at hA
    cases e : fd_pArt n bt ns p with
    | inl y => rw [e] at hA; cases hA
    | inr y =>
      obtain ⟨A', q⟩ := y
      rw [e] at hA
      obtain ⟨q1, q2⟩ := pl.2 A' q e
      dsimp only at hA
      by_cases c1 : fd_tS n bt q = n
      · rw [if_pos c1] at hA
        rw [List.mem_singleton.mp hA]; exact q2
      · rw [if_neg c1] at hA
        by_cases c2 : m = 0
        · rw [if_pos c2] at hA
          rw [List.mem_singleton.mp hA]; exact q2
        · rw [if_neg c2] at hA
          by_cases c3 : bt (fd_tS n bt q) = nI 59
          · rw [if_pos c3] at hA
            rcases List.mem_cons.mp hA with z | z
            · rw [z]; exact q2
            · exact ih _ (fd_tE_le q1).2.1 A z
          · rw [if_neg c3] at hA
            rw [List.mem_singleton.mp hA]; exact q2
end RUNS
section FAULT
variable {k : fd_Sk} {h g : fd_Hp} {fb bb dr b : Nat} {n p ns : Nat} {bt : Nat → Int32}
def fd_cEnt (c i : Nat) (A : fd_Art) (h : fd_Hp) : Prop := h.1 (c + 1) i = nI A.1 ∧ h.1 (c + 2) i = A.2.1 ∧ h.1 (c + 3) i = A.2.2.1 ∧ h.1 (c + 4) i = A.2.2.2.1 ∧ h.1 (c + 5) i = A.2.2.2.2
def fd_mEnt (o : Nat) (A : fd_Art) (h : fd_Hp) : Prop := h.1 92 o = nI A.1 ∧ h.1 92 (o + 1) = A.2.1 ∧ h.1 92 (o + 2) = A.2.2.1 ∧ h.1 92 (o + 3) = A.2.2.2.1 ∧ h.1 92 (o + 4) = A.2.2.2.2
theorem fm_fltL (hk : fd_Sok k fb bb dr) {c : Nat} (hc : fd_isB c) : ∀ (m a p : Nat) (h : fd_Hp), a + (m + 1) = 10 → fd_cT n bt h → fd_CL n bt p h → h.1 41 1 = nI ns → h.1 c 0 = nI a → ∃ h', fd_E 53 21 [some (.ref (41)), some (.int (nI (ns))), some (.ref (c)), some (.int (nI (a)))] [] k h = some (some (.int ((fd_pRun n bt ns (m + 1) p).1)), (k, h')) ∧ h'.1 c 0 = nI (a + (fd_pRun n bt ns (m + 1) p).2.length) ∧ (∀ i A, (fd_pRun n bt ns (m + 1) p).2[i]? = some A → fd_cEnt c (a + i) A h') ∧ ∀ q j, ¬ (q = 41 ∧ 2 ≤ j ∧ j ≤ 8) → ¬ (q = c ∧ j = 0) → ¬ (c + 1 ≤ q ∧ q ≤ c + 5 ∧ a ≤ j) → h'.1 q j = h.1 q j := by
  have hc41 : 41 < c := by rcases hc with rfl | rfl | rfl <;> omega
  intro m
  induction m with
  | zero =>
    intro a p h ea T L hn ec
    have hl : ¬ nI 10 ≤ nI a := nI_ge (by omega) (by omega)
    have a9 : (nI a = nI 9) = True := by rw [show a = 9 by omega]; exact eq_true rfl
    unfold fd_pRun
    cases e : fd_pArt n bt ns p with
    | inl y =>
      obtain ⟨h1, r1, r2, r3⟩ := fm_art0 (c := c) hk T L hn e
      refine ⟨h1, ?_, (r3 c 0 (by omega)).trans ec, fun i A z => (by cases z), fun q j n1 n2 n3 => r3 q j n1⟩
      rw [fs_53_21]
      simp (disch := first | exact fd_nl_int | exact fd_nl_ref | exact fd_nl_none | assumption | exact nI_ne0 (by omega) (by omega) | exact fd_nb0 | exact fd_nb1 | exact fd_nbb | omega) only [fs_53_0, fs_53_1, fs_53_2_p41 hk, fs_53_5, fs_53_6, fs_53_7 hk, fs_53_10, fs_53_11, fs_53_12_p41 hk, fs_53_15, fs_53_16_p41 hk, fs_53_19, fs_53_20, fs_53_22, fs_53_24, fs_53_27, fs_53_28, fs_53_29_p41 hk, fs_53_32, fs_53_35, fs_53_36_p41 hk, fs_53_39, fs_53_40, fs_53_41_p41 hk, fs_53_44, fs_53_47, fs_53_48, fs_53_49, fs_53_50, fs_53_52, fs_53_55, fs_53_56_p41 hk, fs_53_59, fs_53_62, fs_53_63_p41 hk, fs_53_66, fs_53_67, fs_53_70, fs_53_73, fs_53_74_p41 hk, fs_53_77, Option.bind_some, Option.toList_some, Option.toList_none, List.cons_append, List.nil_append, fd_nb0, fd_nb1, fd_nbb, fd_b0, nI_add, pk_mul, ite_not, Classical.not_not, not_false_iff, not_true, and_self, or_true, true_or, ↓reduceIte, if_true, if_false, ite_self, fd_mI, fd_mH, fd_mL, fd_p0, fd_w0, fd_w1, fd_w2, fd_10, fd_00, hl, r1, r2]
    | inr y =>
      obtain ⟨⟨kd, s, v, f, t⟩, q⟩ := y
      obtain ⟨h1, r1, r2, r4, r5, r3⟩ := fm_art1 hk T L hn hc ec (by omega) e
      have T1 : fd_cT n bt h1 := fd_cT_fr T (r3 39 1 (by omega) (by omega) (by omega)) (funext fun j => r3 40 j (by omega) (by omega) (by omega))
      have ae := fm_atEnd hk T1 r2
      have fin : ∀ i A, ([(kd, s, v, f, t)] : List fd_Art)[i]? = some A → fd_cEnt c (a + i) A h1 := fun i A z => by
        cases i with
        | zero => cases z; exact r5
        | succ i => cases z
      have s2 := r2.2.1
      dsimp only
      by_cases c1 : fd_tS n bt q = n
      · rw [fd_bt c1] at ae
        rw [if_pos c1]
        refine ⟨h1, ?_, r4, fin, fun q j n1 n2 n3 => r3 q j n1 n2 (by omega)⟩
        rw [fs_53_21]
        simp (disch := first | exact fd_nl_int | exact fd_nl_ref | exact fd_nl_none | assumption | exact nI_ne0 (by omega) (by omega) | exact fd_nb0 | exact fd_nb1 | exact fd_nbb | omega) only [fs_53_0, fs_53_1, fs_53_2_p41 hk, fs_53_5, fs_53_6, fs_53_7 hk, fs_53_10, fs_53_11, fs_53_12_p41 hk, fs_53_15, fs_53_16_p41 hk, fs_53_19, fs_53_20, fs_53_22, fs_53_24, fs_53_27, fs_53_28, fs_53_29_p41 hk, fs_53_32, fs_53_35, fs_53_36_p41 hk, fs_53_39, fs_53_40, fs_53_41_p41 hk, fs_53_44, fs_53_47, fs_53_48, fs_53_49, fs_53_50, fs_53_52, fs_53_55, fs_53_56_p41 hk, fs_53_59, fs_53_62, fs_53_63_p41 hk, fs_53_66, fs_53_67, fs_53_70, fs_53_73, fs_53_74_p41 hk, fs_53_77, Option.bind_some, Option.toList_some, Option.toList_none, List.cons_append, List.nil_append, fd_nb0, fd_nb1, fd_nbb, fd_b0, nI_add, pk_mul, ite_not, Classical.not_not, not_false_iff, not_true, and_self, or_true, true_or, ↓reduceIte, if_true, if_false, ite_self, fd_mI, fd_mH, fd_mL, fd_p0, fd_w0, fd_w1, fd_w2, fd_10, fd_00, hl, r1, ae]
      · rw [fd_bf c1] at ae
        rw [if_neg c1, if_pos rfl]
        refine ⟨h1, ?_, r4, fin, fun q j n1 n2 n3 => r3 q j n1 n2 (by omega)⟩
        rw [fs_53_21]
        simp (disch := first | exact fd_nl_int | exact fd_nl_ref | exact fd_nl_none | assumption | exact nI_ne0 (by omega) (by omega) | exact fd_nb0 | exact fd_nb1 | exact fd_nbb | omega) only [fs_53_0, fs_53_1, fs_53_2_p41 hk, fs_53_5, fs_53_6, fs_53_7 hk, fs_53_10, fs_53_11, fs_53_12_p41 hk, fs_53_15, fs_53_16_p41 hk, fs_53_19, fs_53_20, fs_53_22, fs_53_24, fs_53_27, fs_53_28, fs_53_29_p41 hk, fs_53_32, fs_53_35, fs_53_36_p41 hk, fs_53_39, fs_53_40, fs_53_41_p41 hk, fs_53_44, fs_53_47, fs_53_48, fs_53_49, fs_53_50, fs_53_52, fs_53_55, fs_53_56_p41 hk, fs_53_59, fs_53_62, fs_53_63_p41 hk, fs_53_66, fs_53_67, fs_53_70, fs_53_73, fs_53_74_p41 hk, fs_53_77, Option.bind_some, Option.toList_some, Option.toList_none, List.cons_append, List.nil_append, fd_nb0, fd_nb1, fd_nbb, fd_b0, nI_add, pk_mul, ite_not, Classical.not_not, not_false_iff, not_true, and_self, or_true, true_or, ↓reduceIte, if_true, if_false, ite_self, fd_mI, fd_mH, fd_mL, fd_p0, fd_w0, fd_w1, fd_w2, fd_10, fd_00, hl, r1, ae, a9, s2]
  | succ m ih =>
    intro a p h ea T L hn ec
    have hl : ¬ nI 10 ≤ nI a := nI_ge (by omega) (by omega)
    have a9 : (nI a = nI 9) = False := eq_false (fun z => by have := fd_nIj (by omega) (by omega) z; omega)
    rw [show fd_pRun n bt ns (m + 1 + 1) p = (match fd_pArt n bt ns p with
      | .inl x => (nI x, [])
      | .inr (A, q) => if fd_tS n bt q = n then (-1, [A]) else if m + 1 = 0 then (nI (fd_tS n bt q), [A]) else if bt (fd_tS n bt q) = nI 59 then ((fd_pRun n bt ns (m + 1) (fd_tE n bt q)).1, A :: (fd_pRun n bt ns (m + 1) (fd_tE n bt q)).2) else (nI (fd_tS n bt q), [A])) from rfl]
    cases e : fd_pArt n bt ns p with
    | inl y =>
      obtain ⟨h1, r1, r2, r3⟩ := fm_art0 (c := c) hk T L hn e
      refine ⟨h1, ?_, (r3 c 0 (by omega)).trans ec, fun i A z => (by cases z), fun q j n1 n2 n3 => r3 q j n1⟩
      rw [fs_53_21]
      simp (disch := first | exact fd_nl_int | exact fd_nl_ref | exact fd_nl_none | assumption | exact nI_ne0 (by omega) (by omega) | exact fd_nb0 | exact fd_nb1 | exact fd_nbb | omega) only [fs_53_0, fs_53_1, fs_53_2_p41 hk, fs_53_5, fs_53_6, fs_53_7 hk, fs_53_10, fs_53_11, fs_53_12_p41 hk, fs_53_15, fs_53_16_p41 hk, fs_53_19, fs_53_20, fs_53_22, fs_53_24, fs_53_27, fs_53_28, fs_53_29_p41 hk, fs_53_32, fs_53_35, fs_53_36_p41 hk, fs_53_39, fs_53_40, fs_53_41_p41 hk, fs_53_44, fs_53_47, fs_53_48, fs_53_49, fs_53_50, fs_53_52, fs_53_55, fs_53_56_p41 hk, fs_53_59, fs_53_62, fs_53_63_p41 hk, fs_53_66, fs_53_67, fs_53_70, fs_53_73, fs_53_74_p41 hk, fs_53_77, Option.bind_some, Option.toList_some, Option.toList_none, List.cons_append, List.nil_append, fd_nb0, fd_nb1, fd_nbb, fd_b0, nI_add, pk_mul, ite_not, Classical.not_not, not_false_iff, not_true, and_self, or_true, true_or, ↓reduceIte, if_true, if_false, ite_self, fd_mI, fd_mH, fd_mL, fd_p0, fd_w0, fd_w1, fd_w2, fd_10, fd_00, hl, r1, r2]
    | inr y =>
      obtain ⟨⟨kd, s, v, f, t⟩, q⟩ := y
      obtain ⟨h1, r1, r2, r4, r5, r3⟩ := fm_art1 hk T L hn hc ec (by omega) e
      have T1 : fd_cT n bt h1 := fd_cT_fr T (r3 39 1 (by omega) (by omega) (by omega)) (funext fun j => r3 40 j (by omega) (by omega) (by omega))
      have ae := fm_atEnd hk T1 r2
      have fin : ∀ i A, ([(kd, s, v, f, t)] : List fd_Art)[i]? = some A → fd_cEnt c (a + i) A h1 := fun i A z => by
        cases i with
        | zero => cases z; exact r5
        | succ i => cases z
      have s2 := r2.2.1
      dsimp only
      by_cases c1 : fd_tS n bt q = n
      · rw [fd_bt c1] at ae
        rw [if_pos c1]
        refine ⟨h1, ?_, r4, fin, fun q j n1 n2 n3 => r3 q j n1 n2 (by omega)⟩
        rw [fs_53_21]
        simp (disch := first | exact fd_nl_int | exact fd_nl_ref | exact fd_nl_none | assumption | exact nI_ne0 (by omega) (by omega) | exact fd_nb0 | exact fd_nb1 | exact fd_nbb | omega) only [fs_53_0, fs_53_1, fs_53_2_p41 hk, fs_53_5, fs_53_6, fs_53_7 hk, fs_53_10, fs_53_11, fs_53_12_p41 hk, fs_53_15, fs_53_16_p41 hk, fs_53_19, fs_53_20, fs_53_22, fs_53_24, fs_53_27, fs_53_28, fs_53_29_p41 hk, fs_53_32, fs_53_35, fs_53_36_p41 hk, fs_53_39, fs_53_40, fs_53_41_p41 hk, fs_53_44, fs_53_47, fs_53_48, fs_53_49, fs_53_50, fs_53_52, fs_53_55, fs_53_56_p41 hk, fs_53_59, fs_53_62, fs_53_63_p41 hk, fs_53_66, fs_53_67, fs_53_70, fs_53_73, fs_53_74_p41 hk, fs_53_77, Option.bind_some, Option.toList_some, Option.toList_none, List.cons_append, List.nil_append, fd_nb0, fd_nb1, fd_nbb, fd_b0, nI_add, pk_mul, ite_not, Classical.not_not, not_false_iff, not_true, and_self, or_true, true_or, ↓reduceIte, if_true, if_false, ite_self, fd_mI, fd_mH, fd_mL, fd_p0, fd_w0, fd_w1, fd_w2, fd_10, fd_00, hl, r1, ae]
      · rw [fd_bf c1] at ae
        have hs : fd_tS n bt q < n := by have := fd_tS_le (bt := bt) r2.1; omega
        rw [if_neg c1, if_neg (by omega : ¬ m + 1 = 0)]
        by_cases c3 : bt (fd_tS n bt q) = nI 59
        · rw [if_pos c3]
          obtain ⟨h2, u1, u2, u3⟩ := fm_semiY hk T1 r2 hs c3
          have T2 : fd_cT n bt h2 := fd_cT_f T1 (fun q j hn => u3 q j (by omega))
          obtain ⟨h3, w1, w2, w3, w4⟩ := ih (a + 1) (fd_tE n bt q) h2 (by omega) T2 u2 ((u3 41 1 (by omega)).trans ((r3 41 1 (by omega) (by omega) (by omega)).trans hn)) ((u3 c 0 (by omega)).trans r4)
          refine ⟨h3, ?_, ?_, fun i A z => ?_, fun q j n1 n2 n3 => ?_⟩
          · rw [fs_53_21]
            simp (disch := first | exact fd_nl_int | exact fd_nl_ref | exact fd_nl_none | assumption | exact nI_ne0 (by omega) (by omega) | exact fd_nb0 | exact fd_nb1 | exact fd_nbb | omega) only [fs_53_0, fs_53_1, fs_53_2_p41 hk, fs_53_5, fs_53_6, fs_53_7 hk, fs_53_10, fs_53_11, fs_53_12_p41 hk, fs_53_15, fs_53_16_p41 hk, fs_53_19, fs_53_20, fs_53_22, fs_53_24, fs_53_27, fs_53_28, fs_53_29_p41 hk, fs_53_32, fs_53_35, fs_53_36_p41 hk, fs_53_39, fs_53_40, fs_53_41_p41 hk, fs_53_44, fs_53_47, fs_53_48, fs_53_49, fs_53_50, fs_53_52, fs_53_55, fs_53_56_p41 hk, fs_53_59, fs_53_62, fs_53_63_p41 hk, fs_53_66, fs_53_67, fs_53_70, fs_53_73, fs_53_74_p41 hk, fs_53_77, Option.bind_some, Option.toList_some, Option.toList_none, List.cons_append, List.nil_append, fd_nb0, fd_nb1, fd_nbb, fd_b0, nI_add, pk_mul, ite_not, Classical.not_not, not_false_iff, not_true, and_self, or_true, true_or, ↓reduceIte, if_true, if_false, ite_self, fd_mI, fd_mH, fd_mL, fd_p0, fd_w0, fd_w1, fd_w2, fd_10, fd_00, hl, r1, ae, a9, u1, w1]
          · rw [w2, List.length_cons]
            exact congrArg nI (by omega)
          · cases i with
            | zero =>
              cases z
              have st : ∀ x j, c + 1 ≤ x → j = a → h3.1 x j = h1.1 x j := fun x j h1 h2 => (w4 x j (by omega) (by omega) (by omega)).trans (u3 x j (by omega))
              show h3.1 (c + 1) a = nI kd ∧ h3.1 (c + 2) a = s ∧ h3.1 (c + 3) a = v ∧ h3.1 (c + 4) a = f ∧ h3.1 (c + 5) a = t
              rw [st (c + 1) a (by omega) rfl, st (c + 2) a (by omega) rfl, st (c + 3) a (by omega) rfl, st (c + 4) a (by omega) rfl, st (c + 5) a (by omega) rfl]
              exact r5
            | succ i =>
              have := w3 i A z
              rw [show a + (i + 1) = a + 1 + i by omega]
              exact this
          · rw [w4 q j n1 n2 (by omega), u3 q j (by omega), r3 q j n1 n2 (by omega)]
        · rw [if_neg c3]
          have u1 := fm_semiN hk T1 r2 hs c3
          refine ⟨h1, ?_, r4, fin, fun q j n1 n2 n3 => r3 q j n1 n2 (by omega)⟩
          rw [fs_53_21]
          simp (disch := first | exact fd_nl_int | exact fd_nl_ref | exact fd_nl_none | assumption | exact nI_ne0 (by omega) (by omega) | exact fd_nb0 | exact fd_nb1 | exact fd_nbb | omega) only [fs_53_0, fs_53_1, fs_53_2_p41 hk, fs_53_5, fs_53_6, fs_53_7 hk, fs_53_10, fs_53_11, fs_53_12_p41 hk, fs_53_15, fs_53_16_p41 hk, fs_53_19, fs_53_20, fs_53_22, fs_53_24, fs_53_27, fs_53_28, fs_53_29_p41 hk, fs_53_32, fs_53_35, fs_53_36_p41 hk, fs_53_39, fs_53_40, fs_53_41_p41 hk, fs_53_44, fs_53_47, fs_53_48, fs_53_49, fs_53_50, fs_53_52, fs_53_55, fs_53_56_p41 hk, fs_53_59, fs_53_62, fs_53_63_p41 hk, fs_53_66, fs_53_67, fs_53_70, fs_53_73, fs_53_74_p41 hk, fs_53_77, Option.bind_some, Option.toList_some, Option.toList_none, List.cons_append, List.nil_append, fd_nb0, fd_nb1, fd_nbb, fd_b0, nI_add, pk_mul, ite_not, Classical.not_not, not_false_iff, not_true, and_self, or_true, true_or, ↓reduceIte, if_true, if_false, ite_self, fd_mI, fd_mH, fd_mL, fd_p0, fd_w0, fd_w1, fd_w2, fd_10, fd_00, hl, r1, ae, a9, u1, s2]
theorem fm_faultOf (hk : fd_Sok k fb bb dr) {c : Nat} (hc : fd_isB c) (T : fd_cT n bt h) : ∃ h', fd_E 53 0 [some (.ref (41)), some (.int (nI (ns))), some (.ref (c)), none] [] k h = some (some (.int ((fd_pRun n bt ns 10 0).1)), (k, h')) ∧ h'.1 c 0 = nI (fd_pRun n bt ns 10 0).2.length ∧ (∀ i A, (fd_pRun n bt ns 10 0).2[i]? = some A → fd_cEnt c i A h') ∧ ∀ q j, ¬ (q = 41 ∧ 1 ≤ j ∧ j ≤ 8) → ¬ (c ≤ q ∧ q ≤ c + 5) → h'.1 q j = h.1 q j := by
  have hc41 : 41 < c := by rcases hc with rfl | rfl | rfl <;> omega
  have T0 : fd_cT n bt (fd_w (fd_w (fd_w h 41 1 (nI ns)) c 0 (nI 0)) 41 3 (nI 0)) := fd_cT_fr T ((fd_w1 (by omega)).trans ((fd_w1 (by omega)).trans (fd_w1 (by omega)))) ((fd_wp (by omega)).trans ((fd_wp (by omega)).trans (fd_wp (by omega))))
  obtain ⟨h1, r1, r2, r3⟩ := fm_next (p := 0) hk T0 (Nat.zero_le _) fd_w0
  have T1 : fd_cT n bt h1 := fd_cT_f T0 (fun q j hn => r3 q j (by omega))
  obtain ⟨h2, s1, s2, s3, s4⟩ := fm_fltL (ns := ns) hk hc 9 0 0 h1 (by omega) T1 r2 ((r3 41 1 (by omega)).trans ((fd_w2 (by decide)).trans ((fd_w1 (by omega)).trans fd_w0))) ((r3 c 0 (by omega)).trans ((fd_w1 (by omega)).trans fd_w0))
  rw [Nat.zero_add] at s2
  refine ⟨h2, ?_, s2, fun i A z => ?_, fun q j n1 n2 => ?_⟩
  · have st : fd_E 53 0 [some (.ref (41)), some (.int (nI (ns))), some (.ref (c)), none] [] k h = fd_E 53 21 [some (.ref (41)), some (.int (nI (ns))), some (.ref (c)), some (.int (nI (0)))] [] k h1 := by
      simp (disch := first | exact fd_nl_int | exact fd_nl_ref | exact fd_nl_none | assumption | exact nI_ne0 (by omega) (by omega) | exact fd_nb0 | exact fd_nb1 | exact fd_nbb | omega) only [fs_53_0, fs_53_1, fs_53_2_p41 hk, fs_53_5, fs_53_6, fs_53_7 hk, fs_53_10, fs_53_11, fs_53_12_p41 hk, fs_53_15, fs_53_16_p41 hk, fs_53_19, fs_53_20, fs_53_22, fs_53_24, fs_53_27, fs_53_28, fs_53_29_p41 hk, fs_53_32, fs_53_35, fs_53_36_p41 hk, fs_53_39, fs_53_40, fs_53_41_p41 hk, fs_53_44, fs_53_47, fs_53_48, fs_53_49, fs_53_50, fs_53_52, fs_53_55, fs_53_56_p41 hk, fs_53_59, fs_53_62, fs_53_63_p41 hk, fs_53_66, fs_53_67, fs_53_70, fs_53_73, fs_53_74_p41 hk, fs_53_77, Option.bind_some, Option.toList_some, Option.toList_none, List.cons_append, List.nil_append, fd_nb0, fd_nb1, fd_nbb, fd_b0, nI_add, pk_mul, ite_not, Classical.not_not, not_false_iff, not_true, and_self, or_true, true_or, ↓reduceIte, if_true, if_false, ite_self, fd_mI, fd_mH, fd_mL, fd_p0, fd_w0, fd_w1, fd_w2, fd_10, fd_00, r1]
    exact st.trans s1
  · have := s3 i A z
    rw [Nat.zero_add] at this
    exact this
  · rw [s4 q j (by omega) (by omega) (by omega), r3 q j (by omega)]
    exact (if_neg (by omega)).trans ((if_neg (by omega)).trans (if_neg (by omega)))
theorem fm_readL (hk : fd_Sok k fb bb dr) : ∀ (m a p : Nat) (h : fd_Hp), a + (m + 1) = 10 → fd_mT n bt h → p ≤ n → h.1 77 24 = nI p → h.1 77 5 = nI ns → h.1 77 30 = nI a → ∃ h' R, fd_E 162 12 [some (.ref (77)), some (.int (nI (1)))] [] k h = some (some (.int (R)), (k, h')) ∧ (R = nI 1 ∧ (fd_pRun n bt ns (m + 1) p).1 = -1 ∨ R = nI 0 ∧ h'.1 77 29 = (fd_pRun n bt ns (m + 1) p).1 ∧ ¬ (fd_pRun n bt ns (m + 1) p).1 = -1) ∧ h'.1 77 30 = nI (a + (fd_pRun n bt ns (m + 1) p).2.length) ∧ (∀ i A, (fd_pRun n bt ns (m + 1) p).2[i]? = some A → fd_mEnt (5 * (a + i)) A h') ∧ ∀ q j, ¬ (q = 77 ∧ 24 ≤ j ∧ j ≤ 30) → ¬ (q = 92 ∧ 5 * a ≤ j) → h'.1 q j = h.1 q j := by
  have n10 : ¬ nI 1 = 0 := by decide
  intro m
  induction m with
  | zero =>
    intro a p h ea T hp e24 hn e30
    have n200 := T.1
    obtain ⟨h0, x1, x2, x3⟩ := fm_mNext hk T hp e24
    have T0 : fd_mT n bt h0 := fd_mT_f T (fun q j n1 n2 => x3 q j (by omega))
    have hn0 : h0.1 77 5 = nI ns := (x3 77 5 (by omega)).trans hn
    have e30' : h0.1 77 30 = nI a := (x3 77 30 (by omega)).trans e30
    obtain ⟨A0, A1⟩ := fm_mArt (a := 5 * a) hk T0 x2 hn0 (by omega)
    have pl := fd_pArt_le (bt := bt) (ns := ns) hp
    have hl : nI 10 ≤ nI (a + 1) := nI_le (by omega) (by omega)
    unfold fd_pRun
    cases e : fd_pArt n bt ns p with
    | inl y =>
      obtain ⟨h1, r1, r2, r3⟩ := A0 y e
      have := pl.1 y e
      refine ⟨h1, nI 0, ?_, Or.inr ⟨rfl, r2, fd_nm1 (by omega)⟩, (r3 77 30 (by omega) (by omega)).trans e30', fun i A z => (by cases z), fun q j n1 n2 => (r3 q j (by omega) (by omega)).trans (x3 q j (by omega))⟩
      rw [fs_162_12]
      simp (disch := first | exact fd_nl_int | exact fd_nl_ref | exact fd_nl_none | assumption | exact nI_ne0 (by omega) (by omega) | exact fd_nb0 | exact fd_nb1 | exact fd_nbb | omega) only [fs_162_0, fs_162_1, fs_162_2_p77 hk, fs_162_5, fs_162_6, fs_162_7_p77 hk, fs_162_10, fs_162_11, fs_162_13, fs_162_16, fs_162_17_p77 hk, fs_162_20, fs_162_21, fs_162_22, fs_162_23_p77 hk, fs_162_26, fs_162_27_p77 hk, fs_162_30, fs_162_33, fs_162_34, fs_162_35, fs_162_36, fs_162_37_p77 hk, fs_162_40, fs_162_41, fs_162_42_p77 hk, fs_162_45, fs_162_46_p77 hk, fs_162_49, fs_162_52, fs_162_53, fs_162_56, fs_162_57_p77 hk, fs_162_60, fs_162_62, fs_162_65, fs_162_66, fs_162_69, fs_162_70, fs_162_71, fs_162_74, fs_162_75_p77 hk, fs_162_78, fs_162_81, fs_162_82, fs_162_85, fs_162_86_p77 hk, fs_162_89, fs_162_92, fs_162_93, fs_162_96, fs_162_97, Option.bind_some, Option.toList_some, Option.toList_none, List.cons_append, List.nil_append, fd_nb0, fd_nb1, fd_nbb, fd_b0, nI_add, pk_mul, ite_not, Classical.not_not, not_false_iff, not_true, and_self, or_true, true_or, ↓reduceIte, if_true, if_false, ite_self, fd_mI, fd_mH, fd_mL, fd_p0, fd_w0, fd_w1, fd_w2, fd_10, fd_00, n10, x1, e30', r1]
    | inr y =>
      obtain ⟨⟨kd, s, v, f, t⟩, q⟩ := y
      obtain ⟨h1, r1, r2, r5, r3⟩ := A1 kd s v f t q e
      have f30 : h1.1 77 30 = nI a := (r3 77 30 (by omega) (by omega)).trans e30'
      have tk := r2.2.2.2.1
      have k2 : (lg_cmp (fd_tk n bt q) (-2) = 0) = (fd_tS n bt q = n) := propext ((lg_cmp_eq _ _).trans (fd_tk_E r2.1))
      have k3 : (lg_cmp (fd_tk n bt q) (-3) = 0) = (fd_tS n bt q < n ∧ bt (fd_tS n bt q) = nI 59) := propext ((lg_cmp_eq _ _).trans (fd_tk_S r2.1))
      have ls := fd_tS_le (bt := bt) r2.1
      have L2 : fd_ML n bt q (fd_w h1 77 30 (nI (a + 1))) := fd_ML_fr r2 rfl (fun j j1 j2 => fd_w2 (by omega))
      have ff := fm_mFails hk L2
      have ent : ∀ h' : fd_Hp, (∀ j, h'.1 92 j = h1.1 92 j) → ∀ i A, ([(kd, s, v, f, t)] : List fd_Art)[i]? = some A → fd_mEnt (5 * (a + i)) A h' := fun h' hh i A z => by
        cases i with
        | zero =>
          cases z
          unfold fd_mEnt
          rw [Nat.add_zero, hh, hh, hh, hh, hh]
          exact r5
        | succ i => cases z
      dsimp only
      by_cases c1 : fd_tS n bt q = n
      · have k2' := k2.trans (eq_true c1)
        have k3' := k3.trans (eq_false (fun z => by omega))
        rw [if_pos c1]
        refine ⟨fd_w h1 77 30 (nI (a + 1)), nI 1, ?_, Or.inl ⟨rfl, rfl⟩, fd_w0, ent _ (fun j => fd_w1 (by decide)), fun q j n1 n2 => (if_neg (by omega)).trans ((r3 q j (by omega) (by omega)).trans (x3 q j (by omega)))⟩
        rw [fs_162_12]
        simp (disch := first | exact fd_nl_int | exact fd_nl_ref | exact fd_nl_none | assumption | exact nI_ne0 (by omega) (by omega) | exact fd_nb0 | exact fd_nb1 | exact fd_nbb | omega) only [fs_162_0, fs_162_1, fs_162_2_p77 hk, fs_162_5, fs_162_6, fs_162_7_p77 hk, fs_162_10, fs_162_11, fs_162_13, fs_162_16, fs_162_17_p77 hk, fs_162_20, fs_162_21, fs_162_22, fs_162_23_p77 hk, fs_162_26, fs_162_27_p77 hk, fs_162_30, fs_162_33, fs_162_34, fs_162_35, fs_162_36, fs_162_37_p77 hk, fs_162_40, fs_162_41, fs_162_42_p77 hk, fs_162_45, fs_162_46_p77 hk, fs_162_49, fs_162_52, fs_162_53, fs_162_56, fs_162_57_p77 hk, fs_162_60, fs_162_62, fs_162_65, fs_162_66, fs_162_69, fs_162_70, fs_162_71, fs_162_74, fs_162_75_p77 hk, fs_162_78, fs_162_81, fs_162_82, fs_162_85, fs_162_86_p77 hk, fs_162_89, fs_162_92, fs_162_93, fs_162_96, fs_162_97, Option.bind_some, Option.toList_some, Option.toList_none, List.cons_append, List.nil_append, fd_nb0, fd_nb1, fd_nbb, fd_b0, nI_add, pk_mul, ite_not, Classical.not_not, not_false_iff, not_true, and_self, or_true, true_or, ↓reduceIte, if_true, if_false, ite_self, fd_mI, fd_mH, fd_mL, fd_p0, fd_w0, fd_w1, fd_w2, fd_10, fd_00, n10, x1, e30', r1, f30, fd_w_2, tk, k3']
        rw [fs_162_12]
        simp (disch := first | exact fd_nl_int | exact fd_nl_ref | exact fd_nl_none | assumption | exact nI_ne0 (by omega) (by omega) | exact fd_nb0 | exact fd_nb1 | exact fd_nbb | omega) only [fs_162_0, fs_162_1, fs_162_2_p77 hk, fs_162_5, fs_162_6, fs_162_7_p77 hk, fs_162_10, fs_162_11, fs_162_13, fs_162_16, fs_162_17_p77 hk, fs_162_20, fs_162_21, fs_162_22, fs_162_23_p77 hk, fs_162_26, fs_162_27_p77 hk, fs_162_30, fs_162_33, fs_162_34, fs_162_35, fs_162_36, fs_162_37_p77 hk, fs_162_40, fs_162_41, fs_162_42_p77 hk, fs_162_45, fs_162_46_p77 hk, fs_162_49, fs_162_52, fs_162_53, fs_162_56, fs_162_57_p77 hk, fs_162_60, fs_162_62, fs_162_65, fs_162_66, fs_162_69, fs_162_70, fs_162_71, fs_162_74, fs_162_75_p77 hk, fs_162_78, fs_162_81, fs_162_82, fs_162_85, fs_162_86_p77 hk, fs_162_89, fs_162_92, fs_162_93, fs_162_96, fs_162_97, Option.bind_some, Option.toList_some, Option.toList_none, List.cons_append, List.nil_append, fd_nb0, fd_nb1, fd_nbb, fd_b0, nI_add, pk_mul, ite_not, Classical.not_not, not_false_iff, not_true, and_self, or_true, true_or, ↓reduceIte, if_true, if_false, ite_self, fd_mI, fd_mH, fd_mL, fd_p0, fd_w0, fd_w1, fd_w2, fd_10, fd_00, fd_w_2, tk, k2']
      · have k2' := k2.trans (eq_false c1)
        rw [if_neg c1, if_pos rfl]
        refine ⟨fd_w (fd_w h1 77 30 (nI (a + 1))) 77 29 (nI (fd_tS n bt q)), nI 0, ?_, Or.inr ⟨rfl, fd_w0, fd_nm1 (by omega)⟩, (fd_w2 (by decide)).trans fd_w0, ent _ (fun j => (fd_w1 (by decide)).trans (fd_w1 (by decide))), fun q j n1 n2 => (if_neg (by omega)).trans ((if_neg (by omega)).trans ((r3 q j (by omega) (by omega)).trans (x3 q j (by omega))))⟩
        by_cases c3 : fd_tS n bt q < n ∧ bt (fd_tS n bt q) = nI 59
        · have k3' := k3.trans (eq_true c3)
          rw [fs_162_12]
          simp (disch := first | exact fd_nl_int | exact fd_nl_ref | exact fd_nl_none | assumption | exact nI_ne0 (by omega) (by omega) | exact fd_nb0 | exact fd_nb1 | exact fd_nbb | omega) only [fs_162_0, fs_162_1, fs_162_2_p77 hk, fs_162_5, fs_162_6, fs_162_7_p77 hk, fs_162_10, fs_162_11, fs_162_13, fs_162_16, fs_162_17_p77 hk, fs_162_20, fs_162_21, fs_162_22, fs_162_23_p77 hk, fs_162_26, fs_162_27_p77 hk, fs_162_30, fs_162_33, fs_162_34, fs_162_35, fs_162_36, fs_162_37_p77 hk, fs_162_40, fs_162_41, fs_162_42_p77 hk, fs_162_45, fs_162_46_p77 hk, fs_162_49, fs_162_52, fs_162_53, fs_162_56, fs_162_57_p77 hk, fs_162_60, fs_162_62, fs_162_65, fs_162_66, fs_162_69, fs_162_70, fs_162_71, fs_162_74, fs_162_75_p77 hk, fs_162_78, fs_162_81, fs_162_82, fs_162_85, fs_162_86_p77 hk, fs_162_89, fs_162_92, fs_162_93, fs_162_96, fs_162_97, Option.bind_some, Option.toList_some, Option.toList_none, List.cons_append, List.nil_append, fd_nb0, fd_nb1, fd_nbb, fd_b0, nI_add, pk_mul, ite_not, Classical.not_not, not_false_iff, not_true, and_self, or_true, true_or, ↓reduceIte, if_true, if_false, ite_self, fd_mI, fd_mH, fd_mL, fd_p0, fd_w0, fd_w1, fd_w2, fd_10, fd_00, n10, x1, e30', r1, f30, fd_w_2, tk, k3', hl]
          rw [fs_162_12]
          simp (disch := first | exact fd_nl_int | exact fd_nl_ref | exact fd_nl_none | assumption | exact nI_ne0 (by omega) (by omega) | exact fd_nb0 | exact fd_nb1 | exact fd_nbb | omega) only [fs_162_0, fs_162_1, fs_162_2_p77 hk, fs_162_5, fs_162_6, fs_162_7_p77 hk, fs_162_10, fs_162_11, fs_162_13, fs_162_16, fs_162_17_p77 hk, fs_162_20, fs_162_21, fs_162_22, fs_162_23_p77 hk, fs_162_26, fs_162_27_p77 hk, fs_162_30, fs_162_33, fs_162_34, fs_162_35, fs_162_36, fs_162_37_p77 hk, fs_162_40, fs_162_41, fs_162_42_p77 hk, fs_162_45, fs_162_46_p77 hk, fs_162_49, fs_162_52, fs_162_53, fs_162_56, fs_162_57_p77 hk, fs_162_60, fs_162_62, fs_162_65, fs_162_66, fs_162_69, fs_162_70, fs_162_71, fs_162_74, fs_162_75_p77 hk, fs_162_78, fs_162_81, fs_162_82, fs_162_85, fs_162_86_p77 hk, fs_162_89, fs_162_92, fs_162_93, fs_162_96, fs_162_97, Option.bind_some, Option.toList_some, Option.toList_none, List.cons_append, List.nil_append, fd_nb0, fd_nb1, fd_nbb, fd_b0, nI_add, pk_mul, ite_not, Classical.not_not, not_false_iff, not_true, and_self, or_true, true_or, ↓reduceIte, if_true, if_false, ite_self, fd_mI, fd_mH, fd_mL, fd_p0, fd_w0, fd_w1, fd_w2, fd_10, fd_00, fd_w_2, tk, k2', ff]
        · have k3' := k3.trans (eq_false c3)
          rw [fs_162_12]
          simp (disch := first | exact fd_nl_int | exact fd_nl_ref | exact fd_nl_none | assumption | exact nI_ne0 (by omega) (by omega) | exact fd_nb0 | exact fd_nb1 | exact fd_nbb | omega) only [fs_162_0, fs_162_1, fs_162_2_p77 hk, fs_162_5, fs_162_6, fs_162_7_p77 hk, fs_162_10, fs_162_11, fs_162_13, fs_162_16, fs_162_17_p77 hk, fs_162_20, fs_162_21, fs_162_22, fs_162_23_p77 hk, fs_162_26, fs_162_27_p77 hk, fs_162_30, fs_162_33, fs_162_34, fs_162_35, fs_162_36, fs_162_37_p77 hk, fs_162_40, fs_162_41, fs_162_42_p77 hk, fs_162_45, fs_162_46_p77 hk, fs_162_49, fs_162_52, fs_162_53, fs_162_56, fs_162_57_p77 hk, fs_162_60, fs_162_62, fs_162_65, fs_162_66, fs_162_69, fs_162_70, fs_162_71, fs_162_74, fs_162_75_p77 hk, fs_162_78, fs_162_81, fs_162_82, fs_162_85, fs_162_86_p77 hk, fs_162_89, fs_162_92, fs_162_93, fs_162_96, fs_162_97, Option.bind_some, Option.toList_some, Option.toList_none, List.cons_append, List.nil_append, fd_nb0, fd_nb1, fd_nbb, fd_b0, nI_add, pk_mul, ite_not, Classical.not_not, not_false_iff, not_true, and_self, or_true, true_or, ↓reduceIte, if_true, if_false, ite_self, fd_mI, fd_mH, fd_mL, fd_p0, fd_w0, fd_w1, fd_w2, fd_10, fd_00, n10, x1, e30', r1, f30, fd_w_2, tk, k3']
          rw [fs_162_12]
          simp (disch := first | exact fd_nl_int | exact fd_nl_ref | exact fd_nl_none | assumption | exact nI_ne0 (by omega) (by omega) | exact fd_nb0 | exact fd_nb1 | exact fd_nbb | omega) only [fs_162_0, fs_162_1, fs_162_2_p77 hk, fs_162_5, fs_162_6, fs_162_7_p77 hk, fs_162_10, fs_162_11, fs_162_13, fs_162_16, fs_162_17_p77 hk, fs_162_20, fs_162_21, fs_162_22, fs_162_23_p77 hk, fs_162_26, fs_162_27_p77 hk, fs_162_30, fs_162_33, fs_162_34, fs_162_35, fs_162_36, fs_162_37_p77 hk, fs_162_40, fs_162_41, fs_162_42_p77 hk, fs_162_45, fs_162_46_p77 hk, fs_162_49, fs_162_52, fs_162_53, fs_162_56, fs_162_57_p77 hk, fs_162_60, fs_162_62, fs_162_65, fs_162_66, fs_162_69, fs_162_70, fs_162_71, fs_162_74, fs_162_75_p77 hk, fs_162_78, fs_162_81, fs_162_82, fs_162_85, fs_162_86_p77 hk, fs_162_89, fs_162_92, fs_162_93, fs_162_96, fs_162_97, Option.bind_some, Option.toList_some, Option.toList_none, List.cons_append, List.nil_append, fd_nb0, fd_nb1, fd_nbb, fd_b0, nI_add, pk_mul, ite_not, Classical.not_not, not_false_iff, not_true, and_self, or_true, true_or, ↓reduceIte, if_true, if_false, ite_self, fd_mI, fd_mH, fd_mL, fd_p0, fd_w0, fd_w1, fd_w2, fd_10, fd_00, fd_w_2, tk, k2', ff]
  | succ m ih =>
    intro a p h ea T hp e24 hn e30
    have n200 := T.1
    obtain ⟨h0, x1, x2, x3⟩ := fm_mNext hk T hp e24
    have T0 : fd_mT n bt h0 := fd_mT_f T (fun q j n1 n2 => x3 q j (by omega))
    have hn0 : h0.1 77 5 = nI ns := (x3 77 5 (by omega)).trans hn
    have e30' : h0.1 77 30 = nI a := (x3 77 30 (by omega)).trans e30
    obtain ⟨A0, A1⟩ := fm_mArt (a := 5 * a) hk T0 x2 hn0 (by omega)
    have pl := fd_pArt_le (bt := bt) (ns := ns) hp
    have hl : ¬ nI 10 ≤ nI (a + 1) := nI_ge (by omega) (by omega)
    rw [show fd_pRun n bt ns (m + 1 + 1) p = (match fd_pArt n bt ns p with
      | .inl x => (nI x, [])
      | .inr (A, q) => if fd_tS n bt q = n then (-1, [A]) else if m + 1 = 0 then (nI (fd_tS n bt q), [A]) else if bt (fd_tS n bt q) = nI 59 then ((fd_pRun n bt ns (m + 1) (fd_tE n bt q)).1, A :: (fd_pRun n bt ns (m + 1) (fd_tE n bt q)).2) else (nI (fd_tS n bt q), [A])) from rfl]
    cases e : fd_pArt n bt ns p with
    | inl y =>
      obtain ⟨h1, r1, r2, r3⟩ := A0 y e
      have := pl.1 y e
      refine ⟨h1, nI 0, ?_, Or.inr ⟨rfl, r2, fd_nm1 (by omega)⟩, (r3 77 30 (by omega) (by omega)).trans e30', fun i A z => (by cases z), fun q j n1 n2 => (r3 q j (by omega) (by omega)).trans (x3 q j (by omega))⟩
      rw [fs_162_12]
      simp (disch := first | exact fd_nl_int | exact fd_nl_ref | exact fd_nl_none | assumption | exact nI_ne0 (by omega) (by omega) | exact fd_nb0 | exact fd_nb1 | exact fd_nbb | omega) only [fs_162_0, fs_162_1, fs_162_2_p77 hk, fs_162_5, fs_162_6, fs_162_7_p77 hk, fs_162_10, fs_162_11, fs_162_13, fs_162_16, fs_162_17_p77 hk, fs_162_20, fs_162_21, fs_162_22, fs_162_23_p77 hk, fs_162_26, fs_162_27_p77 hk, fs_162_30, fs_162_33, fs_162_34, fs_162_35, fs_162_36, fs_162_37_p77 hk, fs_162_40, fs_162_41, fs_162_42_p77 hk, fs_162_45, fs_162_46_p77 hk, fs_162_49, fs_162_52, fs_162_53, fs_162_56, fs_162_57_p77 hk, fs_162_60, fs_162_62, fs_162_65, fs_162_66, fs_162_69, fs_162_70, fs_162_71, fs_162_74, fs_162_75_p77 hk, fs_162_78, fs_162_81, fs_162_82, fs_162_85, fs_162_86_p77 hk, fs_162_89, fs_162_92, fs_162_93, fs_162_96, fs_162_97, Option.bind_some, Option.toList_some, Option.toList_none, List.cons_append, List.nil_append, fd_nb0, fd_nb1, fd_nbb, fd_b0, nI_add, pk_mul, ite_not, Classical.not_not, not_false_iff, not_true, and_self, or_true, true_or, ↓reduceIte, if_true, if_false, ite_self, fd_mI, fd_mH, fd_mL, fd_p0, fd_w0, fd_w1, fd_w2, fd_10, fd_00, n10, x1, e30', r1]
    | inr y =>
      obtain ⟨⟨kd, s, v, f, t⟩, q⟩ := y
      obtain ⟨h1, r1, r2, r5, r3⟩ := A1 kd s v f t q e
      have f30 : h1.1 77 30 = nI a := (r3 77 30 (by omega) (by omega)).trans e30'
      have tk := r2.2.2.2.1
      have k2 : (lg_cmp (fd_tk n bt q) (-2) = 0) = (fd_tS n bt q = n) := propext ((lg_cmp_eq _ _).trans (fd_tk_E r2.1))
      have k3 : (lg_cmp (fd_tk n bt q) (-3) = 0) = (fd_tS n bt q < n ∧ bt (fd_tS n bt q) = nI 59) := propext ((lg_cmp_eq _ _).trans (fd_tk_S r2.1))
      have ls := fd_tS_le (bt := bt) r2.1
      have L2 : fd_ML n bt q (fd_w h1 77 30 (nI (a + 1))) := fd_ML_fr r2 rfl (fun j j1 j2 => fd_w2 (by omega))
      have ff := fm_mFails hk L2
      have ent : ∀ h' : fd_Hp, (∀ j, h'.1 92 j = h1.1 92 j) → ∀ i A, ([(kd, s, v, f, t)] : List fd_Art)[i]? = some A → fd_mEnt (5 * (a + i)) A h' := fun h' hh i A z => by
        cases i with
        | zero =>
          cases z
          unfold fd_mEnt
          rw [Nat.add_zero, hh, hh, hh, hh, hh]
          exact r5
        | succ i => cases z
      dsimp only
      by_cases c1 : fd_tS n bt q = n
      · have k2' := k2.trans (eq_true c1)
        have k3' := k3.trans (eq_false (fun z => by omega))
        rw [if_pos c1]
        refine ⟨fd_w h1 77 30 (nI (a + 1)), nI 1, ?_, Or.inl ⟨rfl, rfl⟩, fd_w0, ent _ (fun j => fd_w1 (by decide)), fun q j n1 n2 => (if_neg (by omega)).trans ((r3 q j (by omega) (by omega)).trans (x3 q j (by omega)))⟩
        rw [fs_162_12]
        simp (disch := first | exact fd_nl_int | exact fd_nl_ref | exact fd_nl_none | assumption | exact nI_ne0 (by omega) (by omega) | exact fd_nb0 | exact fd_nb1 | exact fd_nbb | omega) only [fs_162_0, fs_162_1, fs_162_2_p77 hk, fs_162_5, fs_162_6, fs_162_7_p77 hk, fs_162_10, fs_162_11, fs_162_13, fs_162_16, fs_162_17_p77 hk, fs_162_20, fs_162_21, fs_162_22, fs_162_23_p77 hk, fs_162_26, fs_162_27_p77 hk, fs_162_30, fs_162_33, fs_162_34, fs_162_35, fs_162_36, fs_162_37_p77 hk, fs_162_40, fs_162_41, fs_162_42_p77 hk, fs_162_45, fs_162_46_p77 hk, fs_162_49, fs_162_52, fs_162_53, fs_162_56, fs_162_57_p77 hk, fs_162_60, fs_162_62, fs_162_65, fs_162_66, fs_162_69, fs_162_70, fs_162_71, fs_162_74, fs_162_75_p77 hk, fs_162_78, fs_162_81, fs_162_82, fs_162_85, fs_162_86_p77 hk, fs_162_89, fs_162_92, fs_162_93, fs_162_96, fs_162_97, Option.bind_some, Option.toList_some, Option.toList_none, List.cons_append, List.nil_append, fd_nb0, fd_nb1, fd_nbb, fd_b0, nI_add, pk_mul, ite_not, Classical.not_not, not_false_iff, not_true, and_self, or_true, true_or, ↓reduceIte, if_true, if_false, ite_self, fd_mI, fd_mH, fd_mL, fd_p0, fd_w0, fd_w1, fd_w2, fd_10, fd_00, n10, x1, e30', r1, f30, fd_w_2, tk, k3']
        rw [fs_162_12]
        simp (disch := first | exact fd_nl_int | exact fd_nl_ref | exact fd_nl_none | assumption | exact nI_ne0 (by omega) (by omega) | exact fd_nb0 | exact fd_nb1 | exact fd_nbb | omega) only [fs_162_0, fs_162_1, fs_162_2_p77 hk, fs_162_5, fs_162_6, fs_162_7_p77 hk, fs_162_10, fs_162_11, fs_162_13, fs_162_16, fs_162_17_p77 hk, fs_162_20, fs_162_21, fs_162_22, fs_162_23_p77 hk, fs_162_26, fs_162_27_p77 hk, fs_162_30, fs_162_33, fs_162_34, fs_162_35, fs_162_36, fs_162_37_p77 hk, fs_162_40, fs_162_41, fs_162_42_p77 hk, fs_162_45, fs_162_46_p77 hk, fs_162_49, fs_162_52, fs_162_53, fs_162_56, fs_162_57_p77 hk, fs_162_60, fs_162_62, fs_162_65, fs_162_66, fs_162_69, fs_162_70, fs_162_71, fs_162_74, fs_162_75_p77 hk, fs_162_78, fs_162_81, fs_162_82, fs_162_85, fs_162_86_p77 hk, fs_162_89, fs_162_92, fs_162_93, fs_162_96, fs_162_97, Option.bind_some, Option.toList_some, Option.toList_none, List.cons_append, List.nil_append, fd_nb0, fd_nb1, fd_nbb, fd_b0, nI_add, pk_mul, ite_not, Classical.not_not, not_false_iff, not_true, and_self, or_true, true_or, ↓reduceIte, if_true, if_false, ite_self, fd_mI, fd_mH, fd_mL, fd_p0, fd_w0, fd_w1, fd_w2, fd_10, fd_00, fd_w_2, tk, k2']
      · have k2' := k2.trans (eq_false c1)
        rw [if_neg c1, if_neg (by omega : ¬ m + 1 = 0)]
        by_cases c3 : bt (fd_tS n bt q) = nI 59
        · rw [if_pos c3]
          have k3' := k3.trans (eq_true ⟨by omega, c3⟩)
          have T2 : fd_mT n bt (fd_w h1 77 30 (nI (a + 1))) := fd_mT_f T0 (fun q j n1 n2 => (if_neg (by omega)).trans (r3 q j (by omega) (by omega)))
          obtain ⟨h3, R, w1, w2, w3, w5, w4⟩ := ih (a + 1) (fd_tE n bt q) (fd_w h1 77 30 (nI (a + 1))) (by omega) T2 (fd_tE_le r2.1).2.1 L2.2.1 ((fd_w2 (by decide)).trans ((r3 77 5 (by omega) (by omega)).trans hn0)) fd_w0
          refine ⟨h3, R, ?_, w2, ?_, fun i A z => ?_, fun q j n1 n2 => ?_⟩
          · rw [fs_162_12]
            simp (disch := first | exact fd_nl_int | exact fd_nl_ref | exact fd_nl_none | assumption | exact nI_ne0 (by omega) (by omega) | exact fd_nb0 | exact fd_nb1 | exact fd_nbb | omega) only [fs_162_0, fs_162_1, fs_162_2_p77 hk, fs_162_5, fs_162_6, fs_162_7_p77 hk, fs_162_10, fs_162_11, fs_162_13, fs_162_16, fs_162_17_p77 hk, fs_162_20, fs_162_21, fs_162_22, fs_162_23_p77 hk, fs_162_26, fs_162_27_p77 hk, fs_162_30, fs_162_33, fs_162_34, fs_162_35, fs_162_36, fs_162_37_p77 hk, fs_162_40, fs_162_41, fs_162_42_p77 hk, fs_162_45, fs_162_46_p77 hk, fs_162_49, fs_162_52, fs_162_53, fs_162_56, fs_162_57_p77 hk, fs_162_60, fs_162_62, fs_162_65, fs_162_66, fs_162_69, fs_162_70, fs_162_71, fs_162_74, fs_162_75_p77 hk, fs_162_78, fs_162_81, fs_162_82, fs_162_85, fs_162_86_p77 hk, fs_162_89, fs_162_92, fs_162_93, fs_162_96, fs_162_97, Option.bind_some, Option.toList_some, Option.toList_none, List.cons_append, List.nil_append, fd_nb0, fd_nb1, fd_nbb, fd_b0, nI_add, pk_mul, ite_not, Classical.not_not, not_false_iff, not_true, and_self, or_true, true_or, ↓reduceIte, if_true, if_false, ite_self, fd_mI, fd_mH, fd_mL, fd_p0, fd_w0, fd_w1, fd_w2, fd_10, fd_00, n10, x1, e30', r1, f30, fd_w_2, tk, k3', hl, w1]
          · rw [w3, List.length_cons]
            exact congrArg nI (by omega)
          · cases i with
            | zero =>
              cases z
              have st : ∀ j, j < 5 * (a + 1) → h3.1 92 j = h1.1 92 j := fun j hj => (w4 92 j (by omega) (by omega)).trans (fd_w1 (by decide))
              unfold fd_mEnt
              rw [Nat.add_zero, st _ (by omega), st _ (by omega), st _ (by omega), st _ (by omega), st _ (by omega)]
              exact r5
            | succ i =>
              have := w5 i A z
              rw [show a + (i + 1) = a + 1 + i by omega]
              exact this
          · rw [w4 q j n1 (by omega)]
            exact (if_neg (by omega)).trans ((r3 q j (by omega) (by omega)).trans (x3 q j (by omega)))
        · rw [if_neg c3]
          have k3' := k3.trans (eq_false (fun z => c3 z.2))
          refine ⟨fd_w (fd_w h1 77 30 (nI (a + 1))) 77 29 (nI (fd_tS n bt q)), nI 0, ?_, Or.inr ⟨rfl, fd_w0, fd_nm1 (by omega)⟩, (fd_w2 (by decide)).trans fd_w0, ent _ (fun j => (fd_w1 (by decide)).trans (fd_w1 (by decide))), fun q j n1 n2 => (if_neg (by omega)).trans ((if_neg (by omega)).trans ((r3 q j (by omega) (by omega)).trans (x3 q j (by omega))))⟩
          rw [fs_162_12]
          simp (disch := first | exact fd_nl_int | exact fd_nl_ref | exact fd_nl_none | assumption | exact nI_ne0 (by omega) (by omega) | exact fd_nb0 | exact fd_nb1 | exact fd_nbb | omega) only [fs_162_0, fs_162_1, fs_162_2_p77 hk, fs_162_5, fs_162_6, fs_162_7_p77 hk, fs_162_10, fs_162_11, fs_162_13, fs_162_16, fs_162_17_p77 hk, fs_162_20, fs_162_21, fs_162_22, fs_162_23_p77 hk, fs_162_26, fs_162_27_p77 hk, fs_162_30, fs_162_33, fs_162_34, fs_162_35, fs_162_36, fs_162_37_p77 hk, fs_162_40, fs_162_41, fs_162_42_p77 hk, fs_162_45, fs_162_46_p77 hk, fs_162_49, fs_162_52, fs_162_53, fs_162_56, fs_162_57_p77 hk, fs_162_60, fs_162_62, fs_162_65, fs_162_66, fs_162_69, fs_162_70, fs_162_71, fs_162_74, fs_162_75_p77 hk, fs_162_78, fs_162_81, fs_162_82, fs_162_85, fs_162_86_p77 hk, fs_162_89, fs_162_92, fs_162_93, fs_162_96, fs_162_97, Option.bind_some, Option.toList_some, Option.toList_none, List.cons_append, List.nil_append, fd_nb0, fd_nb1, fd_nbb, fd_b0, nI_add, pk_mul, ite_not, Classical.not_not, not_false_iff, not_true, and_self, or_true, true_or, ↓reduceIte, if_true, if_false, ite_self, fd_mI, fd_mH, fd_mL, fd_p0, fd_w0, fd_w1, fd_w2, fd_10, fd_00, n10, x1, e30', r1, f30, fd_w_2, tk, k3']
          rw [fs_162_12]
          simp (disch := first | exact fd_nl_int | exact fd_nl_ref | exact fd_nl_none | assumption | exact nI_ne0 (by omega) (by omega) | exact fd_nb0 | exact fd_nb1 | exact fd_nbb | omega) only [fs_162_0, fs_162_1, fs_162_2_p77 hk, fs_162_5, fs_162_6, fs_162_7_p77 hk, fs_162_10, fs_162_11, fs_162_13, fs_162_16, fs_162_17_p77 hk, fs_162_20, fs_162_21, fs_162_22, fs_162_23_p77 hk, fs_162_26, fs_162_27_p77 hk, fs_162_30, fs_162_33, fs_162_34, fs_162_35, fs_162_36, fs_162_37_p77 hk, fs_162_40, fs_162_41, fs_162_42_p77 hk, fs_162_45, fs_162_46_p77 hk, fs_162_49, fs_162_52, fs_162_53, fs_162_56, fs_162_57_p77 hk, fs_162_60, fs_162_62, fs_162_65, fs_162_66, fs_162_69, fs_162_70, fs_162_71, fs_162_74, fs_162_75_p77 hk, fs_162_78, fs_162_81, fs_162_82, fs_162_85, fs_162_86_p77 hk, fs_162_89, fs_162_92, fs_162_93, fs_162_96, fs_162_97, Option.bind_some, Option.toList_some, Option.toList_none, List.cons_append, List.nil_append, fd_nb0, fd_nb1, fd_nbb, fd_b0, nI_add, pk_mul, ite_not, Classical.not_not, not_false_iff, not_true, and_self, or_true, true_or, ↓reduceIte, if_true, if_false, ite_self, fd_mI, fd_mH, fd_mL, fd_p0, fd_w0, fd_w1, fd_w2, fd_10, fd_00, fd_w_2, tk, k2', ff]
theorem fm_isRead (hk : fd_Sok k fb bb dr) (T : fd_mT n bt h) (hn : h.1 77 5 = nI ns) : ∃ h' R, fd_E 162 0 [some (.ref (77)), none] [] k h = some (some (.int (R)), (k, h')) ∧ (R = nI 1 ∧ (fd_pRun n bt ns 10 0).1 = -1 ∨ R = nI 0 ∧ h'.1 77 29 = (fd_pRun n bt ns 10 0).1 ∧ ¬ (fd_pRun n bt ns 10 0).1 = -1) ∧ h'.1 77 30 = nI (fd_pRun n bt ns 10 0).2.length ∧ (∀ i A, (fd_pRun n bt ns 10 0).2[i]? = some A → fd_mEnt (5 * i) A h') ∧ ∀ q j, ¬ (q = 77 ∧ 24 ≤ j ∧ j ≤ 30) → ¬ q = 92 → h'.1 q j = h.1 q j := by
  have T0 : fd_mT n bt (fd_w (fd_w h 77 24 (nI 0)) 77 30 (nI 0)) := fd_mT_f T (fun q j n1 n2 => (if_neg (by omega)).trans (if_neg (by omega)))
  obtain ⟨h2, R, s1, s2, s3, s5, s4⟩ := fm_readL (ns := ns) hk 9 0 0 (fd_w (fd_w h 77 24 (nI 0)) 77 30 (nI 0)) (by omega) T0 (Nat.zero_le _) ((fd_w2 (by decide)).trans fd_w0) ((fd_w2 (by decide)).trans ((fd_w2 (by decide)).trans hn)) fd_w0
  rw [Nat.zero_add] at s3
  refine ⟨h2, R, ?_, s2, s3, fun i A z => ?_, fun q j n1 n2 => ?_⟩
  · have st : fd_E 162 0 [some (.ref (77)), none] [] k h = fd_E 162 12 [some (.ref (77)), some (.int (nI (1)))] [] k (fd_w (fd_w h 77 24 (nI 0)) 77 30 (nI 0)) := by
      simp (disch := first | exact fd_nl_int | exact fd_nl_ref | exact fd_nl_none | assumption | exact nI_ne0 (by omega) (by omega) | exact fd_nb0 | exact fd_nb1 | exact fd_nbb | omega) only [fs_162_0, fs_162_1, fs_162_2_p77 hk, fs_162_5, fs_162_6, fs_162_7_p77 hk, fs_162_10, fs_162_11, fs_162_13, fs_162_16, fs_162_17_p77 hk, fs_162_20, fs_162_21, fs_162_22, fs_162_23_p77 hk, fs_162_26, fs_162_27_p77 hk, fs_162_30, fs_162_33, fs_162_34, fs_162_35, fs_162_36, fs_162_37_p77 hk, fs_162_40, fs_162_41, fs_162_42_p77 hk, fs_162_45, fs_162_46_p77 hk, fs_162_49, fs_162_52, fs_162_53, fs_162_56, fs_162_57_p77 hk, fs_162_60, fs_162_62, fs_162_65, fs_162_66, fs_162_69, fs_162_70, fs_162_71, fs_162_74, fs_162_75_p77 hk, fs_162_78, fs_162_81, fs_162_82, fs_162_85, fs_162_86_p77 hk, fs_162_89, fs_162_92, fs_162_93, fs_162_96, fs_162_97, Option.bind_some, Option.toList_some, Option.toList_none, List.cons_append, List.nil_append, fd_nb0, fd_nb1, fd_nbb, fd_b0, nI_add, pk_mul, ite_not, Classical.not_not, not_false_iff, not_true, and_self, or_true, true_or, ↓reduceIte, if_true, if_false, ite_self, fd_mI, fd_mH, fd_mL, fd_p0, fd_w0, fd_w1, fd_w2, fd_10, fd_00]
    exact st.trans s1
  · have := s5 i A z
    rw [Nat.zero_add] at this
    exact this
  · rw [s4 q j n1 (by omega)]
    exact (if_neg (by omega)).trans (if_neg (by omega))
theorem fd_Bk_f2 {B : Nat} (hB : B < 2) (e : ∀ j, j ≤ 5 → g.1 (b + j) = h.1 (b + j)) (e93 : g.1 93 B = h.1 93 B) (e94 : ∀ j, 50 * B ≤ j → j < 50 * B + 50 → g.1 94 j = h.1 94 j) (I : fd_Bk h b B) : fd_Bk g b B := by
  obtain ⟨n, h1, h2, h3, h4⟩ := I
  refine ⟨n, h1, by have := e 0 (by omega); rw [Nat.add_zero] at this; rw [this]; exact h2, by rw [e93]; exact h3, fun a ha => ?_⟩
  obtain ⟨q1, q2, q3⟩ := h4 a ha
  unfold fd_bkA fd_mdA at q1 ⊢
  unfold fd_bkA at q2 q3
  refine ⟨fun j j1 j2 => ?_, by rw [e 1 (by omega), e 3 (by omega)]; exact q2, by rw [e 4 (by omega), e 5 (by omega)]; exact q3⟩
  have := q1 j j1 j2
  rw [e j j2, e94 _ (by omega) (by omega)]
  exact this
theorem fc_fault (I : fd_Inv k h) : fd_Ag k h 81 [some (.ref (0))] 163 [some (.ref (77))] := by
  have I0 := I; obtain ⟨fb, bb, dr, ns, np, nb, t, hk, F, ht, TX, B0, B1, FE, BA, OF, PL⟩ := I0; have F0 := F; simp only [fd_Fl, Nat.reduceAdd] at F0; obtain ⟨⟨b1, b2, b3, b4⟩, ⟨f1, f2, f3, f4, f5, f6, f7⟩, ⟨g1, g2, g3, g4⟩, S, O, T⟩ := F0
  have TX' := TX
  obtain ⟨n, n200, t1, t2, t3⟩ := TX'
  have ifb : fd_isB fb := hk.2.2.2.2.2.2.1
  have ibb : fd_isB bb := hk.2.2.2.2.2.2.2.1
  have idr : fd_isB dr := hk.2.2.2.2.2.2.2.2.1
  obtain ⟨_, n2, n3⟩ := hk.2.2.2.2.2.2.2.2.2
  have T : fd_cT n (h.1 40) h := ⟨n200, t1, fun _ _ => rfl⟩
  obtain ⟨h1, r1, r2, r3, r4⟩ := fm_faultOf (ns := ns) hk idr T
  have dr42 : 42 ≤ dr ∧ dr ≤ 54 := by rcases idr with rfl | rfl | rfl <;> omega
  have T1 : fd_mT n (h.1 40) h1 := ⟨n200, (r4 77 22 (by omega) (by omega)).trans t2, fun i hi => (r4 91 i (by omega) (by omega)).trans (t3 i hi).symm⟩
  obtain ⟨h2, R, s1, s2, s3, s5, s4⟩ := fm_isRead (ns := ns) hk T1 ((r4 77 5 (by omega) (by omega)).trans f3)
  have G : ∀ q, ¬ q = 41 → ¬ (dr ≤ q ∧ q ≤ dr + 5) → ¬ q = 77 → ¬ q = 92 → h2.1 q = h.1 q := fun q a1 a2 a3 a4 => funext fun j => (s4 q j (by omega) a4).trans (r4 q j (by omega) a2)
  have J : ∀ j, ¬ (24 ≤ j ∧ j ≤ 30) → h2.1 77 j = h.1 77 j := fun j hj => (s4 77 j (by omega) (by omega)).trans (r4 77 j (by omega) (by omega))
  have fbd : ∀ j, j ≤ 5 → ¬ (dr ≤ fb + j ∧ fb + j ≤ dr + 5) := by rcases ifb with rfl | rfl | rfl <;> rcases idr with rfl | rfl | rfl <;> omega
  have bbd : ∀ j, j ≤ 5 → ¬ (dr ≤ bb + j ∧ bb + j ≤ dr + 5) := by rcases ibb with rfl | rfl | rfl <;> rcases idr with rfl | rfl | rfl <;> omega
  have fbl : 42 ≤ fb ∧ fb ≤ 54 := by rcases ifb with rfl | rfl | rfl <;> omega
  have bbl : 42 ≤ bb ∧ bb ≤ 54 := by rcases ibb with rfl | rfl | rfl <;> omega
  refine ⟨(fd_pRun n (h.1 40) ns 10 0).1, k, h1, h2, ?_, ?_, ⟨fb, bb, dr, ns, np, nb, t, hk, fd_Fl_fr (by simp (disch := omega) only [G, J, and_self]) F, (J 0 (by omega)).trans ht, fd_Itx_fr (by simp (disch := omega) only [G, J, and_self]) TX, fd_Bk_f2 (by omega) (fun j hj => G (fb + j) (by omega) (fbd j hj) (by omega) (by omega)) (by rw [G 93 (by omega) (by omega) (by omega) (by omega)]) (fun j _ _ => by rw [G 94 (by omega) (by omega) (by omega) (by omega)]) B0, fd_Bk_f2 (by omega) (fun j hj => G (bb + j) (by omega) (bbd j hj) (by omega) (by omega)) (by rw [G 93 (by omega) (by omega) (by omega) (by omega)]) (fun j _ _ => by rw [G 94 (by omega) (by omega) (by omega) (by omega)]) B1, fd_Ife_fr (by simp (disch := omega) only [G, J, and_self]) FE, fd_Iba_fr (by simp (disch := omega) only [G, J, and_self]) BA, fd_Iof_fr (by simp (disch := omega) only [G, J, and_self]) OF, fd_Ipl_fr (by simp (disch := omega) only [G, J, and_self]) PL⟩, rfl⟩
  · simp (disch := first | exact fd_nl_int | exact fd_nl_ref | exact fd_nl_none | assumption | exact nI_ne0 (by omega) (by omega) | exact fd_nb0 | exact fd_nb1 | exact fd_nbb | omega) only [fs_81_0, fs_81_1_p0 hk, fs_81_4, fs_81_5_p0 hk, fs_81_8_p1 hk, fs_81_11, fs_81_12_p0 hk, fs_81_15_p41 hk, fs_81_18, Option.bind_some, Option.toList_some, Option.toList_none, List.cons_append, List.nil_append, fd_nb0, fd_nb1, fd_nbb, fd_b0, nI_add, pk_mul, ite_not, Classical.not_not, not_false_iff, not_true, and_self, or_true, true_or, ↓reduceIte, if_true, if_false, ite_self, fd_mI, fd_mH, fd_mL, fd_p0, fd_w0, fd_w1, fd_w2, fd_10, fd_00, f2, r1]
  · rcases s2 with ⟨rfl, s2⟩ | ⟨rfl, s2, _⟩
    · rw [s2]
      simp (disch := first | exact fd_nl_int | exact fd_nl_ref | exact fd_nl_none | assumption | exact nI_ne0 (by omega) (by omega) | exact fd_nb0 | exact fd_nb1 | exact fd_nbb | omega) only [fs_163_0, fs_163_1_p77 hk, fs_163_4, fs_163_7, fs_163_8, fs_163_11, fs_163_12_p77 hk, fs_163_15, Option.bind_some, Option.toList_some, Option.toList_none, List.cons_append, List.nil_append, fd_nb0, fd_nb1, fd_nbb, fd_b0, nI_add, pk_mul, ite_not, Classical.not_not, not_false_iff, not_true, and_self, or_true, true_or, ↓reduceIte, if_true, if_false, ite_self, fd_mI, fd_mH, fd_mL, fd_p0, fd_w0, fd_w1, fd_w2, fd_10, fd_00, s1]
    · rw [← s2]
      simp (disch := first | exact fd_nl_int | exact fd_nl_ref | exact fd_nl_none | assumption | exact nI_ne0 (by omega) (by omega) | exact fd_nb0 | exact fd_nb1 | exact fd_nbb | omega) only [fs_163_0, fs_163_1_p77 hk, fs_163_4, fs_163_7, fs_163_8, fs_163_11, fs_163_12_p77 hk, fs_163_15, Option.bind_some, Option.toList_some, Option.toList_none, List.cons_append, List.nil_append, fd_nb0, fd_nb1, fd_nbb, fd_b0, nI_add, pk_mul, ite_not, Classical.not_not, not_false_iff, not_true, and_self, or_true, true_or, ↓reduceIte, if_true, if_false, ite_self, fd_mI, fd_mH, fd_mL, fd_p0, fd_w0, fd_w1, fd_w2, fd_10, fd_00, s1]
end FAULT
