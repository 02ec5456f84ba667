/-! THE CALL unlike: the hours at which the books change what they say -/
section UNL
variable {k : fd_Sk} {h g : fd_Hp} {fb bb dr b : Nat}
/-- a book's hours in plain numbers -/
def fd_ft (A : fd_A) (n : Nat) (f t : Nat → Nat) : Prop := ∀ a, a < n → A 4 a = nI (f a) ∧ A 5 a = nI (t a) ∧ f a ≤ t a ∧ t a ≤ 3000
def fd_caF (f t : Nat → Nat) (x a y : Nat) : Nat := if t a < x then (if f a ≤ x then y else if f a < y then f a else y) else if t a + 1 < (if f a ≤ x then y else if f a < y then f a else y) then t a + 1 else (if f a ≤ x then y else if f a < y then f a else y)
def fd_ca (f t : Nat → Nat) (n x : Nat) : Nat := fd_fold (fd_caF f t x) n 0 3001
theorem fd_chN {A : fd_A} {n x : Nat} {f t : Nat → Nat} (F : fd_ft A n f t) (hx : x ≤ 3000) : fd_fold (fd_chF A (nI x)) n 0 (nI 3001) = nI (fd_ca f t n x) ∧ fd_ca f t n x ≤ 3001 := by
  have q := fd_fold_2 (f := fd_chF A (nI x)) (g := fd_caF f t x) (P := fun _ u v => u = nI v ∧ v ≤ 3001) n (i := 0) (x := nI 3001) (y := 3001) ⟨rfl, Nat.le_refl _⟩ (fun a _ ha u v z => by
    obtain ⟨rfl, z2⟩ := z
    obtain ⟨F1, F2, F3, F4⟩ := F a (by omega)
    unfold fd_chF fd_caF
    dsimp only
    rw [F1, F2]
    simp only [nI_leI (show f a < 2 ^ 31 by omega) (show x < 2 ^ 31 by omega), nI_ltI (show f a < 2 ^ 31 by omega) (show v < 2 ^ 31 by omega), nI_ltI (show t a < 2 ^ 31 by omega) (show x < 2 ^ 31 by omega), nI_add]
    have e : (if f a ≤ x then nI v else if f a < v then nI (f a) else nI v) = nI (if f a ≤ x then v else if f a < v then f a else v) := by
      (repeat' split) <;> rfl
    rw [e]
    have hy : (if f a ≤ x then v else if f a < v then f a else v) ≤ 3001 := by (repeat' split) <;> omega
    generalize (if f a ≤ x then v else if f a < v then f a else v) = y at hy
    simp only [nI_ltI (show t a + 1 < 2 ^ 31 by omega) (show y < 2 ^ 31 by omega)]
    by_cases c1 : t a < x
    · rw [if_pos c1, if_pos c1]
      exact ⟨rfl, hy⟩
    · rw [if_neg c1, if_neg c1]
      by_cases c2 : t a + 1 < y
      · rw [if_pos c2, if_pos c2]
        exact ⟨rfl, by omega⟩
      · rw [if_neg c2, if_neg c2]
        exact ⟨rfl, hy⟩)
  exact q
theorem fd_ca_at {f t : Nat → Nat} {x : Nat} (hx : x ≤ 3000) : ∀ n, x < fd_ca f t n x ∧ fd_ca f t n x ≤ 3001 ∧ (∀ a, a < n → x < f a → fd_ca f t n x ≤ f a) ∧ (∀ a, a < n → x ≤ t a → fd_ca f t n x ≤ t a + 1) ∧ (fd_ca f t n x = 3001 ∨ ∃ a, a < n ∧ (x < f a ∧ fd_ca f t n x = f a ∨ x ≤ t a ∧ fd_ca f t n x = t a + 1)) := by
  intro n
  induction n with
  | zero => exact ⟨by show x < 3001; omega, Nat.le_refl _, fun a ha => absurd ha (Nat.not_lt_zero a), fun a ha => absurd ha (Nat.not_lt_zero a), Or.inl rfl⟩
  | succ n ih =>
    have E : fd_ca f t (n + 1) x = fd_caF f t x n (fd_ca f t n x) := by
      unfold fd_ca
      rw [fd_fold_end, Nat.zero_add]
    rw [E]
    generalize fd_ca f t n x = X at ih
    obtain ⟨i1, i2, i3, i4, i5⟩ := ih
    have Y : ∃ Y, (if f n ≤ x then X else if f n < X then f n else X) = Y ∧ x < Y ∧ Y ≤ X ∧ (x < f n → Y ≤ f n) ∧ (Y = X ∨ x < f n ∧ Y = f n) := by
      refine ⟨_, rfl, ?_⟩
      by_cases c : f n ≤ x
      · rw [if_pos c]; omega
      · rw [if_neg c]
        by_cases d : f n < X
        · rw [if_pos d]; omega
        · rw [if_neg d]; omega
    obtain ⟨Y, y0, y1, y2, y3, y4⟩ := Y
    have Z : ∃ Z, fd_caF f t x n X = Z ∧ x < Z ∧ Z ≤ Y ∧ (x ≤ t n → Z ≤ t n + 1) ∧ (Z = Y ∨ x ≤ t n ∧ Z = t n + 1) := by
      refine ⟨_, rfl, ?_⟩
      unfold fd_caF
      rw [y0]
      by_cases c : t n < x
      · rw [if_pos c]; omega
      · rw [if_neg c]
        by_cases d : t n + 1 < Y
        · rw [if_pos d]; omega
        · rw [if_neg d]; omega
    obtain ⟨Z, z0, z1, z2, z3, z4⟩ := Z
    rw [z0]
    refine ⟨z1, by omega, fun a ha hf => ?_, fun a ha hf => ?_, ?_⟩
    · by_cases e : a = n
      · subst e; have := y3 hf; omega
      · have := i3 a (by omega) hf; omega
    · by_cases e : a = n
      · subst e; exact z3 hf
      · have := i4 a (by omega) hf; omega
    · rcases z4 with z4 | ⟨z4, z5⟩
      · rcases y4 with y4 | ⟨y4, y5⟩
        · rcases i5 with i5 | ⟨a, a1, a2⟩
          · exact Or.inl (by omega)
          · exact Or.inr ⟨a, by omega, by omega⟩
        · exact Or.inr ⟨n, by omega, Or.inl ⟨y4, by omega⟩⟩
      · exact Or.inr ⟨n, by omega, Or.inr ⟨z4, z5⟩⟩
/-- what is owed each stays until the next change -/
theorem fd_ow_const {A : fd_A} {n x x' : Nat} {s : Int32} {f t : Nat → Nat} (F : fd_ft A n f t) (hx : x ≤ x') (hx' : x' < fd_ca f t n x) (h3 : x' ≤ 3000) : fd_fold (fd_owedF A s (nI x')) n 0 (nI 0) = fd_fold (fd_owedF A s (nI x)) n 0 (nI 0) := by
  obtain ⟨_, _, c3, c4, _⟩ := fd_ca_at (f := f) (t := t) (x := x) (by omega) n
  refine fd_fold_eq (fun a _ ha y => ?_)
  obtain ⟨F1, F2, F3, F4⟩ := F a (by omega)
  have e : fd_isF A a (nI 0) s (nI x') ↔ fd_isF A a (nI 0) s (nI x) := by
    unfold fd_isF
    rw [F1, F2, nI_ltI (by omega) (by omega), nI_ltI (by omega) (by omega), nI_ltI (by omega) (by omega), nI_ltI (by omega) (by omega)]
    have a3 := c3 a (by omega)
    have a4 := c4 a (by omega)
    constructor
    · rintro ⟨p1, p2, p3, p4⟩
      exact ⟨p1, p2, fun z => by have := a3 z; omega, by omega⟩
    · rintro ⟨p1, p2, p3, p4⟩
      exact ⟨p1, p2, by omega, fun z => by have := a4 (by omega); omega⟩
  unfold fd_owedF
  by_cases q : fd_isF A a (nI 0) s (nI x)
  · rw [if_pos q, if_pos (e.mpr q)]
  · rw [if_neg q, if_neg (fun z => q (e.mp z))]
/-- how many changes are still to come -/
def fd_cn1 (f t : Nat → Nat) (x a y : Nat) : Nat := y + (if x < f a then 1 else 0) + (if x < t a + 1 then 1 else 0)
def fd_cnt (f t : Nat → Nat) (n x : Nat) : Nat := fd_fold (fd_cn1 f t x) n 0 0
theorem fd_cnt_s {f t : Nat → Nat} {n x : Nat} : fd_cnt f t (n + 1) x = fd_cnt f t n x + (if x < f n then 1 else 0) + (if x < t n + 1 then 1 else 0) := by
  unfold fd_cnt
  rw [fd_fold_end, Nat.zero_add]
  rfl
theorem fd_cnt_le {f t : Nat → Nat} {x : Nat} : ∀ n, fd_cnt f t n x ≤ 2 * n := by
  intro n
  induction n with
  | zero => exact Nat.le_refl 0
  | succ n ih =>
    rw [fd_cnt_s]
    (repeat' split) <;> omega
theorem fd_cnt_mono {f t : Nat → Nat} {x x' : Nat} (hx : x ≤ x') : ∀ n, fd_cnt f t n x' ≤ fd_cnt f t n x := by
  intro n
  induction n with
  | zero => exact Nat.le_refl 0
  | succ n ih =>
    rw [fd_cnt_s, fd_cnt_s]
    by_cases c1 : x' < f n
    · rw [if_pos c1, if_pos (show x < f n by omega)]
      by_cases c2 : x' < t n + 1
      · rw [if_pos c2, if_pos (show x < t n + 1 by omega)]; omega
      · rw [if_neg c2]; omega
    · rw [if_neg c1]
      by_cases c2 : x' < t n + 1
      · rw [if_pos c2, if_pos (show x < t n + 1 by omega)]; omega
      · rw [if_neg c2]; omega
theorem fd_cnt_dec {f t : Nat → Nat} {x x' : Nat} (hx : x < x') : ∀ n, (∃ a, a < n ∧ (f a = x' ∨ t a + 1 = x')) → fd_cnt f t n x' + 1 ≤ fd_cnt f t n x := by
  intro n
  induction n with
  | zero => exact fun ⟨a, ha, _⟩ => absurd ha (Nat.not_lt_zero a)
  | succ n ih =>
    rintro ⟨a, ha, hp⟩
    rw [fd_cnt_s, fd_cnt_s]
    have mo := fd_cnt_mono (f := f) (t := t) (Nat.le_of_lt hx) n
    by_cases e : a = n
    · subst e
      rcases hp with hp | hp
      · rw [if_neg (show ¬ x' < f a by omega), if_pos (show x < f a by omega)]
        by_cases c2 : x' < t a + 1
        · rw [if_pos c2, if_pos (show x < t a + 1 by omega)]; omega
        · rw [if_neg c2]; omega
      · rw [if_neg (show ¬ x' < t a + 1 by omega), if_pos (show x < t a + 1 by omega)]
        by_cases c2 : x' < f a
        · rw [if_pos c2, if_pos (show x < f a by omega)]; omega
        · rw [if_neg c2]; omega
    · have i := ih ⟨a, by omega, hp⟩
      by_cases c1 : x' < f n
      · rw [if_pos c1, if_pos (show x < f n by omega)]
        by_cases c2 : x' < t n + 1
        · rw [if_pos c2, if_pos (show x < t n + 1 by omega)]; omega
        · rw [if_neg c2]; omega
      · rw [if_neg c1]
        by_cases c2 : x' < t n + 1
        · rw [if_pos c2, if_pos (show x < t n + 1 by omega)]; omega
        · rw [if_neg c2]; omega
/-- the first hour from x0 on in which P, as the answer has it -/
def fd_ulR (P : Nat → Prop) (x0 : Nat) (R : Int32) : Prop := (R = -1 ∧ ∀ y, x0 ≤ y → y ≤ 3000 → ¬ P y) ∨ ∃ y, R = nI y ∧ x0 ≤ y ∧ y ≤ 3000 ∧ P y ∧ ∀ y', x0 ≤ y' → y' < y → ¬ P y'
theorem fd_ulR_eq {P : Nat → Prop} {x0 : Nat} {R R' : Int32} (h : fd_ulR P x0 R) (h' : fd_ulR P x0 R') : R = R' := by
  rcases h with ⟨rfl, h2⟩ | ⟨y, rfl, y1, y2, y3, y4⟩
  · rcases h' with ⟨rfl, _⟩ | ⟨y', rfl, z1, z2, z3, _⟩
    · rfl
    · exact absurd z3 (h2 y' z1 z2)
  · rcases h' with ⟨rfl, h2⟩ | ⟨y', rfl, z1, z2, z3, z4⟩
    · exact absurd y3 (h2 y y1 y2)
    · rcases Nat.lt_trichotomy y y' with q | q | q
      · exact absurd y3 (z4 y y1 q)
      · rw [q]
      · exact absurd z3 (y4 y' z1 q)
theorem fm_ulC (hk : fd_Sok k fb bb dr) {s x0 nA nB : Nat} {fA tA fB tB : Nat → Nat} (FA : fd_ft (fd_bkA h fb) nA fA tA) (FB : fd_ft (fd_bkA h bb) nB fB tB) (eA : h.1 fb 0 = nI nA) (eB : h.1 bb 0 = nI nB) (hA : nA ≤ 10) (hB : nB ≤ 10) : ∀ (m c x : Nat), c + m = 41 → x0 ≤ x → x ≤ 3001 → (x ≤ 3000 → fd_cnt fA tA nA x + fd_cnt fB tB nB x + c ≤ 40) → (∀ y, x0 ≤ y → y < x → ¬ ¬ fd_fold (fd_owedF (fd_bkA h fb) (nI s) (nI y)) nA 0 (nI 0) = fd_fold (fd_owedF (fd_bkA h bb) (nI s) (nI y)) nB 0 (nI 0)) → ∃ R, fd_E 85 26 [some (.ref (0)), some (.int (nI (s))), some (.int (nI (x0))), some (.int (nI (x))), some (.int (nI (c)))] [] k h = some (some (.int (R)), (k, h)) ∧ fd_ulR (fun y => ¬ fd_fold (fd_owedF (fd_bkA h fb) (nI s) (nI y)) nA 0 (nI 0) = fd_fold (fd_owedF (fd_bkA h bb) (nI s) (nI y)) nB 0 (nI 0)) x0 R := by
  have ifb : fd_isB fb := hk.2.2.2.2.2.2.1
  have ibb : fd_isB bb := hk.2.2.2.2.2.2.2.1
  intro m
  induction m with
  | zero =>
    intro c x e h1 h2 hc hP
    obtain rfl : c = 41 := by omega
    have hl : nI 40 < nI 41 := nI_lt (by omega) (by omega)
    have hx : ¬ x ≤ 3000 := fun z => by have := hc z; omega
    refine ⟨-1, ?_, Or.inl ⟨rfl, fun y y1 y2 => hP y y1 (by omega)⟩⟩
    rw [fs_85_26]
    simp (disch := first | exact fd_nl_int | exact fd_nl_ref | exact fd_nl_none | assumption | exact nI_ne0 (by omega) (by omega) | exact fd_nb0 | exact fd_nb1 | exact fd_nbb | omega) only [fs_85_0, fs_85_1, fs_85_2_p0 hk, fs_85_5, fs_85_8, fs_85_10, fs_85_11, fs_85_12, fs_85_15, fs_85_18, fs_85_20, fs_85_21, fs_85_22, fs_85_23, fs_85_24, fs_85_28, fs_85_30, fs_85_33, fs_85_34, fs_85_37, fs_85_40, fs_85_41_p0 hk, fs_85_44, fs_85_45, fs_85_46 hk, fs_85_49, fs_85_50_p0 hk, fs_85_53, fs_85_54, fs_85_55 hk, fs_85_58, fs_85_61, fs_85_62, fs_85_63, fs_85_64_p0 hk, fs_85_67, fs_85_68 hk, fs_85_71, fs_85_72_p0 hk, fs_85_75, fs_85_76 hk, fs_85_79, fs_85_82, fs_85_83, fs_85_86, fs_85_89, fs_85_90, Option.bind_some, Option.toList_some, Option.toList_none, List.cons_append, List.nil_append, fd_nb0, fd_nb1, fd_nbb, fd_b0, nI_add, pk_mul, ite_not, Classical.not_not, not_false_iff, not_true, and_self, or_true, true_or, ↓reduceIte, if_true, if_false, ite_self, fd_mI, fd_mH, fd_mL, fd_p0, fd_w0, fd_w1, fd_w2, fd_10, fd_00, hl]
  | succ m ih =>
    intro c x e h1 h2 hc hP
    have hl : ¬ nI 40 < nI c := nI_nlt (by omega) (by omega)
    by_cases hx : x ≤ 3000
    · have hx' : ¬ nI 3000 < nI x := nI_nlt hx (by omega)
      have oA := fm_owedEach (h := h) hk ifb eA hA (nI s) (nI x)
      have oB := fm_owedEach (h := h) hk ibb eB hB (nI s) (nI x)
      by_cases q : fd_fold (fd_owedF (fd_bkA h fb) (nI s) (nI x)) nA 0 (nI 0) = fd_fold (fd_owedF (fd_bkA h bb) (nI s) (nI x)) nB 0 (nI 0)
      · have cA := fm_changeAfter (h := h) hk ifb eA hA (nI x)
        have cB := fm_changeAfter (h := h) hk ibb eB hB (nI x)
        rw [(fd_chN FA hx).1] at cA
        rw [(fd_chN FB hx).1] at cB
        obtain ⟨a1, a2, a3, a4, a5⟩ := fd_ca_at (f := fA) (t := tA) hx nA
        obtain ⟨b1, b2, b3, b4, b5⟩ := fd_ca_at (f := fB) (t := tB) hx nB
        have kA := fun x' y1 y2 y3 => fd_ow_const (s := nI s) (x := x) (x' := x') FA y1 y2 y3
        have kB := fun x' y1 y2 y3 => fd_ow_const (s := nI s) (x := x) (x' := x') FB y1 y2 y3
        generalize fd_ca fA tA nA x = X at cA a1 a2 a3 a4 a5 kA
        generalize fd_ca fB tB nB x = Y at cB b1 b2 b3 b4 b5 kB
        obtain ⟨Z, hZ, z1, z2, z3⟩ : ∃ Z, (if nI Y < nI X then nI Y else nI X) = nI Z ∧ Z ≤ X ∧ Z ≤ Y ∧ (Z = X ∨ Z = Y) := by
          by_cases v : Y < X
          · exact ⟨Y, if_pos (nI_lt v (by omega)), by omega, by omega, Or.inr rfl⟩
          · exact ⟨X, if_neg (nI_nlt (by omega) (by omega)), by omega, by omega, Or.inl rfl⟩
        obtain ⟨R, r1, r2⟩ := ih (c + 1) Z (by omega) (by omega) (by omega) (fun hz => by
          have := hc hx
          have mA := fd_cnt_mono (f := fA) (t := tA) (show x ≤ Z by omega) nA
          have mB := fd_cnt_mono (f := fB) (t := tB) (show x ≤ Z by omega) nB
          rcases z3 with z3 | z3
          · rcases a5 with a5 | ⟨a, p1, p2⟩
            · omega
            · have := fd_cnt_dec (f := fA) (t := tA) (show x < Z by omega) nA ⟨a, p1, by omega⟩
              omega
          · rcases b5 with b5 | ⟨a, p1, p2⟩
            · omega
            · have := fd_cnt_dec (f := fB) (t := tB) (show x < Z by omega) nB ⟨a, p1, by omega⟩
              omega) (fun y y1 y2 => by
          by_cases w : y < x
          · exact hP y y1 w
          · rw [kA y (by omega) (by omega) (by omega), kB y (by omega) (by omega) (by omega)]
            exact fun v => v q)
        refine ⟨R, ?_, r2⟩
        rw [fs_85_26]
        simp (disch := first | exact fd_nl_int | exact fd_nl_ref | exact fd_nl_none | assumption | exact nI_ne0 (by omega) (by omega) | exact fd_nb0 | exact fd_nb1 | exact fd_nbb | omega) only [fs_85_0, fs_85_1, fs_85_2_p0 hk, fs_85_5, fs_85_8, fs_85_10, fs_85_11, fs_85_12, fs_85_15, fs_85_18, fs_85_20, fs_85_21, fs_85_22, fs_85_23, fs_85_24, fs_85_28, fs_85_30, fs_85_33, fs_85_34, fs_85_37, fs_85_40, fs_85_41_p0 hk, fs_85_44, fs_85_45, fs_85_46 hk, fs_85_49, fs_85_50_p0 hk, fs_85_53, fs_85_54, fs_85_55 hk, fs_85_58, fs_85_61, fs_85_62, fs_85_63, fs_85_64_p0 hk, fs_85_67, fs_85_68 hk, fs_85_71, fs_85_72_p0 hk, fs_85_75, fs_85_76 hk, fs_85_79, fs_85_82, fs_85_83, fs_85_86, fs_85_89, fs_85_90, Option.bind_some, Option.toList_some, Option.toList_none, List.cons_append, List.nil_append, fd_nb0, fd_nb1, fd_nbb, fd_b0, nI_add, pk_mul, ite_not, Classical.not_not, not_false_iff, not_true, and_self, or_true, true_or, ↓reduceIte, if_true, if_false, ite_self, fd_mI, fd_mH, fd_mL, fd_p0, fd_w0, fd_w1, fd_w2, fd_10, fd_00, hl, hx', oA, oB, eq_true q, cA, cB, hZ, r1]
      · refine ⟨nI x, ?_, Or.inr ⟨x, rfl, h1, hx, q, fun y y1 y2 => hP y y1 y2⟩⟩
        rw [fs_85_26]
        simp (disch := first | exact fd_nl_int | exact fd_nl_ref | exact fd_nl_none | assumption | exact nI_ne0 (by omega) (by omega) | exact fd_nb0 | exact fd_nb1 | exact fd_nbb | omega) only [fs_85_0, fs_85_1, fs_85_2_p0 hk, fs_85_5, fs_85_8, fs_85_10, fs_85_11, fs_85_12, fs_85_15, fs_85_18, fs_85_20, fs_85_21, fs_85_22, fs_85_23, fs_85_24, fs_85_28, fs_85_30, fs_85_33, fs_85_34, fs_85_37, fs_85_40, fs_85_41_p0 hk, fs_85_44, fs_85_45, fs_85_46 hk, fs_85_49, fs_85_50_p0 hk, fs_85_53, fs_85_54, fs_85_55 hk, fs_85_58, fs_85_61, fs_85_62, fs_85_63, fs_85_64_p0 hk, fs_85_67, fs_85_68 hk, fs_85_71, fs_85_72_p0 hk, fs_85_75, fs_85_76 hk, fs_85_79, fs_85_82, fs_85_83, fs_85_86, fs_85_89, fs_85_90, Option.bind_some, Option.toList_some, Option.toList_none, List.cons_append, List.nil_append, fd_nb0, fd_nb1, fd_nbb, fd_b0, nI_add, pk_mul, ite_not, Classical.not_not, not_false_iff, not_true, and_self, or_true, true_or, ↓reduceIte, if_true, if_false, ite_self, fd_mI, fd_mH, fd_mL, fd_p0, fd_w0, fd_w1, fd_w2, fd_10, fd_00, hl, hx', oA, oB, q]
    · have hx' : nI 3000 < nI x := nI_lt (by omega) (by omega)
      refine ⟨-1, ?_, Or.inl ⟨rfl, fun y y1 y2 => hP y y1 (by omega)⟩⟩
      rw [fs_85_26]
      simp (disch := first | exact fd_nl_int | exact fd_nl_ref | exact fd_nl_none | assumption | exact nI_ne0 (by omega) (by omega) | exact fd_nb0 | exact fd_nb1 | exact fd_nbb | omega) only [fs_85_0, fs_85_1, fs_85_2_p0 hk, fs_85_5, fs_85_8, fs_85_10, fs_85_11, fs_85_12, fs_85_15, fs_85_18, fs_85_20, fs_85_21, fs_85_22, fs_85_23, fs_85_24, fs_85_28, fs_85_30, fs_85_33, fs_85_34, fs_85_37, fs_85_40, fs_85_41_p0 hk, fs_85_44, fs_85_45, fs_85_46 hk, fs_85_49, fs_85_50_p0 hk, fs_85_53, fs_85_54, fs_85_55 hk, fs_85_58, fs_85_61, fs_85_62, fs_85_63, fs_85_64_p0 hk, fs_85_67, fs_85_68 hk, fs_85_71, fs_85_72_p0 hk, fs_85_75, fs_85_76 hk, fs_85_79, fs_85_82, fs_85_83, fs_85_86, fs_85_89, fs_85_90, Option.bind_some, Option.toList_some, Option.toList_none, List.cons_append, List.nil_append, fd_nb0, fd_nb1, fd_nbb, fd_b0, nI_add, pk_mul, ite_not, Classical.not_not, not_false_iff, not_true, and_self, or_true, true_or, ↓reduceIte, if_true, if_false, ite_self, fd_mI, fd_mH, fd_mL, fd_p0, fd_w0, fd_w1, fd_w2, fd_10, fd_00, hl, hx']
theorem fm_ulM (hk : fd_Sok k fb bb dr) {s x0 nA nB : Nat} (hs : s < 6) (eA : h.1 93 0 = nI nA) (eB : h.1 93 1 = nI nB) (hA : nA ≤ 10) (hB : nB ≤ 10) : ∀ (m x : Nat), x + m = 3001 → x0 ≤ x → (∀ y, x0 ≤ y → y < x → ¬ ¬ h.1 79 s * fd_fold (fd_owedF (fd_mdA h 0) (nI s) (nI y)) nA 0 (nI 0) = h.1 79 s * fd_fold (fd_owedF (fd_mdA h 1) (nI s) (nI y)) nB 0 (nI 0)) → ∃ R, fd_E 170 23 [some (.ref (77)), some (.int (nI (s))), some (.int (nI (x0))), some (.int (nI (x)))] [] k h = some (some (.int (R)), (k, h)) ∧ fd_ulR (fun y => ¬ h.1 79 s * fd_fold (fd_owedF (fd_mdA h 0) (nI s) (nI y)) nA 0 (nI 0) = h.1 79 s * fd_fold (fd_owedF (fd_mdA h 1) (nI s) (nI y)) nB 0 (nI 0)) x0 R := by
  intro m
  induction m with
  | zero =>
    intro x e h1 hP
    obtain rfl : x = 3001 := by omega
    have hl : nI 3000 < nI 3001 := nI_lt (by omega) (by omega)
    refine ⟨-1, ?_, Or.inl ⟨rfl, fun y y1 y2 => hP y y1 (by omega)⟩⟩
    rw [fs_170_23]
    simp (disch := first | exact fd_nl_int | exact fd_nl_ref | exact fd_nl_none | assumption | exact nI_ne0 (by omega) (by omega) | exact fd_nb0 | exact fd_nb1 | exact fd_nbb | omega) only [fs_170_0, fs_170_1, fs_170_2_p77 hk, fs_170_5, fs_170_8, fs_170_10, fs_170_11, fs_170_12, fs_170_15, fs_170_18, fs_170_20, fs_170_21, fs_170_22, fs_170_24, fs_170_27, fs_170_30, fs_170_31, fs_170_32, fs_170_33, fs_170_34_p77 hk, fs_170_37, fs_170_38, fs_170_39, fs_170_40, fs_170_41_p77 hk, fs_170_44, fs_170_47, fs_170_48, fs_170_49, fs_170_52, fs_170_55, fs_170_56, Option.bind_some, Option.toList_some, Option.toList_none, List.cons_append, List.nil_append, fd_nb0, fd_nb1, fd_nbb, fd_b0, nI_add, pk_mul, ite_not, Classical.not_not, not_false_iff, not_true, and_self, or_true, true_or, ↓reduceIte, if_true, if_false, ite_self, fd_mI, fd_mH, fd_mL, fd_p0, fd_w0, fd_w1, fd_w2, fd_10, fd_00, hl]
  | succ m ih =>
    intro x e h1 hP
    have hl : ¬ nI 3000 < nI x := nI_nlt (by omega) (by omega)
    have oA := fm_mOwedBy (h := h) (B := 0) hk (by omega) hs eA hA (nI x)
    have oB := fm_mOwedBy (h := h) (B := 1) hk (by omega) hs eB hB (nI x)
    by_cases q : h.1 79 s * fd_fold (fd_owedF (fd_mdA h 0) (nI s) (nI x)) nA 0 (nI 0) = h.1 79 s * fd_fold (fd_owedF (fd_mdA h 1) (nI s) (nI x)) nB 0 (nI 0)
    · obtain ⟨R, r1, r2⟩ := ih (x + 1) (by omega) (by omega) (fun y y1 y2 => by
        by_cases w : y < x
        · exact hP y y1 w
        · obtain rfl : y = x := by omega
          exact fun v => v q)
      refine ⟨R, ?_, r2⟩
      rw [fs_170_23]
      simp (disch := first | exact fd_nl_int | exact fd_nl_ref | exact fd_nl_none | assumption | exact nI_ne0 (by omega) (by omega) | exact fd_nb0 | exact fd_nb1 | exact fd_nbb | omega) only [fs_170_0, fs_170_1, fs_170_2_p77 hk, fs_170_5, fs_170_8, fs_170_10, fs_170_11, fs_170_12, fs_170_15, fs_170_18, fs_170_20, fs_170_21, fs_170_22, fs_170_24, fs_170_27, fs_170_30, fs_170_31, fs_170_32, fs_170_33, fs_170_34_p77 hk, fs_170_37, fs_170_38, fs_170_39, fs_170_40, fs_170_41_p77 hk, fs_170_44, fs_170_47, fs_170_48, fs_170_49, fs_170_52, fs_170_55, fs_170_56, Option.bind_some, Option.toList_some, Option.toList_none, List.cons_append, List.nil_append, fd_nb0, fd_nb1, fd_nbb, fd_b0, nI_add, pk_mul, ite_not, Classical.not_not, not_false_iff, not_true, and_self, or_true, true_or, ↓reduceIte, if_true, if_false, ite_self, fd_mI, fd_mH, fd_mL, fd_p0, fd_w0, fd_w1, fd_w2, fd_10, fd_00, hl, oA, oB, eq_true q, r1]
    · refine ⟨nI x, ?_, Or.inr ⟨x, rfl, h1, by omega, q, hP⟩⟩
      rw [fs_170_23]
      simp (disch := first | exact fd_nl_int | exact fd_nl_ref | exact fd_nl_none | assumption | exact nI_ne0 (by omega) (by omega) | exact fd_nb0 | exact fd_nb1 | exact fd_nbb | omega) only [fs_170_0, fs_170_1, fs_170_2_p77 hk, fs_170_5, fs_170_8, fs_170_10, fs_170_11, fs_170_12, fs_170_15, fs_170_18, fs_170_20, fs_170_21, fs_170_22, fs_170_24, fs_170_27, fs_170_30, fs_170_31, fs_170_32, fs_170_33, fs_170_34_p77 hk, fs_170_37, fs_170_38, fs_170_39, fs_170_40, fs_170_41_p77 hk, fs_170_44, fs_170_47, fs_170_48, fs_170_49, fs_170_52, fs_170_55, fs_170_56, Option.bind_some, Option.toList_some, Option.toList_none, List.cons_append, List.nil_append, fd_nb0, fd_nb1, fd_nbb, fd_b0, nI_add, pk_mul, ite_not, Classical.not_not, not_false_iff, not_true, and_self, or_true, true_or, ↓reduceIte, if_true, if_false, ite_self, fd_mI, fd_mH, fd_mL, fd_p0, fd_w0, fd_w1, fd_w2, fd_10, fd_00, hl, oA, oB, q]
/-- sums of what is owed are small, so to times by the men tells nothing more -/
theorem fd_ow_sm {A : fd_A} {n : Nat} {s hr : Int32} (h10 : n ≤ 10) (hA : ∀ a, a < n → (A 1 a = nI 3 ∧ A 3 a = -1) ∨ ∃ q, q ≤ 99 ∧ A 3 a = nI q) : ∃ w, w ≤ 990 ∧ fd_fold (fd_owedF A s hr) n 0 (nI 0) = nI w := by
  have q := fd_fold_in (f := fd_owedF A s hr) (P := fun i x => ∃ w, w ≤ 99 * i ∧ x = nI w) n (i := 0) (x := nI 0) ⟨0, by omega, rfl⟩ (fun a _ ha x P => by
    obtain ⟨w, w1, rfl⟩ := P
    unfold fd_owedF
    by_cases c : fd_isF A a (nI 0) s hr
    · rw [if_pos c]
      rcases hA a (by omega) with ⟨y, _⟩ | ⟨q, q1, q2⟩
      · have := c.1.symm.trans y
        exact absurd this (by decide)
      · rw [q2, nI_add]
        exact ⟨w + q, by omega, rfl⟩
    · rw [if_neg c]
      exact ⟨w, by omega, rfl⟩)
  obtain ⟨w, w1, w2⟩ := q
  exact ⟨w, by omega, w2⟩
theorem fd_bkft {B n : Nat} (hn : n ≤ 10) (T : ∀ a, a < n → (∀ j, 1 ≤ j → j ≤ 5 → fd_bkA h b j a = fd_mdA h B j a) ∧ (fd_bkA h b 1 a = nI 3 ∧ fd_bkA h b 3 a = -1 ∨ ∃ q, q ≤ 99 ∧ fd_bkA h b 3 a = nI q) ∧ ∃ f t, f ≤ t ∧ t ≤ 3000 ∧ fd_bkA h b 4 a = nI f ∧ fd_bkA h b 5 a = nI t) : ∃ f t, fd_ft (fd_bkA h b) n f t := by
  refine ⟨fun a => (fd_bkA h b 4 a).toNatClampNeg, fun a => (fd_bkA h b 5 a).toNatClampNeg, fun a ha => ?_⟩
  obtain ⟨_, _, f, t, h1, h2, h3, h4⟩ := T a ha
  dsimp only
  rw [h3, h4, nI_clamp (by omega), nI_clamp (by omega)]
  exact ⟨rfl, rfl, h1, h2⟩
theorem fc_unlike (I : fd_Inv k h) (x y : Int32) : fd_Ag k h 85 [some (.ref (0)), some (.int (x)), some (.int (y)), none, none] 170 [some (.ref (77)), some (.int (x)), some (.int (y)), none] := by
  have I0 := I; obtain ⟨fb, bb, dr, ns, np, nb, t, hk, F, ht, TX, B0, B1, FE, BA, OF, PL⟩ := I0; have F0 := F; simp only [fd_Fl, Nat.reduceAdd] at F0; obtain ⟨⟨b1, b2, b3, b4⟩, ⟨f1, f2, f3, f4, f5, f6, f7⟩, ⟨g1, g2, g3, g4⟩, S, O, T⟩ := F0
  by_cases c1 : fd_wi x (nI 0) (nI ns - nI 1)
  · by_cases c2 : fd_wi y (nI 0) (nI 3000)
    · obtain ⟨s, hs, rfl⟩ := (fd_arg (by omega)).mp c1
      obtain ⟨x0, _, x2, rfl⟩ := (fd_argL (by omega) (by omega)).mp c2
      have Q := S s hs
      simp only [fd_S1, Nat.reduceAdd] at Q
      obtain ⟨_, ⟨M, M1, M2, M3, M4⟩, _⟩ := Q
      have B0' := B0
      have B1' := B1
      obtain ⟨nA, hA, eA, mA, TA⟩ := B0'
      obtain ⟨nB, hB, eB, mB, TB⟩ := B1'
      obtain ⟨fA, tA, FA⟩ := fd_bkft hA TA
      obtain ⟨fB, tB, FB⟩ := fd_bkft hB TB
      have lA := fd_cnt_le (f := fA) (t := tA) (x := x0) nA
      have lB := fd_cnt_le (f := fB) (t := tB) (x := x0) nB
      obtain ⟨R, r1, r2⟩ := fm_ulC (s := s) (x0 := x0) hk FA FB eA eB hA hB 41 0 x0 (by omega) (Nat.le_refl _) (by omega) (fun _ => by omega) (fun y y1 y2 => by omega)
      obtain ⟨R', r1', r2'⟩ := fm_ulM (s := s) (x0 := x0) hk (by omega) mA mB hA hB (3001 - x0) x0 (by omega) (Nat.le_refl _) (fun y y1 y2 => by omega)
      have eqP : ∀ y : Nat, (h.1 79 s * fd_fold (fd_owedF (fd_mdA h 0) (nI s) (nI y)) nA 0 (nI 0) = h.1 79 s * fd_fold (fd_owedF (fd_mdA h 1) (nI s) (nI y)) nB 0 (nI 0)) ↔ fd_fold (fd_owedF (fd_bkA h fb) (nI s) (nI y)) nA 0 (nI 0) = fd_fold (fd_owedF (fd_bkA h bb) (nI s) (nI y)) nB 0 (nI 0) := fun y => by
        rw [← fd_fold_eq (f := fd_owedF (fd_bkA h fb) (nI s) (nI y)) (g := fd_owedF (fd_mdA h 0) (nI s) (nI y)) (n := nA) (fun a _ ha z => fd_owedF_eq (TA a (by omega)).1), ← fd_fold_eq (f := fd_owedF (fd_bkA h bb) (nI s) (nI y)) (g := fd_owedF (fd_mdA h 1) (nI s) (nI y)) (n := nB) (fun a _ ha z => fd_owedF_eq (TB a (by omega)).1)]
        obtain ⟨u, u1, u2⟩ := fd_ow_sm (A := fd_bkA h fb) (s := nI s) (hr := nI y) hA (fun a ha => (TA a ha).2.1)
        obtain ⟨v, v1, v2⟩ := fd_ow_sm (A := fd_bkA h bb) (s := nI s) (hr := nI y) hB (fun a ha => (TB a ha).2.1)
        rw [u2, v2, M4, pk_mul, pk_mul]
        have b1 : M * u < 2 ^ 31 := Nat.lt_of_le_of_lt (Nat.mul_le_mul M2 u1) (by omega)
        have b2 : M * v < 2 ^ 31 := Nat.lt_of_le_of_lt (Nat.mul_le_mul M2 v1) (by omega)
        rw [nI_eq b1 b2, nI_eq (by omega) (by omega)]
        exact ⟨fun z => Nat.eq_of_mul_eq_mul_left (by omega) z, fun z => by rw [z]⟩
      have e : R = R' := by
        refine fd_ulR_eq r2 ?_
        have : (fun y => ¬ fd_fold (fd_owedF (fd_bkA h fb) (nI s) (nI y)) nA 0 (nI 0) = fd_fold (fd_owedF (fd_bkA h bb) (nI s) (nI y)) nB 0 (nI 0)) = fun y => ¬ h.1 79 s * fd_fold (fd_owedF (fd_mdA h 0) (nI s) (nI y)) nA 0 (nI 0) = h.1 79 s * fd_fold (fd_owedF (fd_mdA h 1) (nI s) (nI y)) nB 0 (nI 0) := funext fun y => by rw [propext (eqP y)]
        rw [this]
        exact r2'
      subst e
      exact fd_ag_ro I (v := R) (w := R) (by simp (disch := first | exact fd_nl_int | exact fd_nl_ref | exact fd_nl_none | assumption | exact nI_ne0 (by omega) (by omega) | exact fd_nb0 | exact fd_nb1 | exact fd_nbb | omega) only [fs_85_0, fs_85_1, fs_85_2_p0 hk, fs_85_5, fs_85_8, fs_85_10, fs_85_11, fs_85_12, fs_85_15, fs_85_18, fs_85_20, fs_85_21, fs_85_22, fs_85_23, fs_85_24, fs_85_28, fs_85_30, fs_85_33, fs_85_34, fs_85_37, fs_85_40, fs_85_41_p0 hk, fs_85_44, fs_85_45, fs_85_46 hk, fs_85_49, fs_85_50_p0 hk, fs_85_53, fs_85_54, fs_85_55 hk, fs_85_58, fs_85_61, fs_85_62, fs_85_63, fs_85_64_p0 hk, fs_85_67, fs_85_68 hk, fs_85_71, fs_85_72_p0 hk, fs_85_75, fs_85_76 hk, fs_85_79, fs_85_82, fs_85_83, fs_85_86, fs_85_89, fs_85_90, Option.bind_some, Option.toList_some, Option.toList_none, List.cons_append, List.nil_append, fd_nb0, fd_nb1, fd_nbb, fd_b0, nI_add, pk_mul, ite_not, Classical.not_not, not_false_iff, not_true, and_self, or_true, true_or, ↓reduceIte, if_true, if_false, ite_self, fd_mI, fd_mH, fd_mL, fd_p0, fd_w0, fd_w1, fd_w2, fd_10, fd_00, fm_isShip hk, fm_isHour, fm_isBook, fm_within, fm_isCell, fm_canPass hk, f1, f2, f4, eq_true c1, eq_true c2, r1, r1']) (by simp (disch := first | exact fd_nl_int | exact fd_nl_ref | exact fd_nl_none | assumption | exact nI_ne0 (by omega) (by omega) | exact fd_nb0 | exact fd_nb1 | exact fd_nbb | omega) only [fs_170_0, fs_170_1, fs_170_2_p77 hk, fs_170_5, fs_170_8, fs_170_10, fs_170_11, fs_170_12, fs_170_15, fs_170_18, fs_170_20, fs_170_21, fs_170_22, fs_170_24, fs_170_27, fs_170_30, fs_170_31, fs_170_32, fs_170_33, fs_170_34_p77 hk, fs_170_37, fs_170_38, fs_170_39, fs_170_40, fs_170_41_p77 hk, fs_170_44, fs_170_47, fs_170_48, fs_170_49, fs_170_52, fs_170_55, fs_170_56, Option.bind_some, Option.toList_some, Option.toList_none, List.cons_append, List.nil_append, fd_nb0, fd_nb1, fd_nbb, fd_b0, nI_add, pk_mul, ite_not, Classical.not_not, not_false_iff, not_true, and_self, or_true, true_or, ↓reduceIte, if_true, if_false, ite_self, fd_mI, fd_mH, fd_mL, fd_p0, fd_w0, fd_w1, fd_w2, fd_10, fd_00, fm_mIsShip hk, fm_mIn, fm_mIsHour, fm_mIsBook, fm_mIsCell, f3, f5, ht, eq_true c1, eq_true c2, r1, r1']) rfl
    · exact fd_ag_ro I (v := -3) (w := -3) (by simp (disch := first | exact fd_nl_int | exact fd_nl_ref | exact fd_nl_none | assumption | exact nI_ne0 (by omega) (by omega) | exact fd_nb0 | exact fd_nb1 | exact fd_nbb | omega) only [fs_85_0, fs_85_1, fs_85_2_p0 hk, fs_85_5, fs_85_8, fs_85_10, fs_85_11, fs_85_12, fs_85_15, fs_85_18, fs_85_20, fs_85_21, fs_85_22, fs_85_23, fs_85_24, fs_85_28, fs_85_30, fs_85_33, fs_85_34, fs_85_37, fs_85_40, fs_85_41_p0 hk, fs_85_44, fs_85_45, fs_85_46 hk, fs_85_49, fs_85_50_p0 hk, fs_85_53, fs_85_54, fs_85_55 hk, fs_85_58, fs_85_61, fs_85_62, fs_85_63, fs_85_64_p0 hk, fs_85_67, fs_85_68 hk, fs_85_71, fs_85_72_p0 hk, fs_85_75, fs_85_76 hk, fs_85_79, fs_85_82, fs_85_83, fs_85_86, fs_85_89, fs_85_90, Option.bind_some, Option.toList_some, Option.toList_none, List.cons_append, List.nil_append, fd_nb0, fd_nb1, fd_nbb, fd_b0, nI_add, pk_mul, ite_not, Classical.not_not, not_false_iff, not_true, and_self, or_true, true_or, ↓reduceIte, if_true, if_false, ite_self, fd_mI, fd_mH, fd_mL, fd_p0, fd_w0, fd_w1, fd_w2, fd_10, fd_00, fm_isShip hk, fm_isHour, fm_isBook, fm_within, fm_isCell, fm_canPass hk, f1, f2, f4, eq_true c1, c2]) (by simp (disch := first | exact fd_nl_int | exact fd_nl_ref | exact fd_nl_none | assumption | exact nI_ne0 (by omega) (by omega) | exact fd_nb0 | exact fd_nb1 | exact fd_nbb | omega) only [fs_170_0, fs_170_1, fs_170_2_p77 hk, fs_170_5, fs_170_8, fs_170_10, fs_170_11, fs_170_12, fs_170_15, fs_170_18, fs_170_20, fs_170_21, fs_170_22, fs_170_24, fs_170_27, fs_170_30, fs_170_31, fs_170_32, fs_170_33, fs_170_34_p77 hk, fs_170_37, fs_170_38, fs_170_39, fs_170_40, fs_170_41_p77 hk, fs_170_44, fs_170_47, fs_170_48, fs_170_49, fs_170_52, fs_170_55, fs_170_56, Option.bind_some, Option.toList_some, Option.toList_none, List.cons_append, List.nil_append, fd_nb0, fd_nb1, fd_nbb, fd_b0, nI_add, pk_mul, ite_not, Classical.not_not, not_false_iff, not_true, and_self, or_true, true_or, ↓reduceIte, if_true, if_false, ite_self, fd_mI, fd_mH, fd_mL, fd_p0, fd_w0, fd_w1, fd_w2, fd_10, fd_00, fm_mIsShip hk, fm_mIn, fm_mIsHour, fm_mIsBook, fm_mIsCell, f3, f5, ht, eq_true c1, c2]) rfl
  · exact fd_ag_ro I (v := -2) (w := -2) (by simp (disch := first | exact fd_nl_int | exact fd_nl_ref | exact fd_nl_none | assumption | exact nI_ne0 (by omega) (by omega) | exact fd_nb0 | exact fd_nb1 | exact fd_nbb | omega) only [fs_85_0, fs_85_1, fs_85_2_p0 hk, fs_85_5, fs_85_8, fs_85_10, fs_85_11, fs_85_12, fs_85_15, fs_85_18, fs_85_20, fs_85_21, fs_85_22, fs_85_23, fs_85_24, fs_85_28, fs_85_30, fs_85_33, fs_85_34, fs_85_37, fs_85_40, fs_85_41_p0 hk, fs_85_44, fs_85_45, fs_85_46 hk, fs_85_49, fs_85_50_p0 hk, fs_85_53, fs_85_54, fs_85_55 hk, fs_85_58, fs_85_61, fs_85_62, fs_85_63, fs_85_64_p0 hk, fs_85_67, fs_85_68 hk, fs_85_71, fs_85_72_p0 hk, fs_85_75, fs_85_76 hk, fs_85_79, fs_85_82, fs_85_83, fs_85_86, fs_85_89, fs_85_90, Option.bind_some, Option.toList_some, Option.toList_none, List.cons_append, List.nil_append, fd_nb0, fd_nb1, fd_nbb, fd_b0, nI_add, pk_mul, ite_not, Classical.not_not, not_false_iff, not_true, and_self, or_true, true_or, ↓reduceIte, if_true, if_false, ite_self, fd_mI, fd_mH, fd_mL, fd_p0, fd_w0, fd_w1, fd_w2, fd_10, fd_00, fm_isShip hk, fm_isHour, fm_isBook, fm_within, fm_isCell, fm_canPass hk, f1, f2, f4, c1]) (by simp (disch := first | exact fd_nl_int | exact fd_nl_ref | exact fd_nl_none | assumption | exact nI_ne0 (by omega) (by omega) | exact fd_nb0 | exact fd_nb1 | exact fd_nbb | omega) only [fs_170_0, fs_170_1, fs_170_2_p77 hk, fs_170_5, fs_170_8, fs_170_10, fs_170_11, fs_170_12, fs_170_15, fs_170_18, fs_170_20, fs_170_21, fs_170_22, fs_170_24, fs_170_27, fs_170_30, fs_170_31, fs_170_32, fs_170_33, fs_170_34_p77 hk, fs_170_37, fs_170_38, fs_170_39, fs_170_40, fs_170_41_p77 hk, fs_170_44, fs_170_47, fs_170_48, fs_170_49, fs_170_52, fs_170_55, fs_170_56, Option.bind_some, Option.toList_some, Option.toList_none, List.cons_append, List.nil_append, fd_nb0, fd_nb1, fd_nbb, fd_b0, nI_add, pk_mul, ite_not, Classical.not_not, not_false_iff, not_true, and_self, or_true, true_or, ↓reduceIte, if_true, if_false, ite_self, fd_mI, fd_mH, fd_mL, fd_p0, fd_w0, fd_w1, fd_w2, fd_10, fd_00, fm_mIsShip hk, fm_mIn, fm_mIsHour, fm_mIsBook, fm_mIsCell, f3, f5, ht, c1]) rfl
end UNL
