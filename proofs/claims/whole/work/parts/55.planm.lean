/-! PLANS in whole numbers: to ask the best of what is left is as good as any plan -/
section PLANM
def fd_z (x : Int) : Int32 := Int32.ofInt x
theorem fd_zT {x : Int} (h1 : -1000000000 ≤ x) (h2 : x ≤ 1000000000) : (fd_z x).toInt = x := Int32.toInt_ofInt_of_le (by omega) (by omega)
theorem fd_zadd {x y : Int} : fd_z x + fd_z y = fd_z (x + y) := (Int32.ofInt_add x y).symm
theorem fd_zsub {x y : Int} : fd_z x - fd_z y = fd_z (x - y) := (Int32.ofInt_sub x y).symm
theorem fd_zN {n : Nat} : fd_z (n : Int) = nI n := Int32.ofInt_eq_ofNat
theorem fd_zlt {x y : Int} (h1 : -1000000000 ≤ x) (h2 : x ≤ 1000000000) (h3 : -1000000000 ≤ y) (h4 : y ≤ 1000000000) : fd_z x < fd_z y ↔ x < y := by
  rw [Int32.lt_iff_toInt_lt, fd_zT h1 h2, fd_zT h3 h4]
theorem fd_zle {x y : Int} (h1 : -1000000000 ≤ x) (h2 : x ≤ 1000000000) (h3 : -1000000000 ≤ y) (h4 : y ≤ 1000000000) : fd_z x ≤ fd_z y ↔ x ≤ y := by
  rw [Int32.le_iff_toInt_le, fd_zT h1 h2, fd_zT h3 h4]
theorem fd_z0 : fd_z 0 = 0 := by decide
/-- the most that k asks outside a set can come to -/
def fd_bb (w : Nat → Int) : Nat → Nat → Int
  | 0, _ => 0
  | k + 1, S => fd_fold (fun a x => if S.testBit a = true then x else max x (w a + fd_bb w k (S ||| 2 ^ a))) 5 0 0
theorem fd_mx {B : Nat → Bool} {v : Nat → Int} : ∀ n, 0 ≤ fd_fold (fun a x => if B a = true then x else max x (v a)) n 0 0 ∧ (∀ a, a < n → B a = false → v a ≤ fd_fold (fun a x => if B a = true then x else max x (v a)) n 0 0) ∧ (fd_fold (fun a x => if B a = true then x else max x (v a)) n 0 0 = 0 ∨ ∃ a, a < n ∧ B a = false ∧ fd_fold (fun a x => if B a = true then x else max x (v a)) n 0 0 = v a) := by
  intro n
  induction n with
  | zero => exact ⟨Int.le_refl 0, fun a ha => absurd ha (Nat.not_lt_zero a), Or.inl rfl⟩
  | succ n ih =>
    rw [fd_fold_end, Nat.zero_add]
    generalize fd_fold (fun a x => if B a = true then x else max x (v a)) n 0 0 = X at ih
    obtain ⟨i1, i2, i3⟩ := ih
    cases q : B n
    · simp only [q, Bool.false_eq_true, if_false]
      refine ⟨by omega, fun a ha hb => ?_, ?_⟩
      · by_cases z : a = n
        · subst z; omega
        · have := i2 a (by omega) hb
          omega
      · by_cases z : v n ≤ X
        · rw [Int.max_eq_left z]
          exact i3.imp id (fun ⟨a, h1, h2⟩ => ⟨a, by omega, h2⟩)
        · rw [Int.max_eq_right (by omega)]
          exact Or.inr ⟨n, by omega, q, rfl⟩
    · simp only [q, if_true]
      refine ⟨i1, fun a ha hb => ?_, i3.imp id (fun ⟨a, h1, h2⟩ => ⟨a, by omega, h2⟩)⟩
      by_cases z : a = n
      · subst z; rw [q] at hb; exact absurd hb (by decide)
      · exact i2 a (by omega) hb
theorem fd_bb_s {w : Nat → Int} {k S : Nat} : 0 ≤ fd_bb w (k + 1) S ∧ (∀ a, a < 5 → S.testBit a = false → w a + fd_bb w k (S ||| 2 ^ a) ≤ fd_bb w (k + 1) S) ∧ (fd_bb w (k + 1) S = 0 ∨ ∃ a, a < 5 ∧ S.testBit a = false ∧ fd_bb w (k + 1) S = w a + fd_bb w k (S ||| 2 ^ a)) := fd_mx (B := fun a => S.testBit a) (v := fun a => w a + fd_bb w k (S ||| 2 ^ a)) 5
theorem fd_bb_0 {w : Nat → Int} {k S : Nat} : 0 ≤ fd_bb w k S := by
  cases k with
  | zero => exact Int.le_refl 0
  | succ k => exact fd_bb_s.1
theorem fd_out {S a c : Nat} : (S ||| 2 ^ a).testBit c = (S.testBit c || decide (a = c)) := by rw [Nat.testBit_or, Nat.testBit_two_pow]
theorem fd_bb_x {w : Nat → Int} : ∀ (k S a m : Nat), a < 5 → m < 5 → S.testBit a = false → S.testBit m = false → w a ≤ w m → w a + fd_bb w k (S ||| 2 ^ a) ≤ w m + fd_bb w k (S ||| 2 ^ m) := by
  intro k
  induction k with
  | zero =>
    intro S a m _ _ _ _ hw
    show w a + 0 ≤ w m + 0
    omega
  | succ k ih =>
    intro S a m ha hm sa sm hw
    rcases (fd_bb_s (w := w) (k := k) (S := S ||| 2 ^ a)).2.2 with e | ⟨c, hc, sc, e⟩
    · have := fd_bb_0 (w := w) (k := k + 1) (S := S ||| 2 ^ m)
      omega
    · rw [fd_out, Bool.or_eq_false_iff] at sc
      obtain ⟨sc, nc⟩ := sc
      have nc := of_decide_eq_false nc
      by_cases d : a = m
      · subst d; omega
      · by_cases d2 : c = m
        · subst d2
          have q := (fd_bb_s (w := w) (k := k) (S := S ||| 2 ^ c)).2.1 a ha (by rw [fd_out, sa, decide_eq_false (fun z => d z.symm)]; rfl)
          have o : S ||| 2 ^ a ||| 2 ^ c = S ||| 2 ^ c ||| 2 ^ a := by rw [Nat.or_assoc, Nat.or_assoc, Nat.or_comm (2 ^ a)]
          rw [o] at e
          omega
        · have q := (fd_bb_s (w := w) (k := k) (S := S ||| 2 ^ m)).2.1 c hc (by rw [fd_out, sc, decide_eq_false (fun z => d2 z.symm)]; rfl)
          have i := ih (S ||| 2 ^ c) a m ha hm (by rw [fd_out, sa, decide_eq_false (fun z => nc z.symm)]; rfl) (by rw [fd_out, sm, decide_eq_false d2]; rfl) hw
          have o1 : S ||| 2 ^ a ||| 2 ^ c = S ||| 2 ^ c ||| 2 ^ a := by rw [Nat.or_assoc, Nat.or_assoc, Nat.or_comm (2 ^ a)]
          have o2 : S ||| 2 ^ m ||| 2 ^ c = S ||| 2 ^ c ||| 2 ^ m := by rw [Nat.or_assoc, Nat.or_assoc, Nat.or_comm (2 ^ m)]
          rw [o1] at e
          rw [o2] at q
          omega
theorem fd_bb_top {w : Nat → Int} {k S m : Nat} (hm : m < 5) (sm : S.testBit m = false) (h0 : 0 ≤ w m) (hx : ∀ a, a < 5 → S.testBit a = false → w a ≤ w m) : fd_bb w (k + 1) S = w m + fd_bb w k (S ||| 2 ^ m) := by
  obtain ⟨q1, q2, q3⟩ := fd_bb_s (w := w) (k := k) (S := S)
  have h1 := q2 m hm sm
  have h2 := fd_bb_0 (w := w) (k := k) (S := S ||| 2 ^ m)
  rcases q3 with e | ⟨a, ha, sa, e⟩
  · omega
  · have := fd_bb_x k S a m ha hm sa sm (hx a ha sa)
    omega
theorem fd_bb_none {w : Nat → Int} : ∀ (k S : Nat), (∀ a, a < 5 → S.testBit a = false → w a ≤ 0) → fd_bb w k S = 0 := by
  intro k
  induction k with
  | zero => exact fun _ _ => rfl
  | succ k ih =>
    intro S hx
    obtain ⟨q1, q2, q3⟩ := fd_bb_s (w := w) (k := k) (S := S)
    rcases q3 with e | ⟨a, ha, sa, e⟩
    · exact e
    · have i := ih (S ||| 2 ^ a) (fun c hc sc => hx c hc (by
        rw [fd_out, Bool.or_eq_false_iff] at sc
        exact sc.1))
      have := hx a ha sa
      omega
theorem fd_bb_bd {w : Nat → Int} (hw : ∀ a, a < 5 → w a ≤ 20) : ∀ (k S : Nat), fd_bb w k S ≤ 20 * k := by
  intro k
  induction k with
  | zero => exact fun _ => Int.le_refl 0
  | succ k ih =>
    intro S
    obtain ⟨q1, q2, q3⟩ := fd_bb_s (w := w) (k := k) (S := S)
    rcases q3 with e | ⟨a, ha, sa, e⟩
    · omega
    · have := ih (S ||| 2 ^ a)
      have := hw a ha
      omega
theorem fd_bs5 : ∀ S, S < 32 → ∀ a, a < 5 → S ||| 2 ^ a < 32 ∧ (S.testBit a = false → fd_bs (S ||| 2 ^ a) 12 = fd_bs S 12 + 1 ∧ S < S ||| 2 ^ a) := by decide +kernel
/-- the first that is so -/
def fd_first (P : Nat → Prop) [DecidablePred P] : Nat → Nat → Int32
  | 0, _ => -1
  | m + 1, a => if P a then nI a else fd_first P m (a + 1)
end PLANM
