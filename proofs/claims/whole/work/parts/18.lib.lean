/-! SMALL THINGS that the walks of the pure machine lean on -/
theorem fd_nl_int {x : Int32} : fd_nl (some (.int x)) = true := by unfold fd_nl; rfl
theorem fd_nl_ref {x : Nat} : fd_nl (some (.ref x)) = true := by unfold fd_nl; rfl
theorem fd_nl_none : fd_nl none = true := by unfold fd_nl; rfl
theorem fd_nb0 : narrow .boolean (.int (nI 0)) = .int (nI 0) := by decide
theorem fd_nb1 : narrow .boolean (.int (nI 1)) = .int (nI 1) := by decide
/-- a yes or no as the machine has it -/
def fd_b (c : Prop) [Decidable c] : Int32 := if c then nI 1 else nI 0
section LIB
theorem fd_nbb {c : Prop} [Decidable c] : narrow .boolean (.int (fd_b c)) = .int (fd_b c) := by
  unfold fd_b; split <;> decide
theorem fd_b0 {c : Prop} [Decidable c] : (fd_b c = 0) = ¬ c := by
  unfold fd_b
  by_cases h : c
  · rw [if_pos h]; simp only [h, not_true]; decide
  · rw [if_neg h]; simp only [h, not_false_iff]; decide
theorem fd_b1 {c : Prop} [Decidable c] : (fd_b c = nI 1) = c := by
  unfold fd_b
  by_cases h : c
  · rw [if_pos h]; simp only [h]
  · rw [if_neg h]; simp only [h]; decide
theorem fd_bt {c : Prop} [Decidable c] (h : c) : fd_b c = nI 1 := if_pos h
theorem fd_bf {c : Prop} [Decidable c] (h : ¬ c) : fd_b c = nI 0 := if_neg h
theorem fd_bc {c d : Prop} [Decidable c] [Decidable d] (h : c ↔ d) : fd_b c = fd_b d := by
  unfold fd_b
  by_cases z : c
  · rw [if_pos z, if_pos (h.mp z)]
  · rw [if_neg z, if_neg (fun y => z (h.mpr y))]
theorem fd_mI {c : Prop} [Decidable c] {a b : Int32} {k : fd_Sk} {h g : fd_Hp} : (if c then some (some (Value.int a), (k, h)) else some (some (Value.int b), (k, g))) = some (some (Value.int (if c then a else b)), (k, if c then h else g)) := by
  split <;> rfl
theorem fd_mH {c : Prop} [Decidable c] {k : fd_Sk} {h g : fd_Hp} : (if c then some ((none : Option Value), (k, h)) else some (none, (k, g))) = some (none, (k, if c then h else g)) := by
  split <;> rfl
theorem fd_mF {c : Prop} [Decidable c] {α : Type} {f : Nat → α → α} {m i : Nat} {x y : α} {g : Nat → Nat → α → α} : (if c then g m i x else g m i y) = g m i (if c then x else y) := by
  split <;> rfl
end LIB
/-- a loop that counts up -/
def fd_fold {α : Type} (f : Nat → α → α) : Nat → Nat → α → α
  | 0, _, x => x
  | n + 1, i, x => fd_fold f n (i + 1) (f i x)
theorem fd_fold0 {α : Type} {f : Nat → α → α} {i : Nat} {x : α} : fd_fold f 0 i x = x := rfl
theorem fd_foldS {α : Type} {f : Nat → α → α} {n i : Nat} {x : α} : fd_fold f (n + 1) i x = fd_fold f n (i + 1) (f i x) := rfl
theorem fd_mL {α : Type} {c : Prop} [Decidable c] {f : Nat → α → α} {m i : Nat} {x y : α} : (if c then fd_fold f m i x else fd_fold f m i y) = fd_fold f m i (if c then x else y) := by
  split <;> rfl
theorem fd_fold_eq {α : Type} {f g : Nat → α → α} {n i : Nat} {x : α} (h : ∀ a, i ≤ a → a < i + n → ∀ y, f a y = g a y) : fd_fold f n i x = fd_fold g n i x := by
  induction n generalizing i x with
  | zero => rfl
  | succ n ih => rw [fd_foldS, fd_foldS, h i (Nat.le_refl i) (by omega) x, ih (fun a h1 h2 => h a (by omega) (by omega))]
theorem fd_fold_in {α : Type} {f : Nat → α → α} {P : Nat → α → Prop} (n : Nat) {i : Nat} {x : α} (h0 : P i x) (hs : ∀ a, i ≤ a → a < i + n → ∀ y, P a y → P (a + 1) (f a y)) : P (i + n) (fd_fold f n i x) := by
  induction n generalizing i x with
  | zero => exact h0
  | succ n ih =>
    rw [fd_foldS, show i + (n + 1) = (i + 1) + n by omega]
    exact ih (hs i (Nat.le_refl i) (by omega) x h0) (fun a h1 h2 => hs a (by omega) (by omega))
/-- two loops side by side -/
theorem fd_fold_2 {α β : Type} {f : Nat → α → α} {g : Nat → β → β} {P : Nat → α → β → Prop} (n : Nat) {i : Nat} {x : α} {y : β} (h0 : P i x y) (hs : ∀ a, i ≤ a → a < i + n → ∀ u v, P a u v → P (a + 1) (f a u) (g a v)) : P (i + n) (fd_fold f n i x) (fd_fold g n i y) := by
  induction n generalizing i x y with
  | zero => exact h0
  | succ n ih =>
    rw [fd_foldS, fd_foldS, show i + (n + 1) = (i + 1) + n by omega]
    exact ih (hs i (Nat.le_refl i) (by omega) x y h0) (fun a h1 h2 => hs a (by omega) (by omega))
theorem fd_p0 {x : Int32} : x + nI 0 = x := by rw [nI_0]; exact Int32.add_zero x
abbrev fd_wi (v l m : Int32) : Prop := ¬ v < l ∧ ¬ m < v
/-- is member m in the set -/
abbrev fd_has (s m : Int32) : Prop := ¬ (s >>> (m &&& 31)) &&& nI 1 = 0
theorem fd_w1 {h : fd_Hp} {p j q i : Nat} {x : Int32} (hn : ¬ q = p) : (fd_w h p j x).1 q i = h.1 q i := if_neg fun z => hn z.1
theorem fd_w0 {h : fd_Hp} {p j : Nat} {x : Int32} : (fd_w h p j x).1 p j = x := if_pos ⟨rfl, rfl⟩
theorem fd_w2 {h : fd_Hp} {p j i : Nat} {x : Int32} (hn : ¬ i = j) : (fd_w h p j x).1 p i = h.1 p i := if_neg fun z => hn z.2
theorem fd_10 : (nI 1 = 0) = False := eq_false (by decide)
theorem fd_00 : (nI 0 = 0) = True := eq_true rfl
