/-! SMALL THINGS that the walks of the pure machine lean on -/
theorem fd_nl_int {x : Int32} : fd_nl (some (.int x)) = true := rfl
theorem fd_nl_ref {x : Nat} : fd_nl (some (.ref x)) = true := rfl
theorem fd_nl_none : fd_nl none = true := rfl
theorem fd_nb0 : narrow .boolean (.int (nI 0)) = .int (nI 0) := by decide
theorem fd_nb1 : narrow .boolean (.int (nI 1)) = .int (nI 1) := by decide
/-- a yes or no as the machine has it -/
def fd_bi (b : Bool) : Int32 := if b = true then nI 1 else nI 0
theorem fd_nbb (b : Bool) : narrow .boolean (.int (fd_bi b)) = .int (fd_bi b) := by cases b <;> decide
theorem fd_bi0 (b : Bool) : (fd_bi b = 0) = (b = false) := by cases b <;> decide
theorem fd_bit : fd_bi true = nI 1 := rfl
theorem fd_bif : fd_bi false = nI 0 := rfl
/-- a loop that counts up -/
def fd_fold {α : Type} (f : Nat → α → α) : Nat → Nat → α → α
  | 0, _, x => x
  | n + 1, i, x => fd_fold f n (i + 1) (f i x)
