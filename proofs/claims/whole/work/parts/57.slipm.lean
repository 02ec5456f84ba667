/-! SLIPPING in plain numbers: four neighbours, or all cells tried -/
section SLIPM
def fd_xI (c d : Nat) : Int32 := nI (c % 8) - fd_tab [1, 0, -1, 0] d
def fd_yI (c d : Nat) : Int32 := nI (c / 8) - fd_tab [0, 1, 0, -1] d
def fd_nbI (c d : Nat) : Nat := (nI 8 * fd_yI c d + fd_xI c d).toNatClampNeg
def fd_okB (w c d : Nat) : Bool := !decide (d = (w + 2) % 4) && decide (fd_wi (fd_xI c d) (nI 0) (nI 7)) && decide (fd_wi (fd_yI c d) (nI 0) (nI 7))
theorem fd_nb_ok : ∀ c, c < 64 → ∀ d, d < 4 → fd_wi (fd_xI c d) (nI 0) (nI 7) → fd_wi (fd_yI c d) (nI 0) (nI 7) → nI 8 * fd_yI c d + fd_xI c d = nI (fd_nbI c d) ∧ fd_nbI c d < 64 := by decide +kernel
def fd_dx (a c : Nat) : Int32 := nI (c % 8) - nI (a % 8)
def fd_dy (a c : Nat) : Int32 := nI (c / 8) - nI (a / 8)
def fd_goB (w a c : Nat) : Bool := decide (fd_dx a c * fd_dx a c + fd_dy a c * fd_dy a c = nI 1) && !(if w = 0 then decide (fd_dx a c = -1) else if w = 1 then decide (fd_dy a c = -1) else if w = 2 then decide (fd_dx a c = nI 1) else decide (fd_dy a c = nI 1))
def fd_nbB (w a c : Nat) : Bool := (fd_okB w c 0 && fd_nbI c 0 == a) || (fd_okB w c 1 && fd_nbI c 1 == a) || (fd_okB w c 2 && fd_nbI c 2 == a) || (fd_okB w c 3 && fd_nbI c 3 == a)
set_option maxRecDepth 100000 in
theorem fd_go_nb : ∀ w, w < 4 → ∀ c, c < 64 → ∀ a, a < 64 → fd_goB w a c = fd_nbB w a c := by decide +kernel
theorem fd_go_iff {w a c : Nat} (hw : w < 4) (hc : c < 64) (ha : a < 64) : fd_goB w a c = true ↔ ∃ d, d < 4 ∧ fd_okB w c d = true ∧ fd_nbI c d = a := by
  rw [fd_go_nb w hw c hc a ha]
  unfold fd_nbB
  simp only [Bool.or_eq_true, Bool.and_eq_true, beq_iff_eq]
  constructor
  · rintro (((z | z) | z) | z)
    · exact ⟨0, by omega, z⟩
    · exact ⟨1, by omega, z⟩
    · exact ⟨2, by omega, z⟩
    · exact ⟨3, by omega, z⟩
  · rintro ⟨d, hd, z⟩
    obtain rfl | rfl | rfl | rfl : d = 0 ∨ d = 1 ∨ d = 2 ∨ d = 3 := by omega
    · exact Or.inl (Or.inl (Or.inl z))
    · exact Or.inl (Or.inl (Or.inr z))
    · exact Or.inl (Or.inr z)
    · exact Or.inr z
/-- the least of those that are meant -/
def fd_mnF (B : Nat → Bool) (v : Nat → Nat) (a x : Nat) : Nat := if B a = true then (if v a < x then v a else x) else x
theorem fd_mnf {B : Nat → Bool} {v : Nat → Nat} : ∀ (n i x0 : Nat), fd_fold (fd_mnF B v) n i x0 ≤ x0 ∧ (∀ a, i ≤ a → a < i + n → B a = true → fd_fold (fd_mnF B v) n i x0 ≤ v a) ∧ (fd_fold (fd_mnF B v) n i x0 = x0 ∨ ∃ a, i ≤ a ∧ a < i + n ∧ B a = true ∧ fd_fold (fd_mnF B v) n i x0 = v a) := by
  intro n i x0
  induction n with
  | zero => exact ⟨Nat.le_refl _, fun a h1 h2 => by omega, Or.inl rfl⟩
  | succ n ih =>
    rw [fd_fold_end]
    generalize fd_fold (fd_mnF B v) n i x0 = X at ih
    obtain ⟨i1, i2, i3⟩ := ih
    unfold fd_mnF
    by_cases q : B (i + n) = true
    · rw [if_pos q]
      by_cases z : v (i + n) < X
      · rw [if_pos z]
        refine ⟨by omega, fun a h1 h2 hb => ?_, Or.inr ⟨i + n, by omega, by omega, q, rfl⟩⟩
        by_cases y : a = i + n
        · subst y; exact Nat.le_refl _
        · have := i2 a h1 (by omega) hb
          omega
      · rw [if_neg z]
        refine ⟨i1, fun a h1 h2 hb => ?_, i3.imp id (fun ⟨a, z1, z2, z3⟩ => ⟨a, z1, by omega, z3⟩)⟩
        by_cases y : a = i + n
        · subst y; omega
        · exact i2 a h1 (by omega) hb
    · rw [if_neg q]
      refine ⟨i1, fun a h1 h2 hb => ?_, i3.imp id (fun ⟨a, z1, z2, z3⟩ => ⟨a, z1, by omega, z3⟩)⟩
      by_cases y : a = i + n
      · subst y; exact absurd hb q
      · exact i2 a h1 (by omega) hb
def fd_m1 (w c : Nat) (f : Nat → Nat) : Nat := fd_fold (fd_mnF (fun d => fd_okB w c d) (fun d => f (fd_nbI c d))) 4 0 (f c)
theorem fd_nb_lt {w c d : Nat} (hc : c < 64) (hd : d < 4) (h : fd_okB w c d = true) : fd_nbI c d < 64 := by
  unfold fd_okB at h
  simp only [Bool.and_eq_true] at h
  exact (fd_nb_ok c hc d hd (of_decide_eq_true h.1.2) (of_decide_eq_true h.2)).2
theorem fd_m12 {w c : Nat} {f : Nat → Nat} (hw : w < 4) (hc : c < 64) : fd_fold (fd_mnF (fun a => fd_goB w a c) f) 64 0 (f c) = fd_m1 w c f := by
  obtain ⟨a1, a2, a3⟩ := fd_mnf (B := fun a => fd_goB w a c) (v := f) 64 0 (f c)
  obtain ⟨b1, b2, b3⟩ := fd_mnf (B := fun d => fd_okB w c d) (v := fun d => f (fd_nbI c d)) 4 0 (f c)
  unfold fd_m1
  refine Nat.le_antisymm ?_ ?_
  · rcases b3 with e | ⟨d, d1, d2, d3, e⟩
    · rw [e]; exact a1
    · rw [e]
      have lt := fd_nb_lt hc (by omega) d3
      exact a2 _ (Nat.zero_le _) (by omega) ((fd_go_iff hw hc lt).mpr ⟨d, by omega, d3, rfl⟩)
  · rcases a3 with e | ⟨a, z1, z2, z3, e⟩
    · rw [e]; exact b1
    · rw [e]
      obtain ⟨d, d1, d2, d3⟩ := (fd_go_iff hw hc (by omega)).mp z3
      have := b2 d (Nat.zero_le _) (by omega) d2
      rw [d3] at this
      exact this
theorem fd_m1_in {w c : Nat} {f : Nat → Nat} (hc : c < 64) {P : Nat → Prop} (h : ∀ c, c < 64 → P (f c)) : P (fd_m1 w c f) := by
  obtain ⟨b1, b2, b3⟩ := fd_mnf (B := fun d => fd_okB w c d) (v := fun d => f (fd_nbI c d)) 4 0 (f c)
  unfold fd_m1
  rcases b3 with e | ⟨d, d1, d2, d3, e⟩
  · rw [e]; exact h c hc
  · rw [e]; exact h _ (fd_nb_lt hc (by omega) d3)
/-- an hour's end: what each cell costs at least; those away are taken out -/
def fd_st (E : Bool) (w : Nat) (C f : Nat → Nat) (c : Nat) : Nat := if (if E = true then fd_m1 w c f else f c) = 1000000 then 1000000 else (if E = true then fd_m1 w c f else f c) + C c
def fd_ta (g : Nat → Nat) (x : Nat) : Nat := fd_fold (fd_mnF (fun _ => true) g) 8 56 x
def fd_slp (w t : Nat) (C : Nat → Nat) (i : Nat) (s : (Nat → Nat) × Nat) : (Nat → Nat) × Nat := (fun c => if 55 < c then 1000000 else fd_st (decide (6 ≤ (t + i) % 12)) w C s.1 c, if fd_ta (fd_st (decide (6 ≤ (t + i) % 12)) w C s.1) 1000000 < s.2 then fd_ta (fd_st (decide (6 ≤ (t + i) % 12)) w C s.1) 1000000 else s.2)
def fd_bdS (i : Nat) (f : Nat → Nat) : Prop := ∀ c, c < 64 → f c = 1000000 ∨ f c ≤ 200 * i
theorem fd_st_bd {E : Bool} {w i : Nat} {C f : Nat → Nat} (hf : fd_bdS i f) (hC : ∀ c, c < 64 → C c ≤ 200) : fd_bdS (i + 1) (fd_st E w C f) := by
  intro c hc
  unfold fd_st
  have q : (if E = true then fd_m1 w c f else f c) = 1000000 ∨ (if E = true then fd_m1 w c f else f c) ≤ 200 * i := by
    split
    · exact fd_m1_in (P := fun x => x = 1000000 ∨ x ≤ 200 * i) hc hf
    · exact hf c hc
  generalize (if E = true then fd_m1 w c f else f c) = b at q
  have := hC c hc
  split <;> omega
theorem fd_slp_bd {w t i : Nat} {C : Nat → Nat} {s : (Nat → Nat) × Nat} (hf : fd_bdS i s.1) (hC : ∀ c, c < 64 → C c ≤ 200) : fd_bdS (i + 1) (fd_slp w t C i s).1 := by
  intro c hc
  have := fd_st_bd (E := decide (6 ≤ (t + i) % 12)) (w := w) hf hC c hc
  show (if 55 < c then 1000000 else _) = 1000000 ∨ (if 55 < c then 1000000 else _) ≤ 200 * (i + 1)
  split
  · exact Or.inl rfl
  · exact this
/-- the reference looks through all cells for those that are away -/
theorem fd_ta2 {g : Nat → Nat} {L : Nat} (hg : ∀ c, c < 64 → g c ≤ 1000000) : fd_fold (fd_mnF (fun c => decide (55 < c)) g) 64 0 L = if fd_ta g 1000000 < L then fd_ta g 1000000 else L := by
  obtain ⟨a1, a2, a3⟩ := fd_mnf (B := fun c => decide (55 < c)) (v := g) 64 0 L
  obtain ⟨b1, b2, b3⟩ := fd_mnf (B := fun _ => true) (v := g) 8 56 1000000
  have e : fd_fold (fd_mnF (fun _ => true) g) 8 56 1000000 = fd_ta g 1000000 := rfl
  rw [e] at b1 b2 b3
  generalize fd_fold (fd_mnF (fun c => decide (55 < c)) g) 64 0 L = X at a1 a2 a3
  generalize fd_ta g 1000000 = Y at b1 b2 b3
  have k1 : X ≤ Y ∨ Y = 1000000 := by
    rcases b3 with e | ⟨a, z1, z2, z3, e⟩
    · exact Or.inr e
    · have := a2 a (by omega) (by omega) (decide_eq_true (by omega))
      exact Or.inl (by omega)
  have k2 : X = L ∨ Y ≤ X := by
    rcases a3 with e | ⟨a, z1, z2, z3, e⟩
    · exact Or.inl e
    · have z3 := of_decide_eq_true z3
      have := b2 a (by omega) (by omega) rfl
      exact Or.inr (by omega)
  have k3 : Y = 1000000 → X = L ∨ X = 1000000 := by
    intro y
    rcases a3 with e | ⟨a, z1, z2, z3, e⟩
    · exact Or.inl e
    · have z3 := of_decide_eq_true z3
      have := b2 a (by omega) (by omega) rfl
      have := hg a (by omega)
      exact Or.inr (by omega)
  have k4 : Y < 1000000 → X ≤ Y := fun y => k1.elim id (fun z => by omega)
  have k5 : Y = 1000000 → X ≤ 1000000 := by
    intro y
    have h56 := a2 56 (by omega) (by omega) (decide_eq_true (by omega))
    have := hg 56 (by omega)
    omega
  split
  · rcases Nat.lt_or_ge Y 1000000 with y | y
    · have := k4 y
      omega
    · have := k5 (by omega)
      have := k3 (by omega)
      omega
  · omega
/-- what the guns about come to at a cell -/
def fd_gF (cl rg gn : Nat → Nat) (c i x : Nat) : Nat := if nI (rg i) < fd_far (nI (cl i)) (nI c) then x else x + gn i
def fd_gC (cl rg gn : Nat → Nat) (n c : Nat) : Nat := fd_fold (fd_gF cl rg gn c) n 0 0
theorem fd_gC_le {cl rg gn : Nat → Nat} {n c : Nat} (hn : n ≤ 4) (hg : ∀ i, i < n → gn i ≤ 50) : fd_gC cl rg gn n c ≤ 200 := by
  have q := fd_fold_in (f := fd_gF cl rg gn c) (P := fun i x => x ≤ 50 * i) n (i := 0) (x := 0) (by omega) (fun a _ ha x P => by
    unfold fd_gF
    have := hg a (by omega)
    split <;> omega)
  unfold fd_gC
  simp only [Nat.zero_add] at q
  omega
end SLIPM
