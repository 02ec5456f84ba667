/-! THE TEXT in plain numbers: tokens, words, numbers -/
section TEXTM
theorem fd_wl1 {h : fd_Hp} {p : Nat} {x : Int64} : (fd_wl h p x).1 = h.1 := rfl
theorem fd_wl2 {h : fd_Hp} {p : Nat} {x : Int64} : (fd_wl h p x).2 p = x := if_pos rfl
theorem fd_w_2 {h : fd_Hp} {p j : Nat} {x : Int32} : (fd_w h p j x).2 = h.2 := rfl
/-- the first place from i on, m further at most, where P does not hold -/
def fd_run (P : Nat → Bool) : Nat → Nat → Nat
  | 0, i => i
  | m + 1, i => if P i = true then fd_run P m (i + 1) else i
theorem fd_run_le {P : Nat → Bool} : ∀ m i, i ≤ fd_run P m i ∧ fd_run P m i ≤ i + m := by
  intro m
  induction m with
  | zero => exact fun i => ⟨Nat.le_refl _, Nat.le_refl _⟩
  | succ m ih =>
    intro i
    unfold fd_run
    split
    · have := ih (i + 1); omega
    · omega
theorem fd_run_all {P : Nat → Bool} : ∀ m i j, i ≤ j → j < fd_run P m i → P j = true := by
  intro m
  induction m with
  | zero => exact fun i j h1 h2 => absurd h2 (Nat.not_lt.mpr h1)
  | succ m ih =>
    intro i j h1 h2
    unfold fd_run at h2
    by_cases c : P i = true
    · rw [if_pos c] at h2
      by_cases z : j = i
      · rw [z]; exact c
      · exact ih (i + 1) j (by omega) h2
    · rw [if_neg c] at h2
      omega
theorem fd_run_stop {P : Nat → Bool} : ∀ m i, fd_run P m i < i + m → ¬ P (fd_run P m i) = true := by
  intro m
  induction m with
  | zero => exact fun i h => absurd h (Nat.lt_irrefl _)
  | succ m ih =>
    intro i h
    unfold fd_run at h ⊢
    by_cases c : P i = true
    · rw [if_pos c] at h ⊢
      exact ih (i + 1) (by omega)
    · rw [if_neg c]
      exact c
def fd_row (c : Int32) : Nat := if fd_wi c (nI 97) (nI 122) then 1 else if fd_wi c (nI 48) (nI 57) then 2 else 0
section TOK
variable (n : Nat) (bt : Nat → Int32) (p : Nat)
def fd_tS : Nat := fd_run (fun i => decide (bt i = nI 32)) (n - p) p
def fd_tE : Nat := if fd_tS n bt p < n then (if fd_row (bt (fd_tS n bt p)) = 0 then fd_tS n bt p + 1 else fd_run (fun i => decide (fd_row (bt i) = fd_row (bt (fd_tS n bt p)))) (n - (fd_tS n bt p + 1)) (fd_tS n bt p + 1)) else n
def fd_tR : Nat := if fd_tS n bt p < n then fd_row (bt (fd_tS n bt p)) else 0
def fd_hI (s : Nat) : Nat → Int64
  | 0 => 0
  | L + 1 => 27 * fd_hI s L + (bt (s + L)).toInt64 - 96
def fd_nv (s : Nat) : Nat → Int32
  | 0 => nI 0
  | L + 1 => nI 10 * fd_nv s L + bt (s + L) - nI 48
/-- the reference's number of a token -/
def fd_tk : Int64 := if fd_tS n bt p < n then (if fd_row (bt (fd_tS n bt p)) = 1 then (if fd_tE n bt p - fd_tS n bt p ≤ 9 then fd_hI bt (fd_tS n bt p) (fd_tE n bt p - fd_tS n bt p) else -4) else if fd_row (bt (fd_tS n bt p)) = 2 then (if fd_tE n bt p - fd_tS n bt p ≤ 4 then -1 else -4) else if bt (fd_tS n bt p) = nI 59 then -3 else -4) else -2
def fd_num : Int32 := fd_nv bt (fd_tS n bt p) (fd_tE n bt p - fd_tS n bt p)
def fd_wdA (b i : Nat) : Int32 := (fd_txt.getD b []).getD i 0
def fd_wdL (b : Nat) : Nat := (fd_txt.getD b []).length
abbrev fd_isW (b : Nat) : Prop := fd_tE n bt p - fd_tS n bt p = fd_wdL b ∧ ∀ i, i < fd_wdL b → bt (fd_tS n bt p + i) = fd_wdA b i
abbrev fd_isN (l m : Int32) : Prop := fd_tR n bt p = 2 ∧ fd_tE n bt p - fd_tS n bt p ≤ 4 ∧ fd_wi (fd_num n bt p) l m
end TOK
section TOKS
variable {n : Nat} {bt : Nat → Int32} {p : Nat}
theorem fd_tS_le (hp : p ≤ n) : p ≤ fd_tS n bt p ∧ fd_tS n bt p ≤ n := by
  have := fd_run_le (P := fun i => decide (bt i = nI 32)) (n - p) p
  unfold fd_tS
  omega
theorem fd_tE_le (hp : p ≤ n) : fd_tS n bt p ≤ fd_tE n bt p ∧ fd_tE n bt p ≤ n ∧ (fd_tS n bt p < n → fd_tS n bt p < fd_tE n bt p) := by
  have h1 := fd_tS_le (bt := bt) hp
  have h2 := fd_run_le (P := fun i => decide (fd_row (bt i) = fd_row (bt (fd_tS n bt p)))) (n - (fd_tS n bt p + 1)) (fd_tS n bt p + 1)
  unfold fd_tE
  split
  · split <;> omega
  · omega
theorem fd_tE_row (hs : fd_tS n bt p < n) (hr : ¬ fd_row (bt (fd_tS n bt p)) = 0) : ∀ j, fd_tS n bt p ≤ j → j < fd_tE n bt p → fd_row (bt j) = fd_row (bt (fd_tS n bt p)) := by
  intro j h1 h2
  by_cases z : j = fd_tS n bt p
  · rw [z]
  · unfold fd_tE at h2
    rw [if_pos hs, if_neg hr] at h2
    exact of_decide_eq_true (fd_run_all (P := fun i => decide (fd_row (bt i) = fd_row (bt (fd_tS n bt p)))) _ _ j (by omega) h2)
theorem fd_row_1 {c : Int32} (h : fd_row c = 1) : fd_wi c (nI 97) (nI 122) := by
  unfold fd_row at h
  by_cases z : fd_wi c (nI 97) (nI 122)
  · exact z
  · rw [if_neg z] at h
    split at h <;> omega
theorem fd_wi97 {c : Int32} : fd_wi c (nI 97) (nI 122) ↔ 97 ≤ c.toInt ∧ c.toInt ≤ 122 := by
  unfold fd_wi
  rw [Int32.lt_iff_toInt_lt, Int32.lt_iff_toInt_lt, nI_toInt (by omega), nI_toInt (by omega)]
  omega
/-- letters as digits of a number -/
def fd_hs (c : Nat → Int) : Nat → Int
  | 0 => 0
  | L + 1 => 27 * fd_hs c L + c L
theorem fd_hs_0 {c : Nat → Int} : ∀ L, (∀ i, i < L → 1 ≤ c i ∧ c i ≤ 26) → 0 ≤ fd_hs c L := by
  intro L
  induction L with
  | zero => exact fun _ => Int.le_refl 0
  | succ L ih =>
    intro h
    have := ih (fun i hi => h i (by omega))
    have := h L (by omega)
    unfold fd_hs
    omega
theorem fd_hs_inj {c d : Nat → Int} : ∀ L M, (∀ i, i < L → 1 ≤ c i ∧ c i ≤ 26) → (∀ i, i < M → 1 ≤ d i ∧ d i ≤ 26) → fd_hs c L = fd_hs d M → L = M ∧ ∀ i, i < L → c i = d i := by
  intro L
  induction L with
  | zero =>
    intro M hc hd e
    cases M with
    | zero => exact ⟨rfl, fun i hi => absurd hi (Nat.not_lt_zero i)⟩
    | succ M =>
      have := fd_hs_0 M (fun i hi => hd i (by omega))
      have := hd M (by omega)
      unfold fd_hs at e
      omega
  | succ L ih =>
    intro M hc hd e
    cases M with
    | zero =>
      have := fd_hs_0 L (fun i hi => hc i (by omega))
      have := hc L (by omega)
      unfold fd_hs at e
      omega
    | succ M =>
      have c1 := hc L (by omega)
      have d1 := hd M (by omega)
      unfold fd_hs at e
      obtain ⟨i1, i2⟩ := ih M (fun i hi => hc i (by omega)) (fun i hi => hd i (by omega)) (by omega)
      subst i1
      refine ⟨rfl, fun i hi => ?_⟩
      by_cases z : i = L
      · subst z; omega
      · exact i2 i (by omega)
theorem fd_hI_T {s : Nat} : ∀ L, L ≤ 9 → (∀ i, i < L → 97 ≤ (bt (s + i)).toInt ∧ (bt (s + i)).toInt ≤ 122) → (fd_hI bt s L).toInt = fd_hs (fun i => (bt (s + i)).toInt - 96) L ∧ fd_hs (fun i => (bt (s + i)).toInt - 96) L < 27 ^ L := by
  intro L
  induction L with
  | zero => exact fun _ _ => ⟨rfl, (show (0 : Int) < 27 ^ 0 by decide)⟩
  | succ L ih =>
    intro hL hb
    obtain ⟨i1, i2⟩ := ih (by omega) (fun i hi => hb i (by omega))
    have i0 := fd_hs_0 (c := fun i => (bt (s + i)).toInt - 96) L (fun i hi => by have := hb i (by omega); omega)
    have b := hb L (by omega)
    have p9 : (27 : Int) ^ L ≤ 27 ^ 8 := by
      have : (27 : Nat) ^ L ≤ 27 ^ 8 := Nat.pow_le_pow_right (by omega) (by omega)
      exact_mod_cast this
    have p1 : (27 : Int) ^ (L + 1) = 27 ^ L * 27 := Int.pow_succ 27 L
    have p8 : (27 : Int) ^ 8 = 282429536481 := by decide
    unfold fd_hI fd_hs
    generalize fd_hs (fun i => (bt (s + i)).toInt - 96) L = X at i0 i1 i2
    generalize (27 : Int) ^ L = P at i2 p9 p1
    have e27 : (27 : Int64).toInt = 27 := by decide
    have e96 : (96 : Int64).toInt = 96 := by decide
    have m1 : (27 * fd_hI bt s L).toInt = 27 * X := by
      rw [Int64.toInt_mul, e27, i1]
      exact Int.bmod_eq_of_le (by omega) (by omega)
    have m2 : (27 * fd_hI bt s L + (bt (s + L)).toInt64).toInt = 27 * X + (bt (s + L)).toInt := by
      rw [Int64.toInt_add, m1, Int32.toInt_toInt64]
      exact Int.bmod_eq_of_le (by omega) (by omega)
    refine ⟨?_, by rw [p1]; omega⟩
    rw [Int64.toInt_sub, m2, e96, Int.bmod_eq_of_le (by omega) (by omega)]
    omega
/-- the words' numbers -/
def fd_W (b : Nat) : Int64 := ([11561, 11993594, 1627639, 230471582, 1065, 2045, 131638, 555] : List Int64).getD b 0
theorem fd_W_hs : ∀ b, b < 8 → (fd_W b).toInt = fd_hs (fun i => (fd_wdA b i).toInt - 96) (fd_wdL b) ∧ 2 ≤ fd_wdL b ∧ fd_wdL b ≤ 6 ∧ ∀ i, i < fd_wdL b → 97 ≤ (fd_wdA b i).toInt ∧ (fd_wdA b i).toInt ≤ 122 := by decide +kernel
theorem fd_W_ne : ∀ b, b < 8 → ¬ (-1 : Int64) = fd_W b ∧ ¬ (-2 : Int64) = fd_W b ∧ ¬ (-3 : Int64) = fd_W b ∧ ¬ (-4 : Int64) = fd_W b := by decide +kernel
theorem fd_let (hs : fd_tS n bt p < n) (hr : fd_row (bt (fd_tS n bt p)) = 1) : ∀ i, i < fd_tE n bt p - fd_tS n bt p → 97 ≤ (bt (fd_tS n bt p + i)).toInt ∧ (bt (fd_tS n bt p + i)).toInt ≤ 122 := by
  intro i hi
  have := fd_tE_row hs (by omega) (fd_tS n bt p + i) (by omega) (by omega)
  rw [hr] at this
  exact fd_wi97.mp (fd_row_1 this)
theorem fd_tk_hI (hp : p ≤ n) {b : Nat} (hb : b < 8) (e : fd_tk n bt p = fd_W b) : fd_tS n bt p < n ∧ fd_row (bt (fd_tS n bt p)) = 1 ∧ fd_tE n bt p - fd_tS n bt p ≤ 9 ∧ fd_hI bt (fd_tS n bt p) (fd_tE n bt p - fd_tS n bt p) = fd_W b := by
  obtain ⟨n1, n2, n3, n4⟩ := fd_W_ne b hb
  generalize fd_W b = W at e n1 n2 n3 n4
  unfold fd_tk at e
  by_cases hs : fd_tS n bt p < n
  · rw [if_pos hs] at e
    by_cases hr : fd_row (bt (fd_tS n bt p)) = 1
    · rw [if_pos hr] at e
      by_cases hL : fd_tE n bt p - fd_tS n bt p ≤ 9
      · rw [if_pos hL] at e
        exact ⟨hs, hr, hL, e⟩
      · rw [if_neg hL] at e
        exact absurd e n4
    · rw [if_neg hr] at e
      exfalso
      split at e
      · split at e
        · exact n1 e
        · exact n4 e
      · split at e
        · exact n3 e
        · exact n4 e
  · rw [if_neg hs] at e
    exact absurd e n2
theorem fd_tk_W1 (hp : p ≤ n) {b : Nat} (hb : b < 8) (e : fd_tk n bt p = fd_W b) : fd_isW n bt p b := by
  obtain ⟨w1, w2, w3, w4⟩ := fd_W_hs b hb
  obtain ⟨hs, hr, hL, e'⟩ := fd_tk_hI hp hb e
  generalize fd_W b = W at e' w1
  have lt := fd_let hs hr
  have t := (fd_hI_T (bt := bt) (s := fd_tS n bt p) _ hL lt).1
  rw [e', w1] at t
  obtain ⟨q1, q2⟩ := fd_hs_inj _ _ (fun i hi => by have := w4 i hi; omega) (fun i hi => by have := lt i hi; omega) t
  refine ⟨q1.symm, fun i hi => Int32.toInt_inj.mp ?_⟩
  have := q2 i hi
  omega
theorem fd_hs_congr {c d : Nat → Int} : ∀ L, (∀ i, i < L → c i = d i) → fd_hs c L = fd_hs d L := by
  intro L
  induction L with
  | zero => exact fun _ => rfl
  | succ L ih =>
    intro h
    show 27 * fd_hs c L + c L = 27 * fd_hs d L + d L
    rw [ih (fun i hi => h i (by omega)), h L (by omega)]
theorem fd_isW_s (hp : p ≤ n) {b : Nat} (hb : b < 8) (e : fd_isW n bt p b) : fd_tS n bt p < n ∧ fd_row (bt (fd_tS n bt p)) = 1 ∧ fd_tE n bt p - fd_tS n bt p ≤ 9 := by
  obtain ⟨w1, w2, w3, w4⟩ := fd_W_hs b hb
  obtain ⟨e1, e2⟩ := e
  have le := fd_tE_le (bt := bt) hp
  have ls := fd_tS_le (bt := bt) hp
  have h0 := w4 0 (by omega)
  have e0 := e2 0 (by omega)
  rw [Nat.add_zero] at e0
  clear w1 w4 e2
  refine ⟨by omega, ?_, by omega⟩
  rw [e0]
  exact if_pos (fd_wi97.mpr h0)
theorem fd_tk_of (hs : fd_tS n bt p < n) (hr : fd_row (bt (fd_tS n bt p)) = 1) (hL : fd_tE n bt p - fd_tS n bt p ≤ 9) : fd_tk n bt p = fd_hI bt (fd_tS n bt p) (fd_tE n bt p - fd_tS n bt p) := by
  unfold fd_tk
  rw [if_pos hs, if_pos hr, if_pos hL]
theorem fd_tk_W2 (hp : p ≤ n) {b : Nat} (hb : b < 8) (e : fd_isW n bt p b) : fd_tk n bt p = fd_W b := by
  have w1 := (fd_W_hs b hb).1
  obtain ⟨hs, hr, hL⟩ := fd_isW_s hp hb e
  have t := (fd_hI_T (bt := bt) (s := fd_tS n bt p) (fd_tE n bt p - fd_tS n bt p) hL (fd_let hs hr)).1
  rw [fd_tk_of hs hr hL]
  refine Int64.toInt_inj.mp ?_
  rw [t, w1, e.1]
  exact fd_hs_congr _ (fun i hi => by rw [e.2 i hi])
theorem fd_tk_W (hp : p ≤ n) {b : Nat} (hb : b < 8) : fd_tk n bt p = fd_W b ↔ fd_isW n bt p b := ⟨fd_tk_W1 hp hb, fd_tk_W2 hp hb⟩
theorem fd_hI_ne (hL : fd_tE n bt p - fd_tS n bt p ≤ 9) (hs : fd_tS n bt p < n) (hr : fd_row (bt (fd_tS n bt p)) = 1) {x : Int64} (hx : x.toInt < 0) : ¬ fd_hI bt (fd_tS n bt p) (fd_tE n bt p - fd_tS n bt p) = x := by
  intro e
  have lt := fd_let hs hr
  have t := (fd_hI_T (bt := bt) (s := fd_tS n bt p) _ hL lt).1
  have z := fd_hs_0 (c := fun i => (bt (fd_tS n bt p + i)).toInt - 96) (fd_tE n bt p - fd_tS n bt p) (fun i hi => by have := lt i hi; omega)
  rw [e] at t
  omega
theorem fd_tk_N (hp : p ≤ n) : fd_tk n bt p = -1 ↔ fd_tR n bt p = 2 ∧ fd_tE n bt p - fd_tS n bt p ≤ 4 := by
  unfold fd_tk fd_tR
  by_cases hs : fd_tS n bt p < n
  · rw [if_pos hs, if_pos hs]
    by_cases hr : fd_row (bt (fd_tS n bt p)) = 1
    · rw [if_pos hr]
      refine ⟨fun e => ?_, fun e => by omega⟩
      exfalso
      split at e
      · next hL => exact fd_hI_ne hL hs hr (x := -1) (by decide) e
      · exact absurd e (by decide)
    · rw [if_neg hr]
      by_cases h2 : fd_row (bt (fd_tS n bt p)) = 2
      · rw [if_pos h2]
        by_cases hL : fd_tE n bt p - fd_tS n bt p ≤ 4
        · rw [if_pos hL]; exact ⟨fun _ => ⟨h2, hL⟩, fun _ => rfl⟩
        · rw [if_neg hL]; exact ⟨fun e => absurd e (by decide), fun e => absurd e.2 hL⟩
      · rw [if_neg h2]
        refine ⟨fun e => ?_, fun e => absurd e.1 h2⟩
        exfalso
        split at e <;> exact absurd e (by decide)
  · rw [if_neg hs, if_neg hs]
    exact ⟨fun e => absurd e (by decide), fun e => by omega⟩
theorem fd_tk_E (hp : p ≤ n) : fd_tk n bt p = -2 ↔ fd_tS n bt p = n := by
  have ls := fd_tS_le (bt := bt) hp
  unfold fd_tk
  by_cases hs : fd_tS n bt p < n
  · rw [if_pos hs]
    refine ⟨fun e => ?_, fun e => by omega⟩
    exfalso
    by_cases hr : fd_row (bt (fd_tS n bt p)) = 1
    · rw [if_pos hr] at e
      split at e
      · next hL => exact fd_hI_ne hL hs hr (x := -2) (by decide) e
      · exact absurd e (by decide)
    · rw [if_neg hr] at e
      split at e <;> split at e <;> exact absurd e (by decide)
  · rw [if_neg hs]
    exact ⟨fun _ => by omega, fun _ => rfl⟩
theorem fd_tk_S (hp : p ≤ n) : fd_tk n bt p = -3 ↔ fd_tS n bt p < n ∧ bt (fd_tS n bt p) = nI 59 := by
  unfold fd_tk
  by_cases hs : fd_tS n bt p < n
  · rw [if_pos hs]
    by_cases hr : fd_row (bt (fd_tS n bt p)) = 1
    · rw [if_pos hr]
      refine ⟨fun e => ?_, fun e => ?_⟩
      · exfalso
        split at e
        · next hL => exact fd_hI_ne hL hs hr (x := -3) (by decide) e
        · exact absurd e (by decide)
      · rw [e.2] at hr
        exact absurd hr (by decide)
    · rw [if_neg hr]
      by_cases h2 : fd_row (bt (fd_tS n bt p)) = 2
      · rw [if_pos h2]
        refine ⟨fun e => ?_, fun e => ?_⟩
        · exfalso
          split at e <;> exact absurd e (by decide)
        · rw [e.2] at h2
          exact absurd h2 (by decide)
      · rw [if_neg h2]
        by_cases h9 : bt (fd_tS n bt p) = nI 59
        · rw [if_pos h9]; exact ⟨fun _ => ⟨hs, h9⟩, fun _ => rfl⟩
        · rw [if_neg h9]; exact ⟨fun e => absurd e (by decide), fun e => absurd e.2 h9⟩
  · rw [if_neg hs]
    exact ⟨fun e => absurd e (by decide), fun e => absurd e.1 hs⟩
theorem fd_semi (hs : fd_tS n bt p < n) (h : bt (fd_tS n bt p) = nI 59) : fd_tE n bt p = fd_tS n bt p + 1 := by
  unfold fd_tE
  rw [if_pos hs, h, if_pos (by decide)]
end TOKS
end TEXTM
