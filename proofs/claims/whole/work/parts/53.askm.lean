/-! ASKED BACK in plain numbers: a table of least costs, and a search through all sets, come to the same -/
section ASKM
theorem fd_fold_end {α : Type} {f : Nat → α → α} : ∀ (n i : Nat) (x : α), fd_fold f (n + 1) i x = f (i + n) (fd_fold f n i x) := by
  intro n
  induction n with
  | zero => exact fun i x => rfl
  | succ n ih =>
    intro i x
    rw [fd_foldS, ih (i + 1) (f i x), fd_foldS, show i + 1 + n = i + (n + 1) by omega]
/-- a set's cost: its size first, then its number -/
def fd_cost (S : Nat) : Nat := 4096 * fd_bs S 12 + S
def fd_tw (K e k : Nat) (c : Nat → Nat) : Nat → Nat := if c k = 16777216 then c else fun j => if j = k &&& (15 ^^^ K) ∧ c k + e < c j then c k + e else c j
def fd_ls (P : Nat → Prop) (x : Nat) : Prop := (x = 16777216 ∧ ∀ y, ¬ P y) ∨ (P x ∧ ∀ y, P y → x ≤ y)
theorem fd_ls_congr {P Q : Nat → Prop} {x : Nat} (e : ∀ y, P y ↔ Q y) (h : fd_ls P x) : fd_ls Q x := by
  rcases h with ⟨h1, h2⟩ | ⟨h1, h2⟩
  · exact Or.inl ⟨h1, fun y z => h2 y ((e y).mpr z)⟩
  · exact Or.inr ⟨(e x).mp h1, fun y z => h2 y ((e y).mpr z)⟩
def fd_Rf (K : Nat → Nat) (S o M : Nat) : Nat := fd_fold (fd_msF (fun i => S.testBit i) K) o 0 M
def fd_Pf (A : Nat → Bool) (K : Nat → Nat) (M o k y : Nat) : Prop := ∃ S, S < 2 ^ o ∧ (∀ i, S.testBit i = true → A i = true) ∧ fd_Rf K S o M = k ∧ y = fd_cost S
theorem fd_tb_top {S o : Nat} (hS : S < 2 ^ (o + 1)) : S < 2 ^ o ∨ ∃ d, d < 2 ^ o ∧ S = 2 ^ o + d := by
  rcases Nat.lt_or_ge S (2 ^ o) with z | z
  · exact Or.inl z
  · refine Or.inr ⟨S - 2 ^ o, ?_, by omega⟩
    rw [Nat.pow_succ] at hS
    omega
theorem fd_tb_hi {d o : Nat} (hd : d < 2 ^ o) : (2 ^ o + d).testBit o = true := by
  rw [Nat.testBit_two_pow_add_eq, Nat.testBit_lt_two_pow hd]
  rfl
theorem fd_tb_lo {d o i : Nat} (hi : i < o) : (2 ^ o + d).testBit i = d.testBit i := Nat.testBit_two_pow_add_gt hi d
theorem fd_tb_lt {d o i : Nat} (hd : d < 2 ^ o) (h : d.testBit i = true) : i < o := by
  rcases Nat.lt_or_ge i o with z | z
  · exact z
  · rw [Nat.testBit_lt_two_pow (Nat.lt_of_lt_of_le hd (Nat.pow_le_pow_right (by omega) z))] at h
    exact absurd h (by decide)
theorem fd_bs_eq {S Z : Nat} : ∀ j, (∀ i, i < j → S.testBit i = Z.testBit i) → fd_bs S j = fd_bs Z j := by
  intro j
  induction j with
  | zero => exact fun _ => rfl
  | succ j ih => exact fun e => by rw [fd_bs_s, fd_bs_s, ih (fun i hi => e i (by omega)), e j (by omega)]
theorem fd_cost_hi {d o : Nat} (ho : o < 12) (hd : d < 2 ^ o) : fd_cost (2 ^ o + d) = fd_cost d + (4096 + 2 ^ o) := by
  have h1 : fd_bs (2 ^ o + d) 12 = fd_bs d 12 + 1 := by
    rw [fd_bs_top (i := o + 1) (by rw [Nat.pow_succ]; omega) (by omega), fd_bs_s, fd_tb_hi hd, if_pos rfl, fd_bs_eq o (fun i hi => fd_tb_lo hi), fd_bs_top (k := 12) hd (by omega)]
  unfold fd_cost
  rw [h1]
  omega
theorem fd_Pf_b {A : Nat → Bool} {K : Nat → Nat} {M o k y : Nat} (h : fd_Pf A K M o k y) (ho : o ≤ 12) : y < 65536 := by
  obtain ⟨S, h1, _, _, rfl⟩ := h
  have := fd_p2 ho
  have := fd_bs_le (n := S) (k := 12)
  unfold fd_cost
  omega
theorem fd_Rf_lt {K : Nat → Nat} {S o M : Nat} (hM : M < 16) (hK : ∀ i, i < o → K i < 16) : fd_Rf K S o M < 16 := by
  unfold fd_Rf
  have q := fd_mshs (inc := fun i => S.testBit i) (K := K) (n := o) hM hK
  rw [q.2]
  exact (fd_l16 M hM _ q.1).2
theorem fd_Rf_s {K : Nat → Nat} {S o M : Nat} : fd_Rf K S (o + 1) M = if S.testBit o = true then fd_Rf K S o M &&& (15 ^^^ K o) else fd_Rf K S o M := by
  unfold fd_Rf
  rw [fd_fold_end, Nat.zero_add]
  rfl
theorem fd_Rf_lo {K : Nat → Nat} {d o M : Nat} : fd_Rf K (2 ^ o + d) o M = fd_Rf K d o M := by
  unfold fd_Rf
  refine fd_fold_eq (fun a _ ha x => ?_)
  unfold fd_msF
  have e := fd_tb_lo (d := d) (show a < o by omega)
  simp only [e]
theorem fd_Pf_s0 {A : Nat → Bool} {K : Nat → Nat} {M o k y : Nat} (hA : ¬ A o = true) : fd_Pf A K M o k y ↔ fd_Pf A K M (o + 1) k y := by
  constructor
  · rintro ⟨S, h1, h2, h3, h4⟩
    refine ⟨S, by rw [Nat.pow_succ]; omega, h2, ?_, h4⟩
    rw [fd_Rf_s, if_neg (by rw [Nat.testBit_lt_two_pow h1]; decide), h3]
  · rintro ⟨S, h1, h2, h3, h4⟩
    rcases fd_tb_top h1 with z | ⟨d, z, rfl⟩
    · refine ⟨S, z, h2, ?_, h4⟩
      rw [fd_Rf_s, if_neg (by rw [Nat.testBit_lt_two_pow z]; decide)] at h3
      exact h3
    · exact absurd (h2 o (fd_tb_hi z)) hA
theorem fd_Pf_s1 {A : Nat → Bool} {K : Nat → Nat} {M o l y : Nat} (hA : A o = true) (ho : o < 12) : (fd_Pf A K M o l y ∨ ∃ k y', fd_Pf A K M o k y' ∧ k &&& (15 ^^^ K o) = l ∧ y = y' + (4096 + 2 ^ o)) ↔ fd_Pf A K M (o + 1) l y := by
  constructor
  · rintro (⟨S, h1, h2, h3, h4⟩ | ⟨k, y', ⟨S, h1, h2, h3, h4⟩, h5, h6⟩)
    · refine ⟨S, by rw [Nat.pow_succ]; omega, h2, ?_, h4⟩
      rw [fd_Rf_s, if_neg (by rw [Nat.testBit_lt_two_pow h1]; decide), h3]
    · refine ⟨2 ^ o + S, by rw [Nat.pow_succ]; omega, fun i hi => ?_, ?_, ?_⟩
      · rcases Nat.lt_trichotomy i o with z | z | z
        · rw [fd_tb_lo z] at hi
          exact h2 i hi
        · subst z; exact hA
        · have := fd_tb_lt (o := o + 1) (by rw [Nat.pow_succ]; omega) hi
          omega
      · rw [fd_Rf_s, if_pos (fd_tb_hi h1), fd_Rf_lo, h3, h5]
      · rw [fd_cost_hi ho h1, ← h4, h6]
  · rintro ⟨S, h1, h2, h3, h4⟩
    rcases fd_tb_top h1 with z | ⟨d, z, rfl⟩
    · refine Or.inl ⟨S, z, h2, ?_, h4⟩
      rw [fd_Rf_s, if_neg (by rw [Nat.testBit_lt_two_pow z]; decide)] at h3
      exact h3
    · refine Or.inr ⟨fd_Rf K d o M, fd_cost d, ⟨d, z, fun i hi => ?_, rfl, rfl⟩, ?_, ?_⟩
      · exact h2 i (by rw [fd_tb_lo (fd_tb_lt z hi)]; exact hi)
      · rw [fd_Rf_s, if_pos (fd_tb_hi z), fd_Rf_lo] at h3
        exact h3
      · rw [h4, fd_cost_hi ho z]
theorem fd_tw_ls {P : Nat → Nat → Prop} {K e : Nat} {c : Nat → Nat} (hb : ∀ k y, P k y → y + e < 16777216) (hc : ∀ k, k < 16 → fd_ls (P k) (c k)) : ∀ n, n ≤ 16 → ∀ l, l < 16 → (n ≤ l → (fd_fold (fd_tw K e) n 0 c) l = c l) ∧ fd_ls (fun y => P l y ∨ ∃ k y', k < n ∧ P k y' ∧ k &&& (15 ^^^ K) = l ∧ y = y' + e) ((fd_fold (fd_tw K e) n 0 c) l) := by
  intro n
  induction n with
  | zero =>
    intro _ l hl
    refine ⟨fun _ => rfl, fd_ls_congr (fun y => ⟨Or.inl, fun z => z.elim id (fun ⟨k, y', z1, _⟩ => absurd z1 (Nat.not_lt_zero _))⟩) (hc l hl)⟩
  | succ n ih =>
    intro hn l hl
    have dn := (ih (by omega) n (by omega)).1 (Nat.le_refl n)
    obtain ⟨i1, i2⟩ := ih (by omega) l hl
    rw [fd_fold_end, Nat.zero_add]
    generalize fd_fold (fd_tw K e) n 0 c = d at dn i1 i2
    rcases hc n (by omega) with ⟨q1, q2⟩ | ⟨q1, q2⟩
    · have E : fd_tw K e n d = d := if_pos (dn.trans q1)
      rw [E]
      refine ⟨fun z => i1 (by omega), fd_ls_congr (fun y => ?_) i2⟩
      constructor
      · rintro (z | ⟨k, y', z1, z2⟩)
        · exact Or.inl z
        · exact Or.inr ⟨k, y', by omega, z2⟩
      · rintro (z | ⟨k, y', z1, z2⟩)
        · exact Or.inl z
        · by_cases w : k = n
          · subst w
            exact absurd z2.1 (q2 y')
          · exact Or.inr ⟨k, y', by omega, z2⟩
    · have hq := hb n (c n) q1
      have E : fd_tw K e n d = fun j => if j = n &&& (15 ^^^ K) ∧ c n + e < d j then c n + e else d j := by
        unfold fd_tw
        rw [dn, if_neg (by omega)]
      rw [E]
      dsimp only
      have le : n &&& (15 ^^^ K) ≤ n := Nat.and_le_left
      refine ⟨fun z => by rw [if_neg (fun w => by omega)]; exact i1 (by omega), ?_⟩
      by_cases w : l = n &&& (15 ^^^ K)
      · have sp : ∀ y, (P l y ∨ ∃ k y', k < n + 1 ∧ P k y' ∧ k &&& (15 ^^^ K) = l ∧ y = y' + e) → (P l y ∨ ∃ k y', k < n ∧ P k y' ∧ k &&& (15 ^^^ K) = l ∧ y = y' + e) ∨ c n + e ≤ y := by
          rintro y (z | ⟨k, y', z1, z2, z3, z4⟩)
          · exact Or.inl (Or.inl z)
          · by_cases v : k = n
            · subst v
              have := q2 y' z2
              exact Or.inr (by omega)
            · exact Or.inl (Or.inr ⟨k, y', by omega, z2, z3, z4⟩)
        have up : ∀ y, (P l y ∨ ∃ k y', k < n ∧ P k y' ∧ k &&& (15 ^^^ K) = l ∧ y = y' + e) → (P l y ∨ ∃ k y', k < n + 1 ∧ P k y' ∧ k &&& (15 ^^^ K) = l ∧ y = y' + e) := by
          rintro y (z | ⟨k, y', z1, z2⟩)
          · exact Or.inl z
          · exact Or.inr ⟨k, y', by omega, z2⟩
        have me : P l (c n + e) ∨ ∃ k y', k < n + 1 ∧ P k y' ∧ k &&& (15 ^^^ K) = l ∧ c n + e = y' + e := Or.inr ⟨n, c n, by omega, q1, w.symm, rfl⟩
        rcases i2 with ⟨j1, j2⟩ | ⟨j1, j2⟩
        · rw [if_pos ⟨w, by omega⟩]
          refine Or.inr ⟨me, fun y hy => ?_⟩
          rcases sp y hy with z | z
          · exact absurd z (j2 y)
          · exact z
        · by_cases v : c n + e < d l
          · rw [if_pos ⟨w, v⟩]
            refine Or.inr ⟨me, fun y hy => ?_⟩
            rcases sp y hy with z | z
            · have := j2 y z
              omega
            · exact z
          · rw [if_neg (fun z => v z.2)]
            refine Or.inr ⟨up _ j1, fun y hy => ?_⟩
            rcases sp y hy with z | z
            · exact j2 y z
            · omega
      · rw [if_neg (fun z => w z.1)]
        refine fd_ls_congr (fun y => ?_) i2
        constructor
        · rintro (z | ⟨k, y', z1, z2⟩)
          · exact Or.inl z
          · exact Or.inr ⟨k, y', by omega, z2⟩
        · rintro (z | ⟨k, y', z1, z2, z3, z4⟩)
          · exact Or.inl z
          · by_cases v : k = n
            · subst v
              exact absurd z3.symm w
            · exact Or.inr ⟨k, y', by omega, z2, z3, z4⟩
def fd_dpF (A : Nat → Bool) (K : Nat → Nat) (o : Nat) (c : Nat → Nat) : Nat → Nat := if A o = true then fd_fold (fd_tw (K o) (4096 + 2 ^ o)) 16 0 c else c
def fd_c0 (M k : Nat) : Nat := if k = M then 0 else 16777216
theorem fd_dp_ls {A : Nat → Bool} {K : Nat → Nat} {M n : Nat} (hn : n ≤ 12) (hM : M < 16) (hK : ∀ o, o < n → K o < 16) : ∀ o, o ≤ n → ∀ k, k < 16 → fd_ls (fd_Pf A K M o k) (fd_fold (fd_dpF A K) o 0 (fd_c0 M) k) := by
  intro o
  induction o with
  | zero =>
    intro _ k hk
    show fd_ls _ (fd_c0 M k)
    unfold fd_c0
    by_cases z : k = M
    · rw [if_pos z]
      refine Or.inr ⟨⟨0, by decide, fun i hi => ?_, z.symm, by decide⟩, fun y _ => Nat.zero_le _⟩
      rw [Nat.zero_testBit] at hi
      exact absurd hi (by decide)
    · rw [if_neg z]
      exact Or.inl ⟨rfl, fun y ⟨S, _, _, h3, _⟩ => z h3.symm⟩
  | succ o ih =>
    intro ho
    have i := ih (by omega)
    rw [fd_fold_end, Nat.zero_add]
    generalize fd_fold (fd_dpF A K) o 0 (fd_c0 M) = c at i
    unfold fd_dpF
    by_cases hA : A o = true
    · rw [if_pos hA]
      intro k hk
      have p2 := fd_p2 (n := o) (by omega)
      have q := (fd_tw_ls (P := fun k y => fd_Pf A K M o k y) (K := K o) (e := 4096 + 2 ^ o) (fun k y hy => by have := fd_Pf_b hy (by omega); omega) i 16 (by omega) k hk).2
      refine fd_ls_congr (fun y => ?_) q
      rw [← fd_Pf_s1 hA (by omega)]
      constructor
      · rintro (z | ⟨k', y', z1, z2⟩)
        · exact Or.inl z
        · exact Or.inr ⟨k', y', z2⟩
      · rintro (z | ⟨k', y', z2, z3⟩)
        · exact Or.inl z
        · refine Or.inr ⟨k', y', ?_, z2, z3⟩
          obtain ⟨S, _, _, h3, _⟩ := z2
          rw [← h3]
          exact fd_Rf_lt hM (fun i hi => hK i (by omega))
    · rw [if_neg hA]
      intro k hk
      exact fd_ls_congr (fun y => fd_Pf_s0 hA) (i k hk)
/-- the search: the best of the sets below a -/
def fd_scI (V : Nat → Prop) (a : Nat) (b : Int32) : Prop := (b = -1 ∧ ∀ S, S < a → ¬ V S) ∨ ∃ q, b = nI q ∧ q < a ∧ V q ∧ ∀ S, S < a → V S → fd_cost q ≤ fd_cost S
theorem fd_scI_no {V : Nat → Prop} {a : Nat} {b : Int32} (h : fd_scI V a b) (hV : ¬ V a) : fd_scI V (a + 1) b := by
  have sp : ∀ S, S < a + 1 → V S → S < a := fun S h1 h2 => by
    by_cases z : S = a
    · subst z; exact absurd h2 hV
    · omega
  rcases h with ⟨h1, h2⟩ | ⟨q, h1, h2, h3, h4⟩
  · exact Or.inl ⟨h1, fun S hS v => h2 S (sp S hS v) v⟩
  · exact Or.inr ⟨q, h1, by omega, h3, fun S hS v => h4 S (sp S hS v) v⟩
theorem fd_scI_yes {V : Nat → Prop} {a : Nat} (h : ∀ S, S < a → V S → fd_cost a ≤ fd_cost S) (hV : V a) : fd_scI V (a + 1) (nI a) := by
  refine Or.inr ⟨a, rfl, by omega, hV, fun S hS v => ?_⟩
  by_cases z : S = a
  · subst z; exact Nat.le_refl _
  · exact h S (by omega) v
theorem fd_cost_lt {a q : Nat} (ha : a < 4096) (h : fd_bs a 12 < fd_bs q 12) : fd_cost a ≤ fd_cost q := by
  unfold fd_cost; omega
theorem fd_cost_ge {a q : Nat} (hq : q < a) (h : ¬ fd_bs a 12 < fd_bs q 12) : fd_cost q ≤ fd_cost a := by
  unfold fd_cost; omega
theorem fd_cost_mod {S : Nat} (hS : S < 4096) : fd_cost S % 4096 = S := by
  unfold fd_cost; omega
theorem fd_sub_le {S Z : Nat} (h : ∀ i, S.testBit i = true → Z.testBit i = true) : S ≤ Z := by
  have e : S &&& Z = S := Nat.eq_of_testBit_eq (fun i => by
    rw [Nat.testBit_and]
    cases q : S.testBit i
    · rfl
    · rw [h i q]; rfl)
  rw [← e]
  exact Nat.and_le_right
theorem fd_dn_sub {S Z : Nat} (hS : S < 4096) : fd_dn S Z = 0 ↔ ∀ i, S.testBit i = true → Z.testBit i = true := by
  constructor
  · intro e i hi
    have h12 := fd_tb_lt (o := 12) hS hi
    have q := fd_dn_bit (a := S) (c := Z) (i := i) (by omega)
    rw [e, Nat.zero_testBit, hi] at q
    cases w : Z.testBit i
    · rw [w] at q; exact absurd q (by decide)
    · rfl
  · intro e
    refine Nat.eq_of_testBit_eq (fun i => ?_)
    rw [Nat.zero_testBit]
    rcases Nat.lt_or_ge i 32 with z | z
    · rw [fd_dn_bit z]
      cases w : S.testBit i
      · rfl
      · rw [e i w]; rfl
    · exact Nat.testBit_lt_two_pow (Nat.lt_of_lt_of_le (fd_dn_lt (n := 12) hS) (Nat.pow_le_pow_right (by omega) (by omega)))
/-- both ways give the same number -/
theorem fd_ask_eq {A : Nat → Bool} {K : Nat → Nat} {M n Z x : Nat} {V : Nat → Prop} {b : Int32} (hn : n ≤ 12) (hZ : Z < 2 ^ n) (hA : ∀ i, Z.testBit i = true ↔ A i = true) (hV : ∀ S, S < 4096 → (V S ↔ (∀ i, S.testBit i = true → Z.testBit i = true) ∧ fd_Rf K S n M = 0)) (hx : fd_ls (fd_Pf A K M n 0) x) (hb : fd_scI V (Z + 1) b) : b = if x = 16777216 then -1 else nI (x % 4096) := by
  have p2 := fd_p2 hn
  have PV : ∀ S, S < 2 ^ n → V S → fd_Pf A K M n 0 (fd_cost S) := fun S hS v => by
    obtain ⟨v1, v2⟩ := (hV S (by omega)).mp v
    exact ⟨S, hS, fun i hi => (hA i).mp (v1 i hi), v2, rfl⟩
  rcases hx with ⟨x1, x2⟩ | ⟨⟨S, s1, s2, s3, s4⟩, x2⟩
  · rw [if_pos x1]
    rcases hb with ⟨b1, _⟩ | ⟨q, b1, b2, b3, _⟩
    · exact b1
    · exact absurd (PV q (by omega) b3) (x2 _)
  · have vs : V S := (hV S (by omega)).mpr ⟨fun i hi => (hA i).mpr (s2 i hi), s3⟩
    have sz : S ≤ Z := fd_sub_le (fun i hi => (hA i).mpr (s2 i hi))
    have xb : x < 65536 := fd_Pf_b (A := A) (K := K) (M := M) (k := 0) ⟨S, s1, s2, s3, s4⟩ hn
    rw [if_neg (by omega)]
    rcases hb with ⟨_, b2⟩ | ⟨q, b1, b2, b3, b4⟩
    · exact absurd vs (b2 S (by omega))
    · have e1 := b4 S (by omega) vs
      have e2 := x2 _ (PV q (by omega) b3)
      have e3 : x = fd_cost q := by omega
      rw [b1, e3, fd_cost_mod (by omega)]
theorem fd_or4 : ∀ (b1 b2 : Bool) (X Y Z : Nat), (if (b1 || b2) = true then X ||| Y ||| Z else X ||| Y) = (if b1 = true then X ||| Z else X) ||| (if b2 = true then Y ||| Z else Y) := by
  intro b1 b2 X Y Z
  refine Nat.eq_of_testBit_eq (fun i => ?_)
  cases b1 <;> cases b2 <;> simp only [Bool.or_false, Bool.or_true, Bool.false_or, Bool.true_or, Bool.false_eq_true, if_true, if_false, Nat.testBit_or] <;> cases X.testBit i <;> cases Y.testBit i <;> cases Z.testBit i <;> rfl
/-- what is missing after those on board and a set ashore: in one go, or one after the other -/
theorem fd_hs_or {i1 i2 : Nat → Bool} {K : Nat → Nat} {n : Nat} : fd_fold (fd_hsF (fun o => i1 o || i2 o) K) n 0 0 = fd_fold (fd_hsF i1 K) n 0 0 ||| fd_fold (fd_hsF i2 K) n 0 0 := by
  induction n with
  | zero => exact (show (0 : Nat) = 0 ||| 0 by decide)
  | succ n ih =>
    rw [fd_fold_end, fd_fold_end, fd_fold_end, ih, Nat.zero_add]
    exact fd_or4 (i1 n) (i2 n) _ _ (K n)
theorem fd_Rf_can {T K : Nat → Nat} {n w N s S : Nat} (hn : n ≤ 12) (hN : N < 16) (hK : ∀ o, o < n → K o < 16) (hS : ∀ i, S.testBit i = true → (decide (T i = s) && w.testBit i) = true) : fd_Rf K S n (fd_fold (fd_msF (fun o => decide (T o = s) && !w.testBit o) K) n 0 N) = N &&& (15 ^^^ fd_fold (fd_hsF (fun o => decide (T o = s) && (!w.testBit o || S.testBit o)) K) n 0 0) := by
  have a1 := fd_mshs (inc := fun o => decide (T o = s) && !w.testBit o) (K := K) (n := n) hN hK
  have M16 : fd_fold (fd_msF (fun o => decide (T o = s) && !w.testBit o) K) n 0 N < 16 := by
    rw [a1.2]; exact (fd_l16 N hN _ a1.1).2
  have a2 := fd_mshs (inc := fun o => S.testBit o) (K := K) (n := n) M16 hK
  have e : (fun o => decide (T o = s) && (!w.testBit o || S.testBit o)) = fun o => (decide (T o = s) && !w.testBit o) || S.testBit o := by
    funext o
    have := hS o
    cases q1 : decide (T o = s) <;> cases q2 : w.testBit o <;> cases q3 : S.testBit o <;> rw [q1, q2, q3] at this <;> revert this <;> decide
  unfold fd_Rf
  rw [a2.2, a1.2, e, fd_hs_or]
  exact fd_d16 N hN _ a1.1 _ a2.1
end ASKM
