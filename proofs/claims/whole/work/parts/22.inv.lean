/-! WHAT HOLDS between two calls of the law -/
def fd_bd (x y : Int32) (l m : Nat) : Prop := ∃ n, l ≤ n ∧ n ≤ m ∧ x = nI n ∧ y = nI n
/-- ship s of the fleet at p in h, and of the reference in g, at hour t -/
def fd_S1 (p : Nat) (h g : fd_Hp) (t s : Nat) : Prop :=
  fd_bd (h.1 (p + 2) s) (g.1 78 s) 0 63 ∧ fd_bd (h.1 (p + 3) s) (g.1 79 s) 1 900 ∧ fd_bd (h.1 (p + 4) s) (g.1 82 s) 0 9000 ∧ fd_bd (h.1 (p + 5) s) (g.1 82 (6 + s)) 0 9000 ∧ fd_bd (h.1 (p + 6) s) (g.1 80 s) 0 100 ∧ fd_bd (h.1 (p + 7) s) (g.1 82 (12 + s)) 0 100
  ∧ h.1 (p + 8) s = g.1 82 (18 + s) ∧ h.1 (p + 9) s = g.1 82 (24 + s) ∧ (h.1 (p + 9) s = -1 ∨ ∃ v, v ≤ 2 ∧ h.1 (p + 9) s = nI v)
  ∧ ∀ o, o < 6 → h.1 (p + 10) (s * 6 + o) = g.1 87 (6 * s + o) ∧ h.1 (p + 12) (s * 6 + o) = g.1 85 (6 * s + o) ∧ (h.1 (p + 12) (s * 6 + o) = -1 ∨ ∃ q, q ≤ t ∧ h.1 (p + 12) (s * 6 + o) = nI q)
/-- boat i likewise -/
def fd_B1 (p : Nat) (h g : fd_Hp) (ns np i : Nat) : Prop :=
  h.1 (p + 14) i = g.1 89 i ∧ fd_bd (h.1 (p + 15) i) (g.1 89 (12 + i)) 0 5 ∧ (∃ s, s < ns ∧ h.1 (p + 15) i = nI s) ∧ fd_bd (h.1 (p + 16) i) (g.1 89 (24 + i)) 0 900 ∧ fd_bd (h.1 (p + 17) i) (g.1 89 (36 + i)) 0 900 ∧ h.1 (p + 18) i = g.1 89 (48 + i) ∧ (h.1 (p + 18) i = -1 ∨ ∃ q, q < np ∧ h.1 (p + 18) i = nI q)
def fd_Fl (p : Nat) (h g : fd_Hp) (ns np nb t : Nat) : Prop :=
  (ns ≤ 6 ∧ np ≤ 6 ∧ nb ≤ 12 ∧ t ≤ 3000) ∧ (h.1 p 0 = nI t ∧ h.1 p 1 = nI ns ∧ g.1 77 5 = nI ns ∧ h.1 p 2 = nI np ∧ g.1 77 12 = nI np ∧ h.1 (p + 13) 0 = nI nb ∧ g.1 77 18 = nI nb)
  ∧ (fd_bd (h.1 (p + 1) 0) (g.1 77 1) 0 7 ∧ fd_bd (h.1 (p + 1) 1) (g.1 77 2) 0 3 ∧ fd_bd (h.1 (p + 1) 2) (g.1 77 3) 0 100 ∧ fd_bd (h.1 (p + 1) 3) (g.1 77 4) 0 16777215)
  ∧ (∀ s, s < ns → fd_S1 p h g t s) ∧ (∀ q, q < np → fd_bd (h.1 (p + 11) q) (g.1 84 q) 0 100) ∧ (∀ i, i < nb → fd_B1 p h g ns np i)
def fd_Itx (h : fd_Hp) : Prop := ∃ n, n ≤ 200 ∧ h.1 39 1 = nI n ∧ h.1 77 22 = nI n ∧ ∀ i, i < n → h.1 40 i = h.1 91 i
def fd_Bk (h : fd_Hp) (b B : Nat) : Prop := ∃ n, n ≤ 10 ∧ h.1 b 0 = nI n ∧ h.1 93 B = nI n ∧ ∀ a, a < n → (∀ j, 1 ≤ j → j ≤ 5 → fd_bkA h b j a = fd_mdA h B j a) ∧ (fd_bkA h b 1 a = nI 3 ∧ fd_bkA h b 3 a = -1 ∨ ∃ q, q ≤ 99 ∧ fd_bkA h b 3 a = nI q) ∧ ∃ f t, f ≤ t ∧ t ≤ 3000 ∧ fd_bkA h b 4 a = nI f ∧ fd_bkA h b 5 a = nI t
def fd_Ife (h : fd_Hp) : Prop := ∃ n, n ≤ 16 ∧ h.1 60 0 = nI n ∧ h.1 77 34 = nI n ∧ ∀ f, f < n → h.1 61 f = h.1 95 f ∧ h.1 62 f = h.1 96 f
def fd_Iba (h : fd_Hp) : Prop := ∃ n, n ≤ 4 ∧ h.1 63 0 = nI n ∧ h.1 77 37 = nI n ∧ ∀ i, i < n → fd_bd (h.1 64 i) (h.1 97 i) 0 63 ∧ fd_bd (h.1 65 i) (h.1 98 i) 0 7 ∧ fd_bd (h.1 66 i) (h.1 99 i) 1 50
def fd_Iof (h : fd_Hp) (ns : Nat) : Prop := (∃ n w, n ≤ 12 ∧ w < 2 ^ n ∧ h.1 70 0 = nI n ∧ h.1 77 43 = nI n ∧ h.1 70 1 = nI w ∧ ∀ o, o < n → fd_bd (h.1 71 o) (h.1 102 o) 0 5 ∧ fd_bd (h.1 72 o) (h.1 103 o) 0 15 ∧ h.1 104 o = if w.testBit o then nI 1 else nI 0) ∧ (∀ s, s < ns → fd_bd (h.1 73 s) (h.1 81 s) 0 15) ∧ ∀ s, ns ≤ s → s < 6 → h.1 73 s = nI 15
def fd_Ipl (h : fd_Hp) : Prop := ∀ a, a < 5 → ∃ x y : Int, -20 ≤ x ∧ x ≤ 20 ∧ -20 ≤ y ∧ y ≤ 20 ∧ h.1 105 (2 * a) = Int32.ofInt x ∧ h.1 105 (2 * a + 1) = Int32.ofInt y ∧ h.1 76 a = Int32.ofInt (min x y)
def fd_Inv (k : fd_Sk) (h : fd_Hp) : Prop := ∃ fb bb dr ns np nb t, fd_Sok k fb bb dr ∧ fd_Fl 1 h h ns np nb t ∧ h.1 77 0 = nI t ∧ fd_Itx h ∧ fd_Bk h fb 0 ∧ fd_Bk h bb 1 ∧ fd_Ife h ∧ fd_Iba h ∧ fd_Iof h ns ∧ fd_Ipl h
/-- a call of FleetDelegates and the same of the reference: the same number, and what holds between two calls holds again -/
def fd_Ag (k : fd_Sk) (h : fd_Hp) (mc : Nat) (lc : fd_Lc) (mm : Nat) (lm : fd_Lc) : Prop := ∃ v k' h1 h2, fd_E mc 0 lc [] k h = some (some (.int v), (k', h1)) ∧ fd_E mm 0 lm [] k' h1 = some (some (.int v), (k', h2)) ∧ fd_Inv k' h2 ∧ k'.2 = k.2
section INV
variable {k : fd_Sk} {h : fd_Hp} {fb bb dr b : Nat}
theorem fd_ag_ro {mc mm : Nat} {lc lm : fd_Lc} {v w : Int32} (I : fd_Inv k h) (h1 : fd_E mc 0 lc [] k h = some (some (.int v), (k, h))) (h2 : fd_E mm 0 lm [] k h = some (some (.int w), (k, h))) (e : v = w) : fd_Ag k h mc lc mm lm := ⟨v, k, h, h, h1, e ▸ h2, I, rfl⟩
theorem fd_bde {x y : Int32} {l m : Nat} (h : fd_bd x y l m) : x = y := by obtain ⟨n, _, _, h1, h2⟩ := h; rw [h1, h2]
/-- an argument that is a number below n, or none -/
theorem fd_arg {v : Int32} {n : Nat} (hn : n ≤ 100) : fd_wi v (nI 0) (nI n - nI 1) ↔ ∃ s, s < n ∧ v = nI s := by
  have h1 : (nI n - nI 1 : Int32).toInt = (n : Int) - 1 := by
    rw [Int32.toInt_sub, nI_toInt (by omega), nI_toInt (by omega)]
    exact Int.bmod_eq_of_le (by omega) (by omega)
  unfold fd_wi
  rw [Int32.lt_iff_toInt_lt, Int32.lt_iff_toInt_lt, h1, nI_toInt (by omega)]
  constructor
  · rintro ⟨h2, h3⟩
    refine ⟨v.toInt.toNat, by omega, Int32.toInt_inj.mp ?_⟩
    rw [nI_toInt (by omega)]
    omega
  · rintro ⟨s, h2, rfl⟩
    rw [nI_toInt (by omega)]
    omega
/-- .. between two literals -/
theorem fd_argL {v : Int32} {l n : Nat} (hn : n < 2 ^ 31) (hl : l < 2 ^ 31) : fd_wi v (nI l) (nI n) ↔ ∃ s, l ≤ s ∧ s ≤ n ∧ v = nI s := by
  unfold fd_wi
  rw [Int32.lt_iff_toInt_lt, Int32.lt_iff_toInt_lt, nI_toInt hn, nI_toInt hl]
  constructor
  · rintro ⟨h2, h3⟩
    refine ⟨v.toInt.toNat, by omega, by omega, Int32.toInt_inj.mp ?_⟩
    rw [nI_toInt (by omega)]
    omega
  · rintro ⟨s, h2, h3, rfl⟩
    rw [nI_toInt (by omega)]
    omega
theorem fd_nIj {a b : Nat} (ha : a < 2 ^ 31) (hb : b < 2 ^ 31) (e : nI a = nI b) : a = b := (nI_eq ha hb).mp e
end INV
