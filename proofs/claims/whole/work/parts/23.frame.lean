/-! WHAT STAYS when other places change; the calls that write little -/
section FRM
variable {k : fd_Sk} {h g : fd_Hp} {fb bb dr b : Nat}
theorem fd_wp {h : fd_Hp} {p j q : Nat} {x : Int32} (hn : ¬ q = p) : (fd_w h p j x).1 q = h.1 q := funext fun i => fd_w1 hn
theorem fd_Itx_fr (e : g.1 39 = h.1 39 ∧ g.1 40 = h.1 40 ∧ g.1 91 = h.1 91 ∧ g.1 77 22 = h.1 77 22) (I : fd_Itx h) : fd_Itx g := by
  obtain ⟨e0, e1, e2, e3⟩ := e
  unfold fd_Itx at I ⊢
  simpa only [e0, e1, e2, e3] using I
theorem fd_Bk_fr {B : Nat} (hb : fd_isB b) (e : g.1 42 = h.1 42 ∧ g.1 43 = h.1 43 ∧ g.1 44 = h.1 44 ∧ g.1 45 = h.1 45 ∧ g.1 46 = h.1 46 ∧ g.1 47 = h.1 47 ∧ g.1 48 = h.1 48 ∧ g.1 49 = h.1 49 ∧ g.1 50 = h.1 50 ∧ g.1 51 = h.1 51 ∧ g.1 52 = h.1 52 ∧ g.1 53 = h.1 53 ∧ g.1 54 = h.1 54 ∧ g.1 55 = h.1 55 ∧ g.1 56 = h.1 56 ∧ g.1 57 = h.1 57 ∧ g.1 58 = h.1 58 ∧ g.1 59 = h.1 59 ∧ g.1 93 = h.1 93 ∧ g.1 94 = h.1 94) (I : fd_Bk h b B) : fd_Bk g b B := by
  obtain ⟨e0, e1, e2, e3, e4, e5, e6, e7, e8, e9, e10, e11, e12, e13, e14, e15, e16, e17, e18, e19⟩ := e
  unfold fd_Bk fd_bkA fd_mdA at I ⊢
  rcases hb with rfl | rfl | rfl
  · obtain ⟨n, h1, h2, h3, h4⟩ := I
    refine ⟨n, h1, by rw [e0]; exact h2, by rw [e18]; exact h3, fun a ha => ?_⟩
    obtain ⟨q1, q2, q3⟩ := h4 a ha
    refine ⟨fun j j1 j2 => ?_, by rw [e1, e3]; exact q2, ?_⟩
    · have := q1 j j1 j2
      obtain rfl | rfl | rfl | rfl | rfl : j = 1 ∨ j = 2 ∨ j = 3 ∨ j = 4 ∨ j = 5 := by omega
      all_goals simp only [Nat.reduceAdd] at this ⊢
      all_goals simpa only [e19, e1, e2, e3, e4, e5] using this
    · rw [e4, e5]; exact q3
  · obtain ⟨n, h1, h2, h3, h4⟩ := I
    refine ⟨n, h1, by rw [e6]; exact h2, by rw [e18]; exact h3, fun a ha => ?_⟩
    obtain ⟨q1, q2, q3⟩ := h4 a ha
    refine ⟨fun j j1 j2 => ?_, by rw [e7, e9]; exact q2, ?_⟩
    · have := q1 j j1 j2
      obtain rfl | rfl | rfl | rfl | rfl : j = 1 ∨ j = 2 ∨ j = 3 ∨ j = 4 ∨ j = 5 := by omega
      all_goals simp only [Nat.reduceAdd] at this ⊢
      all_goals simpa only [e19, e7, e8, e9, e10, e11] using this
    · rw [e10, e11]; exact q3
  · obtain ⟨n, h1, h2, h3, h4⟩ := I
    refine ⟨n, h1, by rw [e12]; exact h2, by rw [e18]; exact h3, fun a ha => ?_⟩
    obtain ⟨q1, q2, q3⟩ := h4 a ha
    refine ⟨fun j j1 j2 => ?_, by rw [e13, e15]; exact q2, ?_⟩
    · have := q1 j j1 j2
      obtain rfl | rfl | rfl | rfl | rfl : j = 1 ∨ j = 2 ∨ j = 3 ∨ j = 4 ∨ j = 5 := by omega
      all_goals simp only [Nat.reduceAdd] at this ⊢
      all_goals simpa only [e19, e13, e14, e15, e16, e17] using this
    · rw [e16, e17]; exact q3
theorem fd_Ife_fr (e : g.1 60 = h.1 60 ∧ g.1 61 = h.1 61 ∧ g.1 62 = h.1 62 ∧ g.1 95 = h.1 95 ∧ g.1 96 = h.1 96 ∧ g.1 77 34 = h.1 77 34) (I : fd_Ife h) : fd_Ife g := by
  obtain ⟨e0, e1, e2, e3, e4, e5⟩ := e
  unfold fd_Ife at I ⊢
  simpa only [e0, e1, e2, e3, e4, e5] using I
theorem fd_Iba_fr (e : g.1 63 = h.1 63 ∧ g.1 64 = h.1 64 ∧ g.1 65 = h.1 65 ∧ g.1 66 = h.1 66 ∧ g.1 97 = h.1 97 ∧ g.1 98 = h.1 98 ∧ g.1 99 = h.1 99 ∧ g.1 77 37 = h.1 77 37) (I : fd_Iba h) : fd_Iba g := by
  obtain ⟨e0, e1, e2, e3, e4, e5, e6, e7⟩ := e
  unfold fd_Iba at I ⊢
  simpa only [e0, e1, e2, e3, e4, e5, e6, e7] using I
theorem fd_Iof_fr {ns : Nat} (e : g.1 70 = h.1 70 ∧ g.1 71 = h.1 71 ∧ g.1 72 = h.1 72 ∧ g.1 73 = h.1 73 ∧ g.1 102 = h.1 102 ∧ g.1 103 = h.1 103 ∧ g.1 104 = h.1 104 ∧ g.1 81 = h.1 81 ∧ g.1 77 43 = h.1 77 43) (I : fd_Iof h ns) : fd_Iof g ns := by
  obtain ⟨e0, e1, e2, e3, e4, e5, e6, e7, e8⟩ := e
  unfold fd_Iof at I ⊢
  simpa only [e0, e1, e2, e3, e4, e5, e6, e7, e8] using I
theorem fd_Ipl_fr (e : g.1 76 = h.1 76 ∧ g.1 105 = h.1 105) (I : fd_Ipl h) : fd_Ipl g := by
  obtain ⟨e0, e1⟩ := e
  unfold fd_Ipl at I ⊢
  simpa only [e0, e1] using I
theorem fd_Fl_fr {ns np nb t : Nat} (e : g.1 1 = h.1 1 ∧ g.1 2 = h.1 2 ∧ g.1 3 = h.1 3 ∧ g.1 4 = h.1 4 ∧ g.1 5 = h.1 5 ∧ g.1 6 = h.1 6 ∧ g.1 7 = h.1 7 ∧ g.1 8 = h.1 8 ∧ g.1 9 = h.1 9 ∧ g.1 10 = h.1 10 ∧ g.1 11 = h.1 11 ∧ g.1 12 = h.1 12 ∧ g.1 13 = h.1 13 ∧ g.1 14 = h.1 14 ∧ g.1 15 = h.1 15 ∧ g.1 16 = h.1 16 ∧ g.1 17 = h.1 17 ∧ g.1 18 = h.1 18 ∧ g.1 19 = h.1 19 ∧ g.1 78 = h.1 78 ∧ g.1 79 = h.1 79 ∧ g.1 80 = h.1 80 ∧ g.1 82 = h.1 82 ∧ g.1 84 = h.1 84 ∧ g.1 85 = h.1 85 ∧ g.1 87 = h.1 87 ∧ g.1 89 = h.1 89 ∧ g.1 77 1 = h.1 77 1 ∧ g.1 77 2 = h.1 77 2 ∧ g.1 77 3 = h.1 77 3 ∧ g.1 77 4 = h.1 77 4 ∧ g.1 77 5 = h.1 77 5 ∧ g.1 77 12 = h.1 77 12 ∧ g.1 77 18 = h.1 77 18) (I : fd_Fl 1 h h ns np nb t) : fd_Fl 1 g g ns np nb t := by
  obtain ⟨e0, e1, e2, e3, e4, e5, e6, e7, e8, e9, e10, e11, e12, e13, e14, e15, e16, e17, e18, e19, e20, e21, e22, e23, e24, e25, e26, e27, e28, e29, e30, e31, e32, e33⟩ := e
  unfold fd_Fl fd_S1 fd_B1 at I ⊢
  simp only [Nat.reduceAdd] at I ⊢
  simpa only [e0, e1, e2, e3, e4, e5, e6, e7, e8, e9, e10, e11, e12, e13, e14, e15, e16, e17, e18, e19, e20, e21, e22, e23, e24, e25, e26, e27, e28, e29, e30, e31, e32, e33] using I
end FRM
