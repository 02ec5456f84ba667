/-! EQUATIONS of the pure machine, a row an instruction; numbers that are small naturals are written nI -/
noncomputable abbrev fd_E (m pc : Nat) (lo : fd_Lc) (st : List Value) (k : fd_Sk) (h : fd_Hp) : Option fd_Rs := fd_EvF (m, pc, lo, st, (0, 0), (k, h))
theorem fd_Ev_go {f f' : fd_Fr} (hn : fd_nxt f = some (.inr (.inl f'))) : fd_EvF f = fd_EvF f' := by
  rw [fd_EvF_eq]
  unfold fd_stp
  rw [hn]
theorem fd_Ev_ret {f : fd_Fr} {r : fd_Rs} (hn : fd_nxt f = some (.inl r)) : fd_EvF f = some r := by
  rw [fd_EvF_eq]
  unfold fd_stp
  rw [hn]
theorem fd_Ev_call {f g : fd_Fr} {q : fd_Rs → fd_Fr} (hn : fd_nxt f = some (.inr (.inr (g, q)))) : fd_EvF f = (fd_EvF g).bind (fun r => fd_EvF (q r)) := by
  rw [fd_EvF_eq]
  unfold fd_stp
  rw [hn]
  dsimp only
  cases fd_EvF g <;> rfl
section EQS
variable {m pc : Nat} {lo lo' : fd_Lc} {st : List Value} {cn : Nat × Nat} {k : fd_Sk} {h : fd_Hp}
theorem fd_nxt_of {i : Instr} {len : Nat} {a : fd_Act} (hd : decode (fd_code m) pc = .ok (i, len)) (hn : fd_nx m pc lo st cn k h i len = some a) : fd_nxt (m, pc, lo, st, cn, (k, h)) = some a := by
  unfold fd_nxt
  dsimp only
  rw [hd]
  exact hn
theorem fd_x {i : Instr} {len : Nat} {f' : fd_Fr} (hd : decode (fd_code m) pc = .ok (i, len)) (hn : fd_nx m pc lo st cn k h i len = some (.inr (.inl f'))) : fd_EvF (m, pc, lo, st, cn, (k, h)) = fd_EvF f' := fd_Ev_go (fd_nxt_of hd hn)
theorem fd_x_ret {i : Instr} {len : Nat} {r : fd_Rs} (hd : decode (fd_code m) pc = .ok (i, len)) (hn : fd_nx m pc lo st cn k h i len = some (.inl r)) : fd_EvF (m, pc, lo, st, cn, (k, h)) = some r := fd_Ev_ret (fd_nxt_of hd hn)
theorem fd_x_call {i : Instr} {len : Nat} {g : fd_Fr} {q : fd_Rs → fd_Fr} (hd : decode (fd_code m) pc = .ok (i, len)) (hn : fd_nx m pc lo st cn k h i len = some (.inr (.inr (g, q)))) : fd_EvF (m, pc, lo, st, cn, (k, h)) = (fd_EvF g).bind (fun r => fd_EvF (q r)) := fd_Ev_call (fd_nxt_of hd hn)
theorem fd_jmp_of {off : Int} {t : Nat} (h : (pc : Int) + off = (t : Int)) : fd_jmp pc off = some t := by
  unfold fd_jmp
  rw [h, if_pos (Int.natCast_nonneg t)]
  rfl
theorem fd_x_set {i : Nat} {v : Value} (h1 : i < lo.length) (h2 : i = 0 ∨ fd_nl (lo.getD (i - 1) none) = true) (h3 : lo.set i (some v) = lo') : fd_set lo i v = some lo' := by
  unfold fd_set
  rw [if_pos ⟨h1, h2⟩, h3]
theorem fd_x_isn {x : Int32} {i : Fin 4} (hd : decode (fd_code m) pc = .ok (.istore_n i, 1)) (hs : fd_set lo (i : Nat) (.int x) = some lo') : fd_EvF (m, pc, lo, .int x :: st, cn, (k, h)) = fd_EvF (m, pc + 1, lo', st, cn, (k, h)) :=
  fd_x hd (by show fd_si m pc lo (.int x :: st) cn k h (i : Nat) 1 = _; unfold fd_si; dsimp only; rw [hs]; rfl)
theorem fd_x_is {x : Int32} {i : Nat} (hd : decode (fd_code m) pc = .ok (.istore i, 2)) (hs : fd_set lo i (.int x) = some lo') : fd_EvF (m, pc, lo, .int x :: st, cn, (k, h)) = fd_EvF (m, pc + 2, lo', st, cn, (k, h)) :=
  fd_x hd (by show fd_si m pc lo (.int x :: st) cn k h i 2 = _; unfold fd_si; dsimp only; rw [hs]; rfl)
theorem fd_x_asn {x : Nat} {i : Fin 4} (hd : decode (fd_code m) pc = .ok (.astore_n i, 1)) (hs : fd_set lo (i : Nat) (.ref x) = some lo') : fd_EvF (m, pc, lo, .ref x :: st, cn, (k, h)) = fd_EvF (m, pc + 1, lo', st, cn, (k, h)) :=
  fd_x hd (by show fd_sa m pc lo (.ref x :: st) cn k h (i : Nat) 1 = _; unfold fd_sa; dsimp only; rw [hs]; rfl)
theorem fd_x_as {x : Nat} {i : Nat} (hd : decode (fd_code m) pc = .ok (.astore i, 2)) (hs : fd_set lo i (.ref x) = some lo') : fd_EvF (m, pc, lo, .ref x :: st, cn, (k, h)) = fd_EvF (m, pc + 2, lo', st, cn, (k, h)) :=
  fd_x hd (by show fd_sa m pc lo (.ref x :: st) cn k h i 2 = _; unfold fd_sa; dsimp only; rw [hs]; rfl)
theorem fd_x_inc {x y : Int32} {i : Nat} {n : Int} (hd : decode (fd_code m) pc = .ok (.iinc i n, 3)) (hl : lo[i]? = some (some (.int x))) (hy : x + Int32.ofInt n = y) (hs : fd_set lo i (.int y) = some lo') : fd_EvF (m, pc, lo, st, cn, (k, h)) = fd_EvF (m, pc + 3, lo', st, cn, (k, h)) :=
  fd_x hd (by subst hy; dsimp only [fd_nx]; rw [if_pos rfl, hl]; dsimp only; rw [hs]; rfl)
theorem fd_x_div {x y : Int32} (hd : decode (fd_code m) pc = .ok (.idiv, 1)) (hy : ¬ y = 0) : fd_EvF (m, pc, lo, .int y :: .int x :: st, cn, (k, h)) = fd_EvF (m, pc + 1, lo, .int (x / y) :: st, cn, (k, h)) :=
  fd_x hd (by dsimp only [fd_nx, fd_ii]; rw [if_pos rfl, if_neg hy]; rfl)
theorem fd_x_rem {x y : Int32} (hd : decode (fd_code m) pc = .ok (.irem, 1)) (hy : ¬ y = 0) : fd_EvF (m, pc, lo, .int y :: .int x :: st, cn, (k, h)) = fd_EvF (m, pc + 1, lo, .int (x - x / y * y) :: st, cn, (k, h)) :=
  fd_x hd (by dsimp only [fd_nx, fd_ii]; rw [if_pos rfl, if_neg hy]; rfl)
theorem fd_x_goto {off : Int} {t : Nat} (hd : decode (fd_code m) pc = .ok (.goto off, 3)) (ht : (pc : Int) + off = (t : Int)) : fd_EvF (m, pc, lo, st, cn, (k, h)) = fd_EvF (m, t, lo, st, cn, (k, h)) :=
  fd_x hd (by dsimp only [fd_nx]; rw [if_pos rfl, fd_jmp_of ht]; rfl)
theorem fd_x_br {b : Bool} {i : Instr} {off : Int} {t : Nat} {r : List Value} (hd : decode (fd_code m) pc = .ok (i, 3)) (hn : fd_nx m pc lo st cn k h i 3 = fd_br m pc lo cn k h b off r) (ht : (pc : Int) + off = (t : Int)) : fd_EvF (m, pc, lo, st, cn, (k, h)) = if b = true then fd_EvF (m, t, lo, r, cn, (k, h)) else fd_EvF (m, pc + 3, lo, r, cn, (k, h)) := by
  have e : fd_EvF (m, pc, lo, st, cn, (k, h)) = fd_EvF (m, if b = true then t else pc + 3, lo, r, cn, (k, h)) := fd_x hd (by rw [hn]; unfold fd_br; rw [fd_jmp_of ht]; rfl)
  rw [e]
  split <;> rfl
theorem fd_ite_b {α : Type} {b : Bool} {c : Prop} [Decidable c] (e : b = decide c) (x y : α) : (if b = true then x else y) = if c then x else y := by
  subst e
  by_cases hc : c <;> simp [hc]
theorem fd_ite_nb {α : Type} {b : Bool} {c : Prop} [Decidable c] (e : b = !decide c) (x y : α) : (if b = true then x else y) = if c then y else x := by
  subst e
  by_cases hc : c <;> simp [hc]
end EQS
section EQB
variable {m pc : Nat} {lo : fd_Lc} {st : List Value} {cn : Nat × Nat} {k : fd_Sk} {h : fd_Hp} {x y : Int32} {off : Int} {t : Nat}
theorem fd_x_if_eq (hd : decode (fd_code m) pc = .ok (.ifCond .eq off, 3)) (ht : (pc : Int) + off = (t : Int)) : fd_EvF (m, pc, lo, .int x :: st, cn, (k, h)) = if x = 0 then fd_EvF (m, t, lo, st, cn, (k, h)) else fd_EvF (m, pc + 3, lo, st, cn, (k, h)) := (fd_x_br hd rfl ht).trans (fd_ite_b rfl _ _)
theorem fd_x_ic_eq (hd : decode (fd_code m) pc = .ok (.if_icmp .eq off, 3)) (ht : (pc : Int) + off = (t : Int)) : fd_EvF (m, pc, lo, .int y :: .int x :: st, cn, (k, h)) = if x = y then fd_EvF (m, t, lo, st, cn, (k, h)) else fd_EvF (m, pc + 3, lo, st, cn, (k, h)) := (fd_x_br hd rfl ht).trans (fd_ite_b rfl _ _)
theorem fd_x_if_lt (hd : decode (fd_code m) pc = .ok (.ifCond .lt off, 3)) (ht : (pc : Int) + off = (t : Int)) : fd_EvF (m, pc, lo, .int x :: st, cn, (k, h)) = if x < 0 then fd_EvF (m, t, lo, st, cn, (k, h)) else fd_EvF (m, pc + 3, lo, st, cn, (k, h)) := (fd_x_br hd rfl ht).trans (fd_ite_b rfl _ _)
theorem fd_x_ic_lt (hd : decode (fd_code m) pc = .ok (.if_icmp .lt off, 3)) (ht : (pc : Int) + off = (t : Int)) : fd_EvF (m, pc, lo, .int y :: .int x :: st, cn, (k, h)) = if x < y then fd_EvF (m, t, lo, st, cn, (k, h)) else fd_EvF (m, pc + 3, lo, st, cn, (k, h)) := (fd_x_br hd rfl ht).trans (fd_ite_b rfl _ _)
theorem fd_x_if_ge (hd : decode (fd_code m) pc = .ok (.ifCond .ge off, 3)) (ht : (pc : Int) + off = (t : Int)) : fd_EvF (m, pc, lo, .int x :: st, cn, (k, h)) = if 0 ≤ x then fd_EvF (m, t, lo, st, cn, (k, h)) else fd_EvF (m, pc + 3, lo, st, cn, (k, h)) := (fd_x_br hd rfl ht).trans (fd_ite_b rfl _ _)
theorem fd_x_ic_ge (hd : decode (fd_code m) pc = .ok (.if_icmp .ge off, 3)) (ht : (pc : Int) + off = (t : Int)) : fd_EvF (m, pc, lo, .int y :: .int x :: st, cn, (k, h)) = if y ≤ x then fd_EvF (m, t, lo, st, cn, (k, h)) else fd_EvF (m, pc + 3, lo, st, cn, (k, h)) := (fd_x_br hd rfl ht).trans (fd_ite_b rfl _ _)
theorem fd_x_if_gt (hd : decode (fd_code m) pc = .ok (.ifCond .gt off, 3)) (ht : (pc : Int) + off = (t : Int)) : fd_EvF (m, pc, lo, .int x :: st, cn, (k, h)) = if 0 < x then fd_EvF (m, t, lo, st, cn, (k, h)) else fd_EvF (m, pc + 3, lo, st, cn, (k, h)) := (fd_x_br hd rfl ht).trans (fd_ite_b rfl _ _)
theorem fd_x_ic_gt (hd : decode (fd_code m) pc = .ok (.if_icmp .gt off, 3)) (ht : (pc : Int) + off = (t : Int)) : fd_EvF (m, pc, lo, .int y :: .int x :: st, cn, (k, h)) = if y < x then fd_EvF (m, t, lo, st, cn, (k, h)) else fd_EvF (m, pc + 3, lo, st, cn, (k, h)) := (fd_x_br hd rfl ht).trans (fd_ite_b rfl _ _)
theorem fd_x_if_le (hd : decode (fd_code m) pc = .ok (.ifCond .le off, 3)) (ht : (pc : Int) + off = (t : Int)) : fd_EvF (m, pc, lo, .int x :: st, cn, (k, h)) = if x ≤ 0 then fd_EvF (m, t, lo, st, cn, (k, h)) else fd_EvF (m, pc + 3, lo, st, cn, (k, h)) := (fd_x_br hd rfl ht).trans (fd_ite_b rfl _ _)
theorem fd_x_ic_le (hd : decode (fd_code m) pc = .ok (.if_icmp .le off, 3)) (ht : (pc : Int) + off = (t : Int)) : fd_EvF (m, pc, lo, .int y :: .int x :: st, cn, (k, h)) = if x ≤ y then fd_EvF (m, t, lo, st, cn, (k, h)) else fd_EvF (m, pc + 3, lo, st, cn, (k, h)) := (fd_x_br hd rfl ht).trans (fd_ite_b rfl _ _)
theorem fd_x_if_ne (hd : decode (fd_code m) pc = .ok (.ifCond .ne off, 3)) (ht : (pc : Int) + off = (t : Int)) : fd_EvF (m, pc, lo, .int x :: st, cn, (k, h)) = if x = 0 then fd_EvF (m, pc + 3, lo, st, cn, (k, h)) else fd_EvF (m, t, lo, st, cn, (k, h)) := (fd_x_br hd rfl ht).trans (fd_ite_nb rfl _ _)
theorem fd_x_ic_ne (hd : decode (fd_code m) pc = .ok (.if_icmp .ne off, 3)) (ht : (pc : Int) + off = (t : Int)) : fd_EvF (m, pc, lo, .int y :: .int x :: st, cn, (k, h)) = if x = y then fd_EvF (m, pc + 3, lo, st, cn, (k, h)) else fd_EvF (m, t, lo, st, cn, (k, h)) := (fd_x_br hd rfl ht).trans (fd_ite_nb rfl _ _)
end EQB
section EQC
variable {m pc : Nat} {lo : fd_Lc} {st : List Value} {cn : Nat × Nat} {k : fd_Sk} {h : fd_Hp}
theorem fd_x_get {i i' c j w p : Nat} {v : Value} (hd : decode (fd_code m) pc = .ok (.getfield i, 3)) (hf : fd_fld (fd_own m) i = some (i', c, j, w)) (hp : fd_at k p = some (.inl c)) (hv : fd_val k h c p j = v) : fd_EvF (m, pc, lo, .ref p :: st, cn, (k, h)) = fd_EvF (m, pc + 3, lo, v :: st, cn, (k, h)) :=
  fd_x hd (by subst hv; dsimp only [fd_nx]; rw [if_pos rfl]; unfold fd_get; rw [hf]; dsimp only; rw [if_pos hp]; rfl)
theorem fd_x_put {i i' c j w p : Nat} {v : Value} {k' : fd_Sk} {h' : fd_Hp} (hd : decode (fd_code m) pc = .ok (.putfield i, 3)) (hf : fd_fld (fd_own m) i = some (i', c, j, w)) (hp : fd_at k p = some (.inl c)) (hfin : (fd_T c j).2.2.2 = false ∨ (fd_isI m = true ∧ c = fd_own m)) (hv : fd_put k h c p j v = some (k', h')) : fd_EvF (m, pc, lo, v :: .ref p :: st, cn, (k, h)) = fd_EvF (m, pc + 3, lo, st, cn, (k', h')) :=
  fd_x hd (by dsimp only [fd_nx]; rw [if_pos rfl]; unfold fd_putf; rw [hf]; dsimp only; rw [if_pos ⟨hp, hfin⟩, hv]; rfl)
theorem fd_cl {i : Nat} (hi : i < 2000) : (nI i).toNatClampNeg = i := nI_clamp (by omega)
theorem fd_ixN {i n : Nat} (hi : i < n) (hn : n ≤ 1000) : ¬ (nI i < 0 ∨ n ≤ (nI i).toNatClampNeg) := by
  rintro (z | z)
  · exact nI_pos (by omega) z
  · rw [fd_cl (by omega)] at z; omega
theorem fd_x_iald {i p n : Nat} (hd : decode (fd_code m) pc = .ok (.iaload, 1)) (hp : fd_at k p = some (.inr (false, n))) (hn : n ≤ 1000) (hi : i < n) : fd_EvF (m, pc, lo, .int (nI i) :: .ref p :: st, cn, (k, h)) = fd_EvF (m, pc + 1, lo, .int (h.1 p i) :: st, cn, (k, h)) :=
  fd_x hd (by dsimp only [fd_nx]; rw [if_pos rfl]; unfold fd_ald; dsimp only; rw [hp]; dsimp only; rw [if_pos (fd_ixN hi hn), fd_cl (by omega)]; rfl)
theorem fd_x_iast {i p n : Nat} {x : Int32} (hd : decode (fd_code m) pc = .ok (.iastore, 1)) (hp : fd_at k p = some (.inr (false, n))) (hn : n ≤ 1000) (hi : i < n) : fd_EvF (m, pc, lo, .int x :: .int (nI i) :: .ref p :: st, cn, (k, h)) = fd_EvF (m, pc + 1, lo, st, cn, (k, fd_w h p i x)) :=
  fd_x hd (by dsimp only [fd_nx]; rw [if_pos rfl]; unfold fd_ast; dsimp only; rw [hp]; dsimp only; rw [if_pos (fd_ixN hi hn), fd_cl (by omega)]; rfl)
theorem fd_x_zald {i p n : Nat} (hd : decode (fd_code m) pc = .ok (.baload, 1)) (hp : fd_at k p = some (.inr (true, n))) (hn : n ≤ 1000) (hi : i < n) : fd_EvF (m, pc, lo, .int (nI i) :: .ref p :: st, cn, (k, h)) = fd_EvF (m, pc + 1, lo, .int (h.1 p i) :: st, cn, (k, h)) :=
  fd_x hd (by dsimp only [fd_nx]; rw [if_pos rfl]; unfold fd_zld; dsimp only; rw [hp]; dsimp only; rw [if_pos (fd_ixN hi hn), fd_cl (by omega)]; rfl)
theorem fd_x_zast {i p n : Nat} {x : Int32} (hd : decode (fd_code m) pc = .ok (.bastore, 1)) (hp : fd_at k p = some (.inr (true, n))) (hn : n ≤ 1000) (hi : i < n) : fd_EvF (m, pc, lo, .int x :: .int (nI i) :: .ref p :: st, cn, (k, h)) = fd_EvF (m, pc + 1, lo, st, cn, (k, fd_w h p i (vp_nar .boolean x))) :=
  fd_x hd (by dsimp only [fd_nx]; rw [if_pos rfl]; unfold fd_zst; dsimp only; rw [hp]; dsimp only; rw [if_pos (fd_ixN hi hn), fd_cl (by omega)]; rfl)
theorem fd_x_iold {i p n : Nat} {f : Nat → Int32} (hd : decode (fd_code m) pc = .ok (.iaload, 1)) (hp : fd_at k p = none) (ho : fd_old k p = some (n, f)) (hn : n < 10000) (hi : i < n) : fd_EvF (m, pc, lo, .int (nI i) :: .ref p :: st, cn, (k, h)) = fd_EvF (m, pc + 1, lo, .int (f i) :: st, cn, (k, h)) :=
  fd_x hd (by
    have hc : (nI i).toNatClampNeg = i := nI_clamp (by omega)
    dsimp only [fd_nx]; rw [if_pos rfl]; unfold fd_ald; dsimp only; rw [hp]; dsimp only; rw [ho]; dsimp only
    rw [if_pos (show ¬ (nI i < 0 ∨ n ≤ (nI i).toNatClampNeg) from fun z => z.elim (nI_pos (by omega)) (fun z => by rw [hc] at z; omega)), hc]; rfl)
theorem fd_x_len {p n : Nat} {z : Bool} (hd : decode (fd_code m) pc = .ok (.arraylength, 1)) (hp : fd_at k p = some (.inr (z, n))) : fd_EvF (m, pc, lo, .ref p :: st, cn, (k, h)) = fd_EvF (m, pc + 1, lo, .int (nI n) :: st, cn, (k, h)) :=
  fd_x hd (by dsimp only [fd_nx]; rw [if_pos rfl]; unfold fd_len; dsimp only; rw [hp]; rfl)
theorem fd_x_lold {p n : Nat} {f : Nat → Int32} (hd : decode (fd_code m) pc = .ok (.arraylength, 1)) (hp : fd_at k p = none) (ho : fd_old k p = some (n, f)) : fd_EvF (m, pc, lo, .ref p :: st, cn, (k, h)) = fd_EvF (m, pc + 1, lo, .int (nI n) :: st, cn, (k, h)) :=
  fd_x hd (by dsimp only [fd_nx]; rw [if_pos rfl]; unfold fd_len; dsimp only; rw [hp]; dsimp only; rw [ho]; rfl)
theorem fd_x_virt {i i' kd cal na w b : Nat} {as r : List Value} {le : fd_Lc} (hd : decode (fd_code m) pc = .ok (.invokevirtual i, 3)) (hf : fd_lnk (fd_own m) i = some (i', kd, cal, na, w)) (hk : kd = 0 ∨ kd = 3) (hb : fd_at k b = some (.inl (fd_own cal))) (ht : (st.take na).length = na) (hr : st.drop na = .ref b :: r) (ha : .ref b :: (st.take na).reverse = as)
    (hc : r.length ≤ 4 ∧ fd_rk cal < fd_rk m ∧ cn.1 + fd_mc cal ≤ fd_mc m ∧ cn.2 + fd_ms cal ≤ fd_ms m ∧ cal < 201 ∧ (fd_ent as 0).length ≤ fd_ml cal) (hl : fd_ent as (fd_ml cal) = le) : fd_EvF (m, pc, lo, st, cn, (k, h)) = (fd_EvF (cal, 0, le, [], (0, 0), (k, h))).bind (fun z => fd_EvF (m, pc + 3, lo, z.1.toList ++ r, (cn.1 + fd_mc cal, cn.2 + fd_ms cal), z.2)) := by
  subst hl; subst ha
  refine fd_x_call hd ?_
  dsimp only [fd_nx]; rw [if_pos rfl]; unfold fd_virt; rw [hf]; dsimp only; rw [if_pos hk, hr]; dsimp only; rw [if_pos ⟨hb, ht⟩]; unfold fd_enter; rw [if_pos hc]
theorem fd_x_spec {i i' kd cal na w b : Nat} {as r : List Value} {le : fd_Lc} (hd : decode (fd_code m) pc = .ok (.invokespecial i, 3)) (hf : fd_lnk (fd_own m) i = some (i', kd, cal, na, w)) (hk : kd = 2 ∨ kd = 5) (ht : (st.take na).length = na) (hr : st.drop na = .ref b :: r) (ha : .ref b :: (st.take na).reverse = as)
    (hc : r.length ≤ 4 ∧ fd_rk cal < fd_rk m ∧ cn.1 + fd_mc cal ≤ fd_mc m ∧ cn.2 + fd_ms cal ≤ fd_ms m ∧ cal < 201 ∧ (fd_ent as 0).length ≤ fd_ml cal) (hl : fd_ent as (fd_ml cal) = le) : fd_EvF (m, pc, lo, st, cn, (k, h)) = (fd_EvF (cal, 0, le, [], (0, 0), (k, h))).bind (fun z => fd_EvF (m, pc + 3, lo, z.1.toList ++ r, (cn.1 + fd_mc cal, cn.2 + fd_ms cal), z.2)) := by
  subst hl; subst ha
  refine fd_x_call hd ?_
  dsimp only [fd_nx]; rw [if_pos rfl]; unfold fd_spec; rw [hf]; dsimp only; rw [if_pos hk, hr]; dsimp only; rw [if_pos ht]; unfold fd_enter; rw [if_pos hc]
theorem fd_x_stat {i i' kd cal na w : Nat} {as r : List Value} {le : fd_Lc} (hd : decode (fd_code m) pc = .ok (.invokestatic i, 3)) (hf : fd_lnk (fd_own m) i = some (i', kd, cal, na, w)) (hk : kd = 1 ∨ kd = 4) (ht : (st.take na).length = na) (hr : st.drop na = r) (ha : (st.take na).reverse = as)
    (hc : r.length ≤ 4 ∧ fd_rk cal < fd_rk m ∧ cn.1 + fd_mc cal ≤ fd_mc m ∧ cn.2 + fd_ms cal ≤ fd_ms m ∧ cal < 201 ∧ (fd_ent as 0).length ≤ fd_ml cal) (hl : fd_ent as (fd_ml cal) = le) : fd_EvF (m, pc, lo, st, cn, (k, h)) = (fd_EvF (cal, 0, le, [], (0, 0), (k, h))).bind (fun z => fd_EvF (m, pc + 3, lo, z.1.toList ++ r, (cn.1 + fd_mc cal, cn.2 + fd_ms cal), z.2)) := by
  subst hl; subst ha; subst hr
  refine fd_x_call hd ?_
  dsimp only [fd_nx]; rw [if_pos rfl]; unfold fd_stat; rw [hf]; dsimp only; rw [if_pos hk, if_pos ht]; unfold fd_enter; rw [if_pos hc]
theorem fd_x_swin {d lw hi off : Int} {offs : Array Int} {len t : Nat} {x : Int32} (hd : decode (fd_code m) pc = .ok (.tableswitch d lw hi offs, len)) (hx : ¬ (x.toInt < lw ∨ hi < x.toInt)) (ho : offs[(x.toInt - lw).toNat]? = some off) (ht : (pc : Int) + off = (t : Int)) : fd_EvF (m, pc, lo, .int x :: st, cn, (k, h)) = fd_EvF (m, t, lo, st, cn, (k, h)) :=
  fd_x hd (by dsimp only [fd_nx]; unfold fd_swt; dsimp only; rw [if_neg hx, ho]; dsimp only; rw [fd_jmp_of ht]; rfl)
theorem fd_x_swout {d lw hi : Int} {offs : Array Int} {len t : Nat} {x : Int32} (hd : decode (fd_code m) pc = .ok (.tableswitch d lw hi offs, len)) (hx : x.toInt < lw ∨ hi < x.toInt) (ht : (pc : Int) + d = (t : Int)) : fd_EvF (m, pc, lo, .int x :: st, cn, (k, h)) = fd_EvF (m, t, lo, st, cn, (k, h)) :=
  fd_x hd (by dsimp only [fd_nx]; unfold fd_swt; dsimp only; rw [if_pos hx, fd_jmp_of ht]; rfl)
theorem fd_x_zret {x : Int32} {ty : FieldType} (hd : decode (fd_code m) pc = .ok (.ireturn, 1)) (ht : fd_ret m = some ty) (hn : narrow ty (.int x) = .int x) : fd_EvF (m, pc, lo, [.int x], cn, (k, h)) = some (some (.int x), (k, h)) :=
  fd_x_ret hd (by dsimp only [fd_nx]; rw [if_pos rfl]; unfold fd_iret; rw [ht]; dsimp only; rw [if_pos hn])
theorem fd_x_min {i i' cal na w : Nat} {x y : Int32} (hd : decode (fd_code m) pc = .ok (.invokestatic i, 3)) (hf : fd_lnk (fd_own m) i = some (i', 7, cal, na, w)) (hc : st.length ≤ 4 ∧ 1 ≤ fd_rk m) : fd_EvF (m, pc, lo, .int y :: .int x :: st, cn, (k, h)) = fd_EvF (m, pc + 3, lo, .int (if y < x then y else x) :: st, cn, (k, h)) :=
  fd_x hd (by dsimp only [fd_nx]; rw [if_pos rfl]; unfold fd_stat; rw [hf]; dsimp only; rw [if_neg (by decide), if_pos rfl, if_pos hc]; rfl)
theorem fd_x_max {i i' cal na w : Nat} {x y : Int32} (hd : decode (fd_code m) pc = .ok (.invokestatic i, 3)) (hf : fd_lnk (fd_own m) i = some (i', 8, cal, na, w)) (hc : st.length ≤ 4 ∧ 1 ≤ fd_rk m) : fd_EvF (m, pc, lo, .int y :: .int x :: st, cn, (k, h)) = fd_EvF (m, pc + 3, lo, .int (if x < y then y else x) :: st, cn, (k, h)) :=
  fd_x hd (by dsimp only [fd_nx]; rw [if_pos rfl]; unfold fd_stat; rw [hf]; dsimp only; rw [if_neg (by decide), if_neg (by decide), if_pos rfl, if_pos hc]; rfl)
theorem fd_x_abs {i i' cal na w : Nat} {x : Int32} (hd : decode (fd_code m) pc = .ok (.invokestatic i, 3)) (hf : fd_lnk (fd_own m) i = some (i', 9, cal, na, w)) (hc : st.length ≤ 4 ∧ 1 ≤ fd_rk m) : fd_EvF (m, pc, lo, .int x :: st, cn, (k, h)) = fd_EvF (m, pc + 3, lo, .int (if 0 ≤ x then x else 0 - x) :: st, cn, (k, h)) :=
  fd_x hd (by dsimp only [fd_nx]; rw [if_pos rfl]; unfold fd_stat; rw [hf]; dsimp only; rw [if_neg (by decide), if_neg (by decide), if_neg (by decide), if_pos rfl, if_pos hc]; rfl)
theorem fd_x_slen {i i' cal na w b : Nat} (hd : decode (fd_code m) pc = .ok (.invokevirtual i, 3)) (hf : fd_lnk (fd_own m) i = some (i', 11, cal, na, w)) (hc : st.length ≤ 4 ∧ 3 ≤ fd_rk m) (hb : b < 8) : fd_EvF (m, pc, lo, .ref (1010 + b) :: st, cn, (k, h)) = fd_EvF (m, pc + 3, lo, .int (nI (fd_txt.getD b []).length) :: st, cn, (k, h)) :=
  fd_x hd (by dsimp only [fd_nx]; rw [if_pos rfl]; unfold fd_virt; rw [hf]; dsimp only; rw [if_neg (by decide), if_pos rfl, if_pos ⟨Nat.le_add_right 1010 b, Nat.add_lt_add_left hb 1010, hc.1, hc.2⟩, show 1010 + b - 1010 = b from Nat.add_sub_cancel_left 1010 b]; rfl)
theorem fd_x_schr {i i' cal na w b j : Nat} (hd : decode (fd_code m) pc = .ok (.invokevirtual i, 3)) (hf : fd_lnk (fd_own m) i = some (i', 12, cal, na, w)) (hc : st.length ≤ 4 ∧ 5 ≤ fd_rk m) (hb : b < 8) (hj : j < (fd_txt.getD b []).length) : fd_EvF (m, pc, lo, .int (nI j) :: .ref (1010 + b) :: st, cn, (k, h)) = fd_EvF (m, pc + 3, lo, .int ((fd_txt.getD b []).getD j 0) :: st, cn, (k, h)) :=
  fd_x hd (by
    have hl := (fd_txt_ok b hb).2.1
    dsimp only [fd_nx]; rw [if_pos rfl]; unfold fd_virt; rw [hf]; dsimp only; rw [if_neg (by decide), if_neg (by decide), if_pos rfl, show 1010 + b - 1010 = b from Nat.add_sub_cancel_left 1010 b, if_pos ⟨Nat.le_add_right 1010 b, Nat.add_lt_add_left hb 1010, hc.1, hc.2, fd_ixN hj (by omega)⟩, fd_cl (by omega)]; rfl)
theorem fd_x_obj {i i' cal na w b : Nat} (hd : decode (fd_code m) pc = .ok (.invokespecial i, 3)) (hf : fd_lnk (fd_own m) i = some (i', 6, cal, na, w)) (hc : st.length ≤ 4 ∧ 1 ≤ fd_rk m) : fd_EvF (m, pc, lo, .ref b :: st, cn, (k, h)) = fd_EvF (m, pc + 3, lo, st, cn, (k, h)) :=
  fd_x hd (by dsimp only [fd_nx]; rw [if_pos rfl]; unfold fd_spec; rw [hf]; dsimp only; rw [if_neg (by decide), if_pos rfl, if_pos hc]; rfl)
theorem fd_x_copy {i i' cal na w s0 d0 n0 n1 n sp dp : Nat} (hd : decode (fd_code m) pc = .ok (.invokestatic i, 3)) (hf : fd_lnk (fd_own m) i = some (i', 10, cal, na, w)) (hc : st.length ≤ 4 ∧ 1 ≤ fd_rk m) (hp0 : fd_at k s0 = some (.inr (false, n0))) (hp1 : fd_at k d0 = some (.inr (false, n1))) (hne : s0 ≠ d0) (h4 : sp + n ≤ n0) (h5 : dp + n ≤ n1) (h6 : n0 ≤ 1000) (h7 : n1 ≤ 1000) :
    fd_EvF (m, pc, lo, .int (nI n) :: .int (nI dp) :: .ref d0 :: .int (nI sp) :: .ref s0 :: st, cn, (k, h)) = fd_EvF (m, pc + 3, lo, st, cn, (k, fd_wa h d0 (va_cpy (h.1 s0) (h.1 d0) sp dp n))) :=
  fd_x hd (by
    have c1 := fd_cl (i := n) (by omega)
    have c2 := fd_cl (i := sp) (by omega)
    have c3 := fd_cl (i := dp) (by omega)
    dsimp only [fd_nx]; rw [if_pos rfl]; unfold fd_stat; rw [hf]; dsimp only
    rw [if_neg (by decide), if_neg (by decide), if_neg (by decide), if_neg (by decide), if_pos rfl]
    rw [hp0, hp1]
    dsimp only
    rw [c1, c2, c3, if_pos ⟨hc.1, hc.2, hne, nI_pos (by omega), nI_pos (by omega), nI_pos (by omega), h4, h5⟩]
    rfl)
end EQC
