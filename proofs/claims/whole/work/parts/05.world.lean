/-! THE PURE WORLD IN THE HEAP: place p lies at ad p -/
def fd_cv (ad : Nat → Nat) (v : Value) : Value := match v with
  | .ref p => .ref (ad p)
  | v => v
theorem fd_cv_cat (ad : Nat → Nat) (v : Value) : (fd_cv ad v).category = v.category := by cases v <;> rfl
/-- the locals -/
def fd_LR (ad : Nat → Nat) (lo : fd_Lc) (ls : Array Slot) (n : Nat) : Prop := lo.length = n ∧ ls.size = n ∧ lv_wf ls ∧ ∀ (i : Nat) (v : Value), lo[i]? = some (some v) → ls[i]? = some (.val (fd_cv ad v))
def fd_lvl (ad : Nat → Nat) (lo : fd_Lc) : List (Nat × Value) := (List.range lo.length).filterMap (fun j => (lo.getD j none).map (fun v => (j, fd_cv ad v)))
theorem fd_lvl_mem {ad : Nat → Nat} {lo : fd_Lc} {q : Nat × Value} : q ∈ fd_lvl ad lo ↔ ∃ v, lo[q.1]? = some (some v) ∧ q.2 = fd_cv ad v := by
  obtain ⟨j, w⟩ := q
  unfold fd_lvl
  rw [List.mem_filterMap]
  constructor
  · rintro ⟨i, hi, h⟩
    have hi := List.mem_range.mp hi
    cases hv : lo.getD i none with
    | none => rw [hv] at h; cases h
    | some v =>
      rw [hv] at h
      simp only [Option.map_some, Option.some.injEq, Prod.mk.injEq] at h
      obtain ⟨rfl, rfl⟩ := h
      refine ⟨v, ?_, rfl⟩
      show lo[i]? = _
      rw [List.getD_eq_getElem?_getD] at hv
      rw [List.getElem?_eq_getElem hi] at hv ⊢
      exact congrArg some hv
  · rintro ⟨v, hv, rfl⟩
    refine ⟨j, List.mem_range.mpr (List.getElem?_eq_some_iff.mp hv).1, ?_⟩
    have hv : lo[j]? = some (some v) := hv
    rw [List.getD_eq_getElem?_getD, hv]
    rfl
theorem fd_LR.has {ad : Nat → Nat} {lo : fd_Lc} {ls : Array Slot} {n : Nat} (h : fd_LR ad lo ls n) : lv_has ls n (fd_lvl ad lo) := by
  refine ⟨h.2.1, h.2.2.1, fun q hq => ?_⟩
  obtain ⟨v, h1, h2⟩ := fd_lvl_mem.mp hq
  rw [h2]
  exact h.2.2.2 _ _ h1
theorem fd_LR.store {ad : Nat → Nat} {lo lo' : fd_Lc} {ls ls' : Array Slot} {n i : Nat} {v : Value} (h : fd_LR ad lo ls n) (hs : fd_set lo i v = some lo') (h' : lv_has ls' n ((i, fd_cv ad v) :: (fd_lvl ad lo).filter (fun q => !(q.1 == i) && !(q.1 + 1 == i && q.2.category == 2)))) : fd_LR ad lo' ls' n := by
  unfold fd_set at hs
  split at hs
  · rename_i hc
    cases hs
    refine ⟨by rw [List.length_set]; exact h.1, h'.1, h'.2.1, fun j w hj => ?_⟩
    by_cases hji : j = i
    · subst hji
      rw [List.getElem?_set_self hc.1] at hj
      cases hj
      exact h'.2.2 _ List.mem_cons_self
    · rw [List.getElem?_set_ne (Ne.symm hji)] at hj
      refine h'.2.2 (j, fd_cv ad w) (List.mem_cons_of_mem _ (List.mem_filter.mpr ⟨fd_lvl_mem.mpr ⟨w, hj, rfl⟩, ?_⟩))
      have h1 : (j == i) = false := by simp [hji]
      have h2 : (j + 1 == i && (fd_cv ad w).category == 2) = false := by
        by_cases e : j + 1 = i
        · rcases hc.2 with z | z
          · omega
          · have e2 : i - 1 = j := by omega
            rw [e2, List.getD_eq_getElem?_getD, hj] at z
            rw [fd_cv_cat]
            cases w <;> simp_all [fd_nl, Value.category]
        · simp [e]
      simp [h1, h2]
  · cases hs
theorem fd_LR.lt {ad : Nat → Nat} {lo lo' : fd_Lc} {ls : Array Slot} {n i : Nat} {v : Value} (h : fd_LR ad lo ls n) (hs : fd_set lo i v = some lo') : i < n := by
  unfold fd_set at hs
  split at hs
  · rename_i hc; rw [← h.1]; exact hc.1
  · cases hs
/-- what a place holds -/
def fd_Cel (ad : Nat → Nat) (D : va_G) (U : State) (k : fd_Sk) (h : fd_Hp) (H : Heap) (p : Nat) (s : fd_Sh) : Prop := match s with
  | .inl c => c < 11 ∧ t_OB (ad p) (D.1 c) (fd_nf c) (D.2 c) H (fun j => fd_cv ad (fd_val k h c p j))
  | .inr (z, n) => ∃ cA : ClassId, ArrOfT U cA (if z then .boolean else .int) ∧ H[ad p]? = some (arrV cA n (fun j => .int (h.1 p j)))
def fd_Rp (B : Nat) (ad : Nat → Nat) (D : va_G) (U : State) (k : fd_Sk) (h : fd_Hp) (H : Heap) : Prop := H.size = B + k.1.1.length ∧ k.1.1.length < 1000 ∧ va_K D vwCl [] U ∧ ∀ (p : Nat) (s : fd_Sh), fd_at k p = some s → fd_Cel ad D U k h H p s
theorem fd_Cel.moved {ad : Nat → Nat} {D : va_G} {u U : State} {k : fd_Sk} {h : fd_Hp} {H : Heap} {p : Nat} {s : fd_Sh} (hvm : u.vm.Alike U.vm) (hc : fd_Cel ad D u k h H p s) : fd_Cel ad D U k h H p s := by
  rcases s with c | ⟨z, n⟩
  · exact hc
  · obtain ⟨cA, h1, h2⟩ := hc
    exact ⟨cA, arrOfT_moved hvm h1, h2⟩
theorem fd_Rp.moved {B : Nat} {ad : Nat → Nat} {D : va_G} {u U : State} {k : fd_Sk} {h : fd_Hp} {H : Heap} (hvm : u.vm.Alike U.vm) (hr : fd_Rp B ad D u k h H) : fd_Rp B ad D U k h H :=
  ⟨hr.1, hr.2.1, hr.2.2.1.moved hvm, fun p s hp => (hr.2.2.2 p s hp).moved hvm⟩
theorem fd_Cel.kept {ad : Nat → Nat} {D : va_G} {U : State} {k k' : fd_Sk} {h h' : fd_Hp} {H H1 : Heap} {p : Nat} {s : fd_Sh} (hc : fd_Cel ad D U k h H p s) (hq : H1[ad p]? = H[ad p]?) (hv : ∀ c j, s = .inl c → fd_val k' h' c p j = fd_val k h c p j) (ha : ∀ z n, s = .inr (z, n) → h'.1 p = h.1 p) : fd_Cel ad D U k' h' H1 p s := by
  rcases s with c | ⟨z, n⟩
  · exact ⟨hc.1, (hc.2.kept hq).to (fun j _ => congrArg (fd_cv ad) (hv c j rfl).symm)⟩
  · obtain ⟨cA, h1, h2⟩ := hc
    refine ⟨cA, h1, ?_⟩
    rw [hq, ha z n rfl]
    exact h2
/-- a write at one place -/
theorem fd_Rp.at {B : Nat} {ad : Nat → Nat} {D : va_G} {U : State} {k k' : fd_Sk} {h h' : fd_Hp} {H H1 : Heap} {p : Nat} (had : ∀ q, q < 1000 → ad q = B + q) (hr : fd_Rp B ad D U k h H) (hk : k'.1.1 = k.1.1) (hz : H1.size = H.size) (oq : ∀ q : Nat, q ≠ ad p → H1[q]? = H[q]?) (hp : p < k.1.1.length)
    (hv : ∀ q c j, q ≠ p → fd_val k' h' c q j = fd_val k h c q j) (ha : ∀ q, q ≠ p → h'.1 q = h.1 q) (hn : ∀ s, fd_at k p = some s → fd_Cel ad D U k' h' H1 p s) : fd_Rp B ad D U k' h' H1 := by
  refine ⟨by rw [hz, hk]; exact hr.1, by rw [hk]; exact hr.2.1, hr.2.2.1, fun q s hq => ?_⟩
  have hq' : fd_at k q = some s := by unfold fd_at at hq ⊢; rw [← hk]; exact hq
  by_cases e : q = p
  · subst e
    exact hn s hq'
  · have hl : q < k.1.1.length := (List.getElem?_eq_some_iff.mp hq').1
    have hne : ad q ≠ ad p := by
      rw [had q (Nat.lt_trans hl hr.2.1), had p (Nat.lt_trans hp hr.2.1)]
      omega
    exact (hr.2.2.2 q s hq').kept (oq _ hne) (fun c j _ => hv q c j e) (fun _ _ _ => ha q e)
theorem fd_at_lt {k : fd_Sk} {p : Nat} {s : fd_Sh} (h : fd_at k p = some s) : p < k.1.1.length := (List.getElem?_eq_some_iff.mp h).1
/-- what does not change: statics, constants, the script -/
def fd_nest (U : State) : Prop := ∀ c, c < 13 → ∀ q ∈ fd_ltab.getD c [], (q.2.1 = 3 ∨ q.2.1 = 4 ∨ q.2.1 = 5) → va_Nw (.methodLinkNest (fd_cn c) q.1 (fd_name q.2.2.1) RX9) U
def fd_strs (ad : Nat → Nat) (U : State) : Prop := ∀ i, i < 8 → vk_R RX7 (fd_spl.getD i (0, "")).1 (fd_spl.getD i (0, "")).2 (ad (1010 + i)) U
def fd_lens : List Nat := fd_txt.map List.length
def fd_WC (ad adV : Nat → Nat) (X : Nat × (Nat → Int32)) (A : Nat → Prop) (U : State) (H : Heap) : Prop :=
  (va_Z "FleetDelegates" "MOST_TOLD" "[I" (.ref (ad 1000)) A U H ∧ va_T .int (ad 1000) 4 (fun j => .int (fd_tab [7, 3, 100, 16777215] j)) A U H) ∧
  (va_Z "FleetDelegates$Batteries" "STEP_X" "[I" (.ref (ad 1001)) A U H ∧ va_T .int (ad 1001) 4 (fun j => .int (fd_tab [1, 0, -1, 0] j)) A U H) ∧
  (va_Z "FleetDelegates$Batteries" "STEP_Y" "[I" (.ref (ad 1002)) A U H ∧ va_T .int (ad 1002) 4 (fun j => .int (fd_tab [0, 1, 0, -1] j)) A U H) ∧
  va_T .int (ad 1003) X.1 (fun j => .int (X.2 j)) A U H ∧
  va_Z "java/lang/String" "COMPACT_STRINGS" "Z" (.int 1) A U H ∧
  va_Zq "jdk/internal/util/Preconditions" "SIOOBE_FORMATTER" "Ljava/util/function/BiFunction;" A U H ∧
  vk_S 8 fd_lens fd_txt (fun i => ad (1010 + i)) adV A U H ∧ fd_strs ad U ∧ fd_nest U
theorem fd_WC.kept {ad adV : Nat → Nat} {X : Nat × (Nat → Int32)} {A : Nat → Prop} {U : State} {H H1 : Heap} (h : fd_WC ad adV X A U H) (hq : ∀ a : Nat, a < H.size → ¬ A a → H1[a]? = H[a]?) : fd_WC ad adV X A U H1 := by
  obtain ⟨⟨a1, a2⟩, ⟨b1, b2⟩, ⟨c1, c2⟩, d, e, f, g, i, j⟩ := h
  exact ⟨⟨a1.kept hq, a2.kept hq⟩, ⟨b1.kept hq, b2.kept hq⟩, ⟨c1.kept hq, c2.kept hq⟩, d.kept hq, e.kept hq, f.kept hq, g.kept hq, i, j⟩
theorem fd_WC.warm {ad adV : Nat → Nat} {X : Nat × (Nat → Int32)} {A : Nat → Prop} {s U : State} {H : Heap} (hW : s.WarmedH U.vm) (h : fd_WC ad adV X A s H) : fd_WC ad adV X A U H := by
  obtain ⟨⟨a1, a2⟩, ⟨b1, b2⟩, ⟨c1, c2⟩, d, e, f, g, i, j⟩ := h
  have hv := hW.alike
  exact ⟨⟨a1.moved hv, a2.moved hv⟩, ⟨b1.moved hv, b2.moved hv⟩, ⟨c1.moved hv, c2.moved hv⟩, d.moved hv, e.moved hv, f.moved hv, g.moved hv, fun k hk => (i k hk).warm hW, fun c hc q hq hx => (j c hc q hq hx).warmM hW⟩
theorem fd_WC.same {ad adV : Nat → Nat} {X : Nat × (Nat → Int32)} {A : Nat → Prop} {u U : State} {H : Heap} (he : U.vm = u.vm) (h : fd_WC ad adV X A u H) : fd_WC ad adV X A U H := by
  obtain ⟨⟨a1, a2⟩, ⟨b1, b2⟩, ⟨c1, c2⟩, d, e, f, g, i, j⟩ := h
  have hv : u.vm.Alike U.vm := by rw [he]; exact Vm.Alike.refl _
  exact ⟨⟨a1.moved hv, a2.moved hv⟩, ⟨b1.moved hv, b2.moved hv⟩, ⟨c1.moved hv, c2.moved hv⟩, d.moved hv, e.moved hv, f.moved hv, g.moved hv, fun k hk => (i k hk).same he, fun c hc q hq hx => (j c hc q hq hx).same rfl he.symm⟩
/-- entry: the locals of a new frame -/
def fd_slo (o : Option Value) (ad : Nat → Nat) : Slot := match o with
  | some v => .val (fd_cv ad v)
  | none => .second
def fd_sl (vs : List Value) : fd_Lc := vs.flatMap (fun v => if v.category = 2 then [some v, none] else [some v])
theorem fd_lg (ad : Nat → Nat) (vs : List Value) : lg_sl (vs.map (fd_cv ad)) = (fd_sl vs).map (fun o => fd_slo o ad) := by
  induction vs with
  | nil => rfl
  | cons v vs ih =>
    have e1 : lg_sl ((v :: vs).map (fd_cv ad)) = (if (fd_cv ad v).category = 2 then [.val (fd_cv ad v), .second] else [.val (fd_cv ad v)]) ++ lg_sl (vs.map (fd_cv ad)) := rfl
    have e2 : fd_sl (v :: vs) = (if v.category = 2 then [some v, none] else [some v]) ++ fd_sl vs := rfl
    rw [e1, e2, ih, List.map_append, fd_cv_cat]
    split <;> rfl
theorem fd_ent_len (vs : List Value) : (fd_ent vs 0).length = (fd_sl vs).length := by
  unfold fd_ent fd_sl
  simp
theorem fd_LR.entry {ad : Nat → Nat} {vs : List Value} {n : Nat} (h : (fd_ent vs 0).length ≤ n) : fd_LR ad (fd_ent vs n) ((lg_sl (vs.map (fd_cv ad)) ++ List.replicate (n - (lg_sl (vs.map (fd_cv ad))).length) Slot.unset).toArray) n := by
  rw [fd_ent_len] at h
  have hl : (lg_sl (vs.map (fd_cv ad))).length = (fd_sl vs).length := by rw [fd_lg, List.length_map]
  have hv := lv_entry (vs.map (fd_cv ad)) (n := n) (by rw [hl]; exact h)
  refine ⟨?_, hv.1, hv.2.1, fun i v hi => ?_⟩
  · show (fd_sl vs ++ List.replicate (n - (fd_sl vs).length) none).length = n
    simp
    omega
  · have hi : (fd_sl vs ++ List.replicate (n - (fd_sl vs).length) none)[i]? = some (some v) := hi
    have hlt : i < (fd_sl vs).length := by
      rcases Nat.lt_or_ge i (fd_sl vs).length with q | q
      · exact q
      · rw [List.getElem?_append_right q] at hi
        have := List.mem_of_getElem? hi
        rw [List.mem_replicate] at this
        cases this.2
    rw [List.getElem?_append_left hlt] at hi
    rw [List.getElem?_toArray, List.getElem?_append_left (by rw [hl]; exact hlt), fd_lg, List.getElem?_map, hi]
    rfl
