/-! ONE INSTRUCTION AT A TIME over the pure world -/
def fd_Cx (p : Program) (e : Env) (R : Room) (s : State) (mm : MethodId) (args : Array Value) (meth : Method) (c : Code) (B : Nat) (ad adV : Nat → Nat) (D : va_G) (X : Nat × (Nat → Int32)) (m : Nat) : Prop :=
  p.tables.exec = Jvm.exec ∧ c.code = fd_code m ∧ c.maxLocals = fd_ml m ∧ s.vm.findClass (fd_cn (fd_own m)) = some mm.cls ∧ (∀ w ∈ fd_tbl, w.before args s = true) ∧ (fd_isI m = true → meth.name = "<init>") ∧ fd_rk m ≤ R.frames ∧ 32 * fd_rk m ≤ R.locals ∧ R.cells = fd_mc m ∧ R.slots = fd_ms m ∧ B ≤ s.heap.size ∧ fd_WC ad adV X (fun q => B ≤ q) s s.heap ∧ (∀ q, q < 1000 → ad q = B + q)
def fd_K (p : Program) (l : Launch) (e : Env) (R : Room) (s : State) (mm : MethodId) (args : Array Value) (below : List Frame) (meth : Method) (c : Code) (Q : State → Prop) (B : Nat) (ad : Nat → Nat) (D : va_G) (X : Nat × (Nat → Int32)) (m pc : Nat) (lo : fd_Lc) (st : List Value) (cn : Nat × Nat) (k : fd_Sk) (h : fd_Hp) : Prop :=
  k.2 = X → ∀ (H : Heap) (locs : List Loc) (ls : Array Slot), fd_LR ad lo ls (fd_ml m) → fd_Rp B ad D s k h H → va_S (fun q => B ≤ q) s.heap H locs → cn.1 ≤ fd_mc m → cn.2 ≤ fd_ms m → W p l e R s mm args below meth c H locs cn.1 cn.2 Q (F0 mm pc ls (st.map (fd_cv ad)))
def fd_KF (p : Program) (l : Launch) (e : Env) (R : Room) (s : State) (mm : MethodId) (args : Array Value) (below : List Frame) (meth : Method) (c : Code) (Q : State → Prop) (B : Nat) (ad : Nat → Nat) (D : va_G) (X : Nat × (Nat → Int32)) (f : fd_Fr) : Prop :=
  fd_K p l e R s mm args below meth c Q B ad D X f.1 f.2.1 f.2.2.1 f.2.2.2.1 f.2.2.2.2.1 f.2.2.2.2.2.1 f.2.2.2.2.2.2
theorem fd_own_lt (m : Nat) : fd_own m < 13 := by
  have h1 : ∀ m, m < 202 → fd_own m < 13 := by decide +kernel
  rcases Nat.lt_or_ge m 202 with h | h
  · exact h1 m h
  · have e : fd_own m = 0 := by
      unfold fd_own
      rw [List.getD_eq_getElem?_getD, List.getElem?_eq_none (by have : fd_owns.length = 202 := by decide +kernel
                                                                omega)]
      rfl
    rw [e]; decide
theorem fd_find {α : Type} {l : List (Nat × α)} {i : Nat} {q : Nat × α} (h : l.find? (fun q => q.1 == i) = some q) : q ∈ l ∧ q.1 = i := ⟨List.mem_of_find?_eq_some h, by simpa using List.find?_some h⟩
theorem fd_narrow_ref {t : FieldType} (h : (match t with | .object _ => true | .array _ => true | _ => false) = true) (a : Nat) : narrow t (.ref a) = .ref a ∧ fits t (.ref a) = true := by
  cases t <;> simp at h <;> exact ⟨rfl, rfl⟩
section ROWS
variable {p : Program} {l : Launch} {e : Env} {R : Room} {s : State} {mm : MethodId} {args : Array Value} {below : List Frame} {meth : Method} {c : Code} {Q : State → Prop} {B : Nat} {ad adV : Nat → Nat} {D : va_G} {X : Nat × (Nat → Int32)} {m pc : Nat} {lo : fd_Lc} {st r : List Value} {cn : Nat × Nat} {k : fd_Sk} {h : fd_Hp}
theorem fd_r_get (cx : fd_Cx p e R s mm args meth c B ad adV D X m) {i j ci wi p0 i' : Nat} (hd : decode (fd_code m) pc = .ok (.getfield i, 3)) (hf : fd_fld (fd_own m) i = some (i', ci, j, wi)) (hp : fd_at k p0 = some (.inl ci)) (kk : fd_K p l e R s mm args below meth c Q B ad D X m (pc + 3) lo (fd_val k h ci p0 j :: r) cn k h) : fd_K p l e R s mm args below meth c Q B ad D X m pc lo (.ref p0 :: r) cn k h := by
  intro hX H locs ls hl hr hS h1 h2
  obtain ⟨hx, hb, -, hown, hts, -⟩ := cx
  obtain ⟨hm, he⟩ := fd_find hf
  dsimp only at he
  subst he
  obtain ⟨hw, hci, hj⟩ := fd_tb_fld _ (fd_own_lt m) _ hm
  obtain ⟨-, cell, q1, q2, q3, q4⟩ := hr.2.2.2 _ _ hp
  obtain ⟨hSl, hfc, kC, hkC, hkind⟩ := hr.2.2.1.1 ci _ (fd_vw ci hci)
  obtain ⟨cf, kf, fi, f, hi, hsl⟩ := hSl j hj
  exact W.getf hx hb hown (hts _ (fd_tbl_in hw rfl)) hi (u_facts hfc hkC (u_lays hts (fd_hin ci hci) hj) hi).1 q1 (by rw [q3]; exact fun h => by cases h) (by rw [hsl]; exact q4 j hj) rfl rfl hd (kk hX H locs ls hl hr hS h1 h2)
theorem fd_put_val {c j p0 : Nat} {v : Value} {q : fd_Sk × fd_Hp} (hc : c < 11) (hj : j < fd_nf c) (hq : fd_put k h c p0 j v = some q) : q.1.1.1 = k.1.1 ∧ q.1.2 = k.2 ∧ (∀ c' p' j', p' ≠ p0 → fd_val q.1 q.2 c' p' j' = fd_val k h c' p' j') ∧ (∀ p', p' ≠ p0 → q.2.1 p' = h.1 p') ∧ (∀ j', j' < fd_nf c → fd_val q.1 q.2 c p0 j' = if j' = j then v else fd_val k h c p0 j') ∧ (∀ ad : Nat → Nat, narrow (fd_ty c j) (fd_cv ad v) = fd_cv ad v ∧ fits (fd_ty c j) (fd_cv ad v) = true) := by
  unfold fd_put at hq
  rcases fd_tb_kind c hc j hj with ⟨k0, t0⟩ | ⟨k1, t1⟩ | ⟨k2, t2, u2⟩
  · rw [k0] at hq
    cases v <;> simp at hq
    rename_i x
    subst hq
    refine ⟨rfl, rfl, fun c' p' j' hne => ?_, fun p' hne => ?_, fun j' hj' => ?_, fun ad => ?_⟩
    · simp [fd_val, fd_w, hne]
    · funext i; simp [fd_w, hne]
    · by_cases e : j' = j
      · subst e; simp [fd_val, fd_w, k0]
      · simp only [fd_val, fd_w, e, and_false, if_false]
    · rw [t0]; exact ⟨rfl, rfl⟩
  · rw [k1] at hq
    cases v <;> simp at hq
    rename_i x
    subst hq
    refine ⟨rfl, rfl, fun c' p' j' hne => ?_, fun p' hne => rfl, fun j' hj' => ?_, fun ad => fd_narrow_ref t1 (ad x)⟩
    · simp [fd_val, fd_wr, hne]
    · by_cases e : j' = j
      · subst e; simp [fd_val, fd_wr, k1]
      · simp only [fd_val, fd_wr, e, and_false, if_false]
  · rw [k2] at hq
    cases v <;> simp at hq
    rename_i x
    subst hq
    refine ⟨rfl, rfl, fun c' p' j' hne => ?_, fun p' hne => rfl, fun j' hj' => ?_, fun ad => ?_⟩
    · simp [fd_val, fd_wl, hne]
    · by_cases e : j' = j
      · subst e; simp [fd_val, fd_wl, k2]
      · have hk : fd_kind c j' ≠ 2 := fun z => e (u2 j' hj' z)
        rcases fd_tb_kind c hc j' hj' with ⟨z0, -⟩ | ⟨z1, -⟩ | ⟨z2, -⟩
        · simp [fd_val, fd_wl, z0, e]
        · simp [fd_val, fd_wl, z1, e]
        · exact absurd z2 hk
    · rw [t2]; exact ⟨rfl, rfl⟩
theorem fd_r_put (cx : fd_Cx p e R s mm args meth c B ad adV D X m) {i j ci wi p0 i' : Nat} {v : Value} {q : fd_Sk × fd_Hp} (hd : decode (fd_code m) pc = .ok (.putfield i, 3)) (hf : fd_fld (fd_own m) i = some (i', ci, j, wi)) (hp : fd_at k p0 = some (.inl ci)) (hfin : (fd_T ci j).2.2.2 = false ∨ (fd_isI m = true ∧ ci = fd_own m)) (hq : fd_put k h ci p0 j v = some q) (kk : fd_K p l e R s mm args below meth c Q B ad D X m (pc + 3) lo r cn q.1 q.2) : fd_K p l e R s mm args below meth c Q B ad D X m pc lo (v :: .ref p0 :: r) cn k h := by
  intro hX H locs ls hl hr hS h1 h2
  obtain ⟨hx, hb, -, hown, hts, hin2, -, -, -, -, -, -, had⟩ := cx
  obtain ⟨hm, he⟩ := fd_find hf
  dsimp only at he
  subst he
  obtain ⟨hw, hci, hj⟩ := fd_tb_fld _ (fd_own_lt m) _ hm
  obtain ⟨-, cell, q1, q2, q3, q4⟩ := hr.2.2.2 _ _ hp
  have hpl := fd_at_lt hp
  have hBp : B ≤ ad p0 := by rw [had p0 (Nat.lt_trans hpl hr.2.1)]; exact Nat.le_add_right _ _
  have hap := va_apart (own := fd_cn (fd_own m)) hts (fd_hin ci hci) (fd_ty ci) (fd_typ ci hci) (fd_nm ci hci) hr.2.2.1 (fd_vw ci hci)
  obtain ⟨hSl, hfc, kC, hkC, hkind⟩ := hr.2.2.1.1 ci _ (fd_vw ci hci)
  obtain ⟨cf, kf, fi, f, hi, hsl⟩ := hSl j hj
  obtain ⟨e1, e2, e3, e4, e5, e6⟩ := fd_put_val hci hj hq
  have hst := (u_facts hfc hkC (u_lays hts (fd_hin ci hci) hj) hi).1
  have fin : ∀ H' : Heap, H'[ad p0]? = some (cell.setSlot f.slot (fd_cv ad v)) → H'.size = H.size → (∀ q, q ≠ ad p0 → H'[q]? = H[q]?) → W p l e R s mm args below meth c H' (locs ++ [⟨ad p0, f.slot⟩]) cn.1 cn.2 Q (F0 mm (pc + 3) ls (r.map (fd_cv ad))) := by
    intro H' g1 g2 g3
    refine kk (by rw [e2]; exact hX) H' _ ls hl (hr.at had e1 g2 g3 hpl (fun q c j hne => e3 c q j hne) e4 (fun sh hsh => ?_)) (hS.put g2 g3 hBp) h1 h2
    cases hp.symm.trans hsh
    refine ⟨hci, t_OB.to (V := updV (fun j => fd_cv ad (fd_val k h ci p0 j)) j (fd_cv ad v)) ⟨_, g1, q2, q3, ?_⟩ (fun j' hj' => ?_)⟩
    · rw [hsl]
      exact t_set q4 hap hj (fd_cv ad v)
    · show updV _ j _ j' = fd_cv ad (fd_val q.1 q.2 ci p0 j')
      rw [e5 j' hj']
      unfold updV
      split <;> rfl
  have hlay := hts _ (fd_hin ci hci _ (u_in_lay hj))
  unfold u_lay at hlay
  by_cases hff : (fd_T ci j).2.2.2 = true
  · rw [if_pos hff] at hlay
    obtain ⟨hI, hco⟩ : fd_isI m = true ∧ ci = fd_own m := by
      rcases hfin with z | z
      · rw [hff] at z; cases z
      · exact z
    have hcf : mm.cls = cf := by
      obtain ⟨_, _, c', _, _, _, -, -, hf', -, -, -, hown2, -⟩ := Cond.laysFinal_spec hlay
      have e1 : c' = cf := by have := hi.symm.trans hf'; simp at this; exact this.1.symm
      rw [fd_tb_decl ci hci j hj, hco] at hown2
      rw [← e1]; exact Option.some.inj (hown.symm.trans hown2)
    have h6 := u_fits hfc hkC hkind (Or.inr hlay) hi (fd_typ ci hci j hj) (e6 ad).1 (e6 ad).2
    exact W.putFinK hx hb hown (hts _ (fd_tbl_in hw rfl)) hi hst hcf (hin2 hI) (by rw [q2]; exact h6) q1 q3 (by rw [hsl]; exact k2_hasslot (q4 j hj)) rfl rfl hd fin
  · rw [if_neg hff] at hlay
    have h6 := u_store hfc hkC hkind hlay hi (fd_typ ci hci j hj) (e6 ad).1 (e6 ad).2
    exact W.putK hx hb (f := f) ⟨hown, hts _ (fd_tbl_in hw rfl), ⟨_, _, _, hi⟩, hst⟩ (by rw [q2]; exact h6) q1 q3 (by rw [hsl]; exact k2_hasslot (q4 j hj)) rfl rfl hd fin
theorem fd_arr_in {cA : ClassId} {n : Nat} {f : Nat → Value} {i : Int32} (hi : ¬ (i < 0 ∨ n ≤ i.toNatClampNeg)) : ¬ (i < 0 ∨ (arrV cA n f).slots.size ≤ i.toNatClampNeg) := by rw [arrV_size]; exact hi
theorem fd_arr_rd {cA : ClassId} {n : Nat} {f : Nat → Value} {i : Int32} (hi : ¬ (i < 0 ∨ n ≤ i.toNatClampNeg)) : (arrV cA n f).slots[i.toNatClampNeg]? = some (f i.toNatClampNeg) := arrV_read _ _ (Nat.not_le.mp fun q => hi (Or.inr q))
theorem fd_r_iald (cx : fd_Cx p e R s mm args meth c B ad adV D X m) {i : Int32} {p0 n : Nat} (hd : decode (fd_code m) pc = .ok (.iaload, 1)) (hp : fd_at k p0 = some (.inr (false, n))) (hi : ¬ (i < 0 ∨ n ≤ i.toNatClampNeg)) (kk : fd_K p l e R s mm args below meth c Q B ad D X m (pc + 1) lo (.int (h.1 p0 i.toNatClampNeg) :: r) cn k h) : fd_K p l e R s mm args below meth c Q B ad D X m pc lo (.int i :: .ref p0 :: r) cn k h := by
  intro hX H locs ls hl hr hS h1 h2
  obtain ⟨hx, hb, -⟩ := cx
  obtain ⟨cA, hA, hc⟩ := hr.2.2.2 _ _ hp
  exact W.iald hx hb hc (hA n _) (fun q => by cases q) (fd_arr_in hi) (fd_arr_rd hi) rfl rfl hd (kk hX H locs ls hl hr hS h1 h2)
theorem fd_r_zald (cx : fd_Cx p e R s mm args meth c B ad adV D X m) {i : Int32} {p0 n : Nat} (hd : decode (fd_code m) pc = .ok (.baload, 1)) (hp : fd_at k p0 = some (.inr (true, n))) (hi : ¬ (i < 0 ∨ n ≤ i.toNatClampNeg)) (kk : fd_K p l e R s mm args below meth c Q B ad D X m (pc + 1) lo (.int (h.1 p0 i.toNatClampNeg) :: r) cn k h) : fd_K p l e R s mm args below meth c Q B ad D X m pc lo (.int i :: .ref p0 :: r) cn k h := by
  intro hX H locs ls hl hr hS h1 h2
  obtain ⟨hx, hb, -⟩ := cx
  obtain ⟨cA, hA, hc⟩ := hr.2.2.2 _ _ hp
  exact W.zald hx hb hc (hA n _) (fun q => by cases q) (fd_arr_in hi) (fd_arr_rd hi) rfl rfl hd (kk hX H locs ls hl hr hS h1 h2)
theorem fd_r_iold (cx : fd_Cx p e R s mm args meth c B ad adV D X m) {i : Int32} {p0 n : Nat} {f : Nat → Int32} (hd : decode (fd_code m) pc = .ok (.iaload, 1)) (hp : fd_old k p0 = some (n, f)) (hi : ¬ (i < 0 ∨ n ≤ i.toNatClampNeg)) (kk : fd_K p l e R s mm args below meth c Q B ad D X m (pc + 1) lo (.int (f i.toNatClampNeg) :: r) cn k h) : fd_K p l e R s mm args below meth c Q B ad D X m pc lo (.int i :: .ref p0 :: r) cn k h := by
  intro hX H locs ls hl hr hS h1 h2
  obtain ⟨hx, hb, -, -, -, -, -, -, -, -, -, hC, -⟩ := cx
  have k1 := kk hX H locs ls hl hr hS h1 h2
  unfold fd_old at hp
  split at hp
  · rename_i e; subst e; cases hp; exact va_ti hx hb hC.1.2 hS hi rfl hd k1
  · split at hp
    · rename_i e; subst e; cases hp; exact va_ti hx hb hC.2.1.2 hS hi rfl hd k1
    · split at hp
      · rename_i e; subst e; cases hp; exact va_ti hx hb hC.2.2.1.2 hS hi rfl hd k1
      · split at hp
        · rename_i e; subst e; have e9 := Option.some.inj hp; have hT := hC.2.2.2.1; rw [← hX, e9] at hT; exact va_ti hx hb hT hS hi rfl hd k1
        · cases hp
theorem fd_r_lold (cx : fd_Cx p e R s mm args meth c B ad adV D X m) {p0 n : Nat} {f : Nat → Int32} (hd : decode (fd_code m) pc = .ok (.arraylength, 1)) (hp : fd_old k p0 = some (n, f)) (kk : fd_K p l e R s mm args below meth c Q B ad D X m (pc + 1) lo (.int (nI n) :: r) cn k h) : fd_K p l e R s mm args below meth c Q B ad D X m pc lo (.ref p0 :: r) cn k h := by
  intro hX H locs ls hl hr hS h1 h2
  obtain ⟨hx, hb, -, -, -, -, -, -, -, -, -, hC, -⟩ := cx
  have k1 := kk hX H locs ls hl hr hS h1 h2
  unfold fd_old at hp
  split at hp
  · rename_i e; subst e; cases hp; exact va_tlen hx hb hC.1.2 hS rfl hd k1
  · split at hp
    · rename_i e; subst e; cases hp; exact va_tlen hx hb hC.2.1.2 hS rfl hd k1
    · split at hp
      · rename_i e; subst e; cases hp; exact va_tlen hx hb hC.2.2.1.2 hS rfl hd k1
      · split at hp
        · rename_i e; subst e; have e9 := Option.some.inj hp; have hT := hC.2.2.2.1; rw [← hX, e9] at hT; exact va_tlen hx hb hT hS rfl hd k1
        · cases hp
theorem fd_r_len (cx : fd_Cx p e R s mm args meth c B ad adV D X m) {p0 n : Nat} {z : Bool} (hd : decode (fd_code m) pc = .ok (.arraylength, 1)) (hp : fd_at k p0 = some (.inr (z, n))) (kk : fd_K p l e R s mm args below meth c Q B ad D X m (pc + 1) lo (.int (nI n) :: r) cn k h) : fd_K p l e R s mm args below meth c Q B ad D X m pc lo (.ref p0 :: r) cn k h := by
  intro hX H locs ls hl hr hS h1 h2
  obtain ⟨hx, hb, -⟩ := cx
  obtain ⟨cA, hA, hc⟩ := hr.2.2.2 _ _ hp
  exact W.alen hx hb hc (hA n _) (by rw [arrV_size]; rfl) rfl rfl hd (kk hX H locs ls hl hr hS h1 h2)
theorem fd_r_ast {z : Bool} {i x : Int32} {p0 n : Nat} {cA : ClassId} {H H' : Heap} (had : ∀ q, q < 1000 → ad q = B + q) (hr : fd_Rp B ad D s k h H) (hp : fd_at k p0 = some (.inr (z, n))) (hA : ArrOfT s cA (if z then .boolean else .int)) (g1 : H'[ad p0]? = some ((arrV cA n (fun j => .int (h.1 p0 j))).setSlot i.toNatClampNeg (.int x))) (g2 : H'.size = H.size) (g3 : ∀ q, q ≠ ad p0 → H'[q]? = H[q]?) : fd_Rp B ad D s k (fd_w h p0 i.toNatClampNeg x) H' := by
  refine hr.at had rfl g2 g3 (fd_at_lt hp) (fun q c j hne => ?_) (fun q hne => ?_) (fun sh hsh => ?_)
  · simp [fd_val, fd_w, hne]
  · funext j; simp [fd_w, hne]
  · cases hp.symm.trans hsh
    refine ⟨cA, hA, ?_⟩
    rw [g1, arrV_store]
    congr 2
    funext j
    unfold updV fd_w
    by_cases e : j = i.toNatClampNeg
    · simp [e]
    · simp [e]
theorem fd_r_iast (cx : fd_Cx p e R s mm args meth c B ad adV D X m) {i x : Int32} {p0 n : Nat} (hd : decode (fd_code m) pc = .ok (.iastore, 1)) (hp : fd_at k p0 = some (.inr (false, n))) (hi : ¬ (i < 0 ∨ n ≤ i.toNatClampNeg)) (kk : fd_K p l e R s mm args below meth c Q B ad D X m (pc + 1) lo r cn k (fd_w h p0 i.toNatClampNeg x)) : fd_K p l e R s mm args below meth c Q B ad D X m pc lo (.int x :: .int i :: .ref p0 :: r) cn k h := by
  intro hX H locs ls hl hr hS h1 h2
  obtain ⟨hx, hb, -, -, -, -, -, -, -, -, -, -, had⟩ := cx
  obtain ⟨cA, hA, hc⟩ := hr.2.2.2 _ _ hp
  refine W.iast hx hb hc (hA n _) (fun q => by cases q) (fd_arr_in hi) rfl rfl hd (fun H' g1 g2 g3 => ?_)
  exact kk hX H' _ ls hl (fd_r_ast had hr hp hA g1 g2 g3) (hS.put g2 g3 (by rw [had p0 (Nat.lt_trans (fd_at_lt hp) hr.2.1)]; exact Nat.le_add_right _ _)) h1 h2
theorem fd_r_zast (cx : fd_Cx p e R s mm args meth c B ad adV D X m) {i x : Int32} {p0 n : Nat} (hd : decode (fd_code m) pc = .ok (.bastore, 1)) (hp : fd_at k p0 = some (.inr (true, n))) (hi : ¬ (i < 0 ∨ n ≤ i.toNatClampNeg)) (kk : fd_K p l e R s mm args below meth c Q B ad D X m (pc + 1) lo r cn k (fd_w h p0 i.toNatClampNeg (vp_nar .boolean x))) : fd_K p l e R s mm args below meth c Q B ad D X m pc lo (.int x :: .int i :: .ref p0 :: r) cn k h := by
  intro hX H locs ls hl hr hS h1 h2
  obtain ⟨hx, hb, -, -, -, -, -, -, -, -, -, -, had⟩ := cx
  obtain ⟨cA, hA, hc⟩ := hr.2.2.2 _ _ hp
  refine W.zast hx hb hc (hA n _) (fun q => by cases q) (fd_arr_in hi) rfl rfl hd (fun H' g1 g2 g3 => ?_)
  exact kk hX H' _ ls hl (fd_r_ast had hr hp hA (x := vp_nar .boolean x) g1 g2 g3) (hS.put g2 g3 (by rw [had p0 (Nat.lt_trans (fd_at_lt hp) hr.2.1)]; exact Nat.le_add_right _ _)) h1 h2
theorem fd_nn {z : Int32} (hz : ¬ z < 0) : z.toInt = (z.toNatClampNeg : Int) := by
  have h0 : (0 : Int) ≤ z.toInt := by
    have h1 := Int32.le_iff_toInt_le.mp (Int32.not_lt.mp hz)
    simpa using h1
  show z.toInt = ((z.toInt.toNat : Nat) : Int)
  omega
theorem fd_catsum {l : List Value} (hl : l.length ≤ 4) : ((l.map (fd_cv ad)).map fun v => v.category).sum ≤ 8 := by
  have key : ∀ l : List Value, ((l.map (fd_cv ad)).map fun v => v.category).sum ≤ 2 * l.length := by
    intro l
    induction l with
    | nil => exact Nat.le_refl _
    | cons v l ih =>
      rw [List.map_cons, List.map_cons, List.sum_cons, List.length_cons, fd_cv_cat]
      have := lv_cat v
      omega
  have := key l
  omega
theorem fd_r_copy (cx : fd_Cx p e R s mm args meth c B ad adV D X m) {i w1 i' na cal : Nat} {n sp dp : Int32} {s0 d0 n0 n1 : Nat} (hd : decode (fd_code m) pc = .ok (.invokestatic i, 3)) (hf : fd_lnk (fd_own m) i = some (i', 10, cal, na, w1)) (hp0 : fd_at k s0 = some (.inr (false, n0))) (hp1 : fd_at k d0 = some (.inr (false, n1))) (hrl : r.length ≤ 4) (hrk : 1 ≤ fd_rk m) (h3 : ¬ sp < 0) (h4 : ¬ dp < 0) (h5 : ¬ n < 0) (h6 : sp.toNatClampNeg + n.toNatClampNeg ≤ n0) (h7 : dp.toNatClampNeg + n.toNatClampNeg ≤ n1)
    (kk : fd_K p l e R s mm args below meth c Q B ad D X m (pc + 3) lo r cn k (fd_wa h d0 (va_cpy (h.1 s0) (h.1 d0) sp.toNatClampNeg dp.toNatClampNeg n.toNatClampNeg))) : fd_K p l e R s mm args below meth c Q B ad D X m pc lo (.int n :: .int dp :: .ref d0 :: .int sp :: .ref s0 :: r) cn k h := by
  intro hX H locs ls hl hr hS h1 h2
  obtain ⟨hx, hb, hml, hown, hts, -, hR1, hR2, -, -, -, -, had⟩ := cx
  obtain ⟨hm, he⟩ := fd_find hf
  dsimp only at he
  subst he
  have hw := fd_tb_lnk _ (fd_own_lt m) _ hm
  obtain ⟨c0, hA0, hc0⟩ := hr.2.2.2 _ _ hp0
  obtain ⟨c1, hA1, hc1⟩ := hr.2.2.2 _ _ hp1
  obtain ⟨-, k0, hk0, cm0, hkk0⟩ := hA0 n0 (fun j => .int (h.1 s0 j))
  obtain ⟨-, k1, hk1, cm1, hkk1⟩ := hA1 n1 (fun j => .int (h.1 d0 j))
  have hnat : (Cond.native arraycopyName).before args s = true := hts _ (List.mem_filter.mpr ⟨by decide +kernel, rfl⟩)
  have hstat : (Cond.static arraycopyName).before args s = true := hts _ (List.mem_filter.mpr ⟨by decide +kernel, rfl⟩)
  have hini : (Cond.initialized "java/lang/System").before args s = true := hts _ (List.mem_filter.mpr ⟨by decide +kernel, rfl⟩)
  intro T hT X0
  obtain ⟨vm', X', step⟩ := X0.arraycopy hx hown (hts _ (fd_tbl_in hw rfl)) hnat hstat hini (src := ad s0) (dst := ad d0) (cs := arrV c0 n0 (fun j => .int (h.1 s0 j))) (cd := arrV c1 n1 (fun j => .int (h.1 d0 j))) (srcPos := sp) (destPos := dp) (n := n) (by rw [hT]; exact hc0) (by rw [hT]; exact hc1)
    (fun _ h => by cases h) (fun _ h => by cases h) (fun h => by cases h) (fun h => by cases h) hk0 hk1 hkk0 hkk1 (by simp [refKind]) h3 h4 h5
    (by rw [fd_nn h3, fd_nn h5, arrV_size]; omega)
    (by rw [fd_nn h4, fd_nn h5, arrV_size]; omega)
    (fun vm₁ _ i hi => by
      have e : (arrV c0 n0 (fun j => Value.int (h.1 s0 j))).slots.getD (sp.toNatClampNeg + i) .null = .int (h.1 s0 (sp.toNatClampNeg + i)) := by
        rw [Array.getD_eq_getD_getElem?, arrV_read _ _ (by omega)]
        rfl
      rw [e]
      exact ⟨rfl, trivial⟩)
    (g := F0 mm pc ls (.int n :: .int dp :: .ref (ad d0) :: .int sp :: .ref (ad s0) :: r.map (fd_cv ad))) rfl (by rw [hml]; exact hl.2.1) (rest := r.map (fd_cv ad)) rfl (by rw [hb]; exact hd) (by omega) (by
      have := fd_catsum (ad := ad) hrl
      have e9 : nativeFrameWords "java/lang/System" "arraycopy" 5 = 7 := by decide
      rw [e9]
      show 2 * 0 + _ + _ ≤ _
      omega)
  have e1 : copied (arrV c0 n0 (fun j => .int (h.1 s0 j))) (arrV c1 n1 (fun j => .int (h.1 d0 j))) sp dp n = arrV c1 n1 (fun j => .int (va_cpy (h.1 s0) (h.1 d0) sp.toNatClampNeg dp.toNatClampNeg n.toNatClampNeg j)) := va_copied (fun z => .int z) c0 c1 (h.1 s0) (h.1 d0) h6
  rw [e1] at X' step
  have hpl := fd_at_lt hp1
  have hlt : ad d0 < H.size := (Array.getElem?_eq_some_iff.mp hc1).1
  have hBp : B ≤ ad d0 := by rw [had d0 (Nat.lt_trans hpl hr.2.1)]; exact Nat.le_add_right _ _
  have oq : ∀ (y : Cell) (q : Nat), q ≠ ad d0 → (H.setIfInBounds (ad d0) y)[q]? = H[q]? := fun y q hq => by simp [Array.getElem?_setIfInBounds, Ne.symm hq]
  obtain ⟨t, a1, b1⟩ := kk hX (H.setIfInBounds (ad d0) (arrV c1 n1 (fun j => .int (va_cpy (h.1 s0) (h.1 d0) sp.toNatClampNeg dp.toNatClampNeg n.toNatClampNeg j)))) _ ls hl
    (hr.at had rfl (by simp) (oq _) hpl (fun q c j hne => by simp [fd_val, fd_wa, hne]) (fun q hne => by funext j; simp [fd_wa, hne]) (fun sh hsh => by
      cases hp1.symm.trans hsh
      refine ⟨c1, hA1, ?_⟩
      simp [Array.getElem?_setIfInBounds, hlt, fd_wa]))
    ⟨by simp; exact hS.1, fun q g1 g2 => by
      rw [oq _ q (fun e => g2 (by rw [e]; exact hBp))]
      exact hS.2.1 q g1 g2, fun q hq => by
      rcases List.mem_append.mp hq with z | z
      · exact hS.2.2 q z
      · obtain ⟨y, -, hy⟩ := List.mem_map.mp z
        rw [← hy]
        exact hBp⟩ h1 h2 _ (by rw [← hT]; rfl) X'
  exact ⟨t, step t a1, b1⟩
end ROWS
