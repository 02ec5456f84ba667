/-! THE LAW'S START, out of what the pure machine says of the law -/
def R_law : String := "FleetDelegatesLaw"
def lw_Q (_ : Array Value) (s : State) (o : Outcome) (t : State) : Prop := o = .returned (some (.int 1)) ∧ Framed s o t [] 107 2123
def lw_Z (below : List Frame) (a : Array Value) (s : State) : State → Prop := fun t => ∃ o, t.status = .running ∧ Ended t below o ∧ lw_Q a s o t
/-- the law's own end, with 1 on the stack, nothing written that was there before, its room as the claim has it -/
theorem lw_ret {p : Program} {l : Launch} {e : Env} {s : State} {m : MethodId} {below : List Frame} {meth : Method} {c : Code} {b : Nat} (hx : p.tables.exec = Jvm.exec) (hb : c.code = code) (hr : meth.sig.returnType = ret) (hlocks : meth.locks = false) {pc : Nat} {H : Heap} {ls : Array Slot} (hdg : decode code pc = .ok (.ireturn, 1)) : W p l e room_1 s m #[Value.ref b] below meth c H [] 107 2123 (lw_Z below #[Value.ref b] s) (F0 m pc ls [.int 1]) := by
  intro T hT X
  obtain ⟨fs, hret, hrun, hended, hW, hframe⟩ := X.leave (v := some (.int 1)) (hlocks := hlocks) (fun h => by rw [hr] at h; cases h)
  have hmeth' : T.vm.method? m = some meth := X.method'
  refine ⟨T.setFrames fs, ?_, .returned (some (.int 1)), hrun, hended, rfl, ⟨_, rfl⟩, hW, hframe⟩
  jvm_step X.here [X.here.top, hx, hb, hdg, hmeth', hr, ret, narrow_b1]
  (try refine ⟨rfl, ?_⟩); (try refine ⟨rfl, ?_⟩)
  first | (intro acts; rw [hret _ acts rfl rfl rfl]) | rw [hret _ _ rfl rfl rfl]
  exact Steps.refl _
def lw_At (p : Program) (s : State) (m : MethodId) (meth : Method) (c : Code) (b L : Nat) (xs : Nat → Int32) : Prop :=
  p.tables.exec = Jvm.exec ∧ c.code = code ∧ meth.sig.returnType = ret ∧ c.maxLocals = 4 ∧ s.vm.findClass R_law = some m.cls ∧ (∀ w ∈ lw_tbl, w.before #[Value.ref b] s = true) ∧ va_X b L xs s s.heap ∧ b < s.heap.size ∧ meth.locks = false ∧ (Jvm.Cond.and given_1 narrow_1).before #[Value.ref b] s = true
/-- the pure start -/
def fd_k0 (X : Nat × (Nat → Int32)) : fd_Sk := (([], fun _ _ => 0), X)
def fd_h0 : fd_Hp := (fun _ _ => 0, fun _ => 0)
def fd_claim (X : Nat × (Nat → Int32)) : Prop := ∃ k' h', fd_EvF (201, 0, [some (.ref 1003), none, none, none], [], (0, 0), (fd_k0 X, fd_h0)) = some (some (.int 1), (k', h'))
abbrev fd_flat : List Jvm.Cond := flatC (Jvm.Cond.and given_1 narrow_1)
def fd_stm (i : Nat) : Term := Term.string RX7 (fd_spl.getD i (0, "")).1
theorem fd_fl_old : ∀ q ∈ ([("FleetDelegates", "MOST_TOLD", [7, 3, 100, 16777215]), ("FleetDelegates$Batteries", "STEP_X", [1, 0, -1, 0]), ("FleetDelegates$Batteries", "STEP_Y", [0, 1, 0, -1])] : List (String × String × List Int32)), (Cond.arrayOf (.static q.1 q.2.1 "[I") .int ∈ fd_flat ∧ Cond.eq (.length (.static q.1 q.2.1 "[I")) (.int 4) ∈ fd_flat ∧ (∀ j, j < 4 → Cond.eq (.elem (.static q.1 q.2.1 "[I") (.int (Int32.ofNat j))) (.int (fd_tab q.2.2 j)) ∈ fd_flat) ∧ Cond.laysStatic q.1 q.2.1 "[I" ∈ lw_tbl ∧ Cond.initialized q.1 ∈ lw_tbl) := by decide +kernel
theorem fd_fl_s1 : ∀ i, i < 8 → (Cond.exactly (fd_stm i) "java/lang/String" ∈ fd_flat ∧ Cond.eq (.field (fd_stm i) "java/lang/String" "coder" "B") (.int 0) ∈ fd_flat ∧ Cond.arrayOf (.field (fd_stm i) "java/lang/String" "value" "[B") .byte ∈ fd_flat ∧ Cond.eq (.length (.field (fd_stm i) "java/lang/String" "value" "[B")) (.int (Int32.ofNat (fd_lens.getD i 0))) ∈ fd_flat ∧ fd_lens.getD i 0 < 2 ^ 31) := by decide +kernel
theorem fd_fl_s2 : ∀ i, i < 8 → ∀ j, j < fd_lens.getD i 0 → Cond.eq (.elem (.field (fd_stm i) "java/lang/String" "value" "[B") (.int (Int32.ofNat j))) (.int ((fd_txt.getD i []).getD j 0)) ∈ fd_flat := by decide +kernel
theorem fd_fl_s3 : ∀ i, i < 8 → ∀ j, j < 8 → i ≠ j → (Cond.not (Cond.eq (fd_stm i) (fd_stm j)) ∈ fd_flat ∨ Cond.not (Cond.eq (fd_stm j) (fd_stm i)) ∈ fd_flat) := by decide +kernel
theorem fd_fl_s4 : ∀ i, i < 8 → Cond.stringRef RX7 (fd_spl.getD i (0, "")).1 (fd_spl.getD i (0, "")).2 ∈ lw_tbl := by decide +kernel
theorem fd_fl_z : Cond.eq (.static "java/lang/String" "COMPACT_STRINGS" "Z") (.int 1) ∈ fd_flat ∧ Cond.laysStatic "java/lang/String" "COMPACT_STRINGS" "Z" ∈ lw_tbl ∧ Cond.initialized "java/lang/String" ∈ lw_tbl ∧ Cond.isRef (.static "jdk/internal/util/Preconditions" "SIOOBE_FORMATTER" "Ljava/util/function/BiFunction;") ∈ fd_flat ∧ Cond.laysStatic "jdk/internal/util/Preconditions" "SIOOBE_FORMATTER" "Ljava/util/function/BiFunction;" ∈ lw_tbl ∧ Cond.initialized "jdk/internal/util/Preconditions" ∈ lw_tbl := by decide +kernel
theorem fd_old_of {args : Array Value} {s : State} {A : Nat → Prop} (hs : ∀ c ∈ fd_flat, c.before args s = true) (hts : ∀ w ∈ lw_tbl, w.before args s = true) (hA : ∀ a : Nat, a < s.heap.size → ¬ A a) {C n : String} {f : List Int32} (h : Cond.arrayOf (.static C n "[I") .int ∈ fd_flat ∧ Cond.eq (.length (.static C n "[I")) (.int 4) ∈ fd_flat ∧ (∀ j, j < 4 → Cond.eq (.elem (.static C n "[I") (.int (Int32.ofNat j))) (.int (fd_tab f j)) ∈ fd_flat) ∧ Cond.laysStatic C n "[I" ∈ lw_tbl ∧ Cond.initialized C ∈ lw_tbl) :
    ∃ t : Nat, va_Z C n "[I" (.ref t) A s s.heap ∧ va_T .int t 4 (fun j => .int (fd_tab f j)) A s s.heap := by
  obtain ⟨h1, h2, h3, h4, h5⟩ := h
  obtain ⟨t, ht, hT⟩ := va_Tof (N := 4) (f := fun j => .int (fd_tab f j)) (by decide) (hs _ h1) (va_eqt (hs _ h2)) (fun j hj => va_eqt (hs _ (h3 j hj))) hA
  exact ⟨t, va_Zof (hts _ h4) (hts _ h5) ht hA, hT⟩
theorem fd_known {args : Array Value} {s : State} (hts : ∀ w ∈ fd_tbl, w.before args s = true) : ∃ D : va_G, va_K D vwCl [] s := by
  have h : ∀ c : Nat, ∃ q : ClassId × (Nat → Nat), c < 11 → u_Kn s (fd_cn c) (fd_T c) (fd_nf c) q.1 q.2 := by
    intro c
    by_cases hc : c < 11
    · obtain ⟨cC, iS, hk⟩ := u_known (n := fd_nf c) hts (fd_hin c hc) (hts _ (fd_tbl_in (fd_tb_cls c hc).1 rfl))
      exact ⟨(cC, iS), fun _ => hk⟩
    · exact ⟨(0, fun _ => 0), fun z => absurd z hc⟩
  obtain ⟨g, hg⟩ := Classical.axiomOfChoice h
  refine ⟨(fun c => (g c).1, fun c => (g c).2), fun c q hq => ?_, fun k q hk => by simp at hk⟩
  have hc : c < 11 := by
    have := (List.getElem?_eq_some_iff.mp hq).1
    exact this
  cases (fd_vw c hc).symm.trans hq
  exact hg c hc
set_option maxHeartbeats 4000000 in
theorem fd_start {p : Program} {e : Env} {s : State} {m : MethodId} {below : List Frame} {meth : Method} {c : Code} (l : Launch) {b L : Nat} {xs : Nat → Int32} (C0 : lw_At p s m meth c b L xs) (hcl : fd_claim (L, xs)) : W p l e room_1 s m #[Value.ref b] below meth c s.heap [] 0 0 (lw_Z below #[Value.ref b] s) (entryFrame m ([Value.ref b] : List Value).toArray 4) := by
  obtain ⟨hx, hb, hr, hml, hown, hts, hX, hbl, hlocks, hgv⟩ := C0
  have hs := flat_of_before _ hgv
  have htg : ∀ w ∈ fd_tbl, w.before #[Value.ref b] s = true := fun w hw => hts w (List.mem_filter.mp hw).1
  have hA : ∀ a : Nat, a < s.heap.size → ¬ (fun q : Nat => s.heap.size ≤ q) a := fun a h1 h2 => absurd h1 (Nat.not_lt.mpr h2)
  obtain ⟨t0, z0, y0⟩ := fd_old_of hs hts hA (fd_fl_old ("FleetDelegates", "MOST_TOLD", [7, 3, 100, 16777215]) (by simp))
  obtain ⟨t1, z1, y1⟩ := fd_old_of hs hts hA (fd_fl_old ("FleetDelegates$Batteries", "STEP_X", [1, 0, -1, 0]) (by simp))
  obtain ⟨t2, z2, y2⟩ := fd_old_of hs hts hA (fd_fl_old ("FleetDelegates$Batteries", "STEP_Y", [0, 1, 0, -1]) (by simp))
  obtain ⟨adK, adV, hvS, hvK⟩ := vk_Sof (N := 8) (tm := fd_stm) (len := fd_lens) (byt := fd_txt) (A := fun q : Nat => s.heap.size ≤ q) (fun i hi => (fd_fl_s1 i hi).2.2.2.2) (fun i hi => hs _ (fd_fl_s1 i hi).1) (fun i hi => hs _ (fd_fl_s1 i hi).2.1) (fun i hi => hs _ (fd_fl_s1 i hi).2.2.1) (fun i hi => hs _ (fd_fl_s1 i hi).2.2.2.1) (fun i hi j hj => hs _ (fd_fl_s2 i hi j hj)) (fun i j hi hj hne => (fd_fl_s3 i hi j hj hne).elim (fun z => Or.inl (hs _ z)) (fun z => Or.inr (hs _ z))) hA
  obtain ⟨D, hK⟩ := fd_known htg
  obtain ⟨k', h', hev⟩ := hcl
  obtain ⟨n, hev⟩ := fd_EvF_ex hev
  obtain ⟨ad, had, e0, e1, e2, e3, e4⟩ : ∃ ad : Nat → Nat, (∀ q, q < 1000 → ad q = s.heap.size + q) ∧ ad 1000 = t0 ∧ ad 1001 = t1 ∧ ad 1002 = t2 ∧ ad 1003 = b ∧ ∀ i, i < 8 → ad (1010 + i) = adK i := by
    refine ⟨fun q => if q < 1000 then s.heap.size + q else if q = 1000 then t0 else if q = 1001 then t1 else if q = 1002 then t2 else if q = 1003 then b else adK (q - 1010), fun q hq => if_pos hq, by simp, by simp, by simp, by simp, fun i hi => ?_⟩
    have h1 : ¬ 1010 + i < 1000 := by omega
    have h2 : ¬ 1010 + i = 1000 := by omega
    have h3 : ¬ 1010 + i = 1001 := by omega
    have h4 : ¬ 1010 + i = 1002 := by omega
    have h5 : ¬ 1010 + i = 1003 := by omega
    simp only [h1, h2, h3, h4, h5, if_false]
    exact congrArg adK (by omega : 1010 + i - 1010 = i)
  have hT3 : va_T .int b L (fun j => .int (xs j)) (fun q : Nat => s.heap.size ≤ q) s s.heap := by
    obtain ⟨scr, q1, q2, q3, q4, q5⟩ := hX
    exact ⟨scr, q1, q2, q3, Nat.le_of_eq q4.symm, (by rw [q4]), q5, hA b hbl⟩
  have hvS2 : vk_S 8 fd_lens fd_txt (fun i => ad (1010 + i)) adV (fun q : Nat => s.heap.size ≤ q) s s.heap := by
    refine ⟨fun i hi => ?_, fun i j hi hj hij => hvS.2 i j hi hj (by dsimp only at hij; rw [e4 i hi, e4 j hj] at hij; exact hij)⟩
    dsimp only
    rw [e4 i hi]
    exact hvS.1 i hi
  have hstr : fd_strs ad s := fun i hi => by
    rw [e4 i hi]
    exact vk_R.of (hts _ (fd_fl_s4 i hi)) (hvK i hi) |>.same rfl
  have hnest : fd_nest s := by
    intro c hc q hq hk
    have hw := fd_tb_lnk c hc q hq
    have e9 : fd_lword c q = .methodLinkNest (fd_cn c) q.1 (fd_name q.2.2.1) RX9 := by
      unfold fd_lword
      rw [if_neg (by omega), if_pos (by omega)]
    rw [e9] at hw
    exact va_Nw.of rfl (hts _ (List.mem_of_getElem? hw))
  have hWC : fd_WC ad adV (L, xs) (fun q : Nat => s.heap.size ≤ q) s s.heap := by
    refine ⟨⟨by rw [e0]; exact z0, by rw [e0]; exact y0⟩, ⟨by rw [e1]; exact z1, by rw [e1]; exact y1⟩, ⟨by rw [e2]; exact z2, by rw [e2]; exact y2⟩, by rw [e3]; exact hT3, ?_, ?_, hvS2, hstr, hnest⟩
    · exact va_Zof (hts _ fd_fl_z.2.1) (hts _ fd_fl_z.2.2.1) (va_eqi (hs _ fd_fl_z.1)) hA
    · exact va_Zqof (hts _ fd_fl_z.2.2.2.2.1) (hts _ fd_fl_z.2.2.2.2.2) (hs _ fd_fl_z.2.2.2.1) hA
  have cx : fd_Cx p e room_1 s m #[Value.ref b] meth c s.heap.size ad adV D (L, xs) 201 :=
    ⟨hx, hb, hml, hown, htg, fun z => absurd z (by decide), by decide, by decide, rfl, rfl, Nat.le_refl _, hWC, had⟩
  have hE : fd_End p l e room_1 s m #[Value.ref b] below meth c (lw_Z below #[Value.ref b] s) s.heap.size ad D 201 (some (.int 1)) k' h' := by
    intro pc H locs ls vs hra hRp hS
    rcases hra with ⟨hd, v, ty, q1, rfl, -, -⟩ | ⟨-, q1, -⟩ | ⟨-, q, nm, q1, -⟩
    · cases q1
      exact va_forget (fun q hq => hS.2.2 q hq) (lw_ret hx hb hr hlocks hd)
    · cases q1
    · cases q1
  have key := fd_main l s.heap.size ad adV D (L, xs) had n _ _ _ _ hev p e room_1 s m #[Value.ref b] below meth c _ cx hE
  rw [lg_entry_eq]
  have hRp : fd_Rp s.heap.size ad D s (fd_k0 (L, xs)) fd_h0 s.heap := ⟨rfl, (show (0 : Nat) < 1000 by decide), hK, fun p s hp => by simp [fd_at, fd_k0] at hp⟩
  have hLR := fd_LR.entry (ad := ad) (vs := [.ref 1003]) (n := 4) (by decide)
  have e5 : [Value.ref 1003].map (fd_cv ad) = [Value.ref b] := by
    show [Value.ref (ad 1003)] = _
    rw [e3]
  rw [e5] at hLR
  exact key rfl s.heap [] _ hLR hRp va_S.rf (Nat.zero_le _) (Nat.zero_le _)
