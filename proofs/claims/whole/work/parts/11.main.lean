/-! WHAT THE PURE MACHINE SAYS, THE MACHINE DOES -/
theorem fd_nxt_ok {m pc : Nat} {lo : fd_Lc} {st : List Value} {cn : Nat × Nat} {k : fd_Sk} {h : fd_Hp} {a : fd_Act} (hn : fd_nxt (m, pc, lo, st, cn, (k, h)) = some a) : ∃ i len, decode (fd_code m) pc = .ok (i, len) ∧ fd_nx m pc lo st cn k h i len = some a := by
  unfold fd_nxt at hn
  dsimp only at hn
  split at hn
  · rename_i i len hd
    exact ⟨i, len, hd, hn⟩
  · cases hn
def fd_Main (l : Launch) (B : Nat) (ad adV : Nat → Nat) (D : va_G) (X : Nat × (Nat → Int32)) (n : Nat) : Prop := ∀ (f : fd_Fr) (rv : Option Value) (k' : fd_Sk) (h' : fd_Hp), fd_ev n f = some (rv, (k', h')) → ∀ (p : Program) (e : Env) (R : Room) (s : State) (mm : MethodId) (args : Array Value) (below : List Frame) (meth : Method) (c : Code) (Q : State → Prop), fd_Cx p e R s mm args meth c B ad adV D X f.1 → fd_End p l e R s mm args below meth c Q B ad D f.1 rv k' h' → fd_KF p l e R s mm args below meth c Q B ad D X f
theorem fd_met_of {l : Launch} {B : Nat} {ad adV : Nat → Nat} {D : va_G} {X : Nat × (Nat → Int32)} (had : ∀ q, q < 1000 → ad q = B + q) {n : Nat} (ih : fd_Main l B ad adV D X n) {cal : Nat} {as : List Value} {k : fd_Sk} {h : fd_Hp} {rv : Option Value} {k1 : fd_Sk} {h1 : fd_Hp} (hc : cal < 201) (hlen : (fd_ent as 0).length ≤ fd_ml cal) (hX : k.2 = X) (hev : fd_ev n (cal, 0, fd_ent as (fd_ml cal), [], (0, 0), (k, h)) = some (rv, (k1, h1))) : fd_MT l B ad adV D X cal as k h rv k1 h1 := by
  obtain ⟨hini, hmh, hml13, hcls, hpl, hown12⟩ := fd_tb_meth cal hc
  unfold fd_MT
  refine Met.ofW (cc := fd_code cal) (maxL := fd_ml cal) (ret := fd_ret cal) hpl rfl ?_
  intro p e s m args below meth c s₁ Bd hml hv
  obtain ⟨rfl, hB, hC, hRp⟩ := hv
  have hts0 := atoms_spec (ws := fd_ws cal) Bd.pre
  have hlocks := Bd.notSynchronized
  have hr := Bd.returns
  have cx : fd_Cx p e (fd_rm cal) s m (as.map (fd_cv ad)).toArray meth c B ad adV D X cal :=
    ⟨Bd.exec, Bd.bytes, hml, by rw [← hcls]; exact findClass_of_methodNamed Bd.named, fun w hw => hts0 w (List.mem_cons_of_mem _ hw), fun hI => by
      have h1 := (name_of_methodNamed Bd.named Bd.method).1
      rw [h1]
      exact of_decide_eq_true (by simpa [fd_isI] using hI), Nat.le_refl _, Nat.le_refl _, rfl, rfl, hB, hC, had⟩
  rw [lg_entry_eq]
  have key := ih _ rv k1 h1 hev p e (fd_rm cal) s m (as.map (fd_cv ad)).toArray below meth c (MQ below (fd_Qc B ad D rv k1 h1) (as.map (fd_cv ad)).toArray s (fd_mc cal) (fd_ms cal) (fun q => B ≤ q)) cx ?_
  · exact key hX s.heap [] _ (fd_LR.entry hlen) hRp va_S.rf (Nat.zero_le _) (Nat.zero_le _)
  · intro pc H locs ls vs hra hRp' hS
    have hq : ∀ (o : Outcome) (t : State), o = .returned (rv.map (fd_cv ad)) → t.heap = H → s.WarmedH t.vm → fd_Qc B ad D rv k1 h1 (as.map (fd_cv ad)).toArray s o t := by
      intro o t ho ht hW
      exact ⟨⟨ho, by rw [ht]; exact hRp'.moved hW.alike⟩, hS.F ht⟩
    rcases hra with ⟨hd, v, ty, rfl, rfl, hrt, hnar⟩ | ⟨hd, rfl, rfl, hrt⟩ | ⟨hd, q, nm, rfl, rfl, hrt⟩
    · exact W.zret (ty := ty) Bd.exec Bd.bytes (hr.trans hrt) hnar (fun t ht hW => hq _ t rfl ht hW) hS.2.2 hd
    · exact W.vret Bd.exec Bd.bytes (hr.trans hrt) (fun t ht hW => hq _ t rfl ht hW) hS.2.2 hd
    · exact W.aret Bd.exec Bd.bytes (hr.trans hrt) (Or.inl ⟨nm, rfl⟩) (Or.inr ⟨_, rfl⟩) (fun t ht hW => hq _ t rfl ht hW) hS.2.2 hd
theorem fd_main (l : Launch) (B : Nat) (ad adV : Nat → Nat) (D : va_G) (X : Nat × (Nat → Int32)) (had : ∀ q, q < 1000 → ad q = B + q) : ∀ n, fd_Main l B ad adV D X n := by
  intro n
  induction n with
  | zero => intro f rv k' h' hev; cases hev
  | succ n ih =>
    intro f rv k' h' hev p e R s mm args below meth c Q cx hE
    obtain ⟨m, pc, lo, st, cn, k, h⟩ := f
    change fd_stp (fd_ev n) _ = _ at hev
    unfold fd_stp at hev
    cases hn : fd_nxt (m, pc, lo, st, cn, (k, h)) with
    | none => rw [hn] at hev; cases hev
    | some a =>
      rw [hn] at hev
      obtain ⟨i, len, hd, hn⟩ := fd_nxt_ok hn
      have hk2 := fd_nx_k2 hn
      refine fd_snd cx hd hn (fun f' ea => ?_) (fun cal as q ea hc hlen hX => ?_) (fun rv2 k2 h2 ea => ?_)
      · subst ea
        have e1 : f'.1 = m := hk2.2
        exact ih f' rv k' h' hev p e R s mm args below meth c Q (by rw [e1]; exact cx) (by rw [e1]; exact hE)
      · subst ea
        dsimp only at hev
        cases hg : fd_ev n (cal, 0, fd_ent as (fd_ml cal), [], (0, 0), (k, h)) with
        | none => rw [hg] at hev; cases hev
        | some y =>
          rw [hg] at hev
          obtain ⟨rv1, k1, h1⟩ := y
          have e2 := fd_ev_k2 n _ _ hg
          have e1 : (q (rv1, (k1, h1))).1 = m := (hk2.2 _).2
          exact ⟨rv1, k1, h1, fd_met_of had ih hc hlen hX hg, e2, ih _ rv k' h' hev p e R s mm args below meth c Q (by rw [e1]; exact cx) (by rw [e1]; exact hE)⟩
      · subst ea
        cases hev
        exact hE
