/-! EVERY STEP of the pure machine is one of the machine's -/
theorem fd_if {α : Type} {c : Prop} [Decidable c] {x : Option α} {a : α} (h : (if c then x else none) = some a) : c ∧ x = some a := by
  split at h
  · rename_i hc; exact ⟨hc, h⟩
  · cases h
theorem fd_jmp_to {pc t : Nat} {off : Int} (h : fd_jmp pc off = some t) : (pc : Int) + off = (t : Int) := by
  unfold fd_jmp at h
  obtain ⟨h1, h2⟩ := fd_if h
  cases h2
  omega
def fd_RA (ad : Nat → Nat) (m pc : Nat) (rv : Option Value) (vs : List Value) : Prop :=
  (decode (fd_code m) pc = .ok (.ireturn, 1) ∧ ∃ v ty, rv = some (.int v) ∧ vs = [.int v] ∧ fd_ret m = some ty ∧ narrow ty (.int v) = .int v) ∨
  (decode (fd_code m) pc = .ok (.return_, 1) ∧ rv = none ∧ vs = [] ∧ fd_ret m = none) ∨
  (decode (fd_code m) pc = .ok (.areturn, 1) ∧ ∃ q n, rv = some (.ref q) ∧ vs = [.ref (ad q)] ∧ fd_ret m = some (.object n))
def fd_End (p : Program) (l : Launch) (e : Env) (R : Room) (s : State) (mm : MethodId) (args : Array Value) (below : List Frame) (meth : Method) (c : Code) (Q : State → Prop) (B : Nat) (ad : Nat → Nat) (D : va_G) (m : Nat) (rv : Option Value) (k : fd_Sk) (h : fd_Hp) : Prop :=
  ∀ (pc : Nat) (H : Heap) (locs : List Loc) (ls : Array Slot) (vs : List Value), fd_RA ad m pc rv vs → fd_Rp B ad D s k h H → va_S (fun q => B ≤ q) s.heap H locs → W p l e R s mm args below meth c H locs (fd_mc m) (fd_ms m) Q (F0 mm pc ls vs)
/-- the script stays -/
def fd_k2 (a : fd_Act) (m : Nat) (x : Nat × (Nat → Int32)) : Prop := match a with
  | .inl r => r.2.1.2 = x
  | .inr (.inl f) => f.2.2.2.2.2.1.2 = x ∧ f.1 = m
  | .inr (.inr (g, q)) => g.2.2.2.2.2.1.2 = x ∧ ∀ r : fd_Rs, (q r).2.2.2.2.2.1.2 = r.2.1.2 ∧ (q r).1 = m
section INV
variable {m pc : Nat} {lo : fd_Lc} {st r : List Value} {cn : Nat × Nat} {k : fd_Sk} {h : fd_Hp} {a : fd_Act}
theorem fd_go_inv {pc' : Nat} {lo' : fd_Lc} {st' : List Value} {k' : fd_Sk} {h' : fd_Hp} (e : fd_go m cn pc' lo' st' k' h' = some a) : a = .inr (.inl (m, pc', lo', st', cn, (k', h'))) := (Option.some.inj e).symm
theorem fd_ii_inv {f : Int32 → Int32 → Option Int32} (e : fd_ii m pc lo st cn k h f = some a) : ∃ x y z r, st = .int y :: .int x :: r ∧ f x y = some z ∧ a = .inr (.inl (m, pc + 1, lo, .int z :: r, cn, (k, h))) := by
  unfold fd_ii at e
  split at e
  · rename_i y x r
    obtain ⟨z, h1, h2⟩ := Option.bind_eq_some_iff.mp e
    exact ⟨x, y, z, r, rfl, h1, fd_go_inv h2⟩
  · cases e
theorem fd_ll_inv {f : Int64 → Int64 → Int64} (e : fd_ll m pc lo st cn k h f = some a) : ∃ x y r, st = .long y :: .long x :: r ∧ a = .inr (.inl (m, pc + 1, lo, .long (f x y) :: r, cn, (k, h))) := by
  unfold fd_ll at e
  split at e
  · rename_i y x r
    exact ⟨x, y, r, rfl, fd_go_inv e⟩
  · cases e
theorem fd_li_inv {i len : Nat} (e : fd_li m pc lo st cn k h i len = some a) : ∃ x, lo[i]? = some (some (.int x)) ∧ a = .inr (.inl (m, pc + len, lo, .int x :: st, cn, (k, h))) := by
  unfold fd_li at e
  split at e
  · rename_i x hx; exact ⟨x, hx, fd_go_inv e⟩
  · cases e
theorem fd_la_inv {i len : Nat} (e : fd_la m pc lo st cn k h i len = some a) : ∃ x, lo[i]? = some (some (.ref x)) ∧ a = .inr (.inl (m, pc + len, lo, .ref x :: st, cn, (k, h))) := by
  unfold fd_la at e
  split at e
  · rename_i x hx; exact ⟨x, hx, fd_go_inv e⟩
  · cases e
theorem fd_si_inv {i len : Nat} (e : fd_si m pc lo st cn k h i len = some a) : ∃ x r lo', st = .int x :: r ∧ fd_set lo i (.int x) = some lo' ∧ a = .inr (.inl (m, pc + len, lo', r, cn, (k, h))) := by
  unfold fd_si at e
  split at e
  · rename_i x r
    obtain ⟨z, h1, h2⟩ := Option.bind_eq_some_iff.mp e
    exact ⟨x, r, z, rfl, h1, fd_go_inv h2⟩
  · cases e
theorem fd_sa_inv {i len : Nat} (e : fd_sa m pc lo st cn k h i len = some a) : ∃ x r lo', st = .ref x :: r ∧ fd_set lo i (.ref x) = some lo' ∧ a = .inr (.inl (m, pc + len, lo', r, cn, (k, h))) := by
  unfold fd_sa at e
  split at e
  · rename_i x r
    obtain ⟨z, h1, h2⟩ := Option.bind_eq_some_iff.mp e
    exact ⟨x, r, z, rfl, h1, fd_go_inv h2⟩
  · cases e
theorem fd_br_inv {b : Bool} {off : Int} (e : fd_br m pc lo cn k h b off r = some a) : ∃ t : Nat, (pc : Int) + off = (t : Int) ∧ a = .inr (.inl (m, if b then t else pc + 3, lo, r, cn, (k, h))) := by
  unfold fd_br at e
  obtain ⟨z, h1, h2⟩ := Option.bind_eq_some_iff.mp e
  exact ⟨z, fd_jmp_to h1, fd_go_inv h2⟩
theorem fd_enter_inv {cal : Nat} {as : List Value} (e : fd_enter m pc lo cn k h cal as r = some a) : (r.length ≤ 4 ∧ fd_rk cal < fd_rk m ∧ cn.1 + fd_mc cal ≤ fd_mc m ∧ cn.2 + fd_ms cal ≤ fd_ms m ∧ cal < 201 ∧ (fd_ent as 0).length ≤ fd_ml cal) ∧ a = .inr (.inr ((cal, 0, fd_ent as (fd_ml cal), [], (0, 0), (k, h)), fun z => (m, pc + 3, lo, z.1.toList ++ r, (cn.1 + fd_mc cal, cn.2 + fd_ms cal), z.2))) := by
  unfold fd_enter at e
  obtain ⟨h1, h2⟩ := fd_if e
  exact ⟨h1, (Option.some.inj h2).symm⟩
theorem fd_enter_k2 {cal : Nat} {as : List Value} (e : fd_enter m pc lo cn k h cal as r = some a) : fd_k2 a m k.2 := by
  rw [(fd_enter_inv e).2]
  exact ⟨rfl, fun _ => ⟨rfl, rfl⟩⟩
theorem fd_go_k2 {pc' : Nat} {lo' : fd_Lc} {st' : List Value} {k' : fd_Sk} {h' : fd_Hp} (e : fd_go m cn pc' lo' st' k' h' = some a) : fd_k2 a m k'.2 := by
  rw [fd_go_inv e]; exact ⟨rfl, rfl⟩
theorem fd_put_k2 {c p j : Nat} {v : Value} {q : fd_Sk × fd_Hp} (e : fd_put k h c p j v = some q) : q.1.2 = k.2 := by
  unfold fd_put at e
  split at e <;> first | (cases e; rfl) | cases e
theorem fd_virt_k2 {i : Nat} (e : fd_virt m pc lo st cn k h i = some a) : fd_k2 a m k.2 := by
  unfold fd_virt at e
  split at e
  · split at e
    · split at e
      · exact fd_enter_k2 (fd_if e).2
      · cases e
    · split at e
      · split at e
        · exact fd_go_k2 (fd_if e).2
        · cases e
      · split at e
        · split at e
          · exact fd_go_k2 (fd_if e).2
          · cases e
        · cases e
  · cases e
theorem fd_spec_k2 {i : Nat} (e : fd_spec m pc lo st cn k h i = some a) : fd_k2 a m k.2 := by
  unfold fd_spec at e
  split at e
  · split at e
    · split at e
      · exact fd_enter_k2 (fd_if e).2
      · cases e
    · split at e
      · split at e
        · exact fd_go_k2 (fd_if e).2
        · cases e
      · cases e
  · cases e
theorem fd_stat_k2 {i : Nat} (e : fd_stat m pc lo st cn k h i = some a) : fd_k2 a m k.2 := by
  unfold fd_stat at e
  split at e
  · split at e
    · exact fd_enter_k2 (fd_if e).2
    · split at e
      · split at e
        · exact fd_go_k2 (fd_if e).2
        · cases e
      · split at e
        · split at e
          · exact fd_go_k2 (fd_if e).2
          · cases e
        · split at e
          · split at e
            · exact fd_go_k2 (fd_if e).2
            · cases e
          · split at e
            · split at e
              · split at e
                · exact fd_go_k2 (fd_if e).2
                · cases e
              · cases e
            · cases e
  · cases e
theorem fd_swt_k2 {d x y : Int} {o : Array Int} (e : fd_swt m pc lo st cn k h d x y o = some a) : fd_k2 a m k.2 := by
  unfold fd_swt at e
  split at e
  · split at e
    · obtain ⟨z, h1, h2⟩ := Option.bind_eq_some_iff.mp e; exact fd_go_k2 h2
    · split at e
      · obtain ⟨z, h1, h2⟩ := Option.bind_eq_some_iff.mp e; exact fd_go_k2 h2
      · cases e
  · cases e
theorem fd_get_k2 {i : Nat} (e : fd_get m pc lo st cn k h i = some a) : fd_k2 a m k.2 := by
  unfold fd_get at e
  split at e
  · exact fd_go_k2 (fd_if e).2
  · cases e
theorem fd_putf_k2 {i : Nat} (e : fd_putf m pc lo st cn k h i = some a) : fd_k2 a m k.2 := by
  unfold fd_putf at e
  split at e
  · obtain ⟨z, h1, h2⟩ := Option.bind_eq_some_iff.mp (fd_if e).2
    rw [← fd_put_k2 h1]
    exact fd_go_k2 h2
  · cases e
theorem fd_ald_k2 (e : fd_ald m pc lo st cn k h = some a) : fd_k2 a m k.2 := by
  unfold fd_ald at e
  split at e
  · split at e
    · exact fd_go_k2 (fd_if e).2
    · cases e
    · split at e
      · exact fd_go_k2 (fd_if e).2
      · cases e
  · cases e
theorem fd_ast_k2 (e : fd_ast m pc lo st cn k h = some a) : fd_k2 a m k.2 := by
  unfold fd_ast at e
  split at e
  · split at e
    · exact fd_go_k2 (fd_if e).2
    · cases e
  · cases e
theorem fd_zld_k2 (e : fd_zld m pc lo st cn k h = some a) : fd_k2 a m k.2 := by
  unfold fd_zld at e
  split at e
  · split at e
    · exact fd_go_k2 (fd_if e).2
    · cases e
  · cases e
theorem fd_zst_k2 (e : fd_zst m pc lo st cn k h = some a) : fd_k2 a m k.2 := by
  unfold fd_zst at e
  split at e
  · split at e
    · exact fd_go_k2 (fd_if e).2
    · cases e
  · cases e
theorem fd_len_k2 (e : fd_len m pc lo st cn k h = some a) : fd_k2 a m k.2 := by
  unfold fd_len at e
  split at e
  · split at e
    · exact fd_go_k2 e
    · cases e
    · split at e
      · exact fd_go_k2 e
      · cases e
  · cases e
theorem fd_mk_k2 {i : Nat} (e : fd_mk m pc lo st cn k h i = some a) : fd_k2 a m k.2 := by
  unfold fd_mk at e
  split at e
  · have e2 := (fd_if e).2
    cases e2; exact ⟨rfl, rfl⟩
  · cases e
theorem fd_mka_k2 {z : Bool} (e : fd_mka m pc lo st cn k h z = some a) : fd_k2 a m k.2 := by
  unfold fd_mka at e
  split at e
  · have e2 := (fd_if e).2
    cases e2; exact ⟨rfl, rfl⟩
  · cases e
theorem fd_iret_k2 (e : fd_iret m st k h = some a) : fd_k2 a m k.2 := by
  unfold fd_iret at e
  split at e
  · have e2 := (fd_if e).2
    cases e2; rfl
  · cases e
theorem fd_aret_k2 (e : fd_aret m st k h = some a) : fd_k2 a m k.2 := by
  unfold fd_aret at e
  split at e
  · cases e; rfl
  · cases e
theorem fd_vret_k2 (e : fd_vret m st k h = some a) : fd_k2 a m k.2 := by
  unfold fd_vret at e
  split at e
  · cases e; rfl
  · cases e
set_option maxHeartbeats 4000000 in
theorem fd_nx_k2 {i : Instr} {len : Nat} (e : fd_nx m pc lo st cn k h i len = some a) : fd_k2 a m k.2 := by
  unfold fd_nx at e
  split at e
  all_goals first
    | cases e; done
    | exact fd_go_k2 (fd_if e).2
    | (obtain ⟨-, e⟩ := fd_if e; obtain ⟨z, h1, h2⟩ := Option.bind_eq_some_iff.mp e; exact fd_go_k2 h2)
    | (obtain ⟨-, e⟩ := fd_if e; obtain ⟨x, y, z, r, -, -, rfl⟩ := fd_ii_inv e; exact ⟨rfl, rfl⟩)
    | (obtain ⟨-, e⟩ := fd_if e; obtain ⟨x, y, r, -, rfl⟩ := fd_ll_inv e; exact ⟨rfl, rfl⟩)
    | (obtain ⟨-, e⟩ := fd_if e; obtain ⟨x, -, rfl⟩ := fd_li_inv e; exact ⟨rfl, rfl⟩)
    | (obtain ⟨-, e⟩ := fd_if e; obtain ⟨x, -, rfl⟩ := fd_la_inv e; exact ⟨rfl, rfl⟩)
    | (obtain ⟨-, e⟩ := fd_if e; obtain ⟨x, r, lo', -, -, rfl⟩ := fd_si_inv e; exact ⟨rfl, rfl⟩)
    | (obtain ⟨-, e⟩ := fd_if e; obtain ⟨x, r, lo', -, -, rfl⟩ := fd_sa_inv e; exact ⟨rfl, rfl⟩)
    | exact fd_virt_k2 (fd_if e).2
    | exact fd_spec_k2 (fd_if e).2
    | exact fd_stat_k2 (fd_if e).2
    | (obtain ⟨-, e⟩ := fd_if e; split at e <;> first | (cases e; done) | exact fd_go_k2 e | exact fd_go_k2 (fd_if e).2 | (obtain ⟨z, h1, h2⟩ := Option.bind_eq_some_iff.mp e; exact fd_go_k2 h2) | (obtain ⟨t, -, rfl⟩ := fd_br_inv e; exact ⟨rfl, rfl⟩))
    | exact fd_swt_k2 e
    | exact fd_get_k2 (fd_if e).2
    | exact fd_putf_k2 (fd_if e).2
    | exact fd_ald_k2 (fd_if e).2
    | exact fd_ast_k2 (fd_if e).2
    | exact fd_zld_k2 (fd_if e).2
    | exact fd_zst_k2 (fd_if e).2
    | exact fd_len_k2 (fd_if e).2
    | exact fd_mk_k2 (fd_if e).2
    | exact fd_iret_k2 (fd_if e).2
    | exact fd_aret_k2 (fd_if e).2
    | exact fd_vret_k2 (fd_if e).2
    | (obtain ⟨-, e⟩ := fd_if e; split at e <;> first | (cases e; done) | exact fd_mka_k2 e)
theorem fd_ev_k2 : ∀ (n : Nat) (f : fd_Fr) (r : fd_Rs), fd_ev n f = some r → r.2.1.2 = f.2.2.2.2.2.1.2 := by
  intro n
  induction n with
  | zero => intro f r e; cases e
  | succ n ih =>
    intro f r e
    obtain ⟨m, pc, lo, st, cn, k, h⟩ := f
    change fd_stp (fd_ev n) _ = _ at e
    unfold fd_stp at e
    cases hn : fd_nxt (m, pc, lo, st, cn, (k, h)) with
    | none => rw [hn] at e; cases e
    | some a =>
      rw [hn] at e
      have hk : fd_k2 a m k.2 := by
        unfold fd_nxt at hn
        dsimp only at hn
        split at hn
        · exact fd_nx_k2 hn
        · cases hn
      rcases a with x | x | ⟨g, q⟩
      · cases e; exact hk
      · exact (ih _ _ e).trans hk.1
      · dsimp only at e
        cases hg : fd_ev n g with
        | none => rw [hg] at e; cases e
        | some y =>
          rw [hg] at e
          exact (ih _ _ e).trans ((hk.2 y).1.trans ((ih _ _ hg).trans hk.1))
end INV
